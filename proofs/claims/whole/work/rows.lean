section
-- ===== PART A: goes FIRST, ahead of the names: the tables' words, and 'selects' of the private methods out of them =====
/-- a private method of a class that the tables say can be made, by its rows of tables_1 -/
def lw_okq (q : MethodName × Nat) : Prop := (q.1.cls ≠ "java/lang/invoke/MethodHandle" ∧ q.1.cls ≠ "java/lang/invoke/VarHandle") ∧ Cond.instantiable q.1.cls q.2 ∈ tables_1 ∧ Cond.privateMethod q.1 ∈ tables_1 ∧ Cond.instanceMethod q.1 ∈ tables_1
theorem lw_p0 : lw_okq (⟨"EditTree", "hasRoomFor", "(I)Z"⟩, 8) := ⟨⟨by decide +kernel, by decide +kernel⟩, List.mem_of_getElem? (i := 6) (by decide +kernel), List.mem_of_getElem? (i := 96) (by decide +kernel), List.mem_of_getElem? (i := 97) (by decide +kernel)⟩
theorem lw_p1 : lw_okq (⟨"EditTree", "isTreeFull", "()Z"⟩, 8) := ⟨⟨by decide +kernel, by decide +kernel⟩, List.mem_of_getElem? (i := 6) (by decide +kernel), List.mem_of_getElem? (i := 100) (by decide +kernel), List.mem_of_getElem? (i := 101) (by decide +kernel)⟩
theorem lw_p2 : lw_okq (⟨"EditTree", "addInsertion", "(I[CII)V"⟩, 8) := ⟨⟨by decide +kernel, by decide +kernel⟩, List.mem_of_getElem? (i := 6) (by decide +kernel), List.mem_of_getElem? (i := 104) (by decide +kernel), List.mem_of_getElem? (i := 105) (by decide +kernel)⟩
theorem lw_p3 : lw_okq (⟨"EditTree", "addChild", "(II)LEditTree$Node;"⟩, 8) := ⟨⟨by decide +kernel, by decide +kernel⟩, List.mem_of_getElem? (i := 6) (by decide +kernel), List.mem_of_getElem? (i := 108) (by decide +kernel), List.mem_of_getElem? (i := 109) (by decide +kernel)⟩
theorem lw_p4 : lw_okq (⟨"EditTree", "makeCurrent", "(LEditTree$Node;)V"⟩, 8) := ⟨⟨by decide +kernel, by decide +kernel⟩, List.mem_of_getElem? (i := 6) (by decide +kernel), List.mem_of_getElem? (i := 115) (by decide +kernel), List.mem_of_getElem? (i := 116) (by decide +kernel)⟩
theorem lw_p5 : lw_okq (⟨"EditTree", "addDeletion", "(II)V"⟩, 8) := ⟨⟨by decide +kernel, by decide +kernel⟩, List.mem_of_getElem? (i := 6) (by decide +kernel), List.mem_of_getElem? (i := 123) (by decide +kernel), List.mem_of_getElem? (i := 124) (by decide +kernel)⟩
theorem lw_p6 : lw_okq (⟨"EditTree", "find", "(I)LEditTree$Node;"⟩, 8) := ⟨⟨by decide +kernel, by decide +kernel⟩, List.mem_of_getElem? (i := 6) (by decide +kernel), List.mem_of_getElem? (i := 139) (by decide +kernel), List.mem_of_getElem? (i := 140) (by decide +kernel)⟩
theorem lw_p7 : lw_okq (⟨"EditTree", "placeNow", "(LEditTree$Node;)I"⟩, 8) := ⟨⟨by decide +kernel, by decide +kernel⟩, List.mem_of_getElem? (i := 6) (by decide +kernel), List.mem_of_getElem? (i := 159) (by decide +kernel), List.mem_of_getElem? (i := 160) (by decide +kernel)⟩
theorem lw_p8 : lw_okq (⟨"EditTree", "firstConflict", "(LEditTree$Node;)LEditTree$Node;"⟩, 8) := ⟨⟨by decide +kernel, by decide +kernel⟩, List.mem_of_getElem? (i := 6) (by decide +kernel), List.mem_of_getElem? (i := 176) (by decide +kernel), List.mem_of_getElem? (i := 177) (by decide +kernel)⟩
theorem lw_p9 : lw_okq (⟨"EditTree", "marksOn", "(LEditTree$Node;)I"⟩, 8) := ⟨⟨by decide +kernel, by decide +kernel⟩, List.mem_of_getElem? (i := 6) (by decide +kernel), List.mem_of_getElem? (i := 237) (by decide +kernel), List.mem_of_getElem? (i := 238) (by decide +kernel)⟩
theorem lw_p10 : lw_okq (⟨"EditTree", "isForgettable", "(LEditTree$Node;)Z"⟩, 8) := ⟨⟨by decide +kernel, by decide +kernel⟩, List.mem_of_getElem? (i := 6) (by decide +kernel), List.mem_of_getElem? (i := 253) (by decide +kernel), List.mem_of_getElem? (i := 254) (by decide +kernel)⟩
theorem lw_p11 : lw_okq (⟨"EditTree", "takeOut", "(LEditTree$Node;)V"⟩, 8) := ⟨⟨by decide +kernel, by decide +kernel⟩, List.mem_of_getElem? (i := 6) (by decide +kernel), List.mem_of_getElem? (i := 261) (by decide +kernel), List.mem_of_getElem? (i := 262) (by decide +kernel)⟩
theorem lw_p12 : lw_okq (⟨"EditTree", "newestChild", "(LEditTree$Node;)LEditTree$Node;"⟩, 8) := ⟨⟨by decide +kernel, by decide +kernel⟩, List.mem_of_getElem? (i := 6) (by decide +kernel), List.mem_of_getElem? (i := 265) (by decide +kernel), List.mem_of_getElem? (i := 266) (by decide +kernel)⟩
theorem lw_p13 : lw_okq (⟨"EditTreeModel", "grow", "(IIZ)I"⟩, 20) := ⟨⟨by decide +kernel, by decide +kernel⟩, List.mem_of_getElem? (i := 285) (by decide +kernel), List.mem_of_getElem? (i := 369) (by decide +kernel), List.mem_of_getElem? (i := 370) (by decide +kernel)⟩
theorem lw_p14 : lw_okq (⟨"EditTreeModel", "become", "(I)I"⟩, 20) := ⟨⟨by decide +kernel, by decide +kernel⟩, List.mem_of_getElem? (i := 285) (by decide +kernel), List.mem_of_getElem? (i := 373) (by decide +kernel), List.mem_of_getElem? (i := 374) (by decide +kernel)⟩
theorem lw_p15 : lw_okq (⟨"EditTreeModel", "above", "(I)I"⟩, 20) := ⟨⟨by decide +kernel, by decide +kernel⟩, List.mem_of_getElem? (i := 285) (by decide +kernel), List.mem_of_getElem? (i := 377) (by decide +kernel), List.mem_of_getElem? (i := 378) (by decide +kernel)⟩
def lw_privs_1 : List (MethodName × Nat) := [(⟨"EditTree", "hasRoomFor", "(I)Z"⟩, 8), (⟨"EditTree", "isTreeFull", "()Z"⟩, 8), (⟨"EditTree", "addInsertion", "(I[CII)V"⟩, 8), (⟨"EditTree", "addChild", "(II)LEditTree$Node;"⟩, 8), (⟨"EditTree", "makeCurrent", "(LEditTree$Node;)V"⟩, 8), (⟨"EditTree", "addDeletion", "(II)V"⟩, 8), (⟨"EditTree", "find", "(I)LEditTree$Node;"⟩, 8), (⟨"EditTree", "placeNow", "(LEditTree$Node;)I"⟩, 8), (⟨"EditTree", "firstConflict", "(LEditTree$Node;)LEditTree$Node;"⟩, 8), (⟨"EditTree", "marksOn", "(LEditTree$Node;)I"⟩, 8), (⟨"EditTree", "isForgettable", "(LEditTree$Node;)Z"⟩, 8), (⟨"EditTree", "takeOut", "(LEditTree$Node;)V"⟩, 8), (⟨"EditTree", "newestChild", "(LEditTree$Node;)LEditTree$Node;"⟩, 8), (⟨"EditTreeModel", "grow", "(IIZ)I"⟩, 20), (⟨"EditTreeModel", "become", "(I)I"⟩, 20), (⟨"EditTreeModel", "above", "(I)I"⟩, 20)]
theorem lw_r1 : ∀ q ∈ lw_privs_1, lw_okq q := List.forall_mem_cons.mpr ⟨lw_p0, List.forall_mem_cons.mpr ⟨lw_p1, List.forall_mem_cons.mpr ⟨lw_p2, List.forall_mem_cons.mpr ⟨lw_p3, List.forall_mem_cons.mpr ⟨lw_p4, List.forall_mem_cons.mpr ⟨lw_p5, List.forall_mem_cons.mpr ⟨lw_p6, List.forall_mem_cons.mpr ⟨lw_p7, List.forall_mem_cons.mpr ⟨lw_p8, List.forall_mem_cons.mpr ⟨lw_p9, List.forall_mem_cons.mpr ⟨lw_p10, List.forall_mem_cons.mpr ⟨lw_p11, List.forall_mem_cons.mpr ⟨lw_p12, List.forall_mem_cons.mpr ⟨lw_p13, List.forall_mem_cons.mpr ⟨lw_p14, List.forall_mem_cons.mpr ⟨lw_p15, fun _ h => absurd h List.not_mem_nil⟩⟩⟩⟩⟩⟩⟩⟩⟩⟩⟩⟩⟩⟩⟩⟩
theorem lw_p16 : lw_okq (⟨"EditTreeModel", "at", "(I)I"⟩, 20) := ⟨⟨by decide +kernel, by decide +kernel⟩, List.mem_of_getElem? (i := 285) (by decide +kernel), List.mem_of_getElem? (i := 381) (by decide +kernel), List.mem_of_getElem? (i := 382) (by decide +kernel)⟩
theorem lw_p17 : lw_okq (⟨"EditTreeModel", "cut", "(II)V"⟩, 20) := ⟨⟨by decide +kernel, by decide +kernel⟩, List.mem_of_getElem? (i := 285) (by decide +kernel), List.mem_of_getElem? (i := 389) (by decide +kernel), List.mem_of_getElem? (i := 390) (by decide +kernel)⟩
theorem lw_p18 : lw_okq (⟨"EditTreeModel", "jumpTo", "(I)I"⟩, 20) := ⟨⟨by decide +kernel, by decide +kernel⟩, List.mem_of_getElem? (i := 285) (by decide +kernel), List.mem_of_getElem? (i := 405) (by decide +kernel), List.mem_of_getElem? (i := 406) (by decide +kernel)⟩
theorem lw_p19 : lw_okq (⟨"EditTreeModel", "far", "(II)I"⟩, 20) := ⟨⟨by decide +kernel, by decide +kernel⟩, List.mem_of_getElem? (i := 285) (by decide +kernel), List.mem_of_getElem? (i := 409) (by decide +kernel), List.mem_of_getElem? (i := 410) (by decide +kernel)⟩
theorem lw_p20 : lw_okq (⟨"EditTreeModel", "depth", "(I)I"⟩, 20) := ⟨⟨by decide +kernel, by decide +kernel⟩, List.mem_of_getElem? (i := 285) (by decide +kernel), List.mem_of_getElem? (i := 413) (by decide +kernel), List.mem_of_getElem? (i := 414) (by decide +kernel)⟩
theorem lw_p21 : lw_okq (⟨"EditTreeModel", "common", "(II)I"⟩, 20) := ⟨⟨by decide +kernel, by decide +kernel⟩, List.mem_of_getElem? (i := 285) (by decide +kernel), List.mem_of_getElem? (i := 417) (by decide +kernel), List.mem_of_getElem? (i := 418) (by decide +kernel)⟩
theorem lw_p22 : lw_okq (⟨"EditTreeModel", "isOnPath", "(II)Z"⟩, 20) := ⟨⟨by decide +kernel, by decide +kernel⟩, List.mem_of_getElem? (i := 285) (by decide +kernel), List.mem_of_getElem? (i := 421) (by decide +kernel), List.mem_of_getElem? (i := 422) (by decide +kernel)⟩
theorem lw_p23 : lw_okq (⟨"EditTreeModel", "refusal", "(I)I"⟩, 20) := ⟨⟨by decide +kernel, by decide +kernel⟩, List.mem_of_getElem? (i := 285) (by decide +kernel), List.mem_of_getElem? (i := 429) (by decide +kernel), List.mem_of_getElem? (i := 430) (by decide +kernel)⟩
theorem lw_p24 : lw_okq (⟨"EditTreeModel", "shift", "(I)I"⟩, 20) := ⟨⟨by decide +kernel, by decide +kernel⟩, List.mem_of_getElem? (i := 285) (by decide +kernel), List.mem_of_getElem? (i := 433) (by decide +kernel), List.mem_of_getElem? (i := 434) (by decide +kernel)⟩
theorem lw_p25 : lw_okq (⟨"EditTreeModel", "edit", "(I)I"⟩, 20) := ⟨⟨by decide +kernel, by decide +kernel⟩, List.mem_of_getElem? (i := 285) (by decide +kernel), List.mem_of_getElem? (i := 461) (by decide +kernel), List.mem_of_getElem? (i := 462) (by decide +kernel)⟩
theorem lw_p26 : lw_okq (⟨"EditTreeModel", "child", "(II)I"⟩, 20) := ⟨⟨by decide +kernel, by decide +kernel⟩, List.mem_of_getElem? (i := 285) (by decide +kernel), List.mem_of_getElem? (i := 473) (by decide +kernel), List.mem_of_getElem? (i := 474) (by decide +kernel)⟩
theorem lw_p27 : lw_okq (⟨"EditTreeModel", "marksOn", "(I)I"⟩, 20) := ⟨⟨by decide +kernel, by decide +kernel⟩, List.mem_of_getElem? (i := 285) (by decide +kernel), List.mem_of_getElem? (i := 500) (by decide +kernel), List.mem_of_getElem? (i := 501) (by decide +kernel)⟩
theorem lw_p28 : lw_okq (⟨"EditTreeModel", "oldest", "()I"⟩, 20) := ⟨⟨by decide +kernel, by decide +kernel⟩, List.mem_of_getElem? (i := 285) (by decide +kernel), List.mem_of_getElem? (i := 516) (by decide +kernel), List.mem_of_getElem? (i := 517) (by decide +kernel)⟩
theorem lw_p29 : lw_okq (⟨"EditTreeModel", "isLoose", "(I)Z"⟩, 20) := ⟨⟨by decide +kernel, by decide +kernel⟩, List.mem_of_getElem? (i := 285) (by decide +kernel), List.mem_of_getElem? (i := 520) (by decide +kernel), List.mem_of_getElem? (i := 521) (by decide +kernel)⟩
theorem lw_p30 : lw_okq (⟨"EditTreeModel", "childMany", "(I)I"⟩, 20) := ⟨⟨by decide +kernel, by decide +kernel⟩, List.mem_of_getElem? (i := 285) (by decide +kernel), List.mem_of_getElem? (i := 524) (by decide +kernel), List.mem_of_getElem? (i := 525) (by decide +kernel)⟩
theorem lw_p31 : lw_okq (⟨"EditTreeModel", "close", "(I)V"⟩, 20) := ⟨⟨by decide +kernel, by decide +kernel⟩, List.mem_of_getElem? (i := 285) (by decide +kernel), List.mem_of_getElem? (i := 532) (by decide +kernel), List.mem_of_getElem? (i := 533) (by decide +kernel)⟩
def lw_privs_2 : List (MethodName × Nat) := [(⟨"EditTreeModel", "at", "(I)I"⟩, 20), (⟨"EditTreeModel", "cut", "(II)V"⟩, 20), (⟨"EditTreeModel", "jumpTo", "(I)I"⟩, 20), (⟨"EditTreeModel", "far", "(II)I"⟩, 20), (⟨"EditTreeModel", "depth", "(I)I"⟩, 20), (⟨"EditTreeModel", "common", "(II)I"⟩, 20), (⟨"EditTreeModel", "isOnPath", "(II)Z"⟩, 20), (⟨"EditTreeModel", "refusal", "(I)I"⟩, 20), (⟨"EditTreeModel", "shift", "(I)I"⟩, 20), (⟨"EditTreeModel", "edit", "(I)I"⟩, 20), (⟨"EditTreeModel", "child", "(II)I"⟩, 20), (⟨"EditTreeModel", "marksOn", "(I)I"⟩, 20), (⟨"EditTreeModel", "oldest", "()I"⟩, 20), (⟨"EditTreeModel", "isLoose", "(I)Z"⟩, 20), (⟨"EditTreeModel", "childMany", "(I)I"⟩, 20), (⟨"EditTreeModel", "close", "(I)V"⟩, 20)]
theorem lw_r2 : ∀ q ∈ lw_privs_2, lw_okq q := List.forall_mem_cons.mpr ⟨lw_p16, List.forall_mem_cons.mpr ⟨lw_p17, List.forall_mem_cons.mpr ⟨lw_p18, List.forall_mem_cons.mpr ⟨lw_p19, List.forall_mem_cons.mpr ⟨lw_p20, List.forall_mem_cons.mpr ⟨lw_p21, List.forall_mem_cons.mpr ⟨lw_p22, List.forall_mem_cons.mpr ⟨lw_p23, List.forall_mem_cons.mpr ⟨lw_p24, List.forall_mem_cons.mpr ⟨lw_p25, List.forall_mem_cons.mpr ⟨lw_p26, List.forall_mem_cons.mpr ⟨lw_p27, List.forall_mem_cons.mpr ⟨lw_p28, List.forall_mem_cons.mpr ⟨lw_p29, List.forall_mem_cons.mpr ⟨lw_p30, List.forall_mem_cons.mpr ⟨lw_p31, fun _ h => absurd h List.not_mem_nil⟩⟩⟩⟩⟩⟩⟩⟩⟩⟩⟩⟩⟩⟩⟩⟩
theorem lw_p32 : lw_okq (⟨"EditTreeModel", "mix", "(J)V"⟩, 20) := ⟨⟨by decide +kernel, by decide +kernel⟩, List.mem_of_getElem? (i := 285) (by decide +kernel), List.mem_of_getElem? (i := 541) (by decide +kernel), List.mem_of_getElem? (i := 542) (by decide +kernel)⟩
def lw_privs_3 : List (MethodName × Nat) := [(⟨"EditTreeModel", "mix", "(J)V"⟩, 20)]
theorem lw_r3 : ∀ q ∈ lw_privs_3, lw_okq q := List.forall_mem_cons.mpr ⟨lw_p32, fun _ h => absurd h List.not_mem_nil⟩
def lw_privs : List (MethodName × Nat) := lw_privs_1 ++ (lw_privs_2 ++ (lw_privs_3))
def lw_tbl : List Cond := k2_sels lw_privs ++ tables_1
theorem lw_privs_ok : ∀ q ∈ lw_privs, lw_okq q := by
  show ∀ q ∈ lw_privs_1 ++ (lw_privs_2 ++ (lw_privs_3)), lw_okq q
  exact List.forall_mem_append.mpr ⟨lw_r1, List.forall_mem_append.mpr ⟨lw_r2, lw_r3⟩⟩
end
section

/-! ===== BEGIN printed: names, fields, word lists, decode rows ===== -/
def RX0 : String := "EditTree$Node"
def TX0 : u_T := fun k => match k with
  | 0 => ("EditTree$Node", "text", "[C", true)
  | 1 => ("EditTree$Node", "textLength", "I", false)
  | 2 => ("EditTree$Node", "number", "I", false)
  | 3 => ("EditTree$Node", "time", "I", false)
  | 4 => ("EditTree$Node", "parent", "LEditTree$Node;", false)
  | 5 => ("EditTree$Node", "favourite", "LEditTree$Node;", false)
  | 6 => ("EditTree$Node", "editPosition", "I", false)
  | 7 => ("EditTree$Node", "editLength", "I", false)
  | _ => ("EditTree$Node", "deletion", "Z", false)
def tyX0 : Nat → FieldType := fun k => match k with
  | 0 => .array .char
  | 1 => .int
  | 2 => .int
  | 3 => .int
  | 4 => .object "EditTree$Node"
  | 5 => .object "EditTree$Node"
  | 6 => .int
  | 7 => .int
  | _ => .boolean
abbrev wsX00 : List Cond := u_ws RX0 TX0 9
theorem nmX0 : ∀ a, a < 9 → ∀ b, b < 9 → a ≠ b → (TX0 a).2.1 ≠ (TX0 b).2.1 := by decide +kernel
theorem tyX0_ok : ∀ k, k < 9 → parseFieldDescriptor (TX0 k).2.2.1 = some (tyX0 k) := by decide +kernel
abbrev cX0_init : ByteArray := prog_2_method_1_code
def yX0_init : MethodName := ⟨RX0, "<init>", "()V"⟩
def RX1 : String := "EditTree"
def TX1 : u_T := fun k => match k with
  | 0 => ("EditTree", "nodes", "[LEditTree$Node;", true)
  | 1 => ("EditTree", "nodeTotal", "I", false)
  | 2 => ("EditTree", "lastNumber", "I", false)
  | 3 => ("EditTree", "currentNode", "LEditTree$Node;", false)
  | 4 => ("EditTree", "clock", "I", false)
  | 5 => ("EditTree", "clip", "[C", true)
  | 6 => ("EditTree", "clipLength", "I", false)
  | _ => ("EditTree", "marks", "[LEditTree$Node;", true)
def tyX1 : Nat → FieldType := fun k => match k with
  | 0 => .array (.object "EditTree$Node")
  | 1 => .int
  | 2 => .int
  | 3 => .object "EditTree$Node"
  | 4 => .int
  | 5 => .array .char
  | 6 => .int
  | _ => .array (.object "EditTree$Node")
abbrev wsX10 : List Cond := u_ws RX1 TX1 8
theorem nmX1 : ∀ a, a < 8 → ∀ b, b < 8 → a ≠ b → (TX1 a).2.1 ≠ (TX1 b).2.1 := by decide +kernel
theorem tyX1_ok : ∀ k, k < 8 → parseFieldDescriptor (TX1 k).2.2.1 = some (tyX1 k) := by decide +kernel
abbrev cX1_init : ByteArray := prog_1_method_1_code
def yX1_init : MethodName := ⟨RX1, "<init>", "()V"⟩
abbrev cX1_append : ByteArray := prog_1_method_2_code
def yX1_append : MethodName := ⟨RX1, "append", "(I)I"⟩
abbrev cX1_clearClip : ByteArray := prog_1_method_3_code
def yX1_clearClip : MethodName := ⟨RX1, "clearClip", "()I"⟩
abbrev cX1_insert : ByteArray := prog_1_method_4_code
def yX1_insert : MethodName := ⟨RX1, "insert", "(I)I"⟩
abbrev cX1_delete : ByteArray := prog_1_method_5_code
def yX1_delete : MethodName := ⟨RX1, "delete", "(II)I"⟩
abbrev cX1_undo : ByteArray := prog_1_method_6_code
def yX1_undo : MethodName := ⟨RX1, "undo", "()I"⟩
abbrev cX1_redo : ByteArray := prog_1_method_7_code
def yX1_redo : MethodName := ⟨RX1, "redo", "()I"⟩
abbrev cX1_jump : ByteArray := prog_1_method_8_code
def yX1_jump : MethodName := ⟨RX1, "jump", "(I)I"⟩
abbrev cX1_undoEdit : ByteArray := prog_1_method_9_code
def yX1_undoEdit : MethodName := ⟨RX1, "undoEdit", "(I)I"⟩
abbrev cX1_conflictWith : ByteArray := prog_1_method_10_code
def yX1_conflictWith : MethodName := ⟨RX1, "conflictWith", "(I)I"⟩
abbrev cX1_current : ByteArray := prog_1_method_11_code
def yX1_current : MethodName := ⟨RX1, "current", "()I"⟩
abbrev cX1_nodeCount : ByteArray := prog_1_method_12_code
def yX1_nodeCount : MethodName := ⟨RX1, "nodeCount", "()I"⟩
abbrev cX1_lengthOf : ByteArray := prog_1_method_13_code
def yX1_lengthOf : MethodName := ⟨RX1, "lengthOf", "(I)I"⟩
abbrev cX1_characterOf : ByteArray := prog_1_method_14_code
def yX1_characterOf : MethodName := ⟨RX1, "characterOf", "(II)I"⟩
abbrev cX1_editOf : ByteArray := prog_1_method_15_code
def yX1_editOf : MethodName := ⟨RX1, "editOf", "(I)I"⟩
abbrev cX1_parentOf : ByteArray := prog_1_method_16_code
def yX1_parentOf : MethodName := ⟨RX1, "parentOf", "(I)I"⟩
abbrev cX1_childOf : ByteArray := prog_1_method_17_code
def yX1_childOf : MethodName := ⟨RX1, "childOf", "(II)I"⟩
abbrev cX1_favouriteOf : ByteArray := prog_1_method_18_code
def yX1_favouriteOf : MethodName := ⟨RX1, "favouriteOf", "(I)I"⟩
abbrev cX1_timeOf : ByteArray := prog_1_method_19_code
def yX1_timeOf : MethodName := ⟨RX1, "timeOf", "(I)I"⟩
abbrev cX1_commonAncestor : ByteArray := prog_1_method_20_code
def yX1_commonAncestor : MethodName := ⟨RX1, "commonAncestor", "(II)I"⟩
abbrev cX1_distance : ByteArray := prog_1_method_21_code
def yX1_distance : MethodName := ⟨RX1, "distance", "(II)I"⟩
abbrev cX1_setMark : ByteArray := prog_1_method_22_code
def yX1_setMark : MethodName := ⟨RX1, "setMark", "(II)I"⟩
abbrev cX1_clearMark : ByteArray := prog_1_method_23_code
def yX1_clearMark : MethodName := ⟨RX1, "clearMark", "(I)I"⟩
abbrev cX1_goToMark : ByteArray := prog_1_method_24_code
def yX1_goToMark : MethodName := ⟨RX1, "goToMark", "(I)I"⟩
abbrev cX1_oldestLeaf : ByteArray := prog_1_method_25_code
def yX1_oldestLeaf : MethodName := ⟨RX1, "oldestLeaf", "()I"⟩
abbrev cX1_forget : ByteArray := prog_1_method_26_code
def yX1_forget : MethodName := ⟨RX1, "forget", "(I)I"⟩
abbrev cX1_digest : ByteArray := prog_1_method_27_code
def yX1_digest : MethodName := ⟨RX1, "digest", "()J"⟩
abbrev cX1_find : ByteArray := prog_1_method_28_code
def yX1_find : MethodName := ⟨RX1, "find", "(I)LEditTree$Node;"⟩
abbrev cX1_newestChild : ByteArray := prog_1_method_29_code
def yX1_newestChild : MethodName := ⟨RX1, "newestChild", "(LEditTree$Node;)LEditTree$Node;"⟩
abbrev cX1_isAncestor : ByteArray := prog_1_method_30_code
def yX1_isAncestor : MethodName := ⟨RX1, "isAncestor", "(LEditTree$Node;LEditTree$Node;)Z"⟩
abbrev cX1_lowestCommon : ByteArray := prog_1_method_31_code
def yX1_lowestCommon : MethodName := ⟨RX1, "lowestCommon", "(LEditTree$Node;LEditTree$Node;)LEditTree$Node;"⟩
abbrev cX1_depthOf : ByteArray := prog_1_method_32_code
def yX1_depthOf : MethodName := ⟨RX1, "depthOf", "(LEditTree$Node;)I"⟩
abbrev cX1_stepsBetween : ByteArray := prog_1_method_33_code
def yX1_stepsBetween : MethodName := ⟨RX1, "stepsBetween", "(LEditTree$Node;LEditTree$Node;)I"⟩
abbrev cX1_numberOrNone : ByteArray := prog_1_method_34_code
def yX1_numberOrNone : MethodName := ⟨RX1, "numberOrNone", "(LEditTree$Node;)I"⟩
abbrev cX1_editCode : ByteArray := prog_1_method_35_code
def yX1_editCode : MethodName := ⟨RX1, "editCode", "(LEditTree$Node;)I"⟩
abbrev cX1_isTreeFull : ByteArray := prog_1_method_36_code
def yX1_isTreeFull : MethodName := ⟨RX1, "isTreeFull", "()Z"⟩
abbrev cX1_hasRoomFor : ByteArray := prog_1_method_37_code
def yX1_hasRoomFor : MethodName := ⟨RX1, "hasRoomFor", "(I)Z"⟩
abbrev cX1_addInsertion : ByteArray := prog_1_method_38_code
def yX1_addInsertion : MethodName := ⟨RX1, "addInsertion", "(I[CII)V"⟩
abbrev cX1_addDeletion : ByteArray := prog_1_method_39_code
def yX1_addDeletion : MethodName := ⟨RX1, "addDeletion", "(II)V"⟩
abbrev cX1_addChild : ByteArray := prog_1_method_40_code
def yX1_addChild : MethodName := ⟨RX1, "addChild", "(II)LEditTree$Node;"⟩
abbrev cX1_makeCurrent : ByteArray := prog_1_method_41_code
def yX1_makeCurrent : MethodName := ⟨RX1, "makeCurrent", "(LEditTree$Node;)V"⟩
abbrev cX1_takeOut : ByteArray := prog_1_method_42_code
def yX1_takeOut : MethodName := ⟨RX1, "takeOut", "(LEditTree$Node;)V"⟩
abbrev cX1_firstConflict : ByteArray := prog_1_method_43_code
def yX1_firstConflict : MethodName := ⟨RX1, "firstConflict", "(LEditTree$Node;)LEditTree$Node;"⟩
abbrev cX1_placeNow : ByteArray := prog_1_method_44_code
def yX1_placeNow : MethodName := ⟨RX1, "placeNow", "(LEditTree$Node;)I"⟩
abbrev cX1_shifted : ByteArray := prog_1_method_45_code
def yX1_shifted : MethodName := ⟨RX1, "shifted", "(LEditTree$Node;ILEditTree$Node;)I"⟩
abbrev cX1_shiftedString : ByteArray := prog_1_method_46_code
def yX1_shiftedString : MethodName := ⟨RX1, "shiftedString", "(IILEditTree$Node;)I"⟩
abbrev cX1_shiftedGap : ByteArray := prog_1_method_47_code
def yX1_shiftedGap : MethodName := ⟨RX1, "shiftedGap", "(ILEditTree$Node;)I"⟩
abbrev cX1_isMark : ByteArray := prog_1_method_48_code
def yX1_isMark : MethodName := ⟨RX1, "isMark", "(I)Z"⟩
abbrev cX1_marksOn : ByteArray := prog_1_method_49_code
def yX1_marksOn : MethodName := ⟨RX1, "marksOn", "(LEditTree$Node;)I"⟩
abbrev cX1_isForgettable : ByteArray := prog_1_method_50_code
def yX1_isForgettable : MethodName := ⟨RX1, "isForgettable", "(LEditTree$Node;)Z"⟩
abbrev cX1_mixed : ByteArray := prog_1_method_51_code
def yX1_mixed : MethodName := ⟨RX1, "mixed", "(JJ)J"⟩
abbrev cX1_mixedText : ByteArray := prog_1_method_52_code
def yX1_mixedText : MethodName := ⟨RX1, "mixedText", "(J[CI)J"⟩
abbrev cX1_mixedNode : ByteArray := prog_1_method_53_code
def yX1_mixedNode : MethodName := ⟨RX1, "mixedNode", "(JLEditTree$Node;)J"⟩
def RX2 : String := "EditTreeModel"
def TX2 : u_T := fun k => match k with
  | 0 => ("EditTreeModel", "nodes", "I", false)
  | 1 => ("EditTreeModel", "given", "I", false)
  | 2 => ("EditTreeModel", "number", "[I", true)
  | 3 => ("EditTreeModel", "parent", "[I", true)
  | 4 => ("EditTreeModel", "favourite", "[I", true)
  | 5 => ("EditTreeModel", "time", "[I", true)
  | 6 => ("EditTreeModel", "position", "[I", true)
  | 7 => ("EditTreeModel", "length", "[I", true)
  | 8 => ("EditTreeModel", "deletes", "[Z", true)
  | 9 => ("EditTreeModel", "string", "[I", true)
  | 10 => ("EditTreeModel", "textLength", "[I", true)
  | 11 => ("EditTreeModel", "text", "[I", true)
  | 12 => ("EditTreeModel", "current", "I", false)
  | 13 => ("EditTreeModel", "clock", "I", false)
  | 14 => ("EditTreeModel", "clipLength", "I", false)
  | 15 => ("EditTreeModel", "clip", "[I", true)
  | 16 => ("EditTreeModel", "mark", "[I", true)
  | 17 => ("EditTreeModel", "newString", "[I", true)
  | 18 => ("EditTreeModel", "shifted", "I", false)
  | _ => ("EditTreeModel", "h", "J", false)
def tyX2 : Nat → FieldType := fun k => match k with
  | 0 => .int
  | 1 => .int
  | 2 => .array .int
  | 3 => .array .int
  | 4 => .array .int
  | 5 => .array .int
  | 6 => .array .int
  | 7 => .array .int
  | 8 => .array .boolean
  | 9 => .array .int
  | 10 => .array .int
  | 11 => .array .int
  | 12 => .int
  | 13 => .int
  | 14 => .int
  | 15 => .array .int
  | 16 => .array .int
  | 17 => .array .int
  | 18 => .int
  | _ => .long
abbrev wsX20 : List Cond := u_ws RX2 TX2 20
theorem nmX2 : ∀ a, a < 20 → ∀ b, b < 20 → a ≠ b → (TX2 a).2.1 ≠ (TX2 b).2.1 := by decide +kernel
theorem tyX2_ok : ∀ k, k < 20 → parseFieldDescriptor (TX2 k).2.2.1 = some (tyX2 k) := by decide +kernel
abbrev cX2_init : ByteArray := prog_4_method_1_code
def yX2_init : MethodName := ⟨RX2, "<init>", "()V"⟩
abbrev cX2_within : ByteArray := prog_4_method_3_code
def yX2_within : MethodName := ⟨RX2, "within", "(III)Z"⟩
abbrev cX2_at : ByteArray := prog_4_method_4_code
def yX2_at : MethodName := ⟨RX2, "at", "(I)I"⟩
abbrev cX2_above : ByteArray := prog_4_method_5_code
def yX2_above : MethodName := ⟨RX2, "above", "(I)I"⟩
abbrev cX2_depth : ByteArray := prog_4_method_6_code
def yX2_depth : MethodName := ⟨RX2, "depth", "(I)I"⟩
abbrev cX2_isOnPath : ByteArray := prog_4_method_7_code
def yX2_isOnPath : MethodName := ⟨RX2, "isOnPath", "(II)Z"⟩
abbrev cX2_become : ByteArray := prog_4_method_8_code
def yX2_become : MethodName := ⟨RX2, "become", "(I)I"⟩
abbrev cX2_append : ByteArray := prog_4_method_9_code
def yX2_append : MethodName := ⟨RX2, "append", "(I)I"⟩
abbrev cX2_clearClip : ByteArray := prog_4_method_10_code
def yX2_clearClip : MethodName := ⟨RX2, "clearClip", "()I"⟩
abbrev cX2_grow : ByteArray := prog_4_method_11_code
def yX2_grow : MethodName := ⟨RX2, "grow", "(IIZ)I"⟩
abbrev cX2_insert : ByteArray := prog_4_method_12_code
def yX2_insert : MethodName := ⟨RX2, "insert", "(I)I"⟩
abbrev cX2_cut : ByteArray := prog_4_method_13_code
def yX2_cut : MethodName := ⟨RX2, "cut", "(II)V"⟩
abbrev cX2_delete : ByteArray := prog_4_method_14_code
def yX2_delete : MethodName := ⟨RX2, "delete", "(II)I"⟩
abbrev cX2_undo : ByteArray := prog_4_method_15_code
def yX2_undo : MethodName := ⟨RX2, "undo", "()I"⟩
abbrev cX2_redo : ByteArray := prog_4_method_16_code
def yX2_redo : MethodName := ⟨RX2, "redo", "()I"⟩
abbrev cX2_common : ByteArray := prog_4_method_17_code
def yX2_common : MethodName := ⟨RX2, "common", "(II)I"⟩
abbrev cX2_far : ByteArray := prog_4_method_18_code
def yX2_far : MethodName := ⟨RX2, "far", "(II)I"⟩
abbrev cX2_jumpTo : ByteArray := prog_4_method_19_code
def yX2_jumpTo : MethodName := ⟨RX2, "jumpTo", "(I)I"⟩
abbrev cX2_jump : ByteArray := prog_4_method_20_code
def yX2_jump : MethodName := ⟨RX2, "jump", "(I)I"⟩
abbrev cX2_shift : ByteArray := prog_4_method_21_code
def yX2_shift : MethodName := ⟨RX2, "shift", "(I)I"⟩
abbrev cX2_refusal : ByteArray := prog_4_method_22_code
def yX2_refusal : MethodName := ⟨RX2, "refusal", "(I)I"⟩
abbrev cX2_undoEdit : ByteArray := prog_4_method_23_code
def yX2_undoEdit : MethodName := ⟨RX2, "undoEdit", "(I)I"⟩
abbrev cX2_conflictWith : ByteArray := prog_4_method_24_code
def yX2_conflictWith : MethodName := ⟨RX2, "conflictWith", "(I)I"⟩
abbrev cX2_current : ByteArray := prog_4_method_25_code
def yX2_current : MethodName := ⟨RX2, "current", "()I"⟩
abbrev cX2_nodeCount : ByteArray := prog_4_method_26_code
def yX2_nodeCount : MethodName := ⟨RX2, "nodeCount", "()I"⟩
abbrev cX2_lengthOf : ByteArray := prog_4_method_27_code
def yX2_lengthOf : MethodName := ⟨RX2, "lengthOf", "(I)I"⟩
abbrev cX2_characterOf : ByteArray := prog_4_method_28_code
def yX2_characterOf : MethodName := ⟨RX2, "characterOf", "(II)I"⟩
abbrev cX2_edit : ByteArray := prog_4_method_29_code
def yX2_edit : MethodName := ⟨RX2, "edit", "(I)I"⟩
abbrev cX2_editOf : ByteArray := prog_4_method_30_code
def yX2_editOf : MethodName := ⟨RX2, "editOf", "(I)I"⟩
abbrev cX2_parentOf : ByteArray := prog_4_method_31_code
def yX2_parentOf : MethodName := ⟨RX2, "parentOf", "(I)I"⟩
abbrev cX2_childMany : ByteArray := prog_4_method_32_code
def yX2_childMany : MethodName := ⟨RX2, "childMany", "(I)I"⟩
abbrev cX2_child : ByteArray := prog_4_method_33_code
def yX2_child : MethodName := ⟨RX2, "child", "(II)I"⟩
abbrev cX2_childOf : ByteArray := prog_4_method_34_code
def yX2_childOf : MethodName := ⟨RX2, "childOf", "(II)I"⟩
abbrev cX2_favouriteOf : ByteArray := prog_4_method_35_code
def yX2_favouriteOf : MethodName := ⟨RX2, "favouriteOf", "(I)I"⟩
abbrev cX2_timeOf : ByteArray := prog_4_method_36_code
def yX2_timeOf : MethodName := ⟨RX2, "timeOf", "(I)I"⟩
abbrev cX2_commonAncestor : ByteArray := prog_4_method_37_code
def yX2_commonAncestor : MethodName := ⟨RX2, "commonAncestor", "(II)I"⟩
abbrev cX2_distance : ByteArray := prog_4_method_38_code
def yX2_distance : MethodName := ⟨RX2, "distance", "(II)I"⟩
abbrev cX2_isMark : ByteArray := prog_4_method_39_code
def yX2_isMark : MethodName := ⟨RX2, "isMark", "(I)Z"⟩
abbrev cX2_marksOn : ByteArray := prog_4_method_40_code
def yX2_marksOn : MethodName := ⟨RX2, "marksOn", "(I)I"⟩
abbrev cX2_setMark : ByteArray := prog_4_method_41_code
def yX2_setMark : MethodName := ⟨RX2, "setMark", "(II)I"⟩
abbrev cX2_clearMark : ByteArray := prog_4_method_42_code
def yX2_clearMark : MethodName := ⟨RX2, "clearMark", "(I)I"⟩
abbrev cX2_goToMark : ByteArray := prog_4_method_43_code
def yX2_goToMark : MethodName := ⟨RX2, "goToMark", "(I)I"⟩
abbrev cX2_isLoose : ByteArray := prog_4_method_44_code
def yX2_isLoose : MethodName := ⟨RX2, "isLoose", "(I)Z"⟩
abbrev cX2_oldest : ByteArray := prog_4_method_45_code
def yX2_oldest : MethodName := ⟨RX2, "oldest", "()I"⟩
abbrev cX2_oldestLeaf : ByteArray := prog_4_method_46_code
def yX2_oldestLeaf : MethodName := ⟨RX2, "oldestLeaf", "()I"⟩
abbrev cX2_close : ByteArray := prog_4_method_47_code
def yX2_close : MethodName := ⟨RX2, "close", "(I)V"⟩
abbrev cX2_forget : ByteArray := prog_4_method_48_code
def yX2_forget : MethodName := ⟨RX2, "forget", "(I)I"⟩
abbrev cX2_mix : ByteArray := prog_4_method_49_code
def yX2_mix : MethodName := ⟨RX2, "mix", "(J)V"⟩
abbrev cX2_digest : ByteArray := prog_4_method_50_code
def yX2_digest : MethodName := ⟨RX2, "digest", "()J"⟩
def RJ10 : String := "java/lang/System"
def TJ10 : u_T := fun k => match k with
  | _ => ("", "", "", false)
def tyJ10 : Nat → FieldType := fun k => match k with
  | _ => .int
abbrev wsJ100 : List Cond := u_ws RJ10 TJ10 0
theorem nmJ10 : ∀ a, a < 0 → ∀ b, b < 0 → a ≠ b → (TJ10 a).2.1 ≠ (TJ10 b).2.1 := by decide +kernel
theorem tyJ10_ok : ∀ k, k < 0 → parseFieldDescriptor (TJ10 k).2.2.1 = some (tyJ10 k) := by decide +kernel
def RL : String := "EditTreeLaw"
abbrev cL_law : ByteArray := code
def yL_law : MethodName := ⟨RL, "law", "([I)Z"⟩
theorem inX0 : ∀ w ∈ wsX00, w ∈ lw_tbl := by decide +kernel
theorem inX1 : ∀ w ∈ wsX10, w ∈ lw_tbl := by decide +kernel
theorem inX2 : ∀ w ∈ wsX20, w ∈ lw_tbl := by decide +kernel
theorem inJ10 : ∀ w ∈ wsJ100, w ∈ lw_tbl := by decide +kernel
abbrev vwCl : List vw_C := [(RX0, TX0, 9), (RX1, TX1, 8), (RX2, TX2, 20)]
end
section
theorem dX0_init_0 : decode cX0_init 0 = .ok (.aload_n 0, 1) := by decide +kernel
theorem dX0_init_1 : decode cX0_init 1 = .ok (.invokespecial 3, 3) := by decide +kernel
theorem dX0_init_4 : decode cX0_init 4 = .ok (.aload_n 0, 1) := by decide +kernel
theorem dX0_init_5 : decode cX0_init 5 = .ok (.bipush 40, 2) := by decide +kernel
theorem dX0_init_7 : decode cX0_init 7 = .ok (.newarray .char, 2) := by decide +kernel
theorem dX0_init_9 : decode cX0_init 9 = .ok (.putfield 9, 3) := by decide +kernel
theorem dX0_init_12 : decode cX0_init 12 = .ok (.aload_n 0, 1) := by decide +kernel
theorem dX0_init_13 : decode cX0_init 13 = .ok (.iconst 0, 1) := by decide +kernel
theorem dX0_init_14 : decode cX0_init 14 = .ok (.putfield 15, 3) := by decide +kernel
theorem dX0_init_17 : decode cX0_init 17 = .ok (.aload_n 0, 1) := by decide +kernel
theorem dX0_init_18 : decode cX0_init 18 = .ok (.iconst 0, 1) := by decide +kernel
theorem dX0_init_19 : decode cX0_init 19 = .ok (.putfield 19, 3) := by decide +kernel
theorem dX0_init_22 : decode cX0_init 22 = .ok (.aload_n 0, 1) := by decide +kernel
theorem dX0_init_23 : decode cX0_init 23 = .ok (.iconst 0, 1) := by decide +kernel
theorem dX0_init_24 : decode cX0_init 24 = .ok (.putfield 22, 3) := by decide +kernel
theorem dX0_init_27 : decode cX0_init 27 = .ok (.aload_n 0, 1) := by decide +kernel
theorem dX0_init_28 : decode cX0_init 28 = .ok (.aconst_null, 1) := by decide +kernel
theorem dX0_init_29 : decode cX0_init 29 = .ok (.putfield 25, 3) := by decide +kernel
theorem dX0_init_32 : decode cX0_init 32 = .ok (.aload_n 0, 1) := by decide +kernel
theorem dX0_init_33 : decode cX0_init 33 = .ok (.aconst_null, 1) := by decide +kernel
theorem dX0_init_34 : decode cX0_init 34 = .ok (.putfield 29, 3) := by decide +kernel
theorem dX0_init_37 : decode cX0_init 37 = .ok (.aload_n 0, 1) := by decide +kernel
theorem dX0_init_38 : decode cX0_init 38 = .ok (.iconst 0, 1) := by decide +kernel
theorem dX0_init_39 : decode cX0_init 39 = .ok (.putfield 32, 3) := by decide +kernel
theorem dX0_init_42 : decode cX0_init 42 = .ok (.aload_n 0, 1) := by decide +kernel
theorem dX0_init_43 : decode cX0_init 43 = .ok (.iconst 0, 1) := by decide +kernel
theorem dX0_init_44 : decode cX0_init 44 = .ok (.putfield 35, 3) := by decide +kernel
theorem dX0_init_47 : decode cX0_init 47 = .ok (.aload_n 0, 1) := by decide +kernel
theorem dX0_init_48 : decode cX0_init 48 = .ok (.iconst 0, 1) := by decide +kernel
theorem dX0_init_49 : decode cX0_init 49 = .ok (.putfield 38, 3) := by decide +kernel
theorem dX0_init_52 : decode cX0_init 52 = .ok (.return_, 1) := by decide +kernel
theorem dX1_init_0 : decode cX1_init 0 = .ok (.aload_n 0, 1) := by decide +kernel
theorem dX1_init_1 : decode cX1_init 1 = .ok (.invokespecial 1, 3) := by decide +kernel
theorem dX1_init_4 : decode cX1_init 4 = .ok (.aload_n 0, 1) := by decide +kernel
theorem dX1_init_5 : decode cX1_init 5 = .ok (.bipush 24, 2) := by decide +kernel
theorem dX1_init_7 : decode cX1_init 7 = .ok (.anewarray 9, 3) := by decide +kernel
theorem dX1_init_10 : decode cX1_init 10 = .ok (.putfield 11, 3) := by decide +kernel
theorem dX1_init_13 : decode cX1_init 13 = .ok (.aload_n 0, 1) := by decide +kernel
theorem dX1_init_14 : decode cX1_init 14 = .ok (.iconst 1, 1) := by decide +kernel
theorem dX1_init_15 : decode cX1_init 15 = .ok (.putfield 15, 3) := by decide +kernel
theorem dX1_init_18 : decode cX1_init 18 = .ok (.aload_n 0, 1) := by decide +kernel
theorem dX1_init_19 : decode cX1_init 19 = .ok (.iconst 0, 1) := by decide +kernel
theorem dX1_init_20 : decode cX1_init 20 = .ok (.putfield 19, 3) := by decide +kernel
theorem dX1_init_23 : decode cX1_init 23 = .ok (.aload_n 0, 1) := by decide +kernel
theorem dX1_init_24 : decode cX1_init 24 = .ok (.iconst 0, 1) := by decide +kernel
theorem dX1_init_25 : decode cX1_init 25 = .ok (.putfield 22, 3) := by decide +kernel
theorem dX1_init_28 : decode cX1_init 28 = .ok (.aload_n 0, 1) := by decide +kernel
theorem dX1_init_29 : decode cX1_init 29 = .ok (.bipush 6, 2) := by decide +kernel
theorem dX1_init_31 : decode cX1_init 31 = .ok (.newarray .char, 2) := by decide +kernel
theorem dX1_init_33 : decode cX1_init 33 = .ok (.putfield 25, 3) := by decide +kernel
theorem dX1_init_36 : decode cX1_init 36 = .ok (.aload_n 0, 1) := by decide +kernel
theorem dX1_init_37 : decode cX1_init 37 = .ok (.iconst 0, 1) := by decide +kernel
theorem dX1_init_38 : decode cX1_init 38 = .ok (.putfield 29, 3) := by decide +kernel
theorem dX1_init_41 : decode cX1_init 41 = .ok (.aload_n 0, 1) := by decide +kernel
theorem dX1_init_42 : decode cX1_init 42 = .ok (.iconst 5, 1) := by decide +kernel
theorem dX1_init_43 : decode cX1_init 43 = .ok (.anewarray 9, 3) := by decide +kernel
theorem dX1_init_46 : decode cX1_init 46 = .ok (.putfield 32, 3) := by decide +kernel
theorem dX1_init_49 : decode cX1_init 49 = .ok (.new 9, 3) := by decide +kernel
theorem dX1_init_52 : decode cX1_init 52 = .ok (.dup, 1) := by decide +kernel
theorem dX1_init_53 : decode cX1_init 53 = .ok (.invokespecial 35, 3) := by decide +kernel
theorem dX1_init_56 : decode cX1_init 56 = .ok (.astore_n 1, 1) := by decide +kernel
theorem dX1_init_57 : decode cX1_init 57 = .ok (.aload_n 0, 1) := by decide +kernel
theorem dX1_init_58 : decode cX1_init 58 = .ok (.getfield 11, 3) := by decide +kernel
theorem dX1_init_61 : decode cX1_init 61 = .ok (.iconst 0, 1) := by decide +kernel
theorem dX1_init_62 : decode cX1_init 62 = .ok (.aload_n 1, 1) := by decide +kernel
theorem dX1_init_63 : decode cX1_init 63 = .ok (.aastore, 1) := by decide +kernel
theorem dX1_init_64 : decode cX1_init 64 = .ok (.iconst 1, 1) := by decide +kernel
theorem dX1_init_65 : decode cX1_init 65 = .ok (.istore_n 2, 1) := by decide +kernel
theorem dX1_init_66 : decode cX1_init 66 = .ok (.iload_n 2, 1) := by decide +kernel
theorem dX1_init_67 : decode cX1_init 67 = .ok (.bipush 24, 2) := by decide +kernel
theorem dX1_init_69 : decode cX1_init 69 = .ok (.if_icmp .ge 22, 3) := by decide +kernel
theorem dX1_init_72 : decode cX1_init 72 = .ok (.aload_n 0, 1) := by decide +kernel
theorem dX1_init_73 : decode cX1_init 73 = .ok (.getfield 11, 3) := by decide +kernel
theorem dX1_init_76 : decode cX1_init 76 = .ok (.iload_n 2, 1) := by decide +kernel
theorem dX1_init_77 : decode cX1_init 77 = .ok (.new 9, 3) := by decide +kernel
theorem dX1_init_80 : decode cX1_init 80 = .ok (.dup, 1) := by decide +kernel
theorem dX1_init_81 : decode cX1_init 81 = .ok (.invokespecial 35, 3) := by decide +kernel
theorem dX1_init_84 : decode cX1_init 84 = .ok (.aastore, 1) := by decide +kernel
theorem dX1_init_85 : decode cX1_init 85 = .ok (.iinc 2 1, 3) := by decide +kernel
theorem dX1_init_88 : decode cX1_init 88 = .ok (.goto (-22), 3) := by decide +kernel
theorem dX1_init_91 : decode cX1_init 91 = .ok (.aload_n 0, 1) := by decide +kernel
theorem dX1_init_92 : decode cX1_init 92 = .ok (.aload_n 1, 1) := by decide +kernel
theorem dX1_init_93 : decode cX1_init 93 = .ok (.putfield 36, 3) := by decide +kernel
theorem dX1_init_96 : decode cX1_init 96 = .ok (.return_, 1) := by decide +kernel
theorem dX1_append_0 : decode cX1_append 0 = .ok (.iload_n 1, 1) := by decide +kernel
theorem dX1_append_1 : decode cX1_append 1 = .ok (.bipush 32, 2) := by decide +kernel
theorem dX1_append_3 : decode cX1_append 3 = .ok (.if_icmp .lt 9, 3) := by decide +kernel
theorem dX1_append_6 : decode cX1_append 6 = .ok (.iload_n 1, 1) := by decide +kernel
theorem dX1_append_7 : decode cX1_append 7 = .ok (.bipush 126, 2) := by decide +kernel
theorem dX1_append_9 : decode cX1_append 9 = .ok (.if_icmp .le 5, 3) := by decide +kernel
theorem dX1_append_12 : decode cX1_append 12 = .ok (.iconst (-1), 1) := by decide +kernel
theorem dX1_append_13 : decode cX1_append 13 = .ok (.ireturn, 1) := by decide +kernel
theorem dX1_append_14 : decode cX1_append 14 = .ok (.aload_n 0, 1) := by decide +kernel
theorem dX1_append_15 : decode cX1_append 15 = .ok (.getfield 29, 3) := by decide +kernel
theorem dX1_append_18 : decode cX1_append 18 = .ok (.bipush 6, 2) := by decide +kernel
theorem dX1_append_20 : decode cX1_append 20 = .ok (.if_icmp .lt 6, 3) := by decide +kernel
theorem dX1_append_23 : decode cX1_append 23 = .ok (.bipush (-4), 2) := by decide +kernel
theorem dX1_append_25 : decode cX1_append 25 = .ok (.ireturn, 1) := by decide +kernel
theorem dX1_append_26 : decode cX1_append 26 = .ok (.aload_n 0, 1) := by decide +kernel
theorem dX1_append_27 : decode cX1_append 27 = .ok (.getfield 25, 3) := by decide +kernel
theorem dX1_append_30 : decode cX1_append 30 = .ok (.aload_n 0, 1) := by decide +kernel
theorem dX1_append_31 : decode cX1_append 31 = .ok (.getfield 29, 3) := by decide +kernel
theorem dX1_append_34 : decode cX1_append 34 = .ok (.iload_n 1, 1) := by decide +kernel
theorem dX1_append_35 : decode cX1_append 35 = .ok (.i2c, 1) := by decide +kernel
theorem dX1_append_36 : decode cX1_append 36 = .ok (.castore, 1) := by decide +kernel
theorem dX1_append_37 : decode cX1_append 37 = .ok (.aload_n 0, 1) := by decide +kernel
theorem dX1_append_38 : decode cX1_append 38 = .ok (.dup, 1) := by decide +kernel
theorem dX1_append_39 : decode cX1_append 39 = .ok (.getfield 29, 3) := by decide +kernel
theorem dX1_append_42 : decode cX1_append 42 = .ok (.iconst 1, 1) := by decide +kernel
theorem dX1_append_43 : decode cX1_append 43 = .ok (.iadd, 1) := by decide +kernel
theorem dX1_append_44 : decode cX1_append 44 = .ok (.putfield 29, 3) := by decide +kernel
theorem dX1_append_47 : decode cX1_append 47 = .ok (.aload_n 0, 1) := by decide +kernel
theorem dX1_append_48 : decode cX1_append 48 = .ok (.getfield 29, 3) := by decide +kernel
theorem dX1_append_51 : decode cX1_append 51 = .ok (.ireturn, 1) := by decide +kernel
theorem dX1_clearClip_0 : decode cX1_clearClip 0 = .ok (.aload_n 0, 1) := by decide +kernel
theorem dX1_clearClip_1 : decode cX1_clearClip 1 = .ok (.getfield 29, 3) := by decide +kernel
theorem dX1_clearClip_4 : decode cX1_clearClip 4 = .ok (.istore_n 1, 1) := by decide +kernel
theorem dX1_clearClip_5 : decode cX1_clearClip 5 = .ok (.aload_n 0, 1) := by decide +kernel
theorem dX1_clearClip_6 : decode cX1_clearClip 6 = .ok (.iconst 0, 1) := by decide +kernel
theorem dX1_clearClip_7 : decode cX1_clearClip 7 = .ok (.putfield 29, 3) := by decide +kernel
theorem dX1_clearClip_10 : decode cX1_clearClip 10 = .ok (.iload_n 1, 1) := by decide +kernel
theorem dX1_clearClip_11 : decode cX1_clearClip 11 = .ok (.ireturn, 1) := by decide +kernel
theorem dX1_insert_0 : decode cX1_insert 0 = .ok (.aload_n 0, 1) := by decide +kernel
theorem dX1_insert_1 : decode cX1_insert 1 = .ok (.getfield 29, 3) := by decide +kernel
theorem dX1_insert_4 : decode cX1_insert 4 = .ok (.ifCond .ne 6, 3) := by decide +kernel
theorem dX1_insert_7 : decode cX1_insert 7 = .ok (.bipush (-7), 2) := by decide +kernel
theorem dX1_insert_9 : decode cX1_insert 9 = .ok (.ireturn, 1) := by decide +kernel
theorem dX1_insert_10 : decode cX1_insert 10 = .ok (.iload_n 1, 1) := by decide +kernel
theorem dX1_insert_11 : decode cX1_insert 11 = .ok (.ifCond .lt 14, 3) := by decide +kernel
theorem dX1_insert_14 : decode cX1_insert 14 = .ok (.iload_n 1, 1) := by decide +kernel
theorem dX1_insert_15 : decode cX1_insert 15 = .ok (.aload_n 0, 1) := by decide +kernel
theorem dX1_insert_16 : decode cX1_insert 16 = .ok (.getfield 36, 3) := by decide +kernel
theorem dX1_insert_19 : decode cX1_insert 19 = .ok (.getfield 40, 3) := by decide +kernel
theorem dX1_insert_22 : decode cX1_insert 22 = .ok (.if_icmp .le 5, 3) := by decide +kernel
theorem dX1_insert_25 : decode cX1_insert 25 = .ok (.iconst (-1), 1) := by decide +kernel
theorem dX1_insert_26 : decode cX1_insert 26 = .ok (.ireturn, 1) := by decide +kernel
theorem dX1_insert_27 : decode cX1_insert 27 = .ok (.aload_n 0, 1) := by decide +kernel
theorem dX1_insert_28 : decode cX1_insert 28 = .ok (.aload_n 0, 1) := by decide +kernel
theorem dX1_insert_29 : decode cX1_insert 29 = .ok (.getfield 29, 3) := by decide +kernel
theorem dX1_insert_32 : decode cX1_insert 32 = .ok (.invokevirtual 43, 3) := by decide +kernel
theorem dX1_insert_35 : decode cX1_insert 35 = .ok (.ifCond .ne 6, 3) := by decide +kernel
theorem dX1_insert_38 : decode cX1_insert 38 = .ok (.bipush (-4), 2) := by decide +kernel
theorem dX1_insert_40 : decode cX1_insert 40 = .ok (.ireturn, 1) := by decide +kernel
theorem dX1_insert_41 : decode cX1_insert 41 = .ok (.aload_n 0, 1) := by decide +kernel
theorem dX1_insert_42 : decode cX1_insert 42 = .ok (.invokevirtual 47, 3) := by decide +kernel
theorem dX1_insert_45 : decode cX1_insert 45 = .ok (.ifCond .eq 6, 3) := by decide +kernel
theorem dX1_insert_48 : decode cX1_insert 48 = .ok (.bipush (-3), 2) := by decide +kernel
theorem dX1_insert_50 : decode cX1_insert 50 = .ok (.ireturn, 1) := by decide +kernel
theorem dX1_insert_51 : decode cX1_insert 51 = .ok (.aload_n 0, 1) := by decide +kernel
theorem dX1_insert_52 : decode cX1_insert 52 = .ok (.iload_n 1, 1) := by decide +kernel
theorem dX1_insert_53 : decode cX1_insert 53 = .ok (.aload_n 0, 1) := by decide +kernel
theorem dX1_insert_54 : decode cX1_insert 54 = .ok (.getfield 25, 3) := by decide +kernel
theorem dX1_insert_57 : decode cX1_insert 57 = .ok (.iconst 0, 1) := by decide +kernel
theorem dX1_insert_58 : decode cX1_insert 58 = .ok (.aload_n 0, 1) := by decide +kernel
theorem dX1_insert_59 : decode cX1_insert 59 = .ok (.getfield 29, 3) := by decide +kernel
theorem dX1_insert_62 : decode cX1_insert 62 = .ok (.invokevirtual 51, 3) := by decide +kernel
theorem dX1_insert_65 : decode cX1_insert 65 = .ok (.aload_n 0, 1) := by decide +kernel
theorem dX1_insert_66 : decode cX1_insert 66 = .ok (.iconst 0, 1) := by decide +kernel
theorem dX1_insert_67 : decode cX1_insert 67 = .ok (.putfield 29, 3) := by decide +kernel
theorem dX1_insert_70 : decode cX1_insert 70 = .ok (.aload_n 0, 1) := by decide +kernel
theorem dX1_insert_71 : decode cX1_insert 71 = .ok (.getfield 36, 3) := by decide +kernel
theorem dX1_insert_74 : decode cX1_insert 74 = .ok (.getfield 55, 3) := by decide +kernel
theorem dX1_insert_77 : decode cX1_insert 77 = .ok (.ireturn, 1) := by decide +kernel
theorem dX1_delete_0 : decode cX1_delete 0 = .ok (.iload_n 1, 1) := by decide +kernel
theorem dX1_delete_1 : decode cX1_delete 1 = .ok (.ifCond .lt 14, 3) := by decide +kernel
theorem dX1_delete_4 : decode cX1_delete 4 = .ok (.iload_n 2, 1) := by decide +kernel
theorem dX1_delete_5 : decode cX1_delete 5 = .ok (.iconst 1, 1) := by decide +kernel
theorem dX1_delete_6 : decode cX1_delete 6 = .ok (.if_icmp .lt 9, 3) := by decide +kernel
theorem dX1_delete_9 : decode cX1_delete 9 = .ok (.iload_n 2, 1) := by decide +kernel
theorem dX1_delete_10 : decode cX1_delete 10 = .ok (.bipush 6, 2) := by decide +kernel
theorem dX1_delete_12 : decode cX1_delete 12 = .ok (.if_icmp .le 5, 3) := by decide +kernel
theorem dX1_delete_15 : decode cX1_delete 15 = .ok (.iconst (-1), 1) := by decide +kernel
theorem dX1_delete_16 : decode cX1_delete 16 = .ok (.ireturn, 1) := by decide +kernel
theorem dX1_delete_17 : decode cX1_delete 17 = .ok (.iload_n 1, 1) := by decide +kernel
theorem dX1_delete_18 : decode cX1_delete 18 = .ok (.aload_n 0, 1) := by decide +kernel
theorem dX1_delete_19 : decode cX1_delete 19 = .ok (.getfield 36, 3) := by decide +kernel
theorem dX1_delete_22 : decode cX1_delete 22 = .ok (.getfield 40, 3) := by decide +kernel
theorem dX1_delete_25 : decode cX1_delete 25 = .ok (.iload_n 2, 1) := by decide +kernel
theorem dX1_delete_26 : decode cX1_delete 26 = .ok (.isub, 1) := by decide +kernel
theorem dX1_delete_27 : decode cX1_delete 27 = .ok (.if_icmp .le 5, 3) := by decide +kernel
theorem dX1_delete_30 : decode cX1_delete 30 = .ok (.iconst (-1), 1) := by decide +kernel
theorem dX1_delete_31 : decode cX1_delete 31 = .ok (.ireturn, 1) := by decide +kernel
theorem dX1_delete_32 : decode cX1_delete 32 = .ok (.aload_n 0, 1) := by decide +kernel
theorem dX1_delete_33 : decode cX1_delete 33 = .ok (.invokevirtual 47, 3) := by decide +kernel
theorem dX1_delete_36 : decode cX1_delete 36 = .ok (.ifCond .eq 6, 3) := by decide +kernel
theorem dX1_delete_39 : decode cX1_delete 39 = .ok (.bipush (-3), 2) := by decide +kernel
theorem dX1_delete_41 : decode cX1_delete 41 = .ok (.ireturn, 1) := by decide +kernel
theorem dX1_delete_42 : decode cX1_delete 42 = .ok (.aload_n 0, 1) := by decide +kernel
theorem dX1_delete_43 : decode cX1_delete 43 = .ok (.iload_n 1, 1) := by decide +kernel
theorem dX1_delete_44 : decode cX1_delete 44 = .ok (.iload_n 2, 1) := by decide +kernel
theorem dX1_delete_45 : decode cX1_delete 45 = .ok (.invokevirtual 58, 3) := by decide +kernel
theorem dX1_delete_48 : decode cX1_delete 48 = .ok (.aload_n 0, 1) := by decide +kernel
theorem dX1_delete_49 : decode cX1_delete 49 = .ok (.getfield 36, 3) := by decide +kernel
theorem dX1_delete_52 : decode cX1_delete 52 = .ok (.getfield 55, 3) := by decide +kernel
theorem dX1_delete_55 : decode cX1_delete 55 = .ok (.ireturn, 1) := by decide +kernel
theorem dX1_undo_0 : decode cX1_undo 0 = .ok (.aload_n 0, 1) := by decide +kernel
theorem dX1_undo_1 : decode cX1_undo 1 = .ok (.getfield 36, 3) := by decide +kernel
theorem dX1_undo_4 : decode cX1_undo 4 = .ok (.getfield 62, 3) := by decide +kernel
theorem dX1_undo_7 : decode cX1_undo 7 = .ok (.astore_n 1, 1) := by decide +kernel
theorem dX1_undo_8 : decode cX1_undo 8 = .ok (.aload_n 1, 1) := by decide +kernel
theorem dX1_undo_9 : decode cX1_undo 9 = .ok (.ifnonnull 6, 3) := by decide +kernel
theorem dX1_undo_12 : decode cX1_undo 12 = .ok (.bipush (-7), 2) := by decide +kernel
theorem dX1_undo_14 : decode cX1_undo 14 = .ok (.ireturn, 1) := by decide +kernel
theorem dX1_undo_15 : decode cX1_undo 15 = .ok (.aload_n 0, 1) := by decide +kernel
theorem dX1_undo_16 : decode cX1_undo 16 = .ok (.aload_n 1, 1) := by decide +kernel
theorem dX1_undo_17 : decode cX1_undo 17 = .ok (.invokevirtual 65, 3) := by decide +kernel
theorem dX1_undo_20 : decode cX1_undo 20 = .ok (.aload_n 1, 1) := by decide +kernel
theorem dX1_undo_21 : decode cX1_undo 21 = .ok (.getfield 55, 3) := by decide +kernel
theorem dX1_undo_24 : decode cX1_undo 24 = .ok (.ireturn, 1) := by decide +kernel
theorem dX1_redo_0 : decode cX1_redo 0 = .ok (.aload_n 0, 1) := by decide +kernel
theorem dX1_redo_1 : decode cX1_redo 1 = .ok (.getfield 36, 3) := by decide +kernel
theorem dX1_redo_4 : decode cX1_redo 4 = .ok (.getfield 69, 3) := by decide +kernel
theorem dX1_redo_7 : decode cX1_redo 7 = .ok (.astore_n 1, 1) := by decide +kernel
theorem dX1_redo_8 : decode cX1_redo 8 = .ok (.aload_n 1, 1) := by decide +kernel
theorem dX1_redo_9 : decode cX1_redo 9 = .ok (.ifnonnull 6, 3) := by decide +kernel
theorem dX1_redo_12 : decode cX1_redo 12 = .ok (.bipush (-7), 2) := by decide +kernel
theorem dX1_redo_14 : decode cX1_redo 14 = .ok (.ireturn, 1) := by decide +kernel
theorem dX1_redo_15 : decode cX1_redo 15 = .ok (.aload_n 0, 1) := by decide +kernel
theorem dX1_redo_16 : decode cX1_redo 16 = .ok (.aload_n 1, 1) := by decide +kernel
theorem dX1_redo_17 : decode cX1_redo 17 = .ok (.invokevirtual 65, 3) := by decide +kernel
theorem dX1_redo_20 : decode cX1_redo 20 = .ok (.aload_n 1, 1) := by decide +kernel
theorem dX1_redo_21 : decode cX1_redo 21 = .ok (.getfield 55, 3) := by decide +kernel
theorem dX1_redo_24 : decode cX1_redo 24 = .ok (.ireturn, 1) := by decide +kernel
theorem dX1_jump_0 : decode cX1_jump 0 = .ok (.aload_n 0, 1) := by decide +kernel
theorem dX1_jump_1 : decode cX1_jump 1 = .ok (.iload_n 1, 1) := by decide +kernel
theorem dX1_jump_2 : decode cX1_jump 2 = .ok (.invokevirtual 72, 3) := by decide +kernel
theorem dX1_jump_5 : decode cX1_jump 5 = .ok (.astore_n 2, 1) := by decide +kernel
theorem dX1_jump_6 : decode cX1_jump 6 = .ok (.aload_n 2, 1) := by decide +kernel
theorem dX1_jump_7 : decode cX1_jump 7 = .ok (.ifnonnull 6, 3) := by decide +kernel
theorem dX1_jump_10 : decode cX1_jump 10 = .ok (.bipush (-2), 2) := by decide +kernel
theorem dX1_jump_12 : decode cX1_jump 12 = .ok (.ireturn, 1) := by decide +kernel
theorem dX1_jump_13 : decode cX1_jump 13 = .ok (.aload_n 0, 1) := by decide +kernel
theorem dX1_jump_14 : decode cX1_jump 14 = .ok (.getfield 36, 3) := by decide +kernel
theorem dX1_jump_17 : decode cX1_jump 17 = .ok (.aload_n 2, 1) := by decide +kernel
theorem dX1_jump_18 : decode cX1_jump 18 = .ok (.invokestatic 76, 3) := by decide +kernel
theorem dX1_jump_21 : decode cX1_jump 21 = .ok (.istore_n 3, 1) := by decide +kernel
theorem dX1_jump_22 : decode cX1_jump 22 = .ok (.aload_n 0, 1) := by decide +kernel
theorem dX1_jump_23 : decode cX1_jump 23 = .ok (.aload_n 2, 1) := by decide +kernel
theorem dX1_jump_24 : decode cX1_jump 24 = .ok (.invokevirtual 65, 3) := by decide +kernel
theorem dX1_jump_27 : decode cX1_jump 27 = .ok (.iload_n 3, 1) := by decide +kernel
theorem dX1_jump_28 : decode cX1_jump 28 = .ok (.ireturn, 1) := by decide +kernel
theorem dX1_undoEdit_0 : decode cX1_undoEdit 0 = .ok (.aload_n 0, 1) := by decide +kernel
theorem dX1_undoEdit_1 : decode cX1_undoEdit 1 = .ok (.iload_n 1, 1) := by decide +kernel
theorem dX1_undoEdit_2 : decode cX1_undoEdit 2 = .ok (.invokevirtual 72, 3) := by decide +kernel
theorem dX1_undoEdit_5 : decode cX1_undoEdit 5 = .ok (.astore_n 2, 1) := by decide +kernel
theorem dX1_undoEdit_6 : decode cX1_undoEdit 6 = .ok (.aload_n 2, 1) := by decide +kernel
theorem dX1_undoEdit_7 : decode cX1_undoEdit 7 = .ok (.ifnonnull 6, 3) := by decide +kernel
theorem dX1_undoEdit_10 : decode cX1_undoEdit 10 = .ok (.bipush (-2), 2) := by decide +kernel
theorem dX1_undoEdit_12 : decode cX1_undoEdit 12 = .ok (.ireturn, 1) := by decide +kernel
theorem dX1_undoEdit_13 : decode cX1_undoEdit 13 = .ok (.aload_n 2, 1) := by decide +kernel
theorem dX1_undoEdit_14 : decode cX1_undoEdit 14 = .ok (.getfield 62, 3) := by decide +kernel
theorem dX1_undoEdit_17 : decode cX1_undoEdit 17 = .ok (.astore_n 3, 1) := by decide +kernel
theorem dX1_undoEdit_18 : decode cX1_undoEdit 18 = .ok (.aload_n 3, 1) := by decide +kernel
theorem dX1_undoEdit_19 : decode cX1_undoEdit 19 = .ok (.ifnull 14, 3) := by decide +kernel
theorem dX1_undoEdit_22 : decode cX1_undoEdit 22 = .ok (.aload_n 2, 1) := by decide +kernel
theorem dX1_undoEdit_23 : decode cX1_undoEdit 23 = .ok (.aload_n 0, 1) := by decide +kernel
theorem dX1_undoEdit_24 : decode cX1_undoEdit 24 = .ok (.getfield 36, 3) := by decide +kernel
theorem dX1_undoEdit_27 : decode cX1_undoEdit 27 = .ok (.invokestatic 80, 3) := by decide +kernel
theorem dX1_undoEdit_30 : decode cX1_undoEdit 30 = .ok (.ifCond .ne 6, 3) := by decide +kernel
theorem dX1_undoEdit_33 : decode cX1_undoEdit 33 = .ok (.bipush (-6), 2) := by decide +kernel
theorem dX1_undoEdit_35 : decode cX1_undoEdit 35 = .ok (.ireturn, 1) := by decide +kernel
theorem dX1_undoEdit_36 : decode cX1_undoEdit 36 = .ok (.aload_n 0, 1) := by decide +kernel
theorem dX1_undoEdit_37 : decode cX1_undoEdit 37 = .ok (.aload_n 2, 1) := by decide +kernel
theorem dX1_undoEdit_38 : decode cX1_undoEdit 38 = .ok (.invokevirtual 84, 3) := by decide +kernel
theorem dX1_undoEdit_41 : decode cX1_undoEdit 41 = .ok (.istore 4, 2) := by decide +kernel
theorem dX1_undoEdit_43 : decode cX1_undoEdit 43 = .ok (.iload 4, 2) := by decide +kernel
theorem dX1_undoEdit_45 : decode cX1_undoEdit 45 = .ok (.ifCond .ge 6, 3) := by decide +kernel
theorem dX1_undoEdit_48 : decode cX1_undoEdit 48 = .ok (.bipush (-5), 2) := by decide +kernel
theorem dX1_undoEdit_50 : decode cX1_undoEdit 50 = .ok (.ireturn, 1) := by decide +kernel
theorem dX1_undoEdit_51 : decode cX1_undoEdit 51 = .ok (.aload_n 2, 1) := by decide +kernel
theorem dX1_undoEdit_52 : decode cX1_undoEdit 52 = .ok (.getfield 88, 3) := by decide +kernel
theorem dX1_undoEdit_55 : decode cX1_undoEdit 55 = .ok (.ifCond .eq 17, 3) := by decide +kernel
theorem dX1_undoEdit_58 : decode cX1_undoEdit 58 = .ok (.aload_n 0, 1) := by decide +kernel
theorem dX1_undoEdit_59 : decode cX1_undoEdit 59 = .ok (.aload_n 2, 1) := by decide +kernel
theorem dX1_undoEdit_60 : decode cX1_undoEdit 60 = .ok (.getfield 92, 3) := by decide +kernel
theorem dX1_undoEdit_63 : decode cX1_undoEdit 63 = .ok (.invokevirtual 43, 3) := by decide +kernel
theorem dX1_undoEdit_66 : decode cX1_undoEdit 66 = .ok (.ifCond .ne 6, 3) := by decide +kernel
theorem dX1_undoEdit_69 : decode cX1_undoEdit 69 = .ok (.bipush (-4), 2) := by decide +kernel
theorem dX1_undoEdit_71 : decode cX1_undoEdit 71 = .ok (.ireturn, 1) := by decide +kernel
theorem dX1_undoEdit_72 : decode cX1_undoEdit 72 = .ok (.aload_n 0, 1) := by decide +kernel
theorem dX1_undoEdit_73 : decode cX1_undoEdit 73 = .ok (.invokevirtual 47, 3) := by decide +kernel
theorem dX1_undoEdit_76 : decode cX1_undoEdit 76 = .ok (.ifCond .eq 6, 3) := by decide +kernel
theorem dX1_undoEdit_79 : decode cX1_undoEdit 79 = .ok (.bipush (-3), 2) := by decide +kernel
theorem dX1_undoEdit_81 : decode cX1_undoEdit 81 = .ok (.ireturn, 1) := by decide +kernel
theorem dX1_undoEdit_82 : decode cX1_undoEdit 82 = .ok (.aload_n 2, 1) := by decide +kernel
theorem dX1_undoEdit_83 : decode cX1_undoEdit 83 = .ok (.getfield 88, 3) := by decide +kernel
theorem dX1_undoEdit_86 : decode cX1_undoEdit 86 = .ok (.ifCond .eq 24, 3) := by decide +kernel
theorem dX1_undoEdit_89 : decode cX1_undoEdit 89 = .ok (.aload_n 0, 1) := by decide +kernel
theorem dX1_undoEdit_90 : decode cX1_undoEdit 90 = .ok (.iload 4, 2) := by decide +kernel
theorem dX1_undoEdit_92 : decode cX1_undoEdit 92 = .ok (.aload_n 3, 1) := by decide +kernel
theorem dX1_undoEdit_93 : decode cX1_undoEdit 93 = .ok (.getfield 95, 3) := by decide +kernel
theorem dX1_undoEdit_96 : decode cX1_undoEdit 96 = .ok (.aload_n 2, 1) := by decide +kernel
theorem dX1_undoEdit_97 : decode cX1_undoEdit 97 = .ok (.getfield 98, 3) := by decide +kernel
theorem dX1_undoEdit_100 : decode cX1_undoEdit 100 = .ok (.aload_n 2, 1) := by decide +kernel
theorem dX1_undoEdit_101 : decode cX1_undoEdit 101 = .ok (.getfield 92, 3) := by decide +kernel
theorem dX1_undoEdit_104 : decode cX1_undoEdit 104 = .ok (.invokevirtual 51, 3) := by decide +kernel
theorem dX1_undoEdit_107 : decode cX1_undoEdit 107 = .ok (.goto 13, 3) := by decide +kernel
theorem dX1_undoEdit_110 : decode cX1_undoEdit 110 = .ok (.aload_n 0, 1) := by decide +kernel
theorem dX1_undoEdit_111 : decode cX1_undoEdit 111 = .ok (.iload 4, 2) := by decide +kernel
theorem dX1_undoEdit_113 : decode cX1_undoEdit 113 = .ok (.aload_n 2, 1) := by decide +kernel
theorem dX1_undoEdit_114 : decode cX1_undoEdit 114 = .ok (.getfield 92, 3) := by decide +kernel
theorem dX1_undoEdit_117 : decode cX1_undoEdit 117 = .ok (.invokevirtual 58, 3) := by decide +kernel
theorem dX1_undoEdit_120 : decode cX1_undoEdit 120 = .ok (.aload_n 0, 1) := by decide +kernel
theorem dX1_undoEdit_121 : decode cX1_undoEdit 121 = .ok (.getfield 36, 3) := by decide +kernel
theorem dX1_undoEdit_124 : decode cX1_undoEdit 124 = .ok (.getfield 55, 3) := by decide +kernel
theorem dX1_undoEdit_127 : decode cX1_undoEdit 127 = .ok (.ireturn, 1) := by decide +kernel
theorem dX1_conflictWith_0 : decode cX1_conflictWith 0 = .ok (.aload_n 0, 1) := by decide +kernel
theorem dX1_conflictWith_1 : decode cX1_conflictWith 1 = .ok (.iload_n 1, 1) := by decide +kernel
theorem dX1_conflictWith_2 : decode cX1_conflictWith 2 = .ok (.invokevirtual 72, 3) := by decide +kernel
theorem dX1_conflictWith_5 : decode cX1_conflictWith 5 = .ok (.astore_n 2, 1) := by decide +kernel
theorem dX1_conflictWith_6 : decode cX1_conflictWith 6 = .ok (.aload_n 2, 1) := by decide +kernel
theorem dX1_conflictWith_7 : decode cX1_conflictWith 7 = .ok (.ifnonnull 6, 3) := by decide +kernel
theorem dX1_conflictWith_10 : decode cX1_conflictWith 10 = .ok (.bipush (-2), 2) := by decide +kernel
theorem dX1_conflictWith_12 : decode cX1_conflictWith 12 = .ok (.ireturn, 1) := by decide +kernel
theorem dX1_conflictWith_13 : decode cX1_conflictWith 13 = .ok (.aload_n 2, 1) := by decide +kernel
theorem dX1_conflictWith_14 : decode cX1_conflictWith 14 = .ok (.getfield 62, 3) := by decide +kernel
theorem dX1_conflictWith_17 : decode cX1_conflictWith 17 = .ok (.ifnull 14, 3) := by decide +kernel
theorem dX1_conflictWith_20 : decode cX1_conflictWith 20 = .ok (.aload_n 2, 1) := by decide +kernel
theorem dX1_conflictWith_21 : decode cX1_conflictWith 21 = .ok (.aload_n 0, 1) := by decide +kernel
theorem dX1_conflictWith_22 : decode cX1_conflictWith 22 = .ok (.getfield 36, 3) := by decide +kernel
theorem dX1_conflictWith_25 : decode cX1_conflictWith 25 = .ok (.invokestatic 80, 3) := by decide +kernel
theorem dX1_conflictWith_28 : decode cX1_conflictWith 28 = .ok (.ifCond .ne 6, 3) := by decide +kernel
theorem dX1_conflictWith_31 : decode cX1_conflictWith 31 = .ok (.bipush (-6), 2) := by decide +kernel
theorem dX1_conflictWith_33 : decode cX1_conflictWith 33 = .ok (.ireturn, 1) := by decide +kernel
theorem dX1_conflictWith_34 : decode cX1_conflictWith 34 = .ok (.aload_n 0, 1) := by decide +kernel
theorem dX1_conflictWith_35 : decode cX1_conflictWith 35 = .ok (.aload_n 2, 1) := by decide +kernel
theorem dX1_conflictWith_36 : decode cX1_conflictWith 36 = .ok (.invokevirtual 101, 3) := by decide +kernel
theorem dX1_conflictWith_39 : decode cX1_conflictWith 39 = .ok (.invokestatic 105, 3) := by decide +kernel
theorem dX1_conflictWith_42 : decode cX1_conflictWith 42 = .ok (.ireturn, 1) := by decide +kernel
theorem dX1_current_0 : decode cX1_current 0 = .ok (.aload_n 0, 1) := by decide +kernel
theorem dX1_current_1 : decode cX1_current 1 = .ok (.getfield 36, 3) := by decide +kernel
theorem dX1_current_4 : decode cX1_current 4 = .ok (.getfield 55, 3) := by decide +kernel
theorem dX1_current_7 : decode cX1_current 7 = .ok (.ireturn, 1) := by decide +kernel
theorem dX1_nodeCount_0 : decode cX1_nodeCount 0 = .ok (.aload_n 0, 1) := by decide +kernel
theorem dX1_nodeCount_1 : decode cX1_nodeCount 1 = .ok (.getfield 15, 3) := by decide +kernel
theorem dX1_nodeCount_4 : decode cX1_nodeCount 4 = .ok (.ireturn, 1) := by decide +kernel
theorem dX1_lengthOf_0 : decode cX1_lengthOf 0 = .ok (.aload_n 0, 1) := by decide +kernel
theorem dX1_lengthOf_1 : decode cX1_lengthOf 1 = .ok (.iload_n 1, 1) := by decide +kernel
theorem dX1_lengthOf_2 : decode cX1_lengthOf 2 = .ok (.invokevirtual 72, 3) := by decide +kernel
theorem dX1_lengthOf_5 : decode cX1_lengthOf 5 = .ok (.astore_n 2, 1) := by decide +kernel
theorem dX1_lengthOf_6 : decode cX1_lengthOf 6 = .ok (.aload_n 2, 1) := by decide +kernel
theorem dX1_lengthOf_7 : decode cX1_lengthOf 7 = .ok (.ifnonnull 8, 3) := by decide +kernel
theorem dX1_lengthOf_10 : decode cX1_lengthOf 10 = .ok (.bipush (-2), 2) := by decide +kernel
theorem dX1_lengthOf_12 : decode cX1_lengthOf 12 = .ok (.goto 7, 3) := by decide +kernel
theorem dX1_lengthOf_15 : decode cX1_lengthOf 15 = .ok (.aload_n 2, 1) := by decide +kernel
theorem dX1_lengthOf_16 : decode cX1_lengthOf 16 = .ok (.getfield 40, 3) := by decide +kernel
theorem dX1_lengthOf_19 : decode cX1_lengthOf 19 = .ok (.ireturn, 1) := by decide +kernel
theorem dX1_characterOf_0 : decode cX1_characterOf 0 = .ok (.aload_n 0, 1) := by decide +kernel
theorem dX1_characterOf_1 : decode cX1_characterOf 1 = .ok (.iload_n 1, 1) := by decide +kernel
theorem dX1_characterOf_2 : decode cX1_characterOf 2 = .ok (.invokevirtual 72, 3) := by decide +kernel
theorem dX1_characterOf_5 : decode cX1_characterOf 5 = .ok (.astore_n 3, 1) := by decide +kernel
theorem dX1_characterOf_6 : decode cX1_characterOf 6 = .ok (.aload_n 3, 1) := by decide +kernel
theorem dX1_characterOf_7 : decode cX1_characterOf 7 = .ok (.ifnonnull 6, 3) := by decide +kernel
theorem dX1_characterOf_10 : decode cX1_characterOf 10 = .ok (.bipush (-2), 2) := by decide +kernel
theorem dX1_characterOf_12 : decode cX1_characterOf 12 = .ok (.ireturn, 1) := by decide +kernel
theorem dX1_characterOf_13 : decode cX1_characterOf 13 = .ok (.iload_n 2, 1) := by decide +kernel
theorem dX1_characterOf_14 : decode cX1_characterOf 14 = .ok (.ifCond .lt 11, 3) := by decide +kernel
theorem dX1_characterOf_17 : decode cX1_characterOf 17 = .ok (.iload_n 2, 1) := by decide +kernel
theorem dX1_characterOf_18 : decode cX1_characterOf 18 = .ok (.aload_n 3, 1) := by decide +kernel
theorem dX1_characterOf_19 : decode cX1_characterOf 19 = .ok (.getfield 40, 3) := by decide +kernel
theorem dX1_characterOf_22 : decode cX1_characterOf 22 = .ok (.if_icmp .lt 5, 3) := by decide +kernel
theorem dX1_characterOf_25 : decode cX1_characterOf 25 = .ok (.iconst (-1), 1) := by decide +kernel
theorem dX1_characterOf_26 : decode cX1_characterOf 26 = .ok (.ireturn, 1) := by decide +kernel
theorem dX1_characterOf_27 : decode cX1_characterOf 27 = .ok (.aload_n 3, 1) := by decide +kernel
theorem dX1_characterOf_28 : decode cX1_characterOf 28 = .ok (.getfield 95, 3) := by decide +kernel
theorem dX1_characterOf_31 : decode cX1_characterOf 31 = .ok (.iload_n 2, 1) := by decide +kernel
theorem dX1_characterOf_32 : decode cX1_characterOf 32 = .ok (.caload, 1) := by decide +kernel
theorem dX1_characterOf_33 : decode cX1_characterOf 33 = .ok (.ireturn, 1) := by decide +kernel
theorem dX1_editOf_0 : decode cX1_editOf 0 = .ok (.aload_n 0, 1) := by decide +kernel
theorem dX1_editOf_1 : decode cX1_editOf 1 = .ok (.iload_n 1, 1) := by decide +kernel
theorem dX1_editOf_2 : decode cX1_editOf 2 = .ok (.invokevirtual 72, 3) := by decide +kernel
theorem dX1_editOf_5 : decode cX1_editOf 5 = .ok (.astore_n 2, 1) := by decide +kernel
theorem dX1_editOf_6 : decode cX1_editOf 6 = .ok (.aload_n 2, 1) := by decide +kernel
theorem dX1_editOf_7 : decode cX1_editOf 7 = .ok (.ifnonnull 6, 3) := by decide +kernel
theorem dX1_editOf_10 : decode cX1_editOf 10 = .ok (.bipush (-2), 2) := by decide +kernel
theorem dX1_editOf_12 : decode cX1_editOf 12 = .ok (.ireturn, 1) := by decide +kernel
theorem dX1_editOf_13 : decode cX1_editOf 13 = .ok (.aload_n 2, 1) := by decide +kernel
theorem dX1_editOf_14 : decode cX1_editOf 14 = .ok (.getfield 62, 3) := by decide +kernel
theorem dX1_editOf_17 : decode cX1_editOf 17 = .ok (.ifnonnull 8, 3) := by decide +kernel
theorem dX1_editOf_20 : decode cX1_editOf 20 = .ok (.bipush (-6), 2) := by decide +kernel
theorem dX1_editOf_22 : decode cX1_editOf 22 = .ok (.goto 7, 3) := by decide +kernel
theorem dX1_editOf_25 : decode cX1_editOf 25 = .ok (.aload_n 2, 1) := by decide +kernel
theorem dX1_editOf_26 : decode cX1_editOf 26 = .ok (.invokestatic 108, 3) := by decide +kernel
theorem dX1_editOf_29 : decode cX1_editOf 29 = .ok (.ireturn, 1) := by decide +kernel
theorem dX1_parentOf_0 : decode cX1_parentOf 0 = .ok (.aload_n 0, 1) := by decide +kernel
theorem dX1_parentOf_1 : decode cX1_parentOf 1 = .ok (.iload_n 1, 1) := by decide +kernel
theorem dX1_parentOf_2 : decode cX1_parentOf 2 = .ok (.invokevirtual 72, 3) := by decide +kernel
theorem dX1_parentOf_5 : decode cX1_parentOf 5 = .ok (.astore_n 2, 1) := by decide +kernel
theorem dX1_parentOf_6 : decode cX1_parentOf 6 = .ok (.aload_n 2, 1) := by decide +kernel
theorem dX1_parentOf_7 : decode cX1_parentOf 7 = .ok (.ifnonnull 6, 3) := by decide +kernel
theorem dX1_parentOf_10 : decode cX1_parentOf 10 = .ok (.bipush (-2), 2) := by decide +kernel
theorem dX1_parentOf_12 : decode cX1_parentOf 12 = .ok (.ireturn, 1) := by decide +kernel
theorem dX1_parentOf_13 : decode cX1_parentOf 13 = .ok (.aload_n 2, 1) := by decide +kernel
theorem dX1_parentOf_14 : decode cX1_parentOf 14 = .ok (.getfield 62, 3) := by decide +kernel
theorem dX1_parentOf_17 : decode cX1_parentOf 17 = .ok (.astore_n 3, 1) := by decide +kernel
theorem dX1_parentOf_18 : decode cX1_parentOf 18 = .ok (.aload_n 3, 1) := by decide +kernel
theorem dX1_parentOf_19 : decode cX1_parentOf 19 = .ok (.ifnonnull 8, 3) := by decide +kernel
theorem dX1_parentOf_22 : decode cX1_parentOf 22 = .ok (.bipush (-6), 2) := by decide +kernel
theorem dX1_parentOf_24 : decode cX1_parentOf 24 = .ok (.goto 7, 3) := by decide +kernel
theorem dX1_parentOf_27 : decode cX1_parentOf 27 = .ok (.aload_n 3, 1) := by decide +kernel
theorem dX1_parentOf_28 : decode cX1_parentOf 28 = .ok (.getfield 55, 3) := by decide +kernel
theorem dX1_parentOf_31 : decode cX1_parentOf 31 = .ok (.ireturn, 1) := by decide +kernel
theorem dX1_childOf_0 : decode cX1_childOf 0 = .ok (.aload_n 0, 1) := by decide +kernel
theorem dX1_childOf_1 : decode cX1_childOf 1 = .ok (.iload_n 1, 1) := by decide +kernel
theorem dX1_childOf_2 : decode cX1_childOf 2 = .ok (.invokevirtual 72, 3) := by decide +kernel
theorem dX1_childOf_5 : decode cX1_childOf 5 = .ok (.astore_n 3, 1) := by decide +kernel
theorem dX1_childOf_6 : decode cX1_childOf 6 = .ok (.aload_n 3, 1) := by decide +kernel
theorem dX1_childOf_7 : decode cX1_childOf 7 = .ok (.ifnonnull 6, 3) := by decide +kernel
theorem dX1_childOf_10 : decode cX1_childOf 10 = .ok (.bipush (-2), 2) := by decide +kernel
theorem dX1_childOf_12 : decode cX1_childOf 12 = .ok (.ireturn, 1) := by decide +kernel
theorem dX1_childOf_13 : decode cX1_childOf 13 = .ok (.iconst 0, 1) := by decide +kernel
theorem dX1_childOf_14 : decode cX1_childOf 14 = .ok (.istore 4, 2) := by decide +kernel
theorem dX1_childOf_16 : decode cX1_childOf 16 = .ok (.iconst 0, 1) := by decide +kernel
theorem dX1_childOf_17 : decode cX1_childOf 17 = .ok (.istore 5, 2) := by decide +kernel
theorem dX1_childOf_19 : decode cX1_childOf 19 = .ok (.iload 5, 2) := by decide +kernel
theorem dX1_childOf_21 : decode cX1_childOf 21 = .ok (.aload_n 0, 1) := by decide +kernel
theorem dX1_childOf_22 : decode cX1_childOf 22 = .ok (.getfield 15, 3) := by decide +kernel
theorem dX1_childOf_25 : decode cX1_childOf 25 = .ok (.if_icmp .ge 43, 3) := by decide +kernel
theorem dX1_childOf_28 : decode cX1_childOf 28 = .ok (.aload_n 0, 1) := by decide +kernel
theorem dX1_childOf_29 : decode cX1_childOf 29 = .ok (.getfield 11, 3) := by decide +kernel
theorem dX1_childOf_32 : decode cX1_childOf 32 = .ok (.iload 5, 2) := by decide +kernel
theorem dX1_childOf_34 : decode cX1_childOf 34 = .ok (.aaload, 1) := by decide +kernel
theorem dX1_childOf_35 : decode cX1_childOf 35 = .ok (.getfield 62, 3) := by decide +kernel
theorem dX1_childOf_38 : decode cX1_childOf 38 = .ok (.aload_n 3, 1) := by decide +kernel
theorem dX1_childOf_39 : decode cX1_childOf 39 = .ok (.if_acmp .ne 23, 3) := by decide +kernel
theorem dX1_childOf_42 : decode cX1_childOf 42 = .ok (.iload 4, 2) := by decide +kernel
theorem dX1_childOf_44 : decode cX1_childOf 44 = .ok (.iload_n 2, 1) := by decide +kernel
theorem dX1_childOf_45 : decode cX1_childOf 45 = .ok (.if_icmp .ne 14, 3) := by decide +kernel
theorem dX1_childOf_48 : decode cX1_childOf 48 = .ok (.aload_n 0, 1) := by decide +kernel
theorem dX1_childOf_49 : decode cX1_childOf 49 = .ok (.getfield 11, 3) := by decide +kernel
theorem dX1_childOf_52 : decode cX1_childOf 52 = .ok (.iload 5, 2) := by decide +kernel
theorem dX1_childOf_54 : decode cX1_childOf 54 = .ok (.aaload, 1) := by decide +kernel
theorem dX1_childOf_55 : decode cX1_childOf 55 = .ok (.getfield 55, 3) := by decide +kernel
theorem dX1_childOf_58 : decode cX1_childOf 58 = .ok (.ireturn, 1) := by decide +kernel
theorem dX1_childOf_59 : decode cX1_childOf 59 = .ok (.iinc 4 1, 3) := by decide +kernel
theorem dX1_childOf_62 : decode cX1_childOf 62 = .ok (.iinc 5 1, 3) := by decide +kernel
theorem dX1_childOf_65 : decode cX1_childOf 65 = .ok (.goto (-46), 3) := by decide +kernel
theorem dX1_childOf_68 : decode cX1_childOf 68 = .ok (.bipush (-7), 2) := by decide +kernel
theorem dX1_childOf_70 : decode cX1_childOf 70 = .ok (.ireturn, 1) := by decide +kernel
theorem dX1_favouriteOf_0 : decode cX1_favouriteOf 0 = .ok (.aload_n 0, 1) := by decide +kernel
theorem dX1_favouriteOf_1 : decode cX1_favouriteOf 1 = .ok (.iload_n 1, 1) := by decide +kernel
theorem dX1_favouriteOf_2 : decode cX1_favouriteOf 2 = .ok (.invokevirtual 72, 3) := by decide +kernel
theorem dX1_favouriteOf_5 : decode cX1_favouriteOf 5 = .ok (.astore_n 2, 1) := by decide +kernel
theorem dX1_favouriteOf_6 : decode cX1_favouriteOf 6 = .ok (.aload_n 2, 1) := by decide +kernel
theorem dX1_favouriteOf_7 : decode cX1_favouriteOf 7 = .ok (.ifnonnull 8, 3) := by decide +kernel
theorem dX1_favouriteOf_10 : decode cX1_favouriteOf 10 = .ok (.bipush (-2), 2) := by decide +kernel
theorem dX1_favouriteOf_12 : decode cX1_favouriteOf 12 = .ok (.goto 10, 3) := by decide +kernel
theorem dX1_favouriteOf_15 : decode cX1_favouriteOf 15 = .ok (.aload_n 2, 1) := by decide +kernel
theorem dX1_favouriteOf_16 : decode cX1_favouriteOf 16 = .ok (.getfield 69, 3) := by decide +kernel
theorem dX1_favouriteOf_19 : decode cX1_favouriteOf 19 = .ok (.invokestatic 105, 3) := by decide +kernel
theorem dX1_favouriteOf_22 : decode cX1_favouriteOf 22 = .ok (.ireturn, 1) := by decide +kernel
theorem dX1_timeOf_0 : decode cX1_timeOf 0 = .ok (.aload_n 0, 1) := by decide +kernel
theorem dX1_timeOf_1 : decode cX1_timeOf 1 = .ok (.iload_n 1, 1) := by decide +kernel
theorem dX1_timeOf_2 : decode cX1_timeOf 2 = .ok (.invokevirtual 72, 3) := by decide +kernel
theorem dX1_timeOf_5 : decode cX1_timeOf 5 = .ok (.astore_n 2, 1) := by decide +kernel
theorem dX1_timeOf_6 : decode cX1_timeOf 6 = .ok (.aload_n 2, 1) := by decide +kernel
theorem dX1_timeOf_7 : decode cX1_timeOf 7 = .ok (.ifnonnull 8, 3) := by decide +kernel
theorem dX1_timeOf_10 : decode cX1_timeOf 10 = .ok (.bipush (-2), 2) := by decide +kernel
theorem dX1_timeOf_12 : decode cX1_timeOf 12 = .ok (.goto 7, 3) := by decide +kernel
theorem dX1_timeOf_15 : decode cX1_timeOf 15 = .ok (.aload_n 2, 1) := by decide +kernel
theorem dX1_timeOf_16 : decode cX1_timeOf 16 = .ok (.getfield 111, 3) := by decide +kernel
theorem dX1_timeOf_19 : decode cX1_timeOf 19 = .ok (.ireturn, 1) := by decide +kernel
theorem dX1_commonAncestor_0 : decode cX1_commonAncestor 0 = .ok (.aload_n 0, 1) := by decide +kernel
theorem dX1_commonAncestor_1 : decode cX1_commonAncestor 1 = .ok (.iload_n 1, 1) := by decide +kernel
theorem dX1_commonAncestor_2 : decode cX1_commonAncestor 2 = .ok (.invokevirtual 72, 3) := by decide +kernel
theorem dX1_commonAncestor_5 : decode cX1_commonAncestor 5 = .ok (.astore_n 3, 1) := by decide +kernel
theorem dX1_commonAncestor_6 : decode cX1_commonAncestor 6 = .ok (.aload_n 0, 1) := by decide +kernel
theorem dX1_commonAncestor_7 : decode cX1_commonAncestor 7 = .ok (.iload_n 2, 1) := by decide +kernel
theorem dX1_commonAncestor_8 : decode cX1_commonAncestor 8 = .ok (.invokevirtual 72, 3) := by decide +kernel
theorem dX1_commonAncestor_11 : decode cX1_commonAncestor 11 = .ok (.astore 4, 2) := by decide +kernel
theorem dX1_commonAncestor_13 : decode cX1_commonAncestor 13 = .ok (.aload_n 3, 1) := by decide +kernel
theorem dX1_commonAncestor_14 : decode cX1_commonAncestor 14 = .ok (.ifnull 8, 3) := by decide +kernel
theorem dX1_commonAncestor_17 : decode cX1_commonAncestor 17 = .ok (.aload 4, 2) := by decide +kernel
theorem dX1_commonAncestor_19 : decode cX1_commonAncestor 19 = .ok (.ifnonnull 6, 3) := by decide +kernel
theorem dX1_commonAncestor_22 : decode cX1_commonAncestor 22 = .ok (.bipush (-2), 2) := by decide +kernel
theorem dX1_commonAncestor_24 : decode cX1_commonAncestor 24 = .ok (.ireturn, 1) := by decide +kernel
theorem dX1_commonAncestor_25 : decode cX1_commonAncestor 25 = .ok (.aload_n 3, 1) := by decide +kernel
theorem dX1_commonAncestor_26 : decode cX1_commonAncestor 26 = .ok (.aload 4, 2) := by decide +kernel
theorem dX1_commonAncestor_28 : decode cX1_commonAncestor 28 = .ok (.invokestatic 114, 3) := by decide +kernel
theorem dX1_commonAncestor_31 : decode cX1_commonAncestor 31 = .ok (.getfield 55, 3) := by decide +kernel
theorem dX1_commonAncestor_34 : decode cX1_commonAncestor 34 = .ok (.ireturn, 1) := by decide +kernel
theorem dX1_distance_0 : decode cX1_distance 0 = .ok (.aload_n 0, 1) := by decide +kernel
theorem dX1_distance_1 : decode cX1_distance 1 = .ok (.iload_n 1, 1) := by decide +kernel
theorem dX1_distance_2 : decode cX1_distance 2 = .ok (.invokevirtual 72, 3) := by decide +kernel
theorem dX1_distance_5 : decode cX1_distance 5 = .ok (.astore_n 3, 1) := by decide +kernel
theorem dX1_distance_6 : decode cX1_distance 6 = .ok (.aload_n 0, 1) := by decide +kernel
theorem dX1_distance_7 : decode cX1_distance 7 = .ok (.iload_n 2, 1) := by decide +kernel
theorem dX1_distance_8 : decode cX1_distance 8 = .ok (.invokevirtual 72, 3) := by decide +kernel
theorem dX1_distance_11 : decode cX1_distance 11 = .ok (.astore 4, 2) := by decide +kernel
theorem dX1_distance_13 : decode cX1_distance 13 = .ok (.aload_n 3, 1) := by decide +kernel
theorem dX1_distance_14 : decode cX1_distance 14 = .ok (.ifnull 8, 3) := by decide +kernel
theorem dX1_distance_17 : decode cX1_distance 17 = .ok (.aload 4, 2) := by decide +kernel
theorem dX1_distance_19 : decode cX1_distance 19 = .ok (.ifnonnull 6, 3) := by decide +kernel
theorem dX1_distance_22 : decode cX1_distance 22 = .ok (.bipush (-2), 2) := by decide +kernel
theorem dX1_distance_24 : decode cX1_distance 24 = .ok (.ireturn, 1) := by decide +kernel
theorem dX1_distance_25 : decode cX1_distance 25 = .ok (.aload_n 3, 1) := by decide +kernel
theorem dX1_distance_26 : decode cX1_distance 26 = .ok (.aload 4, 2) := by decide +kernel
theorem dX1_distance_28 : decode cX1_distance 28 = .ok (.invokestatic 76, 3) := by decide +kernel
theorem dX1_distance_31 : decode cX1_distance 31 = .ok (.ireturn, 1) := by decide +kernel
theorem dX1_setMark_0 : decode cX1_setMark 0 = .ok (.iload_n 1, 1) := by decide +kernel
theorem dX1_setMark_1 : decode cX1_setMark 1 = .ok (.invokestatic 118, 3) := by decide +kernel
theorem dX1_setMark_4 : decode cX1_setMark 4 = .ok (.ifCond .ne 5, 3) := by decide +kernel
theorem dX1_setMark_7 : decode cX1_setMark 7 = .ok (.iconst (-1), 1) := by decide +kernel
theorem dX1_setMark_8 : decode cX1_setMark 8 = .ok (.ireturn, 1) := by decide +kernel
theorem dX1_setMark_9 : decode cX1_setMark 9 = .ok (.aload_n 0, 1) := by decide +kernel
theorem dX1_setMark_10 : decode cX1_setMark 10 = .ok (.iload_n 2, 1) := by decide +kernel
theorem dX1_setMark_11 : decode cX1_setMark 11 = .ok (.invokevirtual 72, 3) := by decide +kernel
theorem dX1_setMark_14 : decode cX1_setMark 14 = .ok (.astore_n 3, 1) := by decide +kernel
theorem dX1_setMark_15 : decode cX1_setMark 15 = .ok (.aload_n 3, 1) := by decide +kernel
theorem dX1_setMark_16 : decode cX1_setMark 16 = .ok (.ifnonnull 6, 3) := by decide +kernel
theorem dX1_setMark_19 : decode cX1_setMark 19 = .ok (.bipush (-2), 2) := by decide +kernel
theorem dX1_setMark_21 : decode cX1_setMark 21 = .ok (.ireturn, 1) := by decide +kernel
theorem dX1_setMark_22 : decode cX1_setMark 22 = .ok (.aload_n 0, 1) := by decide +kernel
theorem dX1_setMark_23 : decode cX1_setMark 23 = .ok (.getfield 32, 3) := by decide +kernel
theorem dX1_setMark_26 : decode cX1_setMark 26 = .ok (.iload_n 1, 1) := by decide +kernel
theorem dX1_setMark_27 : decode cX1_setMark 27 = .ok (.aload_n 3, 1) := by decide +kernel
theorem dX1_setMark_28 : decode cX1_setMark 28 = .ok (.aastore, 1) := by decide +kernel
theorem dX1_setMark_29 : decode cX1_setMark 29 = .ok (.aload_n 0, 1) := by decide +kernel
theorem dX1_setMark_30 : decode cX1_setMark 30 = .ok (.aload_n 3, 1) := by decide +kernel
theorem dX1_setMark_31 : decode cX1_setMark 31 = .ok (.invokevirtual 121, 3) := by decide +kernel
theorem dX1_setMark_34 : decode cX1_setMark 34 = .ok (.ireturn, 1) := by decide +kernel
theorem dX1_clearMark_0 : decode cX1_clearMark 0 = .ok (.iload_n 1, 1) := by decide +kernel
theorem dX1_clearMark_1 : decode cX1_clearMark 1 = .ok (.invokestatic 118, 3) := by decide +kernel
theorem dX1_clearMark_4 : decode cX1_clearMark 4 = .ok (.ifCond .ne 5, 3) := by decide +kernel
theorem dX1_clearMark_7 : decode cX1_clearMark 7 = .ok (.iconst (-1), 1) := by decide +kernel
theorem dX1_clearMark_8 : decode cX1_clearMark 8 = .ok (.ireturn, 1) := by decide +kernel
theorem dX1_clearMark_9 : decode cX1_clearMark 9 = .ok (.aload_n 0, 1) := by decide +kernel
theorem dX1_clearMark_10 : decode cX1_clearMark 10 = .ok (.getfield 32, 3) := by decide +kernel
theorem dX1_clearMark_13 : decode cX1_clearMark 13 = .ok (.iload_n 1, 1) := by decide +kernel
theorem dX1_clearMark_14 : decode cX1_clearMark 14 = .ok (.aaload, 1) := by decide +kernel
theorem dX1_clearMark_15 : decode cX1_clearMark 15 = .ok (.invokestatic 105, 3) := by decide +kernel
theorem dX1_clearMark_18 : decode cX1_clearMark 18 = .ok (.istore_n 2, 1) := by decide +kernel
theorem dX1_clearMark_19 : decode cX1_clearMark 19 = .ok (.aload_n 0, 1) := by decide +kernel
theorem dX1_clearMark_20 : decode cX1_clearMark 20 = .ok (.getfield 32, 3) := by decide +kernel
theorem dX1_clearMark_23 : decode cX1_clearMark 23 = .ok (.iload_n 1, 1) := by decide +kernel
theorem dX1_clearMark_24 : decode cX1_clearMark 24 = .ok (.aconst_null, 1) := by decide +kernel
theorem dX1_clearMark_25 : decode cX1_clearMark 25 = .ok (.aastore, 1) := by decide +kernel
theorem dX1_clearMark_26 : decode cX1_clearMark 26 = .ok (.iload_n 2, 1) := by decide +kernel
theorem dX1_clearMark_27 : decode cX1_clearMark 27 = .ok (.ireturn, 1) := by decide +kernel
theorem dX1_goToMark_0 : decode cX1_goToMark 0 = .ok (.iload_n 1, 1) := by decide +kernel
theorem dX1_goToMark_1 : decode cX1_goToMark 1 = .ok (.invokestatic 118, 3) := by decide +kernel
theorem dX1_goToMark_4 : decode cX1_goToMark 4 = .ok (.ifCond .ne 5, 3) := by decide +kernel
theorem dX1_goToMark_7 : decode cX1_goToMark 7 = .ok (.iconst (-1), 1) := by decide +kernel
theorem dX1_goToMark_8 : decode cX1_goToMark 8 = .ok (.ireturn, 1) := by decide +kernel
theorem dX1_goToMark_9 : decode cX1_goToMark 9 = .ok (.aload_n 0, 1) := by decide +kernel
theorem dX1_goToMark_10 : decode cX1_goToMark 10 = .ok (.getfield 32, 3) := by decide +kernel
theorem dX1_goToMark_13 : decode cX1_goToMark 13 = .ok (.iload_n 1, 1) := by decide +kernel
theorem dX1_goToMark_14 : decode cX1_goToMark 14 = .ok (.aaload, 1) := by decide +kernel
theorem dX1_goToMark_15 : decode cX1_goToMark 15 = .ok (.astore_n 2, 1) := by decide +kernel
theorem dX1_goToMark_16 : decode cX1_goToMark 16 = .ok (.aload_n 2, 1) := by decide +kernel
theorem dX1_goToMark_17 : decode cX1_goToMark 17 = .ok (.ifnonnull 6, 3) := by decide +kernel
theorem dX1_goToMark_20 : decode cX1_goToMark 20 = .ok (.bipush (-7), 2) := by decide +kernel
theorem dX1_goToMark_22 : decode cX1_goToMark 22 = .ok (.ireturn, 1) := by decide +kernel
theorem dX1_goToMark_23 : decode cX1_goToMark 23 = .ok (.aload_n 0, 1) := by decide +kernel
theorem dX1_goToMark_24 : decode cX1_goToMark 24 = .ok (.aload_n 2, 1) := by decide +kernel
theorem dX1_goToMark_25 : decode cX1_goToMark 25 = .ok (.invokevirtual 65, 3) := by decide +kernel
theorem dX1_goToMark_28 : decode cX1_goToMark 28 = .ok (.aload_n 2, 1) := by decide +kernel
theorem dX1_goToMark_29 : decode cX1_goToMark 29 = .ok (.getfield 55, 3) := by decide +kernel
theorem dX1_goToMark_32 : decode cX1_goToMark 32 = .ok (.ireturn, 1) := by decide +kernel
theorem dX1_oldestLeaf_0 : decode cX1_oldestLeaf 0 = .ok (.aconst_null, 1) := by decide +kernel
theorem dX1_oldestLeaf_1 : decode cX1_oldestLeaf 1 = .ok (.astore_n 1, 1) := by decide +kernel
theorem dX1_oldestLeaf_2 : decode cX1_oldestLeaf 2 = .ok (.iconst 0, 1) := by decide +kernel
theorem dX1_oldestLeaf_3 : decode cX1_oldestLeaf 3 = .ok (.istore_n 2, 1) := by decide +kernel
theorem dX1_oldestLeaf_4 : decode cX1_oldestLeaf 4 = .ok (.iload_n 2, 1) := by decide +kernel
theorem dX1_oldestLeaf_5 : decode cX1_oldestLeaf 5 = .ok (.aload_n 0, 1) := by decide +kernel
theorem dX1_oldestLeaf_6 : decode cX1_oldestLeaf 6 = .ok (.getfield 15, 3) := by decide +kernel
theorem dX1_oldestLeaf_9 : decode cX1_oldestLeaf 9 = .ok (.if_icmp .ge 41, 3) := by decide +kernel
theorem dX1_oldestLeaf_12 : decode cX1_oldestLeaf 12 = .ok (.aload_n 0, 1) := by decide +kernel
theorem dX1_oldestLeaf_13 : decode cX1_oldestLeaf 13 = .ok (.getfield 11, 3) := by decide +kernel
theorem dX1_oldestLeaf_16 : decode cX1_oldestLeaf 16 = .ok (.iload_n 2, 1) := by decide +kernel
theorem dX1_oldestLeaf_17 : decode cX1_oldestLeaf 17 = .ok (.aaload, 1) := by decide +kernel
theorem dX1_oldestLeaf_18 : decode cX1_oldestLeaf 18 = .ok (.astore_n 3, 1) := by decide +kernel
theorem dX1_oldestLeaf_19 : decode cX1_oldestLeaf 19 = .ok (.aload_n 0, 1) := by decide +kernel
theorem dX1_oldestLeaf_20 : decode cX1_oldestLeaf 20 = .ok (.aload_n 3, 1) := by decide +kernel
theorem dX1_oldestLeaf_21 : decode cX1_oldestLeaf 21 = .ok (.invokevirtual 124, 3) := by decide +kernel
theorem dX1_oldestLeaf_24 : decode cX1_oldestLeaf 24 = .ok (.ifCond .eq 20, 3) := by decide +kernel
theorem dX1_oldestLeaf_27 : decode cX1_oldestLeaf 27 = .ok (.aload_n 1, 1) := by decide +kernel
theorem dX1_oldestLeaf_28 : decode cX1_oldestLeaf 28 = .ok (.ifnull 14, 3) := by decide +kernel
theorem dX1_oldestLeaf_31 : decode cX1_oldestLeaf 31 = .ok (.aload_n 3, 1) := by decide +kernel
theorem dX1_oldestLeaf_32 : decode cX1_oldestLeaf 32 = .ok (.getfield 111, 3) := by decide +kernel
theorem dX1_oldestLeaf_35 : decode cX1_oldestLeaf 35 = .ok (.aload_n 1, 1) := by decide +kernel
theorem dX1_oldestLeaf_36 : decode cX1_oldestLeaf 36 = .ok (.getfield 111, 3) := by decide +kernel
theorem dX1_oldestLeaf_39 : decode cX1_oldestLeaf 39 = .ok (.if_icmp .ge 5, 3) := by decide +kernel
theorem dX1_oldestLeaf_42 : decode cX1_oldestLeaf 42 = .ok (.aload_n 3, 1) := by decide +kernel
theorem dX1_oldestLeaf_43 : decode cX1_oldestLeaf 43 = .ok (.astore_n 1, 1) := by decide +kernel
theorem dX1_oldestLeaf_44 : decode cX1_oldestLeaf 44 = .ok (.iinc 2 1, 3) := by decide +kernel
theorem dX1_oldestLeaf_47 : decode cX1_oldestLeaf 47 = .ok (.goto (-43), 3) := by decide +kernel
theorem dX1_oldestLeaf_50 : decode cX1_oldestLeaf 50 = .ok (.aload_n 1, 1) := by decide +kernel
theorem dX1_oldestLeaf_51 : decode cX1_oldestLeaf 51 = .ok (.invokestatic 105, 3) := by decide +kernel
theorem dX1_oldestLeaf_54 : decode cX1_oldestLeaf 54 = .ok (.ireturn, 1) := by decide +kernel
theorem dX1_forget_0 : decode cX1_forget 0 = .ok (.aload_n 0, 1) := by decide +kernel
theorem dX1_forget_1 : decode cX1_forget 1 = .ok (.iload_n 1, 1) := by decide +kernel
theorem dX1_forget_2 : decode cX1_forget 2 = .ok (.invokevirtual 72, 3) := by decide +kernel
theorem dX1_forget_5 : decode cX1_forget 5 = .ok (.astore_n 2, 1) := by decide +kernel
theorem dX1_forget_6 : decode cX1_forget 6 = .ok (.aload_n 2, 1) := by decide +kernel
theorem dX1_forget_7 : decode cX1_forget 7 = .ok (.ifnonnull 6, 3) := by decide +kernel
theorem dX1_forget_10 : decode cX1_forget 10 = .ok (.bipush (-2), 2) := by decide +kernel
theorem dX1_forget_12 : decode cX1_forget 12 = .ok (.ireturn, 1) := by decide +kernel
theorem dX1_forget_13 : decode cX1_forget 13 = .ok (.aload_n 0, 1) := by decide +kernel
theorem dX1_forget_14 : decode cX1_forget 14 = .ok (.aload_n 2, 1) := by decide +kernel
end
section
theorem dX1_forget_15 : decode cX1_forget 15 = .ok (.invokevirtual 124, 3) := by decide +kernel
theorem dX1_forget_18 : decode cX1_forget 18 = .ok (.ifCond .ne 6, 3) := by decide +kernel
theorem dX1_forget_21 : decode cX1_forget 21 = .ok (.bipush (-6), 2) := by decide +kernel
theorem dX1_forget_23 : decode cX1_forget 23 = .ok (.ireturn, 1) := by decide +kernel
theorem dX1_forget_24 : decode cX1_forget 24 = .ok (.aload_n 2, 1) := by decide +kernel
theorem dX1_forget_25 : decode cX1_forget 25 = .ok (.getfield 62, 3) := by decide +kernel
theorem dX1_forget_28 : decode cX1_forget 28 = .ok (.astore_n 3, 1) := by decide +kernel
theorem dX1_forget_29 : decode cX1_forget 29 = .ok (.aload_n 0, 1) := by decide +kernel
theorem dX1_forget_30 : decode cX1_forget 30 = .ok (.aload_n 2, 1) := by decide +kernel
theorem dX1_forget_31 : decode cX1_forget 31 = .ok (.invokevirtual 128, 3) := by decide +kernel
theorem dX1_forget_34 : decode cX1_forget 34 = .ok (.aload_n 3, 1) := by decide +kernel
theorem dX1_forget_35 : decode cX1_forget 35 = .ok (.ifnull 20, 3) := by decide +kernel
theorem dX1_forget_38 : decode cX1_forget 38 = .ok (.aload_n 3, 1) := by decide +kernel
theorem dX1_forget_39 : decode cX1_forget 39 = .ok (.getfield 69, 3) := by decide +kernel
theorem dX1_forget_42 : decode cX1_forget 42 = .ok (.aload_n 2, 1) := by decide +kernel
theorem dX1_forget_43 : decode cX1_forget 43 = .ok (.if_acmp .ne 12, 3) := by decide +kernel
theorem dX1_forget_46 : decode cX1_forget 46 = .ok (.aload_n 3, 1) := by decide +kernel
theorem dX1_forget_47 : decode cX1_forget 47 = .ok (.aload_n 0, 1) := by decide +kernel
theorem dX1_forget_48 : decode cX1_forget 48 = .ok (.aload_n 3, 1) := by decide +kernel
theorem dX1_forget_49 : decode cX1_forget 49 = .ok (.invokevirtual 131, 3) := by decide +kernel
theorem dX1_forget_52 : decode cX1_forget 52 = .ok (.putfield 69, 3) := by decide +kernel
theorem dX1_forget_55 : decode cX1_forget 55 = .ok (.aload_n 0, 1) := by decide +kernel
theorem dX1_forget_56 : decode cX1_forget 56 = .ok (.getfield 15, 3) := by decide +kernel
theorem dX1_forget_59 : decode cX1_forget 59 = .ok (.ireturn, 1) := by decide +kernel
theorem dX1_digest_0 : decode cX1_digest 0 = .ok (.ldc2_w 134, 3) := by decide +kernel
theorem dX1_digest_3 : decode cX1_digest 3 = .ok (.aload_n 0, 1) := by decide +kernel
theorem dX1_digest_4 : decode cX1_digest 4 = .ok (.getfield 15, 3) := by decide +kernel
theorem dX1_digest_7 : decode cX1_digest 7 = .ok (.i2l, 1) := by decide +kernel
theorem dX1_digest_8 : decode cX1_digest 8 = .ok (.invokestatic 136, 3) := by decide +kernel
theorem dX1_digest_11 : decode cX1_digest 11 = .ok (.lstore_n 1, 1) := by decide +kernel
theorem dX1_digest_12 : decode cX1_digest 12 = .ok (.iconst 0, 1) := by decide +kernel
theorem dX1_digest_13 : decode cX1_digest 13 = .ok (.istore_n 3, 1) := by decide +kernel
theorem dX1_digest_14 : decode cX1_digest 14 = .ok (.iload_n 3, 1) := by decide +kernel
theorem dX1_digest_15 : decode cX1_digest 15 = .ok (.aload_n 0, 1) := by decide +kernel
theorem dX1_digest_16 : decode cX1_digest 16 = .ok (.getfield 15, 3) := by decide +kernel
theorem dX1_digest_19 : decode cX1_digest 19 = .ok (.if_icmp .ge 20, 3) := by decide +kernel
theorem dX1_digest_22 : decode cX1_digest 22 = .ok (.lload_n 1, 1) := by decide +kernel
theorem dX1_digest_23 : decode cX1_digest 23 = .ok (.aload_n 0, 1) := by decide +kernel
theorem dX1_digest_24 : decode cX1_digest 24 = .ok (.getfield 11, 3) := by decide +kernel
theorem dX1_digest_27 : decode cX1_digest 27 = .ok (.iload_n 3, 1) := by decide +kernel
theorem dX1_digest_28 : decode cX1_digest 28 = .ok (.aaload, 1) := by decide +kernel
theorem dX1_digest_29 : decode cX1_digest 29 = .ok (.invokestatic 140, 3) := by decide +kernel
theorem dX1_digest_32 : decode cX1_digest 32 = .ok (.lstore_n 1, 1) := by decide +kernel
theorem dX1_digest_33 : decode cX1_digest 33 = .ok (.iinc 3 1, 3) := by decide +kernel
theorem dX1_digest_36 : decode cX1_digest 36 = .ok (.goto (-22), 3) := by decide +kernel
theorem dX1_digest_39 : decode cX1_digest 39 = .ok (.lload_n 1, 1) := by decide +kernel
theorem dX1_digest_40 : decode cX1_digest 40 = .ok (.aload_n 0, 1) := by decide +kernel
theorem dX1_digest_41 : decode cX1_digest 41 = .ok (.getfield 36, 3) := by decide +kernel
theorem dX1_digest_44 : decode cX1_digest 44 = .ok (.getfield 55, 3) := by decide +kernel
theorem dX1_digest_47 : decode cX1_digest 47 = .ok (.i2l, 1) := by decide +kernel
theorem dX1_digest_48 : decode cX1_digest 48 = .ok (.invokestatic 136, 3) := by decide +kernel
theorem dX1_digest_51 : decode cX1_digest 51 = .ok (.lstore_n 1, 1) := by decide +kernel
theorem dX1_digest_52 : decode cX1_digest 52 = .ok (.lload_n 1, 1) := by decide +kernel
theorem dX1_digest_53 : decode cX1_digest 53 = .ok (.aload_n 0, 1) := by decide +kernel
theorem dX1_digest_54 : decode cX1_digest 54 = .ok (.invokevirtual 144, 3) := by decide +kernel
theorem dX1_digest_57 : decode cX1_digest 57 = .ok (.i2l, 1) := by decide +kernel
theorem dX1_digest_58 : decode cX1_digest 58 = .ok (.invokestatic 136, 3) := by decide +kernel
theorem dX1_digest_61 : decode cX1_digest 61 = .ok (.lstore_n 1, 1) := by decide +kernel
theorem dX1_digest_62 : decode cX1_digest 62 = .ok (.iconst 0, 1) := by decide +kernel
theorem dX1_digest_63 : decode cX1_digest 63 = .ok (.istore_n 3, 1) := by decide +kernel
theorem dX1_digest_64 : decode cX1_digest 64 = .ok (.iload_n 3, 1) := by decide +kernel
theorem dX1_digest_65 : decode cX1_digest 65 = .ok (.iconst 5, 1) := by decide +kernel
theorem dX1_digest_66 : decode cX1_digest 66 = .ok (.if_icmp .ge 24, 3) := by decide +kernel
theorem dX1_digest_69 : decode cX1_digest 69 = .ok (.lload_n 1, 1) := by decide +kernel
theorem dX1_digest_70 : decode cX1_digest 70 = .ok (.aload_n 0, 1) := by decide +kernel
theorem dX1_digest_71 : decode cX1_digest 71 = .ok (.getfield 32, 3) := by decide +kernel
theorem dX1_digest_74 : decode cX1_digest 74 = .ok (.iload_n 3, 1) := by decide +kernel
theorem dX1_digest_75 : decode cX1_digest 75 = .ok (.aaload, 1) := by decide +kernel
theorem dX1_digest_76 : decode cX1_digest 76 = .ok (.invokestatic 105, 3) := by decide +kernel
theorem dX1_digest_79 : decode cX1_digest 79 = .ok (.i2l, 1) := by decide +kernel
theorem dX1_digest_80 : decode cX1_digest 80 = .ok (.invokestatic 136, 3) := by decide +kernel
theorem dX1_digest_83 : decode cX1_digest 83 = .ok (.lstore_n 1, 1) := by decide +kernel
theorem dX1_digest_84 : decode cX1_digest 84 = .ok (.iinc 3 1, 3) := by decide +kernel
theorem dX1_digest_87 : decode cX1_digest 87 = .ok (.goto (-23), 3) := by decide +kernel
theorem dX1_digest_90 : decode cX1_digest 90 = .ok (.lload_n 1, 1) := by decide +kernel
theorem dX1_digest_91 : decode cX1_digest 91 = .ok (.aload_n 0, 1) := by decide +kernel
theorem dX1_digest_92 : decode cX1_digest 92 = .ok (.getfield 22, 3) := by decide +kernel
theorem dX1_digest_95 : decode cX1_digest 95 = .ok (.i2l, 1) := by decide +kernel
theorem dX1_digest_96 : decode cX1_digest 96 = .ok (.invokestatic 136, 3) := by decide +kernel
theorem dX1_digest_99 : decode cX1_digest 99 = .ok (.lstore_n 1, 1) := by decide +kernel
theorem dX1_digest_100 : decode cX1_digest 100 = .ok (.lload_n 1, 1) := by decide +kernel
theorem dX1_digest_101 : decode cX1_digest 101 = .ok (.aload_n 0, 1) := by decide +kernel
theorem dX1_digest_102 : decode cX1_digest 102 = .ok (.getfield 25, 3) := by decide +kernel
theorem dX1_digest_105 : decode cX1_digest 105 = .ok (.aload_n 0, 1) := by decide +kernel
theorem dX1_digest_106 : decode cX1_digest 106 = .ok (.getfield 29, 3) := by decide +kernel
theorem dX1_digest_109 : decode cX1_digest 109 = .ok (.invokestatic 148, 3) := by decide +kernel
theorem dX1_digest_112 : decode cX1_digest 112 = .ok (.lreturn, 1) := by decide +kernel
theorem dX1_find_0 : decode cX1_find 0 = .ok (.iconst 0, 1) := by decide +kernel
theorem dX1_find_1 : decode cX1_find 1 = .ok (.istore_n 2, 1) := by decide +kernel
theorem dX1_find_2 : decode cX1_find 2 = .ok (.iload_n 2, 1) := by decide +kernel
theorem dX1_find_3 : decode cX1_find 3 = .ok (.aload_n 0, 1) := by decide +kernel
theorem dX1_find_4 : decode cX1_find 4 = .ok (.getfield 15, 3) := by decide +kernel
theorem dX1_find_7 : decode cX1_find 7 = .ok (.if_icmp .ge 29, 3) := by decide +kernel
theorem dX1_find_10 : decode cX1_find 10 = .ok (.aload_n 0, 1) := by decide +kernel
theorem dX1_find_11 : decode cX1_find 11 = .ok (.getfield 11, 3) := by decide +kernel
theorem dX1_find_14 : decode cX1_find 14 = .ok (.iload_n 2, 1) := by decide +kernel
theorem dX1_find_15 : decode cX1_find 15 = .ok (.aaload, 1) := by decide +kernel
theorem dX1_find_16 : decode cX1_find 16 = .ok (.getfield 55, 3) := by decide +kernel
theorem dX1_find_19 : decode cX1_find 19 = .ok (.iload_n 1, 1) := by decide +kernel
theorem dX1_find_20 : decode cX1_find 20 = .ok (.if_icmp .ne 10, 3) := by decide +kernel
theorem dX1_find_23 : decode cX1_find 23 = .ok (.aload_n 0, 1) := by decide +kernel
theorem dX1_find_24 : decode cX1_find 24 = .ok (.getfield 11, 3) := by decide +kernel
theorem dX1_find_27 : decode cX1_find 27 = .ok (.iload_n 2, 1) := by decide +kernel
theorem dX1_find_28 : decode cX1_find 28 = .ok (.aaload, 1) := by decide +kernel
theorem dX1_find_29 : decode cX1_find 29 = .ok (.areturn, 1) := by decide +kernel
theorem dX1_find_30 : decode cX1_find 30 = .ok (.iinc 2 1, 3) := by decide +kernel
theorem dX1_find_33 : decode cX1_find 33 = .ok (.goto (-31), 3) := by decide +kernel
theorem dX1_find_36 : decode cX1_find 36 = .ok (.aconst_null, 1) := by decide +kernel
theorem dX1_find_37 : decode cX1_find 37 = .ok (.areturn, 1) := by decide +kernel
theorem dX1_newestChild_0 : decode cX1_newestChild 0 = .ok (.aload_n 0, 1) := by decide +kernel
theorem dX1_newestChild_1 : decode cX1_newestChild 1 = .ok (.getfield 15, 3) := by decide +kernel
theorem dX1_newestChild_4 : decode cX1_newestChild 4 = .ok (.iconst 1, 1) := by decide +kernel
theorem dX1_newestChild_5 : decode cX1_newestChild 5 = .ok (.isub, 1) := by decide +kernel
theorem dX1_newestChild_6 : decode cX1_newestChild 6 = .ok (.istore_n 2, 1) := by decide +kernel
theorem dX1_newestChild_7 : decode cX1_newestChild 7 = .ok (.iload_n 2, 1) := by decide +kernel
theorem dX1_newestChild_8 : decode cX1_newestChild 8 = .ok (.ifCond .lt 29, 3) := by decide +kernel
theorem dX1_newestChild_11 : decode cX1_newestChild 11 = .ok (.aload_n 0, 1) := by decide +kernel
theorem dX1_newestChild_12 : decode cX1_newestChild 12 = .ok (.getfield 11, 3) := by decide +kernel
theorem dX1_newestChild_15 : decode cX1_newestChild 15 = .ok (.iload_n 2, 1) := by decide +kernel
theorem dX1_newestChild_16 : decode cX1_newestChild 16 = .ok (.aaload, 1) := by decide +kernel
theorem dX1_newestChild_17 : decode cX1_newestChild 17 = .ok (.getfield 62, 3) := by decide +kernel
theorem dX1_newestChild_20 : decode cX1_newestChild 20 = .ok (.aload_n 1, 1) := by decide +kernel
theorem dX1_newestChild_21 : decode cX1_newestChild 21 = .ok (.if_acmp .ne 10, 3) := by decide +kernel
theorem dX1_newestChild_24 : decode cX1_newestChild 24 = .ok (.aload_n 0, 1) := by decide +kernel
theorem dX1_newestChild_25 : decode cX1_newestChild 25 = .ok (.getfield 11, 3) := by decide +kernel
theorem dX1_newestChild_28 : decode cX1_newestChild 28 = .ok (.iload_n 2, 1) := by decide +kernel
theorem dX1_newestChild_29 : decode cX1_newestChild 29 = .ok (.aaload, 1) := by decide +kernel
theorem dX1_newestChild_30 : decode cX1_newestChild 30 = .ok (.areturn, 1) := by decide +kernel
theorem dX1_newestChild_31 : decode cX1_newestChild 31 = .ok (.iinc 2 (-1), 3) := by decide +kernel
theorem dX1_newestChild_34 : decode cX1_newestChild 34 = .ok (.goto (-27), 3) := by decide +kernel
theorem dX1_newestChild_37 : decode cX1_newestChild 37 = .ok (.aconst_null, 1) := by decide +kernel
theorem dX1_newestChild_38 : decode cX1_newestChild 38 = .ok (.areturn, 1) := by decide +kernel
theorem dX1_isAncestor_0 : decode cX1_isAncestor 0 = .ok (.aload_n 1, 1) := by decide +kernel
theorem dX1_isAncestor_1 : decode cX1_isAncestor 1 = .ok (.astore_n 2, 1) := by decide +kernel
theorem dX1_isAncestor_2 : decode cX1_isAncestor 2 = .ok (.aload_n 2, 1) := by decide +kernel
theorem dX1_isAncestor_3 : decode cX1_isAncestor 3 = .ok (.ifnull 18, 3) := by decide +kernel
theorem dX1_isAncestor_6 : decode cX1_isAncestor 6 = .ok (.aload_n 2, 1) := by decide +kernel
theorem dX1_isAncestor_7 : decode cX1_isAncestor 7 = .ok (.aload_n 0, 1) := by decide +kernel
theorem dX1_isAncestor_8 : decode cX1_isAncestor 8 = .ok (.if_acmp .ne 5, 3) := by decide +kernel
theorem dX1_isAncestor_11 : decode cX1_isAncestor 11 = .ok (.iconst 1, 1) := by decide +kernel
theorem dX1_isAncestor_12 : decode cX1_isAncestor 12 = .ok (.ireturn, 1) := by decide +kernel
theorem dX1_isAncestor_13 : decode cX1_isAncestor 13 = .ok (.aload_n 2, 1) := by decide +kernel
theorem dX1_isAncestor_14 : decode cX1_isAncestor 14 = .ok (.getfield 62, 3) := by decide +kernel
theorem dX1_isAncestor_17 : decode cX1_isAncestor 17 = .ok (.astore_n 2, 1) := by decide +kernel
theorem dX1_isAncestor_18 : decode cX1_isAncestor 18 = .ok (.goto (-16), 3) := by decide +kernel
theorem dX1_isAncestor_21 : decode cX1_isAncestor 21 = .ok (.iconst 0, 1) := by decide +kernel
theorem dX1_isAncestor_22 : decode cX1_isAncestor 22 = .ok (.ireturn, 1) := by decide +kernel
theorem dX1_lowestCommon_0 : decode cX1_lowestCommon 0 = .ok (.aload_n 0, 1) := by decide +kernel
theorem dX1_lowestCommon_1 : decode cX1_lowestCommon 1 = .ok (.astore_n 2, 1) := by decide +kernel
theorem dX1_lowestCommon_2 : decode cX1_lowestCommon 2 = .ok (.aload_n 2, 1) := by decide +kernel
theorem dX1_lowestCommon_3 : decode cX1_lowestCommon 3 = .ok (.getfield 62, 3) := by decide +kernel
theorem dX1_lowestCommon_6 : decode cX1_lowestCommon 6 = .ok (.ifnull 19, 3) := by decide +kernel
theorem dX1_lowestCommon_9 : decode cX1_lowestCommon 9 = .ok (.aload_n 2, 1) := by decide +kernel
theorem dX1_lowestCommon_10 : decode cX1_lowestCommon 10 = .ok (.aload_n 1, 1) := by decide +kernel
theorem dX1_lowestCommon_11 : decode cX1_lowestCommon 11 = .ok (.invokestatic 80, 3) := by decide +kernel
theorem dX1_lowestCommon_14 : decode cX1_lowestCommon 14 = .ok (.ifCond .ne 11, 3) := by decide +kernel
theorem dX1_lowestCommon_17 : decode cX1_lowestCommon 17 = .ok (.aload_n 2, 1) := by decide +kernel
theorem dX1_lowestCommon_18 : decode cX1_lowestCommon 18 = .ok (.getfield 62, 3) := by decide +kernel
theorem dX1_lowestCommon_21 : decode cX1_lowestCommon 21 = .ok (.astore_n 2, 1) := by decide +kernel
theorem dX1_lowestCommon_22 : decode cX1_lowestCommon 22 = .ok (.goto (-20), 3) := by decide +kernel
theorem dX1_lowestCommon_25 : decode cX1_lowestCommon 25 = .ok (.aload_n 2, 1) := by decide +kernel
theorem dX1_lowestCommon_26 : decode cX1_lowestCommon 26 = .ok (.areturn, 1) := by decide +kernel
theorem dX1_depthOf_0 : decode cX1_depthOf 0 = .ok (.iconst 0, 1) := by decide +kernel
theorem dX1_depthOf_1 : decode cX1_depthOf 1 = .ok (.istore_n 1, 1) := by decide +kernel
theorem dX1_depthOf_2 : decode cX1_depthOf 2 = .ok (.aload_n 0, 1) := by decide +kernel
theorem dX1_depthOf_3 : decode cX1_depthOf 3 = .ok (.getfield 62, 3) := by decide +kernel
theorem dX1_depthOf_6 : decode cX1_depthOf 6 = .ok (.astore_n 2, 1) := by decide +kernel
theorem dX1_depthOf_7 : decode cX1_depthOf 7 = .ok (.aload_n 2, 1) := by decide +kernel
theorem dX1_depthOf_8 : decode cX1_depthOf 8 = .ok (.ifnull 14, 3) := by decide +kernel
theorem dX1_depthOf_11 : decode cX1_depthOf 11 = .ok (.iinc 1 1, 3) := by decide +kernel
theorem dX1_depthOf_14 : decode cX1_depthOf 14 = .ok (.aload_n 2, 1) := by decide +kernel
theorem dX1_depthOf_15 : decode cX1_depthOf 15 = .ok (.getfield 62, 3) := by decide +kernel
theorem dX1_depthOf_18 : decode cX1_depthOf 18 = .ok (.astore_n 2, 1) := by decide +kernel
theorem dX1_depthOf_19 : decode cX1_depthOf 19 = .ok (.goto (-12), 3) := by decide +kernel
theorem dX1_depthOf_22 : decode cX1_depthOf 22 = .ok (.iload_n 1, 1) := by decide +kernel
theorem dX1_depthOf_23 : decode cX1_depthOf 23 = .ok (.ireturn, 1) := by decide +kernel
theorem dX1_stepsBetween_0 : decode cX1_stepsBetween 0 = .ok (.aload_n 0, 1) := by decide +kernel
theorem dX1_stepsBetween_1 : decode cX1_stepsBetween 1 = .ok (.aload_n 1, 1) := by decide +kernel
theorem dX1_stepsBetween_2 : decode cX1_stepsBetween 2 = .ok (.invokestatic 114, 3) := by decide +kernel
theorem dX1_stepsBetween_5 : decode cX1_stepsBetween 5 = .ok (.astore_n 2, 1) := by decide +kernel
theorem dX1_stepsBetween_6 : decode cX1_stepsBetween 6 = .ok (.aload_n 0, 1) := by decide +kernel
theorem dX1_stepsBetween_7 : decode cX1_stepsBetween 7 = .ok (.invokestatic 152, 3) := by decide +kernel
theorem dX1_stepsBetween_10 : decode cX1_stepsBetween 10 = .ok (.aload_n 1, 1) := by decide +kernel
theorem dX1_stepsBetween_11 : decode cX1_stepsBetween 11 = .ok (.invokestatic 152, 3) := by decide +kernel
theorem dX1_stepsBetween_14 : decode cX1_stepsBetween 14 = .ok (.iadd, 1) := by decide +kernel
theorem dX1_stepsBetween_15 : decode cX1_stepsBetween 15 = .ok (.iconst 2, 1) := by decide +kernel
theorem dX1_stepsBetween_16 : decode cX1_stepsBetween 16 = .ok (.aload_n 2, 1) := by decide +kernel
theorem dX1_stepsBetween_17 : decode cX1_stepsBetween 17 = .ok (.invokestatic 152, 3) := by decide +kernel
theorem dX1_stepsBetween_20 : decode cX1_stepsBetween 20 = .ok (.imul, 1) := by decide +kernel
theorem dX1_stepsBetween_21 : decode cX1_stepsBetween 21 = .ok (.isub, 1) := by decide +kernel
theorem dX1_stepsBetween_22 : decode cX1_stepsBetween 22 = .ok (.ireturn, 1) := by decide +kernel
theorem dX1_numberOrNone_0 : decode cX1_numberOrNone 0 = .ok (.aload_n 0, 1) := by decide +kernel
theorem dX1_numberOrNone_1 : decode cX1_numberOrNone 1 = .ok (.ifnonnull 8, 3) := by decide +kernel
theorem dX1_numberOrNone_4 : decode cX1_numberOrNone 4 = .ok (.bipush (-7), 2) := by decide +kernel
theorem dX1_numberOrNone_6 : decode cX1_numberOrNone 6 = .ok (.goto 7, 3) := by decide +kernel
theorem dX1_numberOrNone_9 : decode cX1_numberOrNone 9 = .ok (.aload_n 0, 1) := by decide +kernel
theorem dX1_numberOrNone_10 : decode cX1_numberOrNone 10 = .ok (.getfield 55, 3) := by decide +kernel
theorem dX1_numberOrNone_13 : decode cX1_numberOrNone 13 = .ok (.ireturn, 1) := by decide +kernel
theorem dX1_editCode_0 : decode cX1_editCode 0 = .ok (.sipush 1000, 3) := by decide +kernel
theorem dX1_editCode_3 : decode cX1_editCode 3 = .ok (.aload_n 0, 1) := by decide +kernel
theorem dX1_editCode_4 : decode cX1_editCode 4 = .ok (.getfield 98, 3) := by decide +kernel
theorem dX1_editCode_7 : decode cX1_editCode 7 = .ok (.imul, 1) := by decide +kernel
theorem dX1_editCode_8 : decode cX1_editCode 8 = .ok (.bipush 10, 2) := by decide +kernel
theorem dX1_editCode_10 : decode cX1_editCode 10 = .ok (.aload_n 0, 1) := by decide +kernel
theorem dX1_editCode_11 : decode cX1_editCode 11 = .ok (.getfield 92, 3) := by decide +kernel
theorem dX1_editCode_14 : decode cX1_editCode 14 = .ok (.imul, 1) := by decide +kernel
theorem dX1_editCode_15 : decode cX1_editCode 15 = .ok (.iadd, 1) := by decide +kernel
theorem dX1_editCode_16 : decode cX1_editCode 16 = .ok (.aload_n 0, 1) := by decide +kernel
theorem dX1_editCode_17 : decode cX1_editCode 17 = .ok (.getfield 88, 3) := by decide +kernel
theorem dX1_editCode_20 : decode cX1_editCode 20 = .ok (.ifCond .eq 7, 3) := by decide +kernel
theorem dX1_editCode_23 : decode cX1_editCode 23 = .ok (.iconst 1, 1) := by decide +kernel
theorem dX1_editCode_24 : decode cX1_editCode 24 = .ok (.goto 4, 3) := by decide +kernel
theorem dX1_editCode_27 : decode cX1_editCode 27 = .ok (.iconst 0, 1) := by decide +kernel
theorem dX1_editCode_28 : decode cX1_editCode 28 = .ok (.iadd, 1) := by decide +kernel
theorem dX1_editCode_29 : decode cX1_editCode 29 = .ok (.ireturn, 1) := by decide +kernel
theorem dX1_isTreeFull_0 : decode cX1_isTreeFull 0 = .ok (.aload_n 0, 1) := by decide +kernel
theorem dX1_isTreeFull_1 : decode cX1_isTreeFull 1 = .ok (.getfield 15, 3) := by decide +kernel
theorem dX1_isTreeFull_4 : decode cX1_isTreeFull 4 = .ok (.bipush 24, 2) := by decide +kernel
theorem dX1_isTreeFull_6 : decode cX1_isTreeFull 6 = .ok (.if_icmp .lt 7, 3) := by decide +kernel
theorem dX1_isTreeFull_9 : decode cX1_isTreeFull 9 = .ok (.iconst 1, 1) := by decide +kernel
theorem dX1_isTreeFull_10 : decode cX1_isTreeFull 10 = .ok (.goto 4, 3) := by decide +kernel
theorem dX1_isTreeFull_13 : decode cX1_isTreeFull 13 = .ok (.iconst 0, 1) := by decide +kernel
theorem dX1_isTreeFull_14 : decode cX1_isTreeFull 14 = .ok (.ireturn, 1) := by decide +kernel
theorem dX1_hasRoomFor_0 : decode cX1_hasRoomFor 0 = .ok (.iload_n 1, 1) := by decide +kernel
theorem dX1_hasRoomFor_1 : decode cX1_hasRoomFor 1 = .ok (.bipush 40, 2) := by decide +kernel
theorem dX1_hasRoomFor_3 : decode cX1_hasRoomFor 3 = .ok (.aload_n 0, 1) := by decide +kernel
theorem dX1_hasRoomFor_4 : decode cX1_hasRoomFor 4 = .ok (.getfield 36, 3) := by decide +kernel
theorem dX1_hasRoomFor_7 : decode cX1_hasRoomFor 7 = .ok (.getfield 40, 3) := by decide +kernel
theorem dX1_hasRoomFor_10 : decode cX1_hasRoomFor 10 = .ok (.isub, 1) := by decide +kernel
theorem dX1_hasRoomFor_11 : decode cX1_hasRoomFor 11 = .ok (.if_icmp .gt 7, 3) := by decide +kernel
theorem dX1_hasRoomFor_14 : decode cX1_hasRoomFor 14 = .ok (.iconst 1, 1) := by decide +kernel
theorem dX1_hasRoomFor_15 : decode cX1_hasRoomFor 15 = .ok (.goto 4, 3) := by decide +kernel
theorem dX1_hasRoomFor_18 : decode cX1_hasRoomFor 18 = .ok (.iconst 0, 1) := by decide +kernel
theorem dX1_hasRoomFor_19 : decode cX1_hasRoomFor 19 = .ok (.ireturn, 1) := by decide +kernel
theorem dX1_addInsertion_0 : decode cX1_addInsertion 0 = .ok (.aload_n 0, 1) := by decide +kernel
theorem dX1_addInsertion_1 : decode cX1_addInsertion 1 = .ok (.getfield 36, 3) := by decide +kernel
theorem dX1_addInsertion_4 : decode cX1_addInsertion 4 = .ok (.astore 5, 2) := by decide +kernel
theorem dX1_addInsertion_6 : decode cX1_addInsertion 6 = .ok (.aload_n 0, 1) := by decide +kernel
theorem dX1_addInsertion_7 : decode cX1_addInsertion 7 = .ok (.iload_n 1, 1) := by decide +kernel
theorem dX1_addInsertion_8 : decode cX1_addInsertion 8 = .ok (.iload 4, 2) := by decide +kernel
theorem dX1_addInsertion_10 : decode cX1_addInsertion 10 = .ok (.invokevirtual 155, 3) := by decide +kernel
theorem dX1_addInsertion_13 : decode cX1_addInsertion 13 = .ok (.astore 6, 2) := by decide +kernel
theorem dX1_addInsertion_15 : decode cX1_addInsertion 15 = .ok (.aload 5, 2) := by decide +kernel
theorem dX1_addInsertion_17 : decode cX1_addInsertion 17 = .ok (.getfield 40, 3) := by decide +kernel
theorem dX1_addInsertion_20 : decode cX1_addInsertion 20 = .ok (.iload_n 1, 1) := by decide +kernel
theorem dX1_addInsertion_21 : decode cX1_addInsertion 21 = .ok (.isub, 1) := by decide +kernel
theorem dX1_addInsertion_22 : decode cX1_addInsertion 22 = .ok (.istore 7, 2) := by decide +kernel
theorem dX1_addInsertion_24 : decode cX1_addInsertion 24 = .ok (.aload 5, 2) := by decide +kernel
theorem dX1_addInsertion_26 : decode cX1_addInsertion 26 = .ok (.getfield 95, 3) := by decide +kernel
theorem dX1_addInsertion_29 : decode cX1_addInsertion 29 = .ok (.iconst 0, 1) := by decide +kernel
theorem dX1_addInsertion_30 : decode cX1_addInsertion 30 = .ok (.aload 6, 2) := by decide +kernel
theorem dX1_addInsertion_32 : decode cX1_addInsertion 32 = .ok (.getfield 95, 3) := by decide +kernel
theorem dX1_addInsertion_35 : decode cX1_addInsertion 35 = .ok (.iconst 0, 1) := by decide +kernel
theorem dX1_addInsertion_36 : decode cX1_addInsertion 36 = .ok (.iload_n 1, 1) := by decide +kernel
theorem dX1_addInsertion_37 : decode cX1_addInsertion 37 = .ok (.invokestatic 159, 3) := by decide +kernel
theorem dX1_addInsertion_40 : decode cX1_addInsertion 40 = .ok (.aload_n 2, 1) := by decide +kernel
theorem dX1_addInsertion_41 : decode cX1_addInsertion 41 = .ok (.iload_n 3, 1) := by decide +kernel
theorem dX1_addInsertion_42 : decode cX1_addInsertion 42 = .ok (.aload 6, 2) := by decide +kernel
theorem dX1_addInsertion_44 : decode cX1_addInsertion 44 = .ok (.getfield 95, 3) := by decide +kernel
theorem dX1_addInsertion_47 : decode cX1_addInsertion 47 = .ok (.iload_n 1, 1) := by decide +kernel
theorem dX1_addInsertion_48 : decode cX1_addInsertion 48 = .ok (.iload 4, 2) := by decide +kernel
theorem dX1_addInsertion_50 : decode cX1_addInsertion 50 = .ok (.invokestatic 159, 3) := by decide +kernel
theorem dX1_addInsertion_53 : decode cX1_addInsertion 53 = .ok (.aload 5, 2) := by decide +kernel
theorem dX1_addInsertion_55 : decode cX1_addInsertion 55 = .ok (.getfield 95, 3) := by decide +kernel
theorem dX1_addInsertion_58 : decode cX1_addInsertion 58 = .ok (.iload_n 1, 1) := by decide +kernel
theorem dX1_addInsertion_59 : decode cX1_addInsertion 59 = .ok (.aload 6, 2) := by decide +kernel
theorem dX1_addInsertion_61 : decode cX1_addInsertion 61 = .ok (.getfield 95, 3) := by decide +kernel
theorem dX1_addInsertion_64 : decode cX1_addInsertion 64 = .ok (.iload_n 1, 1) := by decide +kernel
theorem dX1_addInsertion_65 : decode cX1_addInsertion 65 = .ok (.iload 4, 2) := by decide +kernel
theorem dX1_addInsertion_67 : decode cX1_addInsertion 67 = .ok (.iadd, 1) := by decide +kernel
theorem dX1_addInsertion_68 : decode cX1_addInsertion 68 = .ok (.iload 7, 2) := by decide +kernel
theorem dX1_addInsertion_70 : decode cX1_addInsertion 70 = .ok (.invokestatic 159, 3) := by decide +kernel
theorem dX1_addInsertion_73 : decode cX1_addInsertion 73 = .ok (.aload 6, 2) := by decide +kernel
theorem dX1_addInsertion_75 : decode cX1_addInsertion 75 = .ok (.aload 5, 2) := by decide +kernel
theorem dX1_addInsertion_77 : decode cX1_addInsertion 77 = .ok (.getfield 40, 3) := by decide +kernel
theorem dX1_addInsertion_80 : decode cX1_addInsertion 80 = .ok (.iload 4, 2) := by decide +kernel
theorem dX1_addInsertion_82 : decode cX1_addInsertion 82 = .ok (.iadd, 1) := by decide +kernel
theorem dX1_addInsertion_83 : decode cX1_addInsertion 83 = .ok (.putfield 40, 3) := by decide +kernel
theorem dX1_addInsertion_86 : decode cX1_addInsertion 86 = .ok (.aload 6, 2) := by decide +kernel
theorem dX1_addInsertion_88 : decode cX1_addInsertion 88 = .ok (.iconst 0, 1) := by decide +kernel
theorem dX1_addInsertion_89 : decode cX1_addInsertion 89 = .ok (.putfield 88, 3) := by decide +kernel
theorem dX1_addInsertion_92 : decode cX1_addInsertion 92 = .ok (.aload_n 0, 1) := by decide +kernel
theorem dX1_addInsertion_93 : decode cX1_addInsertion 93 = .ok (.aload 6, 2) := by decide +kernel
theorem dX1_addInsertion_95 : decode cX1_addInsertion 95 = .ok (.invokevirtual 65, 3) := by decide +kernel
theorem dX1_addInsertion_98 : decode cX1_addInsertion 98 = .ok (.return_, 1) := by decide +kernel
theorem dX1_addDeletion_0 : decode cX1_addDeletion 0 = .ok (.aload_n 0, 1) := by decide +kernel
theorem dX1_addDeletion_1 : decode cX1_addDeletion 1 = .ok (.getfield 36, 3) := by decide +kernel
theorem dX1_addDeletion_4 : decode cX1_addDeletion 4 = .ok (.astore_n 3, 1) := by decide +kernel
theorem dX1_addDeletion_5 : decode cX1_addDeletion 5 = .ok (.aload_n 0, 1) := by decide +kernel
theorem dX1_addDeletion_6 : decode cX1_addDeletion 6 = .ok (.iload_n 1, 1) := by decide +kernel
theorem dX1_addDeletion_7 : decode cX1_addDeletion 7 = .ok (.iload_n 2, 1) := by decide +kernel
theorem dX1_addDeletion_8 : decode cX1_addDeletion 8 = .ok (.invokevirtual 155, 3) := by decide +kernel
theorem dX1_addDeletion_11 : decode cX1_addDeletion 11 = .ok (.astore 4, 2) := by decide +kernel
theorem dX1_addDeletion_13 : decode cX1_addDeletion 13 = .ok (.aload_n 3, 1) := by decide +kernel
theorem dX1_addDeletion_14 : decode cX1_addDeletion 14 = .ok (.getfield 40, 3) := by decide +kernel
theorem dX1_addDeletion_17 : decode cX1_addDeletion 17 = .ok (.iload_n 1, 1) := by decide +kernel
theorem dX1_addDeletion_18 : decode cX1_addDeletion 18 = .ok (.isub, 1) := by decide +kernel
theorem dX1_addDeletion_19 : decode cX1_addDeletion 19 = .ok (.iload_n 2, 1) := by decide +kernel
theorem dX1_addDeletion_20 : decode cX1_addDeletion 20 = .ok (.isub, 1) := by decide +kernel
theorem dX1_addDeletion_21 : decode cX1_addDeletion 21 = .ok (.istore 5, 2) := by decide +kernel
theorem dX1_addDeletion_23 : decode cX1_addDeletion 23 = .ok (.aload_n 3, 1) := by decide +kernel
theorem dX1_addDeletion_24 : decode cX1_addDeletion 24 = .ok (.getfield 95, 3) := by decide +kernel
theorem dX1_addDeletion_27 : decode cX1_addDeletion 27 = .ok (.iconst 0, 1) := by decide +kernel
theorem dX1_addDeletion_28 : decode cX1_addDeletion 28 = .ok (.aload 4, 2) := by decide +kernel
theorem dX1_addDeletion_30 : decode cX1_addDeletion 30 = .ok (.getfield 95, 3) := by decide +kernel
theorem dX1_addDeletion_33 : decode cX1_addDeletion 33 = .ok (.iconst 0, 1) := by decide +kernel
theorem dX1_addDeletion_34 : decode cX1_addDeletion 34 = .ok (.iload_n 1, 1) := by decide +kernel
theorem dX1_addDeletion_35 : decode cX1_addDeletion 35 = .ok (.invokestatic 159, 3) := by decide +kernel
theorem dX1_addDeletion_38 : decode cX1_addDeletion 38 = .ok (.aload_n 3, 1) := by decide +kernel
theorem dX1_addDeletion_39 : decode cX1_addDeletion 39 = .ok (.getfield 95, 3) := by decide +kernel
theorem dX1_addDeletion_42 : decode cX1_addDeletion 42 = .ok (.iload_n 1, 1) := by decide +kernel
theorem dX1_addDeletion_43 : decode cX1_addDeletion 43 = .ok (.iload_n 2, 1) := by decide +kernel
theorem dX1_addDeletion_44 : decode cX1_addDeletion 44 = .ok (.iadd, 1) := by decide +kernel
theorem dX1_addDeletion_45 : decode cX1_addDeletion 45 = .ok (.aload 4, 2) := by decide +kernel
theorem dX1_addDeletion_47 : decode cX1_addDeletion 47 = .ok (.getfield 95, 3) := by decide +kernel
theorem dX1_addDeletion_50 : decode cX1_addDeletion 50 = .ok (.iload_n 1, 1) := by decide +kernel
theorem dX1_addDeletion_51 : decode cX1_addDeletion 51 = .ok (.iload 5, 2) := by decide +kernel
theorem dX1_addDeletion_53 : decode cX1_addDeletion 53 = .ok (.invokestatic 159, 3) := by decide +kernel
theorem dX1_addDeletion_56 : decode cX1_addDeletion 56 = .ok (.aload 4, 2) := by decide +kernel
theorem dX1_addDeletion_58 : decode cX1_addDeletion 58 = .ok (.aload_n 3, 1) := by decide +kernel
theorem dX1_addDeletion_59 : decode cX1_addDeletion 59 = .ok (.getfield 40, 3) := by decide +kernel
theorem dX1_addDeletion_62 : decode cX1_addDeletion 62 = .ok (.iload_n 2, 1) := by decide +kernel
theorem dX1_addDeletion_63 : decode cX1_addDeletion 63 = .ok (.isub, 1) := by decide +kernel
theorem dX1_addDeletion_64 : decode cX1_addDeletion 64 = .ok (.putfield 40, 3) := by decide +kernel
theorem dX1_addDeletion_67 : decode cX1_addDeletion 67 = .ok (.aload 4, 2) := by decide +kernel
theorem dX1_addDeletion_69 : decode cX1_addDeletion 69 = .ok (.iconst 1, 1) := by decide +kernel
theorem dX1_addDeletion_70 : decode cX1_addDeletion 70 = .ok (.putfield 88, 3) := by decide +kernel
theorem dX1_addDeletion_73 : decode cX1_addDeletion 73 = .ok (.aload_n 0, 1) := by decide +kernel
theorem dX1_addDeletion_74 : decode cX1_addDeletion 74 = .ok (.aload 4, 2) := by decide +kernel
theorem dX1_addDeletion_76 : decode cX1_addDeletion 76 = .ok (.invokevirtual 65, 3) := by decide +kernel
theorem dX1_addDeletion_79 : decode cX1_addDeletion 79 = .ok (.return_, 1) := by decide +kernel
theorem dX1_addChild_0 : decode cX1_addChild 0 = .ok (.aload_n 0, 1) := by decide +kernel
theorem dX1_addChild_1 : decode cX1_addChild 1 = .ok (.getfield 11, 3) := by decide +kernel
theorem dX1_addChild_4 : decode cX1_addChild 4 = .ok (.aload_n 0, 1) := by decide +kernel
theorem dX1_addChild_5 : decode cX1_addChild 5 = .ok (.getfield 15, 3) := by decide +kernel
theorem dX1_addChild_8 : decode cX1_addChild 8 = .ok (.aaload, 1) := by decide +kernel
theorem dX1_addChild_9 : decode cX1_addChild 9 = .ok (.astore_n 3, 1) := by decide +kernel
theorem dX1_addChild_10 : decode cX1_addChild 10 = .ok (.aload_n 0, 1) := by decide +kernel
theorem dX1_addChild_11 : decode cX1_addChild 11 = .ok (.dup, 1) := by decide +kernel
theorem dX1_addChild_12 : decode cX1_addChild 12 = .ok (.getfield 15, 3) := by decide +kernel
theorem dX1_addChild_15 : decode cX1_addChild 15 = .ok (.iconst 1, 1) := by decide +kernel
theorem dX1_addChild_16 : decode cX1_addChild 16 = .ok (.iadd, 1) := by decide +kernel
theorem dX1_addChild_17 : decode cX1_addChild 17 = .ok (.putfield 15, 3) := by decide +kernel
theorem dX1_addChild_20 : decode cX1_addChild 20 = .ok (.aload_n 0, 1) := by decide +kernel
theorem dX1_addChild_21 : decode cX1_addChild 21 = .ok (.dup, 1) := by decide +kernel
theorem dX1_addChild_22 : decode cX1_addChild 22 = .ok (.getfield 19, 3) := by decide +kernel
theorem dX1_addChild_25 : decode cX1_addChild 25 = .ok (.iconst 1, 1) := by decide +kernel
theorem dX1_addChild_26 : decode cX1_addChild 26 = .ok (.iadd, 1) := by decide +kernel
theorem dX1_addChild_27 : decode cX1_addChild 27 = .ok (.putfield 19, 3) := by decide +kernel
theorem dX1_addChild_30 : decode cX1_addChild 30 = .ok (.aload_n 3, 1) := by decide +kernel
theorem dX1_addChild_31 : decode cX1_addChild 31 = .ok (.aload_n 0, 1) := by decide +kernel
theorem dX1_addChild_32 : decode cX1_addChild 32 = .ok (.getfield 19, 3) := by decide +kernel
theorem dX1_addChild_35 : decode cX1_addChild 35 = .ok (.putfield 55, 3) := by decide +kernel
theorem dX1_addChild_38 : decode cX1_addChild 38 = .ok (.aload_n 3, 1) := by decide +kernel
theorem dX1_addChild_39 : decode cX1_addChild 39 = .ok (.aload_n 0, 1) := by decide +kernel
theorem dX1_addChild_40 : decode cX1_addChild 40 = .ok (.getfield 36, 3) := by decide +kernel
theorem dX1_addChild_43 : decode cX1_addChild 43 = .ok (.putfield 62, 3) := by decide +kernel
theorem dX1_addChild_46 : decode cX1_addChild 46 = .ok (.aload_n 3, 1) := by decide +kernel
theorem dX1_addChild_47 : decode cX1_addChild 47 = .ok (.aconst_null, 1) := by decide +kernel
theorem dX1_addChild_48 : decode cX1_addChild 48 = .ok (.putfield 69, 3) := by decide +kernel
theorem dX1_addChild_51 : decode cX1_addChild 51 = .ok (.aload_n 3, 1) := by decide +kernel
theorem dX1_addChild_52 : decode cX1_addChild 52 = .ok (.iload_n 1, 1) := by decide +kernel
theorem dX1_addChild_53 : decode cX1_addChild 53 = .ok (.putfield 98, 3) := by decide +kernel
theorem dX1_addChild_56 : decode cX1_addChild 56 = .ok (.aload_n 3, 1) := by decide +kernel
theorem dX1_addChild_57 : decode cX1_addChild 57 = .ok (.iload_n 2, 1) := by decide +kernel
theorem dX1_addChild_58 : decode cX1_addChild 58 = .ok (.putfield 92, 3) := by decide +kernel
theorem dX1_addChild_61 : decode cX1_addChild 61 = .ok (.aload_n 3, 1) := by decide +kernel
theorem dX1_addChild_62 : decode cX1_addChild 62 = .ok (.areturn, 1) := by decide +kernel
theorem dX1_makeCurrent_0 : decode cX1_makeCurrent 0 = .ok (.aload_n 0, 1) := by decide +kernel
theorem dX1_makeCurrent_1 : decode cX1_makeCurrent 1 = .ok (.dup, 1) := by decide +kernel
theorem dX1_makeCurrent_2 : decode cX1_makeCurrent 2 = .ok (.getfield 22, 3) := by decide +kernel
theorem dX1_makeCurrent_5 : decode cX1_makeCurrent 5 = .ok (.iconst 1, 1) := by decide +kernel
theorem dX1_makeCurrent_6 : decode cX1_makeCurrent 6 = .ok (.iadd, 1) := by decide +kernel
theorem dX1_makeCurrent_7 : decode cX1_makeCurrent 7 = .ok (.putfield 22, 3) := by decide +kernel
theorem dX1_makeCurrent_10 : decode cX1_makeCurrent 10 = .ok (.aload_n 1, 1) := by decide +kernel
theorem dX1_makeCurrent_11 : decode cX1_makeCurrent 11 = .ok (.aload_n 0, 1) := by decide +kernel
theorem dX1_makeCurrent_12 : decode cX1_makeCurrent 12 = .ok (.getfield 22, 3) := by decide +kernel
theorem dX1_makeCurrent_15 : decode cX1_makeCurrent 15 = .ok (.putfield 111, 3) := by decide +kernel
theorem dX1_makeCurrent_18 : decode cX1_makeCurrent 18 = .ok (.aload_n 0, 1) := by decide +kernel
theorem dX1_makeCurrent_19 : decode cX1_makeCurrent 19 = .ok (.aload_n 1, 1) := by decide +kernel
theorem dX1_makeCurrent_20 : decode cX1_makeCurrent 20 = .ok (.putfield 36, 3) := by decide +kernel
theorem dX1_makeCurrent_23 : decode cX1_makeCurrent 23 = .ok (.aload_n 1, 1) := by decide +kernel
theorem dX1_makeCurrent_24 : decode cX1_makeCurrent 24 = .ok (.astore_n 2, 1) := by decide +kernel
theorem dX1_makeCurrent_25 : decode cX1_makeCurrent 25 = .ok (.aload_n 2, 1) := by decide +kernel
theorem dX1_makeCurrent_26 : decode cX1_makeCurrent 26 = .ok (.getfield 62, 3) := by decide +kernel
theorem dX1_makeCurrent_29 : decode cX1_makeCurrent 29 = .ok (.ifnull 19, 3) := by decide +kernel
theorem dX1_makeCurrent_32 : decode cX1_makeCurrent 32 = .ok (.aload_n 2, 1) := by decide +kernel
theorem dX1_makeCurrent_33 : decode cX1_makeCurrent 33 = .ok (.getfield 62, 3) := by decide +kernel
theorem dX1_makeCurrent_36 : decode cX1_makeCurrent 36 = .ok (.aload_n 2, 1) := by decide +kernel
theorem dX1_makeCurrent_37 : decode cX1_makeCurrent 37 = .ok (.putfield 69, 3) := by decide +kernel
theorem dX1_makeCurrent_40 : decode cX1_makeCurrent 40 = .ok (.aload_n 2, 1) := by decide +kernel
theorem dX1_makeCurrent_41 : decode cX1_makeCurrent 41 = .ok (.getfield 62, 3) := by decide +kernel
theorem dX1_makeCurrent_44 : decode cX1_makeCurrent 44 = .ok (.astore_n 2, 1) := by decide +kernel
theorem dX1_makeCurrent_45 : decode cX1_makeCurrent 45 = .ok (.goto (-20), 3) := by decide +kernel
theorem dX1_makeCurrent_48 : decode cX1_makeCurrent 48 = .ok (.return_, 1) := by decide +kernel
theorem dX1_takeOut_0 : decode cX1_takeOut 0 = .ok (.iconst 0, 1) := by decide +kernel
theorem dX1_takeOut_1 : decode cX1_takeOut 1 = .ok (.istore_n 2, 1) := by decide +kernel
theorem dX1_takeOut_2 : decode cX1_takeOut 2 = .ok (.iconst 0, 1) := by decide +kernel
theorem dX1_takeOut_3 : decode cX1_takeOut 3 = .ok (.istore_n 3, 1) := by decide +kernel
theorem dX1_takeOut_4 : decode cX1_takeOut 4 = .ok (.iload_n 3, 1) := by decide +kernel
theorem dX1_takeOut_5 : decode cX1_takeOut 5 = .ok (.aload_n 0, 1) := by decide +kernel
theorem dX1_takeOut_6 : decode cX1_takeOut 6 = .ok (.getfield 15, 3) := by decide +kernel
theorem dX1_takeOut_9 : decode cX1_takeOut 9 = .ok (.if_icmp .ge 34, 3) := by decide +kernel
theorem dX1_takeOut_12 : decode cX1_takeOut 12 = .ok (.aload_n 0, 1) := by decide +kernel
theorem dX1_takeOut_13 : decode cX1_takeOut 13 = .ok (.getfield 11, 3) := by decide +kernel
theorem dX1_takeOut_16 : decode cX1_takeOut 16 = .ok (.iload_n 3, 1) := by decide +kernel
theorem dX1_takeOut_17 : decode cX1_takeOut 17 = .ok (.aaload, 1) := by decide +kernel
theorem dX1_takeOut_18 : decode cX1_takeOut 18 = .ok (.astore 4, 2) := by decide +kernel
theorem dX1_takeOut_20 : decode cX1_takeOut 20 = .ok (.aload 4, 2) := by decide +kernel
theorem dX1_takeOut_22 : decode cX1_takeOut 22 = .ok (.aload_n 1, 1) := by decide +kernel
theorem dX1_takeOut_23 : decode cX1_takeOut 23 = .ok (.if_acmp .eq 14, 3) := by decide +kernel
theorem dX1_takeOut_26 : decode cX1_takeOut 26 = .ok (.aload_n 0, 1) := by decide +kernel
theorem dX1_takeOut_27 : decode cX1_takeOut 27 = .ok (.getfield 11, 3) := by decide +kernel
theorem dX1_takeOut_30 : decode cX1_takeOut 30 = .ok (.iload_n 2, 1) := by decide +kernel
theorem dX1_takeOut_31 : decode cX1_takeOut 31 = .ok (.aload 4, 2) := by decide +kernel
theorem dX1_takeOut_33 : decode cX1_takeOut 33 = .ok (.aastore, 1) := by decide +kernel
theorem dX1_takeOut_34 : decode cX1_takeOut 34 = .ok (.iinc 2 1, 3) := by decide +kernel
theorem dX1_takeOut_37 : decode cX1_takeOut 37 = .ok (.iinc 3 1, 3) := by decide +kernel
theorem dX1_takeOut_40 : decode cX1_takeOut 40 = .ok (.goto (-36), 3) := by decide +kernel
theorem dX1_takeOut_43 : decode cX1_takeOut 43 = .ok (.aload_n 0, 1) := by decide +kernel
theorem dX1_takeOut_44 : decode cX1_takeOut 44 = .ok (.dup, 1) := by decide +kernel
theorem dX1_takeOut_45 : decode cX1_takeOut 45 = .ok (.getfield 15, 3) := by decide +kernel
theorem dX1_takeOut_48 : decode cX1_takeOut 48 = .ok (.iconst 1, 1) := by decide +kernel
theorem dX1_takeOut_49 : decode cX1_takeOut 49 = .ok (.isub, 1) := by decide +kernel
theorem dX1_takeOut_50 : decode cX1_takeOut 50 = .ok (.putfield 15, 3) := by decide +kernel
theorem dX1_takeOut_53 : decode cX1_takeOut 53 = .ok (.aload_n 0, 1) := by decide +kernel
theorem dX1_takeOut_54 : decode cX1_takeOut 54 = .ok (.getfield 11, 3) := by decide +kernel
theorem dX1_takeOut_57 : decode cX1_takeOut 57 = .ok (.aload_n 0, 1) := by decide +kernel
theorem dX1_takeOut_58 : decode cX1_takeOut 58 = .ok (.getfield 15, 3) := by decide +kernel
theorem dX1_takeOut_61 : decode cX1_takeOut 61 = .ok (.aload_n 1, 1) := by decide +kernel
theorem dX1_takeOut_62 : decode cX1_takeOut 62 = .ok (.aastore, 1) := by decide +kernel
theorem dX1_takeOut_63 : decode cX1_takeOut 63 = .ok (.return_, 1) := by decide +kernel
theorem dX1_firstConflict_0 : decode cX1_firstConflict 0 = .ok (.aload_n 1, 1) := by decide +kernel
theorem dX1_firstConflict_1 : decode cX1_firstConflict 1 = .ok (.getfield 98, 3) := by decide +kernel
theorem dX1_firstConflict_4 : decode cX1_firstConflict 4 = .ok (.istore_n 2, 1) := by decide +kernel
theorem dX1_firstConflict_5 : decode cX1_firstConflict 5 = .ok (.aload_n 1, 1) := by decide +kernel
theorem dX1_firstConflict_6 : decode cX1_firstConflict 6 = .ok (.astore_n 3, 1) := by decide +kernel
theorem dX1_firstConflict_7 : decode cX1_firstConflict 7 = .ok (.aload_n 3, 1) := by decide +kernel
theorem dX1_firstConflict_8 : decode cX1_firstConflict 8 = .ok (.aload_n 0, 1) := by decide +kernel
theorem dX1_firstConflict_9 : decode cX1_firstConflict 9 = .ok (.getfield 36, 3) := by decide +kernel
theorem dX1_firstConflict_12 : decode cX1_firstConflict 12 = .ok (.if_acmp .eq 37, 3) := by decide +kernel
theorem dX1_firstConflict_15 : decode cX1_firstConflict 15 = .ok (.aload_n 3, 1) := by decide +kernel
theorem dX1_firstConflict_16 : decode cX1_firstConflict 16 = .ok (.getfield 69, 3) := by decide +kernel
theorem dX1_firstConflict_19 : decode cX1_firstConflict 19 = .ok (.ifnull 30, 3) := by decide +kernel
theorem dX1_firstConflict_22 : decode cX1_firstConflict 22 = .ok (.aload_n 1, 1) := by decide +kernel
theorem dX1_firstConflict_23 : decode cX1_firstConflict 23 = .ok (.iload_n 2, 1) := by decide +kernel
theorem dX1_firstConflict_24 : decode cX1_firstConflict 24 = .ok (.aload_n 3, 1) := by decide +kernel
theorem dX1_firstConflict_25 : decode cX1_firstConflict 25 = .ok (.getfield 69, 3) := by decide +kernel
theorem dX1_firstConflict_28 : decode cX1_firstConflict 28 = .ok (.invokestatic 165, 3) := by decide +kernel
theorem dX1_firstConflict_31 : decode cX1_firstConflict 31 = .ok (.istore_n 2, 1) := by decide +kernel
theorem dX1_firstConflict_32 : decode cX1_firstConflict 32 = .ok (.iload_n 2, 1) := by decide +kernel
theorem dX1_firstConflict_33 : decode cX1_firstConflict 33 = .ok (.ifCond .ge 8, 3) := by decide +kernel
theorem dX1_firstConflict_36 : decode cX1_firstConflict 36 = .ok (.aload_n 3, 1) := by decide +kernel
theorem dX1_firstConflict_37 : decode cX1_firstConflict 37 = .ok (.getfield 69, 3) := by decide +kernel
theorem dX1_firstConflict_40 : decode cX1_firstConflict 40 = .ok (.areturn, 1) := by decide +kernel
theorem dX1_firstConflict_41 : decode cX1_firstConflict 41 = .ok (.aload_n 3, 1) := by decide +kernel
theorem dX1_firstConflict_42 : decode cX1_firstConflict 42 = .ok (.getfield 69, 3) := by decide +kernel
theorem dX1_firstConflict_45 : decode cX1_firstConflict 45 = .ok (.astore_n 3, 1) := by decide +kernel
theorem dX1_firstConflict_46 : decode cX1_firstConflict 46 = .ok (.goto (-39), 3) := by decide +kernel
theorem dX1_firstConflict_49 : decode cX1_firstConflict 49 = .ok (.aconst_null, 1) := by decide +kernel
theorem dX1_firstConflict_50 : decode cX1_firstConflict 50 = .ok (.areturn, 1) := by decide +kernel
theorem dX1_placeNow_0 : decode cX1_placeNow 0 = .ok (.aload_n 1, 1) := by decide +kernel
theorem dX1_placeNow_1 : decode cX1_placeNow 1 = .ok (.getfield 98, 3) := by decide +kernel
theorem dX1_placeNow_4 : decode cX1_placeNow 4 = .ok (.istore_n 2, 1) := by decide +kernel
theorem dX1_placeNow_5 : decode cX1_placeNow 5 = .ok (.aload_n 1, 1) := by decide +kernel
theorem dX1_placeNow_6 : decode cX1_placeNow 6 = .ok (.astore_n 3, 1) := by decide +kernel
theorem dX1_placeNow_7 : decode cX1_placeNow 7 = .ok (.aload_n 3, 1) := by decide +kernel
theorem dX1_placeNow_8 : decode cX1_placeNow 8 = .ok (.aload_n 0, 1) := by decide +kernel
theorem dX1_placeNow_9 : decode cX1_placeNow 9 = .ok (.getfield 36, 3) := by decide +kernel
theorem dX1_placeNow_12 : decode cX1_placeNow 12 = .ok (.if_acmp .eq 35, 3) := by decide +kernel
theorem dX1_placeNow_15 : decode cX1_placeNow 15 = .ok (.aload_n 3, 1) := by decide +kernel
theorem dX1_placeNow_16 : decode cX1_placeNow 16 = .ok (.getfield 69, 3) := by decide +kernel
theorem dX1_placeNow_19 : decode cX1_placeNow 19 = .ok (.ifnull 28, 3) := by decide +kernel
theorem dX1_placeNow_22 : decode cX1_placeNow 22 = .ok (.aload_n 1, 1) := by decide +kernel
theorem dX1_placeNow_23 : decode cX1_placeNow 23 = .ok (.iload_n 2, 1) := by decide +kernel
theorem dX1_placeNow_24 : decode cX1_placeNow 24 = .ok (.aload_n 3, 1) := by decide +kernel
theorem dX1_placeNow_25 : decode cX1_placeNow 25 = .ok (.getfield 69, 3) := by decide +kernel
theorem dX1_placeNow_28 : decode cX1_placeNow 28 = .ok (.invokestatic 165, 3) := by decide +kernel
theorem dX1_placeNow_31 : decode cX1_placeNow 31 = .ok (.istore_n 2, 1) := by decide +kernel
theorem dX1_placeNow_32 : decode cX1_placeNow 32 = .ok (.iload_n 2, 1) := by decide +kernel
theorem dX1_placeNow_33 : decode cX1_placeNow 33 = .ok (.ifCond .ge 6, 3) := by decide +kernel
theorem dX1_placeNow_36 : decode cX1_placeNow 36 = .ok (.bipush (-5), 2) := by decide +kernel
theorem dX1_placeNow_38 : decode cX1_placeNow 38 = .ok (.ireturn, 1) := by decide +kernel
theorem dX1_placeNow_39 : decode cX1_placeNow 39 = .ok (.aload_n 3, 1) := by decide +kernel
theorem dX1_placeNow_40 : decode cX1_placeNow 40 = .ok (.getfield 69, 3) := by decide +kernel
theorem dX1_placeNow_43 : decode cX1_placeNow 43 = .ok (.astore_n 3, 1) := by decide +kernel
theorem dX1_placeNow_44 : decode cX1_placeNow 44 = .ok (.goto (-37), 3) := by decide +kernel
theorem dX1_placeNow_47 : decode cX1_placeNow 47 = .ok (.iload_n 2, 1) := by decide +kernel
theorem dX1_placeNow_48 : decode cX1_placeNow 48 = .ok (.ireturn, 1) := by decide +kernel
theorem dX1_shifted_0 : decode cX1_shifted 0 = .ok (.aload_n 0, 1) := by decide +kernel
theorem dX1_shifted_1 : decode cX1_shifted 1 = .ok (.getfield 88, 3) := by decide +kernel
theorem dX1_shifted_4 : decode cX1_shifted 4 = .ok (.ifCond .eq 11, 3) := by decide +kernel
theorem dX1_shifted_7 : decode cX1_shifted 7 = .ok (.iload_n 1, 1) := by decide +kernel
theorem dX1_shifted_8 : decode cX1_shifted 8 = .ok (.aload_n 2, 1) := by decide +kernel
theorem dX1_shifted_9 : decode cX1_shifted 9 = .ok (.invokestatic 169, 3) := by decide +kernel
theorem dX1_shifted_12 : decode cX1_shifted 12 = .ok (.goto 12, 3) := by decide +kernel
theorem dX1_shifted_15 : decode cX1_shifted 15 = .ok (.iload_n 1, 1) := by decide +kernel
theorem dX1_shifted_16 : decode cX1_shifted 16 = .ok (.aload_n 0, 1) := by decide +kernel
theorem dX1_shifted_17 : decode cX1_shifted 17 = .ok (.getfield 92, 3) := by decide +kernel
theorem dX1_shifted_20 : decode cX1_shifted 20 = .ok (.aload_n 2, 1) := by decide +kernel
theorem dX1_shifted_21 : decode cX1_shifted 21 = .ok (.invokestatic 173, 3) := by decide +kernel
theorem dX1_shifted_24 : decode cX1_shifted 24 = .ok (.ireturn, 1) := by decide +kernel
theorem dX1_shiftedString_0 : decode cX1_shiftedString 0 = .ok (.aload_n 2, 1) := by decide +kernel
theorem dX1_shiftedString_1 : decode cX1_shiftedString 1 = .ok (.getfield 98, 3) := by decide +kernel
theorem dX1_shiftedString_4 : decode cX1_shiftedString 4 = .ok (.iload_n 0, 1) := by decide +kernel
theorem dX1_shiftedString_5 : decode cX1_shiftedString 5 = .ok (.iload_n 1, 1) := by decide +kernel
theorem dX1_shiftedString_6 : decode cX1_shiftedString 6 = .ok (.iadd, 1) := by decide +kernel
theorem dX1_shiftedString_7 : decode cX1_shiftedString 7 = .ok (.if_icmp .lt 5, 3) := by decide +kernel
theorem dX1_shiftedString_10 : decode cX1_shiftedString 10 = .ok (.iload_n 0, 1) := by decide +kernel
theorem dX1_shiftedString_11 : decode cX1_shiftedString 11 = .ok (.ireturn, 1) := by decide +kernel
theorem dX1_shiftedString_12 : decode cX1_shiftedString 12 = .ok (.aload_n 2, 1) := by decide +kernel
theorem dX1_shiftedString_13 : decode cX1_shiftedString 13 = .ok (.getfield 88, 3) := by decide +kernel
theorem dX1_shiftedString_16 : decode cX1_shiftedString 16 = .ok (.ifCond .eq 38, 3) := by decide +kernel
theorem dX1_shiftedString_19 : decode cX1_shiftedString 19 = .ok (.aload_n 2, 1) := by decide +kernel
theorem dX1_shiftedString_20 : decode cX1_shiftedString 20 = .ok (.getfield 98, 3) := by decide +kernel
theorem dX1_shiftedString_23 : decode cX1_shiftedString 23 = .ok (.aload_n 2, 1) := by decide +kernel
theorem dX1_shiftedString_24 : decode cX1_shiftedString 24 = .ok (.getfield 92, 3) := by decide +kernel
theorem dX1_shiftedString_27 : decode cX1_shiftedString 27 = .ok (.iadd, 1) := by decide +kernel
theorem dX1_shiftedString_28 : decode cX1_shiftedString 28 = .ok (.iload_n 0, 1) := by decide +kernel
theorem dX1_shiftedString_29 : decode cX1_shiftedString 29 = .ok (.if_icmp .gt 7, 3) := by decide +kernel
theorem dX1_shiftedString_32 : decode cX1_shiftedString 32 = .ok (.iconst 1, 1) := by decide +kernel
theorem dX1_shiftedString_33 : decode cX1_shiftedString 33 = .ok (.goto 4, 3) := by decide +kernel
theorem dX1_shiftedString_36 : decode cX1_shiftedString 36 = .ok (.iconst 0, 1) := by decide +kernel
theorem dX1_shiftedString_37 : decode cX1_shiftedString 37 = .ok (.istore_n 3, 1) := by decide +kernel
theorem dX1_shiftedString_38 : decode cX1_shiftedString 38 = .ok (.iload_n 3, 1) := by decide +kernel
theorem dX1_shiftedString_39 : decode cX1_shiftedString 39 = .ok (.ifCond .eq 12, 3) := by decide +kernel
theorem dX1_shiftedString_42 : decode cX1_shiftedString 42 = .ok (.iload_n 0, 1) := by decide +kernel
theorem dX1_shiftedString_43 : decode cX1_shiftedString 43 = .ok (.aload_n 2, 1) := by decide +kernel
theorem dX1_shiftedString_44 : decode cX1_shiftedString 44 = .ok (.getfield 92, 3) := by decide +kernel
theorem dX1_shiftedString_47 : decode cX1_shiftedString 47 = .ok (.isub, 1) := by decide +kernel
theorem dX1_shiftedString_48 : decode cX1_shiftedString 48 = .ok (.goto 5, 3) := by decide +kernel
theorem dX1_shiftedString_51 : decode cX1_shiftedString 51 = .ok (.bipush (-5), 2) := by decide +kernel
theorem dX1_shiftedString_53 : decode cX1_shiftedString 53 = .ok (.ireturn, 1) := by decide +kernel
theorem dX1_shiftedString_54 : decode cX1_shiftedString 54 = .ok (.aload_n 2, 1) := by decide +kernel
theorem dX1_shiftedString_55 : decode cX1_shiftedString 55 = .ok (.getfield 98, 3) := by decide +kernel
theorem dX1_shiftedString_58 : decode cX1_shiftedString 58 = .ok (.iload_n 0, 1) := by decide +kernel
theorem dX1_shiftedString_59 : decode cX1_shiftedString 59 = .ok (.if_icmp .gt 12, 3) := by decide +kernel
theorem dX1_shiftedString_62 : decode cX1_shiftedString 62 = .ok (.iload_n 0, 1) := by decide +kernel
theorem dX1_shiftedString_63 : decode cX1_shiftedString 63 = .ok (.aload_n 2, 1) := by decide +kernel
theorem dX1_shiftedString_64 : decode cX1_shiftedString 64 = .ok (.getfield 92, 3) := by decide +kernel
theorem dX1_shiftedString_67 : decode cX1_shiftedString 67 = .ok (.iadd, 1) := by decide +kernel
theorem dX1_shiftedString_68 : decode cX1_shiftedString 68 = .ok (.goto 5, 3) := by decide +kernel
theorem dX1_shiftedString_71 : decode cX1_shiftedString 71 = .ok (.bipush (-5), 2) := by decide +kernel
theorem dX1_shiftedString_73 : decode cX1_shiftedString 73 = .ok (.ireturn, 1) := by decide +kernel
theorem dX1_shiftedGap_0 : decode cX1_shiftedGap 0 = .ok (.aload_n 1, 1) := by decide +kernel
theorem dX1_shiftedGap_1 : decode cX1_shiftedGap 1 = .ok (.getfield 98, 3) := by decide +kernel
theorem dX1_shiftedGap_4 : decode cX1_shiftedGap 4 = .ok (.iload_n 0, 1) := by decide +kernel
theorem dX1_shiftedGap_5 : decode cX1_shiftedGap 5 = .ok (.if_icmp .lt 5, 3) := by decide +kernel
theorem dX1_shiftedGap_8 : decode cX1_shiftedGap 8 = .ok (.iload_n 0, 1) := by decide +kernel
theorem dX1_shiftedGap_9 : decode cX1_shiftedGap 9 = .ok (.ireturn, 1) := by decide +kernel
theorem dX1_shiftedGap_10 : decode cX1_shiftedGap 10 = .ok (.aload_n 1, 1) := by decide +kernel
theorem dX1_shiftedGap_11 : decode cX1_shiftedGap 11 = .ok (.getfield 88, 3) := by decide +kernel
theorem dX1_shiftedGap_14 : decode cX1_shiftedGap 14 = .ok (.ifCond .eq 38, 3) := by decide +kernel
theorem dX1_shiftedGap_17 : decode cX1_shiftedGap 17 = .ok (.aload_n 1, 1) := by decide +kernel
theorem dX1_shiftedGap_18 : decode cX1_shiftedGap 18 = .ok (.getfield 98, 3) := by decide +kernel
theorem dX1_shiftedGap_21 : decode cX1_shiftedGap 21 = .ok (.aload_n 1, 1) := by decide +kernel
theorem dX1_shiftedGap_22 : decode cX1_shiftedGap 22 = .ok (.getfield 92, 3) := by decide +kernel
theorem dX1_shiftedGap_25 : decode cX1_shiftedGap 25 = .ok (.iadd, 1) := by decide +kernel
theorem dX1_shiftedGap_26 : decode cX1_shiftedGap 26 = .ok (.iload_n 0, 1) := by decide +kernel
theorem dX1_shiftedGap_27 : decode cX1_shiftedGap 27 = .ok (.if_icmp .gt 7, 3) := by decide +kernel
theorem dX1_shiftedGap_30 : decode cX1_shiftedGap 30 = .ok (.iconst 1, 1) := by decide +kernel
theorem dX1_shiftedGap_31 : decode cX1_shiftedGap 31 = .ok (.goto 4, 3) := by decide +kernel
theorem dX1_shiftedGap_34 : decode cX1_shiftedGap 34 = .ok (.iconst 0, 1) := by decide +kernel
theorem dX1_shiftedGap_35 : decode cX1_shiftedGap 35 = .ok (.istore_n 2, 1) := by decide +kernel
theorem dX1_shiftedGap_36 : decode cX1_shiftedGap 36 = .ok (.iload_n 2, 1) := by decide +kernel
theorem dX1_shiftedGap_37 : decode cX1_shiftedGap 37 = .ok (.ifCond .eq 12, 3) := by decide +kernel
theorem dX1_shiftedGap_40 : decode cX1_shiftedGap 40 = .ok (.iload_n 0, 1) := by decide +kernel
theorem dX1_shiftedGap_41 : decode cX1_shiftedGap 41 = .ok (.aload_n 1, 1) := by decide +kernel
theorem dX1_shiftedGap_42 : decode cX1_shiftedGap 42 = .ok (.getfield 92, 3) := by decide +kernel
theorem dX1_shiftedGap_45 : decode cX1_shiftedGap 45 = .ok (.isub, 1) := by decide +kernel
theorem dX1_shiftedGap_46 : decode cX1_shiftedGap 46 = .ok (.goto 5, 3) := by decide +kernel
theorem dX1_shiftedGap_49 : decode cX1_shiftedGap 49 = .ok (.bipush (-5), 2) := by decide +kernel
theorem dX1_shiftedGap_51 : decode cX1_shiftedGap 51 = .ok (.ireturn, 1) := by decide +kernel
theorem dX1_shiftedGap_52 : decode cX1_shiftedGap 52 = .ok (.iload_n 0, 1) := by decide +kernel
theorem dX1_shiftedGap_53 : decode cX1_shiftedGap 53 = .ok (.aload_n 1, 1) := by decide +kernel
theorem dX1_shiftedGap_54 : decode cX1_shiftedGap 54 = .ok (.getfield 92, 3) := by decide +kernel
theorem dX1_shiftedGap_57 : decode cX1_shiftedGap 57 = .ok (.iadd, 1) := by decide +kernel
theorem dX1_shiftedGap_58 : decode cX1_shiftedGap 58 = .ok (.ireturn, 1) := by decide +kernel
theorem dX1_isMark_0 : decode cX1_isMark 0 = .ok (.iload_n 0, 1) := by decide +kernel
theorem dX1_isMark_1 : decode cX1_isMark 1 = .ok (.ifCond .lt 12, 3) := by decide +kernel
theorem dX1_isMark_4 : decode cX1_isMark 4 = .ok (.iload_n 0, 1) := by decide +kernel
theorem dX1_isMark_5 : decode cX1_isMark 5 = .ok (.iconst 5, 1) := by decide +kernel
theorem dX1_isMark_6 : decode cX1_isMark 6 = .ok (.if_icmp .ge 7, 3) := by decide +kernel
theorem dX1_isMark_9 : decode cX1_isMark 9 = .ok (.iconst 1, 1) := by decide +kernel
theorem dX1_isMark_10 : decode cX1_isMark 10 = .ok (.goto 4, 3) := by decide +kernel
theorem dX1_isMark_13 : decode cX1_isMark 13 = .ok (.iconst 0, 1) := by decide +kernel
theorem dX1_isMark_14 : decode cX1_isMark 14 = .ok (.ireturn, 1) := by decide +kernel
theorem dX1_marksOn_0 : decode cX1_marksOn 0 = .ok (.iconst 0, 1) := by decide +kernel
theorem dX1_marksOn_1 : decode cX1_marksOn 1 = .ok (.istore_n 2, 1) := by decide +kernel
theorem dX1_marksOn_2 : decode cX1_marksOn 2 = .ok (.iconst 0, 1) := by decide +kernel
theorem dX1_marksOn_3 : decode cX1_marksOn 3 = .ok (.istore_n 3, 1) := by decide +kernel
theorem dX1_marksOn_4 : decode cX1_marksOn 4 = .ok (.iload_n 3, 1) := by decide +kernel
theorem dX1_marksOn_5 : decode cX1_marksOn 5 = .ok (.iconst 5, 1) := by decide +kernel
theorem dX1_marksOn_6 : decode cX1_marksOn 6 = .ok (.if_icmp .ge 22, 3) := by decide +kernel
theorem dX1_marksOn_9 : decode cX1_marksOn 9 = .ok (.aload_n 0, 1) := by decide +kernel
theorem dX1_marksOn_10 : decode cX1_marksOn 10 = .ok (.getfield 32, 3) := by decide +kernel
theorem dX1_marksOn_13 : decode cX1_marksOn 13 = .ok (.iload_n 3, 1) := by decide +kernel
theorem dX1_marksOn_14 : decode cX1_marksOn 14 = .ok (.aaload, 1) := by decide +kernel
theorem dX1_marksOn_15 : decode cX1_marksOn 15 = .ok (.aload_n 1, 1) := by decide +kernel
theorem dX1_marksOn_16 : decode cX1_marksOn 16 = .ok (.if_acmp .ne 6, 3) := by decide +kernel
end
section
theorem dX1_marksOn_19 : decode cX1_marksOn 19 = .ok (.iinc 2 1, 3) := by decide +kernel
theorem dX1_marksOn_22 : decode cX1_marksOn 22 = .ok (.iinc 3 1, 3) := by decide +kernel
theorem dX1_marksOn_25 : decode cX1_marksOn 25 = .ok (.goto (-21), 3) := by decide +kernel
theorem dX1_marksOn_28 : decode cX1_marksOn 28 = .ok (.iload_n 2, 1) := by decide +kernel
theorem dX1_marksOn_29 : decode cX1_marksOn 29 = .ok (.ireturn, 1) := by decide +kernel
theorem dX1_isForgettable_0 : decode cX1_isForgettable 0 = .ok (.aload_n 1, 1) := by decide +kernel
theorem dX1_isForgettable_1 : decode cX1_isForgettable 1 = .ok (.getfield 62, 3) := by decide +kernel
theorem dX1_isForgettable_4 : decode cX1_isForgettable 4 = .ok (.ifnull 30, 3) := by decide +kernel
theorem dX1_isForgettable_7 : decode cX1_isForgettable 7 = .ok (.aload_n 1, 1) := by decide +kernel
theorem dX1_isForgettable_8 : decode cX1_isForgettable 8 = .ok (.aload_n 0, 1) := by decide +kernel
theorem dX1_isForgettable_9 : decode cX1_isForgettable 9 = .ok (.getfield 36, 3) := by decide +kernel
theorem dX1_isForgettable_12 : decode cX1_isForgettable 12 = .ok (.if_acmp .eq 22, 3) := by decide +kernel
theorem dX1_isForgettable_15 : decode cX1_isForgettable 15 = .ok (.aload_n 1, 1) := by decide +kernel
theorem dX1_isForgettable_16 : decode cX1_isForgettable 16 = .ok (.getfield 69, 3) := by decide +kernel
theorem dX1_isForgettable_19 : decode cX1_isForgettable 19 = .ok (.ifnonnull 15, 3) := by decide +kernel
theorem dX1_isForgettable_22 : decode cX1_isForgettable 22 = .ok (.aload_n 0, 1) := by decide +kernel
theorem dX1_isForgettable_23 : decode cX1_isForgettable 23 = .ok (.aload_n 1, 1) := by decide +kernel
theorem dX1_isForgettable_24 : decode cX1_isForgettable 24 = .ok (.invokevirtual 121, 3) := by decide +kernel
theorem dX1_isForgettable_27 : decode cX1_isForgettable 27 = .ok (.ifCond .ne 7, 3) := by decide +kernel
theorem dX1_isForgettable_30 : decode cX1_isForgettable 30 = .ok (.iconst 1, 1) := by decide +kernel
theorem dX1_isForgettable_31 : decode cX1_isForgettable 31 = .ok (.goto 4, 3) := by decide +kernel
theorem dX1_isForgettable_34 : decode cX1_isForgettable 34 = .ok (.iconst 0, 1) := by decide +kernel
theorem dX1_isForgettable_35 : decode cX1_isForgettable 35 = .ok (.ireturn, 1) := by decide +kernel
theorem dX1_mixed_0 : decode cX1_mixed 0 = .ok (.ldc2_w 177, 3) := by decide +kernel
theorem dX1_mixed_3 : decode cX1_mixed 3 = .ok (.lload_n 0, 1) := by decide +kernel
theorem dX1_mixed_4 : decode cX1_mixed 4 = .ok (.lmul, 1) := by decide +kernel
theorem dX1_mixed_5 : decode cX1_mixed 5 = .ok (.lload_n 2, 1) := by decide +kernel
theorem dX1_mixed_6 : decode cX1_mixed 6 = .ok (.ladd, 1) := by decide +kernel
theorem dX1_mixed_7 : decode cX1_mixed 7 = .ok (.lreturn, 1) := by decide +kernel
theorem dX1_mixedText_0 : decode cX1_mixedText 0 = .ok (.lload_n 0, 1) := by decide +kernel
theorem dX1_mixedText_1 : decode cX1_mixedText 1 = .ok (.iload_n 3, 1) := by decide +kernel
theorem dX1_mixedText_2 : decode cX1_mixedText 2 = .ok (.i2l, 1) := by decide +kernel
theorem dX1_mixedText_3 : decode cX1_mixedText 3 = .ok (.invokestatic 136, 3) := by decide +kernel
theorem dX1_mixedText_6 : decode cX1_mixedText 6 = .ok (.lstore 4, 2) := by decide +kernel
theorem dX1_mixedText_8 : decode cX1_mixedText 8 = .ok (.iconst 0, 1) := by decide +kernel
theorem dX1_mixedText_9 : decode cX1_mixedText 9 = .ok (.istore 6, 2) := by decide +kernel
theorem dX1_mixedText_11 : decode cX1_mixedText 11 = .ok (.iload 6, 2) := by decide +kernel
theorem dX1_mixedText_13 : decode cX1_mixedText 13 = .ok (.iload_n 3, 1) := by decide +kernel
theorem dX1_mixedText_14 : decode cX1_mixedText 14 = .ok (.if_icmp .ge 28, 3) := by decide +kernel
theorem dX1_mixedText_17 : decode cX1_mixedText 17 = .ok (.iload 6, 2) := by decide +kernel
theorem dX1_mixedText_19 : decode cX1_mixedText 19 = .ok (.aload_n 2, 1) := by decide +kernel
theorem dX1_mixedText_20 : decode cX1_mixedText 20 = .ok (.arraylength, 1) := by decide +kernel
theorem dX1_mixedText_21 : decode cX1_mixedText 21 = .ok (.if_icmp .ge 21, 3) := by decide +kernel
theorem dX1_mixedText_24 : decode cX1_mixedText 24 = .ok (.lload 4, 2) := by decide +kernel
theorem dX1_mixedText_26 : decode cX1_mixedText 26 = .ok (.aload_n 2, 1) := by decide +kernel
theorem dX1_mixedText_27 : decode cX1_mixedText 27 = .ok (.iload 6, 2) := by decide +kernel
theorem dX1_mixedText_29 : decode cX1_mixedText 29 = .ok (.caload, 1) := by decide +kernel
theorem dX1_mixedText_30 : decode cX1_mixedText 30 = .ok (.i2l, 1) := by decide +kernel
theorem dX1_mixedText_31 : decode cX1_mixedText 31 = .ok (.invokestatic 136, 3) := by decide +kernel
theorem dX1_mixedText_34 : decode cX1_mixedText 34 = .ok (.lstore 4, 2) := by decide +kernel
theorem dX1_mixedText_36 : decode cX1_mixedText 36 = .ok (.iinc 6 1, 3) := by decide +kernel
theorem dX1_mixedText_39 : decode cX1_mixedText 39 = .ok (.goto (-28), 3) := by decide +kernel
theorem dX1_mixedText_42 : decode cX1_mixedText 42 = .ok (.lload 4, 2) := by decide +kernel
theorem dX1_mixedText_44 : decode cX1_mixedText 44 = .ok (.lreturn, 1) := by decide +kernel
theorem dX1_mixedNode_0 : decode cX1_mixedNode 0 = .ok (.aload_n 2, 1) := by decide +kernel
theorem dX1_mixedNode_1 : decode cX1_mixedNode 1 = .ok (.getfield 62, 3) := by decide +kernel
theorem dX1_mixedNode_4 : decode cX1_mixedNode 4 = .ok (.astore_n 3, 1) := by decide +kernel
theorem dX1_mixedNode_5 : decode cX1_mixedNode 5 = .ok (.lload_n 0, 1) := by decide +kernel
theorem dX1_mixedNode_6 : decode cX1_mixedNode 6 = .ok (.aload_n 2, 1) := by decide +kernel
theorem dX1_mixedNode_7 : decode cX1_mixedNode 7 = .ok (.getfield 55, 3) := by decide +kernel
theorem dX1_mixedNode_10 : decode cX1_mixedNode 10 = .ok (.i2l, 1) := by decide +kernel
theorem dX1_mixedNode_11 : decode cX1_mixedNode 11 = .ok (.invokestatic 136, 3) := by decide +kernel
theorem dX1_mixedNode_14 : decode cX1_mixedNode 14 = .ok (.lstore 4, 2) := by decide +kernel
theorem dX1_mixedNode_16 : decode cX1_mixedNode 16 = .ok (.lload 4, 2) := by decide +kernel
theorem dX1_mixedNode_18 : decode cX1_mixedNode 18 = .ok (.aload_n 3, 1) := by decide +kernel
theorem dX1_mixedNode_19 : decode cX1_mixedNode 19 = .ok (.ifnonnull 7, 3) := by decide +kernel
theorem dX1_mixedNode_22 : decode cX1_mixedNode 22 = .ok (.lconst 0, 1) := by decide +kernel
theorem dX1_mixedNode_23 : decode cX1_mixedNode 23 = .ok (.goto 8, 3) := by decide +kernel
theorem dX1_mixedNode_26 : decode cX1_mixedNode 26 = .ok (.aload_n 3, 1) := by decide +kernel
theorem dX1_mixedNode_27 : decode cX1_mixedNode 27 = .ok (.getfield 55, 3) := by decide +kernel
theorem dX1_mixedNode_30 : decode cX1_mixedNode 30 = .ok (.i2l, 1) := by decide +kernel
theorem dX1_mixedNode_31 : decode cX1_mixedNode 31 = .ok (.invokestatic 136, 3) := by decide +kernel
theorem dX1_mixedNode_34 : decode cX1_mixedNode 34 = .ok (.lstore 4, 2) := by decide +kernel
theorem dX1_mixedNode_36 : decode cX1_mixedNode 36 = .ok (.lload 4, 2) := by decide +kernel
theorem dX1_mixedNode_38 : decode cX1_mixedNode 38 = .ok (.aload_n 3, 1) := by decide +kernel
theorem dX1_mixedNode_39 : decode cX1_mixedNode 39 = .ok (.ifnonnull 7, 3) := by decide +kernel
theorem dX1_mixedNode_42 : decode cX1_mixedNode 42 = .ok (.lconst 0, 1) := by decide +kernel
theorem dX1_mixedNode_43 : decode cX1_mixedNode 43 = .ok (.goto 8, 3) := by decide +kernel
theorem dX1_mixedNode_46 : decode cX1_mixedNode 46 = .ok (.aload_n 2, 1) := by decide +kernel
theorem dX1_mixedNode_47 : decode cX1_mixedNode 47 = .ok (.invokestatic 108, 3) := by decide +kernel
theorem dX1_mixedNode_50 : decode cX1_mixedNode 50 = .ok (.i2l, 1) := by decide +kernel
theorem dX1_mixedNode_51 : decode cX1_mixedNode 51 = .ok (.invokestatic 136, 3) := by decide +kernel
theorem dX1_mixedNode_54 : decode cX1_mixedNode 54 = .ok (.lstore 4, 2) := by decide +kernel
theorem dX1_mixedNode_56 : decode cX1_mixedNode 56 = .ok (.lload 4, 2) := by decide +kernel
theorem dX1_mixedNode_58 : decode cX1_mixedNode 58 = .ok (.aload_n 2, 1) := by decide +kernel
theorem dX1_mixedNode_59 : decode cX1_mixedNode 59 = .ok (.getfield 95, 3) := by decide +kernel
theorem dX1_mixedNode_62 : decode cX1_mixedNode 62 = .ok (.aload_n 2, 1) := by decide +kernel
theorem dX1_mixedNode_63 : decode cX1_mixedNode 63 = .ok (.getfield 40, 3) := by decide +kernel
theorem dX1_mixedNode_66 : decode cX1_mixedNode 66 = .ok (.invokestatic 148, 3) := by decide +kernel
theorem dX1_mixedNode_69 : decode cX1_mixedNode 69 = .ok (.lstore 4, 2) := by decide +kernel
theorem dX1_mixedNode_71 : decode cX1_mixedNode 71 = .ok (.lload 4, 2) := by decide +kernel
theorem dX1_mixedNode_73 : decode cX1_mixedNode 73 = .ok (.aload_n 2, 1) := by decide +kernel
theorem dX1_mixedNode_74 : decode cX1_mixedNode 74 = .ok (.getfield 69, 3) := by decide +kernel
theorem dX1_mixedNode_77 : decode cX1_mixedNode 77 = .ok (.invokestatic 105, 3) := by decide +kernel
theorem dX1_mixedNode_80 : decode cX1_mixedNode 80 = .ok (.i2l, 1) := by decide +kernel
theorem dX1_mixedNode_81 : decode cX1_mixedNode 81 = .ok (.invokestatic 136, 3) := by decide +kernel
theorem dX1_mixedNode_84 : decode cX1_mixedNode 84 = .ok (.lstore 4, 2) := by decide +kernel
theorem dX1_mixedNode_86 : decode cX1_mixedNode 86 = .ok (.lload 4, 2) := by decide +kernel
theorem dX1_mixedNode_88 : decode cX1_mixedNode 88 = .ok (.aload_n 2, 1) := by decide +kernel
theorem dX1_mixedNode_89 : decode cX1_mixedNode 89 = .ok (.getfield 111, 3) := by decide +kernel
theorem dX1_mixedNode_92 : decode cX1_mixedNode 92 = .ok (.i2l, 1) := by decide +kernel
theorem dX1_mixedNode_93 : decode cX1_mixedNode 93 = .ok (.invokestatic 136, 3) := by decide +kernel
theorem dX1_mixedNode_96 : decode cX1_mixedNode 96 = .ok (.lreturn, 1) := by decide +kernel
theorem dX2_init_0 : decode cX2_init 0 = .ok (.aload_n 0, 1) := by decide +kernel
theorem dX2_init_1 : decode cX2_init 1 = .ok (.invokespecial 1, 3) := by decide +kernel
theorem dX2_init_4 : decode cX2_init 4 = .ok (.aload_n 0, 1) := by decide +kernel
theorem dX2_init_5 : decode cX2_init 5 = .ok (.iconst 1, 1) := by decide +kernel
theorem dX2_init_6 : decode cX2_init 6 = .ok (.putfield 7, 3) := by decide +kernel
theorem dX2_init_9 : decode cX2_init 9 = .ok (.aload_n 0, 1) := by decide +kernel
theorem dX2_init_10 : decode cX2_init 10 = .ok (.iconst 1, 1) := by decide +kernel
theorem dX2_init_11 : decode cX2_init 11 = .ok (.putfield 13, 3) := by decide +kernel
theorem dX2_init_14 : decode cX2_init 14 = .ok (.aload_n 0, 1) := by decide +kernel
theorem dX2_init_15 : decode cX2_init 15 = .ok (.bipush 24, 2) := by decide +kernel
theorem dX2_init_17 : decode cX2_init 17 = .ok (.newarray .int, 2) := by decide +kernel
theorem dX2_init_19 : decode cX2_init 19 = .ok (.putfield 16, 3) := by decide +kernel
theorem dX2_init_22 : decode cX2_init 22 = .ok (.aload_n 0, 1) := by decide +kernel
theorem dX2_init_23 : decode cX2_init 23 = .ok (.bipush 24, 2) := by decide +kernel
theorem dX2_init_25 : decode cX2_init 25 = .ok (.newarray .int, 2) := by decide +kernel
theorem dX2_init_27 : decode cX2_init 27 = .ok (.putfield 20, 3) := by decide +kernel
theorem dX2_init_30 : decode cX2_init 30 = .ok (.aload_n 0, 1) := by decide +kernel
theorem dX2_init_31 : decode cX2_init 31 = .ok (.bipush 24, 2) := by decide +kernel
theorem dX2_init_33 : decode cX2_init 33 = .ok (.newarray .int, 2) := by decide +kernel
theorem dX2_init_35 : decode cX2_init 35 = .ok (.putfield 23, 3) := by decide +kernel
theorem dX2_init_38 : decode cX2_init 38 = .ok (.aload_n 0, 1) := by decide +kernel
theorem dX2_init_39 : decode cX2_init 39 = .ok (.bipush 24, 2) := by decide +kernel
theorem dX2_init_41 : decode cX2_init 41 = .ok (.newarray .int, 2) := by decide +kernel
theorem dX2_init_43 : decode cX2_init 43 = .ok (.putfield 26, 3) := by decide +kernel
theorem dX2_init_46 : decode cX2_init 46 = .ok (.aload_n 0, 1) := by decide +kernel
theorem dX2_init_47 : decode cX2_init 47 = .ok (.bipush 24, 2) := by decide +kernel
theorem dX2_init_49 : decode cX2_init 49 = .ok (.newarray .int, 2) := by decide +kernel
theorem dX2_init_51 : decode cX2_init 51 = .ok (.putfield 29, 3) := by decide +kernel
theorem dX2_init_54 : decode cX2_init 54 = .ok (.aload_n 0, 1) := by decide +kernel
theorem dX2_init_55 : decode cX2_init 55 = .ok (.bipush 24, 2) := by decide +kernel
theorem dX2_init_57 : decode cX2_init 57 = .ok (.newarray .int, 2) := by decide +kernel
theorem dX2_init_59 : decode cX2_init 59 = .ok (.putfield 32, 3) := by decide +kernel
theorem dX2_init_62 : decode cX2_init 62 = .ok (.aload_n 0, 1) := by decide +kernel
theorem dX2_init_63 : decode cX2_init 63 = .ok (.bipush 24, 2) := by decide +kernel
theorem dX2_init_65 : decode cX2_init 65 = .ok (.newarray .boolean, 2) := by decide +kernel
theorem dX2_init_67 : decode cX2_init 67 = .ok (.putfield 35, 3) := by decide +kernel
theorem dX2_init_70 : decode cX2_init 70 = .ok (.aload_n 0, 1) := by decide +kernel
theorem dX2_init_71 : decode cX2_init 71 = .ok (.sipush 144, 3) := by decide +kernel
theorem dX2_init_74 : decode cX2_init 74 = .ok (.newarray .int, 2) := by decide +kernel
theorem dX2_init_76 : decode cX2_init 76 = .ok (.putfield 39, 3) := by decide +kernel
theorem dX2_init_79 : decode cX2_init 79 = .ok (.aload_n 0, 1) := by decide +kernel
theorem dX2_init_80 : decode cX2_init 80 = .ok (.bipush 24, 2) := by decide +kernel
theorem dX2_init_82 : decode cX2_init 82 = .ok (.newarray .int, 2) := by decide +kernel
theorem dX2_init_84 : decode cX2_init 84 = .ok (.putfield 42, 3) := by decide +kernel
theorem dX2_init_87 : decode cX2_init 87 = .ok (.aload_n 0, 1) := by decide +kernel
theorem dX2_init_88 : decode cX2_init 88 = .ok (.sipush 960, 3) := by decide +kernel
theorem dX2_init_91 : decode cX2_init 91 = .ok (.newarray .int, 2) := by decide +kernel
theorem dX2_init_93 : decode cX2_init 93 = .ok (.putfield 45, 3) := by decide +kernel
theorem dX2_init_96 : decode cX2_init 96 = .ok (.aload_n 0, 1) := by decide +kernel
theorem dX2_init_97 : decode cX2_init 97 = .ok (.bipush 6, 2) := by decide +kernel
theorem dX2_init_99 : decode cX2_init 99 = .ok (.newarray .int, 2) := by decide +kernel
theorem dX2_init_101 : decode cX2_init 101 = .ok (.putfield 48, 3) := by decide +kernel
theorem dX2_init_104 : decode cX2_init 104 = .ok (.aload_n 0, 1) := by decide +kernel
theorem dX2_init_105 : decode cX2_init 105 = .ok (.iconst 5, 1) := by decide +kernel
theorem dX2_init_106 : decode cX2_init 106 = .ok (.newarray .int, 2) := by decide +kernel
theorem dX2_init_108 : decode cX2_init 108 = .ok (.putfield 51, 3) := by decide +kernel
theorem dX2_init_111 : decode cX2_init 111 = .ok (.aload_n 0, 1) := by decide +kernel
theorem dX2_init_112 : decode cX2_init 112 = .ok (.bipush 6, 2) := by decide +kernel
theorem dX2_init_114 : decode cX2_init 114 = .ok (.newarray .int, 2) := by decide +kernel
theorem dX2_init_116 : decode cX2_init 116 = .ok (.putfield 54, 3) := by decide +kernel
theorem dX2_init_119 : decode cX2_init 119 = .ok (.aload_n 0, 1) := by decide +kernel
theorem dX2_init_120 : decode cX2_init 120 = .ok (.getfield 20, 3) := by decide +kernel
theorem dX2_init_123 : decode cX2_init 123 = .ok (.iconst 0, 1) := by decide +kernel
theorem dX2_init_124 : decode cX2_init 124 = .ok (.bipush (-7), 2) := by decide +kernel
theorem dX2_init_126 : decode cX2_init 126 = .ok (.iastore, 1) := by decide +kernel
theorem dX2_init_127 : decode cX2_init 127 = .ok (.aload_n 0, 1) := by decide +kernel
theorem dX2_init_128 : decode cX2_init 128 = .ok (.getfield 23, 3) := by decide +kernel
theorem dX2_init_131 : decode cX2_init 131 = .ok (.iconst 0, 1) := by decide +kernel
theorem dX2_init_132 : decode cX2_init 132 = .ok (.bipush (-7), 2) := by decide +kernel
theorem dX2_init_134 : decode cX2_init 134 = .ok (.iastore, 1) := by decide +kernel
theorem dX2_init_135 : decode cX2_init 135 = .ok (.iconst 0, 1) := by decide +kernel
theorem dX2_init_136 : decode cX2_init 136 = .ok (.istore_n 1, 1) := by decide +kernel
theorem dX2_init_137 : decode cX2_init 137 = .ok (.iload_n 1, 1) := by decide +kernel
theorem dX2_init_138 : decode cX2_init 138 = .ok (.iconst 5, 1) := by decide +kernel
theorem dX2_init_139 : decode cX2_init 139 = .ok (.if_icmp .ge 17, 3) := by decide +kernel
theorem dX2_init_142 : decode cX2_init 142 = .ok (.aload_n 0, 1) := by decide +kernel
theorem dX2_init_143 : decode cX2_init 143 = .ok (.getfield 51, 3) := by decide +kernel
theorem dX2_init_146 : decode cX2_init 146 = .ok (.iload_n 1, 1) := by decide +kernel
theorem dX2_init_147 : decode cX2_init 147 = .ok (.bipush (-7), 2) := by decide +kernel
theorem dX2_init_149 : decode cX2_init 149 = .ok (.iastore, 1) := by decide +kernel
theorem dX2_init_150 : decode cX2_init 150 = .ok (.iinc 1 1, 3) := by decide +kernel
theorem dX2_init_153 : decode cX2_init 153 = .ok (.goto (-16), 3) := by decide +kernel
theorem dX2_init_156 : decode cX2_init 156 = .ok (.return_, 1) := by decide +kernel
theorem dX2_within_0 : decode cX2_within 0 = .ok (.iload_n 0, 1) := by decide +kernel
theorem dX2_within_1 : decode cX2_within 1 = .ok (.iload_n 1, 1) := by decide +kernel
theorem dX2_within_2 : decode cX2_within 2 = .ok (.if_icmp .lt 12, 3) := by decide +kernel
theorem dX2_within_5 : decode cX2_within 5 = .ok (.iload_n 0, 1) := by decide +kernel
theorem dX2_within_6 : decode cX2_within 6 = .ok (.iload_n 2, 1) := by decide +kernel
theorem dX2_within_7 : decode cX2_within 7 = .ok (.if_icmp .gt 7, 3) := by decide +kernel
theorem dX2_within_10 : decode cX2_within 10 = .ok (.iconst 1, 1) := by decide +kernel
theorem dX2_within_11 : decode cX2_within 11 = .ok (.goto 4, 3) := by decide +kernel
theorem dX2_within_14 : decode cX2_within 14 = .ok (.iconst 0, 1) := by decide +kernel
theorem dX2_within_15 : decode cX2_within 15 = .ok (.ireturn, 1) := by decide +kernel
theorem dX2_at_0 : decode cX2_at 0 = .ok (.bipush (-7), 2) := by decide +kernel
theorem dX2_at_2 : decode cX2_at 2 = .ok (.istore_n 2, 1) := by decide +kernel
theorem dX2_at_3 : decode cX2_at 3 = .ok (.iconst 0, 1) := by decide +kernel
theorem dX2_at_4 : decode cX2_at 4 = .ok (.istore_n 3, 1) := by decide +kernel
theorem dX2_at_5 : decode cX2_at 5 = .ok (.iload_n 3, 1) := by decide +kernel
theorem dX2_at_6 : decode cX2_at 6 = .ok (.aload_n 0, 1) := by decide +kernel
theorem dX2_at_7 : decode cX2_at 7 = .ok (.getfield 7, 3) := by decide +kernel
theorem dX2_at_10 : decode cX2_at 10 = .ok (.if_icmp .ge 25, 3) := by decide +kernel
theorem dX2_at_13 : decode cX2_at 13 = .ok (.aload_n 0, 1) := by decide +kernel
theorem dX2_at_14 : decode cX2_at 14 = .ok (.getfield 16, 3) := by decide +kernel
theorem dX2_at_17 : decode cX2_at 17 = .ok (.iload_n 3, 1) := by decide +kernel
theorem dX2_at_18 : decode cX2_at 18 = .ok (.iaload, 1) := by decide +kernel
theorem dX2_at_19 : decode cX2_at 19 = .ok (.iload_n 1, 1) := by decide +kernel
theorem dX2_at_20 : decode cX2_at 20 = .ok (.if_icmp .ne 7, 3) := by decide +kernel
theorem dX2_at_23 : decode cX2_at 23 = .ok (.iload_n 3, 1) := by decide +kernel
theorem dX2_at_24 : decode cX2_at 24 = .ok (.goto 4, 3) := by decide +kernel
theorem dX2_at_27 : decode cX2_at 27 = .ok (.iload_n 2, 1) := by decide +kernel
theorem dX2_at_28 : decode cX2_at 28 = .ok (.istore_n 2, 1) := by decide +kernel
theorem dX2_at_29 : decode cX2_at 29 = .ok (.iinc 3 1, 3) := by decide +kernel
theorem dX2_at_32 : decode cX2_at 32 = .ok (.goto (-27), 3) := by decide +kernel
theorem dX2_at_35 : decode cX2_at 35 = .ok (.iload_n 2, 1) := by decide +kernel
theorem dX2_at_36 : decode cX2_at 36 = .ok (.ireturn, 1) := by decide +kernel
theorem dX2_above_0 : decode cX2_above 0 = .ok (.aload_n 0, 1) := by decide +kernel
theorem dX2_above_1 : decode cX2_above 1 = .ok (.getfield 20, 3) := by decide +kernel
theorem dX2_above_4 : decode cX2_above 4 = .ok (.iload_n 1, 1) := by decide +kernel
theorem dX2_above_5 : decode cX2_above 5 = .ok (.iaload, 1) := by decide +kernel
theorem dX2_above_6 : decode cX2_above 6 = .ok (.bipush (-7), 2) := by decide +kernel
theorem dX2_above_8 : decode cX2_above 8 = .ok (.if_icmp .ne 8, 3) := by decide +kernel
theorem dX2_above_11 : decode cX2_above 11 = .ok (.bipush (-7), 2) := by decide +kernel
theorem dX2_above_13 : decode cX2_above 13 = .ok (.goto 13, 3) := by decide +kernel
theorem dX2_above_16 : decode cX2_above 16 = .ok (.aload_n 0, 1) := by decide +kernel
theorem dX2_above_17 : decode cX2_above 17 = .ok (.aload_n 0, 1) := by decide +kernel
theorem dX2_above_18 : decode cX2_above 18 = .ok (.getfield 20, 3) := by decide +kernel
theorem dX2_above_21 : decode cX2_above 21 = .ok (.iload_n 1, 1) := by decide +kernel
theorem dX2_above_22 : decode cX2_above 22 = .ok (.iaload, 1) := by decide +kernel
theorem dX2_above_23 : decode cX2_above 23 = .ok (.invokevirtual 57, 3) := by decide +kernel
theorem dX2_above_26 : decode cX2_above 26 = .ok (.ireturn, 1) := by decide +kernel
theorem dX2_depth_0 : decode cX2_depth 0 = .ok (.iconst 0, 1) := by decide +kernel
theorem dX2_depth_1 : decode cX2_depth 1 = .ok (.istore_n 2, 1) := by decide +kernel
theorem dX2_depth_2 : decode cX2_depth 2 = .ok (.iload_n 1, 1) := by decide +kernel
theorem dX2_depth_3 : decode cX2_depth 3 = .ok (.istore_n 3, 1) := by decide +kernel
theorem dX2_depth_4 : decode cX2_depth 4 = .ok (.aload_n 0, 1) := by decide +kernel
theorem dX2_depth_5 : decode cX2_depth 5 = .ok (.iload_n 3, 1) := by decide +kernel
theorem dX2_depth_6 : decode cX2_depth 6 = .ok (.invokevirtual 61, 3) := by decide +kernel
theorem dX2_depth_9 : decode cX2_depth 9 = .ok (.bipush (-7), 2) := by decide +kernel
theorem dX2_depth_11 : decode cX2_depth 11 = .ok (.if_icmp .eq 15, 3) := by decide +kernel
theorem dX2_depth_14 : decode cX2_depth 14 = .ok (.iinc 2 1, 3) := by decide +kernel
theorem dX2_depth_17 : decode cX2_depth 17 = .ok (.aload_n 0, 1) := by decide +kernel
theorem dX2_depth_18 : decode cX2_depth 18 = .ok (.iload_n 3, 1) := by decide +kernel
theorem dX2_depth_19 : decode cX2_depth 19 = .ok (.invokevirtual 61, 3) := by decide +kernel
theorem dX2_depth_22 : decode cX2_depth 22 = .ok (.istore_n 3, 1) := by decide +kernel
theorem dX2_depth_23 : decode cX2_depth 23 = .ok (.goto (-19), 3) := by decide +kernel
theorem dX2_depth_26 : decode cX2_depth 26 = .ok (.iload_n 2, 1) := by decide +kernel
theorem dX2_depth_27 : decode cX2_depth 27 = .ok (.ireturn, 1) := by decide +kernel
theorem dX2_isOnPath_0 : decode cX2_isOnPath 0 = .ok (.iload_n 2, 1) := by decide +kernel
theorem dX2_isOnPath_1 : decode cX2_isOnPath 1 = .ok (.istore_n 3, 1) := by decide +kernel
theorem dX2_isOnPath_2 : decode cX2_isOnPath 2 = .ok (.iload_n 3, 1) := by decide +kernel
theorem dX2_isOnPath_3 : decode cX2_isOnPath 3 = .ok (.bipush (-7), 2) := by decide +kernel
theorem dX2_isOnPath_5 : decode cX2_isOnPath 5 = .ok (.if_icmp .eq 17, 3) := by decide +kernel
theorem dX2_isOnPath_8 : decode cX2_isOnPath 8 = .ok (.iload_n 3, 1) := by decide +kernel
theorem dX2_isOnPath_9 : decode cX2_isOnPath 9 = .ok (.iload_n 1, 1) := by decide +kernel
theorem dX2_isOnPath_10 : decode cX2_isOnPath 10 = .ok (.if_icmp .eq 12, 3) := by decide +kernel
theorem dX2_isOnPath_13 : decode cX2_isOnPath 13 = .ok (.aload_n 0, 1) := by decide +kernel
theorem dX2_isOnPath_14 : decode cX2_isOnPath 14 = .ok (.iload_n 3, 1) := by decide +kernel
theorem dX2_isOnPath_15 : decode cX2_isOnPath 15 = .ok (.invokevirtual 61, 3) := by decide +kernel
theorem dX2_isOnPath_18 : decode cX2_isOnPath 18 = .ok (.istore_n 3, 1) := by decide +kernel
theorem dX2_isOnPath_19 : decode cX2_isOnPath 19 = .ok (.goto (-17), 3) := by decide +kernel
theorem dX2_isOnPath_22 : decode cX2_isOnPath 22 = .ok (.iload_n 3, 1) := by decide +kernel
theorem dX2_isOnPath_23 : decode cX2_isOnPath 23 = .ok (.iload_n 1, 1) := by decide +kernel
theorem dX2_isOnPath_24 : decode cX2_isOnPath 24 = .ok (.if_icmp .ne 7, 3) := by decide +kernel
theorem dX2_isOnPath_27 : decode cX2_isOnPath 27 = .ok (.iconst 1, 1) := by decide +kernel
theorem dX2_isOnPath_28 : decode cX2_isOnPath 28 = .ok (.goto 4, 3) := by decide +kernel
theorem dX2_isOnPath_31 : decode cX2_isOnPath 31 = .ok (.iconst 0, 1) := by decide +kernel
theorem dX2_isOnPath_32 : decode cX2_isOnPath 32 = .ok (.ireturn, 1) := by decide +kernel
theorem dX2_become_0 : decode cX2_become 0 = .ok (.aload_n 0, 1) := by decide +kernel
theorem dX2_become_1 : decode cX2_become 1 = .ok (.dup, 1) := by decide +kernel
theorem dX2_become_2 : decode cX2_become 2 = .ok (.getfield 64, 3) := by decide +kernel
theorem dX2_become_5 : decode cX2_become 5 = .ok (.iconst 1, 1) := by decide +kernel
theorem dX2_become_6 : decode cX2_become 6 = .ok (.iadd, 1) := by decide +kernel
theorem dX2_become_7 : decode cX2_become 7 = .ok (.putfield 64, 3) := by decide +kernel
theorem dX2_become_10 : decode cX2_become 10 = .ok (.aload_n 0, 1) := by decide +kernel
theorem dX2_become_11 : decode cX2_become 11 = .ok (.getfield 26, 3) := by decide +kernel
theorem dX2_become_14 : decode cX2_become 14 = .ok (.iload_n 1, 1) := by decide +kernel
theorem dX2_become_15 : decode cX2_become 15 = .ok (.aload_n 0, 1) := by decide +kernel
theorem dX2_become_16 : decode cX2_become 16 = .ok (.getfield 64, 3) := by decide +kernel
theorem dX2_become_19 : decode cX2_become 19 = .ok (.iastore, 1) := by decide +kernel
theorem dX2_become_20 : decode cX2_become 20 = .ok (.aload_n 0, 1) := by decide +kernel
theorem dX2_become_21 : decode cX2_become 21 = .ok (.iload_n 1, 1) := by decide +kernel
theorem dX2_become_22 : decode cX2_become 22 = .ok (.putfield 67, 3) := by decide +kernel
theorem dX2_become_25 : decode cX2_become 25 = .ok (.iload_n 1, 1) := by decide +kernel
theorem dX2_become_26 : decode cX2_become 26 = .ok (.istore_n 2, 1) := by decide +kernel
theorem dX2_become_27 : decode cX2_become 27 = .ok (.aload_n 0, 1) := by decide +kernel
theorem dX2_become_28 : decode cX2_become 28 = .ok (.iload_n 2, 1) := by decide +kernel
theorem dX2_become_29 : decode cX2_become 29 = .ok (.invokevirtual 61, 3) := by decide +kernel
theorem dX2_become_32 : decode cX2_become 32 = .ok (.bipush (-7), 2) := by decide +kernel
theorem dX2_become_34 : decode cX2_become 34 = .ok (.if_icmp .eq 28, 3) := by decide +kernel
theorem dX2_become_37 : decode cX2_become 37 = .ok (.aload_n 0, 1) := by decide +kernel
theorem dX2_become_38 : decode cX2_become 38 = .ok (.getfield 23, 3) := by decide +kernel
theorem dX2_become_41 : decode cX2_become 41 = .ok (.aload_n 0, 1) := by decide +kernel
theorem dX2_become_42 : decode cX2_become 42 = .ok (.iload_n 2, 1) := by decide +kernel
theorem dX2_become_43 : decode cX2_become 43 = .ok (.invokevirtual 61, 3) := by decide +kernel
theorem dX2_become_46 : decode cX2_become 46 = .ok (.aload_n 0, 1) := by decide +kernel
theorem dX2_become_47 : decode cX2_become 47 = .ok (.getfield 16, 3) := by decide +kernel
theorem dX2_become_50 : decode cX2_become 50 = .ok (.iload_n 2, 1) := by decide +kernel
theorem dX2_become_51 : decode cX2_become 51 = .ok (.iaload, 1) := by decide +kernel
theorem dX2_become_52 : decode cX2_become 52 = .ok (.iastore, 1) := by decide +kernel
theorem dX2_become_53 : decode cX2_become 53 = .ok (.aload_n 0, 1) := by decide +kernel
theorem dX2_become_54 : decode cX2_become 54 = .ok (.iload_n 2, 1) := by decide +kernel
theorem dX2_become_55 : decode cX2_become 55 = .ok (.invokevirtual 61, 3) := by decide +kernel
theorem dX2_become_58 : decode cX2_become 58 = .ok (.istore_n 2, 1) := by decide +kernel
theorem dX2_become_59 : decode cX2_become 59 = .ok (.goto (-32), 3) := by decide +kernel
theorem dX2_become_62 : decode cX2_become 62 = .ok (.aload_n 0, 1) := by decide +kernel
theorem dX2_become_63 : decode cX2_become 63 = .ok (.getfield 16, 3) := by decide +kernel
theorem dX2_become_66 : decode cX2_become 66 = .ok (.iload_n 1, 1) := by decide +kernel
theorem dX2_become_67 : decode cX2_become 67 = .ok (.iaload, 1) := by decide +kernel
theorem dX2_become_68 : decode cX2_become 68 = .ok (.ireturn, 1) := by decide +kernel
theorem dX2_append_0 : decode cX2_append 0 = .ok (.iload_n 1, 1) := by decide +kernel
theorem dX2_append_1 : decode cX2_append 1 = .ok (.bipush 32, 2) := by decide +kernel
theorem dX2_append_3 : decode cX2_append 3 = .ok (.bipush 126, 2) := by decide +kernel
theorem dX2_append_5 : decode cX2_append 5 = .ok (.invokestatic 70, 3) := by decide +kernel
theorem dX2_append_8 : decode cX2_append 8 = .ok (.ifCond .ne 5, 3) := by decide +kernel
theorem dX2_append_11 : decode cX2_append 11 = .ok (.iconst (-1), 1) := by decide +kernel
theorem dX2_append_12 : decode cX2_append 12 = .ok (.ireturn, 1) := by decide +kernel
theorem dX2_append_13 : decode cX2_append 13 = .ok (.aload_n 0, 1) := by decide +kernel
theorem dX2_append_14 : decode cX2_append 14 = .ok (.getfield 74, 3) := by decide +kernel
theorem dX2_append_17 : decode cX2_append 17 = .ok (.bipush 6, 2) := by decide +kernel
theorem dX2_append_19 : decode cX2_append 19 = .ok (.if_icmp .ne 6, 3) := by decide +kernel
theorem dX2_append_22 : decode cX2_append 22 = .ok (.bipush (-4), 2) := by decide +kernel
theorem dX2_append_24 : decode cX2_append 24 = .ok (.ireturn, 1) := by decide +kernel
theorem dX2_append_25 : decode cX2_append 25 = .ok (.aload_n 0, 1) := by decide +kernel
theorem dX2_append_26 : decode cX2_append 26 = .ok (.getfield 48, 3) := by decide +kernel
theorem dX2_append_29 : decode cX2_append 29 = .ok (.aload_n 0, 1) := by decide +kernel
theorem dX2_append_30 : decode cX2_append 30 = .ok (.getfield 74, 3) := by decide +kernel
theorem dX2_append_33 : decode cX2_append 33 = .ok (.iload_n 1, 1) := by decide +kernel
theorem dX2_append_34 : decode cX2_append 34 = .ok (.iastore, 1) := by decide +kernel
theorem dX2_append_35 : decode cX2_append 35 = .ok (.aload_n 0, 1) := by decide +kernel
theorem dX2_append_36 : decode cX2_append 36 = .ok (.dup, 1) := by decide +kernel
theorem dX2_append_37 : decode cX2_append 37 = .ok (.getfield 74, 3) := by decide +kernel
theorem dX2_append_40 : decode cX2_append 40 = .ok (.iconst 1, 1) := by decide +kernel
theorem dX2_append_41 : decode cX2_append 41 = .ok (.iadd, 1) := by decide +kernel
theorem dX2_append_42 : decode cX2_append 42 = .ok (.putfield 74, 3) := by decide +kernel
theorem dX2_append_45 : decode cX2_append 45 = .ok (.aload_n 0, 1) := by decide +kernel
theorem dX2_append_46 : decode cX2_append 46 = .ok (.getfield 74, 3) := by decide +kernel
theorem dX2_append_49 : decode cX2_append 49 = .ok (.ireturn, 1) := by decide +kernel
theorem dX2_clearClip_0 : decode cX2_clearClip 0 = .ok (.aload_n 0, 1) := by decide +kernel
theorem dX2_clearClip_1 : decode cX2_clearClip 1 = .ok (.getfield 74, 3) := by decide +kernel
theorem dX2_clearClip_4 : decode cX2_clearClip 4 = .ok (.istore_n 1, 1) := by decide +kernel
theorem dX2_clearClip_5 : decode cX2_clearClip 5 = .ok (.aload_n 0, 1) := by decide +kernel
theorem dX2_clearClip_6 : decode cX2_clearClip 6 = .ok (.iconst 0, 1) := by decide +kernel
theorem dX2_clearClip_7 : decode cX2_clearClip 7 = .ok (.putfield 74, 3) := by decide +kernel
theorem dX2_clearClip_10 : decode cX2_clearClip 10 = .ok (.iload_n 1, 1) := by decide +kernel
theorem dX2_clearClip_11 : decode cX2_clearClip 11 = .ok (.ireturn, 1) := by decide +kernel
theorem dX2_grow_0 : decode cX2_grow 0 = .ok (.aload_n 0, 1) := by decide +kernel
theorem dX2_grow_1 : decode cX2_grow 1 = .ok (.getfield 7, 3) := by decide +kernel
theorem dX2_grow_4 : decode cX2_grow 4 = .ok (.istore 4, 2) := by decide +kernel
theorem dX2_grow_6 : decode cX2_grow 6 = .ok (.aload_n 0, 1) := by decide +kernel
theorem dX2_grow_7 : decode cX2_grow 7 = .ok (.getfield 16, 3) := by decide +kernel
theorem dX2_grow_10 : decode cX2_grow 10 = .ok (.iload 4, 2) := by decide +kernel
theorem dX2_grow_12 : decode cX2_grow 12 = .ok (.aload_n 0, 1) := by decide +kernel
theorem dX2_grow_13 : decode cX2_grow 13 = .ok (.getfield 13, 3) := by decide +kernel
theorem dX2_grow_16 : decode cX2_grow 16 = .ok (.iastore, 1) := by decide +kernel
theorem dX2_grow_17 : decode cX2_grow 17 = .ok (.aload_n 0, 1) := by decide +kernel
theorem dX2_grow_18 : decode cX2_grow 18 = .ok (.dup, 1) := by decide +kernel
theorem dX2_grow_19 : decode cX2_grow 19 = .ok (.getfield 13, 3) := by decide +kernel
theorem dX2_grow_22 : decode cX2_grow 22 = .ok (.iconst 1, 1) := by decide +kernel
theorem dX2_grow_23 : decode cX2_grow 23 = .ok (.iadd, 1) := by decide +kernel
theorem dX2_grow_24 : decode cX2_grow 24 = .ok (.putfield 13, 3) := by decide +kernel
theorem dX2_grow_27 : decode cX2_grow 27 = .ok (.aload_n 0, 1) := by decide +kernel
theorem dX2_grow_28 : decode cX2_grow 28 = .ok (.getfield 20, 3) := by decide +kernel
theorem dX2_grow_31 : decode cX2_grow 31 = .ok (.iload 4, 2) := by decide +kernel
theorem dX2_grow_33 : decode cX2_grow 33 = .ok (.aload_n 0, 1) := by decide +kernel
theorem dX2_grow_34 : decode cX2_grow 34 = .ok (.getfield 16, 3) := by decide +kernel
theorem dX2_grow_37 : decode cX2_grow 37 = .ok (.aload_n 0, 1) := by decide +kernel
theorem dX2_grow_38 : decode cX2_grow 38 = .ok (.getfield 67, 3) := by decide +kernel
theorem dX2_grow_41 : decode cX2_grow 41 = .ok (.iaload, 1) := by decide +kernel
theorem dX2_grow_42 : decode cX2_grow 42 = .ok (.iastore, 1) := by decide +kernel
theorem dX2_grow_43 : decode cX2_grow 43 = .ok (.aload_n 0, 1) := by decide +kernel
theorem dX2_grow_44 : decode cX2_grow 44 = .ok (.getfield 23, 3) := by decide +kernel
theorem dX2_grow_47 : decode cX2_grow 47 = .ok (.iload 4, 2) := by decide +kernel
theorem dX2_grow_49 : decode cX2_grow 49 = .ok (.bipush (-7), 2) := by decide +kernel
theorem dX2_grow_51 : decode cX2_grow 51 = .ok (.iastore, 1) := by decide +kernel
theorem dX2_grow_52 : decode cX2_grow 52 = .ok (.aload_n 0, 1) := by decide +kernel
theorem dX2_grow_53 : decode cX2_grow 53 = .ok (.getfield 29, 3) := by decide +kernel
theorem dX2_grow_56 : decode cX2_grow 56 = .ok (.iload 4, 2) := by decide +kernel
theorem dX2_grow_58 : decode cX2_grow 58 = .ok (.iload_n 1, 1) := by decide +kernel
theorem dX2_grow_59 : decode cX2_grow 59 = .ok (.iastore, 1) := by decide +kernel
theorem dX2_grow_60 : decode cX2_grow 60 = .ok (.aload_n 0, 1) := by decide +kernel
theorem dX2_grow_61 : decode cX2_grow 61 = .ok (.getfield 32, 3) := by decide +kernel
theorem dX2_grow_64 : decode cX2_grow 64 = .ok (.iload 4, 2) := by decide +kernel
theorem dX2_grow_66 : decode cX2_grow 66 = .ok (.iload_n 2, 1) := by decide +kernel
theorem dX2_grow_67 : decode cX2_grow 67 = .ok (.iastore, 1) := by decide +kernel
theorem dX2_grow_68 : decode cX2_grow 68 = .ok (.aload_n 0, 1) := by decide +kernel
theorem dX2_grow_69 : decode cX2_grow 69 = .ok (.getfield 35, 3) := by decide +kernel
theorem dX2_grow_72 : decode cX2_grow 72 = .ok (.iload 4, 2) := by decide +kernel
theorem dX2_grow_74 : decode cX2_grow 74 = .ok (.iload_n 3, 1) := by decide +kernel
theorem dX2_grow_75 : decode cX2_grow 75 = .ok (.bastore, 1) := by decide +kernel
theorem dX2_grow_76 : decode cX2_grow 76 = .ok (.iconst 0, 1) := by decide +kernel
theorem dX2_grow_77 : decode cX2_grow 77 = .ok (.istore 5, 2) := by decide +kernel
theorem dX2_grow_79 : decode cX2_grow 79 = .ok (.iload 5, 2) := by decide +kernel
theorem dX2_grow_81 : decode cX2_grow 81 = .ok (.iload_n 2, 1) := by decide +kernel
theorem dX2_grow_82 : decode cX2_grow 82 = .ok (.if_icmp .ge 29, 3) := by decide +kernel
theorem dX2_grow_85 : decode cX2_grow 85 = .ok (.aload_n 0, 1) := by decide +kernel
theorem dX2_grow_86 : decode cX2_grow 86 = .ok (.getfield 39, 3) := by decide +kernel
theorem dX2_grow_89 : decode cX2_grow 89 = .ok (.bipush 6, 2) := by decide +kernel
theorem dX2_grow_91 : decode cX2_grow 91 = .ok (.iload 4, 2) := by decide +kernel
theorem dX2_grow_93 : decode cX2_grow 93 = .ok (.imul, 1) := by decide +kernel
theorem dX2_grow_94 : decode cX2_grow 94 = .ok (.iload 5, 2) := by decide +kernel
theorem dX2_grow_96 : decode cX2_grow 96 = .ok (.iadd, 1) := by decide +kernel
theorem dX2_grow_97 : decode cX2_grow 97 = .ok (.aload_n 0, 1) := by decide +kernel
theorem dX2_grow_98 : decode cX2_grow 98 = .ok (.getfield 54, 3) := by decide +kernel
theorem dX2_grow_101 : decode cX2_grow 101 = .ok (.iload 5, 2) := by decide +kernel
theorem dX2_grow_103 : decode cX2_grow 103 = .ok (.iaload, 1) := by decide +kernel
theorem dX2_grow_104 : decode cX2_grow 104 = .ok (.iastore, 1) := by decide +kernel
theorem dX2_grow_105 : decode cX2_grow 105 = .ok (.iinc 5 1, 3) := by decide +kernel
theorem dX2_grow_108 : decode cX2_grow 108 = .ok (.goto (-29), 3) := by decide +kernel
theorem dX2_grow_111 : decode cX2_grow 111 = .ok (.aload_n 0, 1) := by decide +kernel
theorem dX2_grow_112 : decode cX2_grow 112 = .ok (.getfield 42, 3) := by decide +kernel
theorem dX2_grow_115 : decode cX2_grow 115 = .ok (.aload_n 0, 1) := by decide +kernel
theorem dX2_grow_116 : decode cX2_grow 116 = .ok (.getfield 67, 3) := by decide +kernel
theorem dX2_grow_119 : decode cX2_grow 119 = .ok (.iaload, 1) := by decide +kernel
theorem dX2_grow_120 : decode cX2_grow 120 = .ok (.istore 5, 2) := by decide +kernel
theorem dX2_grow_122 : decode cX2_grow 122 = .ok (.aload_n 0, 1) := by decide +kernel
theorem dX2_grow_123 : decode cX2_grow 123 = .ok (.getfield 42, 3) := by decide +kernel
theorem dX2_grow_126 : decode cX2_grow 126 = .ok (.iload 4, 2) := by decide +kernel
theorem dX2_grow_128 : decode cX2_grow 128 = .ok (.iload_n 3, 1) := by decide +kernel
theorem dX2_grow_129 : decode cX2_grow 129 = .ok (.ifCond .eq 10, 3) := by decide +kernel
theorem dX2_grow_132 : decode cX2_grow 132 = .ok (.iload 5, 2) := by decide +kernel
theorem dX2_grow_134 : decode cX2_grow 134 = .ok (.iload_n 2, 1) := by decide +kernel
theorem dX2_grow_135 : decode cX2_grow 135 = .ok (.isub, 1) := by decide +kernel
theorem dX2_grow_136 : decode cX2_grow 136 = .ok (.goto 7, 3) := by decide +kernel
theorem dX2_grow_139 : decode cX2_grow 139 = .ok (.iload 5, 2) := by decide +kernel
theorem dX2_grow_141 : decode cX2_grow 141 = .ok (.iload_n 2, 1) := by decide +kernel
theorem dX2_grow_142 : decode cX2_grow 142 = .ok (.iadd, 1) := by decide +kernel
theorem dX2_grow_143 : decode cX2_grow 143 = .ok (.iastore, 1) := by decide +kernel
theorem dX2_grow_144 : decode cX2_grow 144 = .ok (.iconst 0, 1) := by decide +kernel
theorem dX2_grow_145 : decode cX2_grow 145 = .ok (.istore 6, 2) := by decide +kernel
theorem dX2_grow_147 : decode cX2_grow 147 = .ok (.iload 6, 2) := by decide +kernel
theorem dX2_grow_149 : decode cX2_grow 149 = .ok (.aload_n 0, 1) := by decide +kernel
theorem dX2_grow_150 : decode cX2_grow 150 = .ok (.getfield 42, 3) := by decide +kernel
theorem dX2_grow_153 : decode cX2_grow 153 = .ok (.iload 4, 2) := by decide +kernel
theorem dX2_grow_155 : decode cX2_grow 155 = .ok (.iaload, 1) := by decide +kernel
theorem dX2_grow_156 : decode cX2_grow 156 = .ok (.if_icmp .ge 128, 3) := by decide +kernel
theorem dX2_grow_159 : decode cX2_grow 159 = .ok (.iload_n 3, 1) := by decide +kernel
theorem dX2_grow_160 : decode cX2_grow 160 = .ok (.ifCond .eq 47, 3) := by decide +kernel
theorem dX2_grow_163 : decode cX2_grow 163 = .ok (.aload_n 0, 1) := by decide +kernel
theorem dX2_grow_164 : decode cX2_grow 164 = .ok (.getfield 45, 3) := by decide +kernel
theorem dX2_grow_167 : decode cX2_grow 167 = .ok (.bipush 40, 2) := by decide +kernel
theorem dX2_grow_169 : decode cX2_grow 169 = .ok (.iload 4, 2) := by decide +kernel
theorem dX2_grow_171 : decode cX2_grow 171 = .ok (.imul, 1) := by decide +kernel
theorem dX2_grow_172 : decode cX2_grow 172 = .ok (.iload 6, 2) := by decide +kernel
theorem dX2_grow_174 : decode cX2_grow 174 = .ok (.iadd, 1) := by decide +kernel
theorem dX2_grow_175 : decode cX2_grow 175 = .ok (.aload_n 0, 1) := by decide +kernel
theorem dX2_grow_176 : decode cX2_grow 176 = .ok (.getfield 45, 3) := by decide +kernel
theorem dX2_grow_179 : decode cX2_grow 179 = .ok (.bipush 40, 2) := by decide +kernel
theorem dX2_grow_181 : decode cX2_grow 181 = .ok (.aload_n 0, 1) := by decide +kernel
theorem dX2_grow_182 : decode cX2_grow 182 = .ok (.getfield 67, 3) := by decide +kernel
theorem dX2_grow_185 : decode cX2_grow 185 = .ok (.imul, 1) := by decide +kernel
theorem dX2_grow_186 : decode cX2_grow 186 = .ok (.iload 6, 2) := by decide +kernel
theorem dX2_grow_188 : decode cX2_grow 188 = .ok (.iload_n 1, 1) := by decide +kernel
theorem dX2_grow_189 : decode cX2_grow 189 = .ok (.if_icmp .ge 8, 3) := by decide +kernel
theorem dX2_grow_192 : decode cX2_grow 192 = .ok (.iload 6, 2) := by decide +kernel
theorem dX2_grow_194 : decode cX2_grow 194 = .ok (.goto 7, 3) := by decide +kernel
theorem dX2_grow_197 : decode cX2_grow 197 = .ok (.iload 6, 2) := by decide +kernel
theorem dX2_grow_199 : decode cX2_grow 199 = .ok (.iload_n 2, 1) := by decide +kernel
theorem dX2_grow_200 : decode cX2_grow 200 = .ok (.iadd, 1) := by decide +kernel
theorem dX2_grow_201 : decode cX2_grow 201 = .ok (.iadd, 1) := by decide +kernel
theorem dX2_grow_202 : decode cX2_grow 202 = .ok (.iaload, 1) := by decide +kernel
theorem dX2_grow_203 : decode cX2_grow 203 = .ok (.iastore, 1) := by decide +kernel
theorem dX2_grow_204 : decode cX2_grow 204 = .ok (.goto 74, 3) := by decide +kernel
theorem dX2_grow_207 : decode cX2_grow 207 = .ok (.iload 6, 2) := by decide +kernel
theorem dX2_grow_209 : decode cX2_grow 209 = .ok (.iload_n 1, 1) := by decide +kernel
theorem dX2_grow_210 : decode cX2_grow 210 = .ok (.iload_n 1, 1) := by decide +kernel
theorem dX2_grow_211 : decode cX2_grow 211 = .ok (.iload_n 2, 1) := by decide +kernel
theorem dX2_grow_212 : decode cX2_grow 212 = .ok (.iadd, 1) := by decide +kernel
theorem dX2_grow_213 : decode cX2_grow 213 = .ok (.iconst 1, 1) := by decide +kernel
theorem dX2_grow_214 : decode cX2_grow 214 = .ok (.isub, 1) := by decide +kernel
theorem dX2_grow_215 : decode cX2_grow 215 = .ok (.invokestatic 70, 3) := by decide +kernel
theorem dX2_grow_218 : decode cX2_grow 218 = .ok (.istore 7, 2) := by decide +kernel
theorem dX2_grow_220 : decode cX2_grow 220 = .ok (.aload_n 0, 1) := by decide +kernel
theorem dX2_grow_221 : decode cX2_grow 221 = .ok (.getfield 45, 3) := by decide +kernel
theorem dX2_grow_224 : decode cX2_grow 224 = .ok (.bipush 40, 2) := by decide +kernel
theorem dX2_grow_226 : decode cX2_grow 226 = .ok (.iload 4, 2) := by decide +kernel
theorem dX2_grow_228 : decode cX2_grow 228 = .ok (.imul, 1) := by decide +kernel
theorem dX2_grow_229 : decode cX2_grow 229 = .ok (.iload 6, 2) := by decide +kernel
theorem dX2_grow_231 : decode cX2_grow 231 = .ok (.iadd, 1) := by decide +kernel
theorem dX2_grow_232 : decode cX2_grow 232 = .ok (.iload 7, 2) := by decide +kernel
theorem dX2_grow_234 : decode cX2_grow 234 = .ok (.ifCond .eq 15, 3) := by decide +kernel
theorem dX2_grow_237 : decode cX2_grow 237 = .ok (.aload_n 0, 1) := by decide +kernel
theorem dX2_grow_238 : decode cX2_grow 238 = .ok (.getfield 54, 3) := by decide +kernel
theorem dX2_grow_241 : decode cX2_grow 241 = .ok (.iload 6, 2) := by decide +kernel
theorem dX2_grow_243 : decode cX2_grow 243 = .ok (.iload_n 1, 1) := by decide +kernel
theorem dX2_grow_244 : decode cX2_grow 244 = .ok (.isub, 1) := by decide +kernel
theorem dX2_grow_245 : decode cX2_grow 245 = .ok (.iaload, 1) := by decide +kernel
theorem dX2_grow_246 : decode cX2_grow 246 = .ok (.goto 31, 3) := by decide +kernel
theorem dX2_grow_249 : decode cX2_grow 249 = .ok (.aload_n 0, 1) := by decide +kernel
theorem dX2_grow_250 : decode cX2_grow 250 = .ok (.getfield 45, 3) := by decide +kernel
theorem dX2_grow_253 : decode cX2_grow 253 = .ok (.bipush 40, 2) := by decide +kernel
theorem dX2_grow_255 : decode cX2_grow 255 = .ok (.aload_n 0, 1) := by decide +kernel
theorem dX2_grow_256 : decode cX2_grow 256 = .ok (.getfield 67, 3) := by decide +kernel
theorem dX2_grow_259 : decode cX2_grow 259 = .ok (.imul, 1) := by decide +kernel
theorem dX2_grow_260 : decode cX2_grow 260 = .ok (.iload 6, 2) := by decide +kernel
theorem dX2_grow_262 : decode cX2_grow 262 = .ok (.iload_n 1, 1) := by decide +kernel
theorem dX2_grow_263 : decode cX2_grow 263 = .ok (.if_icmp .ge 8, 3) := by decide +kernel
theorem dX2_grow_266 : decode cX2_grow 266 = .ok (.iload 6, 2) := by decide +kernel
theorem dX2_grow_268 : decode cX2_grow 268 = .ok (.goto 7, 3) := by decide +kernel
theorem dX2_grow_271 : decode cX2_grow 271 = .ok (.iload 6, 2) := by decide +kernel
theorem dX2_grow_273 : decode cX2_grow 273 = .ok (.iload_n 2, 1) := by decide +kernel
theorem dX2_grow_274 : decode cX2_grow 274 = .ok (.isub, 1) := by decide +kernel
theorem dX2_grow_275 : decode cX2_grow 275 = .ok (.iadd, 1) := by decide +kernel
theorem dX2_grow_276 : decode cX2_grow 276 = .ok (.iaload, 1) := by decide +kernel
theorem dX2_grow_277 : decode cX2_grow 277 = .ok (.iastore, 1) := by decide +kernel
theorem dX2_grow_278 : decode cX2_grow 278 = .ok (.iinc 6 1, 3) := by decide +kernel
theorem dX2_grow_281 : decode cX2_grow 281 = .ok (.goto (-134), 3) := by decide +kernel
theorem dX2_grow_284 : decode cX2_grow 284 = .ok (.aload_n 0, 1) := by decide +kernel
theorem dX2_grow_285 : decode cX2_grow 285 = .ok (.dup, 1) := by decide +kernel
theorem dX2_grow_286 : decode cX2_grow 286 = .ok (.getfield 7, 3) := by decide +kernel
theorem dX2_grow_289 : decode cX2_grow 289 = .ok (.iconst 1, 1) := by decide +kernel
theorem dX2_grow_290 : decode cX2_grow 290 = .ok (.iadd, 1) := by decide +kernel
theorem dX2_grow_291 : decode cX2_grow 291 = .ok (.putfield 7, 3) := by decide +kernel
theorem dX2_grow_294 : decode cX2_grow 294 = .ok (.aload_n 0, 1) := by decide +kernel
theorem dX2_grow_295 : decode cX2_grow 295 = .ok (.iload 4, 2) := by decide +kernel
theorem dX2_grow_297 : decode cX2_grow 297 = .ok (.invokevirtual 77, 3) := by decide +kernel
theorem dX2_grow_300 : decode cX2_grow 300 = .ok (.ireturn, 1) := by decide +kernel
theorem dX2_insert_0 : decode cX2_insert 0 = .ok (.aload_n 0, 1) := by decide +kernel
theorem dX2_insert_1 : decode cX2_insert 1 = .ok (.getfield 74, 3) := by decide +kernel
theorem dX2_insert_4 : decode cX2_insert 4 = .ok (.ifCond .ne 6, 3) := by decide +kernel
theorem dX2_insert_7 : decode cX2_insert 7 = .ok (.bipush (-7), 2) := by decide +kernel
theorem dX2_insert_9 : decode cX2_insert 9 = .ok (.ireturn, 1) := by decide +kernel
theorem dX2_insert_10 : decode cX2_insert 10 = .ok (.iload_n 1, 1) := by decide +kernel
theorem dX2_insert_11 : decode cX2_insert 11 = .ok (.iconst 0, 1) := by decide +kernel
theorem dX2_insert_12 : decode cX2_insert 12 = .ok (.aload_n 0, 1) := by decide +kernel
theorem dX2_insert_13 : decode cX2_insert 13 = .ok (.getfield 42, 3) := by decide +kernel
theorem dX2_insert_16 : decode cX2_insert 16 = .ok (.aload_n 0, 1) := by decide +kernel
theorem dX2_insert_17 : decode cX2_insert 17 = .ok (.getfield 67, 3) := by decide +kernel
theorem dX2_insert_20 : decode cX2_insert 20 = .ok (.iaload, 1) := by decide +kernel
theorem dX2_insert_21 : decode cX2_insert 21 = .ok (.invokestatic 70, 3) := by decide +kernel
theorem dX2_insert_24 : decode cX2_insert 24 = .ok (.ifCond .ne 5, 3) := by decide +kernel
theorem dX2_insert_27 : decode cX2_insert 27 = .ok (.iconst (-1), 1) := by decide +kernel
theorem dX2_insert_28 : decode cX2_insert 28 = .ok (.ireturn, 1) := by decide +kernel
theorem dX2_insert_29 : decode cX2_insert 29 = .ok (.aload_n 0, 1) := by decide +kernel
theorem dX2_insert_30 : decode cX2_insert 30 = .ok (.getfield 42, 3) := by decide +kernel
theorem dX2_insert_33 : decode cX2_insert 33 = .ok (.aload_n 0, 1) := by decide +kernel
theorem dX2_insert_34 : decode cX2_insert 34 = .ok (.getfield 67, 3) := by decide +kernel
theorem dX2_insert_37 : decode cX2_insert 37 = .ok (.iaload, 1) := by decide +kernel
theorem dX2_insert_38 : decode cX2_insert 38 = .ok (.aload_n 0, 1) := by decide +kernel
theorem dX2_insert_39 : decode cX2_insert 39 = .ok (.getfield 74, 3) := by decide +kernel
theorem dX2_insert_42 : decode cX2_insert 42 = .ok (.iadd, 1) := by decide +kernel
theorem dX2_insert_43 : decode cX2_insert 43 = .ok (.bipush 40, 2) := by decide +kernel
theorem dX2_insert_45 : decode cX2_insert 45 = .ok (.if_icmp .le 6, 3) := by decide +kernel
theorem dX2_insert_48 : decode cX2_insert 48 = .ok (.bipush (-4), 2) := by decide +kernel
theorem dX2_insert_50 : decode cX2_insert 50 = .ok (.ireturn, 1) := by decide +kernel
theorem dX2_insert_51 : decode cX2_insert 51 = .ok (.aload_n 0, 1) := by decide +kernel
theorem dX2_insert_52 : decode cX2_insert 52 = .ok (.getfield 7, 3) := by decide +kernel
theorem dX2_insert_55 : decode cX2_insert 55 = .ok (.bipush 24, 2) := by decide +kernel
theorem dX2_insert_57 : decode cX2_insert 57 = .ok (.if_icmp .ne 6, 3) := by decide +kernel
theorem dX2_insert_60 : decode cX2_insert 60 = .ok (.bipush (-3), 2) := by decide +kernel
theorem dX2_insert_62 : decode cX2_insert 62 = .ok (.ireturn, 1) := by decide +kernel
theorem dX2_insert_63 : decode cX2_insert 63 = .ok (.aload_n 0, 1) := by decide +kernel
theorem dX2_insert_64 : decode cX2_insert 64 = .ok (.getfield 74, 3) := by decide +kernel
theorem dX2_insert_67 : decode cX2_insert 67 = .ok (.istore_n 2, 1) := by decide +kernel
theorem dX2_insert_68 : decode cX2_insert 68 = .ok (.iconst 0, 1) := by decide +kernel
theorem dX2_insert_69 : decode cX2_insert 69 = .ok (.istore_n 3, 1) := by decide +kernel
theorem dX2_insert_70 : decode cX2_insert 70 = .ok (.iload_n 3, 1) := by decide +kernel
theorem dX2_insert_71 : decode cX2_insert 71 = .ok (.iload_n 2, 1) := by decide +kernel
theorem dX2_insert_72 : decode cX2_insert 72 = .ok (.if_icmp .ge 21, 3) := by decide +kernel
theorem dX2_insert_75 : decode cX2_insert 75 = .ok (.aload_n 0, 1) := by decide +kernel
theorem dX2_insert_76 : decode cX2_insert 76 = .ok (.getfield 54, 3) := by decide +kernel
theorem dX2_insert_79 : decode cX2_insert 79 = .ok (.iload_n 3, 1) := by decide +kernel
theorem dX2_insert_80 : decode cX2_insert 80 = .ok (.aload_n 0, 1) := by decide +kernel
theorem dX2_insert_81 : decode cX2_insert 81 = .ok (.getfield 48, 3) := by decide +kernel
theorem dX2_insert_84 : decode cX2_insert 84 = .ok (.iload_n 3, 1) := by decide +kernel
theorem dX2_insert_85 : decode cX2_insert 85 = .ok (.iaload, 1) := by decide +kernel
theorem dX2_insert_86 : decode cX2_insert 86 = .ok (.iastore, 1) := by decide +kernel
theorem dX2_insert_87 : decode cX2_insert 87 = .ok (.iinc 3 1, 3) := by decide +kernel
theorem dX2_insert_90 : decode cX2_insert 90 = .ok (.goto (-20), 3) := by decide +kernel
theorem dX2_insert_93 : decode cX2_insert 93 = .ok (.aload_n 0, 1) := by decide +kernel
theorem dX2_insert_94 : decode cX2_insert 94 = .ok (.iconst 0, 1) := by decide +kernel
theorem dX2_insert_95 : decode cX2_insert 95 = .ok (.putfield 74, 3) := by decide +kernel
theorem dX2_insert_98 : decode cX2_insert 98 = .ok (.aload_n 0, 1) := by decide +kernel
theorem dX2_insert_99 : decode cX2_insert 99 = .ok (.iload_n 1, 1) := by decide +kernel
theorem dX2_insert_100 : decode cX2_insert 100 = .ok (.iload_n 2, 1) := by decide +kernel
theorem dX2_insert_101 : decode cX2_insert 101 = .ok (.iconst 0, 1) := by decide +kernel
theorem dX2_insert_102 : decode cX2_insert 102 = .ok (.invokevirtual 80, 3) := by decide +kernel
theorem dX2_insert_105 : decode cX2_insert 105 = .ok (.ireturn, 1) := by decide +kernel
theorem dX2_cut_0 : decode cX2_cut 0 = .ok (.iconst 0, 1) := by decide +kernel
theorem dX2_cut_1 : decode cX2_cut 1 = .ok (.istore_n 3, 1) := by decide +kernel
theorem dX2_cut_2 : decode cX2_cut 2 = .ok (.iload_n 3, 1) := by decide +kernel
theorem dX2_cut_3 : decode cX2_cut 3 = .ok (.iload_n 2, 1) := by decide +kernel
theorem dX2_cut_4 : decode cX2_cut 4 = .ok (.if_icmp .ge 31, 3) := by decide +kernel
theorem dX2_cut_7 : decode cX2_cut 7 = .ok (.aload_n 0, 1) := by decide +kernel
theorem dX2_cut_8 : decode cX2_cut 8 = .ok (.getfield 54, 3) := by decide +kernel
theorem dX2_cut_11 : decode cX2_cut 11 = .ok (.iload_n 3, 1) := by decide +kernel
theorem dX2_cut_12 : decode cX2_cut 12 = .ok (.aload_n 0, 1) := by decide +kernel
theorem dX2_cut_13 : decode cX2_cut 13 = .ok (.getfield 45, 3) := by decide +kernel
theorem dX2_cut_16 : decode cX2_cut 16 = .ok (.bipush 40, 2) := by decide +kernel
theorem dX2_cut_18 : decode cX2_cut 18 = .ok (.aload_n 0, 1) := by decide +kernel
theorem dX2_cut_19 : decode cX2_cut 19 = .ok (.getfield 67, 3) := by decide +kernel
theorem dX2_cut_22 : decode cX2_cut 22 = .ok (.imul, 1) := by decide +kernel
theorem dX2_cut_23 : decode cX2_cut 23 = .ok (.iload_n 1, 1) := by decide +kernel
theorem dX2_cut_24 : decode cX2_cut 24 = .ok (.iadd, 1) := by decide +kernel
theorem dX2_cut_25 : decode cX2_cut 25 = .ok (.iload_n 3, 1) := by decide +kernel
theorem dX2_cut_26 : decode cX2_cut 26 = .ok (.iadd, 1) := by decide +kernel
theorem dX2_cut_27 : decode cX2_cut 27 = .ok (.iaload, 1) := by decide +kernel
theorem dX2_cut_28 : decode cX2_cut 28 = .ok (.iastore, 1) := by decide +kernel
end
section
theorem dX2_cut_29 : decode cX2_cut 29 = .ok (.iinc 3 1, 3) := by decide +kernel
theorem dX2_cut_32 : decode cX2_cut 32 = .ok (.goto (-30), 3) := by decide +kernel
theorem dX2_cut_35 : decode cX2_cut 35 = .ok (.return_, 1) := by decide +kernel
theorem dX2_delete_0 : decode cX2_delete 0 = .ok (.iload_n 1, 1) := by decide +kernel
theorem dX2_delete_1 : decode cX2_delete 1 = .ok (.ifCond .lt 28, 3) := by decide +kernel
theorem dX2_delete_4 : decode cX2_delete 4 = .ok (.iload_n 2, 1) := by decide +kernel
theorem dX2_delete_5 : decode cX2_delete 5 = .ok (.iconst 1, 1) := by decide +kernel
theorem dX2_delete_6 : decode cX2_delete 6 = .ok (.bipush 6, 2) := by decide +kernel
theorem dX2_delete_8 : decode cX2_delete 8 = .ok (.invokestatic 70, 3) := by decide +kernel
theorem dX2_delete_11 : decode cX2_delete 11 = .ok (.ifCond .eq 18, 3) := by decide +kernel
theorem dX2_delete_14 : decode cX2_delete 14 = .ok (.iload_n 1, 1) := by decide +kernel
theorem dX2_delete_15 : decode cX2_delete 15 = .ok (.aload_n 0, 1) := by decide +kernel
theorem dX2_delete_16 : decode cX2_delete 16 = .ok (.getfield 42, 3) := by decide +kernel
theorem dX2_delete_19 : decode cX2_delete 19 = .ok (.aload_n 0, 1) := by decide +kernel
theorem dX2_delete_20 : decode cX2_delete 20 = .ok (.getfield 67, 3) := by decide +kernel
theorem dX2_delete_23 : decode cX2_delete 23 = .ok (.iaload, 1) := by decide +kernel
theorem dX2_delete_24 : decode cX2_delete 24 = .ok (.iload_n 2, 1) := by decide +kernel
theorem dX2_delete_25 : decode cX2_delete 25 = .ok (.isub, 1) := by decide +kernel
theorem dX2_delete_26 : decode cX2_delete 26 = .ok (.if_icmp .le 5, 3) := by decide +kernel
theorem dX2_delete_29 : decode cX2_delete 29 = .ok (.iconst (-1), 1) := by decide +kernel
theorem dX2_delete_30 : decode cX2_delete 30 = .ok (.ireturn, 1) := by decide +kernel
theorem dX2_delete_31 : decode cX2_delete 31 = .ok (.aload_n 0, 1) := by decide +kernel
theorem dX2_delete_32 : decode cX2_delete 32 = .ok (.getfield 7, 3) := by decide +kernel
theorem dX2_delete_35 : decode cX2_delete 35 = .ok (.bipush 24, 2) := by decide +kernel
theorem dX2_delete_37 : decode cX2_delete 37 = .ok (.if_icmp .ne 6, 3) := by decide +kernel
theorem dX2_delete_40 : decode cX2_delete 40 = .ok (.bipush (-3), 2) := by decide +kernel
theorem dX2_delete_42 : decode cX2_delete 42 = .ok (.ireturn, 1) := by decide +kernel
theorem dX2_delete_43 : decode cX2_delete 43 = .ok (.aload_n 0, 1) := by decide +kernel
theorem dX2_delete_44 : decode cX2_delete 44 = .ok (.iload_n 1, 1) := by decide +kernel
theorem dX2_delete_45 : decode cX2_delete 45 = .ok (.iload_n 2, 1) := by decide +kernel
theorem dX2_delete_46 : decode cX2_delete 46 = .ok (.invokevirtual 84, 3) := by decide +kernel
theorem dX2_delete_49 : decode cX2_delete 49 = .ok (.aload_n 0, 1) := by decide +kernel
theorem dX2_delete_50 : decode cX2_delete 50 = .ok (.iload_n 1, 1) := by decide +kernel
theorem dX2_delete_51 : decode cX2_delete 51 = .ok (.iload_n 2, 1) := by decide +kernel
theorem dX2_delete_52 : decode cX2_delete 52 = .ok (.iconst 1, 1) := by decide +kernel
theorem dX2_delete_53 : decode cX2_delete 53 = .ok (.invokevirtual 80, 3) := by decide +kernel
theorem dX2_delete_56 : decode cX2_delete 56 = .ok (.ireturn, 1) := by decide +kernel
theorem dX2_undo_0 : decode cX2_undo 0 = .ok (.aload_n 0, 1) := by decide +kernel
theorem dX2_undo_1 : decode cX2_undo 1 = .ok (.aload_n 0, 1) := by decide +kernel
theorem dX2_undo_2 : decode cX2_undo 2 = .ok (.getfield 67, 3) := by decide +kernel
theorem dX2_undo_5 : decode cX2_undo 5 = .ok (.invokevirtual 61, 3) := by decide +kernel
theorem dX2_undo_8 : decode cX2_undo 8 = .ok (.istore_n 1, 1) := by decide +kernel
theorem dX2_undo_9 : decode cX2_undo 9 = .ok (.iload_n 1, 1) := by decide +kernel
theorem dX2_undo_10 : decode cX2_undo 10 = .ok (.bipush (-7), 2) := by decide +kernel
theorem dX2_undo_12 : decode cX2_undo 12 = .ok (.if_icmp .ne 8, 3) := by decide +kernel
theorem dX2_undo_15 : decode cX2_undo 15 = .ok (.bipush (-7), 2) := by decide +kernel
theorem dX2_undo_17 : decode cX2_undo 17 = .ok (.goto 8, 3) := by decide +kernel
theorem dX2_undo_20 : decode cX2_undo 20 = .ok (.aload_n 0, 1) := by decide +kernel
theorem dX2_undo_21 : decode cX2_undo 21 = .ok (.iload_n 1, 1) := by decide +kernel
theorem dX2_undo_22 : decode cX2_undo 22 = .ok (.invokevirtual 77, 3) := by decide +kernel
theorem dX2_undo_25 : decode cX2_undo 25 = .ok (.ireturn, 1) := by decide +kernel
theorem dX2_redo_0 : decode cX2_redo 0 = .ok (.aload_n 0, 1) := by decide +kernel
theorem dX2_redo_1 : decode cX2_redo 1 = .ok (.getfield 23, 3) := by decide +kernel
theorem dX2_redo_4 : decode cX2_redo 4 = .ok (.aload_n 0, 1) := by decide +kernel
theorem dX2_redo_5 : decode cX2_redo 5 = .ok (.getfield 67, 3) := by decide +kernel
theorem dX2_redo_8 : decode cX2_redo 8 = .ok (.iaload, 1) := by decide +kernel
theorem dX2_redo_9 : decode cX2_redo 9 = .ok (.bipush (-7), 2) := by decide +kernel
theorem dX2_redo_11 : decode cX2_redo 11 = .ok (.if_icmp .ne 8, 3) := by decide +kernel
theorem dX2_redo_14 : decode cX2_redo 14 = .ok (.bipush (-7), 2) := by decide +kernel
theorem dX2_redo_16 : decode cX2_redo 16 = .ok (.goto 20, 3) := by decide +kernel
theorem dX2_redo_19 : decode cX2_redo 19 = .ok (.aload_n 0, 1) := by decide +kernel
theorem dX2_redo_20 : decode cX2_redo 20 = .ok (.aload_n 0, 1) := by decide +kernel
theorem dX2_redo_21 : decode cX2_redo 21 = .ok (.aload_n 0, 1) := by decide +kernel
theorem dX2_redo_22 : decode cX2_redo 22 = .ok (.getfield 23, 3) := by decide +kernel
theorem dX2_redo_25 : decode cX2_redo 25 = .ok (.aload_n 0, 1) := by decide +kernel
theorem dX2_redo_26 : decode cX2_redo 26 = .ok (.getfield 67, 3) := by decide +kernel
theorem dX2_redo_29 : decode cX2_redo 29 = .ok (.iaload, 1) := by decide +kernel
theorem dX2_redo_30 : decode cX2_redo 30 = .ok (.invokevirtual 57, 3) := by decide +kernel
theorem dX2_redo_33 : decode cX2_redo 33 = .ok (.invokevirtual 77, 3) := by decide +kernel
theorem dX2_redo_36 : decode cX2_redo 36 = .ok (.ireturn, 1) := by decide +kernel
theorem dX2_common_0 : decode cX2_common 0 = .ok (.iload_n 1, 1) := by decide +kernel
theorem dX2_common_1 : decode cX2_common 1 = .ok (.istore_n 3, 1) := by decide +kernel
theorem dX2_common_2 : decode cX2_common 2 = .ok (.aload_n 0, 1) := by decide +kernel
theorem dX2_common_3 : decode cX2_common 3 = .ok (.iload_n 3, 1) := by decide +kernel
theorem dX2_common_4 : decode cX2_common 4 = .ok (.iload_n 2, 1) := by decide +kernel
theorem dX2_common_5 : decode cX2_common 5 = .ok (.invokevirtual 88, 3) := by decide +kernel
theorem dX2_common_8 : decode cX2_common 8 = .ok (.ifCond .ne 12, 3) := by decide +kernel
theorem dX2_common_11 : decode cX2_common 11 = .ok (.aload_n 0, 1) := by decide +kernel
theorem dX2_common_12 : decode cX2_common 12 = .ok (.iload_n 3, 1) := by decide +kernel
theorem dX2_common_13 : decode cX2_common 13 = .ok (.invokevirtual 61, 3) := by decide +kernel
theorem dX2_common_16 : decode cX2_common 16 = .ok (.istore_n 3, 1) := by decide +kernel
theorem dX2_common_17 : decode cX2_common 17 = .ok (.goto (-15), 3) := by decide +kernel
theorem dX2_common_20 : decode cX2_common 20 = .ok (.iload_n 3, 1) := by decide +kernel
theorem dX2_common_21 : decode cX2_common 21 = .ok (.ireturn, 1) := by decide +kernel
theorem dX2_far_0 : decode cX2_far 0 = .ok (.aload_n 0, 1) := by decide +kernel
theorem dX2_far_1 : decode cX2_far 1 = .ok (.iload_n 1, 1) := by decide +kernel
theorem dX2_far_2 : decode cX2_far 2 = .ok (.invokevirtual 92, 3) := by decide +kernel
theorem dX2_far_5 : decode cX2_far 5 = .ok (.aload_n 0, 1) := by decide +kernel
theorem dX2_far_6 : decode cX2_far 6 = .ok (.iload_n 2, 1) := by decide +kernel
theorem dX2_far_7 : decode cX2_far 7 = .ok (.invokevirtual 92, 3) := by decide +kernel
theorem dX2_far_10 : decode cX2_far 10 = .ok (.iadd, 1) := by decide +kernel
theorem dX2_far_11 : decode cX2_far 11 = .ok (.iconst 2, 1) := by decide +kernel
theorem dX2_far_12 : decode cX2_far 12 = .ok (.aload_n 0, 1) := by decide +kernel
theorem dX2_far_13 : decode cX2_far 13 = .ok (.aload_n 0, 1) := by decide +kernel
theorem dX2_far_14 : decode cX2_far 14 = .ok (.iload_n 1, 1) := by decide +kernel
theorem dX2_far_15 : decode cX2_far 15 = .ok (.iload_n 2, 1) := by decide +kernel
theorem dX2_far_16 : decode cX2_far 16 = .ok (.invokevirtual 95, 3) := by decide +kernel
theorem dX2_far_19 : decode cX2_far 19 = .ok (.invokevirtual 92, 3) := by decide +kernel
theorem dX2_far_22 : decode cX2_far 22 = .ok (.imul, 1) := by decide +kernel
theorem dX2_far_23 : decode cX2_far 23 = .ok (.isub, 1) := by decide +kernel
theorem dX2_far_24 : decode cX2_far 24 = .ok (.ireturn, 1) := by decide +kernel
theorem dX2_jumpTo_0 : decode cX2_jumpTo 0 = .ok (.aload_n 0, 1) := by decide +kernel
theorem dX2_jumpTo_1 : decode cX2_jumpTo 1 = .ok (.aload_n 0, 1) := by decide +kernel
theorem dX2_jumpTo_2 : decode cX2_jumpTo 2 = .ok (.getfield 67, 3) := by decide +kernel
theorem dX2_jumpTo_5 : decode cX2_jumpTo 5 = .ok (.iload_n 1, 1) := by decide +kernel
theorem dX2_jumpTo_6 : decode cX2_jumpTo 6 = .ok (.invokevirtual 99, 3) := by decide +kernel
theorem dX2_jumpTo_9 : decode cX2_jumpTo 9 = .ok (.istore_n 2, 1) := by decide +kernel
theorem dX2_jumpTo_10 : decode cX2_jumpTo 10 = .ok (.aload_n 0, 1) := by decide +kernel
theorem dX2_jumpTo_11 : decode cX2_jumpTo 11 = .ok (.iload_n 1, 1) := by decide +kernel
theorem dX2_jumpTo_12 : decode cX2_jumpTo 12 = .ok (.invokevirtual 77, 3) := by decide +kernel
theorem dX2_jumpTo_15 : decode cX2_jumpTo 15 = .ok (.istore_n 3, 1) := by decide +kernel
theorem dX2_jumpTo_16 : decode cX2_jumpTo 16 = .ok (.iload_n 3, 1) := by decide +kernel
theorem dX2_jumpTo_17 : decode cX2_jumpTo 17 = .ok (.aload_n 0, 1) := by decide +kernel
theorem dX2_jumpTo_18 : decode cX2_jumpTo 18 = .ok (.getfield 16, 3) := by decide +kernel
theorem dX2_jumpTo_21 : decode cX2_jumpTo 21 = .ok (.iload_n 1, 1) := by decide +kernel
theorem dX2_jumpTo_22 : decode cX2_jumpTo 22 = .ok (.iaload, 1) := by decide +kernel
theorem dX2_jumpTo_23 : decode cX2_jumpTo 23 = .ok (.if_icmp .ne 7, 3) := by decide +kernel
theorem dX2_jumpTo_26 : decode cX2_jumpTo 26 = .ok (.iload_n 2, 1) := by decide +kernel
theorem dX2_jumpTo_27 : decode cX2_jumpTo 27 = .ok (.goto 5, 3) := by decide +kernel
theorem dX2_jumpTo_30 : decode cX2_jumpTo 30 = .ok (.bipush (-7), 2) := by decide +kernel
theorem dX2_jumpTo_32 : decode cX2_jumpTo 32 = .ok (.ireturn, 1) := by decide +kernel
theorem dX2_jump_0 : decode cX2_jump 0 = .ok (.aload_n 0, 1) := by decide +kernel
theorem dX2_jump_1 : decode cX2_jump 1 = .ok (.iload_n 1, 1) := by decide +kernel
theorem dX2_jump_2 : decode cX2_jump 2 = .ok (.invokevirtual 57, 3) := by decide +kernel
theorem dX2_jump_5 : decode cX2_jump 5 = .ok (.istore_n 2, 1) := by decide +kernel
theorem dX2_jump_6 : decode cX2_jump 6 = .ok (.iload_n 2, 1) := by decide +kernel
theorem dX2_jump_7 : decode cX2_jump 7 = .ok (.bipush (-7), 2) := by decide +kernel
theorem dX2_jump_9 : decode cX2_jump 9 = .ok (.if_icmp .ne 8, 3) := by decide +kernel
theorem dX2_jump_12 : decode cX2_jump 12 = .ok (.bipush (-2), 2) := by decide +kernel
theorem dX2_jump_14 : decode cX2_jump 14 = .ok (.goto 8, 3) := by decide +kernel
theorem dX2_jump_17 : decode cX2_jump 17 = .ok (.aload_n 0, 1) := by decide +kernel
theorem dX2_jump_18 : decode cX2_jump 18 = .ok (.iload_n 2, 1) := by decide +kernel
theorem dX2_jump_19 : decode cX2_jump 19 = .ok (.invokevirtual 102, 3) := by decide +kernel
theorem dX2_jump_22 : decode cX2_jump 22 = .ok (.ireturn, 1) := by decide +kernel
theorem dX2_shift_0 : decode cX2_shift 0 = .ok (.aload_n 0, 1) := by decide +kernel
theorem dX2_shift_1 : decode cX2_shift 1 = .ok (.getfield 29, 3) := by decide +kernel
theorem dX2_shift_4 : decode cX2_shift 4 = .ok (.iload_n 1, 1) := by decide +kernel
theorem dX2_shift_5 : decode cX2_shift 5 = .ok (.iaload, 1) := by decide +kernel
theorem dX2_shift_6 : decode cX2_shift 6 = .ok (.istore_n 2, 1) := by decide +kernel
theorem dX2_shift_7 : decode cX2_shift 7 = .ok (.aload_n 0, 1) := by decide +kernel
theorem dX2_shift_8 : decode cX2_shift 8 = .ok (.getfield 32, 3) := by decide +kernel
theorem dX2_shift_11 : decode cX2_shift 11 = .ok (.iload_n 1, 1) := by decide +kernel
theorem dX2_shift_12 : decode cX2_shift 12 = .ok (.iaload, 1) := by decide +kernel
theorem dX2_shift_13 : decode cX2_shift 13 = .ok (.istore_n 3, 1) := by decide +kernel
theorem dX2_shift_14 : decode cX2_shift 14 = .ok (.aload_n 0, 1) := by decide +kernel
theorem dX2_shift_15 : decode cX2_shift 15 = .ok (.iload_n 1, 1) := by decide +kernel
theorem dX2_shift_16 : decode cX2_shift 16 = .ok (.invokevirtual 92, 3) := by decide +kernel
theorem dX2_shift_19 : decode cX2_shift 19 = .ok (.iconst 1, 1) := by decide +kernel
theorem dX2_shift_20 : decode cX2_shift 20 = .ok (.iadd, 1) := by decide +kernel
theorem dX2_shift_21 : decode cX2_shift 21 = .ok (.istore 4, 2) := by decide +kernel
theorem dX2_shift_23 : decode cX2_shift 23 = .ok (.aload_n 0, 1) := by decide +kernel
theorem dX2_shift_24 : decode cX2_shift 24 = .ok (.aload_n 0, 1) := by decide +kernel
theorem dX2_shift_25 : decode cX2_shift 25 = .ok (.getfield 67, 3) := by decide +kernel
theorem dX2_shift_28 : decode cX2_shift 28 = .ok (.invokevirtual 92, 3) := by decide +kernel
theorem dX2_shift_31 : decode cX2_shift 31 = .ok (.istore 5, 2) := by decide +kernel
theorem dX2_shift_33 : decode cX2_shift 33 = .ok (.iload 4, 2) := by decide +kernel
theorem dX2_shift_35 : decode cX2_shift 35 = .ok (.istore 6, 2) := by decide +kernel
theorem dX2_shift_37 : decode cX2_shift 37 = .ok (.iload 6, 2) := by decide +kernel
theorem dX2_shift_39 : decode cX2_shift 39 = .ok (.iload 5, 2) := by decide +kernel
theorem dX2_shift_41 : decode cX2_shift 41 = .ok (.if_icmp .gt 218, 3) := by decide +kernel
theorem dX2_shift_44 : decode cX2_shift 44 = .ok (.aload_n 0, 1) := by decide +kernel
theorem dX2_shift_45 : decode cX2_shift 45 = .ok (.getfield 67, 3) := by decide +kernel
theorem dX2_shift_48 : decode cX2_shift 48 = .ok (.istore 7, 2) := by decide +kernel
theorem dX2_shift_50 : decode cX2_shift 50 = .ok (.aload_n 0, 1) := by decide +kernel
theorem dX2_shift_51 : decode cX2_shift 51 = .ok (.iload 7, 2) := by decide +kernel
theorem dX2_shift_53 : decode cX2_shift 53 = .ok (.invokevirtual 92, 3) := by decide +kernel
theorem dX2_shift_56 : decode cX2_shift 56 = .ok (.iload 6, 2) := by decide +kernel
theorem dX2_shift_58 : decode cX2_shift 58 = .ok (.if_icmp .le 14, 3) := by decide +kernel
theorem dX2_shift_61 : decode cX2_shift 61 = .ok (.aload_n 0, 1) := by decide +kernel
theorem dX2_shift_62 : decode cX2_shift 62 = .ok (.iload 7, 2) := by decide +kernel
theorem dX2_shift_64 : decode cX2_shift 64 = .ok (.invokevirtual 61, 3) := by decide +kernel
theorem dX2_shift_67 : decode cX2_shift 67 = .ok (.istore 7, 2) := by decide +kernel
theorem dX2_shift_69 : decode cX2_shift 69 = .ok (.goto (-19), 3) := by decide +kernel
theorem dX2_shift_72 : decode cX2_shift 72 = .ok (.aload_n 0, 1) := by decide +kernel
theorem dX2_shift_73 : decode cX2_shift 73 = .ok (.getfield 29, 3) := by decide +kernel
theorem dX2_shift_76 : decode cX2_shift 76 = .ok (.iload 7, 2) := by decide +kernel
theorem dX2_shift_78 : decode cX2_shift 78 = .ok (.iaload, 1) := by decide +kernel
theorem dX2_shift_79 : decode cX2_shift 79 = .ok (.istore 8, 2) := by decide +kernel
theorem dX2_shift_81 : decode cX2_shift 81 = .ok (.aload_n 0, 1) := by decide +kernel
theorem dX2_shift_82 : decode cX2_shift 82 = .ok (.getfield 32, 3) := by decide +kernel
theorem dX2_shift_85 : decode cX2_shift 85 = .ok (.iload 7, 2) := by decide +kernel
theorem dX2_shift_87 : decode cX2_shift 87 = .ok (.iaload, 1) := by decide +kernel
theorem dX2_shift_88 : decode cX2_shift 88 = .ok (.istore 9, 2) := by decide +kernel
theorem dX2_shift_90 : decode cX2_shift 90 = .ok (.aload_n 0, 1) := by decide +kernel
theorem dX2_shift_91 : decode cX2_shift 91 = .ok (.getfield 35, 3) := by decide +kernel
theorem dX2_shift_94 : decode cX2_shift 94 = .ok (.iload 7, 2) := by decide +kernel
theorem dX2_shift_96 : decode cX2_shift 96 = .ok (.baload, 1) := by decide +kernel
theorem dX2_shift_97 : decode cX2_shift 97 = .ok (.ifCond .eq 69, 3) := by decide +kernel
theorem dX2_shift_100 : decode cX2_shift 100 = .ok (.iload 8, 2) := by decide +kernel
theorem dX2_shift_102 : decode cX2_shift 102 = .ok (.iload 9, 2) := by decide +kernel
theorem dX2_shift_104 : decode cX2_shift 104 = .ok (.iadd, 1) := by decide +kernel
theorem dX2_shift_105 : decode cX2_shift 105 = .ok (.iload_n 2, 1) := by decide +kernel
theorem dX2_shift_106 : decode cX2_shift 106 = .ok (.if_icmp .gt 7, 3) := by decide +kernel
theorem dX2_shift_109 : decode cX2_shift 109 = .ok (.iconst 1, 1) := by decide +kernel
theorem dX2_shift_110 : decode cX2_shift 110 = .ok (.goto 4, 3) := by decide +kernel
theorem dX2_shift_113 : decode cX2_shift 113 = .ok (.iconst 0, 1) := by decide +kernel
theorem dX2_shift_114 : decode cX2_shift 114 = .ok (.istore 11, 2) := by decide +kernel
theorem dX2_shift_116 : decode cX2_shift 116 = .ok (.iload 11, 2) := by decide +kernel
theorem dX2_shift_118 : decode cX2_shift 118 = .ok (.ifCond .ne 24, 3) := by decide +kernel
theorem dX2_shift_121 : decode cX2_shift 121 = .ok (.iload 8, 2) := by decide +kernel
theorem dX2_shift_123 : decode cX2_shift 123 = .ok (.iload_n 2, 1) := by decide +kernel
theorem dX2_shift_124 : decode cX2_shift 124 = .ok (.aload_n 0, 1) := by decide +kernel
theorem dX2_shift_125 : decode cX2_shift 125 = .ok (.getfield 35, 3) := by decide +kernel
theorem dX2_shift_128 : decode cX2_shift 128 = .ok (.iload_n 1, 1) := by decide +kernel
theorem dX2_shift_129 : decode cX2_shift 129 = .ok (.baload, 1) := by decide +kernel
theorem dX2_shift_130 : decode cX2_shift 130 = .ok (.ifCond .eq 7, 3) := by decide +kernel
theorem dX2_shift_133 : decode cX2_shift 133 = .ok (.iconst 0, 1) := by decide +kernel
theorem dX2_shift_134 : decode cX2_shift 134 = .ok (.goto 4, 3) := by decide +kernel
theorem dX2_shift_137 : decode cX2_shift 137 = .ok (.iload_n 3, 1) := by decide +kernel
theorem dX2_shift_138 : decode cX2_shift 138 = .ok (.iadd, 1) := by decide +kernel
theorem dX2_shift_139 : decode cX2_shift 139 = .ok (.if_icmp .lt 7, 3) := by decide +kernel
theorem dX2_shift_142 : decode cX2_shift 142 = .ok (.iconst 1, 1) := by decide +kernel
theorem dX2_shift_143 : decode cX2_shift 143 = .ok (.goto 4, 3) := by decide +kernel
theorem dX2_shift_146 : decode cX2_shift 146 = .ok (.iconst 0, 1) := by decide +kernel
theorem dX2_shift_147 : decode cX2_shift 147 = .ok (.istore 10, 2) := by decide +kernel
theorem dX2_shift_149 : decode cX2_shift 149 = .ok (.iload_n 2, 1) := by decide +kernel
theorem dX2_shift_150 : decode cX2_shift 150 = .ok (.iload 11, 2) := by decide +kernel
theorem dX2_shift_152 : decode cX2_shift 152 = .ok (.ifCond .eq 8, 3) := by decide +kernel
theorem dX2_shift_155 : decode cX2_shift 155 = .ok (.iload 9, 2) := by decide +kernel
theorem dX2_shift_157 : decode cX2_shift 157 = .ok (.goto 4, 3) := by decide +kernel
theorem dX2_shift_160 : decode cX2_shift 160 = .ok (.iconst 0, 1) := by decide +kernel
theorem dX2_shift_161 : decode cX2_shift 161 = .ok (.isub, 1) := by decide +kernel
theorem dX2_shift_162 : decode cX2_shift 162 = .ok (.istore_n 2, 1) := by decide +kernel
theorem dX2_shift_163 : decode cX2_shift 163 = .ok (.goto 82, 3) := by decide +kernel
theorem dX2_shift_166 : decode cX2_shift 166 = .ok (.aload_n 0, 1) := by decide +kernel
theorem dX2_shift_167 : decode cX2_shift 167 = .ok (.getfield 35, 3) := by decide +kernel
theorem dX2_shift_170 : decode cX2_shift 170 = .ok (.iload_n 1, 1) := by decide +kernel
theorem dX2_shift_171 : decode cX2_shift 171 = .ok (.baload, 1) := by decide +kernel
theorem dX2_shift_172 : decode cX2_shift 172 = .ok (.ifCond .eq 17, 3) := by decide +kernel
theorem dX2_shift_175 : decode cX2_shift 175 = .ok (.iload 8, 2) := by decide +kernel
theorem dX2_shift_177 : decode cX2_shift 177 = .ok (.iload_n 2, 1) := by decide +kernel
theorem dX2_shift_178 : decode cX2_shift 178 = .ok (.if_icmp .ge 7, 3) := by decide +kernel
theorem dX2_shift_181 : decode cX2_shift 181 = .ok (.iconst 1, 1) := by decide +kernel
theorem dX2_shift_182 : decode cX2_shift 182 = .ok (.goto 18, 3) := by decide +kernel
theorem dX2_shift_185 : decode cX2_shift 185 = .ok (.iconst 0, 1) := by decide +kernel
theorem dX2_shift_186 : decode cX2_shift 186 = .ok (.goto 14, 3) := by decide +kernel
theorem dX2_shift_189 : decode cX2_shift 189 = .ok (.iload 8, 2) := by decide +kernel
theorem dX2_shift_191 : decode cX2_shift 191 = .ok (.iload_n 2, 1) := by decide +kernel
theorem dX2_shift_192 : decode cX2_shift 192 = .ok (.if_icmp .gt 7, 3) := by decide +kernel
theorem dX2_shift_195 : decode cX2_shift 195 = .ok (.iconst 1, 1) := by decide +kernel
theorem dX2_shift_196 : decode cX2_shift 196 = .ok (.goto 4, 3) := by decide +kernel
theorem dX2_shift_199 : decode cX2_shift 199 = .ok (.iconst 0, 1) := by decide +kernel
theorem dX2_shift_200 : decode cX2_shift 200 = .ok (.istore 11, 2) := by decide +kernel
theorem dX2_shift_202 : decode cX2_shift 202 = .ok (.iload 11, 2) := by decide +kernel
theorem dX2_shift_204 : decode cX2_shift 204 = .ok (.ifCond .ne 20, 3) := by decide +kernel
theorem dX2_shift_207 : decode cX2_shift 207 = .ok (.aload_n 0, 1) := by decide +kernel
theorem dX2_shift_208 : decode cX2_shift 208 = .ok (.getfield 35, 3) := by decide +kernel
theorem dX2_shift_211 : decode cX2_shift 211 = .ok (.iload_n 1, 1) := by decide +kernel
theorem dX2_shift_212 : decode cX2_shift 212 = .ok (.baload, 1) := by decide +kernel
theorem dX2_shift_213 : decode cX2_shift 213 = .ok (.ifCond .ne 11, 3) := by decide +kernel
theorem dX2_shift_216 : decode cX2_shift 216 = .ok (.iload 8, 2) := by decide +kernel
theorem dX2_shift_218 : decode cX2_shift 218 = .ok (.iload_n 2, 1) := by decide +kernel
theorem dX2_shift_219 : decode cX2_shift 219 = .ok (.iload_n 3, 1) := by decide +kernel
theorem dX2_shift_220 : decode cX2_shift 220 = .ok (.iadd, 1) := by decide +kernel
theorem dX2_shift_221 : decode cX2_shift 221 = .ok (.if_icmp .lt 7, 3) := by decide +kernel
theorem dX2_shift_224 : decode cX2_shift 224 = .ok (.iconst 1, 1) := by decide +kernel
theorem dX2_shift_225 : decode cX2_shift 225 = .ok (.goto 4, 3) := by decide +kernel
theorem dX2_shift_228 : decode cX2_shift 228 = .ok (.iconst 0, 1) := by decide +kernel
theorem dX2_shift_229 : decode cX2_shift 229 = .ok (.istore 10, 2) := by decide +kernel
theorem dX2_shift_231 : decode cX2_shift 231 = .ok (.iload_n 2, 1) := by decide +kernel
theorem dX2_shift_232 : decode cX2_shift 232 = .ok (.iload 11, 2) := by decide +kernel
theorem dX2_shift_234 : decode cX2_shift 234 = .ok (.ifCond .eq 8, 3) := by decide +kernel
theorem dX2_shift_237 : decode cX2_shift 237 = .ok (.iload 9, 2) := by decide +kernel
theorem dX2_shift_239 : decode cX2_shift 239 = .ok (.goto 4, 3) := by decide +kernel
theorem dX2_shift_242 : decode cX2_shift 242 = .ok (.iconst 0, 1) := by decide +kernel
theorem dX2_shift_243 : decode cX2_shift 243 = .ok (.iadd, 1) := by decide +kernel
theorem dX2_shift_244 : decode cX2_shift 244 = .ok (.istore_n 2, 1) := by decide +kernel
theorem dX2_shift_245 : decode cX2_shift 245 = .ok (.iload 10, 2) := by decide +kernel
theorem dX2_shift_247 : decode cX2_shift 247 = .ok (.ifCond .ne 6, 3) := by decide +kernel
theorem dX2_shift_250 : decode cX2_shift 250 = .ok (.iload 7, 2) := by decide +kernel
theorem dX2_shift_252 : decode cX2_shift 252 = .ok (.ireturn, 1) := by decide +kernel
theorem dX2_shift_253 : decode cX2_shift 253 = .ok (.iinc 6 1, 3) := by decide +kernel
theorem dX2_shift_256 : decode cX2_shift 256 = .ok (.goto (-219), 3) := by decide +kernel
theorem dX2_shift_259 : decode cX2_shift 259 = .ok (.aload_n 0, 1) := by decide +kernel
theorem dX2_shift_260 : decode cX2_shift 260 = .ok (.iload_n 2, 1) := by decide +kernel
theorem dX2_shift_261 : decode cX2_shift 261 = .ok (.putfield 105, 3) := by decide +kernel
theorem dX2_shift_264 : decode cX2_shift 264 = .ok (.bipush (-7), 2) := by decide +kernel
theorem dX2_shift_266 : decode cX2_shift 266 = .ok (.ireturn, 1) := by decide +kernel
theorem dX2_refusal_0 : decode cX2_refusal 0 = .ok (.iload_n 1, 1) := by decide +kernel
theorem dX2_refusal_1 : decode cX2_refusal 1 = .ok (.bipush (-7), 2) := by decide +kernel
theorem dX2_refusal_3 : decode cX2_refusal 3 = .ok (.if_icmp .ne 6, 3) := by decide +kernel
theorem dX2_refusal_6 : decode cX2_refusal 6 = .ok (.bipush (-2), 2) := by decide +kernel
theorem dX2_refusal_8 : decode cX2_refusal 8 = .ok (.ireturn, 1) := by decide +kernel
theorem dX2_refusal_9 : decode cX2_refusal 9 = .ok (.iload_n 1, 1) := by decide +kernel
theorem dX2_refusal_10 : decode cX2_refusal 10 = .ok (.ifCond .eq 15, 3) := by decide +kernel
theorem dX2_refusal_13 : decode cX2_refusal 13 = .ok (.aload_n 0, 1) := by decide +kernel
theorem dX2_refusal_14 : decode cX2_refusal 14 = .ok (.iload_n 1, 1) := by decide +kernel
theorem dX2_refusal_15 : decode cX2_refusal 15 = .ok (.aload_n 0, 1) := by decide +kernel
theorem dX2_refusal_16 : decode cX2_refusal 16 = .ok (.getfield 67, 3) := by decide +kernel
theorem dX2_refusal_19 : decode cX2_refusal 19 = .ok (.invokevirtual 88, 3) := by decide +kernel
theorem dX2_refusal_22 : decode cX2_refusal 22 = .ok (.ifCond .ne 8, 3) := by decide +kernel
theorem dX2_refusal_25 : decode cX2_refusal 25 = .ok (.bipush (-6), 2) := by decide +kernel
theorem dX2_refusal_27 : decode cX2_refusal 27 = .ok (.goto 4, 3) := by decide +kernel
theorem dX2_refusal_30 : decode cX2_refusal 30 = .ok (.iconst 0, 1) := by decide +kernel
theorem dX2_refusal_31 : decode cX2_refusal 31 = .ok (.ireturn, 1) := by decide +kernel
theorem dX2_undoEdit_0 : decode cX2_undoEdit 0 = .ok (.aload_n 0, 1) := by decide +kernel
theorem dX2_undoEdit_1 : decode cX2_undoEdit 1 = .ok (.iload_n 1, 1) := by decide +kernel
theorem dX2_undoEdit_2 : decode cX2_undoEdit 2 = .ok (.invokevirtual 57, 3) := by decide +kernel
theorem dX2_undoEdit_5 : decode cX2_undoEdit 5 = .ok (.istore_n 2, 1) := by decide +kernel
theorem dX2_undoEdit_6 : decode cX2_undoEdit 6 = .ok (.aload_n 0, 1) := by decide +kernel
theorem dX2_undoEdit_7 : decode cX2_undoEdit 7 = .ok (.iload_n 2, 1) := by decide +kernel
theorem dX2_undoEdit_8 : decode cX2_undoEdit 8 = .ok (.invokevirtual 108, 3) := by decide +kernel
theorem dX2_undoEdit_11 : decode cX2_undoEdit 11 = .ok (.istore_n 3, 1) := by decide +kernel
theorem dX2_undoEdit_12 : decode cX2_undoEdit 12 = .ok (.iload_n 3, 1) := by decide +kernel
theorem dX2_undoEdit_13 : decode cX2_undoEdit 13 = .ok (.ifCond .eq 5, 3) := by decide +kernel
theorem dX2_undoEdit_16 : decode cX2_undoEdit 16 = .ok (.iload_n 3, 1) := by decide +kernel
theorem dX2_undoEdit_17 : decode cX2_undoEdit 17 = .ok (.ireturn, 1) := by decide +kernel
theorem dX2_undoEdit_18 : decode cX2_undoEdit 18 = .ok (.aload_n 0, 1) := by decide +kernel
theorem dX2_undoEdit_19 : decode cX2_undoEdit 19 = .ok (.iload_n 2, 1) := by decide +kernel
theorem dX2_undoEdit_20 : decode cX2_undoEdit 20 = .ok (.invokevirtual 111, 3) := by decide +kernel
theorem dX2_undoEdit_23 : decode cX2_undoEdit 23 = .ok (.bipush (-7), 2) := by decide +kernel
theorem dX2_undoEdit_25 : decode cX2_undoEdit 25 = .ok (.if_icmp .eq 6, 3) := by decide +kernel
theorem dX2_undoEdit_28 : decode cX2_undoEdit 28 = .ok (.bipush (-5), 2) := by decide +kernel
theorem dX2_undoEdit_30 : decode cX2_undoEdit 30 = .ok (.ireturn, 1) := by decide +kernel
theorem dX2_undoEdit_31 : decode cX2_undoEdit 31 = .ok (.aload_n 0, 1) := by decide +kernel
theorem dX2_undoEdit_32 : decode cX2_undoEdit 32 = .ok (.getfield 35, 3) := by decide +kernel
theorem dX2_undoEdit_35 : decode cX2_undoEdit 35 = .ok (.iload_n 2, 1) := by decide +kernel
theorem dX2_undoEdit_36 : decode cX2_undoEdit 36 = .ok (.baload, 1) := by decide +kernel
theorem dX2_undoEdit_37 : decode cX2_undoEdit 37 = .ok (.ifCond .eq 27, 3) := by decide +kernel
theorem dX2_undoEdit_40 : decode cX2_undoEdit 40 = .ok (.aload_n 0, 1) := by decide +kernel
theorem dX2_undoEdit_41 : decode cX2_undoEdit 41 = .ok (.getfield 42, 3) := by decide +kernel
theorem dX2_undoEdit_44 : decode cX2_undoEdit 44 = .ok (.aload_n 0, 1) := by decide +kernel
theorem dX2_undoEdit_45 : decode cX2_undoEdit 45 = .ok (.getfield 67, 3) := by decide +kernel
theorem dX2_undoEdit_48 : decode cX2_undoEdit 48 = .ok (.iaload, 1) := by decide +kernel
theorem dX2_undoEdit_49 : decode cX2_undoEdit 49 = .ok (.aload_n 0, 1) := by decide +kernel
theorem dX2_undoEdit_50 : decode cX2_undoEdit 50 = .ok (.getfield 32, 3) := by decide +kernel
theorem dX2_undoEdit_53 : decode cX2_undoEdit 53 = .ok (.iload_n 2, 1) := by decide +kernel
theorem dX2_undoEdit_54 : decode cX2_undoEdit 54 = .ok (.iaload, 1) := by decide +kernel
theorem dX2_undoEdit_55 : decode cX2_undoEdit 55 = .ok (.iadd, 1) := by decide +kernel
theorem dX2_undoEdit_56 : decode cX2_undoEdit 56 = .ok (.bipush 40, 2) := by decide +kernel
theorem dX2_undoEdit_58 : decode cX2_undoEdit 58 = .ok (.if_icmp .le 6, 3) := by decide +kernel
theorem dX2_undoEdit_61 : decode cX2_undoEdit 61 = .ok (.bipush (-4), 2) := by decide +kernel
theorem dX2_undoEdit_63 : decode cX2_undoEdit 63 = .ok (.ireturn, 1) := by decide +kernel
theorem dX2_undoEdit_64 : decode cX2_undoEdit 64 = .ok (.aload_n 0, 1) := by decide +kernel
theorem dX2_undoEdit_65 : decode cX2_undoEdit 65 = .ok (.getfield 7, 3) := by decide +kernel
theorem dX2_undoEdit_68 : decode cX2_undoEdit 68 = .ok (.bipush 24, 2) := by decide +kernel
theorem dX2_undoEdit_70 : decode cX2_undoEdit 70 = .ok (.if_icmp .ne 6, 3) := by decide +kernel
theorem dX2_undoEdit_73 : decode cX2_undoEdit 73 = .ok (.bipush (-3), 2) := by decide +kernel
theorem dX2_undoEdit_75 : decode cX2_undoEdit 75 = .ok (.ireturn, 1) := by decide +kernel
theorem dX2_undoEdit_76 : decode cX2_undoEdit 76 = .ok (.iconst 0, 1) := by decide +kernel
theorem dX2_undoEdit_77 : decode cX2_undoEdit 77 = .ok (.istore 4, 2) := by decide +kernel
theorem dX2_undoEdit_79 : decode cX2_undoEdit 79 = .ok (.iload 4, 2) := by decide +kernel
theorem dX2_undoEdit_81 : decode cX2_undoEdit 81 = .ok (.aload_n 0, 1) := by decide +kernel
theorem dX2_undoEdit_82 : decode cX2_undoEdit 82 = .ok (.getfield 32, 3) := by decide +kernel
theorem dX2_undoEdit_85 : decode cX2_undoEdit 85 = .ok (.iload_n 2, 1) := by decide +kernel
theorem dX2_undoEdit_86 : decode cX2_undoEdit 86 = .ok (.iaload, 1) := by decide +kernel
theorem dX2_undoEdit_87 : decode cX2_undoEdit 87 = .ok (.if_icmp .ge 28, 3) := by decide +kernel
theorem dX2_undoEdit_90 : decode cX2_undoEdit 90 = .ok (.aload_n 0, 1) := by decide +kernel
theorem dX2_undoEdit_91 : decode cX2_undoEdit 91 = .ok (.getfield 54, 3) := by decide +kernel
theorem dX2_undoEdit_94 : decode cX2_undoEdit 94 = .ok (.iload 4, 2) := by decide +kernel
theorem dX2_undoEdit_96 : decode cX2_undoEdit 96 = .ok (.aload_n 0, 1) := by decide +kernel
theorem dX2_undoEdit_97 : decode cX2_undoEdit 97 = .ok (.getfield 39, 3) := by decide +kernel
theorem dX2_undoEdit_100 : decode cX2_undoEdit 100 = .ok (.bipush 6, 2) := by decide +kernel
theorem dX2_undoEdit_102 : decode cX2_undoEdit 102 = .ok (.iload_n 2, 1) := by decide +kernel
theorem dX2_undoEdit_103 : decode cX2_undoEdit 103 = .ok (.imul, 1) := by decide +kernel
theorem dX2_undoEdit_104 : decode cX2_undoEdit 104 = .ok (.iload 4, 2) := by decide +kernel
theorem dX2_undoEdit_106 : decode cX2_undoEdit 106 = .ok (.iadd, 1) := by decide +kernel
theorem dX2_undoEdit_107 : decode cX2_undoEdit 107 = .ok (.iaload, 1) := by decide +kernel
theorem dX2_undoEdit_108 : decode cX2_undoEdit 108 = .ok (.iastore, 1) := by decide +kernel
theorem dX2_undoEdit_109 : decode cX2_undoEdit 109 = .ok (.iinc 4 1, 3) := by decide +kernel
theorem dX2_undoEdit_112 : decode cX2_undoEdit 112 = .ok (.goto (-33), 3) := by decide +kernel
theorem dX2_undoEdit_115 : decode cX2_undoEdit 115 = .ok (.aload_n 0, 1) := by decide +kernel
theorem dX2_undoEdit_116 : decode cX2_undoEdit 116 = .ok (.aload_n 0, 1) := by decide +kernel
theorem dX2_undoEdit_117 : decode cX2_undoEdit 117 = .ok (.getfield 105, 3) := by decide +kernel
theorem dX2_undoEdit_120 : decode cX2_undoEdit 120 = .ok (.aload_n 0, 1) := by decide +kernel
theorem dX2_undoEdit_121 : decode cX2_undoEdit 121 = .ok (.getfield 32, 3) := by decide +kernel
theorem dX2_undoEdit_124 : decode cX2_undoEdit 124 = .ok (.iload_n 2, 1) := by decide +kernel
theorem dX2_undoEdit_125 : decode cX2_undoEdit 125 = .ok (.iaload, 1) := by decide +kernel
theorem dX2_undoEdit_126 : decode cX2_undoEdit 126 = .ok (.aload_n 0, 1) := by decide +kernel
theorem dX2_undoEdit_127 : decode cX2_undoEdit 127 = .ok (.getfield 35, 3) := by decide +kernel
theorem dX2_undoEdit_130 : decode cX2_undoEdit 130 = .ok (.iload_n 2, 1) := by decide +kernel
theorem dX2_undoEdit_131 : decode cX2_undoEdit 131 = .ok (.baload, 1) := by decide +kernel
theorem dX2_undoEdit_132 : decode cX2_undoEdit 132 = .ok (.ifCond .ne 7, 3) := by decide +kernel
theorem dX2_undoEdit_135 : decode cX2_undoEdit 135 = .ok (.iconst 1, 1) := by decide +kernel
theorem dX2_undoEdit_136 : decode cX2_undoEdit 136 = .ok (.goto 4, 3) := by decide +kernel
theorem dX2_undoEdit_139 : decode cX2_undoEdit 139 = .ok (.iconst 0, 1) := by decide +kernel
theorem dX2_undoEdit_140 : decode cX2_undoEdit 140 = .ok (.invokevirtual 80, 3) := by decide +kernel
theorem dX2_undoEdit_143 : decode cX2_undoEdit 143 = .ok (.ireturn, 1) := by decide +kernel
theorem dX2_conflictWith_0 : decode cX2_conflictWith 0 = .ok (.aload_n 0, 1) := by decide +kernel
theorem dX2_conflictWith_1 : decode cX2_conflictWith 1 = .ok (.iload_n 1, 1) := by decide +kernel
theorem dX2_conflictWith_2 : decode cX2_conflictWith 2 = .ok (.invokevirtual 57, 3) := by decide +kernel
theorem dX2_conflictWith_5 : decode cX2_conflictWith 5 = .ok (.istore_n 2, 1) := by decide +kernel
theorem dX2_conflictWith_6 : decode cX2_conflictWith 6 = .ok (.aload_n 0, 1) := by decide +kernel
theorem dX2_conflictWith_7 : decode cX2_conflictWith 7 = .ok (.iload_n 2, 1) := by decide +kernel
theorem dX2_conflictWith_8 : decode cX2_conflictWith 8 = .ok (.invokevirtual 108, 3) := by decide +kernel
theorem dX2_conflictWith_11 : decode cX2_conflictWith 11 = .ok (.istore_n 3, 1) := by decide +kernel
theorem dX2_conflictWith_12 : decode cX2_conflictWith 12 = .ok (.iload_n 3, 1) := by decide +kernel
theorem dX2_conflictWith_13 : decode cX2_conflictWith 13 = .ok (.ifCond .eq 5, 3) := by decide +kernel
theorem dX2_conflictWith_16 : decode cX2_conflictWith 16 = .ok (.iload_n 3, 1) := by decide +kernel
theorem dX2_conflictWith_17 : decode cX2_conflictWith 17 = .ok (.ireturn, 1) := by decide +kernel
theorem dX2_conflictWith_18 : decode cX2_conflictWith 18 = .ok (.aload_n 0, 1) := by decide +kernel
theorem dX2_conflictWith_19 : decode cX2_conflictWith 19 = .ok (.iload_n 2, 1) := by decide +kernel
theorem dX2_conflictWith_20 : decode cX2_conflictWith 20 = .ok (.invokevirtual 111, 3) := by decide +kernel
theorem dX2_conflictWith_23 : decode cX2_conflictWith 23 = .ok (.istore 4, 2) := by decide +kernel
theorem dX2_conflictWith_25 : decode cX2_conflictWith 25 = .ok (.iload 4, 2) := by decide +kernel
theorem dX2_conflictWith_27 : decode cX2_conflictWith 27 = .ok (.bipush (-7), 2) := by decide +kernel
theorem dX2_conflictWith_29 : decode cX2_conflictWith 29 = .ok (.if_icmp .ne 8, 3) := by decide +kernel
theorem dX2_conflictWith_32 : decode cX2_conflictWith 32 = .ok (.bipush (-7), 2) := by decide +kernel
theorem dX2_conflictWith_34 : decode cX2_conflictWith 34 = .ok (.goto 10, 3) := by decide +kernel
theorem dX2_conflictWith_37 : decode cX2_conflictWith 37 = .ok (.aload_n 0, 1) := by decide +kernel
theorem dX2_conflictWith_38 : decode cX2_conflictWith 38 = .ok (.getfield 16, 3) := by decide +kernel
theorem dX2_conflictWith_41 : decode cX2_conflictWith 41 = .ok (.iload 4, 2) := by decide +kernel
theorem dX2_conflictWith_43 : decode cX2_conflictWith 43 = .ok (.iaload, 1) := by decide +kernel
theorem dX2_conflictWith_44 : decode cX2_conflictWith 44 = .ok (.ireturn, 1) := by decide +kernel
theorem dX2_current_0 : decode cX2_current 0 = .ok (.aload_n 0, 1) := by decide +kernel
theorem dX2_current_1 : decode cX2_current 1 = .ok (.getfield 16, 3) := by decide +kernel
theorem dX2_current_4 : decode cX2_current 4 = .ok (.aload_n 0, 1) := by decide +kernel
theorem dX2_current_5 : decode cX2_current 5 = .ok (.getfield 67, 3) := by decide +kernel
theorem dX2_current_8 : decode cX2_current 8 = .ok (.iaload, 1) := by decide +kernel
theorem dX2_current_9 : decode cX2_current 9 = .ok (.ireturn, 1) := by decide +kernel
theorem dX2_nodeCount_0 : decode cX2_nodeCount 0 = .ok (.aload_n 0, 1) := by decide +kernel
theorem dX2_nodeCount_1 : decode cX2_nodeCount 1 = .ok (.getfield 7, 3) := by decide +kernel
theorem dX2_nodeCount_4 : decode cX2_nodeCount 4 = .ok (.ireturn, 1) := by decide +kernel
theorem dX2_lengthOf_0 : decode cX2_lengthOf 0 = .ok (.aload_n 0, 1) := by decide +kernel
theorem dX2_lengthOf_1 : decode cX2_lengthOf 1 = .ok (.iload_n 1, 1) := by decide +kernel
theorem dX2_lengthOf_2 : decode cX2_lengthOf 2 = .ok (.invokevirtual 57, 3) := by decide +kernel
theorem dX2_lengthOf_5 : decode cX2_lengthOf 5 = .ok (.istore_n 2, 1) := by decide +kernel
theorem dX2_lengthOf_6 : decode cX2_lengthOf 6 = .ok (.iload_n 2, 1) := by decide +kernel
theorem dX2_lengthOf_7 : decode cX2_lengthOf 7 = .ok (.bipush (-7), 2) := by decide +kernel
theorem dX2_lengthOf_9 : decode cX2_lengthOf 9 = .ok (.if_icmp .ne 8, 3) := by decide +kernel
theorem dX2_lengthOf_12 : decode cX2_lengthOf 12 = .ok (.bipush (-2), 2) := by decide +kernel
theorem dX2_lengthOf_14 : decode cX2_lengthOf 14 = .ok (.goto 9, 3) := by decide +kernel
theorem dX2_lengthOf_17 : decode cX2_lengthOf 17 = .ok (.aload_n 0, 1) := by decide +kernel
theorem dX2_lengthOf_18 : decode cX2_lengthOf 18 = .ok (.getfield 42, 3) := by decide +kernel
theorem dX2_lengthOf_21 : decode cX2_lengthOf 21 = .ok (.iload_n 2, 1) := by decide +kernel
theorem dX2_lengthOf_22 : decode cX2_lengthOf 22 = .ok (.iaload, 1) := by decide +kernel
theorem dX2_lengthOf_23 : decode cX2_lengthOf 23 = .ok (.ireturn, 1) := by decide +kernel
theorem dX2_characterOf_0 : decode cX2_characterOf 0 = .ok (.aload_n 0, 1) := by decide +kernel
theorem dX2_characterOf_1 : decode cX2_characterOf 1 = .ok (.iload_n 1, 1) := by decide +kernel
theorem dX2_characterOf_2 : decode cX2_characterOf 2 = .ok (.invokevirtual 57, 3) := by decide +kernel
theorem dX2_characterOf_5 : decode cX2_characterOf 5 = .ok (.istore_n 3, 1) := by decide +kernel
theorem dX2_characterOf_6 : decode cX2_characterOf 6 = .ok (.iload_n 3, 1) := by decide +kernel
theorem dX2_characterOf_7 : decode cX2_characterOf 7 = .ok (.bipush (-7), 2) := by decide +kernel
theorem dX2_characterOf_9 : decode cX2_characterOf 9 = .ok (.if_icmp .ne 6, 3) := by decide +kernel
theorem dX2_characterOf_12 : decode cX2_characterOf 12 = .ok (.bipush (-2), 2) := by decide +kernel
theorem dX2_characterOf_14 : decode cX2_characterOf 14 = .ok (.ireturn, 1) := by decide +kernel
theorem dX2_characterOf_15 : decode cX2_characterOf 15 = .ok (.iload_n 2, 1) := by decide +kernel
theorem dX2_characterOf_16 : decode cX2_characterOf 16 = .ok (.iconst 0, 1) := by decide +kernel
theorem dX2_characterOf_17 : decode cX2_characterOf 17 = .ok (.aload_n 0, 1) := by decide +kernel
theorem dX2_characterOf_18 : decode cX2_characterOf 18 = .ok (.getfield 42, 3) := by decide +kernel
theorem dX2_characterOf_21 : decode cX2_characterOf 21 = .ok (.iload_n 3, 1) := by decide +kernel
theorem dX2_characterOf_22 : decode cX2_characterOf 22 = .ok (.iaload, 1) := by decide +kernel
theorem dX2_characterOf_23 : decode cX2_characterOf 23 = .ok (.iconst 1, 1) := by decide +kernel
theorem dX2_characterOf_24 : decode cX2_characterOf 24 = .ok (.isub, 1) := by decide +kernel
theorem dX2_characterOf_25 : decode cX2_characterOf 25 = .ok (.invokestatic 70, 3) := by decide +kernel
theorem dX2_characterOf_28 : decode cX2_characterOf 28 = .ok (.ifCond .eq 17, 3) := by decide +kernel
theorem dX2_characterOf_31 : decode cX2_characterOf 31 = .ok (.aload_n 0, 1) := by decide +kernel
theorem dX2_characterOf_32 : decode cX2_characterOf 32 = .ok (.getfield 45, 3) := by decide +kernel
theorem dX2_characterOf_35 : decode cX2_characterOf 35 = .ok (.bipush 40, 2) := by decide +kernel
theorem dX2_characterOf_37 : decode cX2_characterOf 37 = .ok (.iload_n 3, 1) := by decide +kernel
theorem dX2_characterOf_38 : decode cX2_characterOf 38 = .ok (.imul, 1) := by decide +kernel
theorem dX2_characterOf_39 : decode cX2_characterOf 39 = .ok (.iload_n 2, 1) := by decide +kernel
theorem dX2_characterOf_40 : decode cX2_characterOf 40 = .ok (.iadd, 1) := by decide +kernel
theorem dX2_characterOf_41 : decode cX2_characterOf 41 = .ok (.iaload, 1) := by decide +kernel
theorem dX2_characterOf_42 : decode cX2_characterOf 42 = .ok (.goto 4, 3) := by decide +kernel
theorem dX2_characterOf_45 : decode cX2_characterOf 45 = .ok (.iconst (-1), 1) := by decide +kernel
theorem dX2_characterOf_46 : decode cX2_characterOf 46 = .ok (.ireturn, 1) := by decide +kernel
theorem dX2_edit_0 : decode cX2_edit 0 = .ok (.sipush 1000, 3) := by decide +kernel
theorem dX2_edit_3 : decode cX2_edit 3 = .ok (.aload_n 0, 1) := by decide +kernel
theorem dX2_edit_4 : decode cX2_edit 4 = .ok (.getfield 29, 3) := by decide +kernel
theorem dX2_edit_7 : decode cX2_edit 7 = .ok (.iload_n 1, 1) := by decide +kernel
theorem dX2_edit_8 : decode cX2_edit 8 = .ok (.iaload, 1) := by decide +kernel
theorem dX2_edit_9 : decode cX2_edit 9 = .ok (.imul, 1) := by decide +kernel
theorem dX2_edit_10 : decode cX2_edit 10 = .ok (.bipush 10, 2) := by decide +kernel
theorem dX2_edit_12 : decode cX2_edit 12 = .ok (.aload_n 0, 1) := by decide +kernel
theorem dX2_edit_13 : decode cX2_edit 13 = .ok (.getfield 32, 3) := by decide +kernel
theorem dX2_edit_16 : decode cX2_edit 16 = .ok (.iload_n 1, 1) := by decide +kernel
theorem dX2_edit_17 : decode cX2_edit 17 = .ok (.iaload, 1) := by decide +kernel
theorem dX2_edit_18 : decode cX2_edit 18 = .ok (.imul, 1) := by decide +kernel
theorem dX2_edit_19 : decode cX2_edit 19 = .ok (.iadd, 1) := by decide +kernel
theorem dX2_edit_20 : decode cX2_edit 20 = .ok (.aload_n 0, 1) := by decide +kernel
theorem dX2_edit_21 : decode cX2_edit 21 = .ok (.getfield 35, 3) := by decide +kernel
theorem dX2_edit_24 : decode cX2_edit 24 = .ok (.iload_n 1, 1) := by decide +kernel
theorem dX2_edit_25 : decode cX2_edit 25 = .ok (.baload, 1) := by decide +kernel
theorem dX2_edit_26 : decode cX2_edit 26 = .ok (.ifCond .eq 7, 3) := by decide +kernel
theorem dX2_edit_29 : decode cX2_edit 29 = .ok (.iconst 1, 1) := by decide +kernel
theorem dX2_edit_30 : decode cX2_edit 30 = .ok (.goto 4, 3) := by decide +kernel
theorem dX2_edit_33 : decode cX2_edit 33 = .ok (.iconst 0, 1) := by decide +kernel
theorem dX2_edit_34 : decode cX2_edit 34 = .ok (.iadd, 1) := by decide +kernel
theorem dX2_edit_35 : decode cX2_edit 35 = .ok (.ireturn, 1) := by decide +kernel
theorem dX2_editOf_0 : decode cX2_editOf 0 = .ok (.aload_n 0, 1) := by decide +kernel
theorem dX2_editOf_1 : decode cX2_editOf 1 = .ok (.iload_n 1, 1) := by decide +kernel
theorem dX2_editOf_2 : decode cX2_editOf 2 = .ok (.invokevirtual 57, 3) := by decide +kernel
theorem dX2_editOf_5 : decode cX2_editOf 5 = .ok (.istore_n 2, 1) := by decide +kernel
theorem dX2_editOf_6 : decode cX2_editOf 6 = .ok (.iload_n 2, 1) := by decide +kernel
theorem dX2_editOf_7 : decode cX2_editOf 7 = .ok (.bipush (-7), 2) := by decide +kernel
theorem dX2_editOf_9 : decode cX2_editOf 9 = .ok (.if_icmp .ne 6, 3) := by decide +kernel
theorem dX2_editOf_12 : decode cX2_editOf 12 = .ok (.bipush (-2), 2) := by decide +kernel
theorem dX2_editOf_14 : decode cX2_editOf 14 = .ok (.ireturn, 1) := by decide +kernel
theorem dX2_editOf_15 : decode cX2_editOf 15 = .ok (.iload_n 2, 1) := by decide +kernel
theorem dX2_editOf_16 : decode cX2_editOf 16 = .ok (.ifCond .ne 8, 3) := by decide +kernel
theorem dX2_editOf_19 : decode cX2_editOf 19 = .ok (.bipush (-6), 2) := by decide +kernel
theorem dX2_editOf_21 : decode cX2_editOf 21 = .ok (.goto 8, 3) := by decide +kernel
theorem dX2_editOf_24 : decode cX2_editOf 24 = .ok (.aload_n 0, 1) := by decide +kernel
theorem dX2_editOf_25 : decode cX2_editOf 25 = .ok (.iload_n 2, 1) := by decide +kernel
theorem dX2_editOf_26 : decode cX2_editOf 26 = .ok (.invokevirtual 114, 3) := by decide +kernel
theorem dX2_editOf_29 : decode cX2_editOf 29 = .ok (.ireturn, 1) := by decide +kernel
theorem dX2_parentOf_0 : decode cX2_parentOf 0 = .ok (.aload_n 0, 1) := by decide +kernel
theorem dX2_parentOf_1 : decode cX2_parentOf 1 = .ok (.iload_n 1, 1) := by decide +kernel
theorem dX2_parentOf_2 : decode cX2_parentOf 2 = .ok (.invokevirtual 57, 3) := by decide +kernel
theorem dX2_parentOf_5 : decode cX2_parentOf 5 = .ok (.istore_n 2, 1) := by decide +kernel
theorem dX2_parentOf_6 : decode cX2_parentOf 6 = .ok (.iload_n 2, 1) := by decide +kernel
theorem dX2_parentOf_7 : decode cX2_parentOf 7 = .ok (.bipush (-7), 2) := by decide +kernel
theorem dX2_parentOf_9 : decode cX2_parentOf 9 = .ok (.if_icmp .ne 6, 3) := by decide +kernel
theorem dX2_parentOf_12 : decode cX2_parentOf 12 = .ok (.bipush (-2), 2) := by decide +kernel
theorem dX2_parentOf_14 : decode cX2_parentOf 14 = .ok (.ireturn, 1) := by decide +kernel
theorem dX2_parentOf_15 : decode cX2_parentOf 15 = .ok (.iload_n 2, 1) := by decide +kernel
theorem dX2_parentOf_16 : decode cX2_parentOf 16 = .ok (.ifCond .ne 8, 3) := by decide +kernel
theorem dX2_parentOf_19 : decode cX2_parentOf 19 = .ok (.bipush (-6), 2) := by decide +kernel
theorem dX2_parentOf_21 : decode cX2_parentOf 21 = .ok (.goto 9, 3) := by decide +kernel
theorem dX2_parentOf_24 : decode cX2_parentOf 24 = .ok (.aload_n 0, 1) := by decide +kernel
theorem dX2_parentOf_25 : decode cX2_parentOf 25 = .ok (.getfield 20, 3) := by decide +kernel
theorem dX2_parentOf_28 : decode cX2_parentOf 28 = .ok (.iload_n 2, 1) := by decide +kernel
theorem dX2_parentOf_29 : decode cX2_parentOf 29 = .ok (.iaload, 1) := by decide +kernel
theorem dX2_parentOf_30 : decode cX2_parentOf 30 = .ok (.ireturn, 1) := by decide +kernel
theorem dX2_childMany_0 : decode cX2_childMany 0 = .ok (.iconst 0, 1) := by decide +kernel
theorem dX2_childMany_1 : decode cX2_childMany 1 = .ok (.istore_n 2, 1) := by decide +kernel
theorem dX2_childMany_2 : decode cX2_childMany 2 = .ok (.iconst 0, 1) := by decide +kernel
theorem dX2_childMany_3 : decode cX2_childMany 3 = .ok (.istore_n 3, 1) := by decide +kernel
theorem dX2_childMany_4 : decode cX2_childMany 4 = .ok (.iload_n 3, 1) := by decide +kernel
theorem dX2_childMany_5 : decode cX2_childMany 5 = .ok (.aload_n 0, 1) := by decide +kernel
theorem dX2_childMany_6 : decode cX2_childMany 6 = .ok (.getfield 7, 3) := by decide +kernel
theorem dX2_childMany_9 : decode cX2_childMany 9 = .ok (.if_icmp .ge 32, 3) := by decide +kernel
theorem dX2_childMany_12 : decode cX2_childMany 12 = .ok (.iload_n 2, 1) := by decide +kernel
theorem dX2_childMany_13 : decode cX2_childMany 13 = .ok (.aload_n 0, 1) := by decide +kernel
theorem dX2_childMany_14 : decode cX2_childMany 14 = .ok (.getfield 20, 3) := by decide +kernel
theorem dX2_childMany_17 : decode cX2_childMany 17 = .ok (.iload_n 3, 1) := by decide +kernel
theorem dX2_childMany_18 : decode cX2_childMany 18 = .ok (.iaload, 1) := by decide +kernel
theorem dX2_childMany_19 : decode cX2_childMany 19 = .ok (.aload_n 0, 1) := by decide +kernel
theorem dX2_childMany_20 : decode cX2_childMany 20 = .ok (.getfield 16, 3) := by decide +kernel
theorem dX2_childMany_23 : decode cX2_childMany 23 = .ok (.iload_n 1, 1) := by decide +kernel
theorem dX2_childMany_24 : decode cX2_childMany 24 = .ok (.iaload, 1) := by decide +kernel
theorem dX2_childMany_25 : decode cX2_childMany 25 = .ok (.if_icmp .ne 7, 3) := by decide +kernel
theorem dX2_childMany_28 : decode cX2_childMany 28 = .ok (.iconst 1, 1) := by decide +kernel
theorem dX2_childMany_29 : decode cX2_childMany 29 = .ok (.goto 4, 3) := by decide +kernel
theorem dX2_childMany_32 : decode cX2_childMany 32 = .ok (.iconst 0, 1) := by decide +kernel
theorem dX2_childMany_33 : decode cX2_childMany 33 = .ok (.iadd, 1) := by decide +kernel
theorem dX2_childMany_34 : decode cX2_childMany 34 = .ok (.istore_n 2, 1) := by decide +kernel
theorem dX2_childMany_35 : decode cX2_childMany 35 = .ok (.iinc 3 1, 3) := by decide +kernel
theorem dX2_childMany_38 : decode cX2_childMany 38 = .ok (.goto (-34), 3) := by decide +kernel
theorem dX2_childMany_41 : decode cX2_childMany 41 = .ok (.iload_n 2, 1) := by decide +kernel
theorem dX2_childMany_42 : decode cX2_childMany 42 = .ok (.ireturn, 1) := by decide +kernel
theorem dX2_child_0 : decode cX2_child 0 = .ok (.iconst 0, 1) := by decide +kernel
theorem dX2_child_1 : decode cX2_child 1 = .ok (.istore_n 3, 1) := by decide +kernel
theorem dX2_child_2 : decode cX2_child 2 = .ok (.iconst 0, 1) := by decide +kernel
theorem dX2_child_3 : decode cX2_child 3 = .ok (.istore 4, 2) := by decide +kernel
theorem dX2_child_5 : decode cX2_child 5 = .ok (.iload 4, 2) := by decide +kernel
theorem dX2_child_7 : decode cX2_child 7 = .ok (.aload_n 0, 1) := by decide +kernel
theorem dX2_child_8 : decode cX2_child 8 = .ok (.getfield 7, 3) := by decide +kernel
theorem dX2_child_11 : decode cX2_child 11 = .ok (.if_icmp .ge 41, 3) := by decide +kernel
theorem dX2_child_14 : decode cX2_child 14 = .ok (.aload_n 0, 1) := by decide +kernel
theorem dX2_child_15 : decode cX2_child 15 = .ok (.getfield 20, 3) := by decide +kernel
theorem dX2_child_18 : decode cX2_child 18 = .ok (.iload 4, 2) := by decide +kernel
theorem dX2_child_20 : decode cX2_child 20 = .ok (.iaload, 1) := by decide +kernel
theorem dX2_child_21 : decode cX2_child 21 = .ok (.aload_n 0, 1) := by decide +kernel
theorem dX2_child_22 : decode cX2_child 22 = .ok (.getfield 16, 3) := by decide +kernel
theorem dX2_child_25 : decode cX2_child 25 = .ok (.iload_n 1, 1) := by decide +kernel
theorem dX2_child_26 : decode cX2_child 26 = .ok (.iaload, 1) := by decide +kernel
theorem dX2_child_27 : decode cX2_child 27 = .ok (.if_icmp .ne 19, 3) := by decide +kernel
theorem dX2_child_30 : decode cX2_child 30 = .ok (.iload_n 3, 1) := by decide +kernel
theorem dX2_child_31 : decode cX2_child 31 = .ok (.iload_n 2, 1) := by decide +kernel
theorem dX2_child_32 : decode cX2_child 32 = .ok (.if_icmp .ne 11, 3) := by decide +kernel
theorem dX2_child_35 : decode cX2_child 35 = .ok (.aload_n 0, 1) := by decide +kernel
theorem dX2_child_36 : decode cX2_child 36 = .ok (.getfield 16, 3) := by decide +kernel
theorem dX2_child_39 : decode cX2_child 39 = .ok (.iload 4, 2) := by decide +kernel
theorem dX2_child_41 : decode cX2_child 41 = .ok (.iaload, 1) := by decide +kernel
theorem dX2_child_42 : decode cX2_child 42 = .ok (.ireturn, 1) := by decide +kernel
theorem dX2_child_43 : decode cX2_child 43 = .ok (.iinc 3 1, 3) := by decide +kernel
theorem dX2_child_46 : decode cX2_child 46 = .ok (.iinc 4 1, 3) := by decide +kernel
theorem dX2_child_49 : decode cX2_child 49 = .ok (.goto (-44), 3) := by decide +kernel
theorem dX2_child_52 : decode cX2_child 52 = .ok (.bipush (-7), 2) := by decide +kernel
theorem dX2_child_54 : decode cX2_child 54 = .ok (.ireturn, 1) := by decide +kernel
theorem dX2_childOf_0 : decode cX2_childOf 0 = .ok (.aload_n 0, 1) := by decide +kernel
theorem dX2_childOf_1 : decode cX2_childOf 1 = .ok (.iload_n 1, 1) := by decide +kernel
theorem dX2_childOf_2 : decode cX2_childOf 2 = .ok (.invokevirtual 57, 3) := by decide +kernel
theorem dX2_childOf_5 : decode cX2_childOf 5 = .ok (.istore_n 3, 1) := by decide +kernel
theorem dX2_childOf_6 : decode cX2_childOf 6 = .ok (.iload_n 3, 1) := by decide +kernel
theorem dX2_childOf_7 : decode cX2_childOf 7 = .ok (.bipush (-7), 2) := by decide +kernel
theorem dX2_childOf_9 : decode cX2_childOf 9 = .ok (.if_icmp .ne 8, 3) := by decide +kernel
theorem dX2_childOf_12 : decode cX2_childOf 12 = .ok (.bipush (-2), 2) := by decide +kernel
theorem dX2_childOf_14 : decode cX2_childOf 14 = .ok (.goto 9, 3) := by decide +kernel
theorem dX2_childOf_17 : decode cX2_childOf 17 = .ok (.aload_n 0, 1) := by decide +kernel
theorem dX2_childOf_18 : decode cX2_childOf 18 = .ok (.iload_n 3, 1) := by decide +kernel
theorem dX2_childOf_19 : decode cX2_childOf 19 = .ok (.iload_n 2, 1) := by decide +kernel
theorem dX2_childOf_20 : decode cX2_childOf 20 = .ok (.invokevirtual 117, 3) := by decide +kernel
theorem dX2_childOf_23 : decode cX2_childOf 23 = .ok (.ireturn, 1) := by decide +kernel
theorem dX2_favouriteOf_0 : decode cX2_favouriteOf 0 = .ok (.aload_n 0, 1) := by decide +kernel
theorem dX2_favouriteOf_1 : decode cX2_favouriteOf 1 = .ok (.iload_n 1, 1) := by decide +kernel
theorem dX2_favouriteOf_2 : decode cX2_favouriteOf 2 = .ok (.invokevirtual 57, 3) := by decide +kernel
theorem dX2_favouriteOf_5 : decode cX2_favouriteOf 5 = .ok (.istore_n 2, 1) := by decide +kernel
theorem dX2_favouriteOf_6 : decode cX2_favouriteOf 6 = .ok (.iload_n 2, 1) := by decide +kernel
theorem dX2_favouriteOf_7 : decode cX2_favouriteOf 7 = .ok (.bipush (-7), 2) := by decide +kernel
theorem dX2_favouriteOf_9 : decode cX2_favouriteOf 9 = .ok (.if_icmp .ne 8, 3) := by decide +kernel
theorem dX2_favouriteOf_12 : decode cX2_favouriteOf 12 = .ok (.bipush (-2), 2) := by decide +kernel
theorem dX2_favouriteOf_14 : decode cX2_favouriteOf 14 = .ok (.goto 9, 3) := by decide +kernel
theorem dX2_favouriteOf_17 : decode cX2_favouriteOf 17 = .ok (.aload_n 0, 1) := by decide +kernel
theorem dX2_favouriteOf_18 : decode cX2_favouriteOf 18 = .ok (.getfield 23, 3) := by decide +kernel
theorem dX2_favouriteOf_21 : decode cX2_favouriteOf 21 = .ok (.iload_n 2, 1) := by decide +kernel
theorem dX2_favouriteOf_22 : decode cX2_favouriteOf 22 = .ok (.iaload, 1) := by decide +kernel
theorem dX2_favouriteOf_23 : decode cX2_favouriteOf 23 = .ok (.ireturn, 1) := by decide +kernel
end
section
theorem dX2_timeOf_0 : decode cX2_timeOf 0 = .ok (.aload_n 0, 1) := by decide +kernel
theorem dX2_timeOf_1 : decode cX2_timeOf 1 = .ok (.iload_n 1, 1) := by decide +kernel
theorem dX2_timeOf_2 : decode cX2_timeOf 2 = .ok (.invokevirtual 57, 3) := by decide +kernel
theorem dX2_timeOf_5 : decode cX2_timeOf 5 = .ok (.istore_n 2, 1) := by decide +kernel
theorem dX2_timeOf_6 : decode cX2_timeOf 6 = .ok (.iload_n 2, 1) := by decide +kernel
theorem dX2_timeOf_7 : decode cX2_timeOf 7 = .ok (.bipush (-7), 2) := by decide +kernel
theorem dX2_timeOf_9 : decode cX2_timeOf 9 = .ok (.if_icmp .ne 8, 3) := by decide +kernel
theorem dX2_timeOf_12 : decode cX2_timeOf 12 = .ok (.bipush (-2), 2) := by decide +kernel
theorem dX2_timeOf_14 : decode cX2_timeOf 14 = .ok (.goto 9, 3) := by decide +kernel
theorem dX2_timeOf_17 : decode cX2_timeOf 17 = .ok (.aload_n 0, 1) := by decide +kernel
theorem dX2_timeOf_18 : decode cX2_timeOf 18 = .ok (.getfield 26, 3) := by decide +kernel
theorem dX2_timeOf_21 : decode cX2_timeOf 21 = .ok (.iload_n 2, 1) := by decide +kernel
theorem dX2_timeOf_22 : decode cX2_timeOf 22 = .ok (.iaload, 1) := by decide +kernel
theorem dX2_timeOf_23 : decode cX2_timeOf 23 = .ok (.ireturn, 1) := by decide +kernel
theorem dX2_commonAncestor_0 : decode cX2_commonAncestor 0 = .ok (.aload_n 0, 1) := by decide +kernel
theorem dX2_commonAncestor_1 : decode cX2_commonAncestor 1 = .ok (.iload_n 1, 1) := by decide +kernel
theorem dX2_commonAncestor_2 : decode cX2_commonAncestor 2 = .ok (.invokevirtual 57, 3) := by decide +kernel
theorem dX2_commonAncestor_5 : decode cX2_commonAncestor 5 = .ok (.istore_n 3, 1) := by decide +kernel
theorem dX2_commonAncestor_6 : decode cX2_commonAncestor 6 = .ok (.aload_n 0, 1) := by decide +kernel
theorem dX2_commonAncestor_7 : decode cX2_commonAncestor 7 = .ok (.iload_n 2, 1) := by decide +kernel
theorem dX2_commonAncestor_8 : decode cX2_commonAncestor 8 = .ok (.invokevirtual 57, 3) := by decide +kernel
theorem dX2_commonAncestor_11 : decode cX2_commonAncestor 11 = .ok (.istore 4, 2) := by decide +kernel
theorem dX2_commonAncestor_13 : decode cX2_commonAncestor 13 = .ok (.iload_n 3, 1) := by decide +kernel
theorem dX2_commonAncestor_14 : decode cX2_commonAncestor 14 = .ok (.bipush (-7), 2) := by decide +kernel
theorem dX2_commonAncestor_16 : decode cX2_commonAncestor 16 = .ok (.if_icmp .eq 10, 3) := by decide +kernel
theorem dX2_commonAncestor_19 : decode cX2_commonAncestor 19 = .ok (.iload 4, 2) := by decide +kernel
theorem dX2_commonAncestor_21 : decode cX2_commonAncestor 21 = .ok (.bipush (-7), 2) := by decide +kernel
theorem dX2_commonAncestor_23 : decode cX2_commonAncestor 23 = .ok (.if_icmp .ne 8, 3) := by decide +kernel
theorem dX2_commonAncestor_26 : decode cX2_commonAncestor 26 = .ok (.bipush (-2), 2) := by decide +kernel
theorem dX2_commonAncestor_28 : decode cX2_commonAncestor 28 = .ok (.goto 15, 3) := by decide +kernel
theorem dX2_commonAncestor_31 : decode cX2_commonAncestor 31 = .ok (.aload_n 0, 1) := by decide +kernel
theorem dX2_commonAncestor_32 : decode cX2_commonAncestor 32 = .ok (.getfield 16, 3) := by decide +kernel
theorem dX2_commonAncestor_35 : decode cX2_commonAncestor 35 = .ok (.aload_n 0, 1) := by decide +kernel
theorem dX2_commonAncestor_36 : decode cX2_commonAncestor 36 = .ok (.iload_n 3, 1) := by decide +kernel
theorem dX2_commonAncestor_37 : decode cX2_commonAncestor 37 = .ok (.iload 4, 2) := by decide +kernel
theorem dX2_commonAncestor_39 : decode cX2_commonAncestor 39 = .ok (.invokevirtual 95, 3) := by decide +kernel
theorem dX2_commonAncestor_42 : decode cX2_commonAncestor 42 = .ok (.iaload, 1) := by decide +kernel
theorem dX2_commonAncestor_43 : decode cX2_commonAncestor 43 = .ok (.ireturn, 1) := by decide +kernel
theorem dX2_distance_0 : decode cX2_distance 0 = .ok (.aload_n 0, 1) := by decide +kernel
theorem dX2_distance_1 : decode cX2_distance 1 = .ok (.iload_n 1, 1) := by decide +kernel
theorem dX2_distance_2 : decode cX2_distance 2 = .ok (.invokevirtual 57, 3) := by decide +kernel
theorem dX2_distance_5 : decode cX2_distance 5 = .ok (.istore_n 3, 1) := by decide +kernel
theorem dX2_distance_6 : decode cX2_distance 6 = .ok (.aload_n 0, 1) := by decide +kernel
theorem dX2_distance_7 : decode cX2_distance 7 = .ok (.iload_n 2, 1) := by decide +kernel
theorem dX2_distance_8 : decode cX2_distance 8 = .ok (.invokevirtual 57, 3) := by decide +kernel
theorem dX2_distance_11 : decode cX2_distance 11 = .ok (.istore 4, 2) := by decide +kernel
theorem dX2_distance_13 : decode cX2_distance 13 = .ok (.iload_n 3, 1) := by decide +kernel
theorem dX2_distance_14 : decode cX2_distance 14 = .ok (.bipush (-7), 2) := by decide +kernel
theorem dX2_distance_16 : decode cX2_distance 16 = .ok (.if_icmp .eq 10, 3) := by decide +kernel
theorem dX2_distance_19 : decode cX2_distance 19 = .ok (.iload 4, 2) := by decide +kernel
theorem dX2_distance_21 : decode cX2_distance 21 = .ok (.bipush (-7), 2) := by decide +kernel
theorem dX2_distance_23 : decode cX2_distance 23 = .ok (.if_icmp .ne 8, 3) := by decide +kernel
theorem dX2_distance_26 : decode cX2_distance 26 = .ok (.bipush (-2), 2) := by decide +kernel
theorem dX2_distance_28 : decode cX2_distance 28 = .ok (.goto 10, 3) := by decide +kernel
theorem dX2_distance_31 : decode cX2_distance 31 = .ok (.aload_n 0, 1) := by decide +kernel
theorem dX2_distance_32 : decode cX2_distance 32 = .ok (.iload_n 3, 1) := by decide +kernel
theorem dX2_distance_33 : decode cX2_distance 33 = .ok (.iload 4, 2) := by decide +kernel
theorem dX2_distance_35 : decode cX2_distance 35 = .ok (.invokevirtual 99, 3) := by decide +kernel
theorem dX2_distance_38 : decode cX2_distance 38 = .ok (.ireturn, 1) := by decide +kernel
theorem dX2_isMark_0 : decode cX2_isMark 0 = .ok (.iload_n 0, 1) := by decide +kernel
theorem dX2_isMark_1 : decode cX2_isMark 1 = .ok (.iconst 0, 1) := by decide +kernel
theorem dX2_isMark_2 : decode cX2_isMark 2 = .ok (.iconst 4, 1) := by decide +kernel
theorem dX2_isMark_3 : decode cX2_isMark 3 = .ok (.invokestatic 70, 3) := by decide +kernel
theorem dX2_isMark_6 : decode cX2_isMark 6 = .ok (.ireturn, 1) := by decide +kernel
theorem dX2_marksOn_0 : decode cX2_marksOn 0 = .ok (.iconst 0, 1) := by decide +kernel
theorem dX2_marksOn_1 : decode cX2_marksOn 1 = .ok (.istore_n 2, 1) := by decide +kernel
theorem dX2_marksOn_2 : decode cX2_marksOn 2 = .ok (.iconst 0, 1) := by decide +kernel
theorem dX2_marksOn_3 : decode cX2_marksOn 3 = .ok (.istore_n 3, 1) := by decide +kernel
theorem dX2_marksOn_4 : decode cX2_marksOn 4 = .ok (.iload_n 3, 1) := by decide +kernel
theorem dX2_marksOn_5 : decode cX2_marksOn 5 = .ok (.iconst 5, 1) := by decide +kernel
theorem dX2_marksOn_6 : decode cX2_marksOn 6 = .ok (.if_icmp .ge 27, 3) := by decide +kernel
theorem dX2_marksOn_9 : decode cX2_marksOn 9 = .ok (.iload_n 2, 1) := by decide +kernel
theorem dX2_marksOn_10 : decode cX2_marksOn 10 = .ok (.aload_n 0, 1) := by decide +kernel
theorem dX2_marksOn_11 : decode cX2_marksOn 11 = .ok (.getfield 51, 3) := by decide +kernel
theorem dX2_marksOn_14 : decode cX2_marksOn 14 = .ok (.iload_n 3, 1) := by decide +kernel
theorem dX2_marksOn_15 : decode cX2_marksOn 15 = .ok (.iaload, 1) := by decide +kernel
theorem dX2_marksOn_16 : decode cX2_marksOn 16 = .ok (.iload_n 1, 1) := by decide +kernel
theorem dX2_marksOn_17 : decode cX2_marksOn 17 = .ok (.if_icmp .ne 7, 3) := by decide +kernel
theorem dX2_marksOn_20 : decode cX2_marksOn 20 = .ok (.iconst 1, 1) := by decide +kernel
theorem dX2_marksOn_21 : decode cX2_marksOn 21 = .ok (.goto 4, 3) := by decide +kernel
theorem dX2_marksOn_24 : decode cX2_marksOn 24 = .ok (.iconst 0, 1) := by decide +kernel
theorem dX2_marksOn_25 : decode cX2_marksOn 25 = .ok (.iadd, 1) := by decide +kernel
theorem dX2_marksOn_26 : decode cX2_marksOn 26 = .ok (.istore_n 2, 1) := by decide +kernel
theorem dX2_marksOn_27 : decode cX2_marksOn 27 = .ok (.iinc 3 1, 3) := by decide +kernel
theorem dX2_marksOn_30 : decode cX2_marksOn 30 = .ok (.goto (-26), 3) := by decide +kernel
theorem dX2_marksOn_33 : decode cX2_marksOn 33 = .ok (.iload_n 2, 1) := by decide +kernel
theorem dX2_marksOn_34 : decode cX2_marksOn 34 = .ok (.ireturn, 1) := by decide +kernel
theorem dX2_setMark_0 : decode cX2_setMark 0 = .ok (.iload_n 1, 1) := by decide +kernel
theorem dX2_setMark_1 : decode cX2_setMark 1 = .ok (.invokestatic 120, 3) := by decide +kernel
theorem dX2_setMark_4 : decode cX2_setMark 4 = .ok (.ifCond .ne 5, 3) := by decide +kernel
theorem dX2_setMark_7 : decode cX2_setMark 7 = .ok (.iconst (-1), 1) := by decide +kernel
theorem dX2_setMark_8 : decode cX2_setMark 8 = .ok (.ireturn, 1) := by decide +kernel
theorem dX2_setMark_9 : decode cX2_setMark 9 = .ok (.aload_n 0, 1) := by decide +kernel
theorem dX2_setMark_10 : decode cX2_setMark 10 = .ok (.iload_n 2, 1) := by decide +kernel
theorem dX2_setMark_11 : decode cX2_setMark 11 = .ok (.invokevirtual 57, 3) := by decide +kernel
theorem dX2_setMark_14 : decode cX2_setMark 14 = .ok (.bipush (-7), 2) := by decide +kernel
theorem dX2_setMark_16 : decode cX2_setMark 16 = .ok (.if_icmp .ne 6, 3) := by decide +kernel
theorem dX2_setMark_19 : decode cX2_setMark 19 = .ok (.bipush (-2), 2) := by decide +kernel
theorem dX2_setMark_21 : decode cX2_setMark 21 = .ok (.ireturn, 1) := by decide +kernel
theorem dX2_setMark_22 : decode cX2_setMark 22 = .ok (.aload_n 0, 1) := by decide +kernel
theorem dX2_setMark_23 : decode cX2_setMark 23 = .ok (.getfield 51, 3) := by decide +kernel
theorem dX2_setMark_26 : decode cX2_setMark 26 = .ok (.iload_n 1, 1) := by decide +kernel
theorem dX2_setMark_27 : decode cX2_setMark 27 = .ok (.iload_n 2, 1) := by decide +kernel
theorem dX2_setMark_28 : decode cX2_setMark 28 = .ok (.iastore, 1) := by decide +kernel
theorem dX2_setMark_29 : decode cX2_setMark 29 = .ok (.aload_n 0, 1) := by decide +kernel
theorem dX2_setMark_30 : decode cX2_setMark 30 = .ok (.iload_n 2, 1) := by decide +kernel
theorem dX2_setMark_31 : decode cX2_setMark 31 = .ok (.invokevirtual 124, 3) := by decide +kernel
theorem dX2_setMark_34 : decode cX2_setMark 34 = .ok (.ireturn, 1) := by decide +kernel
theorem dX2_clearMark_0 : decode cX2_clearMark 0 = .ok (.iload_n 1, 1) := by decide +kernel
theorem dX2_clearMark_1 : decode cX2_clearMark 1 = .ok (.invokestatic 120, 3) := by decide +kernel
theorem dX2_clearMark_4 : decode cX2_clearMark 4 = .ok (.ifCond .ne 5, 3) := by decide +kernel
theorem dX2_clearMark_7 : decode cX2_clearMark 7 = .ok (.iconst (-1), 1) := by decide +kernel
theorem dX2_clearMark_8 : decode cX2_clearMark 8 = .ok (.ireturn, 1) := by decide +kernel
theorem dX2_clearMark_9 : decode cX2_clearMark 9 = .ok (.aload_n 0, 1) := by decide +kernel
theorem dX2_clearMark_10 : decode cX2_clearMark 10 = .ok (.getfield 51, 3) := by decide +kernel
theorem dX2_clearMark_13 : decode cX2_clearMark 13 = .ok (.iload_n 1, 1) := by decide +kernel
theorem dX2_clearMark_14 : decode cX2_clearMark 14 = .ok (.iaload, 1) := by decide +kernel
theorem dX2_clearMark_15 : decode cX2_clearMark 15 = .ok (.istore_n 2, 1) := by decide +kernel
theorem dX2_clearMark_16 : decode cX2_clearMark 16 = .ok (.aload_n 0, 1) := by decide +kernel
theorem dX2_clearMark_17 : decode cX2_clearMark 17 = .ok (.getfield 51, 3) := by decide +kernel
theorem dX2_clearMark_20 : decode cX2_clearMark 20 = .ok (.iload_n 1, 1) := by decide +kernel
theorem dX2_clearMark_21 : decode cX2_clearMark 21 = .ok (.bipush (-7), 2) := by decide +kernel
theorem dX2_clearMark_23 : decode cX2_clearMark 23 = .ok (.iastore, 1) := by decide +kernel
theorem dX2_clearMark_24 : decode cX2_clearMark 24 = .ok (.iload_n 2, 1) := by decide +kernel
theorem dX2_clearMark_25 : decode cX2_clearMark 25 = .ok (.ireturn, 1) := by decide +kernel
theorem dX2_goToMark_0 : decode cX2_goToMark 0 = .ok (.iload_n 1, 1) := by decide +kernel
theorem dX2_goToMark_1 : decode cX2_goToMark 1 = .ok (.invokestatic 120, 3) := by decide +kernel
theorem dX2_goToMark_4 : decode cX2_goToMark 4 = .ok (.ifCond .ne 5, 3) := by decide +kernel
theorem dX2_goToMark_7 : decode cX2_goToMark 7 = .ok (.iconst (-1), 1) := by decide +kernel
theorem dX2_goToMark_8 : decode cX2_goToMark 8 = .ok (.ireturn, 1) := by decide +kernel
theorem dX2_goToMark_9 : decode cX2_goToMark 9 = .ok (.aload_n 0, 1) := by decide +kernel
theorem dX2_goToMark_10 : decode cX2_goToMark 10 = .ok (.getfield 51, 3) := by decide +kernel
theorem dX2_goToMark_13 : decode cX2_goToMark 13 = .ok (.iload_n 1, 1) := by decide +kernel
theorem dX2_goToMark_14 : decode cX2_goToMark 14 = .ok (.iaload, 1) := by decide +kernel
theorem dX2_goToMark_15 : decode cX2_goToMark 15 = .ok (.bipush (-7), 2) := by decide +kernel
theorem dX2_goToMark_17 : decode cX2_goToMark 17 = .ok (.if_icmp .ne 8, 3) := by decide +kernel
theorem dX2_goToMark_20 : decode cX2_goToMark 20 = .ok (.bipush (-7), 2) := by decide +kernel
theorem dX2_goToMark_22 : decode cX2_goToMark 22 = .ok (.goto 17, 3) := by decide +kernel
theorem dX2_goToMark_25 : decode cX2_goToMark 25 = .ok (.aload_n 0, 1) := by decide +kernel
theorem dX2_goToMark_26 : decode cX2_goToMark 26 = .ok (.aload_n 0, 1) := by decide +kernel
theorem dX2_goToMark_27 : decode cX2_goToMark 27 = .ok (.aload_n 0, 1) := by decide +kernel
theorem dX2_goToMark_28 : decode cX2_goToMark 28 = .ok (.getfield 51, 3) := by decide +kernel
theorem dX2_goToMark_31 : decode cX2_goToMark 31 = .ok (.iload_n 1, 1) := by decide +kernel
theorem dX2_goToMark_32 : decode cX2_goToMark 32 = .ok (.iaload, 1) := by decide +kernel
theorem dX2_goToMark_33 : decode cX2_goToMark 33 = .ok (.invokevirtual 57, 3) := by decide +kernel
theorem dX2_goToMark_36 : decode cX2_goToMark 36 = .ok (.invokevirtual 77, 3) := by decide +kernel
theorem dX2_goToMark_39 : decode cX2_goToMark 39 = .ok (.ireturn, 1) := by decide +kernel
theorem dX2_isLoose_0 : decode cX2_isLoose 0 = .ok (.iload_n 1, 1) := by decide +kernel
theorem dX2_isLoose_1 : decode cX2_isLoose 1 = .ok (.ifCond .le 36, 3) := by decide +kernel
theorem dX2_isLoose_4 : decode cX2_isLoose 4 = .ok (.iload_n 1, 1) := by decide +kernel
theorem dX2_isLoose_5 : decode cX2_isLoose 5 = .ok (.aload_n 0, 1) := by decide +kernel
theorem dX2_isLoose_6 : decode cX2_isLoose 6 = .ok (.getfield 67, 3) := by decide +kernel
theorem dX2_isLoose_9 : decode cX2_isLoose 9 = .ok (.if_icmp .eq 28, 3) := by decide +kernel
theorem dX2_isLoose_12 : decode cX2_isLoose 12 = .ok (.aload_n 0, 1) := by decide +kernel
theorem dX2_isLoose_13 : decode cX2_isLoose 13 = .ok (.iload_n 1, 1) := by decide +kernel
theorem dX2_isLoose_14 : decode cX2_isLoose 14 = .ok (.invokevirtual 127, 3) := by decide +kernel
theorem dX2_isLoose_17 : decode cX2_isLoose 17 = .ok (.ifCond .ne 20, 3) := by decide +kernel
theorem dX2_isLoose_20 : decode cX2_isLoose 20 = .ok (.aload_n 0, 1) := by decide +kernel
theorem dX2_isLoose_21 : decode cX2_isLoose 21 = .ok (.aload_n 0, 1) := by decide +kernel
theorem dX2_isLoose_22 : decode cX2_isLoose 22 = .ok (.getfield 16, 3) := by decide +kernel
theorem dX2_isLoose_25 : decode cX2_isLoose 25 = .ok (.iload_n 1, 1) := by decide +kernel
theorem dX2_isLoose_26 : decode cX2_isLoose 26 = .ok (.iaload, 1) := by decide +kernel
theorem dX2_isLoose_27 : decode cX2_isLoose 27 = .ok (.invokevirtual 124, 3) := by decide +kernel
theorem dX2_isLoose_30 : decode cX2_isLoose 30 = .ok (.ifCond .ne 7, 3) := by decide +kernel
theorem dX2_isLoose_33 : decode cX2_isLoose 33 = .ok (.iconst 1, 1) := by decide +kernel
theorem dX2_isLoose_34 : decode cX2_isLoose 34 = .ok (.goto 4, 3) := by decide +kernel
theorem dX2_isLoose_37 : decode cX2_isLoose 37 = .ok (.iconst 0, 1) := by decide +kernel
theorem dX2_isLoose_38 : decode cX2_isLoose 38 = .ok (.ireturn, 1) := by decide +kernel
theorem dX2_oldest_0 : decode cX2_oldest 0 = .ok (.bipush (-7), 2) := by decide +kernel
theorem dX2_oldest_2 : decode cX2_oldest 2 = .ok (.istore_n 1, 1) := by decide +kernel
theorem dX2_oldest_3 : decode cX2_oldest 3 = .ok (.iconst 0, 1) := by decide +kernel
theorem dX2_oldest_4 : decode cX2_oldest 4 = .ok (.istore_n 2, 1) := by decide +kernel
theorem dX2_oldest_5 : decode cX2_oldest 5 = .ok (.iload_n 2, 1) := by decide +kernel
theorem dX2_oldest_6 : decode cX2_oldest 6 = .ok (.aload_n 0, 1) := by decide +kernel
theorem dX2_oldest_7 : decode cX2_oldest 7 = .ok (.getfield 7, 3) := by decide +kernel
theorem dX2_oldest_10 : decode cX2_oldest 10 = .ok (.if_icmp .ge 44, 3) := by decide +kernel
theorem dX2_oldest_13 : decode cX2_oldest 13 = .ok (.aload_n 0, 1) := by decide +kernel
theorem dX2_oldest_14 : decode cX2_oldest 14 = .ok (.iload_n 2, 1) := by decide +kernel
theorem dX2_oldest_15 : decode cX2_oldest 15 = .ok (.invokevirtual 130, 3) := by decide +kernel
theorem dX2_oldest_18 : decode cX2_oldest 18 = .ok (.ifCond .eq 28, 3) := by decide +kernel
theorem dX2_oldest_21 : decode cX2_oldest 21 = .ok (.iload_n 1, 1) := by decide +kernel
theorem dX2_oldest_22 : decode cX2_oldest 22 = .ok (.bipush (-7), 2) := by decide +kernel
theorem dX2_oldest_24 : decode cX2_oldest 24 = .ok (.if_icmp .eq 18, 3) := by decide +kernel
theorem dX2_oldest_27 : decode cX2_oldest 27 = .ok (.aload_n 0, 1) := by decide +kernel
theorem dX2_oldest_28 : decode cX2_oldest 28 = .ok (.getfield 26, 3) := by decide +kernel
theorem dX2_oldest_31 : decode cX2_oldest 31 = .ok (.iload_n 2, 1) := by decide +kernel
theorem dX2_oldest_32 : decode cX2_oldest 32 = .ok (.iaload, 1) := by decide +kernel
theorem dX2_oldest_33 : decode cX2_oldest 33 = .ok (.aload_n 0, 1) := by decide +kernel
theorem dX2_oldest_34 : decode cX2_oldest 34 = .ok (.getfield 26, 3) := by decide +kernel
theorem dX2_oldest_37 : decode cX2_oldest 37 = .ok (.iload_n 1, 1) := by decide +kernel
theorem dX2_oldest_38 : decode cX2_oldest 38 = .ok (.iaload, 1) := by decide +kernel
theorem dX2_oldest_39 : decode cX2_oldest 39 = .ok (.if_icmp .ge 7, 3) := by decide +kernel
theorem dX2_oldest_42 : decode cX2_oldest 42 = .ok (.iload_n 2, 1) := by decide +kernel
theorem dX2_oldest_43 : decode cX2_oldest 43 = .ok (.goto 4, 3) := by decide +kernel
theorem dX2_oldest_46 : decode cX2_oldest 46 = .ok (.iload_n 1, 1) := by decide +kernel
theorem dX2_oldest_47 : decode cX2_oldest 47 = .ok (.istore_n 1, 1) := by decide +kernel
theorem dX2_oldest_48 : decode cX2_oldest 48 = .ok (.iinc 2 1, 3) := by decide +kernel
theorem dX2_oldest_51 : decode cX2_oldest 51 = .ok (.goto (-46), 3) := by decide +kernel
theorem dX2_oldest_54 : decode cX2_oldest 54 = .ok (.iload_n 1, 1) := by decide +kernel
theorem dX2_oldest_55 : decode cX2_oldest 55 = .ok (.bipush (-7), 2) := by decide +kernel
theorem dX2_oldest_57 : decode cX2_oldest 57 = .ok (.if_icmp .ne 8, 3) := by decide +kernel
theorem dX2_oldest_60 : decode cX2_oldest 60 = .ok (.bipush (-7), 2) := by decide +kernel
theorem dX2_oldest_62 : decode cX2_oldest 62 = .ok (.goto 9, 3) := by decide +kernel
theorem dX2_oldest_65 : decode cX2_oldest 65 = .ok (.aload_n 0, 1) := by decide +kernel
theorem dX2_oldest_66 : decode cX2_oldest 66 = .ok (.getfield 16, 3) := by decide +kernel
theorem dX2_oldest_69 : decode cX2_oldest 69 = .ok (.iload_n 1, 1) := by decide +kernel
theorem dX2_oldest_70 : decode cX2_oldest 70 = .ok (.iaload, 1) := by decide +kernel
theorem dX2_oldest_71 : decode cX2_oldest 71 = .ok (.ireturn, 1) := by decide +kernel
theorem dX2_oldestLeaf_0 : decode cX2_oldestLeaf 0 = .ok (.aload_n 0, 1) := by decide +kernel
theorem dX2_oldestLeaf_1 : decode cX2_oldestLeaf 1 = .ok (.invokevirtual 133, 3) := by decide +kernel
theorem dX2_oldestLeaf_4 : decode cX2_oldestLeaf 4 = .ok (.ireturn, 1) := by decide +kernel
theorem dX2_close_0 : decode cX2_close 0 = .ok (.aload_n 0, 1) := by decide +kernel
theorem dX2_close_1 : decode cX2_close 1 = .ok (.dup, 1) := by decide +kernel
theorem dX2_close_2 : decode cX2_close 2 = .ok (.getfield 7, 3) := by decide +kernel
theorem dX2_close_5 : decode cX2_close 5 = .ok (.iconst 1, 1) := by decide +kernel
theorem dX2_close_6 : decode cX2_close 6 = .ok (.isub, 1) := by decide +kernel
theorem dX2_close_7 : decode cX2_close 7 = .ok (.putfield 7, 3) := by decide +kernel
theorem dX2_close_10 : decode cX2_close 10 = .ok (.iload_n 1, 1) := by decide +kernel
theorem dX2_close_11 : decode cX2_close 11 = .ok (.istore_n 2, 1) := by decide +kernel
theorem dX2_close_12 : decode cX2_close 12 = .ok (.iload_n 2, 1) := by decide +kernel
theorem dX2_close_13 : decode cX2_close 13 = .ok (.aload_n 0, 1) := by decide +kernel
theorem dX2_close_14 : decode cX2_close 14 = .ok (.getfield 7, 3) := by decide +kernel
theorem dX2_close_17 : decode cX2_close 17 = .ok (.if_icmp .ge 121, 3) := by decide +kernel
theorem dX2_close_20 : decode cX2_close 20 = .ok (.aload_n 0, 1) := by decide +kernel
theorem dX2_close_21 : decode cX2_close 21 = .ok (.getfield 16, 3) := by decide +kernel
theorem dX2_close_24 : decode cX2_close 24 = .ok (.iload_n 2, 1) := by decide +kernel
theorem dX2_close_25 : decode cX2_close 25 = .ok (.aload_n 0, 1) := by decide +kernel
theorem dX2_close_26 : decode cX2_close 26 = .ok (.getfield 16, 3) := by decide +kernel
theorem dX2_close_29 : decode cX2_close 29 = .ok (.iload_n 2, 1) := by decide +kernel
theorem dX2_close_30 : decode cX2_close 30 = .ok (.iconst 1, 1) := by decide +kernel
theorem dX2_close_31 : decode cX2_close 31 = .ok (.iadd, 1) := by decide +kernel
theorem dX2_close_32 : decode cX2_close 32 = .ok (.iaload, 1) := by decide +kernel
theorem dX2_close_33 : decode cX2_close 33 = .ok (.iastore, 1) := by decide +kernel
theorem dX2_close_34 : decode cX2_close 34 = .ok (.aload_n 0, 1) := by decide +kernel
theorem dX2_close_35 : decode cX2_close 35 = .ok (.getfield 20, 3) := by decide +kernel
theorem dX2_close_38 : decode cX2_close 38 = .ok (.iload_n 2, 1) := by decide +kernel
theorem dX2_close_39 : decode cX2_close 39 = .ok (.aload_n 0, 1) := by decide +kernel
theorem dX2_close_40 : decode cX2_close 40 = .ok (.getfield 20, 3) := by decide +kernel
theorem dX2_close_43 : decode cX2_close 43 = .ok (.iload_n 2, 1) := by decide +kernel
theorem dX2_close_44 : decode cX2_close 44 = .ok (.iconst 1, 1) := by decide +kernel
theorem dX2_close_45 : decode cX2_close 45 = .ok (.iadd, 1) := by decide +kernel
theorem dX2_close_46 : decode cX2_close 46 = .ok (.iaload, 1) := by decide +kernel
theorem dX2_close_47 : decode cX2_close 47 = .ok (.iastore, 1) := by decide +kernel
theorem dX2_close_48 : decode cX2_close 48 = .ok (.aload_n 0, 1) := by decide +kernel
theorem dX2_close_49 : decode cX2_close 49 = .ok (.getfield 23, 3) := by decide +kernel
theorem dX2_close_52 : decode cX2_close 52 = .ok (.iload_n 2, 1) := by decide +kernel
theorem dX2_close_53 : decode cX2_close 53 = .ok (.aload_n 0, 1) := by decide +kernel
theorem dX2_close_54 : decode cX2_close 54 = .ok (.getfield 23, 3) := by decide +kernel
theorem dX2_close_57 : decode cX2_close 57 = .ok (.iload_n 2, 1) := by decide +kernel
theorem dX2_close_58 : decode cX2_close 58 = .ok (.iconst 1, 1) := by decide +kernel
theorem dX2_close_59 : decode cX2_close 59 = .ok (.iadd, 1) := by decide +kernel
theorem dX2_close_60 : decode cX2_close 60 = .ok (.iaload, 1) := by decide +kernel
theorem dX2_close_61 : decode cX2_close 61 = .ok (.iastore, 1) := by decide +kernel
theorem dX2_close_62 : decode cX2_close 62 = .ok (.aload_n 0, 1) := by decide +kernel
theorem dX2_close_63 : decode cX2_close 63 = .ok (.getfield 26, 3) := by decide +kernel
theorem dX2_close_66 : decode cX2_close 66 = .ok (.iload_n 2, 1) := by decide +kernel
theorem dX2_close_67 : decode cX2_close 67 = .ok (.aload_n 0, 1) := by decide +kernel
theorem dX2_close_68 : decode cX2_close 68 = .ok (.getfield 26, 3) := by decide +kernel
theorem dX2_close_71 : decode cX2_close 71 = .ok (.iload_n 2, 1) := by decide +kernel
theorem dX2_close_72 : decode cX2_close 72 = .ok (.iconst 1, 1) := by decide +kernel
theorem dX2_close_73 : decode cX2_close 73 = .ok (.iadd, 1) := by decide +kernel
theorem dX2_close_74 : decode cX2_close 74 = .ok (.iaload, 1) := by decide +kernel
theorem dX2_close_75 : decode cX2_close 75 = .ok (.iastore, 1) := by decide +kernel
theorem dX2_close_76 : decode cX2_close 76 = .ok (.aload_n 0, 1) := by decide +kernel
theorem dX2_close_77 : decode cX2_close 77 = .ok (.getfield 29, 3) := by decide +kernel
theorem dX2_close_80 : decode cX2_close 80 = .ok (.iload_n 2, 1) := by decide +kernel
theorem dX2_close_81 : decode cX2_close 81 = .ok (.aload_n 0, 1) := by decide +kernel
theorem dX2_close_82 : decode cX2_close 82 = .ok (.getfield 29, 3) := by decide +kernel
theorem dX2_close_85 : decode cX2_close 85 = .ok (.iload_n 2, 1) := by decide +kernel
theorem dX2_close_86 : decode cX2_close 86 = .ok (.iconst 1, 1) := by decide +kernel
theorem dX2_close_87 : decode cX2_close 87 = .ok (.iadd, 1) := by decide +kernel
theorem dX2_close_88 : decode cX2_close 88 = .ok (.iaload, 1) := by decide +kernel
theorem dX2_close_89 : decode cX2_close 89 = .ok (.iastore, 1) := by decide +kernel
theorem dX2_close_90 : decode cX2_close 90 = .ok (.aload_n 0, 1) := by decide +kernel
theorem dX2_close_91 : decode cX2_close 91 = .ok (.getfield 32, 3) := by decide +kernel
theorem dX2_close_94 : decode cX2_close 94 = .ok (.iload_n 2, 1) := by decide +kernel
theorem dX2_close_95 : decode cX2_close 95 = .ok (.aload_n 0, 1) := by decide +kernel
theorem dX2_close_96 : decode cX2_close 96 = .ok (.getfield 32, 3) := by decide +kernel
theorem dX2_close_99 : decode cX2_close 99 = .ok (.iload_n 2, 1) := by decide +kernel
theorem dX2_close_100 : decode cX2_close 100 = .ok (.iconst 1, 1) := by decide +kernel
theorem dX2_close_101 : decode cX2_close 101 = .ok (.iadd, 1) := by decide +kernel
theorem dX2_close_102 : decode cX2_close 102 = .ok (.iaload, 1) := by decide +kernel
theorem dX2_close_103 : decode cX2_close 103 = .ok (.iastore, 1) := by decide +kernel
theorem dX2_close_104 : decode cX2_close 104 = .ok (.aload_n 0, 1) := by decide +kernel
theorem dX2_close_105 : decode cX2_close 105 = .ok (.getfield 35, 3) := by decide +kernel
theorem dX2_close_108 : decode cX2_close 108 = .ok (.iload_n 2, 1) := by decide +kernel
theorem dX2_close_109 : decode cX2_close 109 = .ok (.aload_n 0, 1) := by decide +kernel
theorem dX2_close_110 : decode cX2_close 110 = .ok (.getfield 35, 3) := by decide +kernel
theorem dX2_close_113 : decode cX2_close 113 = .ok (.iload_n 2, 1) := by decide +kernel
theorem dX2_close_114 : decode cX2_close 114 = .ok (.iconst 1, 1) := by decide +kernel
theorem dX2_close_115 : decode cX2_close 115 = .ok (.iadd, 1) := by decide +kernel
theorem dX2_close_116 : decode cX2_close 116 = .ok (.baload, 1) := by decide +kernel
theorem dX2_close_117 : decode cX2_close 117 = .ok (.bastore, 1) := by decide +kernel
theorem dX2_close_118 : decode cX2_close 118 = .ok (.aload_n 0, 1) := by decide +kernel
theorem dX2_close_119 : decode cX2_close 119 = .ok (.getfield 42, 3) := by decide +kernel
theorem dX2_close_122 : decode cX2_close 122 = .ok (.iload_n 2, 1) := by decide +kernel
theorem dX2_close_123 : decode cX2_close 123 = .ok (.aload_n 0, 1) := by decide +kernel
theorem dX2_close_124 : decode cX2_close 124 = .ok (.getfield 42, 3) := by decide +kernel
theorem dX2_close_127 : decode cX2_close 127 = .ok (.iload_n 2, 1) := by decide +kernel
theorem dX2_close_128 : decode cX2_close 128 = .ok (.iconst 1, 1) := by decide +kernel
theorem dX2_close_129 : decode cX2_close 129 = .ok (.iadd, 1) := by decide +kernel
theorem dX2_close_130 : decode cX2_close 130 = .ok (.iaload, 1) := by decide +kernel
theorem dX2_close_131 : decode cX2_close 131 = .ok (.iastore, 1) := by decide +kernel
theorem dX2_close_132 : decode cX2_close 132 = .ok (.iinc 2 1, 3) := by decide +kernel
theorem dX2_close_135 : decode cX2_close 135 = .ok (.goto (-123), 3) := by decide +kernel
theorem dX2_close_138 : decode cX2_close 138 = .ok (.bipush 6, 2) := by decide +kernel
theorem dX2_close_140 : decode cX2_close 140 = .ok (.iload_n 1, 1) := by decide +kernel
theorem dX2_close_141 : decode cX2_close 141 = .ok (.imul, 1) := by decide +kernel
theorem dX2_close_142 : decode cX2_close 142 = .ok (.istore_n 2, 1) := by decide +kernel
theorem dX2_close_143 : decode cX2_close 143 = .ok (.iload_n 2, 1) := by decide +kernel
theorem dX2_close_144 : decode cX2_close 144 = .ok (.bipush 6, 2) := by decide +kernel
theorem dX2_close_146 : decode cX2_close 146 = .ok (.aload_n 0, 1) := by decide +kernel
theorem dX2_close_147 : decode cX2_close 147 = .ok (.getfield 7, 3) := by decide +kernel
theorem dX2_close_150 : decode cX2_close 150 = .ok (.imul, 1) := by decide +kernel
theorem dX2_close_151 : decode cX2_close 151 = .ok (.if_icmp .ge 24, 3) := by decide +kernel
theorem dX2_close_154 : decode cX2_close 154 = .ok (.aload_n 0, 1) := by decide +kernel
theorem dX2_close_155 : decode cX2_close 155 = .ok (.getfield 39, 3) := by decide +kernel
theorem dX2_close_158 : decode cX2_close 158 = .ok (.iload_n 2, 1) := by decide +kernel
theorem dX2_close_159 : decode cX2_close 159 = .ok (.aload_n 0, 1) := by decide +kernel
theorem dX2_close_160 : decode cX2_close 160 = .ok (.getfield 39, 3) := by decide +kernel
theorem dX2_close_163 : decode cX2_close 163 = .ok (.iload_n 2, 1) := by decide +kernel
theorem dX2_close_164 : decode cX2_close 164 = .ok (.bipush 6, 2) := by decide +kernel
theorem dX2_close_166 : decode cX2_close 166 = .ok (.iadd, 1) := by decide +kernel
theorem dX2_close_167 : decode cX2_close 167 = .ok (.iaload, 1) := by decide +kernel
theorem dX2_close_168 : decode cX2_close 168 = .ok (.iastore, 1) := by decide +kernel
theorem dX2_close_169 : decode cX2_close 169 = .ok (.iinc 2 1, 3) := by decide +kernel
theorem dX2_close_172 : decode cX2_close 172 = .ok (.goto (-29), 3) := by decide +kernel
theorem dX2_close_175 : decode cX2_close 175 = .ok (.bipush 40, 2) := by decide +kernel
theorem dX2_close_177 : decode cX2_close 177 = .ok (.iload_n 1, 1) := by decide +kernel
theorem dX2_close_178 : decode cX2_close 178 = .ok (.imul, 1) := by decide +kernel
theorem dX2_close_179 : decode cX2_close 179 = .ok (.istore_n 2, 1) := by decide +kernel
theorem dX2_close_180 : decode cX2_close 180 = .ok (.iload_n 2, 1) := by decide +kernel
theorem dX2_close_181 : decode cX2_close 181 = .ok (.bipush 40, 2) := by decide +kernel
theorem dX2_close_183 : decode cX2_close 183 = .ok (.aload_n 0, 1) := by decide +kernel
theorem dX2_close_184 : decode cX2_close 184 = .ok (.getfield 7, 3) := by decide +kernel
theorem dX2_close_187 : decode cX2_close 187 = .ok (.imul, 1) := by decide +kernel
theorem dX2_close_188 : decode cX2_close 188 = .ok (.if_icmp .ge 24, 3) := by decide +kernel
theorem dX2_close_191 : decode cX2_close 191 = .ok (.aload_n 0, 1) := by decide +kernel
theorem dX2_close_192 : decode cX2_close 192 = .ok (.getfield 45, 3) := by decide +kernel
theorem dX2_close_195 : decode cX2_close 195 = .ok (.iload_n 2, 1) := by decide +kernel
theorem dX2_close_196 : decode cX2_close 196 = .ok (.aload_n 0, 1) := by decide +kernel
theorem dX2_close_197 : decode cX2_close 197 = .ok (.getfield 45, 3) := by decide +kernel
theorem dX2_close_200 : decode cX2_close 200 = .ok (.iload_n 2, 1) := by decide +kernel
theorem dX2_close_201 : decode cX2_close 201 = .ok (.bipush 40, 2) := by decide +kernel
theorem dX2_close_203 : decode cX2_close 203 = .ok (.iadd, 1) := by decide +kernel
theorem dX2_close_204 : decode cX2_close 204 = .ok (.iaload, 1) := by decide +kernel
theorem dX2_close_205 : decode cX2_close 205 = .ok (.iastore, 1) := by decide +kernel
theorem dX2_close_206 : decode cX2_close 206 = .ok (.iinc 2 1, 3) := by decide +kernel
theorem dX2_close_209 : decode cX2_close 209 = .ok (.goto (-29), 3) := by decide +kernel
theorem dX2_close_212 : decode cX2_close 212 = .ok (.aload_n 0, 1) := by decide +kernel
theorem dX2_close_213 : decode cX2_close 213 = .ok (.dup, 1) := by decide +kernel
theorem dX2_close_214 : decode cX2_close 214 = .ok (.getfield 67, 3) := by decide +kernel
theorem dX2_close_217 : decode cX2_close 217 = .ok (.aload_n 0, 1) := by decide +kernel
theorem dX2_close_218 : decode cX2_close 218 = .ok (.getfield 67, 3) := by decide +kernel
theorem dX2_close_221 : decode cX2_close 221 = .ok (.iload_n 1, 1) := by decide +kernel
theorem dX2_close_222 : decode cX2_close 222 = .ok (.if_icmp .le 7, 3) := by decide +kernel
theorem dX2_close_225 : decode cX2_close 225 = .ok (.iconst 1, 1) := by decide +kernel
theorem dX2_close_226 : decode cX2_close 226 = .ok (.goto 4, 3) := by decide +kernel
theorem dX2_close_229 : decode cX2_close 229 = .ok (.iconst 0, 1) := by decide +kernel
theorem dX2_close_230 : decode cX2_close 230 = .ok (.isub, 1) := by decide +kernel
theorem dX2_close_231 : decode cX2_close 231 = .ok (.putfield 67, 3) := by decide +kernel
theorem dX2_close_234 : decode cX2_close 234 = .ok (.return_, 1) := by decide +kernel
theorem dX2_forget_0 : decode cX2_forget 0 = .ok (.aload_n 0, 1) := by decide +kernel
theorem dX2_forget_1 : decode cX2_forget 1 = .ok (.iload_n 1, 1) := by decide +kernel
theorem dX2_forget_2 : decode cX2_forget 2 = .ok (.invokevirtual 57, 3) := by decide +kernel
theorem dX2_forget_5 : decode cX2_forget 5 = .ok (.istore_n 2, 1) := by decide +kernel
theorem dX2_forget_6 : decode cX2_forget 6 = .ok (.iload_n 2, 1) := by decide +kernel
theorem dX2_forget_7 : decode cX2_forget 7 = .ok (.bipush (-7), 2) := by decide +kernel
theorem dX2_forget_9 : decode cX2_forget 9 = .ok (.if_icmp .ne 6, 3) := by decide +kernel
theorem dX2_forget_12 : decode cX2_forget 12 = .ok (.bipush (-2), 2) := by decide +kernel
theorem dX2_forget_14 : decode cX2_forget 14 = .ok (.ireturn, 1) := by decide +kernel
theorem dX2_forget_15 : decode cX2_forget 15 = .ok (.aload_n 0, 1) := by decide +kernel
theorem dX2_forget_16 : decode cX2_forget 16 = .ok (.iload_n 2, 1) := by decide +kernel
theorem dX2_forget_17 : decode cX2_forget 17 = .ok (.invokevirtual 130, 3) := by decide +kernel
theorem dX2_forget_20 : decode cX2_forget 20 = .ok (.ifCond .ne 6, 3) := by decide +kernel
theorem dX2_forget_23 : decode cX2_forget 23 = .ok (.bipush (-6), 2) := by decide +kernel
theorem dX2_forget_25 : decode cX2_forget 25 = .ok (.ireturn, 1) := by decide +kernel
theorem dX2_forget_26 : decode cX2_forget 26 = .ok (.aload_n 0, 1) := by decide +kernel
theorem dX2_forget_27 : decode cX2_forget 27 = .ok (.getfield 20, 3) := by decide +kernel
theorem dX2_forget_30 : decode cX2_forget 30 = .ok (.iload_n 2, 1) := by decide +kernel
theorem dX2_forget_31 : decode cX2_forget 31 = .ok (.iaload, 1) := by decide +kernel
theorem dX2_forget_32 : decode cX2_forget 32 = .ok (.istore_n 3, 1) := by decide +kernel
theorem dX2_forget_33 : decode cX2_forget 33 = .ok (.aload_n 0, 1) := by decide +kernel
theorem dX2_forget_34 : decode cX2_forget 34 = .ok (.iload_n 2, 1) := by decide +kernel
theorem dX2_forget_35 : decode cX2_forget 35 = .ok (.invokevirtual 137, 3) := by decide +kernel
theorem dX2_forget_38 : decode cX2_forget 38 = .ok (.aload_n 0, 1) := by decide +kernel
theorem dX2_forget_39 : decode cX2_forget 39 = .ok (.iload_n 3, 1) := by decide +kernel
theorem dX2_forget_40 : decode cX2_forget 40 = .ok (.invokevirtual 57, 3) := by decide +kernel
theorem dX2_forget_43 : decode cX2_forget 43 = .ok (.istore 4, 2) := by decide +kernel
theorem dX2_forget_45 : decode cX2_forget 45 = .ok (.aload_n 0, 1) := by decide +kernel
theorem dX2_forget_46 : decode cX2_forget 46 = .ok (.getfield 23, 3) := by decide +kernel
theorem dX2_forget_49 : decode cX2_forget 49 = .ok (.iload 4, 2) := by decide +kernel
theorem dX2_forget_51 : decode cX2_forget 51 = .ok (.iaload, 1) := by decide +kernel
theorem dX2_forget_52 : decode cX2_forget 52 = .ok (.iload_n 1, 1) := by decide +kernel
theorem dX2_forget_53 : decode cX2_forget 53 = .ok (.if_icmp .ne 24, 3) := by decide +kernel
theorem dX2_forget_56 : decode cX2_forget 56 = .ok (.aload_n 0, 1) := by decide +kernel
theorem dX2_forget_57 : decode cX2_forget 57 = .ok (.getfield 23, 3) := by decide +kernel
theorem dX2_forget_60 : decode cX2_forget 60 = .ok (.iload 4, 2) := by decide +kernel
theorem dX2_forget_62 : decode cX2_forget 62 = .ok (.aload_n 0, 1) := by decide +kernel
theorem dX2_forget_63 : decode cX2_forget 63 = .ok (.iload 4, 2) := by decide +kernel
theorem dX2_forget_65 : decode cX2_forget 65 = .ok (.aload_n 0, 1) := by decide +kernel
theorem dX2_forget_66 : decode cX2_forget 66 = .ok (.iload 4, 2) := by decide +kernel
theorem dX2_forget_68 : decode cX2_forget 68 = .ok (.invokevirtual 127, 3) := by decide +kernel
theorem dX2_forget_71 : decode cX2_forget 71 = .ok (.iconst 1, 1) := by decide +kernel
theorem dX2_forget_72 : decode cX2_forget 72 = .ok (.isub, 1) := by decide +kernel
theorem dX2_forget_73 : decode cX2_forget 73 = .ok (.invokevirtual 117, 3) := by decide +kernel
theorem dX2_forget_76 : decode cX2_forget 76 = .ok (.iastore, 1) := by decide +kernel
theorem dX2_forget_77 : decode cX2_forget 77 = .ok (.aload_n 0, 1) := by decide +kernel
theorem dX2_forget_78 : decode cX2_forget 78 = .ok (.getfield 7, 3) := by decide +kernel
theorem dX2_forget_81 : decode cX2_forget 81 = .ok (.ireturn, 1) := by decide +kernel
theorem dX2_mix_0 : decode cX2_mix 0 = .ok (.aload_n 0, 1) := by decide +kernel
theorem dX2_mix_1 : decode cX2_mix 1 = .ok (.ldc2_w 141, 3) := by decide +kernel
theorem dX2_mix_4 : decode cX2_mix 4 = .ok (.aload_n 0, 1) := by decide +kernel
theorem dX2_mix_5 : decode cX2_mix 5 = .ok (.getfield 143, 3) := by decide +kernel
theorem dX2_mix_8 : decode cX2_mix 8 = .ok (.lmul, 1) := by decide +kernel
theorem dX2_mix_9 : decode cX2_mix 9 = .ok (.lload_n 1, 1) := by decide +kernel
theorem dX2_mix_10 : decode cX2_mix 10 = .ok (.ladd, 1) := by decide +kernel
theorem dX2_mix_11 : decode cX2_mix 11 = .ok (.putfield 143, 3) := by decide +kernel
theorem dX2_mix_14 : decode cX2_mix 14 = .ok (.return_, 1) := by decide +kernel
theorem dX2_digest_0 : decode cX2_digest 0 = .ok (.aload_n 0, 1) := by decide +kernel
theorem dX2_digest_1 : decode cX2_digest 1 = .ok (.ldc2_w 147, 3) := by decide +kernel
theorem dX2_digest_4 : decode cX2_digest 4 = .ok (.putfield 143, 3) := by decide +kernel
theorem dX2_digest_7 : decode cX2_digest 7 = .ok (.aload_n 0, 1) := by decide +kernel
theorem dX2_digest_8 : decode cX2_digest 8 = .ok (.aload_n 0, 1) := by decide +kernel
theorem dX2_digest_9 : decode cX2_digest 9 = .ok (.getfield 7, 3) := by decide +kernel
theorem dX2_digest_12 : decode cX2_digest 12 = .ok (.i2l, 1) := by decide +kernel
theorem dX2_digest_13 : decode cX2_digest 13 = .ok (.invokevirtual 149, 3) := by decide +kernel
theorem dX2_digest_16 : decode cX2_digest 16 = .ok (.iconst 0, 1) := by decide +kernel
theorem dX2_digest_17 : decode cX2_digest 17 = .ok (.istore_n 1, 1) := by decide +kernel
theorem dX2_digest_18 : decode cX2_digest 18 = .ok (.iload_n 1, 1) := by decide +kernel
theorem dX2_digest_19 : decode cX2_digest 19 = .ok (.aload_n 0, 1) := by decide +kernel
theorem dX2_digest_20 : decode cX2_digest 20 = .ok (.getfield 7, 3) := by decide +kernel
theorem dX2_digest_23 : decode cX2_digest 23 = .ok (.if_icmp .ge 124, 3) := by decide +kernel
theorem dX2_digest_26 : decode cX2_digest 26 = .ok (.aload_n 0, 1) := by decide +kernel
theorem dX2_digest_27 : decode cX2_digest 27 = .ok (.aload_n 0, 1) := by decide +kernel
theorem dX2_digest_28 : decode cX2_digest 28 = .ok (.getfield 16, 3) := by decide +kernel
theorem dX2_digest_31 : decode cX2_digest 31 = .ok (.iload_n 1, 1) := by decide +kernel
theorem dX2_digest_32 : decode cX2_digest 32 = .ok (.iaload, 1) := by decide +kernel
theorem dX2_digest_33 : decode cX2_digest 33 = .ok (.i2l, 1) := by decide +kernel
theorem dX2_digest_34 : decode cX2_digest 34 = .ok (.invokevirtual 149, 3) := by decide +kernel
theorem dX2_digest_37 : decode cX2_digest 37 = .ok (.aload_n 0, 1) := by decide +kernel
theorem dX2_digest_38 : decode cX2_digest 38 = .ok (.iload_n 1, 1) := by decide +kernel
theorem dX2_digest_39 : decode cX2_digest 39 = .ok (.ifCond .ne 7, 3) := by decide +kernel
theorem dX2_digest_42 : decode cX2_digest 42 = .ok (.lconst 0, 1) := by decide +kernel
theorem dX2_digest_43 : decode cX2_digest 43 = .ok (.goto 10, 3) := by decide +kernel
theorem dX2_digest_46 : decode cX2_digest 46 = .ok (.aload_n 0, 1) := by decide +kernel
theorem dX2_digest_47 : decode cX2_digest 47 = .ok (.getfield 20, 3) := by decide +kernel
theorem dX2_digest_50 : decode cX2_digest 50 = .ok (.iload_n 1, 1) := by decide +kernel
theorem dX2_digest_51 : decode cX2_digest 51 = .ok (.iaload, 1) := by decide +kernel
theorem dX2_digest_52 : decode cX2_digest 52 = .ok (.i2l, 1) := by decide +kernel
theorem dX2_digest_53 : decode cX2_digest 53 = .ok (.invokevirtual 149, 3) := by decide +kernel
theorem dX2_digest_56 : decode cX2_digest 56 = .ok (.aload_n 0, 1) := by decide +kernel
theorem dX2_digest_57 : decode cX2_digest 57 = .ok (.iload_n 1, 1) := by decide +kernel
theorem dX2_digest_58 : decode cX2_digest 58 = .ok (.ifCond .ne 7, 3) := by decide +kernel
theorem dX2_digest_61 : decode cX2_digest 61 = .ok (.lconst 0, 1) := by decide +kernel
theorem dX2_digest_62 : decode cX2_digest 62 = .ok (.goto 9, 3) := by decide +kernel
theorem dX2_digest_65 : decode cX2_digest 65 = .ok (.aload_n 0, 1) := by decide +kernel
theorem dX2_digest_66 : decode cX2_digest 66 = .ok (.iload_n 1, 1) := by decide +kernel
theorem dX2_digest_67 : decode cX2_digest 67 = .ok (.invokevirtual 114, 3) := by decide +kernel
theorem dX2_digest_70 : decode cX2_digest 70 = .ok (.i2l, 1) := by decide +kernel
theorem dX2_digest_71 : decode cX2_digest 71 = .ok (.invokevirtual 149, 3) := by decide +kernel
theorem dX2_digest_74 : decode cX2_digest 74 = .ok (.aload_n 0, 1) := by decide +kernel
theorem dX2_digest_75 : decode cX2_digest 75 = .ok (.aload_n 0, 1) := by decide +kernel
theorem dX2_digest_76 : decode cX2_digest 76 = .ok (.getfield 42, 3) := by decide +kernel
theorem dX2_digest_79 : decode cX2_digest 79 = .ok (.iload_n 1, 1) := by decide +kernel
theorem dX2_digest_80 : decode cX2_digest 80 = .ok (.iaload, 1) := by decide +kernel
theorem dX2_digest_81 : decode cX2_digest 81 = .ok (.i2l, 1) := by decide +kernel
theorem dX2_digest_82 : decode cX2_digest 82 = .ok (.invokevirtual 149, 3) := by decide +kernel
theorem dX2_digest_85 : decode cX2_digest 85 = .ok (.iconst 0, 1) := by decide +kernel
theorem dX2_digest_86 : decode cX2_digest 86 = .ok (.istore_n 2, 1) := by decide +kernel
theorem dX2_digest_87 : decode cX2_digest 87 = .ok (.iload_n 2, 1) := by decide +kernel
theorem dX2_digest_88 : decode cX2_digest 88 = .ok (.aload_n 0, 1) := by decide +kernel
theorem dX2_digest_89 : decode cX2_digest 89 = .ok (.getfield 42, 3) := by decide +kernel
theorem dX2_digest_92 : decode cX2_digest 92 = .ok (.iload_n 1, 1) := by decide +kernel
theorem dX2_digest_93 : decode cX2_digest 93 = .ok (.iaload, 1) := by decide +kernel
theorem dX2_digest_94 : decode cX2_digest 94 = .ok (.if_icmp .ge 25, 3) := by decide +kernel
theorem dX2_digest_97 : decode cX2_digest 97 = .ok (.aload_n 0, 1) := by decide +kernel
theorem dX2_digest_98 : decode cX2_digest 98 = .ok (.aload_n 0, 1) := by decide +kernel
theorem dX2_digest_99 : decode cX2_digest 99 = .ok (.getfield 45, 3) := by decide +kernel
theorem dX2_digest_102 : decode cX2_digest 102 = .ok (.bipush 40, 2) := by decide +kernel
theorem dX2_digest_104 : decode cX2_digest 104 = .ok (.iload_n 1, 1) := by decide +kernel
theorem dX2_digest_105 : decode cX2_digest 105 = .ok (.imul, 1) := by decide +kernel
theorem dX2_digest_106 : decode cX2_digest 106 = .ok (.iload_n 2, 1) := by decide +kernel
theorem dX2_digest_107 : decode cX2_digest 107 = .ok (.iadd, 1) := by decide +kernel
theorem dX2_digest_108 : decode cX2_digest 108 = .ok (.iaload, 1) := by decide +kernel
theorem dX2_digest_109 : decode cX2_digest 109 = .ok (.i2l, 1) := by decide +kernel
theorem dX2_digest_110 : decode cX2_digest 110 = .ok (.invokevirtual 149, 3) := by decide +kernel
theorem dX2_digest_113 : decode cX2_digest 113 = .ok (.iinc 2 1, 3) := by decide +kernel
theorem dX2_digest_116 : decode cX2_digest 116 = .ok (.goto (-29), 3) := by decide +kernel
theorem dX2_digest_119 : decode cX2_digest 119 = .ok (.aload_n 0, 1) := by decide +kernel
theorem dX2_digest_120 : decode cX2_digest 120 = .ok (.aload_n 0, 1) := by decide +kernel
theorem dX2_digest_121 : decode cX2_digest 121 = .ok (.getfield 23, 3) := by decide +kernel
theorem dX2_digest_124 : decode cX2_digest 124 = .ok (.iload_n 1, 1) := by decide +kernel
theorem dX2_digest_125 : decode cX2_digest 125 = .ok (.iaload, 1) := by decide +kernel
theorem dX2_digest_126 : decode cX2_digest 126 = .ok (.i2l, 1) := by decide +kernel
theorem dX2_digest_127 : decode cX2_digest 127 = .ok (.invokevirtual 149, 3) := by decide +kernel
theorem dX2_digest_130 : decode cX2_digest 130 = .ok (.aload_n 0, 1) := by decide +kernel
theorem dX2_digest_131 : decode cX2_digest 131 = .ok (.aload_n 0, 1) := by decide +kernel
theorem dX2_digest_132 : decode cX2_digest 132 = .ok (.getfield 26, 3) := by decide +kernel
theorem dX2_digest_135 : decode cX2_digest 135 = .ok (.iload_n 1, 1) := by decide +kernel
theorem dX2_digest_136 : decode cX2_digest 136 = .ok (.iaload, 1) := by decide +kernel
theorem dX2_digest_137 : decode cX2_digest 137 = .ok (.i2l, 1) := by decide +kernel
theorem dX2_digest_138 : decode cX2_digest 138 = .ok (.invokevirtual 149, 3) := by decide +kernel
theorem dX2_digest_141 : decode cX2_digest 141 = .ok (.iinc 1 1, 3) := by decide +kernel
theorem dX2_digest_144 : decode cX2_digest 144 = .ok (.goto (-126), 3) := by decide +kernel
theorem dX2_digest_147 : decode cX2_digest 147 = .ok (.aload_n 0, 1) := by decide +kernel
theorem dX2_digest_148 : decode cX2_digest 148 = .ok (.aload_n 0, 1) := by decide +kernel
theorem dX2_digest_149 : decode cX2_digest 149 = .ok (.getfield 16, 3) := by decide +kernel
theorem dX2_digest_152 : decode cX2_digest 152 = .ok (.aload_n 0, 1) := by decide +kernel
theorem dX2_digest_153 : decode cX2_digest 153 = .ok (.getfield 67, 3) := by decide +kernel
theorem dX2_digest_156 : decode cX2_digest 156 = .ok (.iaload, 1) := by decide +kernel
theorem dX2_digest_157 : decode cX2_digest 157 = .ok (.i2l, 1) := by decide +kernel
theorem dX2_digest_158 : decode cX2_digest 158 = .ok (.invokevirtual 149, 3) := by decide +kernel
theorem dX2_digest_161 : decode cX2_digest 161 = .ok (.aload_n 0, 1) := by decide +kernel
theorem dX2_digest_162 : decode cX2_digest 162 = .ok (.aload_n 0, 1) := by decide +kernel
theorem dX2_digest_163 : decode cX2_digest 163 = .ok (.invokevirtual 133, 3) := by decide +kernel
theorem dX2_digest_166 : decode cX2_digest 166 = .ok (.i2l, 1) := by decide +kernel
theorem dX2_digest_167 : decode cX2_digest 167 = .ok (.invokevirtual 149, 3) := by decide +kernel
theorem dX2_digest_170 : decode cX2_digest 170 = .ok (.iconst 0, 1) := by decide +kernel
theorem dX2_digest_171 : decode cX2_digest 171 = .ok (.istore_n 1, 1) := by decide +kernel
theorem dX2_digest_172 : decode cX2_digest 172 = .ok (.iload_n 1, 1) := by decide +kernel
theorem dX2_digest_173 : decode cX2_digest 173 = .ok (.iconst 5, 1) := by decide +kernel
theorem dX2_digest_174 : decode cX2_digest 174 = .ok (.if_icmp .ge 20, 3) := by decide +kernel
theorem dX2_digest_177 : decode cX2_digest 177 = .ok (.aload_n 0, 1) := by decide +kernel
theorem dX2_digest_178 : decode cX2_digest 178 = .ok (.aload_n 0, 1) := by decide +kernel
theorem dX2_digest_179 : decode cX2_digest 179 = .ok (.getfield 51, 3) := by decide +kernel
theorem dX2_digest_182 : decode cX2_digest 182 = .ok (.iload_n 1, 1) := by decide +kernel
theorem dX2_digest_183 : decode cX2_digest 183 = .ok (.iaload, 1) := by decide +kernel
theorem dX2_digest_184 : decode cX2_digest 184 = .ok (.i2l, 1) := by decide +kernel
theorem dX2_digest_185 : decode cX2_digest 185 = .ok (.invokevirtual 149, 3) := by decide +kernel
theorem dX2_digest_188 : decode cX2_digest 188 = .ok (.iinc 1 1, 3) := by decide +kernel
theorem dX2_digest_191 : decode cX2_digest 191 = .ok (.goto (-19), 3) := by decide +kernel
theorem dX2_digest_194 : decode cX2_digest 194 = .ok (.aload_n 0, 1) := by decide +kernel
theorem dX2_digest_195 : decode cX2_digest 195 = .ok (.aload_n 0, 1) := by decide +kernel
theorem dX2_digest_196 : decode cX2_digest 196 = .ok (.getfield 64, 3) := by decide +kernel
theorem dX2_digest_199 : decode cX2_digest 199 = .ok (.i2l, 1) := by decide +kernel
theorem dX2_digest_200 : decode cX2_digest 200 = .ok (.invokevirtual 149, 3) := by decide +kernel
theorem dX2_digest_203 : decode cX2_digest 203 = .ok (.aload_n 0, 1) := by decide +kernel
theorem dX2_digest_204 : decode cX2_digest 204 = .ok (.aload_n 0, 1) := by decide +kernel
theorem dX2_digest_205 : decode cX2_digest 205 = .ok (.getfield 74, 3) := by decide +kernel
theorem dX2_digest_208 : decode cX2_digest 208 = .ok (.i2l, 1) := by decide +kernel
theorem dX2_digest_209 : decode cX2_digest 209 = .ok (.invokevirtual 149, 3) := by decide +kernel
theorem dX2_digest_212 : decode cX2_digest 212 = .ok (.iconst 0, 1) := by decide +kernel
theorem dX2_digest_213 : decode cX2_digest 213 = .ok (.istore_n 1, 1) := by decide +kernel
theorem dX2_digest_214 : decode cX2_digest 214 = .ok (.iload_n 1, 1) := by decide +kernel
theorem dX2_digest_215 : decode cX2_digest 215 = .ok (.aload_n 0, 1) := by decide +kernel
theorem dX2_digest_216 : decode cX2_digest 216 = .ok (.getfield 74, 3) := by decide +kernel
theorem dX2_digest_219 : decode cX2_digest 219 = .ok (.if_icmp .ge 20, 3) := by decide +kernel
theorem dX2_digest_222 : decode cX2_digest 222 = .ok (.aload_n 0, 1) := by decide +kernel
theorem dX2_digest_223 : decode cX2_digest 223 = .ok (.aload_n 0, 1) := by decide +kernel
theorem dX2_digest_224 : decode cX2_digest 224 = .ok (.getfield 48, 3) := by decide +kernel
theorem dX2_digest_227 : decode cX2_digest 227 = .ok (.iload_n 1, 1) := by decide +kernel
theorem dX2_digest_228 : decode cX2_digest 228 = .ok (.iaload, 1) := by decide +kernel
theorem dX2_digest_229 : decode cX2_digest 229 = .ok (.i2l, 1) := by decide +kernel
theorem dX2_digest_230 : decode cX2_digest 230 = .ok (.invokevirtual 149, 3) := by decide +kernel
theorem dX2_digest_233 : decode cX2_digest 233 = .ok (.iinc 1 1, 3) := by decide +kernel
theorem dX2_digest_236 : decode cX2_digest 236 = .ok (.goto (-22), 3) := by decide +kernel
theorem dX2_digest_239 : decode cX2_digest 239 = .ok (.aload_n 0, 1) := by decide +kernel
theorem dX2_digest_240 : decode cX2_digest 240 = .ok (.getfield 143, 3) := by decide +kernel
theorem dX2_digest_243 : decode cX2_digest 243 = .ok (.lreturn, 1) := by decide +kernel
theorem dL_law_0 : decode cL_law 0 = .ok (.new 7, 3) := by decide +kernel
theorem dL_law_3 : decode cL_law 3 = .ok (.dup, 1) := by decide +kernel
theorem dL_law_4 : decode cL_law 4 = .ok (.invokespecial 9, 3) := by decide +kernel
theorem dL_law_7 : decode cL_law 7 = .ok (.astore_n 1, 1) := by decide +kernel
theorem dL_law_8 : decode cL_law 8 = .ok (.new 10, 3) := by decide +kernel
theorem dL_law_11 : decode cL_law 11 = .ok (.dup, 1) := by decide +kernel
theorem dL_law_12 : decode cL_law 12 = .ok (.invokespecial 12, 3) := by decide +kernel
theorem dL_law_15 : decode cL_law 15 = .ok (.astore_n 2, 1) := by decide +kernel
theorem dL_law_16 : decode cL_law 16 = .ok (.iconst 0, 1) := by decide +kernel
theorem dL_law_17 : decode cL_law 17 = .ok (.istore_n 3, 1) := by decide +kernel
theorem dL_law_18 : decode cL_law 18 = .ok (.iload_n 3, 1) := by decide +kernel
theorem dL_law_19 : decode cL_law 19 = .ok (.aload_n 0, 1) := by decide +kernel
theorem dL_law_20 : decode cL_law 20 = .ok (.arraylength, 1) := by decide +kernel
theorem dL_law_21 : decode cL_law 21 = .ok (.iconst 3, 1) := by decide +kernel
theorem dL_law_22 : decode cL_law 22 = .ok (.isub, 1) := by decide +kernel
theorem dL_law_23 : decode cL_law 23 = .ok (.if_icmp .gt 724, 3) := by decide +kernel
theorem dL_law_26 : decode cL_law 26 = .ok (.aload_n 0, 1) := by decide +kernel
theorem dL_law_27 : decode cL_law 27 = .ok (.iload_n 3, 1) := by decide +kernel
theorem dL_law_28 : decode cL_law 28 = .ok (.iaload, 1) := by decide +kernel
theorem dL_law_29 : decode cL_law 29 = .ok (.bipush 31, 2) := by decide +kernel
theorem dL_law_31 : decode cL_law 31 = .ok (.iand, 1) := by decide +kernel
theorem dL_law_32 : decode cL_law 32 = .ok (.tableswitch 709 0 25 #[120, 143, 156, 179, 212, 225, 238, 261, 284, 307, 320, 333, 356, 389, 412, 435, 468, 491, 514, 547, 580, 613, 636, 659, 672, 695], 120) := by decide +kernel
theorem dL_law_152 : decode cL_law 152 = .ok (.aload_n 1, 1) := by decide +kernel
theorem dL_law_153 : decode cL_law 153 = .ok (.aload_n 0, 1) := by decide +kernel
theorem dL_law_154 : decode cL_law 154 = .ok (.iload_n 3, 1) := by decide +kernel
theorem dL_law_155 : decode cL_law 155 = .ok (.iconst 1, 1) := by decide +kernel
theorem dL_law_156 : decode cL_law 156 = .ok (.iadd, 1) := by decide +kernel
theorem dL_law_157 : decode cL_law 157 = .ok (.iaload, 1) := by decide +kernel
theorem dL_law_158 : decode cL_law 158 = .ok (.invokevirtual 13, 3) := by decide +kernel
theorem dL_law_161 : decode cL_law 161 = .ok (.aload_n 2, 1) := by decide +kernel
theorem dL_law_162 : decode cL_law 162 = .ok (.aload_n 0, 1) := by decide +kernel
theorem dL_law_163 : decode cL_law 163 = .ok (.iload_n 3, 1) := by decide +kernel
theorem dL_law_164 : decode cL_law 164 = .ok (.iconst 1, 1) := by decide +kernel
theorem dL_law_165 : decode cL_law 165 = .ok (.iadd, 1) := by decide +kernel
theorem dL_law_166 : decode cL_law 166 = .ok (.iaload, 1) := by decide +kernel
theorem dL_law_167 : decode cL_law 167 = .ok (.invokevirtual 17, 3) := by decide +kernel
theorem dL_law_170 : decode cL_law 170 = .ok (.if_icmp .eq 571, 3) := by decide +kernel
theorem dL_law_173 : decode cL_law 173 = .ok (.iconst 0, 1) := by decide +kernel
theorem dL_law_174 : decode cL_law 174 = .ok (.ireturn, 1) := by decide +kernel
theorem dL_law_175 : decode cL_law 175 = .ok (.aload_n 1, 1) := by decide +kernel
end
section
theorem dL_law_176 : decode cL_law 176 = .ok (.invokevirtual 18, 3) := by decide +kernel
theorem dL_law_179 : decode cL_law 179 = .ok (.aload_n 2, 1) := by decide +kernel
theorem dL_law_180 : decode cL_law 180 = .ok (.invokevirtual 22, 3) := by decide +kernel
theorem dL_law_183 : decode cL_law 183 = .ok (.if_icmp .eq 558, 3) := by decide +kernel
theorem dL_law_186 : decode cL_law 186 = .ok (.iconst 0, 1) := by decide +kernel
theorem dL_law_187 : decode cL_law 187 = .ok (.ireturn, 1) := by decide +kernel
theorem dL_law_188 : decode cL_law 188 = .ok (.aload_n 1, 1) := by decide +kernel
theorem dL_law_189 : decode cL_law 189 = .ok (.aload_n 0, 1) := by decide +kernel
theorem dL_law_190 : decode cL_law 190 = .ok (.iload_n 3, 1) := by decide +kernel
theorem dL_law_191 : decode cL_law 191 = .ok (.iconst 1, 1) := by decide +kernel
theorem dL_law_192 : decode cL_law 192 = .ok (.iadd, 1) := by decide +kernel
theorem dL_law_193 : decode cL_law 193 = .ok (.iaload, 1) := by decide +kernel
theorem dL_law_194 : decode cL_law 194 = .ok (.invokevirtual 23, 3) := by decide +kernel
theorem dL_law_197 : decode cL_law 197 = .ok (.aload_n 2, 1) := by decide +kernel
theorem dL_law_198 : decode cL_law 198 = .ok (.aload_n 0, 1) := by decide +kernel
theorem dL_law_199 : decode cL_law 199 = .ok (.iload_n 3, 1) := by decide +kernel
theorem dL_law_200 : decode cL_law 200 = .ok (.iconst 1, 1) := by decide +kernel
theorem dL_law_201 : decode cL_law 201 = .ok (.iadd, 1) := by decide +kernel
theorem dL_law_202 : decode cL_law 202 = .ok (.iaload, 1) := by decide +kernel
theorem dL_law_203 : decode cL_law 203 = .ok (.invokevirtual 26, 3) := by decide +kernel
theorem dL_law_206 : decode cL_law 206 = .ok (.if_icmp .eq 535, 3) := by decide +kernel
theorem dL_law_209 : decode cL_law 209 = .ok (.iconst 0, 1) := by decide +kernel
theorem dL_law_210 : decode cL_law 210 = .ok (.ireturn, 1) := by decide +kernel
theorem dL_law_211 : decode cL_law 211 = .ok (.aload_n 1, 1) := by decide +kernel
theorem dL_law_212 : decode cL_law 212 = .ok (.aload_n 0, 1) := by decide +kernel
theorem dL_law_213 : decode cL_law 213 = .ok (.iload_n 3, 1) := by decide +kernel
theorem dL_law_214 : decode cL_law 214 = .ok (.iconst 1, 1) := by decide +kernel
theorem dL_law_215 : decode cL_law 215 = .ok (.iadd, 1) := by decide +kernel
theorem dL_law_216 : decode cL_law 216 = .ok (.iaload, 1) := by decide +kernel
theorem dL_law_217 : decode cL_law 217 = .ok (.aload_n 0, 1) := by decide +kernel
theorem dL_law_218 : decode cL_law 218 = .ok (.iload_n 3, 1) := by decide +kernel
theorem dL_law_219 : decode cL_law 219 = .ok (.iconst 2, 1) := by decide +kernel
theorem dL_law_220 : decode cL_law 220 = .ok (.iadd, 1) := by decide +kernel
theorem dL_law_221 : decode cL_law 221 = .ok (.iaload, 1) := by decide +kernel
theorem dL_law_222 : decode cL_law 222 = .ok (.invokevirtual 27, 3) := by decide +kernel
theorem dL_law_225 : decode cL_law 225 = .ok (.aload_n 2, 1) := by decide +kernel
theorem dL_law_226 : decode cL_law 226 = .ok (.aload_n 0, 1) := by decide +kernel
theorem dL_law_227 : decode cL_law 227 = .ok (.iload_n 3, 1) := by decide +kernel
theorem dL_law_228 : decode cL_law 228 = .ok (.iconst 1, 1) := by decide +kernel
theorem dL_law_229 : decode cL_law 229 = .ok (.iadd, 1) := by decide +kernel
theorem dL_law_230 : decode cL_law 230 = .ok (.iaload, 1) := by decide +kernel
theorem dL_law_231 : decode cL_law 231 = .ok (.aload_n 0, 1) := by decide +kernel
theorem dL_law_232 : decode cL_law 232 = .ok (.iload_n 3, 1) := by decide +kernel
theorem dL_law_233 : decode cL_law 233 = .ok (.iconst 2, 1) := by decide +kernel
theorem dL_law_234 : decode cL_law 234 = .ok (.iadd, 1) := by decide +kernel
theorem dL_law_235 : decode cL_law 235 = .ok (.iaload, 1) := by decide +kernel
theorem dL_law_236 : decode cL_law 236 = .ok (.invokevirtual 31, 3) := by decide +kernel
theorem dL_law_239 : decode cL_law 239 = .ok (.if_icmp .eq 502, 3) := by decide +kernel
theorem dL_law_242 : decode cL_law 242 = .ok (.iconst 0, 1) := by decide +kernel
theorem dL_law_243 : decode cL_law 243 = .ok (.ireturn, 1) := by decide +kernel
theorem dL_law_244 : decode cL_law 244 = .ok (.aload_n 1, 1) := by decide +kernel
theorem dL_law_245 : decode cL_law 245 = .ok (.invokevirtual 32, 3) := by decide +kernel
theorem dL_law_248 : decode cL_law 248 = .ok (.aload_n 2, 1) := by decide +kernel
theorem dL_law_249 : decode cL_law 249 = .ok (.invokevirtual 35, 3) := by decide +kernel
theorem dL_law_252 : decode cL_law 252 = .ok (.if_icmp .eq 489, 3) := by decide +kernel
theorem dL_law_255 : decode cL_law 255 = .ok (.iconst 0, 1) := by decide +kernel
theorem dL_law_256 : decode cL_law 256 = .ok (.ireturn, 1) := by decide +kernel
theorem dL_law_257 : decode cL_law 257 = .ok (.aload_n 1, 1) := by decide +kernel
theorem dL_law_258 : decode cL_law 258 = .ok (.invokevirtual 36, 3) := by decide +kernel
theorem dL_law_261 : decode cL_law 261 = .ok (.aload_n 2, 1) := by decide +kernel
theorem dL_law_262 : decode cL_law 262 = .ok (.invokevirtual 39, 3) := by decide +kernel
theorem dL_law_265 : decode cL_law 265 = .ok (.if_icmp .eq 476, 3) := by decide +kernel
theorem dL_law_268 : decode cL_law 268 = .ok (.iconst 0, 1) := by decide +kernel
theorem dL_law_269 : decode cL_law 269 = .ok (.ireturn, 1) := by decide +kernel
theorem dL_law_270 : decode cL_law 270 = .ok (.aload_n 1, 1) := by decide +kernel
theorem dL_law_271 : decode cL_law 271 = .ok (.aload_n 0, 1) := by decide +kernel
theorem dL_law_272 : decode cL_law 272 = .ok (.iload_n 3, 1) := by decide +kernel
theorem dL_law_273 : decode cL_law 273 = .ok (.iconst 1, 1) := by decide +kernel
theorem dL_law_274 : decode cL_law 274 = .ok (.iadd, 1) := by decide +kernel
theorem dL_law_275 : decode cL_law 275 = .ok (.iaload, 1) := by decide +kernel
theorem dL_law_276 : decode cL_law 276 = .ok (.invokevirtual 40, 3) := by decide +kernel
theorem dL_law_279 : decode cL_law 279 = .ok (.aload_n 2, 1) := by decide +kernel
theorem dL_law_280 : decode cL_law 280 = .ok (.aload_n 0, 1) := by decide +kernel
theorem dL_law_281 : decode cL_law 281 = .ok (.iload_n 3, 1) := by decide +kernel
theorem dL_law_282 : decode cL_law 282 = .ok (.iconst 1, 1) := by decide +kernel
theorem dL_law_283 : decode cL_law 283 = .ok (.iadd, 1) := by decide +kernel
theorem dL_law_284 : decode cL_law 284 = .ok (.iaload, 1) := by decide +kernel
theorem dL_law_285 : decode cL_law 285 = .ok (.invokevirtual 43, 3) := by decide +kernel
theorem dL_law_288 : decode cL_law 288 = .ok (.if_icmp .eq 453, 3) := by decide +kernel
theorem dL_law_291 : decode cL_law 291 = .ok (.iconst 0, 1) := by decide +kernel
theorem dL_law_292 : decode cL_law 292 = .ok (.ireturn, 1) := by decide +kernel
theorem dL_law_293 : decode cL_law 293 = .ok (.aload_n 1, 1) := by decide +kernel
theorem dL_law_294 : decode cL_law 294 = .ok (.aload_n 0, 1) := by decide +kernel
theorem dL_law_295 : decode cL_law 295 = .ok (.iload_n 3, 1) := by decide +kernel
theorem dL_law_296 : decode cL_law 296 = .ok (.iconst 1, 1) := by decide +kernel
theorem dL_law_297 : decode cL_law 297 = .ok (.iadd, 1) := by decide +kernel
theorem dL_law_298 : decode cL_law 298 = .ok (.iaload, 1) := by decide +kernel
theorem dL_law_299 : decode cL_law 299 = .ok (.invokevirtual 44, 3) := by decide +kernel
theorem dL_law_302 : decode cL_law 302 = .ok (.aload_n 2, 1) := by decide +kernel
theorem dL_law_303 : decode cL_law 303 = .ok (.aload_n 0, 1) := by decide +kernel
theorem dL_law_304 : decode cL_law 304 = .ok (.iload_n 3, 1) := by decide +kernel
theorem dL_law_305 : decode cL_law 305 = .ok (.iconst 1, 1) := by decide +kernel
theorem dL_law_306 : decode cL_law 306 = .ok (.iadd, 1) := by decide +kernel
theorem dL_law_307 : decode cL_law 307 = .ok (.iaload, 1) := by decide +kernel
theorem dL_law_308 : decode cL_law 308 = .ok (.invokevirtual 47, 3) := by decide +kernel
theorem dL_law_311 : decode cL_law 311 = .ok (.if_icmp .eq 430, 3) := by decide +kernel
theorem dL_law_314 : decode cL_law 314 = .ok (.iconst 0, 1) := by decide +kernel
theorem dL_law_315 : decode cL_law 315 = .ok (.ireturn, 1) := by decide +kernel
theorem dL_law_316 : decode cL_law 316 = .ok (.aload_n 1, 1) := by decide +kernel
theorem dL_law_317 : decode cL_law 317 = .ok (.aload_n 0, 1) := by decide +kernel
theorem dL_law_318 : decode cL_law 318 = .ok (.iload_n 3, 1) := by decide +kernel
theorem dL_law_319 : decode cL_law 319 = .ok (.iconst 1, 1) := by decide +kernel
theorem dL_law_320 : decode cL_law 320 = .ok (.iadd, 1) := by decide +kernel
theorem dL_law_321 : decode cL_law 321 = .ok (.iaload, 1) := by decide +kernel
theorem dL_law_322 : decode cL_law 322 = .ok (.invokevirtual 48, 3) := by decide +kernel
theorem dL_law_325 : decode cL_law 325 = .ok (.aload_n 2, 1) := by decide +kernel
theorem dL_law_326 : decode cL_law 326 = .ok (.aload_n 0, 1) := by decide +kernel
theorem dL_law_327 : decode cL_law 327 = .ok (.iload_n 3, 1) := by decide +kernel
theorem dL_law_328 : decode cL_law 328 = .ok (.iconst 1, 1) := by decide +kernel
theorem dL_law_329 : decode cL_law 329 = .ok (.iadd, 1) := by decide +kernel
theorem dL_law_330 : decode cL_law 330 = .ok (.iaload, 1) := by decide +kernel
theorem dL_law_331 : decode cL_law 331 = .ok (.invokevirtual 51, 3) := by decide +kernel
theorem dL_law_334 : decode cL_law 334 = .ok (.if_icmp .eq 407, 3) := by decide +kernel
theorem dL_law_337 : decode cL_law 337 = .ok (.iconst 0, 1) := by decide +kernel
theorem dL_law_338 : decode cL_law 338 = .ok (.ireturn, 1) := by decide +kernel
theorem dL_law_339 : decode cL_law 339 = .ok (.aload_n 1, 1) := by decide +kernel
theorem dL_law_340 : decode cL_law 340 = .ok (.invokevirtual 52, 3) := by decide +kernel
theorem dL_law_343 : decode cL_law 343 = .ok (.aload_n 2, 1) := by decide +kernel
theorem dL_law_344 : decode cL_law 344 = .ok (.invokevirtual 55, 3) := by decide +kernel
theorem dL_law_347 : decode cL_law 347 = .ok (.if_icmp .eq 394, 3) := by decide +kernel
theorem dL_law_350 : decode cL_law 350 = .ok (.iconst 0, 1) := by decide +kernel
theorem dL_law_351 : decode cL_law 351 = .ok (.ireturn, 1) := by decide +kernel
theorem dL_law_352 : decode cL_law 352 = .ok (.aload_n 1, 1) := by decide +kernel
theorem dL_law_353 : decode cL_law 353 = .ok (.invokevirtual 56, 3) := by decide +kernel
theorem dL_law_356 : decode cL_law 356 = .ok (.aload_n 2, 1) := by decide +kernel
theorem dL_law_357 : decode cL_law 357 = .ok (.invokevirtual 59, 3) := by decide +kernel
theorem dL_law_360 : decode cL_law 360 = .ok (.if_icmp .eq 381, 3) := by decide +kernel
theorem dL_law_363 : decode cL_law 363 = .ok (.iconst 0, 1) := by decide +kernel
theorem dL_law_364 : decode cL_law 364 = .ok (.ireturn, 1) := by decide +kernel
theorem dL_law_365 : decode cL_law 365 = .ok (.aload_n 1, 1) := by decide +kernel
theorem dL_law_366 : decode cL_law 366 = .ok (.aload_n 0, 1) := by decide +kernel
theorem dL_law_367 : decode cL_law 367 = .ok (.iload_n 3, 1) := by decide +kernel
theorem dL_law_368 : decode cL_law 368 = .ok (.iconst 1, 1) := by decide +kernel
theorem dL_law_369 : decode cL_law 369 = .ok (.iadd, 1) := by decide +kernel
theorem dL_law_370 : decode cL_law 370 = .ok (.iaload, 1) := by decide +kernel
theorem dL_law_371 : decode cL_law 371 = .ok (.invokevirtual 60, 3) := by decide +kernel
theorem dL_law_374 : decode cL_law 374 = .ok (.aload_n 2, 1) := by decide +kernel
theorem dL_law_375 : decode cL_law 375 = .ok (.aload_n 0, 1) := by decide +kernel
theorem dL_law_376 : decode cL_law 376 = .ok (.iload_n 3, 1) := by decide +kernel
theorem dL_law_377 : decode cL_law 377 = .ok (.iconst 1, 1) := by decide +kernel
theorem dL_law_378 : decode cL_law 378 = .ok (.iadd, 1) := by decide +kernel
theorem dL_law_379 : decode cL_law 379 = .ok (.iaload, 1) := by decide +kernel
theorem dL_law_380 : decode cL_law 380 = .ok (.invokevirtual 63, 3) := by decide +kernel
theorem dL_law_383 : decode cL_law 383 = .ok (.if_icmp .eq 358, 3) := by decide +kernel
theorem dL_law_386 : decode cL_law 386 = .ok (.iconst 0, 1) := by decide +kernel
theorem dL_law_387 : decode cL_law 387 = .ok (.ireturn, 1) := by decide +kernel
theorem dL_law_388 : decode cL_law 388 = .ok (.aload_n 1, 1) := by decide +kernel
theorem dL_law_389 : decode cL_law 389 = .ok (.aload_n 0, 1) := by decide +kernel
theorem dL_law_390 : decode cL_law 390 = .ok (.iload_n 3, 1) := by decide +kernel
theorem dL_law_391 : decode cL_law 391 = .ok (.iconst 1, 1) := by decide +kernel
theorem dL_law_392 : decode cL_law 392 = .ok (.iadd, 1) := by decide +kernel
theorem dL_law_393 : decode cL_law 393 = .ok (.iaload, 1) := by decide +kernel
theorem dL_law_394 : decode cL_law 394 = .ok (.aload_n 0, 1) := by decide +kernel
theorem dL_law_395 : decode cL_law 395 = .ok (.iload_n 3, 1) := by decide +kernel
theorem dL_law_396 : decode cL_law 396 = .ok (.iconst 2, 1) := by decide +kernel
theorem dL_law_397 : decode cL_law 397 = .ok (.iadd, 1) := by decide +kernel
theorem dL_law_398 : decode cL_law 398 = .ok (.iaload, 1) := by decide +kernel
theorem dL_law_399 : decode cL_law 399 = .ok (.invokevirtual 64, 3) := by decide +kernel
theorem dL_law_402 : decode cL_law 402 = .ok (.aload_n 2, 1) := by decide +kernel
theorem dL_law_403 : decode cL_law 403 = .ok (.aload_n 0, 1) := by decide +kernel
theorem dL_law_404 : decode cL_law 404 = .ok (.iload_n 3, 1) := by decide +kernel
theorem dL_law_405 : decode cL_law 405 = .ok (.iconst 1, 1) := by decide +kernel
theorem dL_law_406 : decode cL_law 406 = .ok (.iadd, 1) := by decide +kernel
theorem dL_law_407 : decode cL_law 407 = .ok (.iaload, 1) := by decide +kernel
theorem dL_law_408 : decode cL_law 408 = .ok (.aload_n 0, 1) := by decide +kernel
theorem dL_law_409 : decode cL_law 409 = .ok (.iload_n 3, 1) := by decide +kernel
theorem dL_law_410 : decode cL_law 410 = .ok (.iconst 2, 1) := by decide +kernel
theorem dL_law_411 : decode cL_law 411 = .ok (.iadd, 1) := by decide +kernel
theorem dL_law_412 : decode cL_law 412 = .ok (.iaload, 1) := by decide +kernel
theorem dL_law_413 : decode cL_law 413 = .ok (.invokevirtual 67, 3) := by decide +kernel
theorem dL_law_416 : decode cL_law 416 = .ok (.if_icmp .eq 325, 3) := by decide +kernel
theorem dL_law_419 : decode cL_law 419 = .ok (.iconst 0, 1) := by decide +kernel
theorem dL_law_420 : decode cL_law 420 = .ok (.ireturn, 1) := by decide +kernel
theorem dL_law_421 : decode cL_law 421 = .ok (.aload_n 1, 1) := by decide +kernel
theorem dL_law_422 : decode cL_law 422 = .ok (.aload_n 0, 1) := by decide +kernel
theorem dL_law_423 : decode cL_law 423 = .ok (.iload_n 3, 1) := by decide +kernel
theorem dL_law_424 : decode cL_law 424 = .ok (.iconst 1, 1) := by decide +kernel
theorem dL_law_425 : decode cL_law 425 = .ok (.iadd, 1) := by decide +kernel
theorem dL_law_426 : decode cL_law 426 = .ok (.iaload, 1) := by decide +kernel
theorem dL_law_427 : decode cL_law 427 = .ok (.invokevirtual 68, 3) := by decide +kernel
theorem dL_law_430 : decode cL_law 430 = .ok (.aload_n 2, 1) := by decide +kernel
theorem dL_law_431 : decode cL_law 431 = .ok (.aload_n 0, 1) := by decide +kernel
theorem dL_law_432 : decode cL_law 432 = .ok (.iload_n 3, 1) := by decide +kernel
theorem dL_law_433 : decode cL_law 433 = .ok (.iconst 1, 1) := by decide +kernel
theorem dL_law_434 : decode cL_law 434 = .ok (.iadd, 1) := by decide +kernel
theorem dL_law_435 : decode cL_law 435 = .ok (.iaload, 1) := by decide +kernel
theorem dL_law_436 : decode cL_law 436 = .ok (.invokevirtual 71, 3) := by decide +kernel
theorem dL_law_439 : decode cL_law 439 = .ok (.if_icmp .eq 302, 3) := by decide +kernel
theorem dL_law_442 : decode cL_law 442 = .ok (.iconst 0, 1) := by decide +kernel
theorem dL_law_443 : decode cL_law 443 = .ok (.ireturn, 1) := by decide +kernel
theorem dL_law_444 : decode cL_law 444 = .ok (.aload_n 1, 1) := by decide +kernel
theorem dL_law_445 : decode cL_law 445 = .ok (.aload_n 0, 1) := by decide +kernel
theorem dL_law_446 : decode cL_law 446 = .ok (.iload_n 3, 1) := by decide +kernel
theorem dL_law_447 : decode cL_law 447 = .ok (.iconst 1, 1) := by decide +kernel
theorem dL_law_448 : decode cL_law 448 = .ok (.iadd, 1) := by decide +kernel
theorem dL_law_449 : decode cL_law 449 = .ok (.iaload, 1) := by decide +kernel
theorem dL_law_450 : decode cL_law 450 = .ok (.invokevirtual 72, 3) := by decide +kernel
theorem dL_law_453 : decode cL_law 453 = .ok (.aload_n 2, 1) := by decide +kernel
theorem dL_law_454 : decode cL_law 454 = .ok (.aload_n 0, 1) := by decide +kernel
theorem dL_law_455 : decode cL_law 455 = .ok (.iload_n 3, 1) := by decide +kernel
theorem dL_law_456 : decode cL_law 456 = .ok (.iconst 1, 1) := by decide +kernel
theorem dL_law_457 : decode cL_law 457 = .ok (.iadd, 1) := by decide +kernel
theorem dL_law_458 : decode cL_law 458 = .ok (.iaload, 1) := by decide +kernel
theorem dL_law_459 : decode cL_law 459 = .ok (.invokevirtual 75, 3) := by decide +kernel
theorem dL_law_462 : decode cL_law 462 = .ok (.if_icmp .eq 279, 3) := by decide +kernel
theorem dL_law_465 : decode cL_law 465 = .ok (.iconst 0, 1) := by decide +kernel
theorem dL_law_466 : decode cL_law 466 = .ok (.ireturn, 1) := by decide +kernel
theorem dL_law_467 : decode cL_law 467 = .ok (.aload_n 1, 1) := by decide +kernel
theorem dL_law_468 : decode cL_law 468 = .ok (.aload_n 0, 1) := by decide +kernel
theorem dL_law_469 : decode cL_law 469 = .ok (.iload_n 3, 1) := by decide +kernel
theorem dL_law_470 : decode cL_law 470 = .ok (.iconst 1, 1) := by decide +kernel
theorem dL_law_471 : decode cL_law 471 = .ok (.iadd, 1) := by decide +kernel
theorem dL_law_472 : decode cL_law 472 = .ok (.iaload, 1) := by decide +kernel
theorem dL_law_473 : decode cL_law 473 = .ok (.aload_n 0, 1) := by decide +kernel
theorem dL_law_474 : decode cL_law 474 = .ok (.iload_n 3, 1) := by decide +kernel
theorem dL_law_475 : decode cL_law 475 = .ok (.iconst 2, 1) := by decide +kernel
theorem dL_law_476 : decode cL_law 476 = .ok (.iadd, 1) := by decide +kernel
theorem dL_law_477 : decode cL_law 477 = .ok (.iaload, 1) := by decide +kernel
theorem dL_law_478 : decode cL_law 478 = .ok (.invokevirtual 76, 3) := by decide +kernel
theorem dL_law_481 : decode cL_law 481 = .ok (.aload_n 2, 1) := by decide +kernel
theorem dL_law_482 : decode cL_law 482 = .ok (.aload_n 0, 1) := by decide +kernel
theorem dL_law_483 : decode cL_law 483 = .ok (.iload_n 3, 1) := by decide +kernel
theorem dL_law_484 : decode cL_law 484 = .ok (.iconst 1, 1) := by decide +kernel
theorem dL_law_485 : decode cL_law 485 = .ok (.iadd, 1) := by decide +kernel
theorem dL_law_486 : decode cL_law 486 = .ok (.iaload, 1) := by decide +kernel
theorem dL_law_487 : decode cL_law 487 = .ok (.aload_n 0, 1) := by decide +kernel
theorem dL_law_488 : decode cL_law 488 = .ok (.iload_n 3, 1) := by decide +kernel
theorem dL_law_489 : decode cL_law 489 = .ok (.iconst 2, 1) := by decide +kernel
theorem dL_law_490 : decode cL_law 490 = .ok (.iadd, 1) := by decide +kernel
theorem dL_law_491 : decode cL_law 491 = .ok (.iaload, 1) := by decide +kernel
theorem dL_law_492 : decode cL_law 492 = .ok (.invokevirtual 79, 3) := by decide +kernel
theorem dL_law_495 : decode cL_law 495 = .ok (.if_icmp .eq 246, 3) := by decide +kernel
theorem dL_law_498 : decode cL_law 498 = .ok (.iconst 0, 1) := by decide +kernel
theorem dL_law_499 : decode cL_law 499 = .ok (.ireturn, 1) := by decide +kernel
theorem dL_law_500 : decode cL_law 500 = .ok (.aload_n 1, 1) := by decide +kernel
theorem dL_law_501 : decode cL_law 501 = .ok (.aload_n 0, 1) := by decide +kernel
theorem dL_law_502 : decode cL_law 502 = .ok (.iload_n 3, 1) := by decide +kernel
theorem dL_law_503 : decode cL_law 503 = .ok (.iconst 1, 1) := by decide +kernel
theorem dL_law_504 : decode cL_law 504 = .ok (.iadd, 1) := by decide +kernel
theorem dL_law_505 : decode cL_law 505 = .ok (.iaload, 1) := by decide +kernel
theorem dL_law_506 : decode cL_law 506 = .ok (.invokevirtual 80, 3) := by decide +kernel
theorem dL_law_509 : decode cL_law 509 = .ok (.aload_n 2, 1) := by decide +kernel
theorem dL_law_510 : decode cL_law 510 = .ok (.aload_n 0, 1) := by decide +kernel
theorem dL_law_511 : decode cL_law 511 = .ok (.iload_n 3, 1) := by decide +kernel
theorem dL_law_512 : decode cL_law 512 = .ok (.iconst 1, 1) := by decide +kernel
theorem dL_law_513 : decode cL_law 513 = .ok (.iadd, 1) := by decide +kernel
theorem dL_law_514 : decode cL_law 514 = .ok (.iaload, 1) := by decide +kernel
theorem dL_law_515 : decode cL_law 515 = .ok (.invokevirtual 83, 3) := by decide +kernel
theorem dL_law_518 : decode cL_law 518 = .ok (.if_icmp .eq 223, 3) := by decide +kernel
theorem dL_law_521 : decode cL_law 521 = .ok (.iconst 0, 1) := by decide +kernel
theorem dL_law_522 : decode cL_law 522 = .ok (.ireturn, 1) := by decide +kernel
theorem dL_law_523 : decode cL_law 523 = .ok (.aload_n 1, 1) := by decide +kernel
theorem dL_law_524 : decode cL_law 524 = .ok (.aload_n 0, 1) := by decide +kernel
theorem dL_law_525 : decode cL_law 525 = .ok (.iload_n 3, 1) := by decide +kernel
theorem dL_law_526 : decode cL_law 526 = .ok (.iconst 1, 1) := by decide +kernel
theorem dL_law_527 : decode cL_law 527 = .ok (.iadd, 1) := by decide +kernel
theorem dL_law_528 : decode cL_law 528 = .ok (.iaload, 1) := by decide +kernel
theorem dL_law_529 : decode cL_law 529 = .ok (.invokevirtual 84, 3) := by decide +kernel
theorem dL_law_532 : decode cL_law 532 = .ok (.aload_n 2, 1) := by decide +kernel
theorem dL_law_533 : decode cL_law 533 = .ok (.aload_n 0, 1) := by decide +kernel
theorem dL_law_534 : decode cL_law 534 = .ok (.iload_n 3, 1) := by decide +kernel
theorem dL_law_535 : decode cL_law 535 = .ok (.iconst 1, 1) := by decide +kernel
theorem dL_law_536 : decode cL_law 536 = .ok (.iadd, 1) := by decide +kernel
theorem dL_law_537 : decode cL_law 537 = .ok (.iaload, 1) := by decide +kernel
theorem dL_law_538 : decode cL_law 538 = .ok (.invokevirtual 87, 3) := by decide +kernel
theorem dL_law_541 : decode cL_law 541 = .ok (.if_icmp .eq 200, 3) := by decide +kernel
theorem dL_law_544 : decode cL_law 544 = .ok (.iconst 0, 1) := by decide +kernel
theorem dL_law_545 : decode cL_law 545 = .ok (.ireturn, 1) := by decide +kernel
theorem dL_law_546 : decode cL_law 546 = .ok (.aload_n 1, 1) := by decide +kernel
theorem dL_law_547 : decode cL_law 547 = .ok (.aload_n 0, 1) := by decide +kernel
theorem dL_law_548 : decode cL_law 548 = .ok (.iload_n 3, 1) := by decide +kernel
theorem dL_law_549 : decode cL_law 549 = .ok (.iconst 1, 1) := by decide +kernel
theorem dL_law_550 : decode cL_law 550 = .ok (.iadd, 1) := by decide +kernel
theorem dL_law_551 : decode cL_law 551 = .ok (.iaload, 1) := by decide +kernel
theorem dL_law_552 : decode cL_law 552 = .ok (.aload_n 0, 1) := by decide +kernel
theorem dL_law_553 : decode cL_law 553 = .ok (.iload_n 3, 1) := by decide +kernel
theorem dL_law_554 : decode cL_law 554 = .ok (.iconst 2, 1) := by decide +kernel
theorem dL_law_555 : decode cL_law 555 = .ok (.iadd, 1) := by decide +kernel
theorem dL_law_556 : decode cL_law 556 = .ok (.iaload, 1) := by decide +kernel
theorem dL_law_557 : decode cL_law 557 = .ok (.invokevirtual 88, 3) := by decide +kernel
theorem dL_law_560 : decode cL_law 560 = .ok (.aload_n 2, 1) := by decide +kernel
theorem dL_law_561 : decode cL_law 561 = .ok (.aload_n 0, 1) := by decide +kernel
theorem dL_law_562 : decode cL_law 562 = .ok (.iload_n 3, 1) := by decide +kernel
theorem dL_law_563 : decode cL_law 563 = .ok (.iconst 1, 1) := by decide +kernel
theorem dL_law_564 : decode cL_law 564 = .ok (.iadd, 1) := by decide +kernel
theorem dL_law_565 : decode cL_law 565 = .ok (.iaload, 1) := by decide +kernel
theorem dL_law_566 : decode cL_law 566 = .ok (.aload_n 0, 1) := by decide +kernel
theorem dL_law_567 : decode cL_law 567 = .ok (.iload_n 3, 1) := by decide +kernel
theorem dL_law_568 : decode cL_law 568 = .ok (.iconst 2, 1) := by decide +kernel
theorem dL_law_569 : decode cL_law 569 = .ok (.iadd, 1) := by decide +kernel
theorem dL_law_570 : decode cL_law 570 = .ok (.iaload, 1) := by decide +kernel
theorem dL_law_571 : decode cL_law 571 = .ok (.invokevirtual 91, 3) := by decide +kernel
theorem dL_law_574 : decode cL_law 574 = .ok (.if_icmp .eq 167, 3) := by decide +kernel
theorem dL_law_577 : decode cL_law 577 = .ok (.iconst 0, 1) := by decide +kernel
theorem dL_law_578 : decode cL_law 578 = .ok (.ireturn, 1) := by decide +kernel
theorem dL_law_579 : decode cL_law 579 = .ok (.aload_n 1, 1) := by decide +kernel
theorem dL_law_580 : decode cL_law 580 = .ok (.aload_n 0, 1) := by decide +kernel
theorem dL_law_581 : decode cL_law 581 = .ok (.iload_n 3, 1) := by decide +kernel
theorem dL_law_582 : decode cL_law 582 = .ok (.iconst 1, 1) := by decide +kernel
theorem dL_law_583 : decode cL_law 583 = .ok (.iadd, 1) := by decide +kernel
theorem dL_law_584 : decode cL_law 584 = .ok (.iaload, 1) := by decide +kernel
theorem dL_law_585 : decode cL_law 585 = .ok (.aload_n 0, 1) := by decide +kernel
theorem dL_law_586 : decode cL_law 586 = .ok (.iload_n 3, 1) := by decide +kernel
theorem dL_law_587 : decode cL_law 587 = .ok (.iconst 2, 1) := by decide +kernel
theorem dL_law_588 : decode cL_law 588 = .ok (.iadd, 1) := by decide +kernel
theorem dL_law_589 : decode cL_law 589 = .ok (.iaload, 1) := by decide +kernel
theorem dL_law_590 : decode cL_law 590 = .ok (.invokevirtual 92, 3) := by decide +kernel
theorem dL_law_593 : decode cL_law 593 = .ok (.aload_n 2, 1) := by decide +kernel
theorem dL_law_594 : decode cL_law 594 = .ok (.aload_n 0, 1) := by decide +kernel
theorem dL_law_595 : decode cL_law 595 = .ok (.iload_n 3, 1) := by decide +kernel
theorem dL_law_596 : decode cL_law 596 = .ok (.iconst 1, 1) := by decide +kernel
theorem dL_law_597 : decode cL_law 597 = .ok (.iadd, 1) := by decide +kernel
theorem dL_law_598 : decode cL_law 598 = .ok (.iaload, 1) := by decide +kernel
theorem dL_law_599 : decode cL_law 599 = .ok (.aload_n 0, 1) := by decide +kernel
theorem dL_law_600 : decode cL_law 600 = .ok (.iload_n 3, 1) := by decide +kernel
theorem dL_law_601 : decode cL_law 601 = .ok (.iconst 2, 1) := by decide +kernel
theorem dL_law_602 : decode cL_law 602 = .ok (.iadd, 1) := by decide +kernel
theorem dL_law_603 : decode cL_law 603 = .ok (.iaload, 1) := by decide +kernel
theorem dL_law_604 : decode cL_law 604 = .ok (.invokevirtual 95, 3) := by decide +kernel
theorem dL_law_607 : decode cL_law 607 = .ok (.if_icmp .eq 134, 3) := by decide +kernel
theorem dL_law_610 : decode cL_law 610 = .ok (.iconst 0, 1) := by decide +kernel
theorem dL_law_611 : decode cL_law 611 = .ok (.ireturn, 1) := by decide +kernel
theorem dL_law_612 : decode cL_law 612 = .ok (.aload_n 1, 1) := by decide +kernel
theorem dL_law_613 : decode cL_law 613 = .ok (.aload_n 0, 1) := by decide +kernel
theorem dL_law_614 : decode cL_law 614 = .ok (.iload_n 3, 1) := by decide +kernel
theorem dL_law_615 : decode cL_law 615 = .ok (.iconst 1, 1) := by decide +kernel
theorem dL_law_616 : decode cL_law 616 = .ok (.iadd, 1) := by decide +kernel
theorem dL_law_617 : decode cL_law 617 = .ok (.iaload, 1) := by decide +kernel
theorem dL_law_618 : decode cL_law 618 = .ok (.aload_n 0, 1) := by decide +kernel
theorem dL_law_619 : decode cL_law 619 = .ok (.iload_n 3, 1) := by decide +kernel
theorem dL_law_620 : decode cL_law 620 = .ok (.iconst 2, 1) := by decide +kernel
theorem dL_law_621 : decode cL_law 621 = .ok (.iadd, 1) := by decide +kernel
theorem dL_law_622 : decode cL_law 622 = .ok (.iaload, 1) := by decide +kernel
theorem dL_law_623 : decode cL_law 623 = .ok (.invokevirtual 96, 3) := by decide +kernel
theorem dL_law_626 : decode cL_law 626 = .ok (.aload_n 2, 1) := by decide +kernel
theorem dL_law_627 : decode cL_law 627 = .ok (.aload_n 0, 1) := by decide +kernel
theorem dL_law_628 : decode cL_law 628 = .ok (.iload_n 3, 1) := by decide +kernel
theorem dL_law_629 : decode cL_law 629 = .ok (.iconst 1, 1) := by decide +kernel
theorem dL_law_630 : decode cL_law 630 = .ok (.iadd, 1) := by decide +kernel
theorem dL_law_631 : decode cL_law 631 = .ok (.iaload, 1) := by decide +kernel
theorem dL_law_632 : decode cL_law 632 = .ok (.aload_n 0, 1) := by decide +kernel
theorem dL_law_633 : decode cL_law 633 = .ok (.iload_n 3, 1) := by decide +kernel
theorem dL_law_634 : decode cL_law 634 = .ok (.iconst 2, 1) := by decide +kernel
theorem dL_law_635 : decode cL_law 635 = .ok (.iadd, 1) := by decide +kernel
theorem dL_law_636 : decode cL_law 636 = .ok (.iaload, 1) := by decide +kernel
theorem dL_law_637 : decode cL_law 637 = .ok (.invokevirtual 99, 3) := by decide +kernel
theorem dL_law_640 : decode cL_law 640 = .ok (.if_icmp .eq 101, 3) := by decide +kernel
theorem dL_law_643 : decode cL_law 643 = .ok (.iconst 0, 1) := by decide +kernel
theorem dL_law_644 : decode cL_law 644 = .ok (.ireturn, 1) := by decide +kernel
theorem dL_law_645 : decode cL_law 645 = .ok (.aload_n 1, 1) := by decide +kernel
theorem dL_law_646 : decode cL_law 646 = .ok (.aload_n 0, 1) := by decide +kernel
theorem dL_law_647 : decode cL_law 647 = .ok (.iload_n 3, 1) := by decide +kernel
theorem dL_law_648 : decode cL_law 648 = .ok (.iconst 1, 1) := by decide +kernel
theorem dL_law_649 : decode cL_law 649 = .ok (.iadd, 1) := by decide +kernel
theorem dL_law_650 : decode cL_law 650 = .ok (.iaload, 1) := by decide +kernel
theorem dL_law_651 : decode cL_law 651 = .ok (.invokevirtual 100, 3) := by decide +kernel
theorem dL_law_654 : decode cL_law 654 = .ok (.aload_n 2, 1) := by decide +kernel
theorem dL_law_655 : decode cL_law 655 = .ok (.aload_n 0, 1) := by decide +kernel
theorem dL_law_656 : decode cL_law 656 = .ok (.iload_n 3, 1) := by decide +kernel
theorem dL_law_657 : decode cL_law 657 = .ok (.iconst 1, 1) := by decide +kernel
theorem dL_law_658 : decode cL_law 658 = .ok (.iadd, 1) := by decide +kernel
theorem dL_law_659 : decode cL_law 659 = .ok (.iaload, 1) := by decide +kernel
theorem dL_law_660 : decode cL_law 660 = .ok (.invokevirtual 103, 3) := by decide +kernel
theorem dL_law_663 : decode cL_law 663 = .ok (.if_icmp .eq 78, 3) := by decide +kernel
theorem dL_law_666 : decode cL_law 666 = .ok (.iconst 0, 1) := by decide +kernel
theorem dL_law_667 : decode cL_law 667 = .ok (.ireturn, 1) := by decide +kernel
theorem dL_law_668 : decode cL_law 668 = .ok (.aload_n 1, 1) := by decide +kernel
theorem dL_law_669 : decode cL_law 669 = .ok (.aload_n 0, 1) := by decide +kernel
theorem dL_law_670 : decode cL_law 670 = .ok (.iload_n 3, 1) := by decide +kernel
theorem dL_law_671 : decode cL_law 671 = .ok (.iconst 1, 1) := by decide +kernel
theorem dL_law_672 : decode cL_law 672 = .ok (.iadd, 1) := by decide +kernel
theorem dL_law_673 : decode cL_law 673 = .ok (.iaload, 1) := by decide +kernel
theorem dL_law_674 : decode cL_law 674 = .ok (.invokevirtual 104, 3) := by decide +kernel
theorem dL_law_677 : decode cL_law 677 = .ok (.aload_n 2, 1) := by decide +kernel
theorem dL_law_678 : decode cL_law 678 = .ok (.aload_n 0, 1) := by decide +kernel
theorem dL_law_679 : decode cL_law 679 = .ok (.iload_n 3, 1) := by decide +kernel
theorem dL_law_680 : decode cL_law 680 = .ok (.iconst 1, 1) := by decide +kernel
theorem dL_law_681 : decode cL_law 681 = .ok (.iadd, 1) := by decide +kernel
theorem dL_law_682 : decode cL_law 682 = .ok (.iaload, 1) := by decide +kernel
theorem dL_law_683 : decode cL_law 683 = .ok (.invokevirtual 107, 3) := by decide +kernel
theorem dL_law_686 : decode cL_law 686 = .ok (.if_icmp .eq 55, 3) := by decide +kernel
theorem dL_law_689 : decode cL_law 689 = .ok (.iconst 0, 1) := by decide +kernel
theorem dL_law_690 : decode cL_law 690 = .ok (.ireturn, 1) := by decide +kernel
theorem dL_law_691 : decode cL_law 691 = .ok (.aload_n 1, 1) := by decide +kernel
theorem dL_law_692 : decode cL_law 692 = .ok (.invokevirtual 108, 3) := by decide +kernel
theorem dL_law_695 : decode cL_law 695 = .ok (.aload_n 2, 1) := by decide +kernel
theorem dL_law_696 : decode cL_law 696 = .ok (.invokevirtual 111, 3) := by decide +kernel
theorem dL_law_699 : decode cL_law 699 = .ok (.if_icmp .eq 42, 3) := by decide +kernel
theorem dL_law_702 : decode cL_law 702 = .ok (.iconst 0, 1) := by decide +kernel
theorem dL_law_703 : decode cL_law 703 = .ok (.ireturn, 1) := by decide +kernel
theorem dL_law_704 : decode cL_law 704 = .ok (.aload_n 1, 1) := by decide +kernel
theorem dL_law_705 : decode cL_law 705 = .ok (.aload_n 0, 1) := by decide +kernel
theorem dL_law_706 : decode cL_law 706 = .ok (.iload_n 3, 1) := by decide +kernel
theorem dL_law_707 : decode cL_law 707 = .ok (.iconst 1, 1) := by decide +kernel
theorem dL_law_708 : decode cL_law 708 = .ok (.iadd, 1) := by decide +kernel
theorem dL_law_709 : decode cL_law 709 = .ok (.iaload, 1) := by decide +kernel
theorem dL_law_710 : decode cL_law 710 = .ok (.invokevirtual 112, 3) := by decide +kernel
theorem dL_law_713 : decode cL_law 713 = .ok (.aload_n 2, 1) := by decide +kernel
theorem dL_law_714 : decode cL_law 714 = .ok (.aload_n 0, 1) := by decide +kernel
theorem dL_law_715 : decode cL_law 715 = .ok (.iload_n 3, 1) := by decide +kernel
theorem dL_law_716 : decode cL_law 716 = .ok (.iconst 1, 1) := by decide +kernel
theorem dL_law_717 : decode cL_law 717 = .ok (.iadd, 1) := by decide +kernel
theorem dL_law_718 : decode cL_law 718 = .ok (.iaload, 1) := by decide +kernel
theorem dL_law_719 : decode cL_law 719 = .ok (.invokevirtual 115, 3) := by decide +kernel
theorem dL_law_722 : decode cL_law 722 = .ok (.if_icmp .eq 19, 3) := by decide +kernel
theorem dL_law_725 : decode cL_law 725 = .ok (.iconst 0, 1) := by decide +kernel
theorem dL_law_726 : decode cL_law 726 = .ok (.ireturn, 1) := by decide +kernel
theorem dL_law_727 : decode cL_law 727 = .ok (.aload_n 1, 1) := by decide +kernel
theorem dL_law_728 : decode cL_law 728 = .ok (.invokevirtual 116, 3) := by decide +kernel
theorem dL_law_731 : decode cL_law 731 = .ok (.aload_n 2, 1) := by decide +kernel
theorem dL_law_732 : decode cL_law 732 = .ok (.invokevirtual 120, 3) := by decide +kernel
theorem dL_law_735 : decode cL_law 735 = .ok (.lcmp, 1) := by decide +kernel
theorem dL_law_736 : decode cL_law 736 = .ok (.ifCond .eq 5, 3) := by decide +kernel
theorem dL_law_739 : decode cL_law 739 = .ok (.iconst 0, 1) := by decide +kernel
theorem dL_law_740 : decode cL_law 740 = .ok (.ireturn, 1) := by decide +kernel
theorem dL_law_741 : decode cL_law 741 = .ok (.iinc 3 3, 3) := by decide +kernel
theorem dL_law_744 : decode cL_law 744 = .ok (.goto (-726), 3) := by decide +kernel
theorem dL_law_747 : decode cL_law 747 = .ok (.iconst 1, 1) := by decide +kernel
theorem dL_law_748 : decode cL_law 748 = .ok (.ireturn, 1) := by decide +kernel
end
section
/-! ===== a judgement of one's own: from here the method answers so, for every machine that stands there ===== -/
/-- a method: its name, its bytes, its locals, what it answers with, its rank (calls go down in rank) -/
abbrev MD : Type := MethodName × ByteArray × Nat × Option FieldType × Nat
/-- what is fixed over a run: the launch, the layouts, the array kinds of char, int, boolean, Node -/
abbrev EG : Type := Launch × va_G × ClassId × ClassId × ClassId × ClassId
abbrev tysG (g : EG) : List (ClassId × FieldType) := [(g.2.2.1, .char), (g.2.2.2.1, .int), (g.2.2.2.2.1, .boolean), (g.2.2.2.2.2, .object "EditTree$Node")]
def rmR (r : Nat) : Room := { frames := r, cells := 0, slots := 0, locals := 40 * r }
def lw_good : List Cond := lw_tbl.filter goodWord
def wsD (d : MD) : List Cond := .code d.1 d.2.1 d.2.2.1 d.2.2.2.1 :: lw_good
def nestF : List Cond := [.fieldLinkNest "EditTree" 95 "EditTree$Node" "text" "[C" "EditTree", .fieldLinkNest "EditTree" 40 "EditTree$Node" "textLength" "I" "EditTree", .fieldLinkNest "EditTree" 55 "EditTree$Node" "number" "I" "EditTree", .fieldLinkNest "EditTree" 111 "EditTree$Node" "time" "I" "EditTree", .fieldLinkNest "EditTree" 62 "EditTree$Node" "parent" "LEditTree$Node;" "EditTree", .fieldLinkNest "EditTree" 69 "EditTree$Node" "favourite" "LEditTree$Node;" "EditTree", .fieldLinkNest "EditTree" 98 "EditTree$Node" "editPosition" "I" "EditTree", .fieldLinkNest "EditTree" 92 "EditTree$Node" "editLength" "I" "EditTree", .fieldLinkNest "EditTree" 88 "EditTree$Node" "deletion" "Z" "EditTree"]
def nestOk (U : State) : Prop := ∀ w ∈ nestF, va_Nw w U
theorem nestOk.warm {s U : State} (hW : s.WarmedH U.vm) (h : nestOk s) : nestOk U := by
  intro w hw
  have h1 := h w hw
  simp only [nestF, List.mem_cons, List.not_mem_nil, or_false] at hw
  rcases hw with rfl | rfl | rfl | rfl | rfl | rfl | rfl | rfl | rfl <;> exact va_Nw.warmF hW h1
theorem nestOk.same {s U : State} (hv : s.vm = U.vm) (h : nestOk s) : nestOk U := by
  intro w hw
  have h1 := h w hw
  simp only [nestF, List.mem_cons, List.not_mem_nil, or_false] at hw
  rcases hw with rfl | rfl | rfl | rfl | rfl | rfl | rfl | rfl | rfl <;> exact va_Nw.same rfl hv h1
/-- the locals, by place: some of them known -/
def lw_has (ls : Array Slot) (nL : Nat) (lv : List (Option Value)) : Prop := ls.size = nL ∧ lv_wf ls ∧ ∀ (i : Nat) (v : Value), lv[i]? = some (some v) → ls[i]? = some (.val v)
def lw_asc : Nat → List (Option Value) → List (Nat × Value)
  | _, [] => []
  | i, none :: l => lw_asc (i + 1) l
  | i, some v :: l => (i, v) :: lw_asc (i + 1) l
theorem lw_asc_mem : ∀ (l : List (Option Value)) (i : Nat) (q : Nat × Value), q ∈ lw_asc i l ↔ i ≤ q.1 ∧ l[q.1 - i]? = some (some q.2)
  | [], i, q => by simp [lw_asc]
  | none :: l, i, q => by
    rw [lw_asc, lw_asc_mem l (i + 1) q]
    constructor
    · rintro ⟨h1, h2⟩
      refine ⟨by omega, ?_⟩
      rw [show q.1 - i = (q.1 - (i + 1)) + 1 by omega]
      simpa using h2
    · rintro ⟨h1, h2⟩
      by_cases h3 : q.1 = i
      · rw [h3] at h2
        simp at h2
      · refine ⟨by omega, ?_⟩
        rw [show q.1 - i = (q.1 - (i + 1)) + 1 by omega] at h2
        simpa using h2
  | some v :: l, i, q => by
    rw [lw_asc, List.mem_cons, lw_asc_mem l (i + 1) q]
    constructor
    · rintro (rfl | ⟨h1, h2⟩)
      · simp
      · refine ⟨by omega, ?_⟩
        rw [show q.1 - i = (q.1 - (i + 1)) + 1 by omega]
        simpa using h2
    · rintro ⟨h1, h2⟩
      by_cases h3 : q.1 = i
      · left
        rw [h3] at h2
        simp at h2
        exact Prod.ext h3 h2.symm
      · right
        refine ⟨by omega, ?_⟩
        rw [show q.1 - i = (q.1 - (i + 1)) + 1 by omega] at h2
        simpa using h2
theorem lw_has.to {ls : Array Slot} {nL : Nat} {lv : List (Option Value)} (h : lw_has ls nL lv) : lv_has ls nL (lw_asc 0 lv) :=
  ⟨h.1, h.2.1, fun q hq => h.2.2 q.1 q.2 (by have := ((lw_asc_mem lv 0 q).mp hq).2; simpa using this)⟩
theorem lw_has.at {ls : Array Slot} {nL : Nat} {lv : List (Option Value)} (h : lw_has ls nL lv) {i : Nat} {v : Value} (hi : lv[i]? = some (some v)) : ls[i]? = some (.val v) := h.2.2 i v hi
/-- a store of one slot; what stands just before it isn't wide -/
theorem lw_set1 {ls : Array Slot} {nL : Nat} {lv : List (Option Value)} {i : Nat} {v : Value} (h : lv_has ls nL ((i, v) :: (lw_asc 0 lv).filter (fun q => !(q.1 == i) && !(q.1 + 1 == i && q.2.category == 2)))) (hp : ∀ w, lv[i - 1]? = some (some w) → i = 0 ∨ w.category = 1) : lw_has ls nL (lv.set i (some v)) := by
  refine ⟨h.1, h.2.1, fun j w hj => ?_⟩
  by_cases hji : j = i
  · subst hji
    have hl : j < lv.length := by
      have := (List.getElem?_eq_some_iff.mp hj).1
      simpa using this
    rw [List.getElem?_set_self hl] at hj
    have e : v = w := by simpa using hj
    subst e
    exact h.2.2 (j, v) List.mem_cons_self
  · rw [List.getElem?_set_ne (fun q => hji q.symm)] at hj
    refine h.2.2 (j, w) (List.mem_cons_of_mem _ (List.mem_filter.mpr ⟨(lw_asc_mem lv 0 (j, w)).mpr ⟨Nat.zero_le _, by simpa using hj⟩, ?_⟩))
    by_cases h2 : j + 1 = i
    · have h3 : i - 1 = j := by omega
      rcases hp w (by rw [h3]; exact hj) with h4 | h4
      · omega
      · simp [hji, h4]
    · simp [hji, h2]
/-- a store of two slots -/
theorem lw_set2 {ls : Array Slot} {nL : Nat} {lv : List (Option Value)} {i : Nat} {v : Value} (h : lv_has ls nL ((i, v) :: (lw_asc 0 lv).filter (fun q => !(q.1 == i) && (!(q.1 == i + 1) && !(q.1 + 1 == i && q.2.category == 2))))) (hp : ∀ w, lv[i - 1]? = some (some w) → i = 0 ∨ w.category = 1) : lw_has ls nL ((lv.set i (some v)).set (i + 1) none) := by
  refine ⟨h.1, h.2.1, fun j w hj => ?_⟩
  by_cases hj1 : j = i + 1
  · subst hj1
    have hl : i + 1 < (lv.set i (some v)).length := by
      have := (List.getElem?_eq_some_iff.mp hj).1
      simpa using this
    rw [List.getElem?_set_self hl] at hj
    cases hj
  rw [List.getElem?_set_ne (fun q => hj1 q.symm)] at hj
  by_cases hji : j = i
  · subst hji
    have hl : j < lv.length := by
      have := (List.getElem?_eq_some_iff.mp hj).1
      simpa using this
    rw [List.getElem?_set_self hl] at hj
    have e : v = w := by simpa using hj
    subst e
    exact h.2.2 (j, v) List.mem_cons_self
  · rw [List.getElem?_set_ne (fun q => hji q.symm)] at hj
    refine h.2.2 (j, w) (List.mem_cons_of_mem _ (List.mem_filter.mpr ⟨(lw_asc_mem lv 0 (j, w)).mpr ⟨Nat.zero_le _, by simpa using hj⟩, ?_⟩))
    by_cases h2 : j + 1 = i
    · have h3 : i - 1 = j := by omega
      rcases hp w (by rw [h3]; exact hj) with h4 | h4
      · omega
      · simp [hji, h4, hj1]
    · simp [hji, h2, hj1]
def FX (g : EG) (d : MD) (p : Program) (s : State) (m : MethodId) (args : Array Value) (meth : Method) (c : Code) : Prop :=
  p.tables.exec = Jvm.exec ∧ c.code = d.2.1 ∧ c.maxLocals = d.2.2.1 ∧ meth.sig.returnType = d.2.2.2.1 ∧ s.vm.findClass d.1.cls = some m.cls ∧ (∀ w ∈ wsD d, w.before args s = true) ∧ meth.locks = false ∧ va_K g.2.1 vwCl (tysG g) s ∧ nestOk s
/-- a method's end: its answer and its world, as Ph says -/
def QR (g : EG) (Ph : Option Value → va_W → Prop) (A : Nat → Prop) : Array Value → State → Outcome → State → Prop := fun _ st o t =>
  (∃ (v : Option Value) (ws' : va_W), o = .returned v ∧ Ph v ws' ∧ va_P g.2.1 vwCl ws' t.heap ∧ va_D A ws') ∧ va_F A st t
def Ev (g : EG) (d : MD) (pc : Nat) (lv : List (Option Value)) (st : List Value) (ws : va_W) (Ph : Option Value → va_W → Prop) : Prop :=
  ∀ (p : Program) (e : Env) (s : State) (m : MethodId) (args : Array Value) (below : List Frame) (meth : Method) (c : Code) (H : Heap) (locs : List Loc) (ls : Array Slot) (A : Nat → Prop),
    FX g d p s m args meth c → (∀ q, s.heap.size ≤ q → A q) → va_P g.2.1 vwCl ws H → va_D A ws → va_S A s.heap H locs → lw_has ls d.2.2.1 lv →
    W p g.1 e (rmR d.2.2.2.2) s m args below meth c H locs 0 0 (MQ below (QR g Ph A) args s 0 0 A) (F0 m pc ls st)
/-- the contract that comes of it -/
def Ret (g : EG) (d : MD) (av : List Value) (ws : va_W) (Ph : Option Value → va_W → Prop) : Prop :=
  ∀ sz : Nat, Met g.1 d.1 (wsD d) (rmR d.2.2.2.2) (va_Pc av (fun U => U.heap.size = sz ∧ va_P g.2.1 vwCl ws U.heap ∧ va_K g.2.1 vwCl (tysG g) U ∧ va_D (fun _ => True) ws ∧ nestOk U)) (QR g Ph (va_A ws sz)) 0 0 (va_A ws sz)
def lw_args : List Value → List (Option Value)
  | [] => []
  | v :: vs => if v.category = 2 then some v :: none :: lw_args vs else some v :: lw_args vs
theorem lw_args_at : ∀ (vs : List Value) (i0 i : Nat) (v : Value), (lw_args vs)[i]? = some (some v) → (i0 + i, v) ∈ lv_args i0 vs
  | [], i0, i, v, h => by simp [lw_args] at h
  | w :: vs, i0, i, v, h => by
    by_cases hc : w.category = 2
    · simp only [lw_args, hc, if_true] at h
      simp only [lv_args, hc, if_true]
      match i, h with
      | 0, h =>
        have e : w = v := by simpa using h
        subst e
        exact List.mem_cons_self
      | 1, h => simp at h
      | i + 2, h =>
        refine List.mem_cons_of_mem _ ?_
        have := lw_args_at vs (i0 + 2) i v (by simpa using h)
        rw [show i0 + (i + 2) = i0 + 2 + i by omega]
        exact this
    · simp only [lw_args, hc, if_false] at h
      simp only [lv_args, hc, if_false]
      match i, h with
      | 0, h =>
        have e : w = v := by simpa using h
        subst e
        exact List.mem_cons_self
      | i + 1, h =>
        refine List.mem_cons_of_mem _ ?_
        have := lw_args_at vs (i0 + 1) i v (by simpa using h)
        rw [show i0 + (i + 1) = i0 + 1 + i by omega]
        exact this
theorem lw_args_pad (vs : List Value) (n i : Nat) (v : Value) (h : (lw_args vs ++ List.replicate n none)[i]? = some (some v)) : (lw_args vs)[i]? = some (some v) := by
  by_cases hi : i < (lw_args vs).length
  · rwa [List.getElem?_append_left hi] at h
  · rw [List.getElem?_append_right (by omega)] at h
    have := List.eq_of_mem_replicate (List.mem_of_getElem? h)
    cases this
theorem Ret.of {g : EG} {d : MD} {av : List Value} {ws : va_W} {Ph : Option Value → va_W → Prop} (lv : List (Option Value)) (n : Nat) (hpl : plainName d.1.cls = true) (hlen : (lg_sl av).length ≤ d.2.2.1) (hlv : lw_args av ++ List.replicate n none = lv) (k : Ev g d 0 lv [] ws Ph) : Ret g d av ws Ph := by
  intro sz
  refine Met.ofW (cc := d.2.1) (maxL := d.2.2.1) (ret := d.2.2.2.1) hpl rfl ?_
  intro p e s m args below meth c s₁ B hml hv
  obtain ⟨rfl, hsz, hP, hK, hD0, hN⟩ := hv
  have hts := atoms_spec (ws := wsD d) B.pre
  subst hsz
  have hl := lv_entry av (n := d.2.2.1) hlen
  rw [lg_entry_eq]
  refine k p e s m _ below meth c s.heap [] _ (va_A ws s.heap.size) ⟨B.exec, B.bytes, hml, B.returns, findClass_of_methodNamed B.named, hts, B.notSynchronized, hK, hN⟩ (fun q h => Or.inr h) hP (hD0.self (sz := s.heap.size)) va_S.rf ⟨hl.1, hl.2.1, fun i v hi => ?_⟩
  rw [← hlv] at hi
  have h1 := lw_args_at av 0 i v (lw_args_pad av n i v hi)
  rw [Nat.zero_add] at h1
  exact hl.2.2 (i, v) h1
section EV
variable {g : EG} {d : MD} {pc pc' : Nat} {lv lv' : List (Option Value)} {st st' : List Value} {ws : va_W} {Ph : Option Value → va_W → Prop}
theorem Ev.mono {Ps : Option Value → va_W → Prop} (h : Ev g d pc lv st ws Ps) (hi : ∀ v w, Ps v w → Ph v w) : Ev g d pc lv st ws Ph := by
  intro p e s m args below meth c H locs ls A F hA hP hD hS hl T hT X
  obtain ⟨t, a, o, b1, b2, ⟨⟨v, w', q1, q2, q3⟩, q4⟩, b4⟩ := h p e s m args below meth c H locs ls A F hA hP hD hS hl T hT X
  exact ⟨t, a, o, b1, b2, ⟨⟨v, w', q1, hi v w' q2, q3⟩, q4⟩, b4⟩
/-- instructions that don't touch the heap -/
theorem Ev.go (k : Ev g d pc' lv' st' ws Ph) (h : ∀ (p : Program) (e : Env) (s : State) (m : MethodId) (args : Array Value) (below : List Frame) (meth : Method) (c : Code) (H : Heap) (locs : List Loc) (ls : Array Slot) (R : Room) (Q : State → Prop), p.tables.exec = Jvm.exec → c.code = d.2.1 → s.vm.findClass d.1.cls = some m.cls → (∀ w ∈ wsD d, w.before args s = true) → lw_has ls d.2.2.1 lv → (∀ ls', lw_has ls' d.2.2.1 lv' → W p g.1 e R s m args below meth c H locs 0 0 Q (F0 m pc' ls' st')) → W p g.1 e R s m args below meth c H locs 0 0 Q (F0 m pc ls st)) : Ev g d pc lv st ws Ph := by
  intro p e s m args below meth c H locs ls A F hA hP hD hS hl
  exact h p e s m args below meth c H locs ls _ _ F.1 F.2.1 F.2.2.2.2.1 F.2.2.2.2.2.1 hl (fun ls' hl' => k p e s m args below meth c H locs ls' A F hA hP hD hS hl')
theorem Ev.eq {pc2 : Nat} {lv2 : List (Option Value)} {st2 : List Value} {ws2 : va_W} (h1 : pc = pc2) (h2 : lv = lv2) (h3 : st = st2) (h4 : ws = ws2) (k : Ev g d pc2 lv2 st2 ws2 Ph) : Ev g d pc lv st ws Ph := by
  subst h1; subst h2; subst h3; subst h4; exact k
theorem ev_iconst {n : Int} {v : Int32} (hd : decode d.2.1 pc = .ok (.iconst n, 1)) (hp : pc + 1 = pc') (hv : Int32.ofInt n = v) (k : Ev g d pc' lv (.int v :: st) ws Ph) : Ev g d pc lv st ws Ph := by
  subst hp; exact Ev.go k fun p e s m args below meth c H locs ls R Q hx hb _ _ hl kk => lv_iconst hx hb hd hv (kk ls hl)
theorem ev_bipush {n : Int} {v : Int32} (hd : decode d.2.1 pc = .ok (.bipush n, 2)) (hp : pc + 2 = pc') (hv : (Int8.ofInt n).toInt32 = v) (k : Ev g d pc' lv (.int v :: st) ws Ph) : Ev g d pc lv st ws Ph := by
  subst hp; exact Ev.go k fun p e s m args below meth c H locs ls R Q hx hb _ _ hl kk => lv_bipush hx hb hd hv (kk ls hl)
theorem ev_sipush {n : Int} {v : Int32} (hd : decode d.2.1 pc = .ok (.sipush n, 3)) (hp : pc + 3 = pc') (hv : (Int16.ofInt n).toInt32 = v) (k : Ev g d pc' lv (.int v :: st) ws Ph) : Ev g d pc lv st ws Ph := by
  subst hp; exact Ev.go k fun p e s m args below meth c H locs ls R Q hx hb _ _ hl kk => lv_sipush hx hb hd hv (kk ls hl)
theorem ev_lconst {n : Fin 2} {v : Int64} (hd : decode d.2.1 pc = .ok (.lconst n, 1)) (hp : pc + 1 = pc') (hv : Int64.ofNat (n : Nat) = v) (k : Ev g d pc' lv (.long v :: st) ws Ph) : Ev g d pc lv st ws Ph := by
  subst hp; exact Ev.go k fun p e s m args below meth c H locs ls R Q hx hb _ _ hl kk => lv_lconst hx hb hd hv (kk ls hl)
theorem ev_ldc2 {index : Nat} {v : Int64} (hc : Cond.constantLong d.1.cls index v ∈ lw_good) (hd : decode d.2.1 pc = .ok (.ldc2_w index, 3)) (hp : pc + 3 = pc') (k : Ev g d pc' lv (.long v :: st) ws Ph) : Ev g d pc lv st ws Ph := by
  subst hp; exact Ev.go k fun p e s m args below meth c H locs ls R Q hx hb ho ht hl kk => lv_ldc2 hx hb ho (ht _ (List.mem_cons_of_mem _ hc)) hd (kk ls hl)
theorem ev_null (hd : decode d.2.1 pc = .ok (.aconst_null, 1)) (hp : pc + 1 = pc') (k : Ev g d pc' lv (va_rf none :: st) ws Ph) : Ev g d pc lv st ws Ph := by
  subst hp; exact Ev.go k fun p e s m args below meth c H locs ls R Q hx hb _ _ hl kk => lv_null hx hb hd (kk ls hl)
theorem ev_iload_n {i : Fin 4} {x : Int32} (hd : decode d.2.1 pc = .ok (.iload_n i, 1)) (hp : pc + 1 = pc') (hi : lv[(i : Nat)]? = some (some (.int x))) (k : Ev g d pc' lv (.int x :: st) ws Ph) : Ev g d pc lv st ws Ph := by
  subst hp; exact Ev.go k fun p e s m args below meth c H locs ls R Q hx hb _ _ hl kk => lv_iload_n hx hb hd rfl (hl.at hi) (kk ls hl)
theorem ev_iload {i : Nat} {x : Int32} (hd : decode d.2.1 pc = .ok (.iload i, 2)) (hp : pc + 2 = pc') (hi : lv[i]? = some (some (.int x))) (k : Ev g d pc' lv (.int x :: st) ws Ph) : Ev g d pc lv st ws Ph := by
  subst hp; exact Ev.go k fun p e s m args below meth c H locs ls R Q hx hb _ _ hl kk => lv_iload hx hb hd (hl.at hi) (kk ls hl)
theorem ev_lload_n {i : Fin 4} {x : Int64} (hd : decode d.2.1 pc = .ok (.lload_n i, 1)) (hp : pc + 1 = pc') (hi : lv[(i : Nat)]? = some (some (.long x))) (k : Ev g d pc' lv (.long x :: st) ws Ph) : Ev g d pc lv st ws Ph := by
  subst hp; exact Ev.go k fun p e s m args below meth c H locs ls R Q hx hb _ _ hl kk => lv_lload_n hx hb hd rfl (hl.at hi) (kk ls hl)
theorem ev_lload {i : Nat} {x : Int64} (hd : decode d.2.1 pc = .ok (.lload i, 2)) (hp : pc + 2 = pc') (hi : lv[i]? = some (some (.long x))) (k : Ev g d pc' lv (.long x :: st) ws Ph) : Ev g d pc lv st ws Ph := by
  subst hp; exact Ev.go k fun p e s m args below meth c H locs ls R Q hx hb _ _ hl kk => lv_lload hx hb hd (hl.at hi) (kk ls hl)
theorem ev_aload_n {i : Fin 4} {x : Nat} (hd : decode d.2.1 pc = .ok (.aload_n i, 1)) (hp : pc + 1 = pc') (hi : lv[(i : Nat)]? = some (some (.ref x))) (k : Ev g d pc' lv (.ref x :: st) ws Ph) : Ev g d pc lv st ws Ph := by
  subst hp; exact Ev.go k fun p e s m args below meth c H locs ls R Q hx hb _ _ hl kk => lv_aload_n hx hb hd rfl (hl.at hi) (kk ls hl)
theorem ev_aload {i : Nat} {x : Nat} (hd : decode d.2.1 pc = .ok (.aload i, 2)) (hp : pc + 2 = pc') (hi : lv[i]? = some (some (.ref x))) (k : Ev g d pc' lv (.ref x :: st) ws Ph) : Ev g d pc lv st ws Ph := by
  subst hp; exact Ev.go k fun p e s m args below meth c H locs ls R Q hx hb _ _ hl kk => lv_aload hx hb hd (hl.at hi) (kk ls hl)
theorem ev_aload_nq {i : Fin 4} {r : Option Nat} (hd : decode d.2.1 pc = .ok (.aload_n i, 1)) (hp : pc + 1 = pc') (hi : lv[(i : Nat)]? = some (some (va_rf r))) (k : Ev g d pc' lv (va_rf r :: st) ws Ph) : Ev g d pc lv st ws Ph := by
  subst hp
  cases r with
  | none => exact Ev.go k fun p e s m args below meth c H locs ls R Q hx hb _ _ hl kk => lv_aload_nN hx hb hd rfl (hl.at hi) (kk ls hl)
  | some x => exact Ev.go k fun p e s m args below meth c H locs ls R Q hx hb _ _ hl kk => lv_aload_n hx hb hd rfl (hl.at hi) (kk ls hl)
theorem ev_aloadq {i : Nat} {r : Option Nat} (hd : decode d.2.1 pc = .ok (.aload i, 2)) (hp : pc + 2 = pc') (hi : lv[i]? = some (some (va_rf r))) (k : Ev g d pc' lv (va_rf r :: st) ws Ph) : Ev g d pc lv st ws Ph := by
  subst hp
  cases r with
  | none => exact Ev.go k fun p e s m args below meth c H locs ls R Q hx hb _ _ hl kk => lv_aloadN hx hb hd (hl.at hi) (kk ls hl)
  | some x => exact Ev.go k fun p e s m args below meth c H locs ls R Q hx hb _ _ hl kk => lv_aload hx hb hd (hl.at hi) (kk ls hl)
theorem rf_cat (r : Option Nat) : (va_rf r).category = 1 := by cases r <;> rfl
/-- what stands just before place i isn't wide -/
def lw_pv (lv : List (Option Value)) (i : Nat) : Prop := ∀ w, lv[i - 1]? = some (some w) → i = 0 ∨ w.category = 1
theorem ev_istore_n {i : Fin 4} {x : Int32} (hd : decode d.2.1 pc = .ok (.istore_n i, 1)) (hp : pc + 1 = pc') (hn : (i : Nat) < d.2.2.1) (hv : lw_pv lv i) (hs : lv.set (i : Nat) (some (.int x)) = lv') (k : Ev g d pc' lv' st ws Ph) : Ev g d pc lv (.int x :: st) ws Ph := by
  subst hp; subst hs; exact Ev.go k fun p e s m args below meth c H locs ls R Q hx hb _ _ hl kk => lv_istore_n hx hb hd rfl hl.to hn rfl (fun ls' h => kk ls' (lw_set1 h hv))
theorem ev_istore {i : Nat} {x : Int32} (hd : decode d.2.1 pc = .ok (.istore i, 2)) (hp : pc + 2 = pc') (hn : i < d.2.2.1) (hv : lw_pv lv i) (hs : lv.set i (some (.int x)) = lv') (k : Ev g d pc' lv' st ws Ph) : Ev g d pc lv (.int x :: st) ws Ph := by
  subst hp; subst hs; exact Ev.go k fun p e s m args below meth c H locs ls R Q hx hb _ _ hl kk => lv_istore hx hb hd hl.to hn rfl (fun ls' h => kk ls' (lw_set1 h hv))
theorem ev_lstore_n {i : Fin 4} {x : Int64} (hd : decode d.2.1 pc = .ok (.lstore_n i, 1)) (hp : pc + 1 = pc') (hn : (i : Nat) + 1 < d.2.2.1) (hv : lw_pv lv i) (hs : (lv.set (i : Nat) (some (.long x))).set ((i : Nat) + 1) none = lv') (k : Ev g d pc' lv' st ws Ph) : Ev g d pc lv (.long x :: st) ws Ph := by
  subst hp; subst hs; exact Ev.go k fun p e s m args below meth c H locs ls R Q hx hb _ _ hl kk => lv_lstore_n hx hb hd rfl hl.to hn rfl (fun ls' h => kk ls' (lw_set2 h hv))
theorem ev_lstore {i : Nat} {x : Int64} (hd : decode d.2.1 pc = .ok (.lstore i, 2)) (hp : pc + 2 = pc') (hn : i + 1 < d.2.2.1) (hv : lw_pv lv i) (hs : (lv.set i (some (.long x))).set (i + 1) none = lv') (k : Ev g d pc' lv' st ws Ph) : Ev g d pc lv (.long x :: st) ws Ph := by
  subst hp; subst hs; exact Ev.go k fun p e s m args below meth c H locs ls R Q hx hb _ _ hl kk => lv_lstore hx hb hd hl.to hn rfl (fun ls' h => kk ls' (lw_set2 h hv))
theorem ev_astore_n {i : Fin 4} {x : Nat} (hd : decode d.2.1 pc = .ok (.astore_n i, 1)) (hp : pc + 1 = pc') (hn : (i : Nat) < d.2.2.1) (hv : lw_pv lv i) (hs : lv.set (i : Nat) (some (.ref x)) = lv') (k : Ev g d pc' lv' st ws Ph) : Ev g d pc lv (.ref x :: st) ws Ph := by
  subst hp; subst hs; exact Ev.go k fun p e s m args below meth c H locs ls R Q hx hb _ _ hl kk => lv_astore_n hx hb hd rfl hl.to hn rfl (fun ls' h => kk ls' (lw_set1 h hv))
theorem ev_astore {i : Nat} {x : Nat} (hd : decode d.2.1 pc = .ok (.astore i, 2)) (hp : pc + 2 = pc') (hn : i < d.2.2.1) (hv : lw_pv lv i) (hs : lv.set i (some (.ref x)) = lv') (k : Ev g d pc' lv' st ws Ph) : Ev g d pc lv (.ref x :: st) ws Ph := by
  subst hp; subst hs; exact Ev.go k fun p e s m args below meth c H locs ls R Q hx hb _ _ hl kk => lv_astore hx hb hd hl.to hn rfl (fun ls' h => kk ls' (lw_set1 h hv))
theorem ev_astore_nq {i : Fin 4} {r : Option Nat} (hd : decode d.2.1 pc = .ok (.astore_n i, 1)) (hp : pc + 1 = pc') (hn : (i : Nat) < d.2.2.1) (hv : lw_pv lv i) (hs : lv.set (i : Nat) (some (va_rf r)) = lv') (k : Ev g d pc' lv' st ws Ph) : Ev g d pc lv (va_rf r :: st) ws Ph := by
  subst hp; subst hs
  cases r with
  | none => exact Ev.go k fun p e s m args below meth c H locs ls R Q hx hb _ _ hl kk => lv_astore_nN hx hb hd rfl hl.to hn rfl (fun ls' h => kk ls' (lw_set1 h hv))
  | some x => exact Ev.go k fun p e s m args below meth c H locs ls R Q hx hb _ _ hl kk => lv_astore_n hx hb hd rfl hl.to hn rfl (fun ls' h => kk ls' (lw_set1 h hv))
theorem ev_astoreq {i : Nat} {r : Option Nat} (hd : decode d.2.1 pc = .ok (.astore i, 2)) (hp : pc + 2 = pc') (hn : i < d.2.2.1) (hv : lw_pv lv i) (hs : lv.set i (some (va_rf r)) = lv') (k : Ev g d pc' lv' st ws Ph) : Ev g d pc lv (va_rf r :: st) ws Ph := by
  subst hp; subst hs
  cases r with
  | none => exact Ev.go k fun p e s m args below meth c H locs ls R Q hx hb _ _ hl kk => lv_astoreN hx hb hd hl.to hn rfl (fun ls' h => kk ls' (lw_set1 h hv))
  | some x => exact Ev.go k fun p e s m args below meth c H locs ls R Q hx hb _ _ hl kk => lv_astore hx hb hd hl.to hn rfl (fun ls' h => kk ls' (lw_set1 h hv))
theorem ev_iinc {i : Nat} {n : Int} {x v : Int32} (hd : decode d.2.1 pc = .ok (.iinc i n, 3)) (hp : pc + 3 = pc') (hi : lv[i]? = some (some (.int x))) (hx : x + Int32.ofInt n = v) (hn : i < d.2.2.1) (hv : lw_pv lv i) (hs : lv.set i (some (.int v)) = lv') (k : Ev g d pc' lv' st ws Ph) : Ev g d pc lv st ws Ph := by
  subst hp; subst hs
  refine Ev.go k fun p e s m args below meth c H locs ls R Q hx' hb _ _ hl kk => ?_
  obtain ⟨q, hq⟩ := List.getElem?_of_mem ((lw_asc_mem lv 0 (i, Value.int x)).mpr ⟨Nat.zero_le _, by simpa using hi⟩)
  exact lv_iinc hx' hb hd hl.to hq hx hn rfl (fun ls' h => kk ls' (lw_set1 h hv))
theorem ev_iadd {x y : Int32} (hd : decode d.2.1 pc = .ok (.iadd, 1)) (hp : pc + 1 = pc') (k : Ev g d pc' lv (.int (x + y) :: st) ws Ph) : Ev g d pc lv (.int y :: .int x :: st) ws Ph := by
  subst hp; exact Ev.go k fun p e s m args below meth c H locs ls R Q hx hb _ _ hl kk => lv_iadd hx hb hd (kk ls hl)
theorem ev_isub {x y : Int32} (hd : decode d.2.1 pc = .ok (.isub, 1)) (hp : pc + 1 = pc') (k : Ev g d pc' lv (.int (x - y) :: st) ws Ph) : Ev g d pc lv (.int y :: .int x :: st) ws Ph := by
  subst hp; exact Ev.go k fun p e s m args below meth c H locs ls R Q hx hb _ _ hl kk => lv_isub hx hb hd (kk ls hl)
theorem ev_imul {x y : Int32} (hd : decode d.2.1 pc = .ok (.imul, 1)) (hp : pc + 1 = pc') (k : Ev g d pc' lv (.int (x * y) :: st) ws Ph) : Ev g d pc lv (.int y :: .int x :: st) ws Ph := by
  subst hp; exact Ev.go k fun p e s m args below meth c H locs ls R Q hx hb _ _ hl kk => lv_imul hx hb hd (kk ls hl)
theorem ev_ladd {x y : Int64} (hd : decode d.2.1 pc = .ok (.ladd, 1)) (hp : pc + 1 = pc') (k : Ev g d pc' lv (.long (x + y) :: st) ws Ph) : Ev g d pc lv (.long y :: .long x :: st) ws Ph := by
  subst hp; exact Ev.go k fun p e s m args below meth c H locs ls R Q hx hb _ _ hl kk => lv_ladd hx hb hd (kk ls hl)
theorem ev_lmul {x y : Int64} (hd : decode d.2.1 pc = .ok (.lmul, 1)) (hp : pc + 1 = pc') (k : Ev g d pc' lv (.long (x * y) :: st) ws Ph) : Ev g d pc lv (.long y :: .long x :: st) ws Ph := by
  subst hp; exact Ev.go k fun p e s m args below meth c H locs ls R Q hx hb _ _ hl kk => lv_lmul hx hb hd (kk ls hl)
theorem ev_i2l {x : Int32} (hd : decode d.2.1 pc = .ok (.i2l, 1)) (hp : pc + 1 = pc') (k : Ev g d pc' lv (.long x.toInt64 :: st) ws Ph) : Ev g d pc lv (.int x :: st) ws Ph := by
  subst hp; exact Ev.go k fun p e s m args below meth c H locs ls R Q hx hb _ _ hl kk => lv_i2l hx hb hd rfl (kk ls hl)
theorem ev_i2c {x v : Int32} (hd : decode d.2.1 pc = .ok (.i2c, 1)) (hp : pc + 1 = pc') (hv : (x.toUInt32 % 65536).toInt32 = v) (k : Ev g d pc' lv (.int v :: st) ws Ph) : Ev g d pc lv (.int x :: st) ws Ph := by
  subst hp; exact Ev.go k fun p e s m args below meth c H locs ls R Q hx hb _ _ hl kk => lv_i2c hx hb hd hv (kk ls hl)
theorem ev_dup {v : Value} (hd : decode d.2.1 pc = .ok (.dup, 1)) (hp : pc + 1 = pc') (hc : v.category = 1) (k : Ev g d pc' lv (v :: v :: st) ws Ph) : Ev g d pc lv (v :: st) ws Ph := by
  subst hp; exact Ev.go k fun p e s m args below meth c H locs ls R Q hx hb _ _ hl kk => lv_dup hx hb hd hc (kk ls hl)
theorem ev_goto {off : Int} (hd : decode d.2.1 pc = .ok (.goto off, 3)) (hp : (pc : Int) + off = (pc' : Int)) (k : Ev g d pc' lv st ws Ph) : Ev g d pc lv st ws Ph :=
  Ev.go k fun p e s m args below meth c H locs ls R Q hx hb _ _ hl kk => lv_goto hx hb hd hp (kk ls hl)
end EV
end
section
section EV2
variable {g : EG} {d : MD} {pc pc' tgt : Nat} {lv lv' : List (Option Value)} {st st' : List Value} {ws ws' : va_W} {Ph : Option Value → va_W → Prop}
theorem ev_if_eq {x : Int32} {off : Int} (hd : decode d.2.1 pc = .ok (.ifCond .eq off, 3)) (ht : (pc : Int) + off = (tgt : Int)) (hp : pc + 3 = pc') (kt : x = 0 → Ev g d tgt lv st ws Ph) (kf : ¬ x = 0 → Ev g d pc' lv st ws Ph) : Ev g d pc lv (.int x :: st) ws Ph := by
  subst hp; intro p e s m args below meth c H locs ls A F hA hP hD hS hl
  exact lv_if_eq F.1 F.2.1 hd ht (fun q => kt q p e s m args below meth c H locs ls A F hA hP hD hS hl) (fun q => kf q p e s m args below meth c H locs ls A F hA hP hD hS hl)
theorem ev_icmp_eq {x y : Int32} {off : Int} (hd : decode d.2.1 pc = .ok (.if_icmp .eq off, 3)) (ht : (pc : Int) + off = (tgt : Int)) (hp : pc + 3 = pc') (kt : x = y → Ev g d tgt lv st ws Ph) (kf : ¬ x = y → Ev g d pc' lv st ws Ph) : Ev g d pc lv (.int y :: .int x :: st) ws Ph := by
  subst hp; intro p e s m args below meth c H locs ls A F hA hP hD hS hl
  exact lv_icmp_eq F.1 F.2.1 hd ht (fun q => kt q p e s m args below meth c H locs ls A F hA hP hD hS hl) (fun q => kf q p e s m args below meth c H locs ls A F hA hP hD hS hl)
theorem ev_if_ne {x : Int32} {off : Int} (hd : decode d.2.1 pc = .ok (.ifCond .ne off, 3)) (ht : (pc : Int) + off = (tgt : Int)) (hp : pc + 3 = pc') (kt : ¬ x = 0 → Ev g d tgt lv st ws Ph) (kf : x = 0 → Ev g d pc' lv st ws Ph) : Ev g d pc lv (.int x :: st) ws Ph := by
  subst hp; intro p e s m args below meth c H locs ls A F hA hP hD hS hl
  exact lv_if_ne F.1 F.2.1 hd ht (fun q => kt q p e s m args below meth c H locs ls A F hA hP hD hS hl) (fun q => kf q p e s m args below meth c H locs ls A F hA hP hD hS hl)
theorem ev_icmp_ne {x y : Int32} {off : Int} (hd : decode d.2.1 pc = .ok (.if_icmp .ne off, 3)) (ht : (pc : Int) + off = (tgt : Int)) (hp : pc + 3 = pc') (kt : ¬ x = y → Ev g d tgt lv st ws Ph) (kf : x = y → Ev g d pc' lv st ws Ph) : Ev g d pc lv (.int y :: .int x :: st) ws Ph := by
  subst hp; intro p e s m args below meth c H locs ls A F hA hP hD hS hl
  exact lv_icmp_ne F.1 F.2.1 hd ht (fun q => kt q p e s m args below meth c H locs ls A F hA hP hD hS hl) (fun q => kf q p e s m args below meth c H locs ls A F hA hP hD hS hl)
theorem ev_if_lt {x : Int32} {off : Int} (hd : decode d.2.1 pc = .ok (.ifCond .lt off, 3)) (ht : (pc : Int) + off = (tgt : Int)) (hp : pc + 3 = pc') (kt : x < 0 → Ev g d tgt lv st ws Ph) (kf : ¬ x < 0 → Ev g d pc' lv st ws Ph) : Ev g d pc lv (.int x :: st) ws Ph := by
  subst hp; intro p e s m args below meth c H locs ls A F hA hP hD hS hl
  exact lv_if_lt F.1 F.2.1 hd ht (fun q => kt q p e s m args below meth c H locs ls A F hA hP hD hS hl) (fun q => kf q p e s m args below meth c H locs ls A F hA hP hD hS hl)
theorem ev_icmp_lt {x y : Int32} {off : Int} (hd : decode d.2.1 pc = .ok (.if_icmp .lt off, 3)) (ht : (pc : Int) + off = (tgt : Int)) (hp : pc + 3 = pc') (kt : x < y → Ev g d tgt lv st ws Ph) (kf : ¬ x < y → Ev g d pc' lv st ws Ph) : Ev g d pc lv (.int y :: .int x :: st) ws Ph := by
  subst hp; intro p e s m args below meth c H locs ls A F hA hP hD hS hl
  exact lv_icmp_lt F.1 F.2.1 hd ht (fun q => kt q p e s m args below meth c H locs ls A F hA hP hD hS hl) (fun q => kf q p e s m args below meth c H locs ls A F hA hP hD hS hl)
theorem ev_if_ge {x : Int32} {off : Int} (hd : decode d.2.1 pc = .ok (.ifCond .ge off, 3)) (ht : (pc : Int) + off = (tgt : Int)) (hp : pc + 3 = pc') (kt : 0 ≤ x → Ev g d tgt lv st ws Ph) (kf : ¬ 0 ≤ x → Ev g d pc' lv st ws Ph) : Ev g d pc lv (.int x :: st) ws Ph := by
  subst hp; intro p e s m args below meth c H locs ls A F hA hP hD hS hl
  exact lv_if_ge F.1 F.2.1 hd ht (fun q => kt q p e s m args below meth c H locs ls A F hA hP hD hS hl) (fun q => kf q p e s m args below meth c H locs ls A F hA hP hD hS hl)
theorem ev_icmp_ge {x y : Int32} {off : Int} (hd : decode d.2.1 pc = .ok (.if_icmp .ge off, 3)) (ht : (pc : Int) + off = (tgt : Int)) (hp : pc + 3 = pc') (kt : y ≤ x → Ev g d tgt lv st ws Ph) (kf : ¬ y ≤ x → Ev g d pc' lv st ws Ph) : Ev g d pc lv (.int y :: .int x :: st) ws Ph := by
  subst hp; intro p e s m args below meth c H locs ls A F hA hP hD hS hl
  exact lv_icmp_ge F.1 F.2.1 hd ht (fun q => kt q p e s m args below meth c H locs ls A F hA hP hD hS hl) (fun q => kf q p e s m args below meth c H locs ls A F hA hP hD hS hl)
theorem ev_if_gt {x : Int32} {off : Int} (hd : decode d.2.1 pc = .ok (.ifCond .gt off, 3)) (ht : (pc : Int) + off = (tgt : Int)) (hp : pc + 3 = pc') (kt : 0 < x → Ev g d tgt lv st ws Ph) (kf : ¬ 0 < x → Ev g d pc' lv st ws Ph) : Ev g d pc lv (.int x :: st) ws Ph := by
  subst hp; intro p e s m args below meth c H locs ls A F hA hP hD hS hl
  exact lv_if_gt F.1 F.2.1 hd ht (fun q => kt q p e s m args below meth c H locs ls A F hA hP hD hS hl) (fun q => kf q p e s m args below meth c H locs ls A F hA hP hD hS hl)
theorem ev_icmp_gt {x y : Int32} {off : Int} (hd : decode d.2.1 pc = .ok (.if_icmp .gt off, 3)) (ht : (pc : Int) + off = (tgt : Int)) (hp : pc + 3 = pc') (kt : y < x → Ev g d tgt lv st ws Ph) (kf : ¬ y < x → Ev g d pc' lv st ws Ph) : Ev g d pc lv (.int y :: .int x :: st) ws Ph := by
  subst hp; intro p e s m args below meth c H locs ls A F hA hP hD hS hl
  exact lv_icmp_gt F.1 F.2.1 hd ht (fun q => kt q p e s m args below meth c H locs ls A F hA hP hD hS hl) (fun q => kf q p e s m args below meth c H locs ls A F hA hP hD hS hl)
theorem ev_if_le {x : Int32} {off : Int} (hd : decode d.2.1 pc = .ok (.ifCond .le off, 3)) (ht : (pc : Int) + off = (tgt : Int)) (hp : pc + 3 = pc') (kt : x ≤ 0 → Ev g d tgt lv st ws Ph) (kf : ¬ x ≤ 0 → Ev g d pc' lv st ws Ph) : Ev g d pc lv (.int x :: st) ws Ph := by
  subst hp; intro p e s m args below meth c H locs ls A F hA hP hD hS hl
  exact lv_if_le F.1 F.2.1 hd ht (fun q => kt q p e s m args below meth c H locs ls A F hA hP hD hS hl) (fun q => kf q p e s m args below meth c H locs ls A F hA hP hD hS hl)
theorem ev_icmp_le {x y : Int32} {off : Int} (hd : decode d.2.1 pc = .ok (.if_icmp .le off, 3)) (ht : (pc : Int) + off = (tgt : Int)) (hp : pc + 3 = pc') (kt : x ≤ y → Ev g d tgt lv st ws Ph) (kf : ¬ x ≤ y → Ev g d pc' lv st ws Ph) : Ev g d pc lv (.int y :: .int x :: st) ws Ph := by
  subst hp; intro p e s m args below meth c H locs ls A F hA hP hD hS hl
  exact lv_icmp_le F.1 F.2.1 hd ht (fun q => kt q p e s m args below meth c H locs ls A F hA hP hD hS hl) (fun q => kf q p e s m args below meth c H locs ls A F hA hP hD hS hl)
theorem ev_acmp_eq {rx ry : Option Nat} {off : Int} (hd : decode d.2.1 pc = .ok (.if_acmp .eq off, 3)) (ht : (pc : Int) + off = (tgt : Int)) (hp : pc + 3 = pc') (kt : rx = ry → Ev g d tgt lv st ws Ph) (kf : ¬ rx = ry → Ev g d pc' lv st ws Ph) : Ev g d pc lv (va_rf ry :: va_rf rx :: st) ws Ph := by
  subst hp; intro p e s m args below meth c H locs ls A F hA hP hD hS hl
  exact lv_acmp_eq F.1 F.2.1 hd ht (fun q => kt q p e s m args below meth c H locs ls A F hA hP hD hS hl) (fun q => kf q p e s m args below meth c H locs ls A F hA hP hD hS hl)
theorem ev_acmp_ne {rx ry : Option Nat} {off : Int} (hd : decode d.2.1 pc = .ok (.if_acmp .ne off, 3)) (ht : (pc : Int) + off = (tgt : Int)) (hp : pc + 3 = pc') (kt : ¬ rx = ry → Ev g d tgt lv st ws Ph) (kf : rx = ry → Ev g d pc' lv st ws Ph) : Ev g d pc lv (va_rf ry :: va_rf rx :: st) ws Ph := by
  subst hp; intro p e s m args below meth c H locs ls A F hA hP hD hS hl
  exact lv_acmp_ne F.1 F.2.1 hd ht (fun q => kt q p e s m args below meth c H locs ls A F hA hP hD hS hl) (fun q => kf q p e s m args below meth c H locs ls A F hA hP hD hS hl)
theorem ev_ifnull {r : Option Nat} {off : Int} (hd : decode d.2.1 pc = .ok (.ifnull off, 3)) (ht : (pc : Int) + off = (tgt : Int)) (hp : pc + 3 = pc') (kt : r = none → Ev g d tgt lv st ws Ph) (kf : ∀ a, r = some a → Ev g d pc' lv st ws Ph) : Ev g d pc lv (va_rf r :: st) ws Ph := by
  subst hp; intro p e s m args below meth c H locs ls A F hA hP hD hS hl
  cases r with
  | none => exact lv_ifnullN F.1 F.2.1 hd ht (kt rfl p e s m args below meth c H locs ls A F hA hP hD hS hl)
  | some a => exact lv_ifnull F.1 F.2.1 hd (kf a rfl p e s m args below meth c H locs ls A F hA hP hD hS hl)
theorem ev_ifnonnull {r : Option Nat} {off : Int} (hd : decode d.2.1 pc = .ok (.ifnonnull off, 3)) (ht : (pc : Int) + off = (tgt : Int)) (hp : pc + 3 = pc') (kt : ∀ a, r = some a → Ev g d tgt lv st ws Ph) (kf : r = none → Ev g d pc' lv st ws Ph) : Ev g d pc lv (va_rf r :: st) ws Ph := by
  subst hp; intro p e s m args below meth c H locs ls A F hA hP hD hS hl
  cases r with
  | none => exact lv_ifnonnullN F.1 F.2.1 hd (kf rfl p e s m args below meth c H locs ls A F hA hP hD hS hl)
  | some a => exact lv_ifnonnull F.1 F.2.1 hd ht (kt a rfl p e s m args below meth c H locs ls A F hA hP hD hS hl)
theorem ev_iret {x : Int32} (hr : d.2.2.2.1 = some .int) (hd : decode d.2.1 pc = .ok (.ireturn, 1)) (h : Ph (some (.int x)) ws) : Ev g d pc lv [.int x] ws Ph := by
  intro p e s m args below meth c H locs ls A F hA hP hD hS hl
  exact W.iret F.1 F.2.1 (F.2.2.2.1.trans hr) (fun t ht hW => ⟨⟨_, ws, rfl, h, by rw [ht]; exact hP, hD⟩, hS.F ht⟩) hS.2.2 hd F.2.2.2.2.2.2.1
theorem ev_zret {x : Int32} (hr : d.2.2.2.1 = some .boolean) (hz : x = 0 ∨ x = 1) (hd : decode d.2.1 pc = .ok (.ireturn, 1)) (h : Ph (some (.int x)) ws) : Ev g d pc lv [.int x] ws Ph := by
  intro p e s m args below meth c H locs ls A F hA hP hD hS hl
  exact W.zret F.1 F.2.1 (F.2.2.2.1.trans hr) (by rcases hz with rfl | rfl <;> rfl) (fun t ht hW => ⟨⟨_, ws, rfl, h, by rw [ht]; exact hP, hD⟩, hS.F ht⟩) hS.2.2 hd F.2.2.2.2.2.2.1
theorem ev_lret {x : Int64} (hr : d.2.2.2.1 = some .long) (hd : decode d.2.1 pc = .ok (.lreturn, 1)) (h : Ph (some (.long x)) ws) : Ev g d pc lv [.long x] ws Ph := by
  intro p e s m args below meth c H locs ls A F hA hP hD hS hl
  exact W.lret F.1 F.2.1 (F.2.2.2.1.trans hr) (fun t ht hW => ⟨⟨_, ws, rfl, h, by rw [ht]; exact hP, hD⟩, hS.F ht⟩) hS.2.2 hd F.2.2.2.2.2.2.1
theorem ev_vret (hr : d.2.2.2.1 = none) (hd : decode d.2.1 pc = .ok (.return_, 1)) (h : Ph none ws) : Ev g d pc lv [] ws Ph := by
  intro p e s m args below meth c H locs ls A F hA hP hD hS hl
  exact W.vret F.1 F.2.1 (F.2.2.2.1.trans hr) (fun t ht hW => ⟨⟨_, ws, rfl, h, by rw [ht]; exact hP, hD⟩, hS.F ht⟩) hS.2.2 hd F.2.2.2.2.2.2.1
theorem ev_aret {r : Option Nat} {nm : String} (hr : d.2.2.2.1 = some (.object nm)) (hd : decode d.2.1 pc = .ok (.areturn, 1)) (h : Ph (some (va_rf r)) ws) : Ev g d pc lv [va_rf r] ws Ph := by
  intro p e s m args below meth c H locs ls A F hA hP hD hS hl
  exact W.aret F.1 F.2.1 (F.2.2.2.1.trans hr) (Or.inl ⟨nm, rfl⟩) (va_rf_or r) (fun t ht hW => ⟨⟨_, ws, rfl, h, by rw [ht]; exact hP, hD⟩, hS.F ht⟩) hS.2.2 hd F.2.2.2.2.2.2.1
theorem lw_in {w : Cond} (h : w ∈ lw_tbl) (hg : goodWord w = true) : w ∈ lw_good := List.mem_filter.mpr ⟨h, hg⟩
theorem lay_good (C : String) (T : u_T) (k : Nat) : goodWord (u_lay C T k) = true := by
  unfold u_lay; split <;> rfl
theorem lays_in {C : String} {T : u_T} {N : Nat} (h : ∀ w ∈ u_ws C T N, w ∈ lw_tbl) : ∀ w ∈ u_ws C T N, w ∈ wsD d := by
  intro w hw
  refine List.mem_cons_of_mem _ (lw_in (h w hw) ?_)
  obtain ⟨k, -, rfl⟩ := List.mem_map.mp hw
  exact lay_good C T k
/-- a field of one's own object -/
theorem ev_get {C : String} {T : u_T} {N ci index a : Nat} {fs : List Value} {v : Value} (hin : ∀ w ∈ u_ws C T N, w ∈ lw_tbl) (q0 k : Nat) (he : ws[q0]? = some (a, .inr (ci, fs))) (hc : vwCl[ci]? = some (C, T, N)) (hk : k < N) (hlink : Cond.fieldLink d.1.cls index (T k).1 (T k).2.1 (T k).2.2.1 ∈ lw_good) (hv : fs[k]? = some v) (hd : decode d.2.1 pc = .ok (.getfield index, 3)) (hp : pc + 3 = pc') (kk : Ev g d pc' lv (v :: st) ws Ph) : Ev g d pc lv (.ref a :: st) ws Ph := by
  subst hp; intro p e s m args below meth c H locs ls A F hA hP hD hS hl
  exact va_get F.1 F.2.1 F.2.2.2.2.2.1 (lays_in hin) F.2.2.2.2.1 F.2.2.2.2.2.2.2.1 hP q0 he hc k hk (F.2.2.2.2.2.1 _ (List.mem_cons_of_mem _ hlink)) (fun _ h => h) hv hd (kk p e s m args below meth c H locs ls A F hA hP hD hS hl)
/-- a field of a nest mate's object -/
theorem ev_getN {C : String} {T : u_T} {N ci index a : Nat} {fs : List Value} {v : Value} (hin : ∀ w ∈ u_ws C T N, w ∈ lw_tbl) (q0 k : Nat) (he : ws[q0]? = some (a, .inr (ci, fs))) (hc : vwCl[ci]? = some (C, T, N)) (hk : k < N) (hlink : Cond.fieldLinkNest d.1.cls index (T k).1 (T k).2.1 (T k).2.2.1 "EditTree" ∈ nestF) (hv : fs[k]? = some v) (hd : decode d.2.1 pc = .ok (.getfield index, 3)) (hp : pc + 3 = pc') (kk : Ev g d pc' lv (v :: st) ws Ph) : Ev g d pc lv (.ref a :: st) ws Ph := by
  subst hp; intro p e s m args below meth c H locs ls A F hA hP hD hS hl
  exact va_getN F.1 F.2.1 F.2.2.2.2.2.1 (lays_in hin) F.2.2.2.2.1 F.2.2.2.2.2.2.2.1 hP q0 he hc k hk (va_Nw.use rfl (F.2.2.2.2.2.2.2.2 _ hlink)) (fun _ h => h) hv hd (kk p e s m args below meth c H locs ls A F hA hP hD hS hl)
theorem ev_put {C : String} {T : u_T} {ty0 : Nat → FieldType} {N ci index a : Nat} {fs : List Value} {v : Value} (hin : ∀ w ∈ u_ws C T N, w ∈ lw_tbl) (hty : ∀ k, k < N → parseFieldDescriptor (T k).2.2.1 = some (ty0 k)) (hnm : ∀ a, a < N → ∀ b, b < N → a ≠ b → (T a).2.1 ≠ (T b).2.1) (q0 k : Nat) (he : ws[q0]? = some (a, .inr (ci, fs))) (hc : vwCl[ci]? = some (C, T, N)) (hk : k < N) (hlink : Cond.fieldLink d.1.cls index (T k).1 (T k).2.1 (T k).2.2.1 ∈ lw_good) (hfin : (T k).2.2.2 = false) (hn : narrow (ty0 k) v = v) (hfit : fits (ty0 k) v = true) (hl' : k < fs.length) (hd : decode d.2.1 pc = .ok (.putfield index, 3)) (hp : pc + 3 = pc') (hw : ws.set q0 (a, .inr (ci, fs.set k v)) = ws') (kk : Ev g d pc' lv st ws' Ph) : Ev g d pc lv (v :: .ref a :: st) ws Ph := by
  subst hp; subst hw; intro p e s m args below meth c H locs ls A F hA hP hD hS hl
  exact va_put F.1 F.2.1 F.2.2.2.2.2.1 (lays_in hin) ty0 hty hnm F.2.2.2.2.1 F.2.2.2.2.2.2.2.1 hP hD hS q0 he hc k hk (F.2.2.2.2.2.1 _ (List.mem_cons_of_mem _ hlink)) (fun _ h => h) hfin (hty k hk) hn hfit hl' hd (fun H1 locs1 hP1 hD1 hS1 => kk p e s m args below meth c H1 locs1 ls A F hA hP1 hD1 hS1 hl)
theorem ev_putN {C : String} {T : u_T} {ty0 : Nat → FieldType} {N ci index a : Nat} {fs : List Value} {v : Value} (hin : ∀ w ∈ u_ws C T N, w ∈ lw_tbl) (hty : ∀ k, k < N → parseFieldDescriptor (T k).2.2.1 = some (ty0 k)) (hnm : ∀ a, a < N → ∀ b, b < N → a ≠ b → (T a).2.1 ≠ (T b).2.1) (q0 k : Nat) (he : ws[q0]? = some (a, .inr (ci, fs))) (hc : vwCl[ci]? = some (C, T, N)) (hk : k < N) (hlink : Cond.fieldLinkNest d.1.cls index (T k).1 (T k).2.1 (T k).2.2.1 "EditTree" ∈ nestF) (hfin : (T k).2.2.2 = false) (hn : narrow (ty0 k) v = v) (hfit : fits (ty0 k) v = true) (hl' : k < fs.length) (hd : decode d.2.1 pc = .ok (.putfield index, 3)) (hp : pc + 3 = pc') (kk : (∃ A, va_D A ws) → Ev g d pc' lv st (ws.set q0 (a, .inr (ci, fs.set k v))) Ph) : Ev g d pc lv (v :: .ref a :: st) ws Ph := by
  subst hp; intro p e s m args below meth c H locs ls A F hA hP hD hS hl
  exact va_putN F.1 F.2.1 F.2.2.2.2.2.1 (lays_in hin) ty0 hty hnm F.2.2.2.2.1 F.2.2.2.2.2.2.2.1 hP hD hS q0 he hc k hk (va_Nw.use rfl (F.2.2.2.2.2.2.2.2 _ hlink)) (fun _ h => h) hfin (hty k hk) hn hfit hl' hd (fun H1 locs1 hP1 hD1 hS1 => kk ⟨A, hD⟩ p e s m args below meth c H1 locs1 ls A F hA hP1 hD1 hS1 hl)
/-- the cells of the world are apart -/
theorem ev_apart (kk : (∃ A, va_D A ws) → Ev g d pc lv st ws Ph) : Ev g d pc lv st ws Ph := by
  intro p e s m args below meth c H locs ls A F hA hP hD hS hl
  exact kk ⟨A, hD⟩ p e s m args below meth c H locs ls A F hA hP hD hS hl
theorem ev_iald {a n : Nat} {f : Nat → Int32} {i : Int32} (q0 : Nat) (ha : ws[q0]? = some (a, .inl (g.2.2.2.1, n, .inl f))) (hin : vp_in i n) (hd : decode d.2.1 pc = .ok (.iaload, 1)) (hp : pc + 1 = pc') (kk : Ev g d pc' lv (.int (f i.toNatClampNeg) :: st) ws Ph) : Ev g d pc lv (.int i :: .ref a :: st) ws Ph := by
  subst hp; intro p e s m args below meth c H locs ls A F hA hP hD hS hl
  exact va_iald F.1 F.2.1 F.2.2.2.2.2.2.2.1 hP q0 1 ha rfl hin hd (kk p e s m args below meth c H locs ls A F hA hP hD hS hl)
theorem ev_zald {a n : Nat} {f : Nat → Int32} {i : Int32} (q0 : Nat) (ha : ws[q0]? = some (a, .inl (g.2.2.2.2.1, n, .inl f))) (hin : vp_in i n) (hd : decode d.2.1 pc = .ok (.baload, 1)) (hp : pc + 1 = pc') (kk : Ev g d pc' lv (.int (f i.toNatClampNeg) :: st) ws Ph) : Ev g d pc lv (.int i :: .ref a :: st) ws Ph := by
  subst hp; intro p e s m args below meth c H locs ls A F hA hP hD hS hl
  exact va_zald F.1 F.2.1 F.2.2.2.2.2.2.2.1 hP q0 2 ha rfl hin hd (kk p e s m args below meth c H locs ls A F hA hP hD hS hl)
theorem ev_cald {a n : Nat} {f : Nat → Int32} {i : Int32} (q0 : Nat) (ha : ws[q0]? = some (a, .inl (g.2.2.1, n, .inl f))) (hin : vp_in i n) (hd : decode d.2.1 pc = .ok (.caload, 1)) (hp : pc + 1 = pc') (kk : Ev g d pc' lv (.int (f i.toNatClampNeg) :: st) ws Ph) : Ev g d pc lv (.int i :: .ref a :: st) ws Ph := by
  subst hp; intro p e s m args below meth c H locs ls A F hA hP hD hS hl
  exact va_cald F.1 F.2.1 F.2.2.2.2.2.2.2.1 hP q0 0 ha rfl hin hd (kk p e s m args below meth c H locs ls A F hA hP hD hS hl)
theorem ev_aald {a n : Nat} {f : Nat → Option Nat} {i : Int32} (q0 : Nat) (ha : ws[q0]? = some (a, .inl (g.2.2.2.2.2, n, .inr (.inr (.inr (.inr f)))))) (hin : vp_in i n) (hd : decode d.2.1 pc = .ok (.aaload, 1)) (hp : pc + 1 = pc') (kk : Ev g d pc' lv (va_rf (f i.toNatClampNeg) :: st) ws Ph) : Ev g d pc lv (.int i :: .ref a :: st) ws Ph := by
  subst hp; intro p e s m args below meth c H locs ls A F hA hP hD hS hl
  exact va_aldq F.1 F.2.1 F.2.2.2.2.2.2.2.1 hP q0 3 ha rfl hin hd (kk p e s m args below meth c H locs ls A F hA hP hD hS hl)
theorem ev_iast {a n : Nat} {f : Nat → Int32} {i x : Int32} (q0 : Nat) (ha : ws[q0]? = some (a, .inl (g.2.2.2.1, n, .inl f))) (hin : vp_in i n) (hd : decode d.2.1 pc = .ok (.iastore, 1)) (hp : pc + 1 = pc') (hw : ws.set q0 (a, .inl (g.2.2.2.1, n, .inl (upd f i.toNatClampNeg x))) = ws') (kk : Ev g d pc' lv st ws' Ph) : Ev g d pc lv (.int x :: .int i :: .ref a :: st) ws Ph := by
  subst hp; subst hw; intro p e s m args below meth c H locs ls A F hA hP hD hS hl
  exact va_iast F.1 F.2.1 F.2.2.2.2.2.2.2.1 hP hD hS q0 1 ha rfl hin hd (fun H1 locs1 hP1 hD1 hS1 => kk p e s m args below meth c H1 locs1 ls A F hA hP1 hD1 hS1 hl)
theorem ev_zast {a n : Nat} {f : Nat → Int32} {i x : Int32} (q0 : Nat) (ha : ws[q0]? = some (a, .inl (g.2.2.2.2.1, n, .inl f))) (hin : vp_in i n) (hz : x = 0 ∨ x = 1) (hd : decode d.2.1 pc = .ok (.bastore, 1)) (hp : pc + 1 = pc') (hw : ws.set q0 (a, .inl (g.2.2.2.2.1, n, .inl (upd f i.toNatClampNeg x))) = ws') (kk : Ev g d pc' lv st ws' Ph) : Ev g d pc lv (.int x :: .int i :: .ref a :: st) ws Ph := by
  subst hp; subst hw; intro p e s m args below meth c H locs ls A F hA hP hD hS hl
  have hx : vp_nar .boolean x = x := by rcases hz with rfl | rfl <;> rfl
  exact va_zast F.1 F.2.1 F.2.2.2.2.2.2.2.1 hP hD hS q0 2 ha rfl hin hd (fun H1 locs1 hP1 hD1 hS1 => by rw [hx] at hP1 hD1; exact kk p e s m args below meth c H1 locs1 ls A F hA hP1 hD1 hS1 hl)
theorem ev_cast {a n : Nat} {f : Nat → Int32} {i x : Int32} (q0 : Nat) (ha : ws[q0]? = some (a, .inl (g.2.2.1, n, .inl f))) (hin : vp_in i n) (hx : vp_nar .char x = x) (hd : decode d.2.1 pc = .ok (.castore, 1)) (hp : pc + 1 = pc') (hw : ws.set q0 (a, .inl (g.2.2.1, n, .inl (upd f i.toNatClampNeg x))) = ws') (kk : Ev g d pc' lv st ws' Ph) : Ev g d pc lv (.int x :: .int i :: .ref a :: st) ws Ph := by
  subst hp; subst hw; intro p e s m args below meth c H locs ls A F hA hP hD hS hl
  exact va_cast F.1 F.2.1 F.2.2.2.2.2.2.2.1 hP hD hS q0 0 ha rfl hin hd (fun H1 locs1 hP1 hD1 hS1 => by rw [hx] at hP1 hD1; exact kk p e s m args below meth c H1 locs1 ls A F hA hP1 hD1 hS1 hl)
theorem ev_aast {a n v : Nat} {vs : List Value} {f : Nat → Option Nat} {i : Int32} (q0 qk : Nat) (ha : ws[q0]? = some (a, .inl (g.2.2.2.2.2, n, .inr (.inr (.inr (.inr f)))))) (hv : ws[qk]? = some (v, .inr (0, vs))) (hin : vp_in i n) (hd : decode d.2.1 pc = .ok (.aastore, 1)) (hp : pc + 1 = pc') (hw : ws.set q0 (a, .inl (g.2.2.2.2.2, n, .inr (.inr (.inr (.inr (va_up f i.toNatClampNeg (some v))))))) = ws') (kk : Ev g d pc' lv st ws' Ph) : Ev g d pc lv (.ref v :: .int i :: .ref a :: st) ws Ph := by
  subst hp; subst hw; intro p e s m args below meth c H locs ls A F hA hP hD hS hl
  exact va_astq (r := (RX0, TX0, 9)) F.1 F.2.1 F.2.2.2.2.2.2.2.1 hP hD hS q0 3 qk 0 ha rfl hv rfl hin hd (fun H1 locs1 hP1 hD1 hS1 => kk p e s m args below meth c H1 locs1 ls A F hA hP1 hD1 hS1 hl)
theorem ev_aastN {a n : Nat} {f : Nat → Option Nat} {i : Int32} (q0 : Nat) (ha : ws[q0]? = some (a, .inl (g.2.2.2.2.2, n, .inr (.inr (.inr (.inr f)))))) (hin : vp_in i n) (hd : decode d.2.1 pc = .ok (.aastore, 1)) (hp : pc + 1 = pc') (hw : ws.set q0 (a, .inl (g.2.2.2.2.2, n, .inr (.inr (.inr (.inr (va_up f i.toNatClampNeg none)))))) = ws') (kk : Ev g d pc' lv st ws' Ph) : Ev g d pc lv (va_rf none :: .int i :: .ref a :: st) ws Ph := by
  subst hp; subst hw; intro p e s m args below meth c H locs ls A F hA hP hD hS hl
  exact va_astqN (C := "EditTree$Node") F.1 F.2.1 F.2.2.2.2.2.2.2.1 hP hD hS q0 3 ha rfl hin hd (fun H1 locs1 hP1 hD1 hS1 => kk p e s m args below meth c H1 locs1 ls A F hA hP1 hD1 hS1 hl)
theorem ev_alenC {a n : Nat} {f : Nat → Int32} {v : Int32} (q0 : Nat) (ha : ws[q0]? = some (a, .inl (g.2.2.1, n, .inl f))) (hv : Int32.ofNat n = v) (hd : decode d.2.1 pc = .ok (.arraylength, 1)) (hp : pc + 1 = pc') (kk : Ev g d pc' lv (.int v :: st) ws Ph) : Ev g d pc lv (.ref a :: st) ws Ph := by
  subst hp; intro p e s m args below meth c H locs ls A F hA hP hD hS hl
  exact va_alen F.1 F.2.1 F.2.2.2.2.2.2.2.1 hP q0 0 ha rfl hv hd (kk p e s m args below meth c H locs ls A F hA hP hD hS hl)
/-- System.arraycopy of chars -/
theorem ev_copyc {a a0 n0 n1 index : Nat} {f f1 : Nat → Int32} {sp dp n : Int32} (q0 q1 : Nat) (ha0 : ws[q0]? = some (a0, .inl (g.2.2.1, n0, .inl f))) (ha1 : ws[q1]? = some (a, .inl (g.2.2.1, n1, .inl f1))) (hlink : Cond.methodLink d.1.cls index arraycopyName ∈ lw_good) (h1 : ¬ sp < 0) (h2 : ¬ dp < 0) (h3 : ¬ n < 0) (h4 : sp.toNatClampNeg + n.toNatClampNeg ≤ n0) (h5 : dp.toNatClampNeg + n.toNatClampNeg ≤ n1) (hfit : ∀ i, i < n.toNatClampNeg → fits .char (.int (f (sp.toNatClampNeg + i))) = true) (hr : 2 ≤ d.2.2.2.2) (hcat : (st.map fun v => v.category).sum ≤ 8) (hd : decode d.2.1 pc = .ok (.invokestatic index, 3)) (hp : pc + 3 = pc')
    (kk : (∃ A, va_D A ws) → Ev g d pc' lv st (ws.set q1 (a, .inl (g.2.2.1, n1, .inl (va_cpy f f1 sp.toNatClampNeg dp.toNatClampNeg n.toNatClampNeg)))) Ph) : Ev g d pc lv (.int n :: .int dp :: .ref a :: .int sp :: .ref a0 :: st) ws Ph := by
  subst hp; intro p e s m args below meth c H locs ls A F hA hP hD hS hl
  have T := F.2.2.2.2.2.1
  refine va_copyi F.1 F.2.1 (F.2.2.1.trans hl.1.symm) F.2.2.2.2.1 (T _ (List.mem_cons_of_mem _ hlink)) (T _ (List.mem_cons_of_mem _ (lw_in (by decide +kernel) rfl))) (T _ (List.mem_cons_of_mem _ (lw_in (by decide +kernel) rfl))) (T _ (List.mem_cons_of_mem _ (lw_in (by decide +kernel) rfl))) F.2.2.2.2.2.2.2.1 hP hD hS q0 q1 0 0 ha0 ha1 rfl rfl rfl h1 h2 h3 h4 h5 hfit ?_ ?_ hd (fun H1 locs1 hP1 hD1 hS1 => kk ⟨A, hD⟩ p e s m args below meth c H1 locs1 ls A F hA hP1 hD1 hS1 hl)
  · show 1 ≤ d.2.2.2.2
    omega
  · show _ + (nativeFrameWords "java/lang/System" "arraycopy" 5 + 11) ≤ 40 * d.2.2.2.2
    have : nativeFrameWords "java/lang/System" "arraycopy" 5 ≤ 60 := by decide +kernel
    omega
/-- a call's static words: own, the entry, the callee -/
def coV (own : String) (index : Nat) (z : MD) (n : Nat) : Prop := Cond.methodLink own index z.1 ∈ lw_good ∧ Cond.instanceMethod z.1 ∈ lw_good ∧ Cond.selects z.1.cls z.1 z.1 ∈ lw_good ∧ Cond.initialized z.1.cls ∈ lw_good ∧ Cond.code z.1 z.2.1 z.2.2.1 z.2.2.2.1 ∈ lw_good ∧ (z.1.cls ≠ "java/lang/invoke/MethodHandle" ∧ z.1.cls ≠ "java/lang/invoke/VarHandle" ∧ (parseMethodDescriptor z.1.desc).map (fun d => d.parameters.length) = some n) ∧ z.2.2.1 ≤ 20
def coS (own : String) (index : Nat) (z : MD) (n : Nat) : Prop := Cond.methodLink own index z.1 ∈ lw_good ∧ Cond.static z.1 ∈ lw_good ∧ Cond.initialized z.1.cls ∈ lw_good ∧ Cond.code z.1 z.2.1 z.2.2.1 z.2.2.2.1 ∈ lw_good ∧ (z.1.cls ≠ "java/lang/invoke/MethodHandle" ∧ z.1.cls ≠ "java/lang/invoke/VarHandle" ∧ (parseMethodDescriptor z.1.desc).map (fun d => d.parameters.length) = some n) ∧ z.2.2.1 ≤ 20
theorem wsD_good (d z : MD) (hc : Cond.code z.1 z.2.1 z.2.2.1 z.2.2.2.1 ∈ lw_good) : GoodIn (wsD d) (wsD z) := by
  intro w hw
  have h1 : w ∈ lw_good := by
    rcases List.mem_cons.mp hw with rfl | h
    · exact hc
    · exact h
  exact ⟨List.mem_cons_of_mem _ h1, good_of_word (List.mem_filter.mp h1).2⟩
theorem blindR (av : List Value) (sz : Nat) : FrameBlind (va_Pc av (fun U => U.heap.size = sz ∧ va_P g.2.1 vwCl ws U.heap ∧ va_K g.2.1 vwCl (tysG g) U ∧ va_D (fun _ => True) ws ∧ nestOk U)) := by
  intro a U f mk q
  obtain ⟨q0, q1, qP, qK, qD, qN⟩ := q
  exact ⟨q0, q1, qP, va_K.moved (u := U) (U := U.calling f mk a) (Vm.Alike.refl U.vm) qK, qD, nestOk.same (s := U) (U := U.calling f mk a) rfl qN⟩
theorem ev_after {p : Program} {e : Env} {s : State} {m : MethodId} {args : Array Value} {below : List Frame} {meth : Method} {c : Code} {H : Heap} {locs : List Loc} {ls : Array Slot} {A : Nat → Prop} {Ps : Option Value → va_W → Prop} {st0 rest : List Value} {a : Array Value} (hr : va_Run p g.1 e (rmR d.2.2.2.2) s m args below meth c H locs 0 0 0 0 (F0 m pc ls st0) rest (QR g Ps (va_A ws H.size) a) (va_A ws H.size))
    (F : FX g d p s m args meth c) (hA : ∀ q, s.heap.size ≤ q → A q) (hD : va_D A ws) (hS : va_S A s.heap H locs) (hl : lw_has ls d.2.2.1 lv) (k : ∀ v w, Ps v w → Ev g d (pc + 3) lv (v.toList ++ rest) w Ph) : W p g.1 e (rmR d.2.2.2.2) s m args below meth c H locs 0 0 (MQ below (QR g Ph A) args s 0 0 A) (F0 m pc ls st0) := by
  intro T hT X
  obtain ⟨v, st₀, t, T', L, h0, X', hL, e1, e2, ⟨⟨v', w, hv, hp, hPw, hDw⟩, hz, hk⟩, go⟩ := hr T hT X
  have ev : v = v' := by simpa using hv
  subst ev
  rw [h0] at hz hk
  have hf : ∀ q, va_A ws H.size q → A q := fun q h => by
    rcases h with ⟨i, x, h⟩ | h
    · exact hD.2 i (q, x) h
    · exact hA q (Nat.le_trans hS.1 h)
  obtain ⟨t2, a1, b1⟩ := k v w hp p e s m args below meth c T'.heap (locs ++ L) ls A F hA (by rw [e1]; exact hPw) (hDw.weaken (fun _ q _ h => hf q.1 h))
    ⟨Nat.le_trans hS.1 (by rw [e1]; exact hz), fun q h1 h2 => by rw [e1, hk q (Nat.lt_of_lt_of_le h1 hS.1) (fun z => h2 (hf q z))]; exact hS.2.1 q h1 h2, fun q hq => by
      rcases List.mem_append.mp hq with h | h
      · exact hS.2.2 q h
      · exact hf _ (hL q h)⟩ hl T' rfl X'
  exact ⟨t2, go t2 a1, b1⟩
theorem ev_callV {z : MD} {b index ci n : Nat} {fs As rest : List Value} {T : u_T} {N : Nat} {Ps : Option Value → va_W → Prop} (co : coV d.1.cls index z n) (q0 : Nat) (he : ws[q0]? = some (b, .inr (ci, fs))) (hc : vwCl[ci]? = some (z.1.cls, T, N)) (hM : Ret g z (.ref b :: As) ws Ps) (hn : As.length = n) (hR : z.2.2.2.2 + 1 ≤ d.2.2.2.2) (hcat : (rest.map fun v => v.category).sum ≤ 8) (hd : decode d.2.1 pc = .ok (.invokevirtual index, 3)) (hst : st = As.reverse ++ .ref b :: rest) (hp : pc + 3 = pc') (k : ∀ v w, Ps v w → Ev g d pc' lv (v.toList ++ rest) w Ph) : Ev g d pc lv st ws Ph := by
  subst hp; intro p e s m args below meth c H locs ls A F hA hP hD hS hl
  obtain ⟨c1, c2, c3, c4, c5, c6, c7⟩ := co
  have Tt := F.2.2.2.2.2.1
  have hW : GoodIn (wsD d) (wsV d.1.cls index z.1.cls z.1 (wsD z)) := by
    intro w hw
    unfold wsV at hw
    rcases List.mem_append.mp hw with h | h
    · have h1 : w ∈ lw_good := by
        simp only [List.mem_cons, List.not_mem_nil, or_false] at h
        rcases h with rfl | rfl | rfl | rfl
        · exact c1
        · exact c2
        · exact c3
        · exact c4
      exact ⟨List.mem_cons_of_mem _ h1, good_of_word (List.mem_filter.mp h1).2⟩
    · exact wsD_good d z c5 w h
  refine ev_after (va_runV (As := As) (rest := rest) ⟨F.1, F.2.1, F.2.2.1, F.2.2.2.2.1, Tt⟩ (hM H.size) (cwV n Tt hW rfl rfl rfl ⟨rfl, c6⟩ ⟨hR, ?_⟩) ⟨blindR _ _, va_recv F.2.2.2.2.2.2.2.1 hP hc he, fun U hU hWm => ⟨rfl, by rw [hU], by rw [hU]; exact hP, va_K.moved hWm.alike F.2.2.2.2.2.2.2.1, hD.weaken (fun _ _ _ _ => trivial), nestOk.warm hWm F.2.2.2.2.2.2.2.2⟩⟩ rfl hn hl.1 hst (lv_room hcat) hd ⟨Nat.zero_le _, Nat.zero_le _⟩) F hA hD hS hl k
  show 8 + (z.2.2.1 + 11) + 40 * z.2.2.2.2 ≤ 40 * d.2.2.2.2
  omega
theorem ev_callS {z : MD} {index n : Nat} {As rest : List Value} {Ps : Option Value → va_W → Prop} (co : coS d.1.cls index z n) (hM : Ret g z As ws Ps) (hn : As.length = n) (hR : z.2.2.2.2 + 1 ≤ d.2.2.2.2) (hcat : (rest.map fun v => v.category).sum ≤ 8) (hd : decode d.2.1 pc = .ok (.invokestatic index, 3)) (hst : st = As.reverse ++ rest) (hp : pc + 3 = pc') (k : ∀ v w, Ps v w → Ev g d pc' lv (v.toList ++ rest) w Ph) : Ev g d pc lv st ws Ph := by
  subst hp; intro p e s m args below meth c H locs ls A F hA hP hD hS hl
  obtain ⟨c1, c2, c4, c5, c6, c7⟩ := co
  have Tt := F.2.2.2.2.2.1
  refine ev_after (va_runS (As := As) (rest := rest) ⟨F.1, F.2.1, F.2.2.1, F.2.2.2.2.1, Tt⟩ (hM H.size) ⟨callB_of n Tt (wsD_good d z c5) rfl rfl rfl (Tt _ (List.mem_cons_of_mem _ c4)) (Tt _ (List.mem_cons_of_mem _ c1)) c6 ⟨hR, ?_⟩, Tt _ (List.mem_cons_of_mem _ c2)⟩ ⟨blindR _ _, fun U hU hWm => ⟨rfl, by rw [hU], by rw [hU]; exact hP, va_K.moved hWm.alike F.2.2.2.2.2.2.2.1, hD.weaken (fun _ _ _ _ => trivial), nestOk.warm hWm F.2.2.2.2.2.2.2.2⟩⟩ rfl hn hl.1 hst (lv_room hcat) hd ⟨Nat.zero_le _, Nat.zero_le _⟩) F hA hD hS hl k
  show 8 + (z.2.2.1 + 11) + 40 * z.2.2.2.2 ≤ 40 * d.2.2.2.2
  omega
end EV2
end
section
abbrev mdX1_append : MD := (yX1_append, cX1_append, 2, (some .int), 0)
abbrev mdX1_clearClip : MD := (yX1_clearClip, cX1_clearClip, 2, (some .int), 0)
abbrev mdX1_insert : MD := (yX1_insert, cX1_insert, 2, (some .int), 3)
abbrev mdX1_delete : MD := (yX1_delete, cX1_delete, 3, (some .int), 3)
abbrev mdX1_undo : MD := (yX1_undo, cX1_undo, 2, (some .int), 1)
abbrev mdX1_redo : MD := (yX1_redo, cX1_redo, 2, (some .int), 1)
abbrev mdX1_jump : MD := (yX1_jump, cX1_jump, 4, (some .int), 3)
abbrev mdX1_undoEdit : MD := (yX1_undoEdit, cX1_undoEdit, 5, (some .int), 3)
abbrev mdX1_conflictWith : MD := (yX1_conflictWith, cX1_conflictWith, 3, (some .int), 3)
abbrev mdX1_current : MD := (yX1_current, cX1_current, 1, (some .int), 0)
abbrev mdX1_nodeCount : MD := (yX1_nodeCount, cX1_nodeCount, 1, (some .int), 0)
abbrev mdX1_lengthOf : MD := (yX1_lengthOf, cX1_lengthOf, 3, (some .int), 1)
abbrev mdX1_characterOf : MD := (yX1_characterOf, cX1_characterOf, 4, (some .int), 1)
abbrev mdX1_editOf : MD := (yX1_editOf, cX1_editOf, 3, (some .int), 1)
abbrev mdX1_parentOf : MD := (yX1_parentOf, cX1_parentOf, 4, (some .int), 1)
abbrev mdX1_childOf : MD := (yX1_childOf, cX1_childOf, 6, (some .int), 1)
abbrev mdX1_favouriteOf : MD := (yX1_favouriteOf, cX1_favouriteOf, 3, (some .int), 1)
abbrev mdX1_timeOf : MD := (yX1_timeOf, cX1_timeOf, 3, (some .int), 1)
abbrev mdX1_commonAncestor : MD := (yX1_commonAncestor, cX1_commonAncestor, 5, (some .int), 2)
abbrev mdX1_distance : MD := (yX1_distance, cX1_distance, 5, (some .int), 3)
abbrev mdX1_setMark : MD := (yX1_setMark, cX1_setMark, 4, (some .int), 1)
abbrev mdX1_clearMark : MD := (yX1_clearMark, cX1_clearMark, 3, (some .int), 1)
abbrev mdX1_goToMark : MD := (yX1_goToMark, cX1_goToMark, 3, (some .int), 1)
abbrev mdX1_oldestLeaf : MD := (yX1_oldestLeaf, cX1_oldestLeaf, 4, (some .int), 2)
abbrev mdX1_forget : MD := (yX1_forget, cX1_forget, 4, (some .int), 2)
abbrev mdX1_digest : MD := (yX1_digest, cX1_digest, 4, (some .long), 3)
abbrev mdX1_find : MD := (yX1_find, cX1_find, 3, (some (.object "EditTree$Node")), 0)
abbrev mdX1_newestChild : MD := (yX1_newestChild, cX1_newestChild, 3, (some (.object "EditTree$Node")), 0)
abbrev mdX1_isAncestor : MD := (yX1_isAncestor, cX1_isAncestor, 3, (some .boolean), 0)
abbrev mdX1_lowestCommon : MD := (yX1_lowestCommon, cX1_lowestCommon, 3, (some (.object "EditTree$Node")), 1)
abbrev mdX1_depthOf : MD := (yX1_depthOf, cX1_depthOf, 3, (some .int), 0)
abbrev mdX1_stepsBetween : MD := (yX1_stepsBetween, cX1_stepsBetween, 3, (some .int), 2)
abbrev mdX1_numberOrNone : MD := (yX1_numberOrNone, cX1_numberOrNone, 1, (some .int), 0)
abbrev mdX1_editCode : MD := (yX1_editCode, cX1_editCode, 1, (some .int), 0)
abbrev mdX1_isTreeFull : MD := (yX1_isTreeFull, cX1_isTreeFull, 1, (some .boolean), 0)
abbrev mdX1_hasRoomFor : MD := (yX1_hasRoomFor, cX1_hasRoomFor, 2, (some .boolean), 0)
abbrev mdX1_addInsertion : MD := (yX1_addInsertion, cX1_addInsertion, 8, none, 2)
abbrev mdX1_addDeletion : MD := (yX1_addDeletion, cX1_addDeletion, 6, none, 2)
abbrev mdX1_addChild : MD := (yX1_addChild, cX1_addChild, 4, (some (.object "EditTree$Node")), 0)
abbrev mdX1_makeCurrent : MD := (yX1_makeCurrent, cX1_makeCurrent, 3, none, 0)
abbrev mdX1_takeOut : MD := (yX1_takeOut, cX1_takeOut, 5, none, 0)
abbrev mdX1_firstConflict : MD := (yX1_firstConflict, cX1_firstConflict, 4, (some (.object "EditTree$Node")), 2)
abbrev mdX1_placeNow : MD := (yX1_placeNow, cX1_placeNow, 4, (some .int), 2)
abbrev mdX1_shifted : MD := (yX1_shifted, cX1_shifted, 3, (some .int), 1)
abbrev mdX1_shiftedString : MD := (yX1_shiftedString, cX1_shiftedString, 4, (some .int), 0)
abbrev mdX1_shiftedGap : MD := (yX1_shiftedGap, cX1_shiftedGap, 3, (some .int), 0)
abbrev mdX1_isMark : MD := (yX1_isMark, cX1_isMark, 1, (some .boolean), 0)
abbrev mdX1_marksOn : MD := (yX1_marksOn, cX1_marksOn, 4, (some .int), 0)
abbrev mdX1_isForgettable : MD := (yX1_isForgettable, cX1_isForgettable, 2, (some .boolean), 1)
abbrev mdX1_mixed : MD := (yX1_mixed, cX1_mixed, 4, (some .long), 0)
abbrev mdX1_mixedText : MD := (yX1_mixedText, cX1_mixedText, 7, (some .long), 1)
abbrev mdX1_mixedNode : MD := (yX1_mixedNode, cX1_mixedNode, 6, (some .long), 2)
abbrev mdX2_within : MD := (yX2_within, cX2_within, 3, (some .boolean), 0)
abbrev mdX2_at : MD := (yX2_at, cX2_at, 4, (some .int), 0)
abbrev mdX2_above : MD := (yX2_above, cX2_above, 2, (some .int), 1)
abbrev mdX2_depth : MD := (yX2_depth, cX2_depth, 4, (some .int), 2)
abbrev mdX2_isOnPath : MD := (yX2_isOnPath, cX2_isOnPath, 4, (some .boolean), 2)
abbrev mdX2_become : MD := (yX2_become, cX2_become, 3, (some .int), 2)
abbrev mdX2_append : MD := (yX2_append, cX2_append, 2, (some .int), 1)
abbrev mdX2_clearClip : MD := (yX2_clearClip, cX2_clearClip, 2, (some .int), 0)
abbrev mdX2_grow : MD := (yX2_grow, cX2_grow, 8, (some .int), 3)
abbrev mdX2_insert : MD := (yX2_insert, cX2_insert, 4, (some .int), 4)
abbrev mdX2_cut : MD := (yX2_cut, cX2_cut, 4, none, 0)
abbrev mdX2_delete : MD := (yX2_delete, cX2_delete, 3, (some .int), 4)
abbrev mdX2_undo : MD := (yX2_undo, cX2_undo, 2, (some .int), 3)
abbrev mdX2_redo : MD := (yX2_redo, cX2_redo, 1, (some .int), 3)
abbrev mdX2_common : MD := (yX2_common, cX2_common, 4, (some .int), 3)
abbrev mdX2_far : MD := (yX2_far, cX2_far, 3, (some .int), 4)
abbrev mdX2_jumpTo : MD := (yX2_jumpTo, cX2_jumpTo, 4, (some .int), 5)
abbrev mdX2_jump : MD := (yX2_jump, cX2_jump, 3, (some .int), 6)
abbrev mdX2_shift : MD := (yX2_shift, cX2_shift, 12, (some .int), 3)
abbrev mdX2_refusal : MD := (yX2_refusal, cX2_refusal, 2, (some .int), 3)
abbrev mdX2_undoEdit : MD := (yX2_undoEdit, cX2_undoEdit, 5, (some .int), 4)
abbrev mdX2_conflictWith : MD := (yX2_conflictWith, cX2_conflictWith, 5, (some .int), 4)
abbrev mdX2_current : MD := (yX2_current, cX2_current, 1, (some .int), 0)
abbrev mdX2_nodeCount : MD := (yX2_nodeCount, cX2_nodeCount, 1, (some .int), 0)
abbrev mdX2_lengthOf : MD := (yX2_lengthOf, cX2_lengthOf, 3, (some .int), 1)
abbrev mdX2_characterOf : MD := (yX2_characterOf, cX2_characterOf, 4, (some .int), 1)
abbrev mdX2_edit : MD := (yX2_edit, cX2_edit, 2, (some .int), 0)
abbrev mdX2_editOf : MD := (yX2_editOf, cX2_editOf, 3, (some .int), 1)
abbrev mdX2_parentOf : MD := (yX2_parentOf, cX2_parentOf, 3, (some .int), 1)
abbrev mdX2_childMany : MD := (yX2_childMany, cX2_childMany, 4, (some .int), 0)
abbrev mdX2_child : MD := (yX2_child, cX2_child, 5, (some .int), 0)
abbrev mdX2_childOf : MD := (yX2_childOf, cX2_childOf, 4, (some .int), 1)
abbrev mdX2_favouriteOf : MD := (yX2_favouriteOf, cX2_favouriteOf, 3, (some .int), 1)
abbrev mdX2_timeOf : MD := (yX2_timeOf, cX2_timeOf, 3, (some .int), 1)
abbrev mdX2_commonAncestor : MD := (yX2_commonAncestor, cX2_commonAncestor, 5, (some .int), 4)
abbrev mdX2_distance : MD := (yX2_distance, cX2_distance, 5, (some .int), 5)
abbrev mdX2_isMark : MD := (yX2_isMark, cX2_isMark, 1, (some .boolean), 1)
abbrev mdX2_marksOn : MD := (yX2_marksOn, cX2_marksOn, 4, (some .int), 0)
abbrev mdX2_setMark : MD := (yX2_setMark, cX2_setMark, 3, (some .int), 2)
abbrev mdX2_clearMark : MD := (yX2_clearMark, cX2_clearMark, 3, (some .int), 2)
abbrev mdX2_goToMark : MD := (yX2_goToMark, cX2_goToMark, 2, (some .int), 3)
abbrev mdX2_isLoose : MD := (yX2_isLoose, cX2_isLoose, 2, (some .boolean), 1)
abbrev mdX2_oldest : MD := (yX2_oldest, cX2_oldest, 3, (some .int), 2)
abbrev mdX2_oldestLeaf : MD := (yX2_oldestLeaf, cX2_oldestLeaf, 1, (some .int), 3)
abbrev mdX2_close : MD := (yX2_close, cX2_close, 3, none, 0)
abbrev mdX2_forget : MD := (yX2_forget, cX2_forget, 5, (some .int), 2)
abbrev mdX2_mix : MD := (yX2_mix, cX2_mix, 3, none, 0)
abbrev mdX2_digest : MD := (yX2_digest, cX2_digest, 3, (some .long), 3)
theorem coX1_addChild : coV RX1 155 mdX1_addChild 2 := ⟨lw_in (by decide +kernel) rfl, lw_in (by decide +kernel) rfl, lw_in (by decide +kernel) rfl, lw_in (by decide +kernel) rfl, lw_in (by decide +kernel) rfl, by decide +kernel, by decide⟩
theorem coX1_addDeletion : coV RX1 58 mdX1_addDeletion 2 := ⟨lw_in (by decide +kernel) rfl, lw_in (by decide +kernel) rfl, lw_in (by decide +kernel) rfl, lw_in (by decide +kernel) rfl, lw_in (by decide +kernel) rfl, by decide +kernel, by decide⟩
theorem coX1_addInsertion : coV RX1 51 mdX1_addInsertion 4 := ⟨lw_in (by decide +kernel) rfl, lw_in (by decide +kernel) rfl, lw_in (by decide +kernel) rfl, lw_in (by decide +kernel) rfl, lw_in (by decide +kernel) rfl, by decide +kernel, by decide⟩
theorem coX1_depthOf : coS RX1 152 mdX1_depthOf 1 := ⟨lw_in (by decide +kernel) rfl, lw_in (by decide +kernel) rfl, lw_in (by decide +kernel) rfl, lw_in (by decide +kernel) rfl, by decide +kernel, by decide⟩
theorem coX1_editCode : coS RX1 108 mdX1_editCode 1 := ⟨lw_in (by decide +kernel) rfl, lw_in (by decide +kernel) rfl, lw_in (by decide +kernel) rfl, lw_in (by decide +kernel) rfl, by decide +kernel, by decide⟩
theorem coX1_find : coV RX1 72 mdX1_find 1 := ⟨lw_in (by decide +kernel) rfl, lw_in (by decide +kernel) rfl, lw_in (by decide +kernel) rfl, lw_in (by decide +kernel) rfl, lw_in (by decide +kernel) rfl, by decide +kernel, by decide⟩
theorem coX1_firstConflict : coV RX1 101 mdX1_firstConflict 1 := ⟨lw_in (by decide +kernel) rfl, lw_in (by decide +kernel) rfl, lw_in (by decide +kernel) rfl, lw_in (by decide +kernel) rfl, lw_in (by decide +kernel) rfl, by decide +kernel, by decide⟩
theorem coX1_hasRoomFor : coV RX1 43 mdX1_hasRoomFor 1 := ⟨lw_in (by decide +kernel) rfl, lw_in (by decide +kernel) rfl, lw_in (by decide +kernel) rfl, lw_in (by decide +kernel) rfl, lw_in (by decide +kernel) rfl, by decide +kernel, by decide⟩
theorem coX1_isAncestor : coS RX1 80 mdX1_isAncestor 2 := ⟨lw_in (by decide +kernel) rfl, lw_in (by decide +kernel) rfl, lw_in (by decide +kernel) rfl, lw_in (by decide +kernel) rfl, by decide +kernel, by decide⟩
theorem coX1_isForgettable : coV RX1 124 mdX1_isForgettable 1 := ⟨lw_in (by decide +kernel) rfl, lw_in (by decide +kernel) rfl, lw_in (by decide +kernel) rfl, lw_in (by decide +kernel) rfl, lw_in (by decide +kernel) rfl, by decide +kernel, by decide⟩
theorem coX1_isMark : coS RX1 118 mdX1_isMark 1 := ⟨lw_in (by decide +kernel) rfl, lw_in (by decide +kernel) rfl, lw_in (by decide +kernel) rfl, lw_in (by decide +kernel) rfl, by decide +kernel, by decide⟩
theorem coX1_isTreeFull : coV RX1 47 mdX1_isTreeFull 0 := ⟨lw_in (by decide +kernel) rfl, lw_in (by decide +kernel) rfl, lw_in (by decide +kernel) rfl, lw_in (by decide +kernel) rfl, lw_in (by decide +kernel) rfl, by decide +kernel, by decide⟩
theorem coX1_lowestCommon : coS RX1 114 mdX1_lowestCommon 2 := ⟨lw_in (by decide +kernel) rfl, lw_in (by decide +kernel) rfl, lw_in (by decide +kernel) rfl, lw_in (by decide +kernel) rfl, by decide +kernel, by decide⟩
theorem coX1_makeCurrent : coV RX1 65 mdX1_makeCurrent 1 := ⟨lw_in (by decide +kernel) rfl, lw_in (by decide +kernel) rfl, lw_in (by decide +kernel) rfl, lw_in (by decide +kernel) rfl, lw_in (by decide +kernel) rfl, by decide +kernel, by decide⟩
theorem coX1_marksOn : coV RX1 121 mdX1_marksOn 1 := ⟨lw_in (by decide +kernel) rfl, lw_in (by decide +kernel) rfl, lw_in (by decide +kernel) rfl, lw_in (by decide +kernel) rfl, lw_in (by decide +kernel) rfl, by decide +kernel, by decide⟩
theorem coX1_mixed : coS RX1 136 mdX1_mixed 2 := ⟨lw_in (by decide +kernel) rfl, lw_in (by decide +kernel) rfl, lw_in (by decide +kernel) rfl, lw_in (by decide +kernel) rfl, by decide +kernel, by decide⟩
theorem coX1_mixedNode : coS RX1 140 mdX1_mixedNode 2 := ⟨lw_in (by decide +kernel) rfl, lw_in (by decide +kernel) rfl, lw_in (by decide +kernel) rfl, lw_in (by decide +kernel) rfl, by decide +kernel, by decide⟩
theorem coX1_mixedText : coS RX1 148 mdX1_mixedText 3 := ⟨lw_in (by decide +kernel) rfl, lw_in (by decide +kernel) rfl, lw_in (by decide +kernel) rfl, lw_in (by decide +kernel) rfl, by decide +kernel, by decide⟩
theorem coX1_newestChild : coV RX1 131 mdX1_newestChild 1 := ⟨lw_in (by decide +kernel) rfl, lw_in (by decide +kernel) rfl, lw_in (by decide +kernel) rfl, lw_in (by decide +kernel) rfl, lw_in (by decide +kernel) rfl, by decide +kernel, by decide⟩
theorem coX1_numberOrNone : coS RX1 105 mdX1_numberOrNone 1 := ⟨lw_in (by decide +kernel) rfl, lw_in (by decide +kernel) rfl, lw_in (by decide +kernel) rfl, lw_in (by decide +kernel) rfl, by decide +kernel, by decide⟩
theorem coX1_oldestLeaf : coV RX1 144 mdX1_oldestLeaf 0 := ⟨lw_in (by decide +kernel) rfl, lw_in (by decide +kernel) rfl, lw_in (by decide +kernel) rfl, lw_in (by decide +kernel) rfl, lw_in (by decide +kernel) rfl, by decide +kernel, by decide⟩
theorem coX1_placeNow : coV RX1 84 mdX1_placeNow 1 := ⟨lw_in (by decide +kernel) rfl, lw_in (by decide +kernel) rfl, lw_in (by decide +kernel) rfl, lw_in (by decide +kernel) rfl, lw_in (by decide +kernel) rfl, by decide +kernel, by decide⟩
theorem coX1_shifted : coS RX1 165 mdX1_shifted 3 := ⟨lw_in (by decide +kernel) rfl, lw_in (by decide +kernel) rfl, lw_in (by decide +kernel) rfl, lw_in (by decide +kernel) rfl, by decide +kernel, by decide⟩
theorem coX1_shiftedGap : coS RX1 169 mdX1_shiftedGap 2 := ⟨lw_in (by decide +kernel) rfl, lw_in (by decide +kernel) rfl, lw_in (by decide +kernel) rfl, lw_in (by decide +kernel) rfl, by decide +kernel, by decide⟩
theorem coX1_shiftedString : coS RX1 173 mdX1_shiftedString 3 := ⟨lw_in (by decide +kernel) rfl, lw_in (by decide +kernel) rfl, lw_in (by decide +kernel) rfl, lw_in (by decide +kernel) rfl, by decide +kernel, by decide⟩
theorem coX1_stepsBetween : coS RX1 76 mdX1_stepsBetween 2 := ⟨lw_in (by decide +kernel) rfl, lw_in (by decide +kernel) rfl, lw_in (by decide +kernel) rfl, lw_in (by decide +kernel) rfl, by decide +kernel, by decide⟩
theorem coX1_takeOut : coV RX1 128 mdX1_takeOut 1 := ⟨lw_in (by decide +kernel) rfl, lw_in (by decide +kernel) rfl, lw_in (by decide +kernel) rfl, lw_in (by decide +kernel) rfl, lw_in (by decide +kernel) rfl, by decide +kernel, by decide⟩
theorem coX2_above : coV RX2 61 mdX2_above 1 := ⟨lw_in (by decide +kernel) rfl, lw_in (by decide +kernel) rfl, lw_in (by decide +kernel) rfl, lw_in (by decide +kernel) rfl, lw_in (by decide +kernel) rfl, by decide +kernel, by decide⟩
theorem coX2_at : coV RX2 57 mdX2_at 1 := ⟨lw_in (by decide +kernel) rfl, lw_in (by decide +kernel) rfl, lw_in (by decide +kernel) rfl, lw_in (by decide +kernel) rfl, lw_in (by decide +kernel) rfl, by decide +kernel, by decide⟩
theorem coX2_become : coV RX2 77 mdX2_become 1 := ⟨lw_in (by decide +kernel) rfl, lw_in (by decide +kernel) rfl, lw_in (by decide +kernel) rfl, lw_in (by decide +kernel) rfl, lw_in (by decide +kernel) rfl, by decide +kernel, by decide⟩
theorem coX2_child : coV RX2 117 mdX2_child 2 := ⟨lw_in (by decide +kernel) rfl, lw_in (by decide +kernel) rfl, lw_in (by decide +kernel) rfl, lw_in (by decide +kernel) rfl, lw_in (by decide +kernel) rfl, by decide +kernel, by decide⟩
theorem coX2_childMany : coV RX2 127 mdX2_childMany 1 := ⟨lw_in (by decide +kernel) rfl, lw_in (by decide +kernel) rfl, lw_in (by decide +kernel) rfl, lw_in (by decide +kernel) rfl, lw_in (by decide +kernel) rfl, by decide +kernel, by decide⟩
theorem coX2_close : coV RX2 137 mdX2_close 1 := ⟨lw_in (by decide +kernel) rfl, lw_in (by decide +kernel) rfl, lw_in (by decide +kernel) rfl, lw_in (by decide +kernel) rfl, lw_in (by decide +kernel) rfl, by decide +kernel, by decide⟩
theorem coX2_common : coV RX2 95 mdX2_common 2 := ⟨lw_in (by decide +kernel) rfl, lw_in (by decide +kernel) rfl, lw_in (by decide +kernel) rfl, lw_in (by decide +kernel) rfl, lw_in (by decide +kernel) rfl, by decide +kernel, by decide⟩
theorem coX2_cut : coV RX2 84 mdX2_cut 2 := ⟨lw_in (by decide +kernel) rfl, lw_in (by decide +kernel) rfl, lw_in (by decide +kernel) rfl, lw_in (by decide +kernel) rfl, lw_in (by decide +kernel) rfl, by decide +kernel, by decide⟩
theorem coX2_depth : coV RX2 92 mdX2_depth 1 := ⟨lw_in (by decide +kernel) rfl, lw_in (by decide +kernel) rfl, lw_in (by decide +kernel) rfl, lw_in (by decide +kernel) rfl, lw_in (by decide +kernel) rfl, by decide +kernel, by decide⟩
theorem coX2_edit : coV RX2 114 mdX2_edit 1 := ⟨lw_in (by decide +kernel) rfl, lw_in (by decide +kernel) rfl, lw_in (by decide +kernel) rfl, lw_in (by decide +kernel) rfl, lw_in (by decide +kernel) rfl, by decide +kernel, by decide⟩
theorem coX2_far : coV RX2 99 mdX2_far 2 := ⟨lw_in (by decide +kernel) rfl, lw_in (by decide +kernel) rfl, lw_in (by decide +kernel) rfl, lw_in (by decide +kernel) rfl, lw_in (by decide +kernel) rfl, by decide +kernel, by decide⟩
theorem coX2_grow : coV RX2 80 mdX2_grow 3 := ⟨lw_in (by decide +kernel) rfl, lw_in (by decide +kernel) rfl, lw_in (by decide +kernel) rfl, lw_in (by decide +kernel) rfl, lw_in (by decide +kernel) rfl, by decide +kernel, by decide⟩
theorem coX2_isLoose : coV RX2 130 mdX2_isLoose 1 := ⟨lw_in (by decide +kernel) rfl, lw_in (by decide +kernel) rfl, lw_in (by decide +kernel) rfl, lw_in (by decide +kernel) rfl, lw_in (by decide +kernel) rfl, by decide +kernel, by decide⟩
theorem coX2_isMark : coS RX2 120 mdX2_isMark 1 := ⟨lw_in (by decide +kernel) rfl, lw_in (by decide +kernel) rfl, lw_in (by decide +kernel) rfl, lw_in (by decide +kernel) rfl, by decide +kernel, by decide⟩
theorem coX2_isOnPath : coV RX2 88 mdX2_isOnPath 2 := ⟨lw_in (by decide +kernel) rfl, lw_in (by decide +kernel) rfl, lw_in (by decide +kernel) rfl, lw_in (by decide +kernel) rfl, lw_in (by decide +kernel) rfl, by decide +kernel, by decide⟩
theorem coX2_jumpTo : coV RX2 102 mdX2_jumpTo 1 := ⟨lw_in (by decide +kernel) rfl, lw_in (by decide +kernel) rfl, lw_in (by decide +kernel) rfl, lw_in (by decide +kernel) rfl, lw_in (by decide +kernel) rfl, by decide +kernel, by decide⟩
theorem coX2_marksOn : coV RX2 124 mdX2_marksOn 1 := ⟨lw_in (by decide +kernel) rfl, lw_in (by decide +kernel) rfl, lw_in (by decide +kernel) rfl, lw_in (by decide +kernel) rfl, lw_in (by decide +kernel) rfl, by decide +kernel, by decide⟩
theorem coX2_mix : coV RX2 149 mdX2_mix 1 := ⟨lw_in (by decide +kernel) rfl, lw_in (by decide +kernel) rfl, lw_in (by decide +kernel) rfl, lw_in (by decide +kernel) rfl, lw_in (by decide +kernel) rfl, by decide +kernel, by decide⟩
theorem coX2_oldest : coV RX2 133 mdX2_oldest 0 := ⟨lw_in (by decide +kernel) rfl, lw_in (by decide +kernel) rfl, lw_in (by decide +kernel) rfl, lw_in (by decide +kernel) rfl, lw_in (by decide +kernel) rfl, by decide +kernel, by decide⟩
theorem coX2_refusal : coV RX2 108 mdX2_refusal 1 := ⟨lw_in (by decide +kernel) rfl, lw_in (by decide +kernel) rfl, lw_in (by decide +kernel) rfl, lw_in (by decide +kernel) rfl, lw_in (by decide +kernel) rfl, by decide +kernel, by decide⟩
theorem coX2_shift : coV RX2 111 mdX2_shift 1 := ⟨lw_in (by decide +kernel) rfl, lw_in (by decide +kernel) rfl, lw_in (by decide +kernel) rfl, lw_in (by decide +kernel) rfl, lw_in (by decide +kernel) rfl, by decide +kernel, by decide⟩
theorem coX2_within : coS RX2 70 mdX2_within 3 := ⟨lw_in (by decide +kernel) rfl, lw_in (by decide +kernel) rfl, lw_in (by decide +kernel) rfl, lw_in (by decide +kernel) rfl, by decide +kernel, by decide⟩
theorem fnX0_deletion : Cond.fieldLinkNest RX1 88 "EditTree$Node" "deletion" "Z" "EditTree" ∈ nestF := by decide +kernel
theorem fnX0_editLength : Cond.fieldLinkNest RX1 92 "EditTree$Node" "editLength" "I" "EditTree" ∈ nestF := by decide +kernel
theorem fnX0_editPosition : Cond.fieldLinkNest RX1 98 "EditTree$Node" "editPosition" "I" "EditTree" ∈ nestF := by decide +kernel
theorem fnX0_favourite : Cond.fieldLinkNest RX1 69 "EditTree$Node" "favourite" "LEditTree$Node;" "EditTree" ∈ nestF := by decide +kernel
theorem fnX0_number : Cond.fieldLinkNest RX1 55 "EditTree$Node" "number" "I" "EditTree" ∈ nestF := by decide +kernel
theorem fnX0_parent : Cond.fieldLinkNest RX1 62 "EditTree$Node" "parent" "LEditTree$Node;" "EditTree" ∈ nestF := by decide +kernel
theorem fnX0_text : Cond.fieldLinkNest RX1 95 "EditTree$Node" "text" "[C" "EditTree" ∈ nestF := by decide +kernel
theorem fnX0_textLength : Cond.fieldLinkNest RX1 40 "EditTree$Node" "textLength" "I" "EditTree" ∈ nestF := by decide +kernel
theorem fnX0_time : Cond.fieldLinkNest RX1 111 "EditTree$Node" "time" "I" "EditTree" ∈ nestF := by decide +kernel
theorem flX1_clip : Cond.fieldLink RX1 25 "EditTree" "clip" "[C" ∈ lw_good := lw_in (by decide +kernel) rfl
theorem flX1_clipLength : Cond.fieldLink RX1 29 "EditTree" "clipLength" "I" ∈ lw_good := lw_in (by decide +kernel) rfl
theorem flX1_clock : Cond.fieldLink RX1 22 "EditTree" "clock" "I" ∈ lw_good := lw_in (by decide +kernel) rfl
theorem flX1_currentNode : Cond.fieldLink RX1 36 "EditTree" "currentNode" "LEditTree$Node;" ∈ lw_good := lw_in (by decide +kernel) rfl
theorem flX1_lastNumber : Cond.fieldLink RX1 19 "EditTree" "lastNumber" "I" ∈ lw_good := lw_in (by decide +kernel) rfl
theorem flX1_marks : Cond.fieldLink RX1 32 "EditTree" "marks" "[LEditTree$Node;" ∈ lw_good := lw_in (by decide +kernel) rfl
theorem flX1_nodeTotal : Cond.fieldLink RX1 15 "EditTree" "nodeTotal" "I" ∈ lw_good := lw_in (by decide +kernel) rfl
theorem flX1_nodes : Cond.fieldLink RX1 11 "EditTree" "nodes" "[LEditTree$Node;" ∈ lw_good := lw_in (by decide +kernel) rfl
theorem flX2_clip : Cond.fieldLink RX2 48 "EditTreeModel" "clip" "[I" ∈ lw_good := lw_in (by decide +kernel) rfl
theorem flX2_clipLength : Cond.fieldLink RX2 74 "EditTreeModel" "clipLength" "I" ∈ lw_good := lw_in (by decide +kernel) rfl
theorem flX2_clock : Cond.fieldLink RX2 64 "EditTreeModel" "clock" "I" ∈ lw_good := lw_in (by decide +kernel) rfl
theorem flX2_current : Cond.fieldLink RX2 67 "EditTreeModel" "current" "I" ∈ lw_good := lw_in (by decide +kernel) rfl
theorem flX2_deletes : Cond.fieldLink RX2 35 "EditTreeModel" "deletes" "[Z" ∈ lw_good := lw_in (by decide +kernel) rfl
theorem flX2_favourite : Cond.fieldLink RX2 23 "EditTreeModel" "favourite" "[I" ∈ lw_good := lw_in (by decide +kernel) rfl
theorem flX2_given : Cond.fieldLink RX2 13 "EditTreeModel" "given" "I" ∈ lw_good := lw_in (by decide +kernel) rfl
theorem flX2_h : Cond.fieldLink RX2 143 "EditTreeModel" "h" "J" ∈ lw_good := lw_in (by decide +kernel) rfl
theorem flX2_length : Cond.fieldLink RX2 32 "EditTreeModel" "length" "[I" ∈ lw_good := lw_in (by decide +kernel) rfl
theorem flX2_mark : Cond.fieldLink RX2 51 "EditTreeModel" "mark" "[I" ∈ lw_good := lw_in (by decide +kernel) rfl
theorem flX2_newString : Cond.fieldLink RX2 54 "EditTreeModel" "newString" "[I" ∈ lw_good := lw_in (by decide +kernel) rfl
theorem flX2_nodes : Cond.fieldLink RX2 7 "EditTreeModel" "nodes" "I" ∈ lw_good := lw_in (by decide +kernel) rfl
theorem flX2_number : Cond.fieldLink RX2 16 "EditTreeModel" "number" "[I" ∈ lw_good := lw_in (by decide +kernel) rfl
theorem flX2_parent : Cond.fieldLink RX2 20 "EditTreeModel" "parent" "[I" ∈ lw_good := lw_in (by decide +kernel) rfl
theorem flX2_position : Cond.fieldLink RX2 29 "EditTreeModel" "position" "[I" ∈ lw_good := lw_in (by decide +kernel) rfl
theorem flX2_shifted : Cond.fieldLink RX2 105 "EditTreeModel" "shifted" "I" ∈ lw_good := lw_in (by decide +kernel) rfl
theorem flX2_string : Cond.fieldLink RX2 39 "EditTreeModel" "string" "[I" ∈ lw_good := lw_in (by decide +kernel) rfl
theorem flX2_text : Cond.fieldLink RX2 45 "EditTreeModel" "text" "[I" ∈ lw_good := lw_in (by decide +kernel) rfl
theorem flX2_textLength : Cond.fieldLink RX2 42 "EditTreeModel" "textLength" "[I" ∈ lw_good := lw_in (by decide +kernel) rfl
theorem flX2_time : Cond.fieldLink RX2 26 "EditTreeModel" "time" "[I" ∈ lw_good := lw_in (by decide +kernel) rfl
theorem cpX1 : Cond.methodLink RX1 159 arraycopyName ∈ lw_good := lw_in (by decide +kernel) rfl
theorem clX1_134 : Cond.constantLong RX1 134 1847 ∈ lw_good := lw_in (by decide +kernel) rfl
theorem clX1_177 : Cond.constantLong RX1 177 31 ∈ lw_good := lw_in (by decide +kernel) rfl
theorem clX2_147 : Cond.constantLong RX2 147 1847 ∈ lw_good := lw_in (by decide +kernel) rfl
theorem clX2_141 : Cond.constantLong RX2 141 31 ∈ lw_good := lw_in (by decide +kernel) rfl
end
section
/-! ===== the two worlds: the object that landed, and the reference's ===== -/
def wM (g : EG) (mo : Nat) (mr : Nat → Nat) (mnd mgv mcu mck mcl msh : Int32) (mhh : Int64) (mnu mpa mfa mti mpo mle mde msr mtl mtx mcp mmk mns : Nat → Int32) : va_W :=
  [(mo, .inr (2, [.int mnd, .int mgv, .ref (mr 0), .ref (mr 1), .ref (mr 2), .ref (mr 3), .ref (mr 4), .ref (mr 5), .ref (mr 6), .ref (mr 7), .ref (mr 8), .ref (mr 9), .int mcu, .int mck, .int mcl, .ref (mr 10), .ref (mr 11), .ref (mr 12), .int msh, .long mhh])),
   (mr 0, .inl (g.2.2.2.1, 24, .inl mnu)), (mr 1, .inl (g.2.2.2.1, 24, .inl mpa)), (mr 2, .inl (g.2.2.2.1, 24, .inl mfa)), (mr 3, .inl (g.2.2.2.1, 24, .inl mti)), (mr 4, .inl (g.2.2.2.1, 24, .inl mpo)), (mr 5, .inl (g.2.2.2.1, 24, .inl mle)), (mr 6, .inl (g.2.2.2.2.1, 24, .inl mde)), (mr 7, .inl (g.2.2.2.1, 144, .inl msr)), (mr 8, .inl (g.2.2.2.1, 24, .inl mtl)), (mr 9, .inl (g.2.2.2.1, 960, .inl mtx)), (mr 10, .inl (g.2.2.2.1, 6, .inl mcp)), (mr 11, .inl (g.2.2.2.1, 5, .inl mmk)), (mr 12, .inl (g.2.2.2.1, 6, .inl mns))]
abbrev fN (xt : Nat → Nat) (xtl xnu xti : Nat → Int32) (xpa xfa : Nat → Option Nat) (xep xel xde : Nat → Int32) (a : Nat) : va_E := .inr (0, [.ref (xt a), .int (xtl a), .int (xnu a), .int (xti a), va_rf (xpa a), va_rf (xfa a), .int (xep a), .int (xel a), .int (xde a)])
abbrev fT (g : EG) (xtc : Nat → Nat → Int32) (t : Nat) : va_E := .inl (g.2.2.1, 40, .inl (xtc t))
abbrev wX0 (g : EG) (xo an ac am : Nat) (xar : Nat → Option Nat) (xnt xln : Int32) (xcu : Nat) (xck : Int32) (xcp : Nat → Int32) (xcl : Int32) (xmk : Nat → Option Nat) : va_W :=
  [(xo, .inr (1, [.ref an, .int xnt, .int xln, .ref xcu, .int xck, .ref ac, .int xcl, .ref am])), (an, .inl (g.2.2.2.2.2, 24, .inr (.inr (.inr (.inr xar))))), (ac, .inl (g.2.2.1, 6, .inl xcp)), (am, .inl (g.2.2.2.2.2, 5, .inr (.inr (.inr (.inr xmk)))))]
def wX (g : EG) (xo an ac am : Nat) (LN LT : List Nat) (xt : Nat → Nat) (xar : Nat → Option Nat) (xnt xln : Int32) (xcu : Nat) (xck : Int32) (xcp : Nat → Int32) (xcl : Int32) (xmk : Nat → Option Nat) (xtl xnu xti : Nat → Int32) (xpa xfa : Nat → Option Nat) (xep xel xde : Nat → Int32) (xtc : Nat → Nat → Int32) : va_W :=
  (wX0 g xo an ac am xar xnt xln xcu xck xcp xcl xmk ++ va_pl LT (fT g xtc)) ++ va_pl LN (fN xt xtl xnu xti xpa xfa xep xel xde)
section WR
variable {g : EG} {xo an ac am : Nat} {LN LT : List Nat} {xt : Nat → Nat} {xar : Nat → Option Nat} {xnt xln : Int32} {xcu : Nat} {xck : Int32} {xcp : Nat → Int32} {xcl : Int32} {xmk : Nat → Option Nat} {xtl xnu xti : Nat → Int32} {xpa xfa : Nat → Option Nat} {xep xel xde : Nat → Int32} {xtc : Nat → Nat → Int32}
variable {d : MD} {pc pc' tgt : Nat} {lv lv' : List (Option Value)} {st st' : List Value} {ws ws' : va_W} {Ph : Option Value → va_W → Prop}
theorem ev_ialdN {a n k : Nat} {f : Nat → Int32} {v : Int32} (q0 : Nat) (ha : ws[q0]? = some (a, .inl (g.2.2.2.1, n, .inl f))) (hk : k < n) (hn : n < 2 ^ 31) (hv : f k = v) (hd : decode d.2.1 pc = .ok (.iaload, 1)) (hp : pc + 1 = pc') (kk : Ev g d pc' lv (.int v :: st) ws Ph) : Ev g d pc lv (.int (nI k) :: .ref a :: st) ws Ph := by
  refine ev_iald q0 ha (vp_in_nI hk hn) hd hp ?_
  rw [nI_clamp (by omega), hv]; exact kk
theorem ev_zaldN {a n k : Nat} {f : Nat → Int32} {v : Int32} (q0 : Nat) (ha : ws[q0]? = some (a, .inl (g.2.2.2.2.1, n, .inl f))) (hk : k < n) (hn : n < 2 ^ 31) (hv : f k = v) (hd : decode d.2.1 pc = .ok (.baload, 1)) (hp : pc + 1 = pc') (kk : Ev g d pc' lv (.int v :: st) ws Ph) : Ev g d pc lv (.int (nI k) :: .ref a :: st) ws Ph := by
  refine ev_zald q0 ha (vp_in_nI hk hn) hd hp ?_
  rw [nI_clamp (by omega), hv]; exact kk
theorem ev_caldN {a n k : Nat} {f : Nat → Int32} {v : Int32} (q0 : Nat) (ha : ws[q0]? = some (a, .inl (g.2.2.1, n, .inl f))) (hk : k < n) (hn : n < 2 ^ 31) (hv : f k = v) (hd : decode d.2.1 pc = .ok (.caload, 1)) (hp : pc + 1 = pc') (kk : Ev g d pc' lv (.int v :: st) ws Ph) : Ev g d pc lv (.int (nI k) :: .ref a :: st) ws Ph := by
  refine ev_cald q0 ha (vp_in_nI hk hn) hd hp ?_
  rw [nI_clamp (by omega), hv]; exact kk
theorem ev_aaldN {a n k : Nat} {f : Nat → Option Nat} {v : Option Nat} (q0 : Nat) (ha : ws[q0]? = some (a, .inl (g.2.2.2.2.2, n, .inr (.inr (.inr (.inr f)))))) (hk : k < n) (hn : n < 2 ^ 31) (hv : f k = v) (hd : decode d.2.1 pc = .ok (.aaload, 1)) (hp : pc + 1 = pc') (kk : Ev g d pc' lv (va_rf v :: st) ws Ph) : Ev g d pc lv (.int (nI k) :: .ref a :: st) ws Ph := by
  refine ev_aald q0 ha (vp_in_nI hk hn) hd hp ?_
  rw [nI_clamp (by omega), hv]; exact kk
theorem ev_iastN {a n k : Nat} {f : Nat → Int32} {x : Int32} (q0 : Nat) (ha : ws[q0]? = some (a, .inl (g.2.2.2.1, n, .inl f))) (hk : k < n) (hn : n < 2 ^ 31) (hd : decode d.2.1 pc = .ok (.iastore, 1)) (hp : pc + 1 = pc') (hw : ws.set q0 (a, .inl (g.2.2.2.1, n, .inl (upd f k x))) = ws') (kk : Ev g d pc' lv st ws' Ph) : Ev g d pc lv (.int x :: .int (nI k) :: .ref a :: st) ws Ph :=
  ev_iast q0 ha (vp_in_nI hk hn) hd hp (by rw [nI_clamp (by omega)]; exact hw) kk
theorem ev_zastN {a n k : Nat} {f : Nat → Int32} {x : Int32} (q0 : Nat) (ha : ws[q0]? = some (a, .inl (g.2.2.2.2.1, n, .inl f))) (hk : k < n) (hn : n < 2 ^ 31) (hz : x = 0 ∨ x = 1) (hd : decode d.2.1 pc = .ok (.bastore, 1)) (hp : pc + 1 = pc') (hw : ws.set q0 (a, .inl (g.2.2.2.2.1, n, .inl (upd f k x))) = ws') (kk : Ev g d pc' lv st ws' Ph) : Ev g d pc lv (.int x :: .int (nI k) :: .ref a :: st) ws Ph :=
  ev_zast q0 ha (vp_in_nI hk hn) hz hd hp (by rw [nI_clamp (by omega)]; exact hw) kk
theorem wX_node {a : Nat} (ha : a ∈ LN) : ∃ q : Nat, ((wX g xo an ac am LN LT xt xar xnt xln xcu xck xcp xcl xmk xtl xnu xti xpa xfa xep xel xde xtc))[q]? = some (a, fN xt xtl xnu xti xpa xfa xep xel xde a) := va_pl_get ha
theorem wX_text {t : Nat} (ht : t ∈ LT) : ∃ q : Nat, q < (wX0 g xo an ac am xar xnt xln xcu xck xcp xcl xmk ++ va_pl LT (fT g xtc)).length ∧ ((wX g xo an ac am LN LT xt xar xnt xln xcu xck xcp xcl xmk xtl xnu xti xpa xfa xep xel xde xtc))[q]? = some (t, fT g xtc t) := by
  obtain ⟨q, hq⟩ := va_pl_get (X := wX0 g xo an ac am xar xnt xln xcu xck xcp xcl xmk) (f := fT g xtc) ht
  have hl := (List.getElem?_eq_some_iff.mp hq).1
  exact ⟨q, hl, by unfold wX; rw [List.getElem?_append_left hl]; exact hq⟩
theorem wX_tset {A : Nat → Prop} {t q : Nat} {f : Nat → Int32} (hD : va_D A (wX g xo an ac am LN LT xt xar xnt xln xcu xck xcp xcl xmk xtl xnu xti xpa xfa xep xel xde xtc)) (ht : t ∈ LT) (hl : q < (wX0 g xo an ac am xar xnt xln xcu xck xcp xcl xmk ++ va_pl LT (fT g xtc)).length) (hq : ((wX g xo an ac am LN LT xt xar xnt xln xcu xck xcp xcl xmk xtl xnu xti xpa xfa xep xel xde xtc))[q]? = some (t, fT g xtc t)) : ((wX g xo an ac am LN LT xt xar xnt xln xcu xck xcp xcl xmk xtl xnu xti xpa xfa xep xel xde xtc)).set q (t, .inl (g.2.2.1, 40, .inl f)) = (wX g xo an ac am LN LT xt xar xnt xln xcu xck xcp xcl xmk xtl xnu xti xpa xfa xep xel xde (va_up xtc t f)) := by
  unfold wX at hq hD ⊢
  have hD1 : va_D A (wX0 g xo an ac am xar xnt xln xcu xck xcp xcl xmk ++ va_pl LT (fT g xtc)) := by
    refine hD.by id (fun k p hk => ?_) (fun i j _ _ e => e)
    show (_ ++ _)[k]? = _
    rw [List.getElem?_append_left (List.getElem?_eq_some_iff.mp hk).1]; exact hk
  rw [List.getElem?_append_left hl] at hq
  rw [List.set_append_left _ _ hl, va_pl_set hD1 ht hq]
  congr 2
  refine va_pl_congr (fun b => ?_)
  by_cases hb : b = t
  · subst hb; rw [va_up_self]; simp only [fT, va_up_self]
  · rw [va_up_ne _ _ hb]; simp only [fT, va_up_ne _ _ hb]
theorem xn_get {a index : Nat} {v : Value} (k : Nat) (ha : a ∈ LN) (hlink : Cond.fieldLinkNest d.1.cls index (TX0 k).1 (TX0 k).2.1 (TX0 k).2.2.1 "EditTree" ∈ nestF) (hk : k < 9) (hv : [.ref (xt a), .int (xtl a), .int (xnu a), .int (xti a), va_rf (xpa a), va_rf (xfa a), .int (xep a), .int (xel a), .int (xde a)][k]? = some v) (hd : decode d.2.1 pc = .ok (.getfield index, 3)) (hp : pc + 3 = pc') (kk : Ev g d pc' lv (v :: st) (wX g xo an ac am LN LT xt xar xnt xln xcu xck xcp xcl xmk xtl xnu xti xpa xfa xep xel xde xtc) Ph) : Ev g d pc lv (.ref a :: st) (wX g xo an ac am LN LT xt xar xnt xln xcu xck xcp xcl xmk xtl xnu xti xpa xfa xep xel xde xtc) Ph := by
  obtain ⟨q, hq⟩ := wX_node (g := g) (xo := xo) (an := an) (ac := ac) (am := am) (LN := LN) (LT := LT) (xt := xt) (xar := xar) (xnt := xnt) (xln := xln) (xcu := xcu) (xck := xck) (xcp := xcp) (xcl := xcl) (xmk := xmk) (xtl := xtl) (xnu := xnu) (xti := xti) (xpa := xpa) (xfa := xfa) (xep := xep) (xel := xel) (xde := xde) (xtc := xtc) ha
  exact ev_getN inX0 q k hq rfl hk hlink hv hd hp kk
end WR
section WP
variable {g : EG} {xo an ac am : Nat} {LN LT : List Nat} {xt : Nat → Nat} {xar : Nat → Option Nat} {xnt xln : Int32} {xcu : Nat} {xck : Int32} {xcp : Nat → Int32} {xcl : Int32} {xmk : Nat → Option Nat} {xtl xnu xti : Nat → Int32} {xpa xfa : Nat → Option Nat} {xep xel xde : Nat → Int32} {xtc : Nat → Nat → Int32}
variable {d : MD} {pc pc' tgt : Nat} {lv lv' : List (Option Value)} {st st' : List Value} {ws ws' : va_W} {Ph : Option Value → va_W → Prop}
theorem wX_set_textLength {A : Nat → Prop} {a q : Nat} (v : Int32) (hD : va_D A (wX g xo an ac am LN LT xt xar xnt xln xcu xck xcp xcl xmk xtl xnu xti xpa xfa xep xel xde xtc)) (ha : a ∈ LN) (hq : ((wX g xo an ac am LN LT xt xar xnt xln xcu xck xcp xcl xmk xtl xnu xti xpa xfa xep xel xde xtc))[q]? = some (a, fN xt xtl xnu xti xpa xfa xep xel xde a)) : ((wX g xo an ac am LN LT xt xar xnt xln xcu xck xcp xcl xmk xtl xnu xti xpa xfa xep xel xde xtc)).set q (a, .inr (0, [.ref (xt a), .int v, .int (xnu a), .int (xti a), va_rf (xpa a), va_rf (xfa a), .int (xep a), .int (xel a), .int (xde a)])) = (wX g xo an ac am LN LT xt xar xnt xln xcu xck xcp xcl xmk (va_up xtl a v) xnu xti xpa xfa xep xel xde xtc) := by
  unfold wX at hD hq ⊢
  rw [va_pl_set hD ha hq]
  congr 1
  refine va_pl_congr (fun b => ?_)
  by_cases hb : b = a
  · subst hb; rw [va_up_self]; simp only [fN, va_up_self]
  · rw [va_up_ne _ _ hb]; simp only [fN, va_up_ne _ _ hb]
theorem pX0_textLength {a : Nat} {v : Int32} (ho : d.1.cls = RX1) (ha : a ∈ LN) (hd : decode d.2.1 pc = .ok (.putfield 40, 3)) (hp : pc + 3 = pc') (kk : Ev g d pc' lv st (wX g xo an ac am LN LT xt xar xnt xln xcu xck xcp xcl xmk (va_up xtl a v) xnu xti xpa xfa xep xel xde xtc) Ph) : Ev g d pc lv (.int v :: .ref a :: st) (wX g xo an ac am LN LT xt xar xnt xln xcu xck xcp xcl xmk xtl xnu xti xpa xfa xep xel xde xtc) Ph := by
  obtain ⟨q, hq⟩ := wX_node (g := g) (xo := xo) (an := an) (ac := ac) (am := am) (LN := LN) (LT := LT) (xt := xt) (xar := xar) (xnt := xnt) (xln := xln) (xcu := xcu) (xck := xck) (xcp := xcp) (xcl := xcl) (xmk := xmk) (xtl := xtl) (xnu := xnu) (xti := xti) (xpa := xpa) (xfa := xfa) (xep := xep) (xel := xel) (xde := xde) (xtc := xtc) ha
  refine ev_putN inX0 tyX0_ok nmX0 q 1 hq rfl (by decide) (by rw [ho]; exact fnX0_textLength) rfl rfl rfl (show 1 < 9 by decide) hd hp (fun hA => ?_)
  obtain ⟨A, hD⟩ := hA
  have e := wX_set_textLength v hD ha hq
  exact Ev.eq rfl rfl rfl e kk
theorem wX_set_number {A : Nat → Prop} {a q : Nat} (v : Int32) (hD : va_D A (wX g xo an ac am LN LT xt xar xnt xln xcu xck xcp xcl xmk xtl xnu xti xpa xfa xep xel xde xtc)) (ha : a ∈ LN) (hq : ((wX g xo an ac am LN LT xt xar xnt xln xcu xck xcp xcl xmk xtl xnu xti xpa xfa xep xel xde xtc))[q]? = some (a, fN xt xtl xnu xti xpa xfa xep xel xde a)) : ((wX g xo an ac am LN LT xt xar xnt xln xcu xck xcp xcl xmk xtl xnu xti xpa xfa xep xel xde xtc)).set q (a, .inr (0, [.ref (xt a), .int (xtl a), .int v, .int (xti a), va_rf (xpa a), va_rf (xfa a), .int (xep a), .int (xel a), .int (xde a)])) = (wX g xo an ac am LN LT xt xar xnt xln xcu xck xcp xcl xmk xtl (va_up xnu a v) xti xpa xfa xep xel xde xtc) := by
  unfold wX at hD hq ⊢
  rw [va_pl_set hD ha hq]
  congr 1
  refine va_pl_congr (fun b => ?_)
  by_cases hb : b = a
  · subst hb; rw [va_up_self]; simp only [fN, va_up_self]
  · rw [va_up_ne _ _ hb]; simp only [fN, va_up_ne _ _ hb]
theorem pX0_number {a : Nat} {v : Int32} (ho : d.1.cls = RX1) (ha : a ∈ LN) (hd : decode d.2.1 pc = .ok (.putfield 55, 3)) (hp : pc + 3 = pc') (kk : Ev g d pc' lv st (wX g xo an ac am LN LT xt xar xnt xln xcu xck xcp xcl xmk xtl (va_up xnu a v) xti xpa xfa xep xel xde xtc) Ph) : Ev g d pc lv (.int v :: .ref a :: st) (wX g xo an ac am LN LT xt xar xnt xln xcu xck xcp xcl xmk xtl xnu xti xpa xfa xep xel xde xtc) Ph := by
  obtain ⟨q, hq⟩ := wX_node (g := g) (xo := xo) (an := an) (ac := ac) (am := am) (LN := LN) (LT := LT) (xt := xt) (xar := xar) (xnt := xnt) (xln := xln) (xcu := xcu) (xck := xck) (xcp := xcp) (xcl := xcl) (xmk := xmk) (xtl := xtl) (xnu := xnu) (xti := xti) (xpa := xpa) (xfa := xfa) (xep := xep) (xel := xel) (xde := xde) (xtc := xtc) ha
  refine ev_putN inX0 tyX0_ok nmX0 q 2 hq rfl (by decide) (by rw [ho]; exact fnX0_number) rfl rfl rfl (show 2 < 9 by decide) hd hp (fun hA => ?_)
  obtain ⟨A, hD⟩ := hA
  have e := wX_set_number v hD ha hq
  exact Ev.eq rfl rfl rfl e kk
theorem wX_set_time {A : Nat → Prop} {a q : Nat} (v : Int32) (hD : va_D A (wX g xo an ac am LN LT xt xar xnt xln xcu xck xcp xcl xmk xtl xnu xti xpa xfa xep xel xde xtc)) (ha : a ∈ LN) (hq : ((wX g xo an ac am LN LT xt xar xnt xln xcu xck xcp xcl xmk xtl xnu xti xpa xfa xep xel xde xtc))[q]? = some (a, fN xt xtl xnu xti xpa xfa xep xel xde a)) : ((wX g xo an ac am LN LT xt xar xnt xln xcu xck xcp xcl xmk xtl xnu xti xpa xfa xep xel xde xtc)).set q (a, .inr (0, [.ref (xt a), .int (xtl a), .int (xnu a), .int v, va_rf (xpa a), va_rf (xfa a), .int (xep a), .int (xel a), .int (xde a)])) = (wX g xo an ac am LN LT xt xar xnt xln xcu xck xcp xcl xmk xtl xnu (va_up xti a v) xpa xfa xep xel xde xtc) := by
  unfold wX at hD hq ⊢
  rw [va_pl_set hD ha hq]
  congr 1
  refine va_pl_congr (fun b => ?_)
  by_cases hb : b = a
  · subst hb; rw [va_up_self]; simp only [fN, va_up_self]
  · rw [va_up_ne _ _ hb]; simp only [fN, va_up_ne _ _ hb]
theorem pX0_time {a : Nat} {v : Int32} (ho : d.1.cls = RX1) (ha : a ∈ LN) (hd : decode d.2.1 pc = .ok (.putfield 111, 3)) (hp : pc + 3 = pc') (kk : Ev g d pc' lv st (wX g xo an ac am LN LT xt xar xnt xln xcu xck xcp xcl xmk xtl xnu (va_up xti a v) xpa xfa xep xel xde xtc) Ph) : Ev g d pc lv (.int v :: .ref a :: st) (wX g xo an ac am LN LT xt xar xnt xln xcu xck xcp xcl xmk xtl xnu xti xpa xfa xep xel xde xtc) Ph := by
  obtain ⟨q, hq⟩ := wX_node (g := g) (xo := xo) (an := an) (ac := ac) (am := am) (LN := LN) (LT := LT) (xt := xt) (xar := xar) (xnt := xnt) (xln := xln) (xcu := xcu) (xck := xck) (xcp := xcp) (xcl := xcl) (xmk := xmk) (xtl := xtl) (xnu := xnu) (xti := xti) (xpa := xpa) (xfa := xfa) (xep := xep) (xel := xel) (xde := xde) (xtc := xtc) ha
  refine ev_putN inX0 tyX0_ok nmX0 q 3 hq rfl (by decide) (by rw [ho]; exact fnX0_time) rfl rfl rfl (show 3 < 9 by decide) hd hp (fun hA => ?_)
  obtain ⟨A, hD⟩ := hA
  have e := wX_set_time v hD ha hq
  exact Ev.eq rfl rfl rfl e kk
theorem wX_set_parent {A : Nat → Prop} {a q : Nat} (v : Option Nat) (hD : va_D A (wX g xo an ac am LN LT xt xar xnt xln xcu xck xcp xcl xmk xtl xnu xti xpa xfa xep xel xde xtc)) (ha : a ∈ LN) (hq : ((wX g xo an ac am LN LT xt xar xnt xln xcu xck xcp xcl xmk xtl xnu xti xpa xfa xep xel xde xtc))[q]? = some (a, fN xt xtl xnu xti xpa xfa xep xel xde a)) : ((wX g xo an ac am LN LT xt xar xnt xln xcu xck xcp xcl xmk xtl xnu xti xpa xfa xep xel xde xtc)).set q (a, .inr (0, [.ref (xt a), .int (xtl a), .int (xnu a), .int (xti a), va_rf v, va_rf (xfa a), .int (xep a), .int (xel a), .int (xde a)])) = (wX g xo an ac am LN LT xt xar xnt xln xcu xck xcp xcl xmk xtl xnu xti (va_up xpa a v) xfa xep xel xde xtc) := by
  unfold wX at hD hq ⊢
  rw [va_pl_set hD ha hq]
  congr 1
  refine va_pl_congr (fun b => ?_)
  by_cases hb : b = a
  · subst hb; rw [va_up_self]; simp only [fN, va_up_self]
  · rw [va_up_ne _ _ hb]; simp only [fN, va_up_ne _ _ hb]
theorem pX0_parent {a : Nat} {v : Option Nat} (ho : d.1.cls = RX1) (ha : a ∈ LN) (hd : decode d.2.1 pc = .ok (.putfield 62, 3)) (hp : pc + 3 = pc') (kk : Ev g d pc' lv st (wX g xo an ac am LN LT xt xar xnt xln xcu xck xcp xcl xmk xtl xnu xti (va_up xpa a v) xfa xep xel xde xtc) Ph) : Ev g d pc lv (va_rf v :: .ref a :: st) (wX g xo an ac am LN LT xt xar xnt xln xcu xck xcp xcl xmk xtl xnu xti xpa xfa xep xel xde xtc) Ph := by
  obtain ⟨q, hq⟩ := wX_node (g := g) (xo := xo) (an := an) (ac := ac) (am := am) (LN := LN) (LT := LT) (xt := xt) (xar := xar) (xnt := xnt) (xln := xln) (xcu := xcu) (xck := xck) (xcp := xcp) (xcl := xcl) (xmk := xmk) (xtl := xtl) (xnu := xnu) (xti := xti) (xpa := xpa) (xfa := xfa) (xep := xep) (xel := xel) (xde := xde) (xtc := xtc) ha
  refine ev_putN inX0 tyX0_ok nmX0 q 4 hq rfl (by decide) (by rw [ho]; exact fnX0_parent) rfl (by cases v <;> rfl) (by cases v <;> rfl) (show 4 < 9 by decide) hd hp (fun hA => ?_)
  obtain ⟨A, hD⟩ := hA
  have e := wX_set_parent v hD ha hq
  exact Ev.eq rfl rfl rfl e kk
theorem wX_set_favourite {A : Nat → Prop} {a q : Nat} (v : Option Nat) (hD : va_D A (wX g xo an ac am LN LT xt xar xnt xln xcu xck xcp xcl xmk xtl xnu xti xpa xfa xep xel xde xtc)) (ha : a ∈ LN) (hq : ((wX g xo an ac am LN LT xt xar xnt xln xcu xck xcp xcl xmk xtl xnu xti xpa xfa xep xel xde xtc))[q]? = some (a, fN xt xtl xnu xti xpa xfa xep xel xde a)) : ((wX g xo an ac am LN LT xt xar xnt xln xcu xck xcp xcl xmk xtl xnu xti xpa xfa xep xel xde xtc)).set q (a, .inr (0, [.ref (xt a), .int (xtl a), .int (xnu a), .int (xti a), va_rf (xpa a), va_rf v, .int (xep a), .int (xel a), .int (xde a)])) = (wX g xo an ac am LN LT xt xar xnt xln xcu xck xcp xcl xmk xtl xnu xti xpa (va_up xfa a v) xep xel xde xtc) := by
  unfold wX at hD hq ⊢
  rw [va_pl_set hD ha hq]
  congr 1
  refine va_pl_congr (fun b => ?_)
  by_cases hb : b = a
  · subst hb; rw [va_up_self]; simp only [fN, va_up_self]
  · rw [va_up_ne _ _ hb]; simp only [fN, va_up_ne _ _ hb]
theorem pX0_favourite {a : Nat} {v : Option Nat} (ho : d.1.cls = RX1) (ha : a ∈ LN) (hd : decode d.2.1 pc = .ok (.putfield 69, 3)) (hp : pc + 3 = pc') (kk : Ev g d pc' lv st (wX g xo an ac am LN LT xt xar xnt xln xcu xck xcp xcl xmk xtl xnu xti xpa (va_up xfa a v) xep xel xde xtc) Ph) : Ev g d pc lv (va_rf v :: .ref a :: st) (wX g xo an ac am LN LT xt xar xnt xln xcu xck xcp xcl xmk xtl xnu xti xpa xfa xep xel xde xtc) Ph := by
  obtain ⟨q, hq⟩ := wX_node (g := g) (xo := xo) (an := an) (ac := ac) (am := am) (LN := LN) (LT := LT) (xt := xt) (xar := xar) (xnt := xnt) (xln := xln) (xcu := xcu) (xck := xck) (xcp := xcp) (xcl := xcl) (xmk := xmk) (xtl := xtl) (xnu := xnu) (xti := xti) (xpa := xpa) (xfa := xfa) (xep := xep) (xel := xel) (xde := xde) (xtc := xtc) ha
  refine ev_putN inX0 tyX0_ok nmX0 q 5 hq rfl (by decide) (by rw [ho]; exact fnX0_favourite) rfl (by cases v <;> rfl) (by cases v <;> rfl) (show 5 < 9 by decide) hd hp (fun hA => ?_)
  obtain ⟨A, hD⟩ := hA
  have e := wX_set_favourite v hD ha hq
  exact Ev.eq rfl rfl rfl e kk
theorem wX_set_editPosition {A : Nat → Prop} {a q : Nat} (v : Int32) (hD : va_D A (wX g xo an ac am LN LT xt xar xnt xln xcu xck xcp xcl xmk xtl xnu xti xpa xfa xep xel xde xtc)) (ha : a ∈ LN) (hq : ((wX g xo an ac am LN LT xt xar xnt xln xcu xck xcp xcl xmk xtl xnu xti xpa xfa xep xel xde xtc))[q]? = some (a, fN xt xtl xnu xti xpa xfa xep xel xde a)) : ((wX g xo an ac am LN LT xt xar xnt xln xcu xck xcp xcl xmk xtl xnu xti xpa xfa xep xel xde xtc)).set q (a, .inr (0, [.ref (xt a), .int (xtl a), .int (xnu a), .int (xti a), va_rf (xpa a), va_rf (xfa a), .int v, .int (xel a), .int (xde a)])) = (wX g xo an ac am LN LT xt xar xnt xln xcu xck xcp xcl xmk xtl xnu xti xpa xfa (va_up xep a v) xel xde xtc) := by
  unfold wX at hD hq ⊢
  rw [va_pl_set hD ha hq]
  congr 1
  refine va_pl_congr (fun b => ?_)
  by_cases hb : b = a
  · subst hb; rw [va_up_self]; simp only [fN, va_up_self]
  · rw [va_up_ne _ _ hb]; simp only [fN, va_up_ne _ _ hb]
theorem pX0_editPosition {a : Nat} {v : Int32} (ho : d.1.cls = RX1) (ha : a ∈ LN) (hd : decode d.2.1 pc = .ok (.putfield 98, 3)) (hp : pc + 3 = pc') (kk : Ev g d pc' lv st (wX g xo an ac am LN LT xt xar xnt xln xcu xck xcp xcl xmk xtl xnu xti xpa xfa (va_up xep a v) xel xde xtc) Ph) : Ev g d pc lv (.int v :: .ref a :: st) (wX g xo an ac am LN LT xt xar xnt xln xcu xck xcp xcl xmk xtl xnu xti xpa xfa xep xel xde xtc) Ph := by
  obtain ⟨q, hq⟩ := wX_node (g := g) (xo := xo) (an := an) (ac := ac) (am := am) (LN := LN) (LT := LT) (xt := xt) (xar := xar) (xnt := xnt) (xln := xln) (xcu := xcu) (xck := xck) (xcp := xcp) (xcl := xcl) (xmk := xmk) (xtl := xtl) (xnu := xnu) (xti := xti) (xpa := xpa) (xfa := xfa) (xep := xep) (xel := xel) (xde := xde) (xtc := xtc) ha
  refine ev_putN inX0 tyX0_ok nmX0 q 6 hq rfl (by decide) (by rw [ho]; exact fnX0_editPosition) rfl rfl rfl (show 6 < 9 by decide) hd hp (fun hA => ?_)
  obtain ⟨A, hD⟩ := hA
  have e := wX_set_editPosition v hD ha hq
  exact Ev.eq rfl rfl rfl e kk
theorem wX_set_editLength {A : Nat → Prop} {a q : Nat} (v : Int32) (hD : va_D A (wX g xo an ac am LN LT xt xar xnt xln xcu xck xcp xcl xmk xtl xnu xti xpa xfa xep xel xde xtc)) (ha : a ∈ LN) (hq : ((wX g xo an ac am LN LT xt xar xnt xln xcu xck xcp xcl xmk xtl xnu xti xpa xfa xep xel xde xtc))[q]? = some (a, fN xt xtl xnu xti xpa xfa xep xel xde a)) : ((wX g xo an ac am LN LT xt xar xnt xln xcu xck xcp xcl xmk xtl xnu xti xpa xfa xep xel xde xtc)).set q (a, .inr (0, [.ref (xt a), .int (xtl a), .int (xnu a), .int (xti a), va_rf (xpa a), va_rf (xfa a), .int (xep a), .int v, .int (xde a)])) = (wX g xo an ac am LN LT xt xar xnt xln xcu xck xcp xcl xmk xtl xnu xti xpa xfa xep (va_up xel a v) xde xtc) := by
  unfold wX at hD hq ⊢
  rw [va_pl_set hD ha hq]
  congr 1
  refine va_pl_congr (fun b => ?_)
  by_cases hb : b = a
  · subst hb; rw [va_up_self]; simp only [fN, va_up_self]
  · rw [va_up_ne _ _ hb]; simp only [fN, va_up_ne _ _ hb]
theorem pX0_editLength {a : Nat} {v : Int32} (ho : d.1.cls = RX1) (ha : a ∈ LN) (hd : decode d.2.1 pc = .ok (.putfield 92, 3)) (hp : pc + 3 = pc') (kk : Ev g d pc' lv st (wX g xo an ac am LN LT xt xar xnt xln xcu xck xcp xcl xmk xtl xnu xti xpa xfa xep (va_up xel a v) xde xtc) Ph) : Ev g d pc lv (.int v :: .ref a :: st) (wX g xo an ac am LN LT xt xar xnt xln xcu xck xcp xcl xmk xtl xnu xti xpa xfa xep xel xde xtc) Ph := by
  obtain ⟨q, hq⟩ := wX_node (g := g) (xo := xo) (an := an) (ac := ac) (am := am) (LN := LN) (LT := LT) (xt := xt) (xar := xar) (xnt := xnt) (xln := xln) (xcu := xcu) (xck := xck) (xcp := xcp) (xcl := xcl) (xmk := xmk) (xtl := xtl) (xnu := xnu) (xti := xti) (xpa := xpa) (xfa := xfa) (xep := xep) (xel := xel) (xde := xde) (xtc := xtc) ha
  refine ev_putN inX0 tyX0_ok nmX0 q 7 hq rfl (by decide) (by rw [ho]; exact fnX0_editLength) rfl rfl rfl (show 7 < 9 by decide) hd hp (fun hA => ?_)
  obtain ⟨A, hD⟩ := hA
  have e := wX_set_editLength v hD ha hq
  exact Ev.eq rfl rfl rfl e kk
theorem wX_set_deletion {A : Nat → Prop} {a q : Nat} (v : Int32) (hD : va_D A (wX g xo an ac am LN LT xt xar xnt xln xcu xck xcp xcl xmk xtl xnu xti xpa xfa xep xel xde xtc)) (ha : a ∈ LN) (hq : ((wX g xo an ac am LN LT xt xar xnt xln xcu xck xcp xcl xmk xtl xnu xti xpa xfa xep xel xde xtc))[q]? = some (a, fN xt xtl xnu xti xpa xfa xep xel xde a)) : ((wX g xo an ac am LN LT xt xar xnt xln xcu xck xcp xcl xmk xtl xnu xti xpa xfa xep xel xde xtc)).set q (a, .inr (0, [.ref (xt a), .int (xtl a), .int (xnu a), .int (xti a), va_rf (xpa a), va_rf (xfa a), .int (xep a), .int (xel a), .int v])) = (wX g xo an ac am LN LT xt xar xnt xln xcu xck xcp xcl xmk xtl xnu xti xpa xfa xep xel (va_up xde a v) xtc) := by
  unfold wX at hD hq ⊢
  rw [va_pl_set hD ha hq]
  congr 1
  refine va_pl_congr (fun b => ?_)
  by_cases hb : b = a
  · subst hb; rw [va_up_self]; simp only [fN, va_up_self]
  · rw [va_up_ne _ _ hb]; simp only [fN, va_up_ne _ _ hb]
theorem pX0_deletion {a : Nat} {v : Int32} (ho : d.1.cls = RX1) (ha : a ∈ LN) (hz : v = 0 ∨ v = 1) (hd : decode d.2.1 pc = .ok (.putfield 88, 3)) (hp : pc + 3 = pc') (kk : Ev g d pc' lv st (wX g xo an ac am LN LT xt xar xnt xln xcu xck xcp xcl xmk xtl xnu xti xpa xfa xep xel (va_up xde a v) xtc) Ph) : Ev g d pc lv (.int v :: .ref a :: st) (wX g xo an ac am LN LT xt xar xnt xln xcu xck xcp xcl xmk xtl xnu xti xpa xfa xep xel xde xtc) Ph := by
  obtain ⟨q, hq⟩ := wX_node (g := g) (xo := xo) (an := an) (ac := ac) (am := am) (LN := LN) (LT := LT) (xt := xt) (xar := xar) (xnt := xnt) (xln := xln) (xcu := xcu) (xck := xck) (xcp := xcp) (xcl := xcl) (xmk := xmk) (xtl := xtl) (xnu := xnu) (xti := xti) (xpa := xpa) (xfa := xfa) (xep := xep) (xel := xel) (xde := xde) (xtc := xtc) ha
  refine ev_putN inX0 tyX0_ok nmX0 q 8 hq rfl (by decide) (by rw [ho]; exact fnX0_deletion) rfl (by rcases hz with rfl | rfl <;> rfl) (by rcases hz with rfl | rfl <;> rfl) (show 8 < 9 by decide) hd hp (fun hA => ?_)
  obtain ⟨A, hD⟩ := hA
  have e := wX_set_deletion v hD ha hq
  exact Ev.eq rfl rfl rfl e kk
theorem pX1_nodeTotal {v : Int32} (ho : d.1.cls = RX1) (hd : decode d.2.1 pc = .ok (.putfield 15, 3)) (hp : pc + 3 = pc') (kk : Ev g d pc' lv st (wX g xo an ac am LN LT xt xar (v) xln xcu xck xcp xcl xmk xtl xnu xti xpa xfa xep xel xde xtc) Ph) : Ev g d pc lv (.int v :: .ref xo :: st) (wX g xo an ac am LN LT xt xar xnt xln xcu xck xcp xcl xmk xtl xnu xti xpa xfa xep xel xde xtc) Ph :=
  ev_put inX1 tyX1_ok nmX1 0 1 rfl rfl (by decide) (by rw [ho]; exact flX1_nodeTotal) rfl rfl rfl (show 1 < 8 by decide) hd hp rfl kk
theorem pX1_lastNumber {v : Int32} (ho : d.1.cls = RX1) (hd : decode d.2.1 pc = .ok (.putfield 19, 3)) (hp : pc + 3 = pc') (kk : Ev g d pc' lv st (wX g xo an ac am LN LT xt xar xnt (v) xcu xck xcp xcl xmk xtl xnu xti xpa xfa xep xel xde xtc) Ph) : Ev g d pc lv (.int v :: .ref xo :: st) (wX g xo an ac am LN LT xt xar xnt xln xcu xck xcp xcl xmk xtl xnu xti xpa xfa xep xel xde xtc) Ph :=
  ev_put inX1 tyX1_ok nmX1 0 2 rfl rfl (by decide) (by rw [ho]; exact flX1_lastNumber) rfl rfl rfl (show 2 < 8 by decide) hd hp rfl kk
theorem pX1_currentNode {v : Nat} (ho : d.1.cls = RX1) (hd : decode d.2.1 pc = .ok (.putfield 36, 3)) (hp : pc + 3 = pc') (kk : Ev g d pc' lv st (wX g xo an ac am LN LT xt xar xnt xln (v) xck xcp xcl xmk xtl xnu xti xpa xfa xep xel xde xtc) Ph) : Ev g d pc lv (.ref v :: .ref xo :: st) (wX g xo an ac am LN LT xt xar xnt xln xcu xck xcp xcl xmk xtl xnu xti xpa xfa xep xel xde xtc) Ph :=
  ev_put inX1 tyX1_ok nmX1 0 3 rfl rfl (by decide) (by rw [ho]; exact flX1_currentNode) rfl rfl rfl (show 3 < 8 by decide) hd hp rfl kk
theorem pX1_clock {v : Int32} (ho : d.1.cls = RX1) (hd : decode d.2.1 pc = .ok (.putfield 22, 3)) (hp : pc + 3 = pc') (kk : Ev g d pc' lv st (wX g xo an ac am LN LT xt xar xnt xln xcu (v) xcp xcl xmk xtl xnu xti xpa xfa xep xel xde xtc) Ph) : Ev g d pc lv (.int v :: .ref xo :: st) (wX g xo an ac am LN LT xt xar xnt xln xcu xck xcp xcl xmk xtl xnu xti xpa xfa xep xel xde xtc) Ph :=
  ev_put inX1 tyX1_ok nmX1 0 4 rfl rfl (by decide) (by rw [ho]; exact flX1_clock) rfl rfl rfl (show 4 < 8 by decide) hd hp rfl kk
theorem pX1_clipLength {v : Int32} (ho : d.1.cls = RX1) (hd : decode d.2.1 pc = .ok (.putfield 29, 3)) (hp : pc + 3 = pc') (kk : Ev g d pc' lv st (wX g xo an ac am LN LT xt xar xnt xln xcu xck xcp (v) xmk xtl xnu xti xpa xfa xep xel xde xtc) Ph) : Ev g d pc lv (.int v :: .ref xo :: st) (wX g xo an ac am LN LT xt xar xnt xln xcu xck xcp xcl xmk xtl xnu xti xpa xfa xep xel xde xtc) Ph :=
  ev_put inX1 tyX1_ok nmX1 0 6 rfl rfl (by decide) (by rw [ho]; exact flX1_clipLength) rfl rfl rfl (show 6 < 8 by decide) hd hp rfl kk
end WP
section WM
variable {g : EG} {mo : Nat} {mr : Nat → Nat} {mnd mgv mcu mck mcl msh : Int32} {mhh : Int64} {mnu mpa mfa mti mpo mle mde msr mtl mtx mcp mmk mns : Nat → Int32}
variable {d : MD} {pc pc' tgt : Nat} {lv lv' : List (Option Value)} {st st' : List Value} {Ph : Option Value → va_W → Prop}
theorem pX2_nodes {v : Int32} (ho : d.1.cls = RX2) (hd : decode d.2.1 pc = .ok (.putfield 7, 3)) (hp : pc + 3 = pc') (kk : Ev g d pc' lv st (wM g mo mr (v) mgv mcu mck mcl msh mhh mnu mpa mfa mti mpo mle mde msr mtl mtx mcp mmk mns) Ph) : Ev g d pc lv (.int v :: .ref mo :: st) (wM g mo mr mnd mgv mcu mck mcl msh mhh mnu mpa mfa mti mpo mle mde msr mtl mtx mcp mmk mns) Ph :=
  ev_put inX2 tyX2_ok nmX2 0 0 rfl rfl (by decide) (by rw [ho]; exact flX2_nodes) rfl rfl rfl (show 0 < 20 by decide) hd hp rfl kk
theorem pX2_given {v : Int32} (ho : d.1.cls = RX2) (hd : decode d.2.1 pc = .ok (.putfield 13, 3)) (hp : pc + 3 = pc') (kk : Ev g d pc' lv st (wM g mo mr mnd (v) mcu mck mcl msh mhh mnu mpa mfa mti mpo mle mde msr mtl mtx mcp mmk mns) Ph) : Ev g d pc lv (.int v :: .ref mo :: st) (wM g mo mr mnd mgv mcu mck mcl msh mhh mnu mpa mfa mti mpo mle mde msr mtl mtx mcp mmk mns) Ph :=
  ev_put inX2 tyX2_ok nmX2 0 1 rfl rfl (by decide) (by rw [ho]; exact flX2_given) rfl rfl rfl (show 1 < 20 by decide) hd hp rfl kk
theorem pX2_current {v : Int32} (ho : d.1.cls = RX2) (hd : decode d.2.1 pc = .ok (.putfield 67, 3)) (hp : pc + 3 = pc') (kk : Ev g d pc' lv st (wM g mo mr mnd mgv (v) mck mcl msh mhh mnu mpa mfa mti mpo mle mde msr mtl mtx mcp mmk mns) Ph) : Ev g d pc lv (.int v :: .ref mo :: st) (wM g mo mr mnd mgv mcu mck mcl msh mhh mnu mpa mfa mti mpo mle mde msr mtl mtx mcp mmk mns) Ph :=
  ev_put inX2 tyX2_ok nmX2 0 12 rfl rfl (by decide) (by rw [ho]; exact flX2_current) rfl rfl rfl (show 12 < 20 by decide) hd hp rfl kk
theorem pX2_clock {v : Int32} (ho : d.1.cls = RX2) (hd : decode d.2.1 pc = .ok (.putfield 64, 3)) (hp : pc + 3 = pc') (kk : Ev g d pc' lv st (wM g mo mr mnd mgv mcu (v) mcl msh mhh mnu mpa mfa mti mpo mle mde msr mtl mtx mcp mmk mns) Ph) : Ev g d pc lv (.int v :: .ref mo :: st) (wM g mo mr mnd mgv mcu mck mcl msh mhh mnu mpa mfa mti mpo mle mde msr mtl mtx mcp mmk mns) Ph :=
  ev_put inX2 tyX2_ok nmX2 0 13 rfl rfl (by decide) (by rw [ho]; exact flX2_clock) rfl rfl rfl (show 13 < 20 by decide) hd hp rfl kk
theorem pX2_clipLength {v : Int32} (ho : d.1.cls = RX2) (hd : decode d.2.1 pc = .ok (.putfield 74, 3)) (hp : pc + 3 = pc') (kk : Ev g d pc' lv st (wM g mo mr mnd mgv mcu mck (v) msh mhh mnu mpa mfa mti mpo mle mde msr mtl mtx mcp mmk mns) Ph) : Ev g d pc lv (.int v :: .ref mo :: st) (wM g mo mr mnd mgv mcu mck mcl msh mhh mnu mpa mfa mti mpo mle mde msr mtl mtx mcp mmk mns) Ph :=
  ev_put inX2 tyX2_ok nmX2 0 14 rfl rfl (by decide) (by rw [ho]; exact flX2_clipLength) rfl rfl rfl (show 14 < 20 by decide) hd hp rfl kk
theorem pX2_shifted {v : Int32} (ho : d.1.cls = RX2) (hd : decode d.2.1 pc = .ok (.putfield 105, 3)) (hp : pc + 3 = pc') (kk : Ev g d pc' lv st (wM g mo mr mnd mgv mcu mck mcl (v) mhh mnu mpa mfa mti mpo mle mde msr mtl mtx mcp mmk mns) Ph) : Ev g d pc lv (.int v :: .ref mo :: st) (wM g mo mr mnd mgv mcu mck mcl msh mhh mnu mpa mfa mti mpo mle mde msr mtl mtx mcp mmk mns) Ph :=
  ev_put inX2 tyX2_ok nmX2 0 18 rfl rfl (by decide) (by rw [ho]; exact flX2_shifted) rfl rfl rfl (show 18 < 20 by decide) hd hp rfl kk
theorem pX2_h {v : Int64} (ho : d.1.cls = RX2) (hd : decode d.2.1 pc = .ok (.putfield 143, 3)) (hp : pc + 3 = pc') (kk : Ev g d pc' lv st (wM g mo mr mnd mgv mcu mck mcl msh (v) mnu mpa mfa mti mpo mle mde msr mtl mtx mcp mmk mns) Ph) : Ev g d pc lv (.long v :: .ref mo :: st) (wM g mo mr mnd mgv mcu mck mcl msh mhh mnu mpa mfa mti mpo mle mde msr mtl mtx mcp mmk mns) Ph :=
  ev_put inX2 tyX2_ok nmX2 0 19 rfl rfl (by decide) (by rw [ho]; exact flX2_h) rfl rfl rfl (show 19 < 20 by decide) hd hp rfl kk
end WM
end
section
/-! ===== the history tree as a mathematical value: nodes are their numbers ===== -/
abbrev SS : Type := List Nat × Nat × Nat × Nat × (Nat → Option Nat) × (Nat → Option Nat) × (Nat → Nat) × (Nat → Nat) × (Nat → Nat) × (Nat → Bool) × (Nat → Nat) × (Nat → Nat → Int32) × (Nat → Nat → Int32) × Nat × (Nat → Int32) × (Nat → Option Nat)
/-- the numbers that are there, ascending -/
def sL (S : SS) : List Nat := S.1
/-- the next number -/
def sgv (S : SS) : Nat := S.2.1
def scu (S : SS) : Nat := S.2.2.1
def sck (S : SS) : Nat := S.2.2.2.1
def spa (S : SS) : Nat → Option Nat := S.2.2.2.2.1
def sfa (S : SS) : Nat → Option Nat := S.2.2.2.2.2.1
def sti (S : SS) : Nat → Nat := S.2.2.2.2.2.2.1
def spo (S : SS) : Nat → Nat := S.2.2.2.2.2.2.2.1
def sle (S : SS) : Nat → Nat := S.2.2.2.2.2.2.2.2.1
def sde (S : SS) : Nat → Bool := S.2.2.2.2.2.2.2.2.2.1
def stl (S : SS) : Nat → Nat := S.2.2.2.2.2.2.2.2.2.2.1
def stx (S : SS) : Nat → Nat → Int32 := S.2.2.2.2.2.2.2.2.2.2.2.1
def ssr (S : SS) : Nat → Nat → Int32 := S.2.2.2.2.2.2.2.2.2.2.2.2.1
def scl (S : SS) : Nat := S.2.2.2.2.2.2.2.2.2.2.2.2.2.1
def scp (S : SS) : Nat → Int32 := S.2.2.2.2.2.2.2.2.2.2.2.2.2.2.1
def smk (S : SS) : Nat → Option Nat := S.2.2.2.2.2.2.2.2.2.2.2.2.2.2.2
def oI : Option Nat → Int32
  | none => (-7)
  | some a => nI a
def bI (b : Bool) : Int32 := if b then nI 1 else nI 0
def chOk (c : Int32) : Prop := fits .char (.int c) = true
/-- the place of a number -/
def ix (S : SS) (a : Nat) : Nat := (sL S).idxOf a
/-- a node's row in the reference, at its place -/
def rowM (S : SS) (k a : Nat) (mnu mpa mfa mti mpo mle mde msr mtl mtx : Nat → Int32) : Prop :=
  mnu k = nI a ∧ mpa k = oI (spa S a) ∧ mfa k = oI (sfa S a) ∧ mti k = nI (sti S a) ∧ mpo k = nI (spo S a) ∧ mle k = nI (sle S a) ∧ mde k = bI (sde S a) ∧ mtl k = nI (stl S a) ∧ (∀ i, i < sle S a → msr (6 * k + i) = ssr S a i) ∧ (∀ i, i < stl S a → mtx (40 * k + i) = stx S a i)
def RM (S : SS) (mnd mgv mcu mck mcl msh : Int32) (mhh : Int64) (mnu mpa mfa mti mpo mle mde msr mtl mtx mcp mmk mns : Nat → Int32) : Prop :=
  mnd = nI (sL S).length ∧ mgv = nI (sgv S) ∧ mcu = nI (ix S (scu S)) ∧ mck = nI (sck S) ∧ mcl = nI (scl S) ∧ (∀ a ∈ sL S, rowM S (ix S a) a mnu mpa mfa mti mpo mle mde msr mtl mtx) ∧ (∀ i, i < scl S → mcp i = scp S i) ∧ (∀ i, i < 5 → mmk i = oI (smk S i))
/-- the path of a node, from itself up -/
def pth (pa : Nat → Option Nat) : Nat → Nat → List Nat
  | 0, _ => []
  | n + 1, a => a :: (match pa a with
    | none => []
    | some b => pth pa n b)
def path (S : SS) (a : Nat) : List Nat := pth (spa S) (a + 1) a
/-- a child's text out of its parent's -/
def editOk (S : SS) (a b : Nat) : Prop :=
  1 ≤ sle S a ∧ sle S a ≤ 6 ∧
  (sde S a = true → spo S a + sle S a ≤ stl S b ∧ stl S a = stl S b - sle S a ∧ (∀ i, i < sle S a → ssr S a i = stx S b (spo S a + i)) ∧ (∀ i, i < spo S a → stx S a i = stx S b i) ∧ ∀ i, spo S a ≤ i → i < stl S a → stx S a i = stx S b (i + sle S a)) ∧
  (sde S a = false → spo S a ≤ stl S b ∧ stl S a = stl S b + sle S a ∧ (∀ i, i < sle S a → stx S a (spo S a + i) = ssr S a i) ∧ (∀ i, i < spo S a → stx S a i = stx S b i) ∧ ∀ i, spo S a ≤ i → i < stl S b → stx S a (i + sle S a) = stx S b i)
/-- the tree's own laws (they say nothing of times, marks, the clip) -/
def Tree (S : SS) : Prop :=
  (sL S)[0]? = some 0 ∧ (sL S).Pairwise (· < ·) ∧ (sL S).length ≤ 24 ∧ (∀ a ∈ sL S, a < sgv S) ∧ sgv S ≤ 600 ∧ spa S 0 = none ∧ (∀ a ∈ sL S, a ≠ 0 → ∃ b, spa S a = some b ∧ b ∈ sL S ∧ b < a)
theorem Tree.root {S : SS} (h : Tree S) : (sL S)[0]? = some 0 := h.1
theorem Tree.sorted {S : SS} (h : Tree S) : (sL S).Pairwise (· < ·) := h.2.1
theorem Tree.len {S : SS} (h : Tree S) : (sL S).length ≤ 24 := h.2.2.1
theorem Tree.lt {S : SS} (h : Tree S) {a : Nat} (ha : a ∈ sL S) : a < 600 := Nat.lt_of_lt_of_le (h.2.2.2.1 a ha) h.2.2.2.2.1
theorem Tree.ltg {S : SS} (h : Tree S) {a : Nat} (ha : a ∈ sL S) : a < sgv S := h.2.2.2.1 a ha
theorem Tree.gv {S : SS} (h : Tree S) : sgv S ≤ 600 := h.2.2.2.2.1
theorem Tree.pa0 {S : SS} (h : Tree S) : spa S 0 = none := h.2.2.2.2.2.1
theorem Tree.par {S : SS} (h : Tree S) {a b : Nat} (ha : a ∈ sL S) (hb : spa S a = some b) : b ∈ sL S ∧ b < a := by
  have hn : a ≠ 0 := fun e => by rw [e, h.pa0] at hb; cases hb
  obtain ⟨c, h1, h2, h3⟩ := h.2.2.2.2.2.2 a ha hn
  rw [h1] at hb
  cases hb
  exact ⟨h2, h3⟩
theorem Tree.none {S : SS} (h : Tree S) {a : Nat} (ha : a ∈ sL S) (hb : spa S a = none) : a = 0 := by
  by_cases hn : a = 0
  · exact hn
  · obtain ⟨c, h1, -⟩ := h.2.2.2.2.2.2 a ha hn
    rw [h1] at hb
    cases hb
theorem Tree.mem {S : SS} {k a : Nat} (h : (sL S)[k]? = some a) : a ∈ sL S := List.mem_of_getElem? h
theorem Tree.idx {S : SS} {k a : Nat} (h : (sL S)[k]? = some a) : k < (sL S).length := (List.getElem?_eq_some_iff.mp h).1
theorem Tree.mem0 {S : SS} (h : Tree S) : 0 ∈ sL S := List.mem_of_getElem? h.root
theorem Tree.mono {S : SS} (h : Tree S) {i j a b : Nat} (hi : (sL S)[i]? = some a) (hj : (sL S)[j]? = some b) (hij : i < j) : a < b := by
  obtain ⟨h1, e1⟩ := List.getElem?_eq_some_iff.mp hi
  obtain ⟨h2, e2⟩ := List.getElem?_eq_some_iff.mp hj
  have := List.pairwise_iff_getElem.mp h.sorted i j h1 h2 hij
  rw [e1, e2] at this
  exact this
theorem Tree.inj {S : SS} (h : Tree S) {i j a : Nat} (hi : (sL S)[i]? = some a) (hj : (sL S)[j]? = some a) : i = j := by
  rcases Nat.lt_trichotomy i j with q | q | q
  · exact absurd (h.mono hi hj q) (Nat.lt_irrefl a)
  · exact q
  · exact absurd (h.mono hj hi q) (Nat.lt_irrefl a)
theorem ix_get {S : SS} {a : Nat} (ha : a ∈ sL S) : (sL S)[ix S a]? = some a := by
  have h : ix S a < (sL S).length := List.idxOf_lt_length_iff.mpr ha
  rw [List.getElem?_eq_getElem h]
  exact congrArg some (List.getElem_idxOf h)
theorem ix_len {S : SS} {a : Nat} (ha : a ∈ sL S) : ix S a < (sL S).length := List.idxOf_lt_length_iff.mpr ha
theorem ix_lt {S : SS} (T : Tree S) {a : Nat} (ha : a ∈ sL S) : ix S a < 24 := Nat.lt_of_lt_of_le (ix_len ha) T.len
theorem ix_of {S : SS} (T : Tree S) {k a : Nat} (h : (sL S)[k]? = some a) : ix S a = k := T.inj (ix_get (Tree.mem h)) h
theorem ix_at {S : SS} (T : Tree S) {k : Nat} (h : k < (sL S).length) : ∃ b, b ∈ sL S ∧ ix S b = k := ⟨(sL S)[k], List.getElem_mem h, ix_of T (List.getElem?_eq_getElem h)⟩
theorem ix_inj {S : SS} (T : Tree S) {a b : Nat} (ha : a ∈ sL S) (hb : b ∈ sL S) (h : ix S a = ix S b) : a = b := by
  have h1 := ix_get ha
  rw [h, ix_get hb] at h1
  exact (Option.some.inj h1).symm
theorem ix_mono {S : SS} (T : Tree S) {a b : Nat} (ha : a ∈ sL S) (hb : b ∈ sL S) : ix S a < ix S b ↔ a < b := by
  constructor
  · exact T.mono (ix_get ha) (ix_get hb)
  · intro h
    rcases Nat.lt_trichotomy (ix S a) (ix S b) with q | q | q
    · exact q
    · rw [ix_inj T ha hb q] at h; omega
    · have := T.mono (ix_get hb) (ix_get ha) q; omega
theorem ix_0 {S : SS} (T : Tree S) : ix S 0 = 0 := ix_of T T.root
theorem ix_eq0 {S : SS} (T : Tree S) {a : Nat} (ha : a ∈ sL S) : ix S a = 0 ↔ a = 0 := ⟨fun h => ix_inj T ha (List.mem_of_getElem? T.root) (h.trans (ix_0 T).symm), fun h => by rw [h]; exact ix_0 T⟩
theorem nI_inj {a b : Nat} (ha : a < 2 ^ 31) (hb : b < 2 ^ 31) (h : nI a = nI b) : a = b := (nI_eq ha hb).mp h
theorem nI_m7 {a : Nat} (ha : a < 2 ^ 31) : ¬ nI a = -7 := by
  intro h
  have h1 : (nI a).toInt = (-7 : Int32).toInt := by rw [h]
  rw [nI_toInt ha] at h1
  have : ((-7 : Int32)).toInt = -7 := by decide
  omega
/-- enough fuel is enough -/
theorem pth_two {S : SS} (h : Tree S) : ∀ (n m a : Nat), a ∈ sL S → a < n → a < m → pth (spa S) n a = pth (spa S) m a := by
  intro n
  induction n with
  | zero => intro m a _ hn; omega
  | succ n ih =>
    intro m a ha hn hm
    obtain ⟨m', rfl⟩ : ∃ m', m = m' + 1 := ⟨m - 1, by omega⟩
    show a :: _ = a :: _
    cases hb : spa S a with
    | none => rfl
    | some b =>
      obtain ⟨h1, h2⟩ := h.par ha hb
      show a :: pth (spa S) n b = a :: pth (spa S) m' b
      rw [ih m' b h1 (by omega) (by omega)]
theorem pth_fuel {S : SS} (h : Tree S) (n a : Nat) (ha : a ∈ sL S) (hn : a < n) : pth (spa S) n a = path S a := pth_two h n (a + 1) a ha hn (Nat.lt_succ_self a)
theorem path_none {S : SS} {a : Nat} (hb : spa S a = none) : path S a = [a] := by
  unfold path; show a :: _ = _; rw [hb]
theorem path_some {S : SS} (h : Tree S) {a b : Nat} (ha : a ∈ sL S) (hb : spa S a = some b) : path S a = a :: path S b := by
  obtain ⟨h1, h2⟩ := h.par ha hb
  rw [show path S a = a :: pth (spa S) a b by unfold path; show a :: _ = _; rw [hb], pth_fuel h a b h1 h2]
theorem path_self (S : SS) (a : Nat) : a ∈ path S a := by unfold path; exact List.mem_cons_self
/-- all of a path is there -/
theorem path_in {S : SS} (h : Tree S) : ∀ (a : Nat), a ∈ sL S → ∀ c ∈ path S a, c ∈ sL S ∧ c ≤ a := by
  intro a
  induction a using Nat.strongRecOn with
  | ind a ih =>
    intro ha c hc
    cases hb : spa S a with
    | none => rw [path_none hb] at hc; rw [List.mem_singleton.mp hc]; exact ⟨ha, Nat.le_refl a⟩
    | some b =>
      rw [path_some h ha hb] at hc
      obtain ⟨h1, h2⟩ := h.par ha hb
      rcases List.mem_cons.mp hc with rfl | hc
      · exact ⟨ha, Nat.le_refl _⟩
      · obtain ⟨h3, h4⟩ := ih b h2 h1 c hc
        exact ⟨h3, by omega⟩
theorem path_root {S : SS} (h : Tree S) : ∀ (a : Nat), a ∈ sL S → 0 ∈ path S a := by
  intro a
  induction a using Nat.strongRecOn with
  | ind a ih =>
    intro ha
    cases hb : spa S a with
    | none => rw [path_none hb, h.none ha hb]; exact List.mem_cons_self
    | some b =>
      rw [path_some h ha hb]
      obtain ⟨h1, h2⟩ := h.par ha hb
      exact List.mem_cons_of_mem _ (ih b h2 h1)
def dep (S : SS) (a : Nat) : Nat := (path S a).length - 1
theorem dep_none {S : SS} {a : Nat} (hb : spa S a = none) : dep S a = 0 := by unfold dep; rw [path_none hb]; rfl
theorem dep_some {S : SS} (h : Tree S) {a b : Nat} (ha : a ∈ sL S) (hb : spa S a = some b) : dep S a = dep S b + 1 := by
  unfold dep; rw [path_some h ha hb]
  have : 0 < (path S b).length := List.length_pos_of_mem (path_self S b)
  simp only [List.length_cons]; omega
theorem dep_le {S : SS} (h : Tree S) : ∀ (a : Nat), a ∈ sL S → dep S a ≤ a := by
  intro a
  induction a using Nat.strongRecOn with
  | ind a ih =>
    intro ha
    cases hb : spa S a with
    | none => rw [dep_none hb]; exact Nat.zero_le _
    | some b =>
      obtain ⟨h1, h2⟩ := h.par ha hb
      rw [dep_some h ha hb]
      have := ih b h2 h1
      omega
/-- the first on the path of a that is on the path of b -/
def lca (S : SS) (a b : Nat) : Nat := ((path S a).find? (fun x => decide (x ∈ path S b))).getD 0
theorem lca_in {S : SS} {a b : Nat} (h : a ∈ path S b) : lca S a b = a := by
  unfold lca
  rw [show path S a = a :: (match spa S a with | none => [] | some b => pth (spa S) a b) from rfl, List.find?_cons_of_pos (by simpa using h)]; rfl
theorem lca_up {S : SS} (h : Tree S) {a b c : Nat} (ha : a ∈ sL S) (hc : spa S a = some c) (hn : a ∉ path S b) : lca S a b = lca S c b := by
  unfold lca
  rw [path_some h ha hc, List.find?_cons_of_neg (by simpa using hn)]
theorem lca_mem {S : SS} (h : Tree S) {b : Nat} (hb : b ∈ sL S) : ∀ (a : Nat), a ∈ sL S → lca S a b ∈ sL S := by
  intro a
  induction a using Nat.strongRecOn with
  | ind a ih =>
    intro ha
    by_cases hn : a ∈ path S b
    · rw [lca_in hn]; exact ha
    · cases hc : spa S a with
      | none => rw [h.none ha hc] at hn; exact absurd (path_root h b hb) hn
      | some c =>
        obtain ⟨h1, h2⟩ := h.par ha hc
        rw [lca_up h ha hc hn]; exact ih c h2 h1
/-- the node of a number, if it is there -/
def lk (S : SS) (x : Int32) : Option Nat := (sL S).find? (fun a => decide (nI a = x))
theorem lk_some {S : SS} {x : Int32} {a : Nat} (h : lk S x = some a) : a ∈ sL S ∧ nI a = x := by
  unfold lk at h
  exact ⟨List.mem_of_find?_eq_some h, by simpa using List.find?_some h⟩
theorem lk_none {S : SS} {x : Int32} (h : lk S x = none) : ∀ a ∈ sL S, ¬ nI a = x := by
  unfold lk at h
  intro a ha
  simpa using List.find?_eq_none.mp h a ha
theorem lk_of {S : SS} (h : Tree S) {a : Nat} (ha : a ∈ sL S) : lk S (nI a) = some a := by
  cases hl : lk S (nI a) with
  | none => exact absurd rfl (lk_none hl a ha)
  | some b =>
    obtain ⟨h1, h2⟩ := lk_some hl
    have := h.lt ha
    have := h.lt h1
    rw [nI_inj (by omega) (by omega) h2]
theorem Ret.mono {g : EG} {d : MD} {av : List Value} {ws : va_W} {Ps Ph : Option Value → va_W → Prop} (h : Ret g d av ws Ps) (hi : ∀ v w, Ps v w → Ph v w) : Ret g d av ws Ph := by
  intro sz p e ha hc hk s m args below hf happ hP hK
  obtain ⟨n, o, h1, h2, h3, ⟨⟨⟨v, w', q1, q2, q3⟩, q4⟩, q5⟩⟩ := h sz p e ha hc hk s m args below hf happ hP hK
  exact ⟨n, o, h1, h2, h3, ⟨⟨⟨v, w', q1, hi v w' q2, q3⟩, q4⟩, q5⟩⟩
theorem oI_m7 {S : SS} (T : Tree S) {r : Option Nat} (hr : ∀ a, r = some a → a < 2 ^ 31) : oI r = (-7) ↔ r = none := by
  cases r with
  | none => exact ⟨fun _ => rfl, fun _ => rfl⟩
  | some a => exact ⟨fun h => absurd h (nI_m7 (hr a rfl)), fun h => by cases h⟩
/-- the place of what is looked up -/
def lkI (S : SS) (x : Int32) : Int32 := oI ((lk S x).map (ix S))
def upI (S : SS) (a : Nat) : Int32 := oI ((spa S a).map (ix S))
theorem lkI_some {S : SS} {x : Int32} {a : Nat} (h : lk S x = some a) : lkI S x = nI (ix S a) := by unfold lkI; rw [h]; rfl
theorem lkI_none {S : SS} {x : Int32} (h : lk S x = none) : lkI S x = (-7) := by unfold lkI; rw [h]; rfl
theorem upI_some {S : SS} {a b : Nat} (h : spa S a = some b) : upI S a = nI (ix S b) := by unfold upI; rw [h]; rfl
theorem upI_none {S : SS} {a : Nat} (h : spa S a = none) : upI S a = (-7) := by unfold upI; rw [h]; rfl
end
section
/-! ===== what the calls answer, of the mathematical value ===== -/
def aLen (S : SS) (x : Int32) : Int32 := match lk S x with
  | none => (-2)
  | some a => nI (stl S a)
def aChr (S : SS) (x i : Int32) : Int32 := match lk S x with
  | none => (-2)
  | some a => if 0 ≤ i ∧ i < nI (stl S a) then stx S a i.toNatClampNeg else (-1)
def edc (S : SS) (a : Nat) : Int32 := nI 1000 * nI (spo S a) + nI 10 * nI (sle S a) + bI (sde S a)
def aEdit (S : SS) (x : Int32) : Int32 := match lk S x with
  | none => (-2)
  | some a => if a = 0 then (-6) else edc S a
def aPar (S : SS) (x : Int32) : Int32 := match lk S x with
  | none => (-2)
  | some a => if a = 0 then (-6) else oI (spa S a)
def aFav (S : SS) (x : Int32) : Int32 := match lk S x with
  | none => (-2)
  | some a => oI (sfa S a)
def aTim (S : SS) (x : Int32) : Int32 := match lk S x with
  | none => (-2)
  | some a => nI (sti S a)
def farS (S : SS) (a b : Nat) : Int32 := nI (dep S a) + nI (dep S b) - nI 2 * nI (dep S (lca S a b))
def aLca (S : SS) (x y : Int32) : Int32 := match lk S x, lk S y with
  | some a, some b => nI (lca S a b)
  | _, _ => (-2)
def aDis (S : SS) (x y : Int32) : Int32 := match lk S x, lk S y with
  | some a, some b => farS S a b
  | _, _ => (-2)
def chO (pa : Nat → Option Nat) (a : Nat) (i : Int32) : List Nat → Nat → Int32
  | [], _ => (-7)
  | c :: l, n => if pa c = some a then (if nI n = i then nI c else chO pa a i l (n + 1)) else chO pa a i l n
def aChild (S : SS) (x i : Int32) : Int32 := match lk S x with
  | none => (-2)
  | some a => chO (spa S) a i (sL S) 0
def cnt {α : Type} (p : α → Bool) : List α → Nat
  | [] => 0
  | c :: l => (if p c then 1 else 0) + cnt p l
theorem cnt_le {α : Type} (p : α → Bool) : ∀ l : List α, cnt p l ≤ l.length
  | [] => Nat.le_refl 0
  | c :: l => by
    have := cnt_le p l
    unfold cnt
    simp only [List.length_cons]
    split <;> omega
theorem cnt_0 {α : Type} {p : α → Bool} : ∀ {l : List α}, cnt p l = 0 ↔ ∀ c ∈ l, p c = false
  | [] => by simp [cnt]
  | c :: l => by
    have h := cnt_0 (p := p) (l := l)
    unfold cnt
    constructor
    · intro h1 x hx
      rcases List.mem_cons.mp hx with rfl | hx
      · cases hp : p x with
        | false => rfl
        | true => rw [hp] at h1; simp at h1
      · exact h.mp (by omega) x hx
    · intro h1
      rw [h.mpr (fun x hx => h1 x (List.mem_cons_of_mem _ hx)), h1 c List.mem_cons_self]
      rfl
def chN (S : SS) (a : Nat) : Nat := cnt (fun c => decide (spa S c = some a)) (sL S)
def mkN (S : SS) (a : Nat) : Nat := cnt (fun i => decide (smk S i = some a)) (List.range 5)
def loose (S : SS) (a : Nat) : Bool := decide (a ≠ 0 ∧ a ≠ scu S ∧ chN S a = 0 ∧ mkN S a = 0)
def oldF (S : SS) : List Nat → Option Nat → Option Nat
  | [], b => b
  | c :: l, b => oldF S l (if loose S c = true ∧ (∀ e, b = some e → nI (sti S c) < nI (sti S e)) then some c else b)
def aOld (S : SS) : Int32 := oI (oldF S (sL S) none)
theorem drop_ix {S : SS} {b : Nat} (hb : b ∈ sL S) : (sL S).drop (ix S b) = b :: (sL S).drop (ix S b + 1) := by
  have h := ix_len hb
  rw [List.drop_eq_getElem_cons h]
  have h2 := ix_get hb
  rw [List.getElem?_eq_getElem h] at h2
  rw [Option.some.inj h2]
theorem drop_end {S : SS} {k : Nat} (h : k + 0 = (sL S).length) : (sL S).drop k = [] := List.drop_eq_nil_of_le (by omega)
/-! changes -/
def setFa (S : SS) (f : Nat → Option Nat) : SS := (sL S, sgv S, scu S, sck S, spa S, f, sti S, spo S, sle S, sde S, stl S, stx S, ssr S, scl S, scp S, smk S)
def setCl (S : SS) (n : Nat) (f : Nat → Int32) : SS := (sL S, sgv S, scu S, sck S, spa S, sfa S, sti S, spo S, sle S, sde S, stl S, stx S, ssr S, n, f, smk S)
def setMk (S : SS) (f : Nat → Option Nat) : SS := (sL S, sgv S, scu S, sck S, spa S, sfa S, sti S, spo S, sle S, sde S, stl S, stx S, ssr S, scl S, scp S, f)
def favs (pa : Nat → Option Nat) : List Nat → (Nat → Option Nat) → (Nat → Option Nat)
  | [], f => f
  | c :: l, f => favs pa l (match pa c with
    | some b => va_up f b (some c)
    | none => f)
/-- becoming current: the clock, the time, the current one -/
def bec0 (S : SS) (a : Nat) : SS := (sL S, sgv S, a, sck S + 1, spa S, sfa S, va_up (sti S) a (sck S + 1), spo S, sle S, sde S, stl S, stx S, ssr S, scl S, scp S, smk S)
def bec (S : SS) (a : Nat) : SS := setFa (bec0 S a) (favs (spa S) (path S a) (sfa S))
/-- append, clearClip -/
def oApp (S : SS) (x : Int32) : Int32 × SS := if 32 ≤ x ∧ x ≤ 126 then (if scl S = 6 then ((-4), S) else (nI (scl S + 1), setCl S (scl S + 1) (upd (scp S) (scl S) x))) else ((-1), S)
def oClr (S : SS) : Int32 × SS := (nI (scl S), setCl S 0 (scp S))
def oUndo (S : SS) : Int32 × SS := match spa S (scu S) with
  | none => ((-7), S)
  | some b => (nI b, bec S b)
def oRedo (S : SS) : Int32 × SS := match sfa S (scu S) with
  | none => ((-7), S)
  | some b => (nI b, bec S b)
def oJump (S : SS) (x : Int32) : Int32 × SS := match lk S x with
  | none => ((-2), S)
  | some a => (farS S (scu S) a, bec S a)
/-- the marks' numbers -/
def isMk (x : Int32) : Bool := decide (0 ≤ x ∧ x ≤ 4)
def oSetM (S : SS) (m x : Int32) : Int32 × SS := if isMk m = true then (match lk S x with
  | none => ((-2), S)
  | some a => (nI (mkN (setMk S (va_up (smk S) m.toNatClampNeg (some a))) a), setMk S (va_up (smk S) m.toNatClampNeg (some a)))) else ((-1), S)
def oClrM (S : SS) (m : Int32) : Int32 × SS := if isMk m = true then (oI (smk S m.toNatClampNeg), setMk S (va_up (smk S) m.toNatClampNeg none)) else ((-1), S)
def oGoM (S : SS) (m : Int32) : Int32 × SS := if isMk m = true then (match smk S m.toNatClampNeg with
  | none => ((-7), S)
  | some a => (nI a, bec S a)) else ((-1), S)
theorem isMk_of {m : Int32} (h : isMk m = true) : ∃ j : Nat, j < 5 ∧ m = nI j := by
  have h1 : 0 ≤ m ∧ m ≤ 4 := by simpa [isMk] using h
  obtain ⟨j, hj, e⟩ := nI_of2 (M := 4) (n := 4) (by decide) (Int32.not_lt.mpr h1.1) h1.2
  exact ⟨j, by omega, e⟩
/-! the digest -/
def mx (h v : Int64) : Int64 := 31 * h + v
def mxT (f : Nat → Int32) : Nat → Nat → Int64 → Int64
  | 0, _, h => h
  | m + 1, i, h => mxT f m (i + 1) (mx h (f i).toInt64)
def dgN (S : SS) (h : Int64) (a : Nat) : Int64 := mx (mx (mxT (stx S a) (stl S a) 0 (mx (mx (mx (mx h (nI a).toInt64) (if a = 0 then 0 else (oI (spa S a)).toInt64)) (if a = 0 then 0 else (edc S a).toInt64)) (nI (stl S a)).toInt64)) (oI (sfa S a)).toInt64) (nI (sti S a)).toInt64
def dgL (S : SS) : List Nat → Int64 → Int64
  | [], h => h
  | a :: l, h => dgL S l (dgN S h a)
def dig (S : SS) : Int64 := mxT (scp S) (scl S) 0 (mx (mx (mxT (fun i => oI (smk S i)) 5 0 (mx (mx (dgL S (sL S) (mx 1847 (nI (sL S).length).toInt64)) (nI (scu S)).toInt64) (aOld S).toInt64)) (nI (sck S)).toInt64) (nI (scl S)).toInt64)
theorem mxT_cong {f f' : Nat → Int32} : ∀ (m i : Nat) (h : Int64), (∀ j, i ≤ j → j < i + m → f j = f' j) → mxT f m i h = mxT f' m i h
  | 0, _, _, _ => rfl
  | m + 1, i, h, e => by
    show mxT f m (i + 1) _ = mxT f' m (i + 1) _
    rw [e i (Nat.le_refl i) (by omega)]
    exact mxT_cong m (i + 1) _ (fun j h1 h2 => e j (by omega) (by omega))
/-! the laws of every state that a run comes to -/
def Inv (n : Nat) (S : SS) : Prop :=
  Tree S ∧ scu S ∈ sL S ∧ (∀ a ∈ sL S, ∀ c, sfa S a = some c → c ∈ sL S ∧ spa S c = some a) ∧ (∀ a ∈ sL S, sfa S a = none → ∀ c ∈ sL S, ¬ spa S c = some a) ∧ (∀ a ∈ path S (scu S), ∀ b, spa S a = some b → sfa S b = some a) ∧ (∀ i, i < 5 → ∀ a, smk S i = some a → a ∈ sL S) ∧ (∀ a ∈ sL S, stl S a ≤ 40 ∧ sle S a ≤ 6) ∧ (∀ a ∈ sL S, ∀ b, spa S a = some b → editOk S a b) ∧ scl S ≤ 6 ∧ (∀ i, i < scl S → chOk (scp S i)) ∧ (∀ a ∈ sL S, ∀ i, i < stl S a → chOk (stx S a i)) ∧ sgv S ≤ n + 1
theorem Inv.T {n : Nat} {S : SS} (h : Inv n S) : Tree S := h.1
theorem Inv.cu {n : Nat} {S : SS} (h : Inv n S) : scu S ∈ sL S := h.2.1
theorem Inv.fa {n : Nat} {S : SS} (h : Inv n S) {a c : Nat} (ha : a ∈ sL S) (hc : sfa S a = some c) : c ∈ sL S ∧ spa S c = some a := h.2.2.1 a ha c hc
theorem Inv.fn {n : Nat} {S : SS} (h : Inv n S) {a c : Nat} (ha : a ∈ sL S) (hf : sfa S a = none) (hc : c ∈ sL S) : ¬ spa S c = some a := h.2.2.2.1 a ha hf c hc
theorem Inv.fp {n : Nat} {S : SS} (h : Inv n S) {a b : Nat} (ha : a ∈ path S (scu S)) (hb : spa S a = some b) : sfa S b = some a := h.2.2.2.2.1 a ha b hb
theorem Inv.mk {n : Nat} {S : SS} (h : Inv n S) {i a : Nat} (hi : i < 5) (ha : smk S i = some a) : a ∈ sL S := h.2.2.2.2.2.1 i hi a ha
theorem Inv.tl {n : Nat} {S : SS} (h : Inv n S) {a : Nat} (ha : a ∈ sL S) : stl S a ≤ 40 := (h.2.2.2.2.2.2.1 a ha).1
theorem Inv.le {n : Nat} {S : SS} (h : Inv n S) {a : Nat} (ha : a ∈ sL S) : sle S a ≤ 6 := (h.2.2.2.2.2.2.1 a ha).2
theorem Inv.ed {n : Nat} {S : SS} (h : Inv n S) {a b : Nat} (ha : a ∈ sL S) (hb : spa S a = some b) : editOk S a b := h.2.2.2.2.2.2.2.1 a ha b hb
theorem Inv.cl {n : Nat} {S : SS} (h : Inv n S) : scl S ≤ 6 := h.2.2.2.2.2.2.2.2.1
theorem Inv.cp {n : Nat} {S : SS} (h : Inv n S) {i : Nat} (hi : i < scl S) : chOk (scp S i) := h.2.2.2.2.2.2.2.2.2.1 i hi
theorem Inv.tx {n : Nat} {S : SS} (h : Inv n S) {a i : Nat} (ha : a ∈ sL S) (hi : i < stl S a) : chOk (stx S a i) := h.2.2.2.2.2.2.2.2.2.2.1 a ha i hi
theorem Inv.gv {n : Nat} {S : SS} (h : Inv n S) : sgv S ≤ n + 1 := h.2.2.2.2.2.2.2.2.2.2.2
theorem Inv.mkb {n : Nat} {S : SS} (h : Inv n S) : ∀ i, i < 5 → ∀ b, smk S i = some b → b < 2 ^ 31 := fun i hi b hb => by
  have := h.T.lt (h.mk hi hb)
  omega
/-- fewer locals known -/
theorem Ev.weak {g : EG} {d : MD} {pc : Nat} {lv : List (Option Value)} {st : List Value} {ws : va_W} {Ph : Option Value → va_W → Prop} (lv0 : List (Option Value)) (h : ∀ (i : Nat) (v : Value), lv0[i]? = some (some v) → lv[i]? = some (some v)) (k : Ev g d pc lv0 st ws Ph) : Ev g d pc lv st ws Ph := by
  intro p e s m args below meth c H locs ls A F hA hP hD hS hl
  exact k p e s m args below meth c H locs ls A F hA hP hD hS ⟨hl.1, hl.2.1, fun i v hv => hl.2.2 i v (h i v hv)⟩
def lw_le : List (Option Value) → List (Option Value) → Prop
  | [], _ => True
  | none :: l0, l => lw_le l0 l.tail
  | some v :: l0, l => l.head? = some (some v) ∧ lw_le l0 l.tail
theorem lw_le_get : ∀ (l0 l : List (Option Value)), lw_le l0 l → ∀ (i : Nat) (v : Value), l0[i]? = some (some v) → l[i]? = some (some v)
  | [], l, _, i, v, h => by simp at h
  | none :: l0, l, hl, i, v, h => by
    cases i with
    | zero => simp at h
    | succ i =>
      have := lw_le_get l0 l.tail hl i v (by simpa using h)
      cases l with
      | nil => simp at this
      | cons a l => simpa using this
  | some w :: l0, l, hl, i, v, h => by
    cases i with
    | zero =>
      have e : w = v := by simpa using h
      subst e
      cases l with
      | nil => simp [lw_le] at hl
      | cons a l =>
        have := hl.1
        simpa using this
    | succ i =>
      have := lw_le_get l0 l.tail hl.2 i v (by simpa using h)
      cases l with
      | nil => simp at this
      | cons a l => simpa using this
/-! a new node -/
def nTx (f : Nat → Int32) (p n : Nat) (d : Bool) (s : Nat → Int32) (i : Nat) : Int32 := if d = true then (if i < p then f i else f (i + n)) else (if i < p then f i else if i < p + n then s (i - p) else f (i - n))
def nTl (l n : Nat) (d : Bool) : Nat := if d = true then l - n else l + n
def addN (S : SS) (p n : Nat) (d : Bool) (s : Nat → Int32) (t : Nat) : SS := (sL S ++ [sgv S], sgv S + 1, scu S, sck S, va_up (spa S) (sgv S) (some (scu S)), va_up (sfa S) (sgv S) none, va_up (sti S) (sgv S) t, va_up (spo S) (sgv S) p, va_up (sle S) (sgv S) n, va_up (sde S) (sgv S) d, va_up (stl S) (sgv S) (nTl (stl S (scu S)) n d), va_up (stx S) (sgv S) (nTx (stx S (scu S)) p n d s), va_up (ssr S) (sgv S) s, scl S, scp S, smk S)
/-- an edit of the current node -/
def grw (S : SS) (p n : Nat) (d : Bool) (s : Nat → Int32) : SS := bec (addN S p n d s 0) (sgv S)
theorem grw_t (S : SS) (p n : Nat) (d : Bool) (s : Nat → Int32) (t : Nat) : bec (addN S p n d s t) (sgv S) = grw S p n d s := by
  have e : va_up (sti (addN S p n d s t)) (sgv S) (sck S + 1) = va_up (sti (addN S p n d s 0)) (sgv S) (sck S + 1) := by
    show va_up (va_up (sti S) (sgv S) t) (sgv S) (sck S + 1) = va_up (va_up (sti S) (sgv S) 0) (sgv S) (sck S + 1)
    rw [bx_uu, bx_uu]
  have h : bec0 (addN S p n d s t) (sgv S) = bec0 (addN S p n d s 0) (sgv S) := by
    unfold bec0
    rw [show sck (addN S p n d s t) = sck S from rfl, show sck (addN S p n d s 0) = sck S from rfl, e]
    rfl
  unfold grw bec
  rw [h]
  rfl
theorem nI_sur (x : Int32) : ∃ t, nI t = x := ⟨x.toBitVec.toNat, by
  apply Int32.toBitVec_inj.mp
  show (Int32.ofNat x.toBitVec.toNat).toBitVec = x.toBitVec
  simp⟩
theorem sgv_notin {S : SS} (T : Tree S) : sgv S ∉ sL S := fun h => Nat.lt_irrefl _ (T.ltg h)
theorem addN_ix {S : SS} {p n t : Nat} {d : Bool} {s : Nat → Int32} {a : Nat} (ha : a ∈ sL S) : ix (addN S p n d s t) a = ix S a := by
  show (sL S ++ [sgv S]).idxOf a = (sL S).idxOf a
  rw [List.idxOf_append, if_pos ha]
theorem addN_ixn {S : SS} (T : Tree S) {p n t : Nat} {d : Bool} {s : Nat → Int32} : ix (addN S p n d s t) (sgv S) = (sL S).length := by
  show (sL S ++ [sgv S]).idxOf (sgv S) = (sL S).length
  rw [List.idxOf_append, if_neg (sgv_notin T), List.idxOf_cons_self, Nat.zero_add]
theorem addN_T {S : SS} (T : Tree S) (hc : scu S ∈ sL S) (hl : (sL S).length < 24) (hg : sgv S < 600) (p n t : Nat) (d : Bool) (s : Nat → Int32) : Tree (addN S p n d s t) := by
  have h0 : 0 < sgv S := Nat.lt_of_le_of_lt (Nat.zero_le _) (T.ltg T.mem0)
  refine ⟨?_, ?_, ?_, ?_, ?_, ?_, ?_⟩
  · show (sL S ++ [sgv S])[0]? = some 0
    rw [List.getElem?_append_left (Tree.idx T.root)]; exact T.root
  · show (sL S ++ [sgv S]).Pairwise (· < ·)
    exact List.pairwise_append.mpr ⟨T.sorted, List.pairwise_singleton _ _, fun a ha b hb => by rw [List.mem_singleton.mp hb]; exact T.ltg ha⟩
  · show (sL S ++ [sgv S]).length ≤ 24
    simp; omega
  · intro a ha
    show a < sgv S + 1
    rcases List.mem_append.mp (show a ∈ sL S ++ [sgv S] from ha) with h | h
    · exact Nat.lt_succ_of_lt (T.ltg h)
    · rw [List.mem_singleton.mp h]; exact Nat.lt_succ_self _
  · show sgv S + 1 ≤ 600
    omega
  · show va_up (spa S) (sgv S) (some (scu S)) 0 = none
    rw [va_up_ne _ _ (by omega)]; exact T.pa0
  · intro a ha hz
    show ∃ b, va_up (spa S) (sgv S) (some (scu S)) a = some b ∧ b ∈ sL S ++ [sgv S] ∧ b < a
    rcases List.mem_append.mp (show a ∈ sL S ++ [sgv S] from ha) with h | h
    · have h1 : a ≠ sgv S := fun e => sgv_notin T (e ▸ h)
      obtain ⟨b, h2, h3, h4⟩ := T.2.2.2.2.2.2 a h hz
      exact ⟨b, by rw [va_up_ne _ _ h1]; exact h2, List.mem_append_left _ h3, h4⟩
    · have h1 := List.mem_singleton.mp h
      subst h1
      exact ⟨scu S, va_up_self _ _ _, List.mem_append_left _ hc, T.ltg hc⟩
/-! the edits' answers -/
def oIns (S : SS) (x : Int32) : Int32 × SS := if scl S = 0 then ((-7), S) else if 0 ≤ x ∧ x ≤ nI (stl S (scu S)) then (if 40 < stl S (scu S) + scl S then ((-4), S) else if (sL S).length = 24 then ((-3), S) else (nI (sgv S), grw (setCl S 0 (scp S)) x.toNatClampNeg (scl S) false (scp S))) else ((-1), S)
def oDel (S : SS) (x y : Int32) : Int32 × SS := if 0 ≤ x ∧ (1 ≤ y ∧ y ≤ 6) ∧ x ≤ nI (stl S (scu S)) - y then (if (sL S).length = 24 then ((-3), S) else (nI (sgv S), grw S x.toNatClampNeg y.toNatClampNeg true (fun i => stx S (scu S) (x.toNatClampNeg + i)))) else ((-1), S)
/-! selective undo -/
def ahd (dE dC : Bool) (a q m : Nat) : Bool := if dC = true then decide (q + m ≤ a) else if dE = true then decide (q < a) else decide (q ≤ a)
def fre (dE dC : Bool) (n a q m : Nat) : Bool := ahd dE dC a q m || (if dC = true then decide (a + (if dE = true then 0 else n) ≤ q) else (dE || decide (a + n ≤ q)))
def shn (dC h : Bool) (a m : Nat) : Nat := if h = true then (if dC = true then a - m else a + m) else a
def shs (S : SS) (e : Nat) : List Nat → Nat → Nat ⊕ Nat
  | [], a => .inl a
  | c :: l, a => if fre (sde S e) (sde S c) (sle S e) a (spo S c) (sle S c) = true then shs S e l (shn (sde S c) (ahd (sde S e) (sde S c) a (spo S c) (sle S c)) a (sle S c)) else .inr c
/-- from the root down -/
def dwn (S : SS) (a : Nat) : List Nat := (path S a).reverse
def later (S : SS) (e : Nat) : List Nat := (dwn S (scu S)).drop (dep S e + 1)
def shf (S : SS) (e : Nat) : Nat ⊕ Nat := shs S e (later S e) (spo S e)
theorem dwn_some {S : SS} (T : Tree S) {a b : Nat} (ha : a ∈ sL S) (hb : spa S a = some b) : dwn S a = dwn S b ++ [a] := by
  unfold dwn; rw [path_some T ha hb, List.reverse_cons]
theorem dwn_none {S : SS} {a : Nat} (hb : spa S a = none) : dwn S a = [a] := by unfold dwn; rw [path_none hb]; rfl
theorem dwn_len (S : SS) (a : Nat) : (dwn S a).length = dep S a + 1 := by
  unfold dwn dep
  have : 0 < (path S a).length := List.length_pos_of_mem (path_self S a)
  rw [List.length_reverse]; omega
theorem dwn_last {S : SS} (T : Tree S) {a : Nat} (ha : a ∈ sL S) : (dwn S a)[dep S a]? = some a := by
  cases hb : spa S a with
  | none => rw [dwn_none hb, dep_none hb]; rfl
  | some b => rw [dwn_some T ha hb, dep_some T ha hb, List.getElem?_append_right (by rw [dwn_len]; omega), dwn_len, Nat.sub_self]; rfl
theorem dwn_up {S : SS} (T : Tree S) {a b d : Nat} (ha : a ∈ sL S) (hb : spa S a = some b) (hd : d < dep S a) : (dwn S a)[d]? = (dwn S b)[d]? := by
  rw [dwn_some T ha hb, List.getElem?_append_left (by rw [dwn_len]; rw [dep_some T ha hb] at hd; omega)]
theorem dwn_in {S : SS} (T : Tree S) {a d x : Nat} (ha : a ∈ sL S) (h : (dwn S a)[d]? = some x) : x ∈ sL S ∧ x ∈ path S a := by
  have h1 : x ∈ path S a := List.mem_reverse.mp (List.mem_of_getElem? h)
  exact ⟨(path_in T a ha x h1).1, h1⟩
theorem dwn_dep {S : SS} (T : Tree S) : ∀ (a : Nat), a ∈ sL S → ∀ d x, (dwn S a)[d]? = some x → dep S x = d := by
  intro a
  induction a using Nat.strongRecOn with
  | ind a ih =>
    intro ha d x h
    have hl := (List.getElem?_eq_some_iff.mp h).1
    rw [dwn_len] at hl
    by_cases hd : d = dep S a
    · rw [hd, dwn_last T ha] at h
      cases h; exact hd.symm
    · cases hb : spa S a with
      | none => rw [dep_none hb] at hl hd; omega
      | some b =>
        obtain ⟨h1, h2⟩ := T.par ha hb
        rw [dwn_up T ha hb (by omega)] at h
        exact ih b h2 h1 d x h
theorem dwn_at {S : SS} (T : Tree S) : ∀ (a : Nat), a ∈ sL S → ∀ x ∈ path S a, (dwn S a)[dep S x]? = some x := by
  intro a ha x hx
  obtain ⟨d, hd⟩ := List.getElem?_of_mem (List.mem_reverse.mpr hx)
  have := dwn_dep T a ha d x hd
  rw [this]; exact hd
theorem dwn_par {S : SS} (T : Tree S) : ∀ (a : Nat), a ∈ sL S → ∀ d x y, (dwn S a)[d]? = some x → (dwn S a)[d + 1]? = some y → spa S y = some x := by
  intro a
  induction a using Nat.strongRecOn with
  | ind a ih =>
    intro ha d x y hx hy
    have hl := (List.getElem?_eq_some_iff.mp hy).1
    rw [dwn_len] at hl
    cases hb : spa S a with
    | none => rw [dep_none hb] at hl; omega
    | some b =>
      obtain ⟨h1, h2⟩ := T.par ha hb
      by_cases hd : d + 1 = dep S a
      · rw [hd, dwn_last T ha] at hy
        cases hy
        rw [dwn_up T ha hb (by omega)] at hx
        have h3 := dwn_last T h1
        rw [dep_some T ha hb] at hd
        rw [show d = dep S b by omega, h3] at hx
        cases hx; exact hb
      · rw [dwn_up T ha hb (by omega)] at hx hy
        exact ih b h2 h1 d x y hx hy
/-- the undone string stands in the text (or the gap lies in it) -/
def shG (S : SS) (e x a : Nat) : Prop := (sde S e = false → a + sle S e ≤ stl S x ∧ ∀ i, i < sle S e → stx S x (a + i) = ssr S e i) ∧ (sde S e = true → a ≤ stl S x)
theorem shG_0 {n : Nat} {S : SS} (I : Inv n S) {e b : Nat} (he : e ∈ sL S) (hb : spa S e = some b) : shG S e e (spo S e) := by
  obtain ⟨-, -, h1, h2⟩ := I.ed he hb
  constructor
  · intro hd
    obtain ⟨p1, p2, p3, p4, p5⟩ := h2 hd
    exact ⟨by omega, p3⟩
  · intro hd
    obtain ⟨p1, p2, -⟩ := h1 hd
    omega
theorem shG_1 {n : Nat} {S : SS} (I : Inv n S) {e x c a : Nat} (hc : c ∈ sL S) (hx : spa S c = some x) (hn : 1 ≤ sle S e) (h : shG S e x a) (hf : fre (sde S e) (sde S c) (sle S e) a (spo S c) (sle S c) = true) : shG S e c (shn (sde S c) (ahd (sde S e) (sde S c) a (spo S c) (sle S c)) a (sle S c)) := by
  obtain ⟨l1, l2, d1, d2⟩ := I.ed hc hx
  unfold fre at hf
  unfold shn
  cases hE : sde S e with
  | false =>
    obtain ⟨g1, g2⟩ := h.1 hE
    rw [hE] at hf
    refine ⟨fun _ => ?_, fun q => absurd (hE.symm.trans q) (by decide)⟩
    cases hC : sde S c with
    | false =>
      obtain ⟨p1, p2, p3, p4, p5⟩ := d2 hC
      rw [hC] at hf
      by_cases q : spo S c ≤ a
      · have ea : ahd false false a (spo S c) (sle S c) = true := by simp [ahd, q]
        rw [ea, if_pos rfl, if_neg (by decide)]
        refine ⟨by omega, fun i hi => ?_⟩
        rw [show a + sle S c + i = a + i + sle S c by omega, p5 (a + i) (by omega) (by omega)]
        exact g2 i hi
      · have ea : ahd false false a (spo S c) (sle S c) = false := by simp [ahd, q]
        rw [ea] at hf ⊢
        have hf2 : a + sle S e ≤ spo S c := by simpa using hf
        rw [if_neg (by decide)]
        refine ⟨by omega, fun i hi => ?_⟩
        rw [p4 (a + i) (by omega)]
        exact g2 i hi
    | true =>
      obtain ⟨p1, p2, p3, p4, p5⟩ := d1 hC
      rw [hC] at hf
      by_cases q : spo S c + sle S c ≤ a
      · have ea : ahd false true a (spo S c) (sle S c) = true := by simp [ahd, q]
        rw [ea, if_pos rfl, if_pos rfl]
        refine ⟨by omega, fun i hi => ?_⟩
        rw [p5 (a - sle S c + i) (by omega) (by omega), show a - sle S c + i + sle S c = a + i by omega]
        exact g2 i hi
      · have ea : ahd false true a (spo S c) (sle S c) = false := by simp [ahd, q]
        rw [ea] at hf ⊢
        have hf2 : a + sle S e ≤ spo S c := by simpa using hf
        rw [if_neg (by decide)]
        refine ⟨by omega, fun i hi => ?_⟩
        rw [p4 (a + i) (by omega)]
        exact g2 i hi
  | true =>
    have g1 := h.2 hE
    rw [hE] at hf
    refine ⟨fun q => absurd (hE.symm.trans q) (by decide), fun _ => ?_⟩
    cases hC : sde S c with
    | false =>
      obtain ⟨p1, p2, p3, p4, p5⟩ := d2 hC
      cases ahd true false a (spo S c) (sle S c) with
      | false => rw [if_neg (by decide)]; omega
      | true => rw [if_pos rfl, if_neg (by decide)]; omega
    | true =>
      obtain ⟨p1, p2, p3, p4, p5⟩ := d1 hC
      rw [hC] at hf
      by_cases q : spo S c + sle S c ≤ a
      · have ea : ahd true true a (spo S c) (sle S c) = true := by simp [ahd, q]
        rw [ea, if_pos rfl, if_pos rfl]; omega
      · have ea : ahd true true a (spo S c) (sle S c) = false := by simp [ahd, q]
        rw [ea] at hf ⊢
        have hf2 : a ≤ spo S c := by simpa using hf
        rw [if_neg (by decide)]; omega
/-- undoEdit, conflictWith -/
def refS (S : SS) (x : Int32) : Int32 := match lk S x with
  | none => (-2)
  | some e => if e = 0 ∨ e ∉ path S (scu S) then (-6) else 0
def ueR (S : SS) (e : Nat) : Nat ⊕ Nat → Int32 × SS
  | .inr _ => ((-5), S)
  | .inl a => if sde S e = true ∧ 40 < stl S (scu S) + sle S e then ((-4), S) else if (sL S).length = 24 then ((-3), S) else (nI (sgv S), grw S a (sle S e) (!sde S e) (ssr S e))
def oUE (S : SS) (x : Int32) : Int32 × SS := match lk S x with
  | none => ((-2), S)
  | some e => if e = 0 ∨ e ∉ path S (scu S) then ((-6), S) else ueR S e (shf S e)
def cwR : Nat ⊕ Nat → Int32
  | .inr c => nI c
  | .inl _ => (-7)
def aCW (S : SS) (x : Int32) : Int32 := match lk S x with
  | none => (-2)
  | some e => if e = 0 ∨ e ∉ path S (scu S) then (-6) else cwR (shf S e)
theorem oUE_at {S : SS} {x : Int32} {e : Nat} (h : lk S x = some e) (hq : ¬ (e = 0 ∨ e ∉ path S (scu S))) : oUE S x = ueR S e (shf S e) := by
  unfold oUE; rw [h]; show (if _ then _ else _) = _; rw [if_neg hq]
theorem aCW_at {S : SS} {x : Int32} {e : Nat} (h : lk S x = some e) (hq : ¬ (e = 0 ∨ e ∉ path S (scu S))) : aCW S x = cwR (shf S e) := by
  unfold aCW; rw [h]; show (if _ then _ else _) = _; rw [if_neg hq]
section EVN
variable {g : EG} {d : MD} {pc pc' : Nat} {lv : List (Option Value)} {st : List Value} {ws : va_W} {Ph : Option Value → va_W → Prop}
theorem ev_iaddN {x y : Nat} (hd : decode d.2.1 pc = .ok (.iadd, 1)) (hp : pc + 1 = pc') (k : Ev g d pc' lv (.int (nI (x + y)) :: st) ws Ph) : Ev g d pc lv (.int (nI y) :: .int (nI x) :: st) ws Ph := ev_iadd hd hp (by rw [nI_add]; exact k)
theorem ev_imulN {x y : Nat} (hd : decode d.2.1 pc = .ok (.imul, 1)) (hp : pc + 1 = pc') (k : Ev g d pc' lv (.int (nI (x * y)) :: st) ws Ph) : Ev g d pc lv (.int (nI y) :: .int (nI x) :: st) ws Ph := ev_imul hd hp (by rw [pk_mul]; exact k)
theorem ev_isubN {x y : Nat} (h : y ≤ x) (hd : decode d.2.1 pc = .ok (.isub, 1)) (hp : pc + 1 = pc') (k : Ev g d pc' lv (.int (nI (x - y)) :: st) ws Ph) : Ev g d pc lv (.int (nI y) :: .int (nI x) :: st) ws Ph := ev_isub hd hp (by rw [pk_sub h]; exact k)
end EVN
/-! forgetting -/
def sf (w : Nat) (f : Nat → Int32) (lo k : Nat) : Nat → Int32 := fun j => if lo ≤ j ∧ j < k then f (j + w) else f j
theorem sf_0 (w : Nat) (f : Nat → Int32) (lo : Nat) : sf w f lo lo = f := by
  funext j; unfold sf; rw [if_neg (by omega)]
theorem sf_far {w : Nat} {f : Nat → Int32} {lo k j : Nat} (h : k ≤ j) : sf w f lo k j = f j := by unfold sf; rw [if_neg (by omega)]
theorem sf_in {w : Nat} {f : Nat → Int32} {lo k j : Nat} (h : lo ≤ j) (h2 : j < k) : sf w f lo k j = f (j + w) := by unfold sf; rw [if_pos ⟨h, h2⟩]
theorem sf_lo {w : Nat} {f : Nat → Int32} {lo k j : Nat} (h : j < lo) : sf w f lo k j = f j := by unfold sf; rw [if_neg (by omega)]
theorem sf_s {w : Nat} {f : Nat → Int32} {lo k : Nat} (h : lo ≤ k) : upd (sf w f lo k) k (f (k + w)) = sf w f lo (k + 1) := by
  funext j
  by_cases q : j = k
  · rw [q, pk_us, sf_in h (by omega)]
  · rw [pk_un q]
    unfold sf
    by_cases r : lo ≤ j ∧ j < k
    · rw [if_pos r, if_pos (by omega)]
    · rw [if_neg r, if_neg (by omega)]
def rmv (S : SS) (e : Nat) : SS := ((sL S).eraseIdx (ix S e), sgv S, scu S, sck S, spa S, sfa S, sti S, spo S, sle S, sde S, stl S, stx S, ssr S, scl S, scp S, smk S)
theorem rmv_get (S : SS) (e j : Nat) : (sL (rmv S e))[j]? = if j < ix S e then (sL S)[j]? else (sL S)[j + 1]? := by
  show ((sL S).eraseIdx (ix S e))[j]? = _
  rw [List.getElem?_eraseIdx]
theorem rmv_mem {S : SS} (T : Tree S) {e a : Nat} (he : e ∈ sL S) : a ∈ sL (rmv S e) ↔ a ∈ sL S ∧ a ≠ e := by
  constructor
  · intro h
    obtain ⟨j, hj⟩ := List.getElem?_of_mem h
    rw [rmv_get] at hj
    by_cases q : j < ix S e
    · rw [if_pos q] at hj
      exact ⟨Tree.mem hj, fun z => by rw [z] at hj; have := ix_of T hj; omega⟩
    · rw [if_neg q] at hj
      exact ⟨Tree.mem hj, fun z => by rw [z] at hj; have := ix_of T hj; omega⟩
  · rintro ⟨h1, h2⟩
    have h3 : ix S a ≠ ix S e := fun q => h2 (ix_inj T h1 he q)
    by_cases q : ix S a < ix S e
    · exact List.mem_of_getElem? (i := ix S a) (by rw [rmv_get, if_pos q]; exact ix_get h1)
    · exact List.mem_of_getElem? (i := ix S a - 1) (by rw [rmv_get, if_neg (by omega), show ix S a - 1 + 1 = ix S a by omega]; exact ix_get h1)
theorem rmv_len {S : SS} {e : Nat} (he : e ∈ sL S) : (sL (rmv S e)).length = (sL S).length - 1 := by
  show ((sL S).eraseIdx (ix S e)).length = _
  rw [List.length_eraseIdx, if_pos (ix_len he)]
theorem rmv_T {S : SS} (T : Tree S) {e : Nat} (he : e ∈ sL S) (hz : e ≠ 0) (hn : ∀ c ∈ sL S, ¬ spa S c = some e) : Tree (rmv S e) := by
  have hi : ix S e ≠ 0 := fun q => hz ((ix_eq0 T he).mp q)
  refine ⟨?_, ?_, ?_, fun a ha => T.ltg ((rmv_mem T he).mp ha).1, T.gv, T.pa0, fun a ha ha0 => ?_⟩
  · rw [rmv_get, if_pos (by omega)]; exact T.root
  · exact T.sorted.sublist (List.eraseIdx_sublist _ _)
  · rw [rmv_len he]; have := T.len; omega
  · obtain ⟨h1, h2⟩ := (rmv_mem T he).mp ha
    obtain ⟨b, h3, h4, h5⟩ := T.2.2.2.2.2.2 a h1 ha0
    exact ⟨b, h3, (rmv_mem T he).mpr ⟨h4, fun q => hn a h1 (by rw [h3, q])⟩, h5⟩
theorem rmv_ix {S : SS} (T : Tree S) {e a : Nat} (he : e ∈ sL S) (hT : Tree (rmv S e)) (ha : a ∈ sL S) (hae : a ≠ e) : (ix S a < ix S e ∧ ix (rmv S e) a = ix S a) ∨ (ix S e < ix S a ∧ ix (rmv S e) a + 1 = ix S a) := by
  have h3 : ix S a ≠ ix S e := fun q => hae (ix_inj T ha he q)
  by_cases q : ix S a < ix S e
  · left
    exact ⟨q, ix_of hT (by rw [rmv_get, if_pos q]; exact ix_get ha)⟩
  · right
    refine ⟨by omega, ?_⟩
    have := ix_of hT (k := ix S a - 1) (a := a) (by rw [rmv_get, if_neg (by omega), show ix S a - 1 + 1 = ix S a by omega]; exact ix_get ha)
    omega
/-- the newest child -/
def nch (pa : Nat → Option Nat) (p : Nat) (l : List Nat) : Option Nat := (l.filter (fun c => decide (pa c = some p))).getLast?
theorem cnt_filter {α : Type} (p : α → Bool) : ∀ l : List α, cnt p l = (l.filter p).length
  | [] => rfl
  | c :: l => by
    unfold cnt
    rw [cnt_filter p l]
    cases h : p c with
    | true => rw [List.filter_cons_of_pos h]; simp; omega
    | false => rw [List.filter_cons_of_neg (by rw [h]; decide)]; simp
theorem chO_get (pa : Nat → Option Nat) (a i : Nat) (hi : i < 2 ^ 31) : ∀ (l : List Nat) (n : Nat), n + l.length < 2 ^ 31 → n ≤ i → chO pa a (nI i) l n = oI ((l.filter (fun c => decide (pa c = some a)))[i - n]?)
  | [], n, _, _ => by simp [chO, oI]
  | c :: l, n, h1, h2 => by
    unfold chO
    simp only [List.length_cons] at h1
    by_cases q : pa c = some a
    · rw [if_pos q, List.filter_cons_of_pos (by simpa using q)]
      by_cases r : n = i
      · rw [if_pos (by rw [r]), r, Nat.sub_self]; rfl
      · rw [if_neg (fun z => r (nI_inj (by omega) (by omega) z)), chO_get pa a i hi l (n + 1) (by omega) (by omega), show i - n = (i - (n + 1)) + 1 by omega, List.getElem?_cons_succ]
    · rw [if_neg q, List.filter_cons_of_neg (by simpa using q)]
      exact chO_get pa a i hi l n (by omega) h2
theorem chO_none (pa : Nat → Option Nat) (a : Nat) : ∀ (l : List Nat) (n : Nat), n + l.length < 2 ^ 31 → chO pa a (-1) l n = (-7)
  | [], n, _ => rfl
  | c :: l, n, h1 => by
    unfold chO
    simp only [List.length_cons] at h1
    have hne : ¬ nI n = -1 := fun z => by
      have h3 : (nI n).toInt = (-1 : Int32).toInt := by rw [z]
      rw [nI_toInt (by omega)] at h3
      have : ((-1 : Int32)).toInt = -1 := by decide
      omega
    rw [if_neg hne, chO_none pa a l (n + 1) (by omega), chO_none pa a l n (by omega)]
    simp
theorem chO_last (pa : Nat → Option Nat) (a : Nat) (l : List Nat) (hl : l.length < 100) : chO pa a (nI (cnt (fun c => decide (pa c = some a)) l) - nI 1) l 0 = oI (nch pa a l) := by
  unfold nch
  have hc := cnt_le (fun c => decide (pa c = some a)) l
  by_cases h : cnt (fun c => decide (pa c = some a)) l = 0
  · rw [h, show nI 0 - nI 1 = -1 from rfl, chO_none pa a l 0 (by omega)]
    rw [cnt_filter] at h
    rw [List.length_eq_zero_iff.mp h]; rfl
  · rw [pk_sub (by omega), chO_get pa a _ (by omega) l 0 (by omega) (Nat.zero_le _), cnt_filter, Nat.sub_zero, List.getLast?_eq_getElem?]
def fgS (S : SS) (e p : Nat) : SS := if sfa S p = some e then setFa (rmv S e) (va_up (sfa S) p (nch (spa S) p (sL (rmv S e)))) else rmv S e
def oFgt (S : SS) (x : Int32) : Int32 × SS := match lk S x with
  | none => ((-2), S)
  | some e => if loose S e = true then (nI ((sL S).length - 1), fgS S e ((spa S e).getD 0)) else ((-6), S)
theorem oFgt_y {S : SS} {x : Int32} {e p : Nat} (h : lk S x = some e) (hl : loose S e = true) (hp : spa S e = some p) : oFgt S x = (nI ((sL S).length - 1), fgS S e p) := by
  unfold oFgt; rw [h]; show (if _ then _ else _) = _; rw [if_pos hl, hp]; rfl
theorem oFgt_n {S : SS} {x : Int32} {e : Nat} (h : lk S x = some e) (hl : loose S e = false) : oFgt S x = ((-6), S) := by
  unfold oFgt; rw [h]; show (if _ then _ else _) = _; rw [if_neg (by rw [hl]; decide)]
theorem oFgt_0 {S : SS} {x : Int32} (h : lk S x = none) : oFgt S x = ((-2), S) := by unfold oFgt; rw [h]
theorem loose_of {S : SS} {e : Nat} (h : loose S e = true) : e ≠ 0 ∧ e ≠ scu S ∧ chN S e = 0 ∧ mkN S e = 0 := by simpa [loose] using h
theorem loose_ch {S : SS} {e : Nat} (h : loose S e = true) : ∀ c ∈ sL S, ¬ spa S c = some e := fun c hc => by
  have := cnt_0.mp (loose_of h).2.2.1 c hc
  simpa using this
end
section
/-! ===== the reference's methods: places, the parents' chain ===== -/
section M1
variable {g : EG} {mo : Nat} {mr : Nat → Nat} {mnd mgv mcu mck mcl msh : Int32} {mhh : Int64} {mnu mpa mfa mti mpo mle mde msr mtl mtx mcp mmk mns : Nat → Int32}
variable {S : SS}
theorem RM.row (hR : RM S mnd mgv mcu mck mcl msh mhh mnu mpa mfa mti mpo mle mde msr mtl mtx mcp mmk mns) {a : Nat} (h : a ∈ sL S) : rowM S (ix S a) a mnu mpa mfa mti mpo mle mde msr mtl mtx := hR.2.2.2.2.2.1 a h
theorem c_within (ws : va_W) (v lo hi : Int32) : Ret g mdX2_within [.int v, .int lo, .int hi] ws (fun r w => r = some (.int (bI (decide (lo ≤ v ∧ v ≤ hi)))) ∧ w = ws) := by
  refine Ret.of [_, _, _] 0 (by decide) (Nat.le_of_ble_eq_true rfl) rfl ?_
  refine ev_iload_n (pc' := 1) dX2_within_0 rfl rfl ?_
  refine ev_iload_n (pc' := 2) dX2_within_1 rfl rfl ?_
  refine ev_icmp_lt (tgt := 14) (pc' := 5) dX2_within_2 (by decide) rfl (fun h2 => ?_) (fun h2 => ?_)
  · refine ev_iconst (pc' := 15) (v := nI 0) dX2_within_14 rfl (by decide) ?_
    refine ev_zret rfl (by decide) dX2_within_15 ?_
    refine ⟨?_, rfl⟩
    rw [decide_eq_false (fun q => Int32.not_lt.mpr q.1 h2)]; rfl
  · refine ev_iload_n (pc' := 6) dX2_within_5 rfl rfl ?_
    refine ev_iload_n (pc' := 7) dX2_within_6 rfl rfl ?_
    refine ev_icmp_gt (tgt := 14) (pc' := 10) dX2_within_7 (by decide) rfl (fun h7 => ?_) (fun h7 => ?_)
    · refine ev_iconst (pc' := 15) (v := nI 0) dX2_within_14 rfl (by decide) ?_
      refine ev_zret rfl (by decide) dX2_within_15 ?_
      refine ⟨?_, rfl⟩
      rw [decide_eq_false (fun q => Int32.not_lt.mpr q.2 h7)]; rfl
    · refine ev_iconst (pc' := 11) (v := nI 1) dX2_within_10 rfl (by decide) ?_
      refine ev_goto (pc' := 15) dX2_within_11 (by decide) ?_
      refine ev_zret rfl (by decide) dX2_within_15 ?_
      refine ⟨?_, rfl⟩
      rw [decide_eq_true ⟨Int32.not_lt.mp h2, Int32.not_lt.mp h7⟩]; rfl
/-- at: the place of a number -/
theorem at_loop (T : Tree S) (hR : RM S mnd mgv mcu mck mcl msh mhh mnu mpa mfa mti mpo mle mde msr mtl mtx mcp mmk mns) {x : Int32} : ∀ (m k : Nat) (f : Int32), k + m = (sL S).length → (∀ a, lk S x = some a → f = if ix S a < k then nI (ix S a) else (-7)) → (lk S x = none → f = (-7)) → Ev g mdX2_at 5 [some (.ref mo), some (.int x), some (.int f), some (.int (nI k))] [] (wM g mo mr mnd mgv mcu mck mcl msh mhh mnu mpa mfa mti mpo mle mde msr mtl mtx mcp mmk mns) (fun r w => r = some (.int (lkI S x)) ∧ w = (wM g mo mr mnd mgv mcu mck mcl msh mhh mnu mpa mfa mti mpo mle mde msr mtl mtx mcp mmk mns)) := by
  have hlen := T.len
  intro m
  induction m with
  | zero =>
    intro k f hk h1 h2
    refine ev_iload_n (pc' := 6) dX2_at_5 rfl rfl ?_
    refine ev_aload_n (pc' := 7) dX2_at_6 rfl rfl ?_
    refine ev_get inX2 0 0 rfl rfl (by decide) flX2_nodes rfl (pc' := 10) dX2_at_7 rfl ?_
    refine ev_icmp_ge (tgt := 35) (pc' := 13) dX2_at_10 (by decide) rfl (fun h10 => ?_) (fun h10 => ?_)
    · refine ev_iload_n (pc' := 36) dX2_at_35 rfl rfl ?_
      refine ev_iret rfl dX2_at_36 ?_
      refine ⟨?_, rfl⟩
      cases hl : lk S x with
      | none => rw [lkI_none hl, h2 hl]
      | some a => rw [lkI_some hl, h1 a hl, if_pos (by have := ix_len (lk_some hl).1; omega)]
    · rw [hR.1] at h10
      exact absurd (nI_le (by omega) (by omega)) h10
  | succ m ih =>
    intro k f hk h1 h2
    refine ev_iload_n (pc' := 6) dX2_at_5 rfl rfl ?_
    refine ev_aload_n (pc' := 7) dX2_at_6 rfl rfl ?_
    refine ev_get inX2 0 0 rfl rfl (by decide) flX2_nodes rfl (pc' := 10) dX2_at_7 rfl ?_
    refine ev_icmp_ge (tgt := 35) (pc' := 13) dX2_at_10 (by decide) rfl (fun h10 => ?_) (fun h10 => ?_)
    · rw [hR.1] at h10
      exact absurd h10 (nI_ge (by omega) (by omega))
    · obtain ⟨b, hb, rfl⟩ := ix_at T (show k < (sL S).length by omega)
      have hrow := (RM.row hR hb).1
      refine ev_aload_n (pc' := 14) dX2_at_13 rfl rfl ?_
      refine ev_get inX2 0 2 rfl rfl (by decide) flX2_number rfl (pc' := 17) dX2_at_14 rfl ?_
      refine ev_iload_n (pc' := 18) dX2_at_17 rfl rfl ?_
      refine ev_ialdN 1 rfl (by omega) (by decide) hrow (pc' := 19) dX2_at_18 rfl ?_
      refine ev_iload_n (pc' := 20) dX2_at_19 rfl rfl ?_
      refine ev_icmp_ne (tgt := 27) (pc' := 23) dX2_at_20 (by decide) rfl (fun h20 => ?_) (fun h20 => ?_)
      · refine ev_iload_n (pc' := 28) dX2_at_27 rfl rfl ?_
        refine ev_istore_n (pc' := 29) (lv' := [_, _, _, _]) dX2_at_28 rfl (by decide) (by intro w hw; first | exact Or.inl rfl | (right; have hw := Option.some.inj (Option.some.inj hw); subst hw; first | rfl | exact rf_cat _) | cases hw) rfl ?_
        refine ev_iinc (pc' := 32) (lv' := [_, _, _, _]) dX2_at_29 rfl rfl (nI_1 _) (by decide) (by intro w hw; first | exact Or.inl rfl | (right; have hw := Option.some.inj (Option.some.inj hw); subst hw; first | rfl | exact rf_cat _) | cases hw) rfl ?_
        refine ev_goto (pc' := 5) dX2_at_32 (by decide) ?_
        refine ih (ix S b + 1) _ (by omega) (fun a ha => ?_) h2
        rw [h1 a ha]
        have hjk : ix S a ≠ ix S b := fun e => by
          rw [ix_inj T (lk_some ha).1 hb e] at ha
          exact h20 (lk_some ha).2
        by_cases hj2 : ix S a < ix S b
        · rw [if_pos hj2, if_pos (by omega)]
        · rw [if_neg hj2, if_neg (by omega)]
      · refine ev_iload_n (pc' := 24) dX2_at_23 rfl rfl ?_
        refine ev_goto (pc' := 28) dX2_at_24 (by decide) ?_
        refine ev_istore_n (pc' := 29) (lv' := [_, _, _, _]) dX2_at_28 rfl (by decide) (by intro w hw; first | exact Or.inl rfl | (right; have hw := Option.some.inj (Option.some.inj hw); subst hw; first | rfl | exact rf_cat _) | cases hw) rfl ?_
        refine ev_iinc (pc' := 32) (lv' := [_, _, _, _]) dX2_at_29 rfl rfl (nI_1 _) (by decide) (by intro w hw; first | exact Or.inl rfl | (right; have hw := Option.some.inj (Option.some.inj hw); subst hw; first | rfl | exact rf_cat _) | cases hw) rfl ?_
        refine ev_goto (pc' := 5) dX2_at_32 (by decide) ?_
        have hx : lk S x = some b := by rw [← h20]; exact lk_of T hb
        refine ih (ix S b + 1) _ (by omega) (fun a ha => ?_) (fun hn => by rw [hx] at hn; cases hn)
        rw [hx] at ha
        cases ha
        rw [if_pos (Nat.lt_succ_self _)]
theorem c_at (T : Tree S) (hR : RM S mnd mgv mcu mck mcl msh mhh mnu mpa mfa mti mpo mle mde msr mtl mtx mcp mmk mns) (x : Int32) : Ret g mdX2_at [.ref mo, .int x] (wM g mo mr mnd mgv mcu mck mcl msh mhh mnu mpa mfa mti mpo mle mde msr mtl mtx mcp mmk mns) (fun r w => r = some (.int (lkI S x)) ∧ w = (wM g mo mr mnd mgv mcu mck mcl msh mhh mnu mpa mfa mti mpo mle mde msr mtl mtx mcp mmk mns)) := by
  refine Ret.of [_, _, _, _] 2 (by decide) (Nat.le_of_ble_eq_true rfl) rfl ?_
  refine ev_bipush (pc' := 2) (v := (-7)) dX2_at_0 rfl (by decide) ?_
  refine ev_istore_n (pc' := 3) (lv' := [_, _, _, _]) dX2_at_2 rfl (by decide) (by intro w hw; first | exact Or.inl rfl | (right; have hw := Option.some.inj (Option.some.inj hw); subst hw; first | rfl | exact rf_cat _) | cases hw) rfl ?_
  refine ev_iconst (pc' := 4) (v := nI 0) dX2_at_3 rfl (by decide) ?_
  refine ev_istore_n (pc' := 5) (lv' := [_, _, _, _]) dX2_at_4 rfl (by decide) (by intro w hw; first | exact Or.inl rfl | (right; have hw := Option.some.inj (Option.some.inj hw); subst hw; first | rfl | exact rf_cat _) | cases hw) rfl ?_
  exact at_loop T hR (sL S).length 0 _ (by omega) (fun a _ => by rw [if_neg (Nat.not_lt_zero _)]) (fun _ => rfl)
theorem c_above (T : Tree S) (hR : RM S mnd mgv mcu mck mcl msh mhh mnu mpa mfa mti mpo mle mde msr mtl mtx mcp mmk mns) {a : Nat} (ha : a ∈ sL S) : Ret g mdX2_above [.ref mo, .int (nI (ix S a))] (wM g mo mr mnd mgv mcu mck mcl msh mhh mnu mpa mfa mti mpo mle mde msr mtl mtx mcp mmk mns) (fun r w => r = some (.int (upI S a)) ∧ w = (wM g mo mr mnd mgv mcu mck mcl msh mhh mnu mpa mfa mti mpo mle mde msr mtl mtx mcp mmk mns)) := by
  have hk := ix_lt T ha
  have hrow := (RM.row hR ha).2.1
  refine Ret.of [_, _] 0 (by decide) (Nat.le_of_ble_eq_true rfl) rfl ?_
  cases hb : spa S a with
  | none =>
    rw [hb] at hrow
    refine ev_aload_n (pc' := 1) dX2_above_0 rfl rfl ?_
    refine ev_get inX2 0 3 rfl rfl (by decide) flX2_parent rfl (pc' := 4) dX2_above_1 rfl ?_
    refine ev_iload_n (pc' := 5) dX2_above_4 rfl rfl ?_
    refine ev_ialdN 2 rfl (by omega) (by decide) hrow (pc' := 6) dX2_above_5 rfl ?_
    refine ev_bipush (pc' := 8) (v := (-7)) dX2_above_6 rfl (by decide) ?_
    refine ev_icmp_ne (tgt := 16) (pc' := 11) dX2_above_8 (by decide) rfl (fun h8 => ?_) (fun h8 => ?_)
    · exact absurd rfl h8
    · refine ev_bipush (pc' := 13) (v := (-7)) dX2_above_11 rfl (by decide) ?_
      refine ev_goto (pc' := 26) dX2_above_13 (by decide) ?_
      refine ev_iret rfl dX2_above_26 ?_
      exact ⟨by rw [upI_none hb], rfl⟩
  | some b =>
    rw [hb] at hrow
    obtain ⟨h1, h2⟩ := T.par ha hb
    have hlt := T.lt h1
    refine ev_aload_n (pc' := 1) dX2_above_0 rfl rfl ?_
    refine ev_get inX2 0 3 rfl rfl (by decide) flX2_parent rfl (pc' := 4) dX2_above_1 rfl ?_
    refine ev_iload_n (pc' := 5) dX2_above_4 rfl rfl ?_
    refine ev_ialdN 2 rfl (by omega) (by decide) hrow (pc' := 6) dX2_above_5 rfl ?_
    refine ev_bipush (pc' := 8) (v := (-7)) dX2_above_6 rfl (by decide) ?_
    refine ev_icmp_ne (tgt := 16) (pc' := 11) dX2_above_8 (by decide) rfl (fun h8 => ?_) (fun h8 => ?_)
    · refine ev_aload_n (pc' := 17) dX2_above_16 rfl rfl ?_
      refine ev_aload_n (pc' := 18) dX2_above_17 rfl rfl ?_
      refine ev_get inX2 0 3 rfl rfl (by decide) flX2_parent rfl (pc' := 21) dX2_above_18 rfl ?_
      refine ev_iload_n (pc' := 22) dX2_above_21 rfl rfl ?_
      refine ev_ialdN 2 rfl (by omega) (by decide) hrow (pc' := 23) dX2_above_22 rfl ?_
      refine ev_callV (As := [_]) coX2_at 0 rfl rfl (c_at T hR _) rfl (by decide) (by first | exact Nat.le_of_ble_eq_true rfl | simp [Value.category, rf_cat]) dX2_above_23 rfl (pc' := 26) rfl (fun v w hq => ?_)
      obtain ⟨rfl, rfl⟩ := hq
      dsimp only [Option.toList, List.cons_append, List.nil_append]
      refine ev_iret rfl dX2_above_26 ?_
      exact ⟨by rw [upI_some hb, show oI (some b) = nI b from rfl, lkI_some (lk_of T h1)], rfl⟩
    · exact absurd h8 (nI_m7 (by omega))
theorem depth_loop (T : Tree S) (hR : RM S mnd mgv mcu mck mcl msh mhh mnu mpa mfa mti mpo mle mde msr mtl mtx mcp mmk mns) (x : Int32) : ∀ (a : Nat), a ∈ sL S → ∀ m : Nat, Ev g mdX2_depth 4 [some (.ref mo), some (.int x), some (.int (nI m)), some (.int (nI (ix S a)))] [] (wM g mo mr mnd mgv mcu mck mcl msh mhh mnu mpa mfa mti mpo mle mde msr mtl mtx mcp mmk mns) (fun r w => r = some (.int (nI (m + dep S a))) ∧ w = (wM g mo mr mnd mgv mcu mck mcl msh mhh mnu mpa mfa mti mpo mle mde msr mtl mtx mcp mmk mns)) := by
  intro a
  induction a using Nat.strongRecOn with
  | ind a ih =>
    intro ha m
    have hk := ix_lt T ha
    cases hb : spa S a with
    | none =>
      refine ev_aload_n (pc' := 5) dX2_depth_4 rfl rfl ?_
      refine ev_iload_n (pc' := 6) dX2_depth_5 rfl rfl ?_
      refine ev_callV (As := [_]) coX2_above 0 rfl rfl (c_above T hR ha) rfl (by decide) (by first | exact Nat.le_of_ble_eq_true rfl | simp [Value.category, rf_cat]) dX2_depth_6 rfl (pc' := 9) rfl (fun v w hq => ?_)
      obtain ⟨rfl, rfl⟩ := hq
      dsimp only [Option.toList, List.cons_append, List.nil_append]
      refine ev_bipush (pc' := 11) (v := (-7)) dX2_depth_9 rfl (by decide) ?_
      refine ev_icmp_eq (tgt := 26) (pc' := 14) dX2_depth_11 (by decide) rfl (fun h11 => ?_) (fun h11 => ?_)
      · refine ev_iload_n (pc' := 27) dX2_depth_26 rfl rfl ?_
        refine ev_iret rfl dX2_depth_27 ?_
        exact ⟨by rw [dep_none hb]; rfl, rfl⟩
      · exact absurd (upI_none hb) h11
    | some b =>
      obtain ⟨h1, h2⟩ := T.par ha hb
      have hkb := ix_lt T h1
      refine ev_aload_n (pc' := 5) dX2_depth_4 rfl rfl ?_
      refine ev_iload_n (pc' := 6) dX2_depth_5 rfl rfl ?_
      refine ev_callV (As := [_]) coX2_above 0 rfl rfl (c_above T hR ha) rfl (by decide) (by first | exact Nat.le_of_ble_eq_true rfl | simp [Value.category, rf_cat]) dX2_depth_6 rfl (pc' := 9) rfl (fun v w hq => ?_)
      obtain ⟨rfl, rfl⟩ := hq
      dsimp only [Option.toList, List.cons_append, List.nil_append]
      refine ev_bipush (pc' := 11) (v := (-7)) dX2_depth_9 rfl (by decide) ?_
      refine ev_icmp_eq (tgt := 26) (pc' := 14) dX2_depth_11 (by decide) rfl (fun h11 => ?_) (fun h11 => ?_)
      · rw [upI_some hb] at h11
        exact absurd h11 (nI_m7 (by omega))
      · refine ev_iinc (pc' := 17) (lv' := [_, _, _, _]) dX2_depth_14 rfl rfl (nI_1 _) (by decide) (by intro w hw; first | exact Or.inl rfl | (right; have hw := Option.some.inj (Option.some.inj hw); subst hw; first | rfl | exact rf_cat _) | cases hw) rfl ?_
        refine ev_aload_n (pc' := 18) dX2_depth_17 rfl rfl ?_
        refine ev_iload_n (pc' := 19) dX2_depth_18 rfl rfl ?_
        refine ev_callV (As := [_]) coX2_above 0 rfl rfl (c_above T hR ha) rfl (by decide) (by first | exact Nat.le_of_ble_eq_true rfl | simp [Value.category, rf_cat]) dX2_depth_19 rfl (pc' := 22) rfl (fun v w hq => ?_)
        obtain ⟨rfl, rfl⟩ := hq
        dsimp only [Option.toList, List.cons_append, List.nil_append]
        rw [upI_some hb]
        refine ev_istore_n (pc' := 23) (lv' := [_, _, _, _]) dX2_depth_22 rfl (by decide) (by intro w hw; first | exact Or.inl rfl | (right; have hw := Option.some.inj (Option.some.inj hw); subst hw; first | rfl | exact rf_cat _) | cases hw) rfl ?_
        refine ev_goto (pc' := 4) dX2_depth_23 (by decide) ?_
        rw [dep_some T ha hb, show m + (dep S b + 1) = m + 1 + dep S b by omega]
        exact ih b h2 h1 (m + 1)
theorem c_depth (T : Tree S) (hR : RM S mnd mgv mcu mck mcl msh mhh mnu mpa mfa mti mpo mle mde msr mtl mtx mcp mmk mns) {a : Nat} (ha : a ∈ sL S) : Ret g mdX2_depth [.ref mo, .int (nI (ix S a))] (wM g mo mr mnd mgv mcu mck mcl msh mhh mnu mpa mfa mti mpo mle mde msr mtl mtx mcp mmk mns) (fun r w => r = some (.int (nI (dep S a))) ∧ w = (wM g mo mr mnd mgv mcu mck mcl msh mhh mnu mpa mfa mti mpo mle mde msr mtl mtx mcp mmk mns)) := by
  refine Ret.of [_, _, _, _] 2 (by decide) (Nat.le_of_ble_eq_true rfl) rfl ?_
  refine ev_iconst (pc' := 1) (v := nI 0) dX2_depth_0 rfl (by decide) ?_
  refine ev_istore_n (pc' := 2) (lv' := [_, _, _, _]) dX2_depth_1 rfl (by decide) (by intro w hw; first | exact Or.inl rfl | (right; have hw := Option.some.inj (Option.some.inj hw); subst hw; first | rfl | exact rf_cat _) | cases hw) rfl ?_
  refine ev_iload_n (pc' := 3) dX2_depth_2 rfl rfl ?_
  refine ev_istore_n (pc' := 4) (lv' := [_, _, _, _]) dX2_depth_3 rfl (by decide) (by intro w hw; first | exact Or.inl rfl | (right; have hw := Option.some.inj (Option.some.inj hw); subst hw; first | rfl | exact rf_cat _) | cases hw) rfl ?_
  have := depth_loop (g := g) (mo := mo) (mr := mr) T hR (nI (ix S a)) a ha 0
  rw [Nat.zero_add] at this
  exact this
end M1
section M2
variable {g : EG} {mo : Nat} {mr : Nat → Nat} {mnd mgv mcu mck mcl msh : Int32} {mhh : Int64} {mnu mpa mfa mti mpo mle mde msr mtl mtx mcp mmk mns : Nat → Int32}
variable {S : SS}
theorem onp_loop (T : Tree S) (hR : RM S mnd mgv mcu mck mcl msh mhh mnu mpa mfa mti mpo mle mde msr mtl mtx mcp mmk mns) {c : Nat} (hc : c ∈ sL S) (x : Int32) : ∀ (a : Nat), a ∈ sL S → Ev g mdX2_isOnPath 2 [some (.ref mo), some (.int (nI (ix S c))), some (.int x), some (.int (nI (ix S a)))] [] (wM g mo mr mnd mgv mcu mck mcl msh mhh mnu mpa mfa mti mpo mle mde msr mtl mtx mcp mmk mns) (fun r w => r = some (.int (bI (decide (c ∈ path S a)))) ∧ w = (wM g mo mr mnd mgv mcu mck mcl msh mhh mnu mpa mfa mti mpo mle mde msr mtl mtx mcp mmk mns)) := by
  intro a
  have hkc := ix_lt T hc
  induction a using Nat.strongRecOn with
  | ind a ih =>
    intro ha
    have hk := ix_lt T ha
    refine ev_iload_n (pc' := 3) dX2_isOnPath_2 rfl rfl ?_
    refine ev_bipush (pc' := 5) (v := (-7)) dX2_isOnPath_3 rfl (by decide) ?_
    refine ev_icmp_eq (tgt := 22) (pc' := 8) dX2_isOnPath_5 (by decide) rfl (fun h5 => ?_) (fun h5 => ?_)
    · exact absurd h5 (nI_m7 (by omega))
    · refine ev_iload_n (pc' := 9) dX2_isOnPath_8 rfl rfl ?_
      refine ev_iload_n (pc' := 10) dX2_isOnPath_9 rfl rfl ?_
      refine ev_icmp_eq (tgt := 22) (pc' := 13) dX2_isOnPath_10 (by decide) rfl (fun h10 => ?_) (fun h10 => ?_)
      · have e := ix_inj T ha hc (nI_inj (by omega) (by omega) h10)
        refine ev_iload_n (pc' := 23) dX2_isOnPath_22 rfl rfl ?_
        refine ev_iload_n (pc' := 24) dX2_isOnPath_23 rfl rfl ?_
        refine ev_icmp_ne (tgt := 31) (pc' := 27) dX2_isOnPath_24 (by decide) rfl (fun h24 => ?_) (fun h24 => ?_)
        · exact absurd h10 h24
        · refine ev_iconst (pc' := 28) (v := nI 1) dX2_isOnPath_27 rfl (by decide) ?_
          refine ev_goto (pc' := 32) dX2_isOnPath_28 (by decide) ?_
          refine ev_zret rfl (by decide) dX2_isOnPath_32 ?_
          refine ⟨?_, rfl⟩
          rw [decide_eq_true (by rw [e]; exact path_self S c)]; rfl
      · have e : c ≠ a := fun q => h10 (by rw [q])
        refine ev_aload_n (pc' := 14) dX2_isOnPath_13 rfl rfl ?_
        refine ev_iload_n (pc' := 15) dX2_isOnPath_14 rfl rfl ?_
        refine ev_callV (As := [_]) coX2_above 0 rfl rfl (c_above T hR ha) rfl (by decide) (by first | exact Nat.le_of_ble_eq_true rfl | simp [Value.category, rf_cat]) dX2_isOnPath_15 rfl (pc' := 18) rfl (fun v w hq => ?_)
        obtain ⟨rfl, rfl⟩ := hq
        dsimp only [Option.toList, List.cons_append, List.nil_append]
        cases hb : spa S a with
        | none =>
          rw [upI_none hb]
          refine ev_istore_n (pc' := 19) (lv' := [_, _, _, _]) dX2_isOnPath_18 rfl (by decide) (by intro w hw; first | exact Or.inl rfl | (right; have hw := Option.some.inj (Option.some.inj hw); subst hw; first | rfl | exact rf_cat _) | cases hw) rfl ?_
          refine ev_goto (pc' := 2) dX2_isOnPath_19 (by decide) ?_
          refine ev_iload_n (pc' := 3) dX2_isOnPath_2 rfl rfl ?_
          refine ev_bipush (pc' := 5) (v := (-7)) dX2_isOnPath_3 rfl (by decide) ?_
          refine ev_icmp_eq (tgt := 22) (pc' := 8) dX2_isOnPath_5 (by decide) rfl (fun h5 => ?_) (fun h5 => ?_)
          · refine ev_iload_n (pc' := 23) dX2_isOnPath_22 rfl rfl ?_
            refine ev_iload_n (pc' := 24) dX2_isOnPath_23 rfl rfl ?_
            refine ev_icmp_ne (tgt := 31) (pc' := 27) dX2_isOnPath_24 (by decide) rfl (fun h24 => ?_) (fun h24 => ?_)
            · refine ev_iconst (pc' := 32) (v := nI 0) dX2_isOnPath_31 rfl (by decide) ?_
              refine ev_zret rfl (by decide) dX2_isOnPath_32 ?_
              refine ⟨?_, rfl⟩
              rw [path_none hb, decide_eq_false (by simpa using e)]; rfl
            · exact absurd h24.symm (nI_m7 (by omega))
          · exact absurd rfl h5
        | some b =>
          obtain ⟨h1, h2⟩ := T.par ha hb
          rw [upI_some hb]
          refine ev_istore_n (pc' := 19) (lv' := [_, _, _, _]) dX2_isOnPath_18 rfl (by decide) (by intro w hw; first | exact Or.inl rfl | (right; have hw := Option.some.inj (Option.some.inj hw); subst hw; first | rfl | exact rf_cat _) | cases hw) rfl ?_
          refine ev_goto (pc' := 2) dX2_isOnPath_19 (by decide) ?_
          have h3 := ih b h2 h1
          have h4 : decide (c ∈ path S a) = decide (c ∈ path S b) := by
            rw [path_some T ha hb]
            simp [e]
          rw [h4]
          exact h3
theorem c_isOnPath (T : Tree S) (hR : RM S mnd mgv mcu mck mcl msh mhh mnu mpa mfa mti mpo mle mde msr mtl mtx mcp mmk mns) {c a : Nat} (hc : c ∈ sL S) (ha : a ∈ sL S) : Ret g mdX2_isOnPath [.ref mo, .int (nI (ix S c)), .int (nI (ix S a))] (wM g mo mr mnd mgv mcu mck mcl msh mhh mnu mpa mfa mti mpo mle mde msr mtl mtx mcp mmk mns) (fun r w => r = some (.int (bI (decide (c ∈ path S a)))) ∧ w = (wM g mo mr mnd mgv mcu mck mcl msh mhh mnu mpa mfa mti mpo mle mde msr mtl mtx mcp mmk mns)) := by
  refine Ret.of [_, _, _, _] 1 (by decide) (Nat.le_of_ble_eq_true rfl) rfl ?_
  refine ev_iload_n (pc' := 1) dX2_isOnPath_0 rfl rfl ?_
  refine ev_istore_n (pc' := 2) (lv' := [_, _, _, _]) dX2_isOnPath_1 rfl (by decide) (by intro w hw; first | exact Or.inl rfl | (right; have hw := Option.some.inj (Option.some.inj hw); subst hw; first | rfl | exact rf_cat _) | cases hw) rfl ?_
  exact onp_loop T hR hc _ a ha
theorem bI_t {p : Prop} [Decidable p] (h : p) : bI (decide p) = nI 1 := by rw [decide_eq_true h]; rfl
theorem bI_f {p : Prop} [Decidable p] (h : ¬ p) : bI (decide p) = nI 0 := by rw [decide_eq_false h]; rfl
theorem bI_ne {b : Bool} : ¬ bI b = 0 ↔ b = true := by cases b <;> decide
theorem bI_eq {b : Bool} : bI b = 0 ↔ b = false := by cases b <;> decide
theorem com_loop (T : Tree S) (hR : RM S mnd mgv mcu mck mcl msh mhh mnu mpa mfa mti mpo mle mde msr mtl mtx mcp mmk mns) {b : Nat} (hb : b ∈ sL S) (x : Int32) : ∀ (a : Nat), a ∈ sL S → Ev g mdX2_common 2 [some (.ref mo), some (.int x), some (.int (nI (ix S b))), some (.int (nI (ix S a)))] [] (wM g mo mr mnd mgv mcu mck mcl msh mhh mnu mpa mfa mti mpo mle mde msr mtl mtx mcp mmk mns) (fun r w => r = some (.int (nI (ix S (lca S a b)))) ∧ w = (wM g mo mr mnd mgv mcu mck mcl msh mhh mnu mpa mfa mti mpo mle mde msr mtl mtx mcp mmk mns)) := by
  intro a
  induction a using Nat.strongRecOn with
  | ind a ih =>
    intro ha
    refine ev_aload_n (pc' := 3) dX2_common_2 rfl rfl ?_
    refine ev_iload_n (pc' := 4) dX2_common_3 rfl rfl ?_
    refine ev_iload_n (pc' := 5) dX2_common_4 rfl rfl ?_
    refine ev_callV (As := [_, _]) coX2_isOnPath 0 rfl rfl (c_isOnPath T hR ha hb) rfl (by decide) (by first | exact Nat.le_of_ble_eq_true rfl | simp [Value.category, rf_cat]) dX2_common_5 rfl (pc' := 8) rfl (fun v w hq => ?_)
    obtain ⟨rfl, rfl⟩ := hq
    dsimp only [Option.toList, List.cons_append, List.nil_append]
    refine ev_if_ne (tgt := 20) (pc' := 11) dX2_common_8 (by decide) rfl (fun h8 => ?_) (fun h8 => ?_)
    · rw [bI_ne, decide_eq_true_eq] at h8
      refine ev_iload_n (pc' := 21) dX2_common_20 rfl rfl ?_
      refine ev_iret rfl dX2_common_21 ?_
      exact ⟨by rw [lca_in h8], rfl⟩
    · rw [bI_eq, decide_eq_false_iff_not] at h8
      cases hc : spa S a with
      | none => rw [T.none ha hc] at h8; exact absurd (path_root T b hb) h8
      | some c =>
        obtain ⟨h1, h2⟩ := T.par ha hc
        refine ev_aload_n (pc' := 12) dX2_common_11 rfl rfl ?_
        refine ev_iload_n (pc' := 13) dX2_common_12 rfl rfl ?_
        refine ev_callV (As := [_]) coX2_above 0 rfl rfl (c_above T hR ha) rfl (by decide) (by first | exact Nat.le_of_ble_eq_true rfl | simp [Value.category, rf_cat]) dX2_common_13 rfl (pc' := 16) rfl (fun v w hq => ?_)
        obtain ⟨rfl, rfl⟩ := hq
        dsimp only [Option.toList, List.cons_append, List.nil_append]
        rw [upI_some hc]
        refine ev_istore_n (pc' := 17) (lv' := [_, _, _, _]) dX2_common_16 rfl (by decide) (by intro w hw; first | exact Or.inl rfl | (right; have hw := Option.some.inj (Option.some.inj hw); subst hw; first | rfl | exact rf_cat _) | cases hw) rfl ?_
        refine ev_goto (pc' := 2) dX2_common_17 (by decide) ?_
        rw [lca_up T ha hc h8]
        exact ih c h2 h1
theorem c_common (T : Tree S) (hR : RM S mnd mgv mcu mck mcl msh mhh mnu mpa mfa mti mpo mle mde msr mtl mtx mcp mmk mns) {a b : Nat} (ha : a ∈ sL S) (hb : b ∈ sL S) : Ret g mdX2_common [.ref mo, .int (nI (ix S a)), .int (nI (ix S b))] (wM g mo mr mnd mgv mcu mck mcl msh mhh mnu mpa mfa mti mpo mle mde msr mtl mtx mcp mmk mns) (fun r w => r = some (.int (nI (ix S (lca S a b)))) ∧ w = (wM g mo mr mnd mgv mcu mck mcl msh mhh mnu mpa mfa mti mpo mle mde msr mtl mtx mcp mmk mns)) := by
  refine Ret.of [_, _, _, _] 1 (by decide) (Nat.le_of_ble_eq_true rfl) rfl ?_
  refine ev_iload_n (pc' := 1) dX2_common_0 rfl rfl ?_
  refine ev_istore_n (pc' := 2) (lv' := [_, _, _, _]) dX2_common_1 rfl (by decide) (by intro w hw; first | exact Or.inl rfl | (right; have hw := Option.some.inj (Option.some.inj hw); subst hw; first | rfl | exact rf_cat _) | cases hw) rfl ?_
  exact com_loop T hR hb _ a ha
theorem c_far (T : Tree S) (hR : RM S mnd mgv mcu mck mcl msh mhh mnu mpa mfa mti mpo mle mde msr mtl mtx mcp mmk mns) {a b : Nat} (ha : a ∈ sL S) (hb : b ∈ sL S) : Ret g mdX2_far [.ref mo, .int (nI (ix S a)), .int (nI (ix S b))] (wM g mo mr mnd mgv mcu mck mcl msh mhh mnu mpa mfa mti mpo mle mde msr mtl mtx mcp mmk mns) (fun r w => r = some (.int (farS S a b)) ∧ w = (wM g mo mr mnd mgv mcu mck mcl msh mhh mnu mpa mfa mti mpo mle mde msr mtl mtx mcp mmk mns)) := by
  refine Ret.of [_, _, _] 0 (by decide) (Nat.le_of_ble_eq_true rfl) rfl ?_
  refine ev_aload_n (pc' := 1) dX2_far_0 rfl rfl ?_
  refine ev_iload_n (pc' := 2) dX2_far_1 rfl rfl ?_
  refine ev_callV (As := [_]) coX2_depth 0 rfl rfl (c_depth T hR ha) rfl (by decide) (by first | exact Nat.le_of_ble_eq_true rfl | simp [Value.category, rf_cat]) dX2_far_2 rfl (pc' := 5) rfl (fun v w hq => ?_)
  obtain ⟨rfl, rfl⟩ := hq
  dsimp only [Option.toList, List.cons_append, List.nil_append]
  refine ev_aload_n (pc' := 6) dX2_far_5 rfl rfl ?_
  refine ev_iload_n (pc' := 7) dX2_far_6 rfl rfl ?_
  refine ev_callV (As := [_]) coX2_depth 0 rfl rfl (c_depth T hR hb) rfl (by decide) (by first | exact Nat.le_of_ble_eq_true rfl | simp [Value.category, rf_cat]) dX2_far_7 rfl (pc' := 10) rfl (fun v w hq => ?_)
  obtain ⟨rfl, rfl⟩ := hq
  dsimp only [Option.toList, List.cons_append, List.nil_append]
  refine ev_iadd (pc' := 11) dX2_far_10 rfl ?_
  refine ev_iconst (pc' := 12) (v := nI 2) dX2_far_11 rfl (by decide) ?_
  refine ev_aload_n (pc' := 13) dX2_far_12 rfl rfl ?_
  refine ev_aload_n (pc' := 14) dX2_far_13 rfl rfl ?_
  refine ev_iload_n (pc' := 15) dX2_far_14 rfl rfl ?_
  refine ev_iload_n (pc' := 16) dX2_far_15 rfl rfl ?_
  refine ev_callV (As := [_, _]) coX2_common 0 rfl rfl (c_common T hR ha hb) rfl (by decide) (by first | exact Nat.le_of_ble_eq_true rfl | simp [Value.category, rf_cat]) dX2_far_16 rfl (pc' := 19) rfl (fun v w hq => ?_)
  obtain ⟨rfl, rfl⟩ := hq
  dsimp only [Option.toList, List.cons_append, List.nil_append]
  refine ev_callV (As := [_]) coX2_depth 0 rfl rfl (c_depth T hR (lca_mem T hb a ha)) rfl (by decide) (by first | exact Nat.le_of_ble_eq_true rfl | simp [Value.category, rf_cat]) dX2_far_19 rfl (pc' := 22) rfl (fun v w hq => ?_)
  obtain ⟨rfl, rfl⟩ := hq
  dsimp only [Option.toList, List.cons_append, List.nil_append]
  refine ev_imul (pc' := 23) dX2_far_22 rfl ?_
  refine ev_isub (pc' := 24) dX2_far_23 rfl ?_
  refine ev_iret rfl dX2_far_24 ?_
  exact ⟨rfl, rfl⟩
end M2
end
section
/-! ===== the reference's methods: what is read ===== -/
section M3
variable {g : EG} {mo : Nat} {mr : Nat → Nat} {mnd mgv mcu mck mcl msh : Int32} {mhh : Int64} {mnu mpa mfa mti mpo mle mde msr mtl mtx mcp mmk mns : Nat → Int32}
variable {S : SS}
theorem lkI_m7 (T : Tree S) {x : Int32} : lkI S x = (-7) ↔ lk S x = none := by
  cases h : lk S x with
  | none => exact ⟨fun _ => rfl, fun _ => lkI_none h⟩
  | some a =>
    rw [lkI_some h]
    have := ix_lt T (lk_some h).1
    exact ⟨fun q => absurd q (nI_m7 (by omega)), fun q => by cases q⟩
theorem c_mcurrent (T : Tree S) (hR : RM S mnd mgv mcu mck mcl msh mhh mnu mpa mfa mti mpo mle mde msr mtl mtx mcp mmk mns) (hc : scu S ∈ sL S) : Ret g mdX2_current [.ref mo] (wM g mo mr mnd mgv mcu mck mcl msh mhh mnu mpa mfa mti mpo mle mde msr mtl mtx mcp mmk mns) (fun r w => r = some (.int (nI (scu S))) ∧ w = (wM g mo mr mnd mgv mcu mck mcl msh mhh mnu mpa mfa mti mpo mle mde msr mtl mtx mcp mmk mns)) := by
  have hk := ix_lt T hc
  have h1 := (RM.row hR hc).1
  refine Ret.of [_] 0 (by decide) (Nat.le_of_ble_eq_true rfl) rfl ?_
  obtain rfl := hR.2.2.1
  refine ev_aload_n (pc' := 1) dX2_current_0 rfl rfl ?_
  refine ev_get inX2 0 2 rfl rfl (by decide) flX2_number rfl (pc' := 4) dX2_current_1 rfl ?_
  refine ev_aload_n (pc' := 5) dX2_current_4 rfl rfl ?_
  refine ev_get inX2 0 12 rfl rfl (by decide) flX2_current rfl (pc' := 8) dX2_current_5 rfl ?_
  refine ev_ialdN 1 rfl (by omega) (by decide) h1 (pc' := 9) dX2_current_8 rfl ?_
  refine ev_iret rfl dX2_current_9 ?_
  exact ⟨rfl, rfl⟩
theorem c_mnodeCount (hR : RM S mnd mgv mcu mck mcl msh mhh mnu mpa mfa mti mpo mle mde msr mtl mtx mcp mmk mns) : Ret g mdX2_nodeCount [.ref mo] (wM g mo mr mnd mgv mcu mck mcl msh mhh mnu mpa mfa mti mpo mle mde msr mtl mtx mcp mmk mns) (fun r w => r = some (.int (nI (sL S).length)) ∧ w = (wM g mo mr mnd mgv mcu mck mcl msh mhh mnu mpa mfa mti mpo mle mde msr mtl mtx mcp mmk mns)) := by
  refine Ret.of [_] 0 (by decide) (Nat.le_of_ble_eq_true rfl) rfl ?_
  obtain rfl := hR.1
  refine ev_aload_n (pc' := 1) dX2_nodeCount_0 rfl rfl ?_
  refine ev_get inX2 0 0 rfl rfl (by decide) flX2_nodes rfl (pc' := 4) dX2_nodeCount_1 rfl ?_
  refine ev_iret rfl dX2_nodeCount_4 ?_
  exact ⟨rfl, rfl⟩
theorem c_mlengthOf (T : Tree S) (hR : RM S mnd mgv mcu mck mcl msh mhh mnu mpa mfa mti mpo mle mde msr mtl mtx mcp mmk mns) (x : Int32) : Ret g mdX2_lengthOf [.ref mo, .int x] (wM g mo mr mnd mgv mcu mck mcl msh mhh mnu mpa mfa mti mpo mle mde msr mtl mtx mcp mmk mns) (fun r w => r = some (.int (aLen S x)) ∧ w = (wM g mo mr mnd mgv mcu mck mcl msh mhh mnu mpa mfa mti mpo mle mde msr mtl mtx mcp mmk mns)) := by
  refine Ret.of [_, _, _] 1 (by decide) (Nat.le_of_ble_eq_true rfl) rfl ?_
  refine ev_aload_n (pc' := 1) dX2_lengthOf_0 rfl rfl ?_
  refine ev_iload_n (pc' := 2) dX2_lengthOf_1 rfl rfl ?_
  refine ev_callV (As := [_]) coX2_at 0 rfl rfl (c_at T hR x) rfl (by decide) (by first | exact Nat.le_of_ble_eq_true rfl | simp [Value.category, rf_cat]) dX2_lengthOf_2 rfl (pc' := 5) rfl (fun v w hq => ?_)
  obtain ⟨rfl, rfl⟩ := hq
  dsimp only [Option.toList, List.cons_append, List.nil_append]
  refine ev_istore_n (pc' := 6) (lv' := [_, _, _]) dX2_lengthOf_5 rfl (by decide) (by intro w hw; first | exact Or.inl rfl | (right; have hw := Option.some.inj (Option.some.inj hw); subst hw; first | rfl | exact rf_cat _) | cases hw) rfl ?_
  refine ev_iload_n (pc' := 7) dX2_lengthOf_6 rfl rfl ?_
  refine ev_bipush (pc' := 9) (v := (-7)) dX2_lengthOf_7 rfl (by decide) ?_
  refine ev_icmp_ne (tgt := 17) (pc' := 12) dX2_lengthOf_9 (by decide) rfl (fun h9 => ?_) (fun h9 => ?_)
  · cases hl : lk S x with
    | none => exact absurd (lkI_none hl) h9
    | some a =>
      have ha := (lk_some hl).1
      have hk := ix_lt T ha
      rw [lkI_some hl]
      refine ev_aload_n (pc' := 18) dX2_lengthOf_17 rfl rfl ?_
      refine ev_get inX2 0 10 rfl rfl (by decide) flX2_textLength rfl (pc' := 21) dX2_lengthOf_18 rfl ?_
      refine ev_iload_n (pc' := 22) dX2_lengthOf_21 rfl rfl ?_
      refine ev_ialdN 9 rfl (by omega) (by decide) (RM.row hR ha).2.2.2.2.2.2.2.1 (pc' := 23) dX2_lengthOf_22 rfl ?_
      refine ev_iret rfl dX2_lengthOf_23 ?_
      exact ⟨by unfold aLen; rw [hl], rfl⟩
  · refine ev_bipush (pc' := 14) (v := (-2)) dX2_lengthOf_12 rfl (by decide) ?_
    refine ev_goto (pc' := 23) dX2_lengthOf_14 (by decide) ?_
    refine ev_iret rfl dX2_lengthOf_23 ?_
    exact ⟨by unfold aLen; rw [(lkI_m7 T).mp h9], rfl⟩
theorem c_mfavouriteOf (T : Tree S) (hR : RM S mnd mgv mcu mck mcl msh mhh mnu mpa mfa mti mpo mle mde msr mtl mtx mcp mmk mns) (x : Int32) : Ret g mdX2_favouriteOf [.ref mo, .int x] (wM g mo mr mnd mgv mcu mck mcl msh mhh mnu mpa mfa mti mpo mle mde msr mtl mtx mcp mmk mns) (fun r w => r = some (.int (aFav S x)) ∧ w = (wM g mo mr mnd mgv mcu mck mcl msh mhh mnu mpa mfa mti mpo mle mde msr mtl mtx mcp mmk mns)) := by
  refine Ret.of [_, _, _] 1 (by decide) (Nat.le_of_ble_eq_true rfl) rfl ?_
  refine ev_aload_n (pc' := 1) dX2_favouriteOf_0 rfl rfl ?_
  refine ev_iload_n (pc' := 2) dX2_favouriteOf_1 rfl rfl ?_
  refine ev_callV (As := [_]) coX2_at 0 rfl rfl (c_at T hR x) rfl (by decide) (by first | exact Nat.le_of_ble_eq_true rfl | simp [Value.category, rf_cat]) dX2_favouriteOf_2 rfl (pc' := 5) rfl (fun v w hq => ?_)
  obtain ⟨rfl, rfl⟩ := hq
  dsimp only [Option.toList, List.cons_append, List.nil_append]
  refine ev_istore_n (pc' := 6) (lv' := [_, _, _]) dX2_favouriteOf_5 rfl (by decide) (by intro w hw; first | exact Or.inl rfl | (right; have hw := Option.some.inj (Option.some.inj hw); subst hw; first | rfl | exact rf_cat _) | cases hw) rfl ?_
  refine ev_iload_n (pc' := 7) dX2_favouriteOf_6 rfl rfl ?_
  refine ev_bipush (pc' := 9) (v := (-7)) dX2_favouriteOf_7 rfl (by decide) ?_
  refine ev_icmp_ne (tgt := 17) (pc' := 12) dX2_favouriteOf_9 (by decide) rfl (fun h9 => ?_) (fun h9 => ?_)
  · cases hl : lk S x with
    | none => exact absurd (lkI_none hl) h9
    | some a =>
      have ha := (lk_some hl).1
      have hk := ix_lt T ha
      rw [lkI_some hl]
      refine ev_aload_n (pc' := 18) dX2_favouriteOf_17 rfl rfl ?_
      refine ev_get inX2 0 4 rfl rfl (by decide) flX2_favourite rfl (pc' := 21) dX2_favouriteOf_18 rfl ?_
      refine ev_iload_n (pc' := 22) dX2_favouriteOf_21 rfl rfl ?_
      refine ev_ialdN 3 rfl (by omega) (by decide) (RM.row hR ha).2.2.1 (pc' := 23) dX2_favouriteOf_22 rfl ?_
      refine ev_iret rfl dX2_favouriteOf_23 ?_
      exact ⟨by unfold aFav; rw [hl], rfl⟩
  · refine ev_bipush (pc' := 14) (v := (-2)) dX2_favouriteOf_12 rfl (by decide) ?_
    refine ev_goto (pc' := 23) dX2_favouriteOf_14 (by decide) ?_
    refine ev_iret rfl dX2_favouriteOf_23 ?_
    exact ⟨by unfold aFav; rw [(lkI_m7 T).mp h9], rfl⟩
theorem c_mtimeOf (T : Tree S) (hR : RM S mnd mgv mcu mck mcl msh mhh mnu mpa mfa mti mpo mle mde msr mtl mtx mcp mmk mns) (x : Int32) : Ret g mdX2_timeOf [.ref mo, .int x] (wM g mo mr mnd mgv mcu mck mcl msh mhh mnu mpa mfa mti mpo mle mde msr mtl mtx mcp mmk mns) (fun r w => r = some (.int (aTim S x)) ∧ w = (wM g mo mr mnd mgv mcu mck mcl msh mhh mnu mpa mfa mti mpo mle mde msr mtl mtx mcp mmk mns)) := by
  refine Ret.of [_, _, _] 1 (by decide) (Nat.le_of_ble_eq_true rfl) rfl ?_
  refine ev_aload_n (pc' := 1) dX2_timeOf_0 rfl rfl ?_
  refine ev_iload_n (pc' := 2) dX2_timeOf_1 rfl rfl ?_
  refine ev_callV (As := [_]) coX2_at 0 rfl rfl (c_at T hR x) rfl (by decide) (by first | exact Nat.le_of_ble_eq_true rfl | simp [Value.category, rf_cat]) dX2_timeOf_2 rfl (pc' := 5) rfl (fun v w hq => ?_)
  obtain ⟨rfl, rfl⟩ := hq
  dsimp only [Option.toList, List.cons_append, List.nil_append]
  refine ev_istore_n (pc' := 6) (lv' := [_, _, _]) dX2_timeOf_5 rfl (by decide) (by intro w hw; first | exact Or.inl rfl | (right; have hw := Option.some.inj (Option.some.inj hw); subst hw; first | rfl | exact rf_cat _) | cases hw) rfl ?_
  refine ev_iload_n (pc' := 7) dX2_timeOf_6 rfl rfl ?_
  refine ev_bipush (pc' := 9) (v := (-7)) dX2_timeOf_7 rfl (by decide) ?_
  refine ev_icmp_ne (tgt := 17) (pc' := 12) dX2_timeOf_9 (by decide) rfl (fun h9 => ?_) (fun h9 => ?_)
  · cases hl : lk S x with
    | none => exact absurd (lkI_none hl) h9
    | some a =>
      have ha := (lk_some hl).1
      have hk := ix_lt T ha
      rw [lkI_some hl]
      refine ev_aload_n (pc' := 18) dX2_timeOf_17 rfl rfl ?_
      refine ev_get inX2 0 5 rfl rfl (by decide) flX2_time rfl (pc' := 21) dX2_timeOf_18 rfl ?_
      refine ev_iload_n (pc' := 22) dX2_timeOf_21 rfl rfl ?_
      refine ev_ialdN 4 rfl (by omega) (by decide) (RM.row hR ha).2.2.2.1 (pc' := 23) dX2_timeOf_22 rfl ?_
      refine ev_iret rfl dX2_timeOf_23 ?_
      exact ⟨by unfold aTim; rw [hl], rfl⟩
  · refine ev_bipush (pc' := 14) (v := (-2)) dX2_timeOf_12 rfl (by decide) ?_
    refine ev_goto (pc' := 23) dX2_timeOf_14 (by decide) ?_
    refine ev_iret rfl dX2_timeOf_23 ?_
    exact ⟨by unfold aTim; rw [(lkI_m7 T).mp h9], rfl⟩
theorem c_edit (T : Tree S) (hR : RM S mnd mgv mcu mck mcl msh mhh mnu mpa mfa mti mpo mle mde msr mtl mtx mcp mmk mns) {a : Nat} (ha : a ∈ sL S) : Ret g mdX2_edit [.ref mo, .int (nI (ix S a))] (wM g mo mr mnd mgv mcu mck mcl msh mhh mnu mpa mfa mti mpo mle mde msr mtl mtx mcp mmk mns) (fun r w => r = some (.int (edc S a)) ∧ w = (wM g mo mr mnd mgv mcu mck mcl msh mhh mnu mpa mfa mti mpo mle mde msr mtl mtx mcp mmk mns)) := by
  have hk := ix_lt T ha
  have hr := RM.row hR ha
  refine Ret.of [_, _] 0 (by decide) (Nat.le_of_ble_eq_true rfl) rfl ?_
  refine ev_sipush (pc' := 3) (v := nI 1000) dX2_edit_0 rfl (by decide) ?_
  refine ev_aload_n (pc' := 4) dX2_edit_3 rfl rfl ?_
  refine ev_get inX2 0 6 rfl rfl (by decide) flX2_position rfl (pc' := 7) dX2_edit_4 rfl ?_
  refine ev_iload_n (pc' := 8) dX2_edit_7 rfl rfl ?_
  refine ev_ialdN 5 rfl (by omega) (by decide) hr.2.2.2.2.1 (pc' := 9) dX2_edit_8 rfl ?_
  refine ev_imul (pc' := 10) dX2_edit_9 rfl ?_
  refine ev_bipush (pc' := 12) (v := nI 10) dX2_edit_10 rfl (by decide) ?_
  refine ev_aload_n (pc' := 13) dX2_edit_12 rfl rfl ?_
  refine ev_get inX2 0 7 rfl rfl (by decide) flX2_length rfl (pc' := 16) dX2_edit_13 rfl ?_
  refine ev_iload_n (pc' := 17) dX2_edit_16 rfl rfl ?_
  refine ev_ialdN 6 rfl (by omega) (by decide) hr.2.2.2.2.2.1 (pc' := 18) dX2_edit_17 rfl ?_
  refine ev_imul (pc' := 19) dX2_edit_18 rfl ?_
  refine ev_iadd (pc' := 20) dX2_edit_19 rfl ?_
  refine ev_aload_n (pc' := 21) dX2_edit_20 rfl rfl ?_
  refine ev_get inX2 0 8 rfl rfl (by decide) flX2_deletes rfl (pc' := 24) dX2_edit_21 rfl ?_
  refine ev_iload_n (pc' := 25) dX2_edit_24 rfl rfl ?_
  refine ev_zaldN 7 rfl (by omega) (by decide) hr.2.2.2.2.2.2.1 (pc' := 26) dX2_edit_25 rfl ?_
  refine ev_if_eq (tgt := 33) (pc' := 29) dX2_edit_26 (by decide) rfl (fun h26 => ?_) (fun h26 => ?_)
  · refine ev_iconst (pc' := 34) (v := nI 0) dX2_edit_33 rfl (by decide) ?_
    refine ev_iadd (pc' := 35) dX2_edit_34 rfl ?_
    refine ev_iret rfl dX2_edit_35 ?_
    refine ⟨?_, rfl⟩
    unfold edc
    rw [bI_eq.mp h26]; rfl
  · refine ev_iconst (pc' := 30) (v := nI 1) dX2_edit_29 rfl (by decide) ?_
    refine ev_goto (pc' := 34) dX2_edit_30 (by decide) ?_
    refine ev_iadd (pc' := 35) dX2_edit_34 rfl ?_
    refine ev_iret rfl dX2_edit_35 ?_
    refine ⟨?_, rfl⟩
    unfold edc
    rw [bI_ne.mp h26]; rfl
theorem ixz (T : Tree S) {a : Nat} (ha : a ∈ sL S) : nI (ix S a) = 0 ↔ a = 0 := by
  have hk := ix_lt T ha
  rw [← ix_eq0 T ha]
  exact ⟨fun h => nI_inj (b := 0) (by omega) (by omega) h, fun h => by rw [h]; rfl⟩
theorem c_meditOf (T : Tree S) (hR : RM S mnd mgv mcu mck mcl msh mhh mnu mpa mfa mti mpo mle mde msr mtl mtx mcp mmk mns) (x : Int32) : Ret g mdX2_editOf [.ref mo, .int x] (wM g mo mr mnd mgv mcu mck mcl msh mhh mnu mpa mfa mti mpo mle mde msr mtl mtx mcp mmk mns) (fun r w => r = some (.int (aEdit S x)) ∧ w = (wM g mo mr mnd mgv mcu mck mcl msh mhh mnu mpa mfa mti mpo mle mde msr mtl mtx mcp mmk mns)) := by
  refine Ret.of [_, _, _] 1 (by decide) (Nat.le_of_ble_eq_true rfl) rfl ?_
  refine ev_aload_n (pc' := 1) dX2_editOf_0 rfl rfl ?_
  refine ev_iload_n (pc' := 2) dX2_editOf_1 rfl rfl ?_
  refine ev_callV (As := [_]) coX2_at 0 rfl rfl (c_at T hR x) rfl (by decide) (by first | exact Nat.le_of_ble_eq_true rfl | simp [Value.category, rf_cat]) dX2_editOf_2 rfl (pc' := 5) rfl (fun v w hq => ?_)
  obtain ⟨rfl, rfl⟩ := hq
  dsimp only [Option.toList, List.cons_append, List.nil_append]
  refine ev_istore_n (pc' := 6) (lv' := [_, _, _]) dX2_editOf_5 rfl (by decide) (by intro w hw; first | exact Or.inl rfl | (right; have hw := Option.some.inj (Option.some.inj hw); subst hw; first | rfl | exact rf_cat _) | cases hw) rfl ?_
  refine ev_iload_n (pc' := 7) dX2_editOf_6 rfl rfl ?_
  refine ev_bipush (pc' := 9) (v := (-7)) dX2_editOf_7 rfl (by decide) ?_
  refine ev_icmp_ne (tgt := 15) (pc' := 12) dX2_editOf_9 (by decide) rfl (fun h9 => ?_) (fun h9 => ?_)
  · cases hl : lk S x with
    | none => exact absurd (lkI_none hl) h9
    | some a =>
      have ha := (lk_some hl).1
      have hk := ix_lt T ha
      rw [lkI_some hl]
      refine ev_iload_n (pc' := 16) dX2_editOf_15 rfl rfl ?_
      refine ev_if_ne (tgt := 24) (pc' := 19) dX2_editOf_16 (by decide) rfl (fun h16 => ?_) (fun h16 => ?_)
      · rw [ixz T ha] at h16
        refine ev_aload_n (pc' := 25) dX2_editOf_24 rfl rfl ?_
        refine ev_iload_n (pc' := 26) dX2_editOf_25 rfl rfl ?_
        refine ev_callV (As := [_]) coX2_edit 0 rfl rfl (c_edit T hR ha) rfl (by decide) (by first | exact Nat.le_of_ble_eq_true rfl | simp [Value.category, rf_cat]) dX2_editOf_26 rfl (pc' := 29) rfl (fun v w hq => ?_)
        obtain ⟨rfl, rfl⟩ := hq
        dsimp only [Option.toList, List.cons_append, List.nil_append]
        refine ev_iret rfl dX2_editOf_29 ?_
        refine ⟨?_, rfl⟩
        unfold aEdit; rw [hl]
        show _ = some (Value.int (if a = 0 then (-6) else edc S a))
        rw [if_neg h16]
      · rw [ixz T ha] at h16
        refine ev_bipush (pc' := 21) (v := (-6)) dX2_editOf_19 rfl (by decide) ?_
        refine ev_goto (pc' := 29) dX2_editOf_21 (by decide) ?_
        refine ev_iret rfl dX2_editOf_29 ?_
        refine ⟨?_, rfl⟩
        unfold aEdit; rw [hl]
        show _ = some (Value.int (if a = 0 then (-6) else edc S a))
        rw [if_pos h16]
  · refine ev_bipush (pc' := 14) (v := (-2)) dX2_editOf_12 rfl (by decide) ?_
    refine ev_iret rfl dX2_editOf_14 ?_
    exact ⟨by unfold aEdit; rw [(lkI_m7 T).mp h9], rfl⟩
theorem c_mparentOf (T : Tree S) (hR : RM S mnd mgv mcu mck mcl msh mhh mnu mpa mfa mti mpo mle mde msr mtl mtx mcp mmk mns) (x : Int32) : Ret g mdX2_parentOf [.ref mo, .int x] (wM g mo mr mnd mgv mcu mck mcl msh mhh mnu mpa mfa mti mpo mle mde msr mtl mtx mcp mmk mns) (fun r w => r = some (.int (aPar S x)) ∧ w = (wM g mo mr mnd mgv mcu mck mcl msh mhh mnu mpa mfa mti mpo mle mde msr mtl mtx mcp mmk mns)) := by
  refine Ret.of [_, _, _] 1 (by decide) (Nat.le_of_ble_eq_true rfl) rfl ?_
  refine ev_aload_n (pc' := 1) dX2_parentOf_0 rfl rfl ?_
  refine ev_iload_n (pc' := 2) dX2_parentOf_1 rfl rfl ?_
  refine ev_callV (As := [_]) coX2_at 0 rfl rfl (c_at T hR x) rfl (by decide) (by first | exact Nat.le_of_ble_eq_true rfl | simp [Value.category, rf_cat]) dX2_parentOf_2 rfl (pc' := 5) rfl (fun v w hq => ?_)
  obtain ⟨rfl, rfl⟩ := hq
  dsimp only [Option.toList, List.cons_append, List.nil_append]
  refine ev_istore_n (pc' := 6) (lv' := [_, _, _]) dX2_parentOf_5 rfl (by decide) (by intro w hw; first | exact Or.inl rfl | (right; have hw := Option.some.inj (Option.some.inj hw); subst hw; first | rfl | exact rf_cat _) | cases hw) rfl ?_
  refine ev_iload_n (pc' := 7) dX2_parentOf_6 rfl rfl ?_
  refine ev_bipush (pc' := 9) (v := (-7)) dX2_parentOf_7 rfl (by decide) ?_
  refine ev_icmp_ne (tgt := 15) (pc' := 12) dX2_parentOf_9 (by decide) rfl (fun h9 => ?_) (fun h9 => ?_)
  · cases hl : lk S x with
    | none => exact absurd (lkI_none hl) h9
    | some a =>
      have ha := (lk_some hl).1
      have hk := ix_lt T ha
      rw [lkI_some hl]
      refine ev_iload_n (pc' := 16) dX2_parentOf_15 rfl rfl ?_
      refine ev_if_ne (tgt := 24) (pc' := 19) dX2_parentOf_16 (by decide) rfl (fun h16 => ?_) (fun h16 => ?_)
      · rw [ixz T ha] at h16
        refine ev_aload_n (pc' := 25) dX2_parentOf_24 rfl rfl ?_
        refine ev_get inX2 0 3 rfl rfl (by decide) flX2_parent rfl (pc' := 28) dX2_parentOf_25 rfl ?_
        refine ev_iload_n (pc' := 29) dX2_parentOf_28 rfl rfl ?_
        refine ev_ialdN 2 rfl (by omega) (by decide) (RM.row hR ha).2.1 (pc' := 30) dX2_parentOf_29 rfl ?_
        refine ev_iret rfl dX2_parentOf_30 ?_
        refine ⟨?_, rfl⟩
        unfold aPar; rw [hl]
        show _ = some (Value.int (if a = 0 then (-6) else oI (spa S a)))
        rw [if_neg h16]
      · rw [ixz T ha] at h16
        refine ev_bipush (pc' := 21) (v := (-6)) dX2_parentOf_19 rfl (by decide) ?_
        refine ev_goto (pc' := 30) dX2_parentOf_21 (by decide) ?_
        refine ev_iret rfl dX2_parentOf_30 ?_
        refine ⟨?_, rfl⟩
        unfold aPar; rw [hl]
        show _ = some (Value.int (if a = 0 then (-6) else oI (spa S a)))
        rw [if_pos h16]
  · refine ev_bipush (pc' := 14) (v := (-2)) dX2_parentOf_12 rfl (by decide) ?_
    refine ev_iret rfl dX2_parentOf_14 ?_
    exact ⟨by unfold aPar; rw [(lkI_m7 T).mp h9], rfl⟩
theorem c_mcommonAncestor (T : Tree S) (hR : RM S mnd mgv mcu mck mcl msh mhh mnu mpa mfa mti mpo mle mde msr mtl mtx mcp mmk mns) (x y : Int32) : Ret g mdX2_commonAncestor [.ref mo, .int x, .int y] (wM g mo mr mnd mgv mcu mck mcl msh mhh mnu mpa mfa mti mpo mle mde msr mtl mtx mcp mmk mns) (fun r w => r = some (.int (aLca S x y)) ∧ w = (wM g mo mr mnd mgv mcu mck mcl msh mhh mnu mpa mfa mti mpo mle mde msr mtl mtx mcp mmk mns)) := by
  refine Ret.of [_, _, _, _, _] 2 (by decide) (Nat.le_of_ble_eq_true rfl) rfl ?_
  refine ev_aload_n (pc' := 1) dX2_commonAncestor_0 rfl rfl ?_
  refine ev_iload_n (pc' := 2) dX2_commonAncestor_1 rfl rfl ?_
  refine ev_callV (As := [_]) coX2_at 0 rfl rfl (c_at T hR x) rfl (by decide) (by first | exact Nat.le_of_ble_eq_true rfl | simp [Value.category, rf_cat]) dX2_commonAncestor_2 rfl (pc' := 5) rfl (fun v w hq => ?_)
  obtain ⟨rfl, rfl⟩ := hq
  dsimp only [Option.toList, List.cons_append, List.nil_append]
  refine ev_istore_n (pc' := 6) (lv' := [_, _, _, _, _]) dX2_commonAncestor_5 rfl (by decide) (by intro w hw; first | exact Or.inl rfl | (right; have hw := Option.some.inj (Option.some.inj hw); subst hw; first | rfl | exact rf_cat _) | cases hw) rfl ?_
  refine ev_aload_n (pc' := 7) dX2_commonAncestor_6 rfl rfl ?_
  refine ev_iload_n (pc' := 8) dX2_commonAncestor_7 rfl rfl ?_
  refine ev_callV (As := [_]) coX2_at 0 rfl rfl (c_at T hR y) rfl (by decide) (by first | exact Nat.le_of_ble_eq_true rfl | simp [Value.category, rf_cat]) dX2_commonAncestor_8 rfl (pc' := 11) rfl (fun v w hq => ?_)
  obtain ⟨rfl, rfl⟩ := hq
  dsimp only [Option.toList, List.cons_append, List.nil_append]
  refine ev_istore (pc' := 13) (lv' := [_, _, _, _, _]) dX2_commonAncestor_11 rfl (by decide) (by intro w hw; first | exact Or.inl rfl | (right; have hw := Option.some.inj (Option.some.inj hw); subst hw; first | rfl | exact rf_cat _) | cases hw) rfl ?_
  refine ev_iload_n (pc' := 14) dX2_commonAncestor_13 rfl rfl ?_
  refine ev_bipush (pc' := 16) (v := (-7)) dX2_commonAncestor_14 rfl (by decide) ?_
  refine ev_icmp_eq (tgt := 26) (pc' := 19) dX2_commonAncestor_16 (by decide) rfl (fun h16 => ?_) (fun h16 => ?_)
  · refine ev_bipush (pc' := 28) (v := (-2)) dX2_commonAncestor_26 rfl (by decide) ?_
    refine ev_goto (pc' := 43) dX2_commonAncestor_28 (by decide) ?_
    refine ev_iret rfl dX2_commonAncestor_43 ?_
    exact ⟨by unfold aLca; rw [(lkI_m7 T).mp h16], rfl⟩
  · refine ev_iload (pc' := 21) dX2_commonAncestor_19 rfl rfl ?_
    refine ev_bipush (pc' := 23) (v := (-7)) dX2_commonAncestor_21 rfl (by decide) ?_
    refine ev_icmp_ne (tgt := 31) (pc' := 26) dX2_commonAncestor_23 (by decide) rfl (fun h23 => ?_) (fun h23 => ?_)
    · cases hl : lk S x with
      | none => exact absurd (lkI_none hl) h16
      | some a =>
        cases hm : lk S y with
        | none => exact absurd (lkI_none hm) h23
        | some b =>
          have ha := (lk_some hl).1
          have hb := (lk_some hm).1
          have hc := lca_mem T hb a ha
          have hk := ix_lt T hc
          rw [lkI_some hl, lkI_some hm]
          refine ev_aload_n (pc' := 32) dX2_commonAncestor_31 rfl rfl ?_
          refine ev_get inX2 0 2 rfl rfl (by decide) flX2_number rfl (pc' := 35) dX2_commonAncestor_32 rfl ?_
          refine ev_aload_n (pc' := 36) dX2_commonAncestor_35 rfl rfl ?_
          refine ev_iload_n (pc' := 37) dX2_commonAncestor_36 rfl rfl ?_
          refine ev_iload (pc' := 39) dX2_commonAncestor_37 rfl rfl ?_
          refine ev_callV (As := [_, _]) coX2_common 0 rfl rfl (c_common T hR ha hb) rfl (by decide) (by first | exact Nat.le_of_ble_eq_true rfl | simp [Value.category, rf_cat]) dX2_commonAncestor_39 rfl (pc' := 42) rfl (fun v w hq => ?_)
          obtain ⟨rfl, rfl⟩ := hq
          dsimp only [Option.toList, List.cons_append, List.nil_append]
          refine ev_ialdN 1 rfl (by omega) (by decide) (RM.row hR hc).1 (pc' := 43) dX2_commonAncestor_42 rfl ?_
          refine ev_iret rfl dX2_commonAncestor_43 ?_
          exact ⟨by unfold aLca; rw [hl, hm], rfl⟩
    · refine ev_bipush (pc' := 28) (v := (-2)) dX2_commonAncestor_26 rfl (by decide) ?_
      refine ev_goto (pc' := 43) dX2_commonAncestor_28 (by decide) ?_
      refine ev_iret rfl dX2_commonAncestor_43 ?_
      refine ⟨?_, rfl⟩
      unfold aLca; rw [(lkI_m7 T).mp h23]
      cases lk S x <;> rfl
theorem c_mdistance (T : Tree S) (hR : RM S mnd mgv mcu mck mcl msh mhh mnu mpa mfa mti mpo mle mde msr mtl mtx mcp mmk mns) (x y : Int32) : Ret g mdX2_distance [.ref mo, .int x, .int y] (wM g mo mr mnd mgv mcu mck mcl msh mhh mnu mpa mfa mti mpo mle mde msr mtl mtx mcp mmk mns) (fun r w => r = some (.int (aDis S x y)) ∧ w = (wM g mo mr mnd mgv mcu mck mcl msh mhh mnu mpa mfa mti mpo mle mde msr mtl mtx mcp mmk mns)) := by
  refine Ret.of [_, _, _, _, _] 2 (by decide) (Nat.le_of_ble_eq_true rfl) rfl ?_
  refine ev_aload_n (pc' := 1) dX2_distance_0 rfl rfl ?_
  refine ev_iload_n (pc' := 2) dX2_distance_1 rfl rfl ?_
  refine ev_callV (As := [_]) coX2_at 0 rfl rfl (c_at T hR x) rfl (by decide) (by first | exact Nat.le_of_ble_eq_true rfl | simp [Value.category, rf_cat]) dX2_distance_2 rfl (pc' := 5) rfl (fun v w hq => ?_)
  obtain ⟨rfl, rfl⟩ := hq
  dsimp only [Option.toList, List.cons_append, List.nil_append]
  refine ev_istore_n (pc' := 6) (lv' := [_, _, _, _, _]) dX2_distance_5 rfl (by decide) (by intro w hw; first | exact Or.inl rfl | (right; have hw := Option.some.inj (Option.some.inj hw); subst hw; first | rfl | exact rf_cat _) | cases hw) rfl ?_
  refine ev_aload_n (pc' := 7) dX2_distance_6 rfl rfl ?_
  refine ev_iload_n (pc' := 8) dX2_distance_7 rfl rfl ?_
  refine ev_callV (As := [_]) coX2_at 0 rfl rfl (c_at T hR y) rfl (by decide) (by first | exact Nat.le_of_ble_eq_true rfl | simp [Value.category, rf_cat]) dX2_distance_8 rfl (pc' := 11) rfl (fun v w hq => ?_)
  obtain ⟨rfl, rfl⟩ := hq
  dsimp only [Option.toList, List.cons_append, List.nil_append]
  refine ev_istore (pc' := 13) (lv' := [_, _, _, _, _]) dX2_distance_11 rfl (by decide) (by intro w hw; first | exact Or.inl rfl | (right; have hw := Option.some.inj (Option.some.inj hw); subst hw; first | rfl | exact rf_cat _) | cases hw) rfl ?_
  refine ev_iload_n (pc' := 14) dX2_distance_13 rfl rfl ?_
  refine ev_bipush (pc' := 16) (v := (-7)) dX2_distance_14 rfl (by decide) ?_
  refine ev_icmp_eq (tgt := 26) (pc' := 19) dX2_distance_16 (by decide) rfl (fun h16 => ?_) (fun h16 => ?_)
  · refine ev_bipush (pc' := 28) (v := (-2)) dX2_distance_26 rfl (by decide) ?_
    refine ev_goto (pc' := 38) dX2_distance_28 (by decide) ?_
    refine ev_iret rfl dX2_distance_38 ?_
    exact ⟨by unfold aDis; rw [(lkI_m7 T).mp h16], rfl⟩
  · refine ev_iload (pc' := 21) dX2_distance_19 rfl rfl ?_
    refine ev_bipush (pc' := 23) (v := (-7)) dX2_distance_21 rfl (by decide) ?_
    refine ev_icmp_ne (tgt := 31) (pc' := 26) dX2_distance_23 (by decide) rfl (fun h23 => ?_) (fun h23 => ?_)
    · cases hl : lk S x with
      | none => exact absurd (lkI_none hl) h16
      | some a =>
        cases hm : lk S y with
        | none => exact absurd (lkI_none hm) h23
        | some b =>
          have ha := (lk_some hl).1
          have hb := (lk_some hm).1
          rw [lkI_some hl, lkI_some hm]
          refine ev_aload_n (pc' := 32) dX2_distance_31 rfl rfl ?_
          refine ev_iload_n (pc' := 33) dX2_distance_32 rfl rfl ?_
          refine ev_iload (pc' := 35) dX2_distance_33 rfl rfl ?_
          refine ev_callV (As := [_, _]) coX2_far 0 rfl rfl (c_far T hR ha hb) rfl (by decide) (by first | exact Nat.le_of_ble_eq_true rfl | simp [Value.category, rf_cat]) dX2_distance_35 rfl (pc' := 38) rfl (fun v w hq => ?_)
          obtain ⟨rfl, rfl⟩ := hq
          dsimp only [Option.toList, List.cons_append, List.nil_append]
          refine ev_iret rfl dX2_distance_38 ?_
          exact ⟨by unfold aDis; rw [hl, hm], rfl⟩
    · refine ev_bipush (pc' := 28) (v := (-2)) dX2_distance_26 rfl (by decide) ?_
      refine ev_goto (pc' := 38) dX2_distance_28 (by decide) ?_
      refine ev_iret rfl dX2_distance_38 ?_
      refine ⟨?_, rfl⟩
      unfold aDis; rw [(lkI_m7 T).mp h23]
      cases lk S x <;> rfl
theorem c_mcharacterOf (T : Tree S) (hR : RM S mnd mgv mcu mck mcl msh mhh mnu mpa mfa mti mpo mle mde msr mtl mtx mcp mmk mns) (ht : ∀ a ∈ sL S, stl S a ≤ 40) (x i : Int32) : Ret g mdX2_characterOf [.ref mo, .int x, .int i] (wM g mo mr mnd mgv mcu mck mcl msh mhh mnu mpa mfa mti mpo mle mde msr mtl mtx mcp mmk mns) (fun r w => r = some (.int (aChr S x i)) ∧ w = (wM g mo mr mnd mgv mcu mck mcl msh mhh mnu mpa mfa mti mpo mle mde msr mtl mtx mcp mmk mns)) := by
  refine Ret.of [_, _, _, _] 1 (by decide) (Nat.le_of_ble_eq_true rfl) rfl ?_
  refine ev_aload_n (pc' := 1) dX2_characterOf_0 rfl rfl ?_
  refine ev_iload_n (pc' := 2) dX2_characterOf_1 rfl rfl ?_
  refine ev_callV (As := [_]) coX2_at 0 rfl rfl (c_at T hR x) rfl (by decide) (by first | exact Nat.le_of_ble_eq_true rfl | simp [Value.category, rf_cat]) dX2_characterOf_2 rfl (pc' := 5) rfl (fun v w hq => ?_)
  obtain ⟨rfl, rfl⟩ := hq
  dsimp only [Option.toList, List.cons_append, List.nil_append]
  refine ev_istore_n (pc' := 6) (lv' := [_, _, _, _]) dX2_characterOf_5 rfl (by decide) (by intro w hw; first | exact Or.inl rfl | (right; have hw := Option.some.inj (Option.some.inj hw); subst hw; first | rfl | exact rf_cat _) | cases hw) rfl ?_
  refine ev_iload_n (pc' := 7) dX2_characterOf_6 rfl rfl ?_
  refine ev_bipush (pc' := 9) (v := (-7)) dX2_characterOf_7 rfl (by decide) ?_
  refine ev_icmp_ne (tgt := 15) (pc' := 12) dX2_characterOf_9 (by decide) rfl (fun h9 => ?_) (fun h9 => ?_)
  · cases hl : lk S x with
    | none => exact absurd (lkI_none hl) h9
    | some a =>
      have ha := (lk_some hl).1
      have hk := ix_lt T ha
      have h40 := ht a ha
      have hr := RM.row hR ha
      rw [lkI_some hl]
      have key : (nI 0 ≤ i ∧ i ≤ nI (stl S a) - nI 1) ↔ (0 ≤ i ∧ i < nI (stl S a)) := by
        have e1 : (nI (stl S a) - nI 1).toInt = (stl S a : Int) - 1 := pk_sub_toInt (by omega) (by omega)
        have e2 : (nI (stl S a)).toInt = (stl S a : Int) := nI_toInt (by omega)
        rw [Int32.le_iff_toInt_le (x := i), Int32.lt_iff_toInt_lt, e1, e2]
        constructor
        · rintro ⟨p, q⟩; exact ⟨p, by omega⟩
        · rintro ⟨p, q⟩; exact ⟨p, by omega⟩
      refine ev_iload_n (pc' := 16) dX2_characterOf_15 rfl rfl ?_
      refine ev_iconst (pc' := 17) (v := nI 0) dX2_characterOf_16 rfl (by decide) ?_
      refine ev_aload_n (pc' := 18) dX2_characterOf_17 rfl rfl ?_
      refine ev_get inX2 0 10 rfl rfl (by decide) flX2_textLength rfl (pc' := 21) dX2_characterOf_18 rfl ?_
      refine ev_iload_n (pc' := 22) dX2_characterOf_21 rfl rfl ?_
      refine ev_ialdN 9 rfl (by omega) (by decide) hr.2.2.2.2.2.2.2.1 (pc' := 23) dX2_characterOf_22 rfl ?_
      refine ev_iconst (pc' := 24) (v := nI 1) dX2_characterOf_23 rfl (by decide) ?_
      refine ev_isub (pc' := 25) dX2_characterOf_24 rfl ?_
      refine ev_callS (As := [_, _, _]) coX2_within (c_within _ _ _ _) rfl (by decide) (by first | exact Nat.le_of_ble_eq_true rfl | simp [Value.category, rf_cat]) dX2_characterOf_25 rfl (pc' := 28) rfl (fun v w hq => ?_)
      obtain ⟨rfl, rfl⟩ := hq
      dsimp only [Option.toList, List.cons_append, List.nil_append]
      refine ev_if_eq (tgt := 45) (pc' := 31) dX2_characterOf_28 (by decide) rfl (fun h28 => ?_) (fun h28 => ?_)
      · rw [bI_eq, decide_eq_false_iff_not, key] at h28
        refine ev_iconst (pc' := 46) (v := (-1)) dX2_characterOf_45 rfl (by decide) ?_
        refine ev_iret rfl dX2_characterOf_46 ?_
        refine ⟨?_, rfl⟩
        unfold aChr; rw [hl]
        show _ = some (Value.int (if 0 ≤ i ∧ i < nI (stl S a) then stx S a i.toNatClampNeg else (-1)))
        rw [if_neg h28]
      · rw [bI_ne, decide_eq_true_eq, key] at h28
        obtain ⟨j, hj, rfl⟩ : ∃ j : Nat, j < stl S a ∧ i = nI j := by
          obtain ⟨j, hj, e⟩ := nI_of (x := i) (Int32.not_lt.mpr h28.1)
          subst e
          exact ⟨j, (nI_ltI hj (by omega)).mp h28.2, rfl⟩
        refine ev_aload_n (pc' := 32) dX2_characterOf_31 rfl rfl ?_
        refine ev_get inX2 0 11 rfl rfl (by decide) flX2_text rfl (pc' := 35) dX2_characterOf_32 rfl ?_
        refine ev_bipush (pc' := 37) (v := nI 40) dX2_characterOf_35 rfl (by decide) ?_
        refine ev_iload_n (pc' := 38) dX2_characterOf_37 rfl rfl ?_
        refine ev_imul (pc' := 39) dX2_characterOf_38 rfl ?_
        refine ev_iload_n (pc' := 40) dX2_characterOf_39 rfl rfl ?_
        refine ev_iadd (pc' := 41) dX2_characterOf_40 rfl ?_
        rw [pk_mul, nI_add]
        refine ev_ialdN 10 rfl (by omega) (by decide) (hr.2.2.2.2.2.2.2.2.2 j hj) (pc' := 42) dX2_characterOf_41 rfl ?_
        refine ev_goto (pc' := 46) dX2_characterOf_42 (by decide) ?_
        refine ev_iret rfl dX2_characterOf_46 ?_
        refine ⟨?_, rfl⟩
        unfold aChr; rw [hl]
        show _ = some (Value.int (if 0 ≤ nI j ∧ nI j < nI (stl S a) then stx S a (nI j).toNatClampNeg else (-1)))
        rw [if_pos h28, nI_clamp (by omega)]
  · refine ev_bipush (pc' := 14) (v := (-2)) dX2_characterOf_12 rfl (by decide) ?_
    refine ev_iret rfl dX2_characterOf_14 ?_
    exact ⟨by unfold aChr; rw [(lkI_m7 T).mp h9], rfl⟩
end M3
end
section
/-! ===== the reference's methods: becoming current, the clip, the marks ===== -/
def isM (g : EG) (mo : Nat) (mr : Nat → Nat) (S : SS) (w : va_W) : Prop := ∃ (mnd mgv mcu mck mcl msh : Int32) (mhh : Int64) (mnu mpa mfa mti mpo mle mde msr mtl mtx mcp mmk mns : Nat → Int32), w = (wM g mo mr mnd mgv mcu mck mcl msh mhh mnu mpa mfa mti mpo mle mde msr mtl mtx mcp mmk mns) ∧ RM S mnd mgv mcu mck mcl msh mhh mnu mpa mfa mti mpo mle mde msr mtl mtx mcp mmk mns
section M4
variable {g : EG} {mo : Nat} {mr : Nat → Nat} {mnd mgv mcu mck mcl msh : Int32} {mhh : Int64} {mnu mpa mfa mti mpo mle mde msr mtl mtx mcp mmk mns : Nat → Int32}
variable {S : SS}
theorem isM.of (hR : RM S mnd mgv mcu mck mcl msh mhh mnu mpa mfa mti mpo mle mde msr mtl mtx mcp mmk mns) : isM g mo mr S (wM g mo mr mnd mgv mcu mck mcl msh mhh mnu mpa mfa mti mpo mle mde msr mtl mtx mcp mmk mns) := ⟨mnd, mgv, mcu, mck, mcl, msh, mhh, mnu, mpa, mfa, mti, mpo, mle, mde, msr, mtl, mtx, mcp, mmk, mns, rfl, hR⟩
theorem c_mappend (hR : RM S mnd mgv mcu mck mcl msh mhh mnu mpa mfa mti mpo mle mde msr mtl mtx mcp mmk mns) (hc : scl S ≤ 6) (x : Int32) : Ret g mdX2_append [.ref mo, .int x] (wM g mo mr mnd mgv mcu mck mcl msh mhh mnu mpa mfa mti mpo mle mde msr mtl mtx mcp mmk mns) (fun r w => r = some (.int (oApp S x).1) ∧ isM g mo mr (oApp S x).2 w) := by
  refine Ret.of [_, _] 0 (by decide) (Nat.le_of_ble_eq_true rfl) rfl ?_
  have e4 := hR.2.2.2.2.1
  subst e4
  refine ev_iload_n (pc' := 1) dX2_append_0 rfl rfl ?_
  refine ev_bipush (pc' := 3) (v := nI 32) dX2_append_1 rfl (by decide) ?_
  refine ev_bipush (pc' := 5) (v := nI 126) dX2_append_3 rfl (by decide) ?_
  refine ev_callS (As := [_, _, _]) coX2_within (c_within _ _ _ _) rfl (by decide) (by first | exact Nat.le_of_ble_eq_true rfl | simp [Value.category, rf_cat]) dX2_append_5 rfl (pc' := 8) rfl (fun v w hq => ?_)
  obtain ⟨rfl, rfl⟩ := hq
  dsimp only [Option.toList, List.cons_append, List.nil_append]
  refine ev_if_ne (tgt := 13) (pc' := 11) dX2_append_8 (by decide) rfl (fun h8 => ?_) (fun h8 => ?_)
  · rw [bI_ne, decide_eq_true_eq] at h8
    have h8' : 32 ≤ x ∧ x ≤ 126 := h8
    refine ev_aload_n (pc' := 14) dX2_append_13 rfl rfl ?_
    refine ev_get inX2 0 14 rfl rfl (by decide) flX2_clipLength rfl (pc' := 17) dX2_append_14 rfl ?_
    refine ev_bipush (pc' := 19) (v := nI 6) dX2_append_17 rfl (by decide) ?_
    refine ev_icmp_ne (tgt := 25) (pc' := 22) dX2_append_19 (by decide) rfl (fun h19 => ?_) (fun h19 => ?_)
    · have hn : scl S ≠ 6 := fun e => h19 (by rw [e])
      refine ev_aload_n (pc' := 26) dX2_append_25 rfl rfl ?_
      refine ev_get inX2 0 15 rfl rfl (by decide) flX2_clip rfl (pc' := 29) dX2_append_26 rfl ?_
      refine ev_aload_n (pc' := 30) dX2_append_29 rfl rfl ?_
      refine ev_get inX2 0 14 rfl rfl (by decide) flX2_clipLength rfl (pc' := 33) dX2_append_30 rfl ?_
      refine ev_iload_n (pc' := 34) dX2_append_33 rfl rfl ?_
      refine ev_iastN 11 rfl (by omega) (by decide) (pc' := 35) dX2_append_34 rfl (ws' := wM _ _ _ _ _ _ _ _ _ _ _ _ _ _ _ _ _ _ _ _ _ _ _) rfl ?_
      refine ev_aload_n (pc' := 36) dX2_append_35 rfl rfl ?_
      refine ev_dup (pc' := 37) dX2_append_36 rfl (by first | rfl | exact rf_cat _) ?_
      refine ev_get inX2 0 14 rfl rfl (by decide) flX2_clipLength rfl (pc' := 40) dX2_append_37 rfl ?_
      refine ev_iconst (pc' := 41) (v := nI 1) dX2_append_40 rfl (by decide) ?_
      refine ev_iadd (pc' := 42) dX2_append_41 rfl ?_
      rw [nI_add]
      refine pX2_clipLength rfl (pc' := 45) dX2_append_42 rfl ?_
      refine ev_aload_n (pc' := 46) dX2_append_45 rfl rfl ?_
      refine ev_get inX2 0 14 rfl rfl (by decide) flX2_clipLength rfl (pc' := 49) dX2_append_46 rfl ?_
      refine ev_iret rfl dX2_append_49 ?_
      unfold oApp
      rw [if_pos h8', if_neg hn]
      refine ⟨rfl, isM.of ⟨hR.1, hR.2.1, hR.2.2.1, hR.2.2.2.1, rfl, hR.2.2.2.2.2.1, fun i hi => ?_, hR.2.2.2.2.2.2.2⟩⟩
      have hi : i < scl S + 1 := hi
      show upd mcp (scl S) x i = upd (scp S) (scl S) x i
      by_cases q : i = scl S
      · rw [q, pk_us, pk_us]
      · rw [pk_un q, pk_un q]; exact hR.2.2.2.2.2.2.1 i (by omega)
    · have hn : scl S = 6 := nI_inj (by omega) (by omega) h19
      refine ev_bipush (pc' := 24) (v := (-4)) dX2_append_22 rfl (by decide) ?_
      refine ev_iret rfl dX2_append_24 ?_
      unfold oApp
      rw [if_pos h8', if_pos hn]
      exact ⟨rfl, isM.of hR⟩
  · rw [bI_eq, decide_eq_false_iff_not] at h8
    have h8' : ¬ (32 ≤ x ∧ x ≤ 126) := h8
    refine ev_iconst (pc' := 12) (v := (-1)) dX2_append_11 rfl (by decide) ?_
    refine ev_iret rfl dX2_append_12 ?_
    unfold oApp
    rw [if_neg h8']
    exact ⟨rfl, isM.of hR⟩
theorem c_mclearClip (hR : RM S mnd mgv mcu mck mcl msh mhh mnu mpa mfa mti mpo mle mde msr mtl mtx mcp mmk mns) : Ret g mdX2_clearClip [.ref mo] (wM g mo mr mnd mgv mcu mck mcl msh mhh mnu mpa mfa mti mpo mle mde msr mtl mtx mcp mmk mns) (fun r w => r = some (.int (oClr S).1) ∧ isM g mo mr (oClr S).2 w) := by
  refine Ret.of [_, _] 1 (by decide) (Nat.le_of_ble_eq_true rfl) rfl ?_
  have e4 := hR.2.2.2.2.1
  subst e4
  refine ev_aload_n (pc' := 1) dX2_clearClip_0 rfl rfl ?_
  refine ev_get inX2 0 14 rfl rfl (by decide) flX2_clipLength rfl (pc' := 4) dX2_clearClip_1 rfl ?_
  refine ev_istore_n (pc' := 5) (lv' := [_, _]) dX2_clearClip_4 rfl (by decide) (by intro w hw; first | exact Or.inl rfl | (right; have hw := Option.some.inj (Option.some.inj hw); subst hw; first | rfl | exact rf_cat _) | cases hw) rfl ?_
  refine ev_aload_n (pc' := 6) dX2_clearClip_5 rfl rfl ?_
  refine ev_iconst (pc' := 7) (v := nI 0) dX2_clearClip_6 rfl (by decide) ?_
  refine pX2_clipLength rfl (pc' := 10) dX2_clearClip_7 rfl ?_
  refine ev_iload_n (pc' := 11) dX2_clearClip_10 rfl rfl ?_
  refine ev_iret rfl dX2_clearClip_11 ?_
  exact ⟨rfl, isM.of ⟨hR.1, hR.2.1, hR.2.2.1, hR.2.2.2.1, rfl, hR.2.2.2.2.2.1, fun i hi => absurd hi (Nat.not_lt_zero i), hR.2.2.2.2.2.2.2⟩⟩
theorem RM.setFav (T : Tree S) {f : Nat → Option Nat} (hR : RM (setFa S f) mnd mgv mcu mck mcl msh mhh mnu mpa mfa mti mpo mle mde msr mtl mtx mcp mmk mns) {b : Nat} (c : Nat) (hb : b ∈ sL S) : RM (setFa S (va_up f b (some c))) mnd mgv mcu mck mcl msh mhh mnu mpa (upd mfa (ix S b) (nI c)) mti mpo mle mde msr mtl mtx mcp mmk mns := by
  refine ⟨hR.1, hR.2.1, hR.2.2.1, hR.2.2.2.1, hR.2.2.2.2.1, fun x hx => ?_, hR.2.2.2.2.2.2.1, hR.2.2.2.2.2.2.2⟩
  have h := hR.2.2.2.2.2.1 x hx
  refine ⟨h.1, h.2.1, ?_, h.2.2.2⟩
  show upd mfa (ix S b) (nI c) (ix S x) = oI (va_up f b (some c) x)
  by_cases q : x = b
  · rw [q, pk_us, va_up_self]; rfl
  · rw [pk_un (fun e => q (ix_inj T hx hb e)), va_up_ne _ _ q]; exact h.2.2.1
end M4
section M5
variable {g : EG} {mo : Nat} {mr : Nat → Nat} {S : SS}
theorem become_loop (T : Tree S) {a : Nat} (ha : a ∈ sL S) : ∀ (c : Nat), c ∈ sL S → ∀ (f : Nat → Option Nat) (mnd mgv mcu mck mcl msh : Int32) (mhh : Int64) (mnu mpa mfa mti mpo mle mde msr mtl mtx mcp mmk mns : Nat → Int32), RM (setFa S f) mnd mgv mcu mck mcl msh mhh mnu mpa mfa mti mpo mle mde msr mtl mtx mcp mmk mns → Ev g mdX2_become 27 [some (.ref mo), some (.int (nI (ix S a))), some (.int (nI (ix S c)))] [] (wM g mo mr mnd mgv mcu mck mcl msh mhh mnu mpa mfa mti mpo mle mde msr mtl mtx mcp mmk mns) (fun r w => r = some (.int (nI a)) ∧ isM g mo mr (setFa S (favs (spa S) (path S c) f)) w) := by
  intro c
  have hka := ix_lt T ha
  induction c using Nat.strongRecOn with
  | ind c ih =>
    intro hc f mnd mgv mcu mck mcl msh mhh mnu mpa mfa mti mpo mle mde msr mtl mtx mcp mmk mns hR
    have hk := ix_lt T hc
    have T' : Tree (setFa S f) := T
    have ca : Ret g mdX2_above [.ref mo, .int (nI (ix S c))] (wM g mo mr mnd mgv mcu mck mcl msh mhh mnu mpa mfa mti mpo mle mde msr mtl mtx mcp mmk mns) (fun r w => r = some (.int (upI S c)) ∧ w = (wM g mo mr mnd mgv mcu mck mcl msh mhh mnu mpa mfa mti mpo mle mde msr mtl mtx mcp mmk mns)) := c_above T' hR hc
    cases hb : spa S c with
    | none =>
      refine ev_aload_n (pc' := 28) dX2_become_27 rfl rfl ?_
      refine ev_iload_n (pc' := 29) dX2_become_28 rfl rfl ?_
      refine ev_callV (As := [_]) coX2_above 0 rfl rfl (ca) rfl (by decide) (by first | exact Nat.le_of_ble_eq_true rfl | simp [Value.category, rf_cat]) dX2_become_29 rfl (pc' := 32) rfl (fun v w hq => ?_)
      obtain ⟨rfl, rfl⟩ := hq
      dsimp only [Option.toList, List.cons_append, List.nil_append]
      refine ev_bipush (pc' := 34) (v := (-7)) dX2_become_32 rfl (by decide) ?_
      refine ev_icmp_eq (tgt := 62) (pc' := 37) dX2_become_34 (by decide) rfl (fun h34 => ?_) (fun h34 => ?_)
      · refine ev_aload_n (pc' := 63) dX2_become_62 rfl rfl ?_
        refine ev_get inX2 0 2 rfl rfl (by decide) flX2_number rfl (pc' := 66) dX2_become_63 rfl ?_
        refine ev_iload_n (pc' := 67) dX2_become_66 rfl rfl ?_
        refine ev_ialdN 1 rfl (by omega) (by decide) (RM.row hR ha).1 (pc' := 68) dX2_become_67 rfl ?_
        refine ev_iret rfl dX2_become_68 ?_
        refine ⟨rfl, ?_⟩
        rw [path_none hb]
        show isM g mo mr (setFa S (match spa S c with | some b => va_up f b (some c) | none => f)) _
        rw [hb]
        exact isM.of hR
      · exact absurd (upI_none hb) h34
    | some b =>
      obtain ⟨h1, h2⟩ := T.par hc hb
      have hkb := ix_lt T h1
      refine ev_aload_n (pc' := 28) dX2_become_27 rfl rfl ?_
      refine ev_iload_n (pc' := 29) dX2_become_28 rfl rfl ?_
      refine ev_callV (As := [_]) coX2_above 0 rfl rfl (ca) rfl (by decide) (by first | exact Nat.le_of_ble_eq_true rfl | simp [Value.category, rf_cat]) dX2_become_29 rfl (pc' := 32) rfl (fun v w hq => ?_)
      obtain ⟨rfl, rfl⟩ := hq
      dsimp only [Option.toList, List.cons_append, List.nil_append]
      refine ev_bipush (pc' := 34) (v := (-7)) dX2_become_32 rfl (by decide) ?_
      refine ev_icmp_eq (tgt := 62) (pc' := 37) dX2_become_34 (by decide) rfl (fun h34 => ?_) (fun h34 => ?_)
      · rw [upI_some hb] at h34
        exact absurd h34 (nI_m7 (by omega))
      · refine ev_aload_n (pc' := 38) dX2_become_37 rfl rfl ?_
        refine ev_get inX2 0 4 rfl rfl (by decide) flX2_favourite rfl (pc' := 41) dX2_become_38 rfl ?_
        refine ev_aload_n (pc' := 42) dX2_become_41 rfl rfl ?_
        refine ev_iload_n (pc' := 43) dX2_become_42 rfl rfl ?_
        refine ev_callV (As := [_]) coX2_above 0 rfl rfl (ca) rfl (by decide) (by first | exact Nat.le_of_ble_eq_true rfl | simp [Value.category, rf_cat]) dX2_become_43 rfl (pc' := 46) rfl (fun v w hq => ?_)
        obtain ⟨rfl, rfl⟩ := hq
        dsimp only [Option.toList, List.cons_append, List.nil_append]
        rw [upI_some hb]
        refine ev_aload_n (pc' := 47) dX2_become_46 rfl rfl ?_
        refine ev_get inX2 0 2 rfl rfl (by decide) flX2_number rfl (pc' := 50) dX2_become_47 rfl ?_
        refine ev_iload_n (pc' := 51) dX2_become_50 rfl rfl ?_
        refine ev_ialdN 1 rfl (by omega) (by decide) (RM.row hR hc).1 (pc' := 52) dX2_become_51 rfl ?_
        refine ev_iastN 3 rfl (by omega) (by decide) (pc' := 53) dX2_become_52 rfl (ws' := wM _ _ _ _ _ _ _ _ _ _ _ _ _ _ _ _ _ _ _ _ _ _ _) rfl ?_
        have hR2 := RM.setFav T hR c h1
        have ca2 := c_above (g := g) (mo := mo) (mr := mr) (S := setFa S (va_up f b (some c))) T hR2 hc
        refine ev_aload_n (pc' := 54) dX2_become_53 rfl rfl ?_
        refine ev_iload_n (pc' := 55) dX2_become_54 rfl rfl ?_
        refine ev_callV (As := [_]) coX2_above 0 rfl rfl (ca2) rfl (by decide) (by first | exact Nat.le_of_ble_eq_true rfl | simp [Value.category, rf_cat]) dX2_become_55 rfl (pc' := 58) rfl (fun v w hq => ?_)
        obtain ⟨rfl, rfl⟩ := hq
        dsimp only [Option.toList, List.cons_append, List.nil_append]
        rw [show upI (setFa S (va_up f b (some c))) c = nI (ix S b) from upI_some hb]
        refine ev_istore_n (pc' := 59) (lv' := [_, _, _]) dX2_become_58 rfl (by decide) (by intro w hw; first | exact Or.inl rfl | (right; have hw := Option.some.inj (Option.some.inj hw); subst hw; first | rfl | exact rf_cat _) | cases hw) rfl ?_
        refine ev_goto (pc' := 27) dX2_become_59 (by decide) ?_
        have h3 := ih b h2 h1 (va_up f b (some c)) _ _ _ _ _ _ _ _ _ _ _ _ _ _ _ _ _ _ _ _ hR2
        rw [path_some T hc hb]
        show Ev g mdX2_become 27 _ [] _ (fun r w => r = some (.int (nI a)) ∧ isM g mo mr (setFa S (favs (spa S) (path S b) (match spa S c with | some b => va_up f b (some c) | none => f))) w)
        rw [hb]
        exact h3
theorem RM.bec0 (T : Tree S) {mnd mgv mcu mck mcl msh : Int32} {mhh : Int64} {mnu mpa mfa mti mpo mle mde msr mtl mtx mcp mmk mns : Nat → Int32} (hR : RM S mnd mgv mcu mck mcl msh mhh mnu mpa mfa mti mpo mle mde msr mtl mtx mcp mmk mns) {a : Nat} (ha : a ∈ sL S) : RM (setFa (bec0 S a) (sfa S)) mnd mgv (nI (ix S a)) (nI (sck S + 1)) mcl msh mhh mnu mpa mfa (upd mti (ix S a) (nI (sck S + 1))) mpo mle mde msr mtl mtx mcp mmk mns := by
  refine ⟨hR.1, hR.2.1, rfl, rfl, hR.2.2.2.2.1, fun x hx => ?_, hR.2.2.2.2.2.2.1, hR.2.2.2.2.2.2.2⟩
  have h := hR.2.2.2.2.2.1 x hx
  refine ⟨h.1, h.2.1, h.2.2.1, ?_, h.2.2.2.2⟩
  show upd mti (ix S a) (nI (sck S + 1)) (ix S x) = nI (va_up (sti S) a (sck S + 1) x)
  by_cases q : x = a
  · rw [q, pk_us, va_up_self]
  · rw [pk_un (fun e => q (ix_inj T hx ha e)), va_up_ne _ _ q]; exact h.2.2.2.1
theorem c_become (T : Tree S) {g : EG} {mo : Nat} {mr : Nat → Nat} {mnd mgv mcu mck mcl msh : Int32} {mhh : Int64} {mnu mpa mfa mti mpo mle mde msr mtl mtx mcp mmk mns : Nat → Int32} (hR : RM S mnd mgv mcu mck mcl msh mhh mnu mpa mfa mti mpo mle mde msr mtl mtx mcp mmk mns) {a : Nat} (ha : a ∈ sL S) : Ret g mdX2_become [.ref mo, .int (nI (ix S a))] (wM g mo mr mnd mgv mcu mck mcl msh mhh mnu mpa mfa mti mpo mle mde msr mtl mtx mcp mmk mns) (fun r w => r = some (.int (nI a)) ∧ isM g mo mr (bec S a) w) := by
  have hk := ix_lt T ha
  refine Ret.of [_, _, _] 1 (by decide) (Nat.le_of_ble_eq_true rfl) rfl ?_
  have e4 := hR.2.2.2.1
  subst e4
  refine ev_aload_n (pc' := 1) dX2_become_0 rfl rfl ?_
  refine ev_dup (pc' := 2) dX2_become_1 rfl (by first | rfl | exact rf_cat _) ?_
  refine ev_get inX2 0 13 rfl rfl (by decide) flX2_clock rfl (pc' := 5) dX2_become_2 rfl ?_
  refine ev_iconst (pc' := 6) (v := nI 1) dX2_become_5 rfl (by decide) ?_
  refine ev_iadd (pc' := 7) dX2_become_6 rfl ?_
  rw [nI_add]
  refine pX2_clock rfl (pc' := 10) dX2_become_7 rfl ?_
  refine ev_aload_n (pc' := 11) dX2_become_10 rfl rfl ?_
  refine ev_get inX2 0 5 rfl rfl (by decide) flX2_time rfl (pc' := 14) dX2_become_11 rfl ?_
  refine ev_iload_n (pc' := 15) dX2_become_14 rfl rfl ?_
  refine ev_aload_n (pc' := 16) dX2_become_15 rfl rfl ?_
  refine ev_get inX2 0 13 rfl rfl (by decide) flX2_clock rfl (pc' := 19) dX2_become_16 rfl ?_
  refine ev_iastN 4 rfl (by omega) (by decide) (pc' := 20) dX2_become_19 rfl (ws' := wM _ _ _ _ _ _ _ _ _ _ _ _ _ _ _ _ _ _ _ _ _ _ _) rfl ?_
  refine ev_aload_n (pc' := 21) dX2_become_20 rfl rfl ?_
  refine ev_iload_n (pc' := 22) dX2_become_21 rfl rfl ?_
  refine pX2_current rfl (pc' := 25) dX2_become_22 rfl ?_
  refine ev_iload_n (pc' := 26) dX2_become_25 rfl rfl ?_
  refine ev_istore_n (pc' := 27) (lv' := [_, _, _]) dX2_become_26 rfl (by decide) (by intro w hw; first | exact Or.inl rfl | (right; have hw := Option.some.inj (Option.some.inj hw); subst hw; first | rfl | exact rf_cat _) | cases hw) rfl ?_
  exact become_loop (S := bec0 S a) T ha a ha (sfa S) _ _ _ _ _ _ _ _ _ _ _ _ _ _ _ _ _ _ _ _ (RM.bec0 T hR ha)
end M5
section M6
variable {g : EG} {mo : Nat} {mr : Nat → Nat} {mnd mgv mcu mck mcl msh : Int32} {mhh : Int64} {mnu mpa mfa mti mpo mle mde msr mtl mtx mcp mmk mns : Nat → Int32}
variable {S : SS}
theorem c_mundo (T : Tree S) (hR : RM S mnd mgv mcu mck mcl msh mhh mnu mpa mfa mti mpo mle mde msr mtl mtx mcp mmk mns) (hc : scu S ∈ sL S) : Ret g mdX2_undo [.ref mo] (wM g mo mr mnd mgv mcu mck mcl msh mhh mnu mpa mfa mti mpo mle mde msr mtl mtx mcp mmk mns) (fun r w => r = some (.int (oUndo S).1) ∧ isM g mo mr (oUndo S).2 w) := by
  refine Ret.of [_, _] 1 (by decide) (Nat.le_of_ble_eq_true rfl) rfl ?_
  have e3 := hR.2.2.1
  subst e3
  refine ev_aload_n (pc' := 1) dX2_undo_0 rfl rfl ?_
  refine ev_aload_n (pc' := 2) dX2_undo_1 rfl rfl ?_
  refine ev_get inX2 0 12 rfl rfl (by decide) flX2_current rfl (pc' := 5) dX2_undo_2 rfl ?_
  refine ev_callV (As := [_]) coX2_above 0 rfl rfl (c_above T hR hc) rfl (by decide) (by first | exact Nat.le_of_ble_eq_true rfl | simp [Value.category, rf_cat]) dX2_undo_5 rfl (pc' := 8) rfl (fun v w hq => ?_)
  obtain ⟨rfl, rfl⟩ := hq
  dsimp only [Option.toList, List.cons_append, List.nil_append]
  refine ev_istore_n (pc' := 9) (lv' := [_, _]) dX2_undo_8 rfl (by decide) (by intro w hw; first | exact Or.inl rfl | (right; have hw := Option.some.inj (Option.some.inj hw); subst hw; first | rfl | exact rf_cat _) | cases hw) rfl ?_
  refine ev_iload_n (pc' := 10) dX2_undo_9 rfl rfl ?_
  refine ev_bipush (pc' := 12) (v := (-7)) dX2_undo_10 rfl (by decide) ?_
  refine ev_icmp_ne (tgt := 20) (pc' := 15) dX2_undo_12 (by decide) rfl (fun h12 => ?_) (fun h12 => ?_)
  · cases hb : spa S (scu S) with
    | none => exact absurd (upI_none hb) h12
    | some b =>
      obtain ⟨h1, h2⟩ := T.par hc hb
      rw [upI_some hb]
      refine ev_aload_n (pc' := 21) dX2_undo_20 rfl rfl ?_
      refine ev_iload_n (pc' := 22) dX2_undo_21 rfl rfl ?_
      refine ev_callV (As := [_]) coX2_become 0 rfl rfl (c_become T hR h1) rfl (by decide) (by first | exact Nat.le_of_ble_eq_true rfl | simp [Value.category, rf_cat]) dX2_undo_22 rfl (pc' := 25) rfl (fun v w hq => ?_)
      obtain ⟨rfl, hw⟩ := hq
      dsimp only [Option.toList, List.cons_append, List.nil_append]
      refine ev_iret rfl dX2_undo_25 ?_
      unfold oUndo
      rw [hb]
      exact ⟨rfl, hw⟩
  · have hb : spa S (scu S) = none := by
      cases hb : spa S (scu S) with
      | none => rfl
      | some b =>
        have hkb := ix_lt T (T.par hc hb).1
        rw [upI_some hb] at h12
        exact absurd h12 (nI_m7 (by omega))
    refine ev_bipush (pc' := 17) (v := (-7)) dX2_undo_15 rfl (by decide) ?_
    refine ev_goto (pc' := 25) dX2_undo_17 (by decide) ?_
    refine ev_iret rfl dX2_undo_25 ?_
    unfold oUndo
    rw [hb]
    exact ⟨rfl, isM.of hR⟩
theorem c_mredo (T : Tree S) (hR : RM S mnd mgv mcu mck mcl msh mhh mnu mpa mfa mti mpo mle mde msr mtl mtx mcp mmk mns) (hc : scu S ∈ sL S) (hf : ∀ a ∈ sL S, ∀ c, sfa S a = some c → c ∈ sL S) : Ret g mdX2_redo [.ref mo] (wM g mo mr mnd mgv mcu mck mcl msh mhh mnu mpa mfa mti mpo mle mde msr mtl mtx mcp mmk mns) (fun r w => r = some (.int (oRedo S).1) ∧ isM g mo mr (oRedo S).2 w) := by
  refine Ret.of [_] 0 (by decide) (Nat.le_of_ble_eq_true rfl) rfl ?_
  have e3 := hR.2.2.1
  subst e3
  have hk := ix_lt T hc
  have hrow := (RM.row hR hc).2.2.1
  cases hb : sfa S (scu S) with
  | none =>
    rw [hb] at hrow
    refine ev_aload_n (pc' := 1) dX2_redo_0 rfl rfl ?_
    refine ev_get inX2 0 4 rfl rfl (by decide) flX2_favourite rfl (pc' := 4) dX2_redo_1 rfl ?_
    refine ev_aload_n (pc' := 5) dX2_redo_4 rfl rfl ?_
    refine ev_get inX2 0 12 rfl rfl (by decide) flX2_current rfl (pc' := 8) dX2_redo_5 rfl ?_
    refine ev_ialdN 3 rfl (by omega) (by decide) hrow (pc' := 9) dX2_redo_8 rfl ?_
    refine ev_bipush (pc' := 11) (v := (-7)) dX2_redo_9 rfl (by decide) ?_
    refine ev_icmp_ne (tgt := 19) (pc' := 14) dX2_redo_11 (by decide) rfl (fun h11 => ?_) (fun h11 => ?_)
    · exact absurd rfl h11
    · refine ev_bipush (pc' := 16) (v := (-7)) dX2_redo_14 rfl (by decide) ?_
      refine ev_goto (pc' := 36) dX2_redo_16 (by decide) ?_
      refine ev_iret rfl dX2_redo_36 ?_
      unfold oRedo
      rw [hb]
      exact ⟨rfl, isM.of hR⟩
  | some b =>
    have h1 := hf _ hc b hb
    have hlt := T.lt h1
    rw [hb] at hrow
    refine ev_aload_n (pc' := 1) dX2_redo_0 rfl rfl ?_
    refine ev_get inX2 0 4 rfl rfl (by decide) flX2_favourite rfl (pc' := 4) dX2_redo_1 rfl ?_
    refine ev_aload_n (pc' := 5) dX2_redo_4 rfl rfl ?_
    refine ev_get inX2 0 12 rfl rfl (by decide) flX2_current rfl (pc' := 8) dX2_redo_5 rfl ?_
    refine ev_ialdN 3 rfl (by omega) (by decide) hrow (pc' := 9) dX2_redo_8 rfl ?_
    refine ev_bipush (pc' := 11) (v := (-7)) dX2_redo_9 rfl (by decide) ?_
    refine ev_icmp_ne (tgt := 19) (pc' := 14) dX2_redo_11 (by decide) rfl (fun h11 => ?_) (fun h11 => ?_)
    · refine ev_aload_n (pc' := 20) dX2_redo_19 rfl rfl ?_
      refine ev_aload_n (pc' := 21) dX2_redo_20 rfl rfl ?_
      refine ev_aload_n (pc' := 22) dX2_redo_21 rfl rfl ?_
      refine ev_get inX2 0 4 rfl rfl (by decide) flX2_favourite rfl (pc' := 25) dX2_redo_22 rfl ?_
      refine ev_aload_n (pc' := 26) dX2_redo_25 rfl rfl ?_
      refine ev_get inX2 0 12 rfl rfl (by decide) flX2_current rfl (pc' := 29) dX2_redo_26 rfl ?_
      refine ev_ialdN 3 rfl (by omega) (by decide) hrow (pc' := 30) dX2_redo_29 rfl ?_
      refine ev_callV (As := [_]) coX2_at 0 rfl rfl (c_at T hR _) rfl (by decide) (by first | exact Nat.le_of_ble_eq_true rfl | simp [Value.category, rf_cat]) dX2_redo_30 rfl (pc' := 33) rfl (fun v w hq => ?_)
      obtain ⟨rfl, rfl⟩ := hq
      dsimp only [Option.toList, List.cons_append, List.nil_append]
      rw [show lkI S (oI (some b)) = nI (ix S b) from lkI_some (lk_of T h1)]
      refine ev_callV (As := [_]) coX2_become 0 rfl rfl (c_become T hR h1) rfl (by decide) (by first | exact Nat.le_of_ble_eq_true rfl | simp [Value.category, rf_cat]) dX2_redo_33 rfl (pc' := 36) rfl (fun v w hq => ?_)
      obtain ⟨rfl, hw⟩ := hq
      dsimp only [Option.toList, List.cons_append, List.nil_append]
      refine ev_iret rfl dX2_redo_36 ?_
      unfold oRedo
      rw [hb]
      exact ⟨rfl, hw⟩
    · exact absurd h11 (nI_m7 (by omega))
theorem c_jumpTo (T : Tree S) (hR : RM S mnd mgv mcu mck mcl msh mhh mnu mpa mfa mti mpo mle mde msr mtl mtx mcp mmk mns) (hc : scu S ∈ sL S) {a : Nat} (ha : a ∈ sL S) : Ret g mdX2_jumpTo [.ref mo, .int (nI (ix S a))] (wM g mo mr mnd mgv mcu mck mcl msh mhh mnu mpa mfa mti mpo mle mde msr mtl mtx mcp mmk mns) (fun r w => r = some (.int (farS S (scu S) a)) ∧ isM g mo mr (bec S a) w) := by
  refine Ret.of [_, _, _, _] 2 (by decide) (Nat.le_of_ble_eq_true rfl) rfl ?_
  have e3 := hR.2.2.1
  subst e3
  have hk := ix_lt T ha
  refine ev_aload_n (pc' := 1) dX2_jumpTo_0 rfl rfl ?_
  refine ev_aload_n (pc' := 2) dX2_jumpTo_1 rfl rfl ?_
  refine ev_get inX2 0 12 rfl rfl (by decide) flX2_current rfl (pc' := 5) dX2_jumpTo_2 rfl ?_
  refine ev_iload_n (pc' := 6) dX2_jumpTo_5 rfl rfl ?_
  refine ev_callV (As := [_, _]) coX2_far 0 rfl rfl (c_far T hR hc ha) rfl (by decide) (by first | exact Nat.le_of_ble_eq_true rfl | simp [Value.category, rf_cat]) dX2_jumpTo_6 rfl (pc' := 9) rfl (fun v w hq => ?_)
  obtain ⟨rfl, rfl⟩ := hq
  dsimp only [Option.toList, List.cons_append, List.nil_append]
  refine ev_istore_n (pc' := 10) (lv' := [_, _, _, _]) dX2_jumpTo_9 rfl (by decide) (by intro w hw; first | exact Or.inl rfl | (right; have hw := Option.some.inj (Option.some.inj hw); subst hw; first | rfl | exact rf_cat _) | cases hw) rfl ?_
  refine ev_aload_n (pc' := 11) dX2_jumpTo_10 rfl rfl ?_
  refine ev_iload_n (pc' := 12) dX2_jumpTo_11 rfl rfl ?_
  refine ev_callV (As := [_]) coX2_become 0 rfl rfl (c_become T hR ha) rfl (by decide) (by first | exact Nat.le_of_ble_eq_true rfl | simp [Value.category, rf_cat]) dX2_jumpTo_12 rfl (pc' := 15) rfl (fun v w hq => ?_)
  obtain ⟨rfl, nd2, gv2, cu2, ck2, cl2, sh2, hh2, nu2, pa2, fa2, ti2, po2, le2, de2, sr2, tl2, tx2, cp2, mk2, ns2, rfl, hR2⟩ := hq
  dsimp only [Option.toList, List.cons_append, List.nil_append]
  refine ev_istore_n (pc' := 16) (lv' := [_, _, _, _]) dX2_jumpTo_15 rfl (by decide) (by intro w hw; first | exact Or.inl rfl | (right; have hw := Option.some.inj (Option.some.inj hw); subst hw; first | rfl | exact rf_cat _) | cases hw) rfl ?_
  refine ev_iload_n (pc' := 17) dX2_jumpTo_16 rfl rfl ?_
  refine ev_aload_n (pc' := 18) dX2_jumpTo_17 rfl rfl ?_
  refine ev_get inX2 0 2 rfl rfl (by decide) flX2_number rfl (pc' := 21) dX2_jumpTo_18 rfl ?_
  refine ev_iload_n (pc' := 22) dX2_jumpTo_21 rfl rfl ?_
  refine ev_ialdN 1 rfl (by omega) (by decide) (RM.row hR2 ha).1 (pc' := 23) dX2_jumpTo_22 rfl ?_
  refine ev_icmp_ne (tgt := 30) (pc' := 26) dX2_jumpTo_23 (by decide) rfl (fun h23 => ?_) (fun h23 => ?_)
  · exact absurd rfl h23
  · refine ev_iload_n (pc' := 27) dX2_jumpTo_26 rfl rfl ?_
    refine ev_goto (pc' := 32) dX2_jumpTo_27 (by decide) ?_
    refine ev_iret rfl dX2_jumpTo_32 ?_
    exact ⟨rfl, isM.of hR2⟩
theorem c_mjump (T : Tree S) (hR : RM S mnd mgv mcu mck mcl msh mhh mnu mpa mfa mti mpo mle mde msr mtl mtx mcp mmk mns) (hc : scu S ∈ sL S) (x : Int32) : Ret g mdX2_jump [.ref mo, .int x] (wM g mo mr mnd mgv mcu mck mcl msh mhh mnu mpa mfa mti mpo mle mde msr mtl mtx mcp mmk mns) (fun r w => r = some (.int (oJump S x).1) ∧ isM g mo mr (oJump S x).2 w) := by
  refine Ret.of [_, _, _] 1 (by decide) (Nat.le_of_ble_eq_true rfl) rfl ?_
  refine ev_aload_n (pc' := 1) dX2_jump_0 rfl rfl ?_
  refine ev_iload_n (pc' := 2) dX2_jump_1 rfl rfl ?_
  refine ev_callV (As := [_]) coX2_at 0 rfl rfl (c_at T hR x) rfl (by decide) (by first | exact Nat.le_of_ble_eq_true rfl | simp [Value.category, rf_cat]) dX2_jump_2 rfl (pc' := 5) rfl (fun v w hq => ?_)
  obtain ⟨rfl, rfl⟩ := hq
  dsimp only [Option.toList, List.cons_append, List.nil_append]
  refine ev_istore_n (pc' := 6) (lv' := [_, _, _]) dX2_jump_5 rfl (by decide) (by intro w hw; first | exact Or.inl rfl | (right; have hw := Option.some.inj (Option.some.inj hw); subst hw; first | rfl | exact rf_cat _) | cases hw) rfl ?_
  refine ev_iload_n (pc' := 7) dX2_jump_6 rfl rfl ?_
  refine ev_bipush (pc' := 9) (v := (-7)) dX2_jump_7 rfl (by decide) ?_
  refine ev_icmp_ne (tgt := 17) (pc' := 12) dX2_jump_9 (by decide) rfl (fun h9 => ?_) (fun h9 => ?_)
  · cases hl : lk S x with
    | none => exact absurd (lkI_none hl) h9
    | some a =>
      have ha := (lk_some hl).1
      rw [lkI_some hl]
      refine ev_aload_n (pc' := 18) dX2_jump_17 rfl rfl ?_
      refine ev_iload_n (pc' := 19) dX2_jump_18 rfl rfl ?_
      refine ev_callV (As := [_]) coX2_jumpTo 0 rfl rfl (c_jumpTo T hR hc ha) rfl (by decide) (by first | exact Nat.le_of_ble_eq_true rfl | simp [Value.category, rf_cat]) dX2_jump_19 rfl (pc' := 22) rfl (fun v w hq => ?_)
      obtain ⟨rfl, hw⟩ := hq
      dsimp only [Option.toList, List.cons_append, List.nil_append]
      refine ev_iret rfl dX2_jump_22 ?_
      unfold oJump
      rw [hl]
      exact ⟨rfl, hw⟩
  · refine ev_bipush (pc' := 14) (v := (-2)) dX2_jump_12 rfl (by decide) ?_
    refine ev_goto (pc' := 22) dX2_jump_14 (by decide) ?_
    refine ev_iret rfl dX2_jump_22 ?_
    unfold oJump
    rw [(lkI_m7 T).mp h9]
    exact ⟨rfl, isM.of hR⟩
theorem c_misMark (ws : va_W) (x : Int32) : Ret g mdX2_isMark [.int x] ws (fun r w => r = some (.int (bI (isMk x))) ∧ w = ws) := by
  refine Ret.of [_] 0 (by decide) (Nat.le_of_ble_eq_true rfl) rfl ?_
  refine ev_iload_n (pc' := 1) dX2_isMark_0 rfl rfl ?_
  refine ev_iconst (pc' := 2) (v := nI 0) dX2_isMark_1 rfl (by decide) ?_
  refine ev_iconst (pc' := 3) (v := nI 4) dX2_isMark_2 rfl (by decide) ?_
  refine ev_callS (As := [_, _, _]) coX2_within (c_within _ _ _ _) rfl (by decide) (by first | exact Nat.le_of_ble_eq_true rfl | simp [Value.category, rf_cat]) dX2_isMark_3 rfl (pc' := 6) rfl (fun v w hq => ?_)
  obtain ⟨rfl, rfl⟩ := hq
  dsimp only [Option.toList, List.cons_append, List.nil_append]
  refine ev_zret rfl (by cases decide (nI 0 ≤ x ∧ x ≤ nI 4) <;> decide) dX2_isMark_6 ?_
  exact ⟨rfl, rfl⟩
theorem oI_eqI {r : Option Nat} {a : Nat} (hr : ∀ b, r = some b → b < 2 ^ 31) (ha : a < 2 ^ 31) : oI r = nI a ↔ r = some a := by
  cases r with
  | none => exact ⟨fun h => absurd h.symm (nI_m7 ha), fun h => by cases h⟩
  | some b => exact ⟨fun h => by rw [nI_inj (hr b rfl) ha h], fun h => by cases h; rfl⟩
theorem mon_loop (hR : RM S mnd mgv mcu mck mcl msh mhh mnu mpa mfa mti mpo mle mde msr mtl mtx mcp mmk mns) (hm : ∀ i, i < 5 → ∀ b, smk S i = some b → b < 2 ^ 31) {a : Nat} (ha : a < 2 ^ 31) : ∀ (m k n : Nat), k + m = 5 → Ev g mdX2_marksOn 4 [some (.ref mo), some (.int (nI a)), some (.int (nI n)), some (.int (nI k))] [] (wM g mo mr mnd mgv mcu mck mcl msh mhh mnu mpa mfa mti mpo mle mde msr mtl mtx mcp mmk mns) (fun r w => r = some (.int (nI (n + cnt (fun i => decide (smk S i = some a)) ((List.range 5).drop k)))) ∧ w = (wM g mo mr mnd mgv mcu mck mcl msh mhh mnu mpa mfa mti mpo mle mde msr mtl mtx mcp mmk mns)) := by
  intro m
  induction m with
  | zero =>
    intro k n hk
    have : k = 5 := by omega
    subst this
    refine ev_iload_n (pc' := 5) dX2_marksOn_4 rfl rfl ?_
    refine ev_iconst (pc' := 6) (v := nI 5) dX2_marksOn_5 rfl (by decide) ?_
    refine ev_icmp_ge (tgt := 33) (pc' := 9) dX2_marksOn_6 (by decide) rfl (fun h6 => ?_) (fun h6 => ?_)
    · refine ev_iload_n (pc' := 34) dX2_marksOn_33 rfl rfl ?_
      refine ev_iret rfl dX2_marksOn_34 ?_
      exact ⟨rfl, rfl⟩
    · exact absurd (nI_le (by omega) (by omega)) h6
  | succ m ih =>
    intro k n hk
    have hd : (List.range 5).drop k = k :: (List.range 5).drop (k + 1) := by
      rw [List.drop_eq_getElem_cons (by simp; omega)]; simp
    rw [hd]
    refine ev_iload_n (pc' := 5) dX2_marksOn_4 rfl rfl ?_
    refine ev_iconst (pc' := 6) (v := nI 5) dX2_marksOn_5 rfl (by decide) ?_
    refine ev_icmp_ge (tgt := 33) (pc' := 9) dX2_marksOn_6 (by decide) rfl (fun h6 => ?_) (fun h6 => ?_)
    · exact absurd h6 (nI_ge (by omega) (by omega))
    · refine ev_iload_n (pc' := 10) dX2_marksOn_9 rfl rfl ?_
      refine ev_aload_n (pc' := 11) dX2_marksOn_10 rfl rfl ?_
      refine ev_get inX2 0 16 rfl rfl (by decide) flX2_mark rfl (pc' := 14) dX2_marksOn_11 rfl ?_
      refine ev_iload_n (pc' := 15) dX2_marksOn_14 rfl rfl ?_
      refine ev_ialdN 12 rfl (by omega) (by decide) (hR.2.2.2.2.2.2.2 k (by omega)) (pc' := 16) dX2_marksOn_15 rfl ?_
      refine ev_iload_n (pc' := 17) dX2_marksOn_16 rfl rfl ?_
      refine ev_icmp_ne (tgt := 24) (pc' := 20) dX2_marksOn_17 (by decide) rfl (fun h17 => ?_) (fun h17 => ?_)
      · have e : ¬ smk S k = some a := fun q => h17 (by rw [q]; rfl)
        refine ev_iconst (pc' := 25) (v := nI 0) dX2_marksOn_24 rfl (by decide) ?_
        refine ev_iadd (pc' := 26) dX2_marksOn_25 rfl ?_
        rw [nI_add]
        refine ev_istore_n (pc' := 27) (lv' := [_, _, _, _]) dX2_marksOn_26 rfl (by decide) (by intro w hw; first | exact Or.inl rfl | (right; have hw := Option.some.inj (Option.some.inj hw); subst hw; first | rfl | exact rf_cat _) | cases hw) rfl ?_
        refine ev_iinc (pc' := 30) (lv' := [_, _, _, _]) dX2_marksOn_27 rfl rfl (nI_1 _) (by decide) (by intro w hw; first | exact Or.inl rfl | (right; have hw := Option.some.inj (Option.some.inj hw); subst hw; first | rfl | exact rf_cat _) | cases hw) rfl ?_
        refine ev_goto (pc' := 4) dX2_marksOn_30 (by decide) ?_
        have h := ih (k + 1) n (by omega)
        unfold cnt
        rw [decide_eq_false e, if_neg (by decide), Nat.zero_add]
        exact h
      · have e : smk S k = some a := (oI_eqI (hm k (by omega)) ha).mp h17
        refine ev_iconst (pc' := 21) (v := nI 1) dX2_marksOn_20 rfl (by decide) ?_
        refine ev_goto (pc' := 25) dX2_marksOn_21 (by decide) ?_
        refine ev_iadd (pc' := 26) dX2_marksOn_25 rfl ?_
        rw [nI_add]
        refine ev_istore_n (pc' := 27) (lv' := [_, _, _, _]) dX2_marksOn_26 rfl (by decide) (by intro w hw; first | exact Or.inl rfl | (right; have hw := Option.some.inj (Option.some.inj hw); subst hw; first | rfl | exact rf_cat _) | cases hw) rfl ?_
        refine ev_iinc (pc' := 30) (lv' := [_, _, _, _]) dX2_marksOn_27 rfl rfl (nI_1 _) (by decide) (by intro w hw; first | exact Or.inl rfl | (right; have hw := Option.some.inj (Option.some.inj hw); subst hw; first | rfl | exact rf_cat _) | cases hw) rfl ?_
        refine ev_goto (pc' := 4) dX2_marksOn_30 (by decide) ?_
        have h := ih (k + 1) (n + 1) (by omega)
        unfold cnt
        rw [decide_eq_true e, if_pos rfl, ← Nat.add_assoc]
        exact h
theorem c_mmarksOn (hR : RM S mnd mgv mcu mck mcl msh mhh mnu mpa mfa mti mpo mle mde msr mtl mtx mcp mmk mns) (hm : ∀ i, i < 5 → ∀ b, smk S i = some b → b < 2 ^ 31) {a : Nat} (ha : a < 2 ^ 31) : Ret g mdX2_marksOn [.ref mo, .int (nI a)] (wM g mo mr mnd mgv mcu mck mcl msh mhh mnu mpa mfa mti mpo mle mde msr mtl mtx mcp mmk mns) (fun r w => r = some (.int (nI (mkN S a))) ∧ w = (wM g mo mr mnd mgv mcu mck mcl msh mhh mnu mpa mfa mti mpo mle mde msr mtl mtx mcp mmk mns)) := by
  refine Ret.of [_, _, _, _] 2 (by decide) (Nat.le_of_ble_eq_true rfl) rfl ?_
  refine ev_iconst (pc' := 1) (v := nI 0) dX2_marksOn_0 rfl (by decide) ?_
  refine ev_istore_n (pc' := 2) (lv' := [_, _, _, _]) dX2_marksOn_1 rfl (by decide) (by intro w hw; first | exact Or.inl rfl | (right; have hw := Option.some.inj (Option.some.inj hw); subst hw; first | rfl | exact rf_cat _) | cases hw) rfl ?_
  refine ev_iconst (pc' := 3) (v := nI 0) dX2_marksOn_2 rfl (by decide) ?_
  refine ev_istore_n (pc' := 4) (lv' := [_, _, _, _]) dX2_marksOn_3 rfl (by decide) (by intro w hw; first | exact Or.inl rfl | (right; have hw := Option.some.inj (Option.some.inj hw); subst hw; first | rfl | exact rf_cat _) | cases hw) rfl ?_
  have h := mon_loop (g := g) (mo := mo) (mr := mr) hR hm ha 5 0 0 rfl
  rw [Nat.zero_add] at h
  exact h
theorem RM.setMk (hR : RM S mnd mgv mcu mck mcl msh mhh mnu mpa mfa mti mpo mle mde msr mtl mtx mcp mmk mns) {j : Nat} (v : Option Nat) : RM (setMk S (va_up (smk S) j v)) mnd mgv mcu mck mcl msh mhh mnu mpa mfa mti mpo mle mde msr mtl mtx mcp (upd mmk j (oI v)) mns := by
  refine ⟨hR.1, hR.2.1, hR.2.2.1, hR.2.2.2.1, hR.2.2.2.2.1, hR.2.2.2.2.2.1, hR.2.2.2.2.2.2.1, fun i hi => ?_⟩
  show upd mmk j (oI v) i = oI (va_up (smk S) j v i)
  by_cases q : i = j
  · rw [q, pk_us, va_up_self]
  · rw [pk_un q, va_up_ne _ _ q]; exact hR.2.2.2.2.2.2.2 i hi
theorem c_msetMark (T : Tree S) (hR : RM S mnd mgv mcu mck mcl msh mhh mnu mpa mfa mti mpo mle mde msr mtl mtx mcp mmk mns) (hm : ∀ i, i < 5 → ∀ b, smk S i = some b → b < 2 ^ 31) (m x : Int32) : Ret g mdX2_setMark [.ref mo, .int m, .int x] (wM g mo mr mnd mgv mcu mck mcl msh mhh mnu mpa mfa mti mpo mle mde msr mtl mtx mcp mmk mns) (fun r w => r = some (.int (oSetM S m x).1) ∧ isM g mo mr (oSetM S m x).2 w) := by
  refine Ret.of [_, _, _] 0 (by decide) (Nat.le_of_ble_eq_true rfl) rfl ?_
  refine ev_iload_n (pc' := 1) dX2_setMark_0 rfl rfl ?_
  refine ev_callS (As := [_]) coX2_isMark (c_misMark _ _) rfl (by decide) (by first | exact Nat.le_of_ble_eq_true rfl | simp [Value.category, rf_cat]) dX2_setMark_1 rfl (pc' := 4) rfl (fun v w hq => ?_)
  obtain ⟨rfl, rfl⟩ := hq
  dsimp only [Option.toList, List.cons_append, List.nil_append]
  refine ev_if_ne (tgt := 9) (pc' := 7) dX2_setMark_4 (by decide) rfl (fun h4 => ?_) (fun h4 => ?_)
  · rw [bI_ne] at h4
    unfold oSetM
    rw [if_pos h4]
    obtain ⟨j, hj, rfl⟩ := isMk_of h4
    rw [nI_clamp (by omega)]
    refine ev_aload_n (pc' := 10) dX2_setMark_9 rfl rfl ?_
    refine ev_iload_n (pc' := 11) dX2_setMark_10 rfl rfl ?_
    refine ev_callV (As := [_]) coX2_at 0 rfl rfl (c_at T hR x) rfl (by decide) (by first | exact Nat.le_of_ble_eq_true rfl | simp [Value.category, rf_cat]) dX2_setMark_11 rfl (pc' := 14) rfl (fun v w hq => ?_)
    obtain ⟨rfl, rfl⟩ := hq
    dsimp only [Option.toList, List.cons_append, List.nil_append]
    refine ev_bipush (pc' := 16) (v := (-7)) dX2_setMark_14 rfl (by decide) ?_
    refine ev_icmp_ne (tgt := 22) (pc' := 19) dX2_setMark_16 (by decide) rfl (fun h16 => ?_) (fun h16 => ?_)
    · cases hl : lk S x with
      | none => exact absurd (lkI_none hl) h16
      | some a =>
        obtain ⟨ha, rfl⟩ := lk_some hl
        have hlt := T.lt ha
        have hR2 := RM.setMk hR (j := j) (some a)
        have hm2 : ∀ i, i < 5 → ∀ b, smk (setMk S (va_up (smk S) j (some a))) i = some b → b < 2 ^ 31 := fun i hi b hb => by
          by_cases q : i = j
          · rw [q] at hb
            rw [show smk (setMk S (va_up (smk S) j (some a))) j = some a from va_up_self _ _ _] at hb
            cases hb; omega
          · rw [show smk (setMk S (va_up (smk S) j (some a))) i = smk S i from va_up_ne _ _ q] at hb
            exact hm i hi b hb
        refine ev_aload_n (pc' := 23) dX2_setMark_22 rfl rfl ?_
        refine ev_get inX2 0 16 rfl rfl (by decide) flX2_mark rfl (pc' := 26) dX2_setMark_23 rfl ?_
        refine ev_iload_n (pc' := 27) dX2_setMark_26 rfl rfl ?_
        refine ev_iload_n (pc' := 28) dX2_setMark_27 rfl rfl ?_
        refine ev_iastN 12 rfl (by omega) (by decide) (pc' := 29) dX2_setMark_28 rfl (ws' := wM _ _ _ _ _ _ _ _ _ _ _ _ _ _ _ _ _ _ _ _ _ _ _) rfl ?_
        refine ev_aload_n (pc' := 30) dX2_setMark_29 rfl rfl ?_
        refine ev_iload_n (pc' := 31) dX2_setMark_30 rfl rfl ?_
        refine ev_callV (As := [_]) coX2_marksOn 0 rfl rfl (c_mmarksOn hR2 hm2 (by omega)) rfl (by decide) (by first | exact Nat.le_of_ble_eq_true rfl | simp [Value.category, rf_cat]) dX2_setMark_31 rfl (pc' := 34) rfl (fun v w hq => ?_)
        obtain ⟨rfl, rfl⟩ := hq
        dsimp only [Option.toList, List.cons_append, List.nil_append]
        refine ev_iret rfl dX2_setMark_34 ?_
        exact ⟨rfl, isM.of hR2⟩
    · refine ev_bipush (pc' := 21) (v := (-2)) dX2_setMark_19 rfl (by decide) ?_
      refine ev_iret rfl dX2_setMark_21 ?_
      rw [(lkI_m7 T).mp h16]
      exact ⟨rfl, isM.of hR⟩
  · rw [bI_eq] at h4
    refine ev_iconst (pc' := 8) (v := (-1)) dX2_setMark_7 rfl (by decide) ?_
    refine ev_iret rfl dX2_setMark_8 ?_
    unfold oSetM
    rw [h4]
    exact ⟨rfl, isM.of hR⟩
theorem c_mclearMark (hR : RM S mnd mgv mcu mck mcl msh mhh mnu mpa mfa mti mpo mle mde msr mtl mtx mcp mmk mns) (m : Int32) : Ret g mdX2_clearMark [.ref mo, .int m] (wM g mo mr mnd mgv mcu mck mcl msh mhh mnu mpa mfa mti mpo mle mde msr mtl mtx mcp mmk mns) (fun r w => r = some (.int (oClrM S m).1) ∧ isM g mo mr (oClrM S m).2 w) := by
  refine Ret.of [_, _, _] 1 (by decide) (Nat.le_of_ble_eq_true rfl) rfl ?_
  refine ev_iload_n (pc' := 1) dX2_clearMark_0 rfl rfl ?_
  refine ev_callS (As := [_]) coX2_isMark (c_misMark _ _) rfl (by decide) (by first | exact Nat.le_of_ble_eq_true rfl | simp [Value.category, rf_cat]) dX2_clearMark_1 rfl (pc' := 4) rfl (fun v w hq => ?_)
  obtain ⟨rfl, rfl⟩ := hq
  dsimp only [Option.toList, List.cons_append, List.nil_append]
  refine ev_if_ne (tgt := 9) (pc' := 7) dX2_clearMark_4 (by decide) rfl (fun h4 => ?_) (fun h4 => ?_)
  · rw [bI_ne] at h4
    unfold oClrM
    rw [if_pos h4]
    obtain ⟨j, hj, rfl⟩ := isMk_of h4
    rw [nI_clamp (by omega)]
    refine ev_aload_n (pc' := 10) dX2_clearMark_9 rfl rfl ?_
    refine ev_get inX2 0 16 rfl rfl (by decide) flX2_mark rfl (pc' := 13) dX2_clearMark_10 rfl ?_
    refine ev_iload_n (pc' := 14) dX2_clearMark_13 rfl rfl ?_
    refine ev_ialdN 12 rfl (by omega) (by decide) (hR.2.2.2.2.2.2.2 j hj) (pc' := 15) dX2_clearMark_14 rfl ?_
    refine ev_istore_n (pc' := 16) (lv' := [_, _, _]) dX2_clearMark_15 rfl (by decide) (by intro w hw; first | exact Or.inl rfl | (right; have hw := Option.some.inj (Option.some.inj hw); subst hw; first | rfl | exact rf_cat _) | cases hw) rfl ?_
    refine ev_aload_n (pc' := 17) dX2_clearMark_16 rfl rfl ?_
    refine ev_get inX2 0 16 rfl rfl (by decide) flX2_mark rfl (pc' := 20) dX2_clearMark_17 rfl ?_
    refine ev_iload_n (pc' := 21) dX2_clearMark_20 rfl rfl ?_
    refine ev_bipush (pc' := 23) (v := (-7)) dX2_clearMark_21 rfl (by decide) ?_
    refine ev_iastN 12 rfl (by omega) (by decide) (pc' := 24) dX2_clearMark_23 rfl (ws' := wM _ _ _ _ _ _ _ _ _ _ _ _ _ _ _ _ _ _ _ _ _ _ _) rfl ?_
    refine ev_iload_n (pc' := 25) dX2_clearMark_24 rfl rfl ?_
    refine ev_iret rfl dX2_clearMark_25 ?_
    exact ⟨rfl, isM.of (RM.setMk hR (j := j) none)⟩
  · rw [bI_eq] at h4
    refine ev_iconst (pc' := 8) (v := (-1)) dX2_clearMark_7 rfl (by decide) ?_
    refine ev_iret rfl dX2_clearMark_8 ?_
    unfold oClrM
    rw [h4]
    exact ⟨rfl, isM.of hR⟩
theorem c_mgoToMark (T : Tree S) (hR : RM S mnd mgv mcu mck mcl msh mhh mnu mpa mfa mti mpo mle mde msr mtl mtx mcp mmk mns) (hm : ∀ i, i < 5 → ∀ b, smk S i = some b → b ∈ sL S) (m : Int32) : Ret g mdX2_goToMark [.ref mo, .int m] (wM g mo mr mnd mgv mcu mck mcl msh mhh mnu mpa mfa mti mpo mle mde msr mtl mtx mcp mmk mns) (fun r w => r = some (.int (oGoM S m).1) ∧ isM g mo mr (oGoM S m).2 w) := by
  refine Ret.of [_, _] 0 (by decide) (Nat.le_of_ble_eq_true rfl) rfl ?_
  refine ev_iload_n (pc' := 1) dX2_goToMark_0 rfl rfl ?_
  refine ev_callS (As := [_]) coX2_isMark (c_misMark _ _) rfl (by decide) (by first | exact Nat.le_of_ble_eq_true rfl | simp [Value.category, rf_cat]) dX2_goToMark_1 rfl (pc' := 4) rfl (fun v w hq => ?_)
  obtain ⟨rfl, rfl⟩ := hq
  dsimp only [Option.toList, List.cons_append, List.nil_append]
  refine ev_if_ne (tgt := 9) (pc' := 7) dX2_goToMark_4 (by decide) rfl (fun h4 => ?_) (fun h4 => ?_)
  · rw [bI_ne] at h4
    unfold oGoM
    rw [if_pos h4]
    obtain ⟨j, hj, rfl⟩ := isMk_of h4
    rw [nI_clamp (by omega)]
    have hrow := hR.2.2.2.2.2.2.2 j hj
    cases hb : smk S j with
    | none =>
      rw [hb] at hrow
      refine ev_aload_n (pc' := 10) dX2_goToMark_9 rfl rfl ?_
      refine ev_get inX2 0 16 rfl rfl (by decide) flX2_mark rfl (pc' := 13) dX2_goToMark_10 rfl ?_
      refine ev_iload_n (pc' := 14) dX2_goToMark_13 rfl rfl ?_
      refine ev_ialdN 12 rfl (by omega) (by decide) hrow (pc' := 15) dX2_goToMark_14 rfl ?_
      refine ev_bipush (pc' := 17) (v := (-7)) dX2_goToMark_15 rfl (by decide) ?_
      refine ev_icmp_ne (tgt := 25) (pc' := 20) dX2_goToMark_17 (by decide) rfl (fun h17 => ?_) (fun h17 => ?_)
      · exact absurd rfl h17
      · refine ev_bipush (pc' := 22) (v := (-7)) dX2_goToMark_20 rfl (by decide) ?_
        refine ev_goto (pc' := 39) dX2_goToMark_22 (by decide) ?_
        refine ev_iret rfl dX2_goToMark_39 ?_
        exact ⟨rfl, isM.of hR⟩
    | some b =>
      rw [hb] at hrow
      have h1 := hm j hj b hb
      have hlt := T.lt h1
      refine ev_aload_n (pc' := 10) dX2_goToMark_9 rfl rfl ?_
      refine ev_get inX2 0 16 rfl rfl (by decide) flX2_mark rfl (pc' := 13) dX2_goToMark_10 rfl ?_
      refine ev_iload_n (pc' := 14) dX2_goToMark_13 rfl rfl ?_
      refine ev_ialdN 12 rfl (by omega) (by decide) hrow (pc' := 15) dX2_goToMark_14 rfl ?_
      refine ev_bipush (pc' := 17) (v := (-7)) dX2_goToMark_15 rfl (by decide) ?_
      refine ev_icmp_ne (tgt := 25) (pc' := 20) dX2_goToMark_17 (by decide) rfl (fun h17 => ?_) (fun h17 => ?_)
      · refine ev_aload_n (pc' := 26) dX2_goToMark_25 rfl rfl ?_
        refine ev_aload_n (pc' := 27) dX2_goToMark_26 rfl rfl ?_
        refine ev_aload_n (pc' := 28) dX2_goToMark_27 rfl rfl ?_
        refine ev_get inX2 0 16 rfl rfl (by decide) flX2_mark rfl (pc' := 31) dX2_goToMark_28 rfl ?_
        refine ev_iload_n (pc' := 32) dX2_goToMark_31 rfl rfl ?_
        refine ev_ialdN 12 rfl (by omega) (by decide) hrow (pc' := 33) dX2_goToMark_32 rfl ?_
        refine ev_callV (As := [_]) coX2_at 0 rfl rfl (c_at T hR _) rfl (by decide) (by first | exact Nat.le_of_ble_eq_true rfl | simp [Value.category, rf_cat]) dX2_goToMark_33 rfl (pc' := 36) rfl (fun v w hq => ?_)
        obtain ⟨rfl, rfl⟩ := hq
        dsimp only [Option.toList, List.cons_append, List.nil_append]
        rw [show lkI S (oI (some b)) = nI (ix S b) from lkI_some (lk_of T h1)]
        refine ev_callV (As := [_]) coX2_become 0 rfl rfl (c_become T hR h1) rfl (by decide) (by first | exact Nat.le_of_ble_eq_true rfl | simp [Value.category, rf_cat]) dX2_goToMark_36 rfl (pc' := 39) rfl (fun v w hq => ?_)
        obtain ⟨rfl, hw⟩ := hq
        dsimp only [Option.toList, List.cons_append, List.nil_append]
        refine ev_iret rfl dX2_goToMark_39 ?_
        exact ⟨rfl, hw⟩
      · exact absurd h17 (nI_m7 (by omega))
  · rw [bI_eq] at h4
    refine ev_iconst (pc' := 8) (v := (-1)) dX2_goToMark_7 rfl (by decide) ?_
    refine ev_iret rfl dX2_goToMark_8 ?_
    unfold oGoM
    rw [h4]
    exact ⟨rfl, isM.of hR⟩
end M6
end
section
/-! ===== the reference's methods: children, the oldest leaf, the digest ===== -/
section M7
variable {g : EG} {mo : Nat} {mr : Nat → Nat} {mnd mgv mcu mck mcl msh : Int32} {mhh : Int64} {mnu mpa mfa mti mpo mle mde msr mtl mtx mcp mmk mns : Nat → Int32}
variable {S : SS} {N : Nat}
theorem par_eq (T : Tree S) {b a : Nat} (hb : b ∈ sL S) (ha : a ∈ sL S) : oI (spa S b) = nI a ↔ spa S b = some a :=
  oI_eqI (fun c hc => by have := T.lt (T.par hb hc).1; omega) (by have := T.lt ha; omega)
theorem chm_loop (T : Tree S) (hR : RM S mnd mgv mcu mck mcl msh mhh mnu mpa mfa mti mpo mle mde msr mtl mtx mcp mmk mns) {a : Nat} (ha : a ∈ sL S) : ∀ (m k n : Nat), k + m = (sL S).length → Ev g mdX2_childMany 4 [some (.ref mo), some (.int (nI (ix S a))), some (.int (nI n)), some (.int (nI k))] [] (wM g mo mr mnd mgv mcu mck mcl msh mhh mnu mpa mfa mti mpo mle mde msr mtl mtx mcp mmk mns) (fun r w => r = some (.int (nI (n + cnt (fun c => decide (spa S c = some a)) ((sL S).drop k)))) ∧ w = (wM g mo mr mnd mgv mcu mck mcl msh mhh mnu mpa mfa mti mpo mle mde msr mtl mtx mcp mmk mns)) := by
  intro m
  have hlen := T.len
  have hka := ix_lt T ha
  induction m with
  | zero =>
    intro k n hk
    refine ev_iload_n (pc' := 5) dX2_childMany_4 rfl rfl ?_
    refine ev_aload_n (pc' := 6) dX2_childMany_5 rfl rfl ?_
    refine ev_get inX2 0 0 rfl rfl (by decide) flX2_nodes rfl (pc' := 9) dX2_childMany_6 rfl ?_
    refine ev_icmp_ge (tgt := 41) (pc' := 12) dX2_childMany_9 (by decide) rfl (fun h9 => ?_) (fun h9 => ?_)
    · refine ev_iload_n (pc' := 42) dX2_childMany_41 rfl rfl ?_
      refine ev_iret rfl dX2_childMany_42 ?_
      rw [drop_end hk]
      exact ⟨rfl, rfl⟩
    · rw [hR.1] at h9
      exact absurd (nI_le (by omega) (by omega)) h9
  | succ m ih =>
    intro k n hk
    obtain ⟨b, hb, rfl⟩ := ix_at T (show k < (sL S).length by omega)
    rw [drop_ix hb]
    refine ev_iload_n (pc' := 5) dX2_childMany_4 rfl rfl ?_
    refine ev_aload_n (pc' := 6) dX2_childMany_5 rfl rfl ?_
    refine ev_get inX2 0 0 rfl rfl (by decide) flX2_nodes rfl (pc' := 9) dX2_childMany_6 rfl ?_
    refine ev_icmp_ge (tgt := 41) (pc' := 12) dX2_childMany_9 (by decide) rfl (fun h9 => ?_) (fun h9 => ?_)
    · rw [hR.1] at h9
      exact absurd h9 (nI_ge (by omega) (by omega))
    · refine ev_iload_n (pc' := 13) dX2_childMany_12 rfl rfl ?_
      refine ev_aload_n (pc' := 14) dX2_childMany_13 rfl rfl ?_
      refine ev_get inX2 0 3 rfl rfl (by decide) flX2_parent rfl (pc' := 17) dX2_childMany_14 rfl ?_
      refine ev_iload_n (pc' := 18) dX2_childMany_17 rfl rfl ?_
      refine ev_ialdN 2 rfl (by omega) (by decide) (RM.row hR hb).2.1 (pc' := 19) dX2_childMany_18 rfl ?_
      refine ev_aload_n (pc' := 20) dX2_childMany_19 rfl rfl ?_
      refine ev_get inX2 0 2 rfl rfl (by decide) flX2_number rfl (pc' := 23) dX2_childMany_20 rfl ?_
      refine ev_iload_n (pc' := 24) dX2_childMany_23 rfl rfl ?_
      refine ev_ialdN 1 rfl (by omega) (by decide) (RM.row hR ha).1 (pc' := 25) dX2_childMany_24 rfl ?_
      refine ev_icmp_ne (tgt := 32) (pc' := 28) dX2_childMany_25 (by decide) rfl (fun h25 => ?_) (fun h25 => ?_)
      · rw [par_eq T hb ha] at h25
        refine ev_iconst (pc' := 33) (v := nI 0) dX2_childMany_32 rfl (by decide) ?_
        refine ev_iadd (pc' := 34) dX2_childMany_33 rfl ?_
        rw [nI_add]
        refine ev_istore_n (pc' := 35) (lv' := [_, _, _, _]) dX2_childMany_34 rfl (by decide) (by intro w hw; first | exact Or.inl rfl | (right; have hw := Option.some.inj (Option.some.inj hw); subst hw; first | rfl | exact rf_cat _) | cases hw) rfl ?_
        refine ev_iinc (pc' := 38) (lv' := [_, _, _, _]) dX2_childMany_35 rfl rfl (nI_1 _) (by decide) (by intro w hw; first | exact Or.inl rfl | (right; have hw := Option.some.inj (Option.some.inj hw); subst hw; first | rfl | exact rf_cat _) | cases hw) rfl ?_
        refine ev_goto (pc' := 4) dX2_childMany_38 (by decide) ?_
        have h := ih (ix S b + 1) n (by omega)
        unfold cnt
        rw [decide_eq_false h25, if_neg (by decide), Nat.zero_add]
        exact h
      · rw [par_eq T hb ha] at h25
        refine ev_iconst (pc' := 29) (v := nI 1) dX2_childMany_28 rfl (by decide) ?_
        refine ev_goto (pc' := 33) dX2_childMany_29 (by decide) ?_
        refine ev_iadd (pc' := 34) dX2_childMany_33 rfl ?_
        rw [nI_add]
        refine ev_istore_n (pc' := 35) (lv' := [_, _, _, _]) dX2_childMany_34 rfl (by decide) (by intro w hw; first | exact Or.inl rfl | (right; have hw := Option.some.inj (Option.some.inj hw); subst hw; first | rfl | exact rf_cat _) | cases hw) rfl ?_
        refine ev_iinc (pc' := 38) (lv' := [_, _, _, _]) dX2_childMany_35 rfl rfl (nI_1 _) (by decide) (by intro w hw; first | exact Or.inl rfl | (right; have hw := Option.some.inj (Option.some.inj hw); subst hw; first | rfl | exact rf_cat _) | cases hw) rfl ?_
        refine ev_goto (pc' := 4) dX2_childMany_38 (by decide) ?_
        have h := ih (ix S b + 1) (n + 1) (by omega)
        unfold cnt
        rw [decide_eq_true h25, if_pos rfl, ← Nat.add_assoc]
        exact h
theorem c_childMany (T : Tree S) (hR : RM S mnd mgv mcu mck mcl msh mhh mnu mpa mfa mti mpo mle mde msr mtl mtx mcp mmk mns) {a : Nat} (ha : a ∈ sL S) : Ret g mdX2_childMany [.ref mo, .int (nI (ix S a))] (wM g mo mr mnd mgv mcu mck mcl msh mhh mnu mpa mfa mti mpo mle mde msr mtl mtx mcp mmk mns) (fun r w => r = some (.int (nI (chN S a))) ∧ w = (wM g mo mr mnd mgv mcu mck mcl msh mhh mnu mpa mfa mti mpo mle mde msr mtl mtx mcp mmk mns)) := by
  refine Ret.of [_, _, _, _] 2 (by decide) (Nat.le_of_ble_eq_true rfl) rfl ?_
  refine ev_iconst (pc' := 1) (v := nI 0) dX2_childMany_0 rfl (by decide) ?_
  refine ev_istore_n (pc' := 2) (lv' := [_, _, _, _]) dX2_childMany_1 rfl (by decide) (by intro w hw; first | exact Or.inl rfl | (right; have hw := Option.some.inj (Option.some.inj hw); subst hw; first | rfl | exact rf_cat _) | cases hw) rfl ?_
  refine ev_iconst (pc' := 3) (v := nI 0) dX2_childMany_2 rfl (by decide) ?_
  refine ev_istore_n (pc' := 4) (lv' := [_, _, _, _]) dX2_childMany_3 rfl (by decide) (by intro w hw; first | exact Or.inl rfl | (right; have hw := Option.some.inj (Option.some.inj hw); subst hw; first | rfl | exact rf_cat _) | cases hw) rfl ?_
  have h := chm_loop (g := g) (mo := mo) (mr := mr) T hR ha (sL S).length 0 0 (by omega)
  rw [Nat.zero_add] at h
  exact h
theorem chd_loop (T : Tree S) (hR : RM S mnd mgv mcu mck mcl msh mhh mnu mpa mfa mti mpo mle mde msr mtl mtx mcp mmk mns) {a : Nat} (ha : a ∈ sL S) (i : Int32) : ∀ (m k n : Nat), k + m = (sL S).length → Ev g mdX2_child 5 [some (.ref mo), some (.int (nI (ix S a))), some (.int i), some (.int (nI n)), some (.int (nI k))] [] (wM g mo mr mnd mgv mcu mck mcl msh mhh mnu mpa mfa mti mpo mle mde msr mtl mtx mcp mmk mns) (fun r w => r = some (.int (chO (spa S) a i ((sL S).drop k) n)) ∧ w = (wM g mo mr mnd mgv mcu mck mcl msh mhh mnu mpa mfa mti mpo mle mde msr mtl mtx mcp mmk mns)) := by
  intro m
  have hlen := T.len
  have hka := ix_lt T ha
  induction m with
  | zero =>
    intro k n hk
    refine ev_iload (pc' := 7) dX2_child_5 rfl rfl ?_
    refine ev_aload_n (pc' := 8) dX2_child_7 rfl rfl ?_
    refine ev_get inX2 0 0 rfl rfl (by decide) flX2_nodes rfl (pc' := 11) dX2_child_8 rfl ?_
    refine ev_icmp_ge (tgt := 52) (pc' := 14) dX2_child_11 (by decide) rfl (fun h11 => ?_) (fun h11 => ?_)
    · refine ev_bipush (pc' := 54) (v := (-7)) dX2_child_52 rfl (by decide) ?_
      refine ev_iret rfl dX2_child_54 ?_
      rw [drop_end hk]
      exact ⟨rfl, rfl⟩
    · rw [hR.1] at h11
      exact absurd (nI_le (by omega) (by omega)) h11
  | succ m ih =>
    intro k n hk
    obtain ⟨b, hb, rfl⟩ := ix_at T (show k < (sL S).length by omega)
    rw [drop_ix hb]
    refine ev_iload (pc' := 7) dX2_child_5 rfl rfl ?_
    refine ev_aload_n (pc' := 8) dX2_child_7 rfl rfl ?_
    refine ev_get inX2 0 0 rfl rfl (by decide) flX2_nodes rfl (pc' := 11) dX2_child_8 rfl ?_
    refine ev_icmp_ge (tgt := 52) (pc' := 14) dX2_child_11 (by decide) rfl (fun h11 => ?_) (fun h11 => ?_)
    · rw [hR.1] at h11
      exact absurd h11 (nI_ge (by omega) (by omega))
    · refine ev_aload_n (pc' := 15) dX2_child_14 rfl rfl ?_
      refine ev_get inX2 0 3 rfl rfl (by decide) flX2_parent rfl (pc' := 18) dX2_child_15 rfl ?_
      refine ev_iload (pc' := 20) dX2_child_18 rfl rfl ?_
      refine ev_ialdN 2 rfl (by omega) (by decide) (RM.row hR hb).2.1 (pc' := 21) dX2_child_20 rfl ?_
      refine ev_aload_n (pc' := 22) dX2_child_21 rfl rfl ?_
      refine ev_get inX2 0 2 rfl rfl (by decide) flX2_number rfl (pc' := 25) dX2_child_22 rfl ?_
      refine ev_iload_n (pc' := 26) dX2_child_25 rfl rfl ?_
      refine ev_ialdN 1 rfl (by omega) (by decide) (RM.row hR ha).1 (pc' := 27) dX2_child_26 rfl ?_
      refine ev_icmp_ne (tgt := 46) (pc' := 30) dX2_child_27 (by decide) rfl (fun h27 => ?_) (fun h27 => ?_)
      · rw [par_eq T hb ha] at h27
        refine ev_iinc (pc' := 49) (lv' := [_, _, _, _, _]) dX2_child_46 rfl rfl (nI_1 _) (by decide) (by intro w hw; first | exact Or.inl rfl | (right; have hw := Option.some.inj (Option.some.inj hw); subst hw; first | rfl | exact rf_cat _) | cases hw) rfl ?_
        refine ev_goto (pc' := 5) dX2_child_49 (by decide) ?_
        have h := ih (ix S b + 1) n (by omega)
        unfold chO
        rw [if_neg h27]
        exact h
      · rw [par_eq T hb ha] at h27
        unfold chO
        rw [if_pos h27]
        refine ev_iload_n (pc' := 31) dX2_child_30 rfl rfl ?_
        refine ev_iload_n (pc' := 32) dX2_child_31 rfl rfl ?_
        refine ev_icmp_ne (tgt := 43) (pc' := 35) dX2_child_32 (by decide) rfl (fun h32 => ?_) (fun h32 => ?_)
        · rw [if_neg h32]
          refine ev_iinc (pc' := 46) (lv' := [_, _, _, _, _]) dX2_child_43 rfl rfl (nI_1 _) (by decide) (by intro w hw; first | exact Or.inl rfl | (right; have hw := Option.some.inj (Option.some.inj hw); subst hw; first | rfl | exact rf_cat _) | cases hw) rfl ?_
          refine ev_iinc (pc' := 49) (lv' := [_, _, _, _, _]) dX2_child_46 rfl rfl (nI_1 _) (by decide) (by intro w hw; first | exact Or.inl rfl | (right; have hw := Option.some.inj (Option.some.inj hw); subst hw; first | rfl | exact rf_cat _) | cases hw) rfl ?_
          refine ev_goto (pc' := 5) dX2_child_49 (by decide) ?_
          exact ih (ix S b + 1) (n + 1) (by omega)
        · rw [if_pos h32]
          refine ev_aload_n (pc' := 36) dX2_child_35 rfl rfl ?_
          refine ev_get inX2 0 2 rfl rfl (by decide) flX2_number rfl (pc' := 39) dX2_child_36 rfl ?_
          refine ev_iload (pc' := 41) dX2_child_39 rfl rfl ?_
          refine ev_ialdN 1 rfl (by omega) (by decide) (RM.row hR hb).1 (pc' := 42) dX2_child_41 rfl ?_
          refine ev_iret rfl dX2_child_42 ?_
          exact ⟨rfl, rfl⟩
theorem c_child (T : Tree S) (hR : RM S mnd mgv mcu mck mcl msh mhh mnu mpa mfa mti mpo mle mde msr mtl mtx mcp mmk mns) {a : Nat} (ha : a ∈ sL S) (i : Int32) : Ret g mdX2_child [.ref mo, .int (nI (ix S a)), .int i] (wM g mo mr mnd mgv mcu mck mcl msh mhh mnu mpa mfa mti mpo mle mde msr mtl mtx mcp mmk mns) (fun r w => r = some (.int (chO (spa S) a i (sL S) 0)) ∧ w = (wM g mo mr mnd mgv mcu mck mcl msh mhh mnu mpa mfa mti mpo mle mde msr mtl mtx mcp mmk mns)) := by
  refine Ret.of [_, _, _, _, _] 2 (by decide) (Nat.le_of_ble_eq_true rfl) rfl ?_
  refine ev_iconst (pc' := 1) (v := nI 0) dX2_child_0 rfl (by decide) ?_
  refine ev_istore_n (pc' := 2) (lv' := [_, _, _, _, _]) dX2_child_1 rfl (by decide) (by intro w hw; first | exact Or.inl rfl | (right; have hw := Option.some.inj (Option.some.inj hw); subst hw; first | rfl | exact rf_cat _) | cases hw) rfl ?_
  refine ev_iconst (pc' := 3) (v := nI 0) dX2_child_2 rfl (by decide) ?_
  refine ev_istore (pc' := 5) (lv' := [_, _, _, _, _]) dX2_child_3 rfl (by decide) (by intro w hw; first | exact Or.inl rfl | (right; have hw := Option.some.inj (Option.some.inj hw); subst hw; first | rfl | exact rf_cat _) | cases hw) rfl ?_
  exact chd_loop T hR ha i (sL S).length 0 0 (by omega)
theorem c_mchildOf (T : Tree S) (hR : RM S mnd mgv mcu mck mcl msh mhh mnu mpa mfa mti mpo mle mde msr mtl mtx mcp mmk mns) (x i : Int32) : Ret g mdX2_childOf [.ref mo, .int x, .int i] (wM g mo mr mnd mgv mcu mck mcl msh mhh mnu mpa mfa mti mpo mle mde msr mtl mtx mcp mmk mns) (fun r w => r = some (.int (aChild S x i)) ∧ w = (wM g mo mr mnd mgv mcu mck mcl msh mhh mnu mpa mfa mti mpo mle mde msr mtl mtx mcp mmk mns)) := by
  refine Ret.of [_, _, _, _] 1 (by decide) (Nat.le_of_ble_eq_true rfl) rfl ?_
  refine ev_aload_n (pc' := 1) dX2_childOf_0 rfl rfl ?_
  refine ev_iload_n (pc' := 2) dX2_childOf_1 rfl rfl ?_
  refine ev_callV (As := [_]) coX2_at 0 rfl rfl (c_at T hR x) rfl (by decide) (by first | exact Nat.le_of_ble_eq_true rfl | simp [Value.category, rf_cat]) dX2_childOf_2 rfl (pc' := 5) rfl (fun v w hq => ?_)
  obtain ⟨rfl, rfl⟩ := hq
  dsimp only [Option.toList, List.cons_append, List.nil_append]
  refine ev_istore_n (pc' := 6) (lv' := [_, _, _, _]) dX2_childOf_5 rfl (by decide) (by intro w hw; first | exact Or.inl rfl | (right; have hw := Option.some.inj (Option.some.inj hw); subst hw; first | rfl | exact rf_cat _) | cases hw) rfl ?_
  refine ev_iload_n (pc' := 7) dX2_childOf_6 rfl rfl ?_
  refine ev_bipush (pc' := 9) (v := (-7)) dX2_childOf_7 rfl (by decide) ?_
  refine ev_icmp_ne (tgt := 17) (pc' := 12) dX2_childOf_9 (by decide) rfl (fun h9 => ?_) (fun h9 => ?_)
  · cases hl : lk S x with
    | none => exact absurd (lkI_none hl) h9
    | some a =>
      have ha := (lk_some hl).1
      rw [lkI_some hl]
      refine ev_aload_n (pc' := 18) dX2_childOf_17 rfl rfl ?_
      refine ev_iload_n (pc' := 19) dX2_childOf_18 rfl rfl ?_
      refine ev_iload_n (pc' := 20) dX2_childOf_19 rfl rfl ?_
      refine ev_callV (As := [_, _]) coX2_child 0 rfl rfl (c_child T hR ha i) rfl (by decide) (by first | exact Nat.le_of_ble_eq_true rfl | simp [Value.category, rf_cat]) dX2_childOf_20 rfl (pc' := 23) rfl (fun v w hq => ?_)
      obtain ⟨rfl, rfl⟩ := hq
      dsimp only [Option.toList, List.cons_append, List.nil_append]
      refine ev_iret rfl dX2_childOf_23 ?_
      exact ⟨by unfold aChild; rw [hl], rfl⟩
  · refine ev_bipush (pc' := 14) (v := (-2)) dX2_childOf_12 rfl (by decide) ?_
    refine ev_goto (pc' := 23) dX2_childOf_14 (by decide) ?_
    refine ev_iret rfl dX2_childOf_23 ?_
    exact ⟨by unfold aChild; rw [(lkI_m7 T).mp h9], rfl⟩
theorem nIz {n : Nat} (h : n < 2 ^ 31) : nI n = 0 ↔ n = 0 := ⟨fun e => nI_inj (b := 0) h (by omega) e, fun e => by rw [e]; rfl⟩
theorem chN_le (T : Tree S) (a : Nat) : chN S a ≤ 24 := Nat.le_trans (cnt_le _ _) T.len
theorem mkN_le (S : SS) (a : Nat) : mkN S a ≤ 5 := cnt_le _ _
theorem c_isLoose (I : Inv N S) (hR : RM S mnd mgv mcu mck mcl msh mhh mnu mpa mfa mti mpo mle mde msr mtl mtx mcp mmk mns) {a : Nat} (ha : a ∈ sL S) : Ret g mdX2_isLoose [.ref mo, .int (nI (ix S a))] (wM g mo mr mnd mgv mcu mck mcl msh mhh mnu mpa mfa mti mpo mle mde msr mtl mtx mcp mmk mns) (fun r w => r = some (.int (bI (loose S a))) ∧ w = (wM g mo mr mnd mgv mcu mck mcl msh mhh mnu mpa mfa mti mpo mle mde msr mtl mtx mcp mmk mns)) := by
  have T := I.T
  have hk := ix_lt T ha
  have hkc := ix_lt T I.cu
  have hlt := T.lt ha
  have e3 := hR.2.2.1
  subst e3
  refine Ret.of [_, _] 0 (by decide) (Nat.le_of_ble_eq_true rfl) rfl ?_
  have no : ¬ (a ≠ 0 ∧ a ≠ scu S ∧ chN S a = 0 ∧ mkN S a = 0) → Ev g mdX2_isLoose 37 [some (.ref mo), some (.int (nI (ix S a)))] [] (wM g mo mr mnd mgv (nI (ix S (scu S))) mck mcl msh mhh mnu mpa mfa mti mpo mle mde msr mtl mtx mcp mmk mns) (fun r w => r = some (.int (bI (loose S a))) ∧ w = wM g mo mr mnd mgv (nI (ix S (scu S))) mck mcl msh mhh mnu mpa mfa mti mpo mle mde msr mtl mtx mcp mmk mns) := by
    intro h
    refine ev_iconst (pc' := 38) (v := nI 0) dX2_isLoose_37 rfl (by decide) ?_
    refine ev_zret rfl (by decide) dX2_isLoose_38 ?_
    refine ⟨?_, rfl⟩
    unfold loose
    rw [bI_f h]
  refine ev_iload_n (pc' := 1) dX2_isLoose_0 rfl rfl ?_
  refine ev_if_le (tgt := 37) (pc' := 4) dX2_isLoose_1 (by decide) rfl (fun h1 => ?_) (fun h1 => ?_)
  · refine no (fun q => q.1 ?_)
    rw [show (0 : Int32) = nI 0 from rfl, nI_leI (by omega) (by omega)] at h1
    exact (ix_eq0 T ha).mp (by omega)
  · have hz : a ≠ 0 := fun q => h1 (by
      rw [show (0 : Int32) = nI 0 from rfl, nI_leI (by omega) (by omega), (ix_eq0 T ha).mpr q]; exact Nat.le_refl 0)
    refine ev_iload_n (pc' := 5) dX2_isLoose_4 rfl rfl ?_
    refine ev_aload_n (pc' := 6) dX2_isLoose_5 rfl rfl ?_
    refine ev_get inX2 0 12 rfl rfl (by decide) flX2_current rfl (pc' := 9) dX2_isLoose_6 rfl ?_
    refine ev_icmp_eq (tgt := 37) (pc' := 12) dX2_isLoose_9 (by decide) rfl (fun h9 => ?_) (fun h9 => ?_)
    · exact no (fun q => q.2.1 (ix_inj T ha I.cu (nI_inj (by omega) (by omega) h9)))
    · have hc : a ≠ scu S := fun q => h9 (by rw [q])
      have hcl := chN_le T a
      have hml := mkN_le S a
      refine ev_aload_n (pc' := 13) dX2_isLoose_12 rfl rfl ?_
      refine ev_iload_n (pc' := 14) dX2_isLoose_13 rfl rfl ?_
      refine ev_callV (As := [_]) coX2_childMany 0 rfl rfl (c_childMany T hR ha) rfl (by decide) (by first | exact Nat.le_of_ble_eq_true rfl | simp [Value.category, rf_cat]) dX2_isLoose_14 rfl (pc' := 17) rfl (fun v w hq => ?_)
      obtain ⟨rfl, rfl⟩ := hq
      dsimp only [Option.toList, List.cons_append, List.nil_append]
      refine ev_if_ne (tgt := 37) (pc' := 20) dX2_isLoose_17 (by decide) rfl (fun h17 => ?_) (fun h17 => ?_)
      · exact no (fun q => h17 (by rw [q.2.2.1]; rfl))
      · rw [nIz (by omega)] at h17
        refine ev_aload_n (pc' := 21) dX2_isLoose_20 rfl rfl ?_
        refine ev_aload_n (pc' := 22) dX2_isLoose_21 rfl rfl ?_
        refine ev_get inX2 0 2 rfl rfl (by decide) flX2_number rfl (pc' := 25) dX2_isLoose_22 rfl ?_
        refine ev_iload_n (pc' := 26) dX2_isLoose_25 rfl rfl ?_
        refine ev_ialdN 1 rfl (by omega) (by decide) (RM.row hR ha).1 (pc' := 27) dX2_isLoose_26 rfl ?_
        refine ev_callV (As := [_]) coX2_marksOn 0 rfl rfl (c_mmarksOn hR I.mkb (by omega)) rfl (by decide) (by first | exact Nat.le_of_ble_eq_true rfl | simp [Value.category, rf_cat]) dX2_isLoose_27 rfl (pc' := 30) rfl (fun v w hq => ?_)
        obtain ⟨rfl, rfl⟩ := hq
        dsimp only [Option.toList, List.cons_append, List.nil_append]
        refine ev_if_ne (tgt := 37) (pc' := 33) dX2_isLoose_30 (by decide) rfl (fun h30 => ?_) (fun h30 => ?_)
        · exact no (fun q => h30 (by rw [q.2.2.2]; rfl))
        · rw [nIz (by omega)] at h30
          refine ev_iconst (pc' := 34) (v := nI 1) dX2_isLoose_33 rfl (by decide) ?_
          refine ev_goto (pc' := 38) dX2_isLoose_34 (by decide) ?_
          refine ev_zret rfl (by decide) dX2_isLoose_38 ?_
          refine ⟨?_, rfl⟩
          unfold loose
          rw [bI_t ⟨hz, hc, h17, h30⟩]
theorem old_loop (I : Inv N S) (hR : RM S mnd mgv mcu mck mcl msh mhh mnu mpa mfa mti mpo mle mde msr mtl mtx mcp mmk mns) : ∀ (m k : Nat) (b : Option Nat), k + m = (sL S).length → (∀ e, b = some e → e ∈ sL S) → Ev g mdX2_oldest 5 [some (.ref mo), some (.int (oI (b.map (ix S)))), some (.int (nI k))] [] (wM g mo mr mnd mgv mcu mck mcl msh mhh mnu mpa mfa mti mpo mle mde msr mtl mtx mcp mmk mns) (fun r w => r = some (.int (oI (oldF S ((sL S).drop k) b))) ∧ w = (wM g mo mr mnd mgv mcu mck mcl msh mhh mnu mpa mfa mti mpo mle mde msr mtl mtx mcp mmk mns)) := by
  intro m
  have T := I.T
  have hlen := T.len
  induction m with
  | zero =>
    intro k b hk hb
    rw [drop_end hk]
    show Ev g mdX2_oldest 5 _ [] _ (fun r w => r = some (.int (oI b)) ∧ w = _)
    refine ev_iload_n (pc' := 6) dX2_oldest_5 rfl rfl ?_
    refine ev_aload_n (pc' := 7) dX2_oldest_6 rfl rfl ?_
    refine ev_get inX2 0 0 rfl rfl (by decide) flX2_nodes rfl (pc' := 10) dX2_oldest_7 rfl ?_
    refine ev_icmp_ge (tgt := 54) (pc' := 13) dX2_oldest_10 (by decide) rfl (fun h10 => ?_) (fun h10 => ?_)
    · cases b with
      | none =>
        refine ev_iload_n (pc' := 55) dX2_oldest_54 rfl rfl ?_
        refine ev_bipush (pc' := 57) (v := (-7)) dX2_oldest_55 rfl (by decide) ?_
        refine ev_icmp_ne (tgt := 65) (pc' := 60) dX2_oldest_57 (by decide) rfl (fun h57 => ?_) (fun h57 => ?_)
        · exact absurd rfl h57
        · refine ev_bipush (pc' := 62) (v := (-7)) dX2_oldest_60 rfl (by decide) ?_
          refine ev_goto (pc' := 71) dX2_oldest_62 (by decide) ?_
          refine ev_iret rfl dX2_oldest_71 ?_
          exact ⟨rfl, rfl⟩
      | some e =>
        have he := hb e rfl
        have hke := ix_lt T he
        show Ev g mdX2_oldest 54 [_, some (.int (nI (ix S e))), _] [] _ _
        refine ev_iload_n (pc' := 55) dX2_oldest_54 rfl rfl ?_
        refine ev_bipush (pc' := 57) (v := (-7)) dX2_oldest_55 rfl (by decide) ?_
        refine ev_icmp_ne (tgt := 65) (pc' := 60) dX2_oldest_57 (by decide) rfl (fun h57 => ?_) (fun h57 => ?_)
        · refine ev_aload_n (pc' := 66) dX2_oldest_65 rfl rfl ?_
          refine ev_get inX2 0 2 rfl rfl (by decide) flX2_number rfl (pc' := 69) dX2_oldest_66 rfl ?_
          refine ev_iload_n (pc' := 70) dX2_oldest_69 rfl rfl ?_
          refine ev_ialdN 1 rfl (by omega) (by decide) (RM.row hR he).1 (pc' := 71) dX2_oldest_70 rfl ?_
          refine ev_iret rfl dX2_oldest_71 ?_
          exact ⟨rfl, rfl⟩
        · exact absurd h57 (nI_m7 (by omega))
    · rw [hR.1] at h10
      exact absurd (nI_le (by omega) (by omega)) h10
  | succ m ih =>
    intro k b hk hb
    obtain ⟨c, hc, rfl⟩ := ix_at T (show k < (sL S).length by omega)
    have hkc := ix_lt T hc
    rw [drop_ix hc]
    unfold oldF
    have skip : ¬ (loose S c = true ∧ (∀ e, b = some e → nI (sti S c) < nI (sti S e))) → Ev g mdX2_oldest 46 [some (.ref mo), some (.int (oI (b.map (ix S)))), some (.int (nI (ix S c)))] [] (wM g mo mr mnd mgv mcu mck mcl msh mhh mnu mpa mfa mti mpo mle mde msr mtl mtx mcp mmk mns) (fun r w => r = some (.int (oI (oldF S ((sL S).drop (ix S c + 1)) (if loose S c = true ∧ (∀ e, b = some e → nI (sti S c) < nI (sti S e)) then some c else b)))) ∧ w = (wM g mo mr mnd mgv mcu mck mcl msh mhh mnu mpa mfa mti mpo mle mde msr mtl mtx mcp mmk mns)) := by
      intro h
      rw [if_neg h]
      refine ev_iload_n (pc' := 47) dX2_oldest_46 rfl rfl ?_
      refine ev_istore_n (pc' := 48) (lv' := [_, _, _]) dX2_oldest_47 rfl (by decide) (by intro w hw; first | exact Or.inl rfl | (right; have hw := Option.some.inj (Option.some.inj hw); subst hw; first | rfl | exact rf_cat _) | cases hw) rfl ?_
      refine ev_iinc (pc' := 51) (lv' := [_, _, _]) dX2_oldest_48 rfl rfl (nI_1 _) (by decide) (by intro w hw; first | exact Or.inl rfl | (right; have hw := Option.some.inj (Option.some.inj hw); subst hw; first | rfl | exact rf_cat _) | cases hw) rfl ?_
      refine ev_goto (pc' := 5) dX2_oldest_51 (by decide) ?_
      exact ih (ix S c + 1) b (by omega) hb
    have take : (loose S c = true ∧ (∀ e, b = some e → nI (sti S c) < nI (sti S e))) → Ev g mdX2_oldest 42 [some (.ref mo), some (.int (oI (b.map (ix S)))), some (.int (nI (ix S c)))] [] (wM g mo mr mnd mgv mcu mck mcl msh mhh mnu mpa mfa mti mpo mle mde msr mtl mtx mcp mmk mns) (fun r w => r = some (.int (oI (oldF S ((sL S).drop (ix S c + 1)) (if loose S c = true ∧ (∀ e, b = some e → nI (sti S c) < nI (sti S e)) then some c else b)))) ∧ w = (wM g mo mr mnd mgv mcu mck mcl msh mhh mnu mpa mfa mti mpo mle mde msr mtl mtx mcp mmk mns)) := by
      intro h
      rw [if_pos h]
      refine ev_iload_n (pc' := 43) dX2_oldest_42 rfl rfl ?_
      refine ev_goto (pc' := 47) dX2_oldest_43 (by decide) ?_
      refine ev_istore_n (pc' := 48) (lv' := [_, _, _]) dX2_oldest_47 rfl (by decide) (by intro w hw; first | exact Or.inl rfl | (right; have hw := Option.some.inj (Option.some.inj hw); subst hw; first | rfl | exact rf_cat _) | cases hw) rfl ?_
      refine ev_iinc (pc' := 51) (lv' := [_, _, _]) dX2_oldest_48 rfl rfl (nI_1 _) (by decide) (by intro w hw; first | exact Or.inl rfl | (right; have hw := Option.some.inj (Option.some.inj hw); subst hw; first | rfl | exact rf_cat _) | cases hw) rfl ?_
      refine ev_goto (pc' := 5) dX2_oldest_51 (by decide) ?_
      exact ih (ix S c + 1) (some c) (by omega) (fun e he => by cases he; exact hc)
    refine ev_iload_n (pc' := 6) dX2_oldest_5 rfl rfl ?_
    refine ev_aload_n (pc' := 7) dX2_oldest_6 rfl rfl ?_
    refine ev_get inX2 0 0 rfl rfl (by decide) flX2_nodes rfl (pc' := 10) dX2_oldest_7 rfl ?_
    refine ev_icmp_ge (tgt := 54) (pc' := 13) dX2_oldest_10 (by decide) rfl (fun h10 => ?_) (fun h10 => ?_)
    · rw [hR.1] at h10
      exact absurd h10 (nI_ge (by omega) (by omega))
    · refine ev_aload_n (pc' := 14) dX2_oldest_13 rfl rfl ?_
      refine ev_iload_n (pc' := 15) dX2_oldest_14 rfl rfl ?_
      refine ev_callV (As := [_]) coX2_isLoose 0 rfl rfl (c_isLoose I hR hc) rfl (by decide) (by first | exact Nat.le_of_ble_eq_true rfl | simp [Value.category, rf_cat]) dX2_oldest_15 rfl (pc' := 18) rfl (fun v w hq => ?_)
      obtain ⟨rfl, rfl⟩ := hq
      dsimp only [Option.toList, List.cons_append, List.nil_append]
      refine ev_if_eq (tgt := 46) (pc' := 21) dX2_oldest_18 (by decide) rfl (fun h18 => ?_) (fun h18 => ?_)
      · rw [bI_eq] at h18
        exact skip (fun q => by rw [h18] at q; exact absurd q.1 (by decide))
      · rw [bI_ne] at h18
        cases b with
        | none =>
          refine ev_iload_n (pc' := 22) dX2_oldest_21 rfl rfl ?_
          refine ev_bipush (pc' := 24) (v := (-7)) dX2_oldest_22 rfl (by decide) ?_
          refine ev_icmp_eq (tgt := 42) (pc' := 27) dX2_oldest_24 (by decide) rfl (fun h24 => ?_) (fun h24 => ?_)
          · exact take ⟨h18, fun e he => by cases he⟩
          · exact absurd rfl h24
        | some e =>
          have he := hb e rfl
          have hke := ix_lt T he
          show Ev g mdX2_oldest 21 [_, some (.int (nI (ix S e))), _] [] _ _
          refine ev_iload_n (pc' := 22) dX2_oldest_21 rfl rfl ?_
          refine ev_bipush (pc' := 24) (v := (-7)) dX2_oldest_22 rfl (by decide) ?_
          refine ev_icmp_eq (tgt := 42) (pc' := 27) dX2_oldest_24 (by decide) rfl (fun h24 => ?_) (fun h24 => ?_)
          · exact absurd h24 (nI_m7 (by omega))
          · refine ev_aload_n (pc' := 28) dX2_oldest_27 rfl rfl ?_
            refine ev_get inX2 0 5 rfl rfl (by decide) flX2_time rfl (pc' := 31) dX2_oldest_28 rfl ?_
            refine ev_iload_n (pc' := 32) dX2_oldest_31 rfl rfl ?_
            refine ev_ialdN 4 rfl (by omega) (by decide) (RM.row hR hc).2.2.2.1 (pc' := 33) dX2_oldest_32 rfl ?_
            refine ev_aload_n (pc' := 34) dX2_oldest_33 rfl rfl ?_
            refine ev_get inX2 0 5 rfl rfl (by decide) flX2_time rfl (pc' := 37) dX2_oldest_34 rfl ?_
            refine ev_iload_n (pc' := 38) dX2_oldest_37 rfl rfl ?_
            refine ev_ialdN 4 rfl (by omega) (by decide) (RM.row hR he).2.2.2.1 (pc' := 39) dX2_oldest_38 rfl ?_
            refine ev_icmp_ge (tgt := 46) (pc' := 42) dX2_oldest_39 (by decide) rfl (fun h39 => ?_) (fun h39 => ?_)
            · exact skip (fun q => Int32.not_lt.mpr h39 (q.2 e rfl))
            · exact take ⟨h18, fun e' he' => by cases he'; exact Int32.not_le.mp h39⟩
theorem c_oldest (I : Inv N S) (hR : RM S mnd mgv mcu mck mcl msh mhh mnu mpa mfa mti mpo mle mde msr mtl mtx mcp mmk mns) : Ret g mdX2_oldest [.ref mo] (wM g mo mr mnd mgv mcu mck mcl msh mhh mnu mpa mfa mti mpo mle mde msr mtl mtx mcp mmk mns) (fun r w => r = some (.int (aOld S)) ∧ w = (wM g mo mr mnd mgv mcu mck mcl msh mhh mnu mpa mfa mti mpo mle mde msr mtl mtx mcp mmk mns)) := by
  refine Ret.of [_, _, _] 2 (by decide) (Nat.le_of_ble_eq_true rfl) rfl ?_
  refine ev_bipush (pc' := 2) (v := (-7)) dX2_oldest_0 rfl (by decide) ?_
  refine ev_istore_n (pc' := 3) (lv' := [_, _, _]) dX2_oldest_2 rfl (by decide) (by intro w hw; first | exact Or.inl rfl | (right; have hw := Option.some.inj (Option.some.inj hw); subst hw; first | rfl | exact rf_cat _) | cases hw) rfl ?_
  refine ev_iconst (pc' := 4) (v := nI 0) dX2_oldest_3 rfl (by decide) ?_
  refine ev_istore_n (pc' := 5) (lv' := [_, _, _]) dX2_oldest_4 rfl (by decide) (by intro w hw; first | exact Or.inl rfl | (right; have hw := Option.some.inj (Option.some.inj hw); subst hw; first | rfl | exact rf_cat _) | cases hw) rfl ?_
  exact old_loop I hR (sL S).length 0 none (by omega) (fun e he => by cases he)
theorem c_moldestLeaf (I : Inv N S) (hR : RM S mnd mgv mcu mck mcl msh mhh mnu mpa mfa mti mpo mle mde msr mtl mtx mcp mmk mns) : Ret g mdX2_oldestLeaf [.ref mo] (wM g mo mr mnd mgv mcu mck mcl msh mhh mnu mpa mfa mti mpo mle mde msr mtl mtx mcp mmk mns) (fun r w => r = some (.int (aOld S)) ∧ w = (wM g mo mr mnd mgv mcu mck mcl msh mhh mnu mpa mfa mti mpo mle mde msr mtl mtx mcp mmk mns)) := by
  refine Ret.of [_] 0 (by decide) (Nat.le_of_ble_eq_true rfl) rfl ?_
  refine ev_aload_n (pc' := 1) dX2_oldestLeaf_0 rfl rfl ?_
  refine ev_callV (As := []) coX2_oldest 0 rfl rfl (c_oldest I hR) rfl (by decide) (by first | exact Nat.le_of_ble_eq_true rfl | simp [Value.category, rf_cat]) dX2_oldestLeaf_1 rfl (pc' := 4) rfl (fun v w hq => ?_)
  obtain ⟨rfl, rfl⟩ := hq
  dsimp only [Option.toList, List.cons_append, List.nil_append]
  refine ev_iret rfl dX2_oldestLeaf_4 ?_
  exact ⟨rfl, rfl⟩
theorem c_mix (v : Int64) : Ret g mdX2_mix [.ref mo, .long v] (wM g mo mr mnd mgv mcu mck mcl msh mhh mnu mpa mfa mti mpo mle mde msr mtl mtx mcp mmk mns) (fun r w => r = none ∧ w = (wM g mo mr mnd mgv mcu mck mcl msh (mx mhh v) mnu mpa mfa mti mpo mle mde msr mtl mtx mcp mmk mns)) := by
  refine Ret.of [_, _, _] 0 (by decide) (Nat.le_of_ble_eq_true rfl) rfl ?_
  refine ev_aload_n (pc' := 1) dX2_mix_0 rfl rfl ?_
  refine ev_ldc2 (pc' := 4) clX2_141 dX2_mix_1 rfl ?_
  refine ev_aload_n (pc' := 5) dX2_mix_4 rfl rfl ?_
  refine ev_get inX2 0 19 rfl rfl (by decide) flX2_h rfl (pc' := 8) dX2_mix_5 rfl ?_
  refine ev_lmul (pc' := 9) dX2_mix_8 rfl ?_
  refine ev_lload_n (pc' := 10) dX2_mix_9 rfl rfl ?_
  refine ev_ladd (pc' := 11) dX2_mix_10 rfl ?_
  refine pX2_h rfl (pc' := 14) dX2_mix_11 rfl ?_
  refine ev_vret rfl dX2_mix_14 ?_
  exact ⟨rfl, rfl⟩
end M7
end
section
/-! ===== the reference's digest ===== -/
section M8
variable {g : EG} {mo : Nat} {mr : Nat → Nat} {mnd mgv mcu mck mcl msh : Int32} {mhh : Int64} {mnu mpa mfa mti mpo mle mde msr mtl mtx mcp mmk mns : Nat → Int32}
variable {S : SS} {N : Nat} {Ph : Option Value → va_W → Prop}
theorem dgt_loop (T : Tree S) (hR : RM S mnd mgv mcu mck mcl msh mhh mnu mpa mfa mti mpo mle mde msr mtl mtx mcp mmk mns) (ht : ∀ a ∈ sL S, stl S a ≤ 40) {a : Nat} (ha : a ∈ sL S) : ∀ (m i : Nat) (h : Int64), i + m = stl S a → Ev g mdX2_digest 119 [some (.ref mo), some (.int (nI (ix S a))), none] [] (wM g mo mr mnd mgv mcu mck mcl msh (mxT (stx S a) m i h) mnu mpa mfa mti mpo mle mde msr mtl mtx mcp mmk mns) Ph → Ev g mdX2_digest 87 [some (.ref mo), some (.int (nI (ix S a))), some (.int (nI i))] [] (wM g mo mr mnd mgv mcu mck mcl msh (h) mnu mpa mfa mti mpo mle mde msr mtl mtx mcp mmk mns) Ph := by
  intro m
  have hk := ix_lt T ha
  have h40 := ht a ha
  have hr := RM.row hR ha
  induction m with
  | zero =>
    intro i h hi K
    refine ev_iload_n (pc' := 88) dX2_digest_87 rfl rfl ?_
    refine ev_aload_n (pc' := 89) dX2_digest_88 rfl rfl ?_
    refine ev_get inX2 0 10 rfl rfl (by decide) flX2_textLength rfl (pc' := 92) dX2_digest_89 rfl ?_
    refine ev_iload_n (pc' := 93) dX2_digest_92 rfl rfl ?_
    refine ev_ialdN 9 rfl (by omega) (by decide) hr.2.2.2.2.2.2.2.1 (pc' := 94) dX2_digest_93 rfl ?_
    refine ev_icmp_ge (tgt := 119) (pc' := 97) dX2_digest_94 (by decide) rfl (fun h94 => ?_) (fun h94 => ?_)
    · exact Ev.weak [some (.ref mo), some (.int (nI (ix S a))), none] (lw_le_get _ _ (by simp [lw_le])) K
    · exact absurd (nI_le (by omega) (by omega)) h94
  | succ m ih =>
    intro i h hi K
    refine ev_iload_n (pc' := 88) dX2_digest_87 rfl rfl ?_
    refine ev_aload_n (pc' := 89) dX2_digest_88 rfl rfl ?_
    refine ev_get inX2 0 10 rfl rfl (by decide) flX2_textLength rfl (pc' := 92) dX2_digest_89 rfl ?_
    refine ev_iload_n (pc' := 93) dX2_digest_92 rfl rfl ?_
    refine ev_ialdN 9 rfl (by omega) (by decide) hr.2.2.2.2.2.2.2.1 (pc' := 94) dX2_digest_93 rfl ?_
    refine ev_icmp_ge (tgt := 119) (pc' := 97) dX2_digest_94 (by decide) rfl (fun h94 => ?_) (fun h94 => ?_)
    · exact absurd h94 (nI_ge (by omega) (by omega))
    · refine ev_aload_n (pc' := 98) dX2_digest_97 rfl rfl ?_
      refine ev_aload_n (pc' := 99) dX2_digest_98 rfl rfl ?_
      refine ev_get inX2 0 11 rfl rfl (by decide) flX2_text rfl (pc' := 102) dX2_digest_99 rfl ?_
      refine ev_bipush (pc' := 104) (v := nI 40) dX2_digest_102 rfl (by decide) ?_
      refine ev_iload_n (pc' := 105) dX2_digest_104 rfl rfl ?_
      refine ev_imul (pc' := 106) dX2_digest_105 rfl ?_
      refine ev_iload_n (pc' := 107) dX2_digest_106 rfl rfl ?_
      refine ev_iadd (pc' := 108) dX2_digest_107 rfl ?_
      rw [pk_mul, nI_add]
      refine ev_ialdN 10 rfl (by omega) (by decide) (hr.2.2.2.2.2.2.2.2.2 i (by omega)) (pc' := 109) dX2_digest_108 rfl ?_
      refine ev_i2l (pc' := 110) dX2_digest_109 rfl ?_
      refine ev_callV (As := [_]) coX2_mix 0 rfl rfl (c_mix _) rfl (by decide) (by first | exact Nat.le_of_ble_eq_true rfl | simp [Value.category, rf_cat]) dX2_digest_110 rfl (pc' := 113) rfl (fun v w hq => ?_)
      obtain ⟨rfl, rfl⟩ := hq
      dsimp only [Option.toList, List.cons_append, List.nil_append]
      refine ev_iinc (pc' := 116) (lv' := [_, _, _]) dX2_digest_113 rfl rfl (nI_1 _) (by decide) (by intro w hw; first | exact Or.inl rfl | (right; have hw := Option.some.inj (Option.some.inj hw); subst hw; first | rfl | exact rf_cat _) | cases hw) rfl ?_
      refine ev_goto (pc' := 87) dX2_digest_116 (by decide) ?_
      exact ih (i + 1) _ (by omega) K
theorem dgn_loop (I : Inv N S) (hR : RM S mnd mgv mcu mck mcl msh mhh mnu mpa mfa mti mpo mle mde msr mtl mtx mcp mmk mns) : ∀ (m k : Nat) (h : Int64), k + m = (sL S).length → (∀ j, Ev g mdX2_digest 147 [some (.ref mo), some (.int (nI j)), none] [] (wM g mo mr mnd mgv mcu mck mcl msh (dgL S ((sL S).drop k) h) mnu mpa mfa mti mpo mle mde msr mtl mtx mcp mmk mns) Ph) → Ev g mdX2_digest 18 [some (.ref mo), some (.int (nI k)), none] [] (wM g mo mr mnd mgv mcu mck mcl msh (h) mnu mpa mfa mti mpo mle mde msr mtl mtx mcp mmk mns) Ph := by
  intro m
  have T := I.T
  have hlen := T.len
  induction m with
  | zero =>
    intro k h hk K
    rw [drop_end hk] at K
    refine ev_iload_n (pc' := 19) dX2_digest_18 rfl rfl ?_
    refine ev_aload_n (pc' := 20) dX2_digest_19 rfl rfl ?_
    refine ev_get inX2 0 0 rfl rfl (by decide) flX2_nodes rfl (pc' := 23) dX2_digest_20 rfl ?_
    refine ev_icmp_ge (tgt := 147) (pc' := 26) dX2_digest_23 (by decide) rfl (fun h23 => ?_) (fun h23 => ?_)
    · exact K k
    · rw [hR.1] at h23
      exact absurd (nI_le (by omega) (by omega)) h23
  | succ m ih =>
    intro k h hk K
    obtain ⟨a, ha, rfl⟩ := ix_at T (show k < (sL S).length by omega)
    have hka := ix_lt T ha
    have hr := RM.row hR ha
    rw [drop_ix ha] at K
    have tail : ∀ h2 : Int64, (∀ j, Ev g mdX2_digest 147 [some (.ref mo), some (.int (nI j)), none] [] (wM g mo mr mnd mgv mcu mck mcl msh (dgL S ((sL S).drop (ix S a + 1)) (mx (mx (mxT (stx S a) (stl S a) 0 (mx h2 (nI (stl S a)).toInt64)) (oI (sfa S a)).toInt64) (nI (sti S a)).toInt64)) mnu mpa mfa mti mpo mle mde msr mtl mtx mcp mmk mns) Ph) → Ev g mdX2_digest 74 [some (.ref mo), some (.int (nI (ix S a))), none] [] (wM g mo mr mnd mgv mcu mck mcl msh (h2) mnu mpa mfa mti mpo mle mde msr mtl mtx mcp mmk mns) Ph := by
      intro h2 K
      refine ev_aload_n (pc' := 75) dX2_digest_74 rfl rfl ?_
      refine ev_aload_n (pc' := 76) dX2_digest_75 rfl rfl ?_
      refine ev_get inX2 0 10 rfl rfl (by decide) flX2_textLength rfl (pc' := 79) dX2_digest_76 rfl ?_
      refine ev_iload_n (pc' := 80) dX2_digest_79 rfl rfl ?_
      refine ev_ialdN 9 rfl (by omega) (by decide) hr.2.2.2.2.2.2.2.1 (pc' := 81) dX2_digest_80 rfl ?_
      refine ev_i2l (pc' := 82) dX2_digest_81 rfl ?_
      refine ev_callV (As := [_]) coX2_mix 0 rfl rfl (c_mix _) rfl (by decide) (by first | exact Nat.le_of_ble_eq_true rfl | simp [Value.category, rf_cat]) dX2_digest_82 rfl (pc' := 85) rfl (fun v w hq => ?_)
      obtain ⟨rfl, rfl⟩ := hq
      dsimp only [Option.toList, List.cons_append, List.nil_append]
      refine ev_iconst (pc' := 86) (v := nI 0) dX2_digest_85 rfl (by decide) ?_
      refine ev_istore_n (pc' := 87) (lv' := [_, _, _]) dX2_digest_86 rfl (by decide) (by intro w hw; first | exact Or.inl rfl | (right; have hw := Option.some.inj (Option.some.inj hw); subst hw; first | rfl | exact rf_cat _) | cases hw) rfl ?_
      refine dgt_loop T hR (fun a ha => I.tl ha) ha (stl S a) 0 _ (by omega) ?_
      refine ev_aload_n (pc' := 120) dX2_digest_119 rfl rfl ?_
      refine ev_aload_n (pc' := 121) dX2_digest_120 rfl rfl ?_
      refine ev_get inX2 0 4 rfl rfl (by decide) flX2_favourite rfl (pc' := 124) dX2_digest_121 rfl ?_
      refine ev_iload_n (pc' := 125) dX2_digest_124 rfl rfl ?_
      refine ev_ialdN 3 rfl (by omega) (by decide) hr.2.2.1 (pc' := 126) dX2_digest_125 rfl ?_
      refine ev_i2l (pc' := 127) dX2_digest_126 rfl ?_
      refine ev_callV (As := [_]) coX2_mix 0 rfl rfl (c_mix _) rfl (by decide) (by first | exact Nat.le_of_ble_eq_true rfl | simp [Value.category, rf_cat]) dX2_digest_127 rfl (pc' := 130) rfl (fun v w hq => ?_)
      obtain ⟨rfl, rfl⟩ := hq
      dsimp only [Option.toList, List.cons_append, List.nil_append]
      refine ev_aload_n (pc' := 131) dX2_digest_130 rfl rfl ?_
      refine ev_aload_n (pc' := 132) dX2_digest_131 rfl rfl ?_
      refine ev_get inX2 0 5 rfl rfl (by decide) flX2_time rfl (pc' := 135) dX2_digest_132 rfl ?_
      refine ev_iload_n (pc' := 136) dX2_digest_135 rfl rfl ?_
      refine ev_ialdN 4 rfl (by omega) (by decide) hr.2.2.2.1 (pc' := 137) dX2_digest_136 rfl ?_
      refine ev_i2l (pc' := 138) dX2_digest_137 rfl ?_
      refine ev_callV (As := [_]) coX2_mix 0 rfl rfl (c_mix _) rfl (by decide) (by first | exact Nat.le_of_ble_eq_true rfl | simp [Value.category, rf_cat]) dX2_digest_138 rfl (pc' := 141) rfl (fun v w hq => ?_)
      obtain ⟨rfl, rfl⟩ := hq
      dsimp only [Option.toList, List.cons_append, List.nil_append]
      refine ev_iinc (pc' := 144) (lv' := [_, _, _]) dX2_digest_141 rfl rfl (nI_1 _) (by decide) (by intro w hw; first | exact Or.inl rfl | (right; have hw := Option.some.inj (Option.some.inj hw); subst hw; first | rfl | exact rf_cat _) | cases hw) rfl ?_
      refine ev_goto (pc' := 18) dX2_digest_144 (by decide) ?_
      exact ih (ix S a + 1) _ (by omega) K
    refine ev_iload_n (pc' := 19) dX2_digest_18 rfl rfl ?_
    refine ev_aload_n (pc' := 20) dX2_digest_19 rfl rfl ?_
    refine ev_get inX2 0 0 rfl rfl (by decide) flX2_nodes rfl (pc' := 23) dX2_digest_20 rfl ?_
    refine ev_icmp_ge (tgt := 147) (pc' := 26) dX2_digest_23 (by decide) rfl (fun h23 => ?_) (fun h23 => ?_)
    · rw [hR.1] at h23
      exact absurd h23 (nI_ge (by omega) (by omega))
    · by_cases hz : a = 0
      · have hz' := (ixz T ha).mpr hz
        refine ev_aload_n (pc' := 27) dX2_digest_26 rfl rfl ?_
        refine ev_aload_n (pc' := 28) dX2_digest_27 rfl rfl ?_
        refine ev_get inX2 0 2 rfl rfl (by decide) flX2_number rfl (pc' := 31) dX2_digest_28 rfl ?_
        refine ev_iload_n (pc' := 32) dX2_digest_31 rfl rfl ?_
        refine ev_ialdN 1 rfl (by omega) (by decide) hr.1 (pc' := 33) dX2_digest_32 rfl ?_
        refine ev_i2l (pc' := 34) dX2_digest_33 rfl ?_
        refine ev_callV (As := [_]) coX2_mix 0 rfl rfl (c_mix _) rfl (by decide) (by first | exact Nat.le_of_ble_eq_true rfl | simp [Value.category, rf_cat]) dX2_digest_34 rfl (pc' := 37) rfl (fun v w hq => ?_)
        obtain ⟨rfl, rfl⟩ := hq
        dsimp only [Option.toList, List.cons_append, List.nil_append]
        refine ev_aload_n (pc' := 38) dX2_digest_37 rfl rfl ?_
        refine ev_iload_n (pc' := 39) dX2_digest_38 rfl rfl ?_
        refine ev_if_ne (tgt := 46) (pc' := 42) dX2_digest_39 (by decide) rfl (fun h39 => ?_) (fun h39 => ?_)
        · exact absurd hz' h39
        · refine ev_lconst (pc' := 43) (v := 0) dX2_digest_42 rfl (by decide) ?_
          refine ev_goto (pc' := 53) dX2_digest_43 (by decide) ?_
          refine ev_callV (As := [_]) coX2_mix 0 rfl rfl (c_mix _) rfl (by decide) (by first | exact Nat.le_of_ble_eq_true rfl | simp [Value.category, rf_cat]) dX2_digest_53 rfl (pc' := 56) rfl (fun v w hq => ?_)
          obtain ⟨rfl, rfl⟩ := hq
          dsimp only [Option.toList, List.cons_append, List.nil_append]
          refine ev_aload_n (pc' := 57) dX2_digest_56 rfl rfl ?_
          refine ev_iload_n (pc' := 58) dX2_digest_57 rfl rfl ?_
          refine ev_if_ne (tgt := 65) (pc' := 61) dX2_digest_58 (by decide) rfl (fun h58 => ?_) (fun h58 => ?_)
          · exact absurd hz' h58
          · refine ev_lconst (pc' := 62) (v := 0) dX2_digest_61 rfl (by decide) ?_
            refine ev_goto (pc' := 71) dX2_digest_62 (by decide) ?_
            refine ev_callV (As := [_]) coX2_mix 0 rfl rfl (c_mix _) rfl (by decide) (by first | exact Nat.le_of_ble_eq_true rfl | simp [Value.category, rf_cat]) dX2_digest_71 rfl (pc' := 74) rfl (fun v w hq => ?_)
            obtain ⟨rfl, rfl⟩ := hq
            dsimp only [Option.toList, List.cons_append, List.nil_append]
            refine tail _ (fun j => ?_)
            have K := K j
            unfold dgL dgN at K
            rw [if_pos hz, if_pos hz] at K
            exact K
      · have hz' : ¬ nI (ix S a) = 0 := fun q => hz ((ixz T ha).mp q)
        refine ev_aload_n (pc' := 27) dX2_digest_26 rfl rfl ?_
        refine ev_aload_n (pc' := 28) dX2_digest_27 rfl rfl ?_
        refine ev_get inX2 0 2 rfl rfl (by decide) flX2_number rfl (pc' := 31) dX2_digest_28 rfl ?_
        refine ev_iload_n (pc' := 32) dX2_digest_31 rfl rfl ?_
        refine ev_ialdN 1 rfl (by omega) (by decide) hr.1 (pc' := 33) dX2_digest_32 rfl ?_
        refine ev_i2l (pc' := 34) dX2_digest_33 rfl ?_
        refine ev_callV (As := [_]) coX2_mix 0 rfl rfl (c_mix _) rfl (by decide) (by first | exact Nat.le_of_ble_eq_true rfl | simp [Value.category, rf_cat]) dX2_digest_34 rfl (pc' := 37) rfl (fun v w hq => ?_)
        obtain ⟨rfl, rfl⟩ := hq
        dsimp only [Option.toList, List.cons_append, List.nil_append]
        refine ev_aload_n (pc' := 38) dX2_digest_37 rfl rfl ?_
        refine ev_iload_n (pc' := 39) dX2_digest_38 rfl rfl ?_
        refine ev_if_ne (tgt := 46) (pc' := 42) dX2_digest_39 (by decide) rfl (fun h39 => ?_) (fun h39 => ?_)
        · refine ev_aload_n (pc' := 47) dX2_digest_46 rfl rfl ?_
          refine ev_get inX2 0 3 rfl rfl (by decide) flX2_parent rfl (pc' := 50) dX2_digest_47 rfl ?_
          refine ev_iload_n (pc' := 51) dX2_digest_50 rfl rfl ?_
          refine ev_ialdN 2 rfl (by omega) (by decide) hr.2.1 (pc' := 52) dX2_digest_51 rfl ?_
          refine ev_i2l (pc' := 53) dX2_digest_52 rfl ?_
          refine ev_callV (As := [_]) coX2_mix 0 rfl rfl (c_mix _) rfl (by decide) (by first | exact Nat.le_of_ble_eq_true rfl | simp [Value.category, rf_cat]) dX2_digest_53 rfl (pc' := 56) rfl (fun v w hq => ?_)
          obtain ⟨rfl, rfl⟩ := hq
          dsimp only [Option.toList, List.cons_append, List.nil_append]
          refine ev_aload_n (pc' := 57) dX2_digest_56 rfl rfl ?_
          refine ev_iload_n (pc' := 58) dX2_digest_57 rfl rfl ?_
          refine ev_if_ne (tgt := 65) (pc' := 61) dX2_digest_58 (by decide) rfl (fun h58 => ?_) (fun h58 => ?_)
          · have ce := c_edit (g := g) (mo := mo) (mr := mr) (msh := msh) (mns := mns) (mhh := mx (mx h (nI a).toInt64) (oI (spa S a)).toInt64) T hR ha
            refine ev_aload_n (pc' := 66) dX2_digest_65 rfl rfl ?_
            refine ev_iload_n (pc' := 67) dX2_digest_66 rfl rfl ?_
            refine ev_callV (As := [_]) coX2_edit 0 rfl rfl (ce) rfl (by decide) (by first | exact Nat.le_of_ble_eq_true rfl | simp [Value.category, rf_cat]) dX2_digest_67 rfl (pc' := 70) rfl (fun v w hq => ?_)
            obtain ⟨rfl, rfl⟩ := hq
            dsimp only [Option.toList, List.cons_append, List.nil_append]
            refine ev_i2l (pc' := 71) dX2_digest_70 rfl ?_
            refine ev_callV (As := [_]) coX2_mix 0 rfl rfl (c_mix _) rfl (by decide) (by first | exact Nat.le_of_ble_eq_true rfl | simp [Value.category, rf_cat]) dX2_digest_71 rfl (pc' := 74) rfl (fun v w hq => ?_)
            obtain ⟨rfl, rfl⟩ := hq
            dsimp only [Option.toList, List.cons_append, List.nil_append]
            refine tail _ (fun j => ?_)
            have K := K j
            unfold dgL dgN at K
            rw [if_neg hz, if_neg hz] at K
            exact K
          · exact absurd h58 hz'
        · exact absurd h39 hz'
theorem dgm_loop (hR : RM S mnd mgv mcu mck mcl msh mhh mnu mpa mfa mti mpo mle mde msr mtl mtx mcp mmk mns) : ∀ (m k : Nat) (h : Int64), k + m = 5 → (∀ j, Ev g mdX2_digest 194 [some (.ref mo), some (.int (nI j)), none] [] (wM g mo mr mnd mgv mcu mck mcl msh (mxT (fun i => oI (smk S i)) m k h) mnu mpa mfa mti mpo mle mde msr mtl mtx mcp mmk mns) Ph) → Ev g mdX2_digest 172 [some (.ref mo), some (.int (nI k)), none] [] (wM g mo mr mnd mgv mcu mck mcl msh (h) mnu mpa mfa mti mpo mle mde msr mtl mtx mcp mmk mns) Ph := by
  intro m
  induction m with
  | zero =>
    intro k h hk K
    refine ev_iload_n (pc' := 173) dX2_digest_172 rfl rfl ?_
    refine ev_iconst (pc' := 174) (v := nI 5) dX2_digest_173 rfl (by decide) ?_
    refine ev_icmp_ge (tgt := 194) (pc' := 177) dX2_digest_174 (by decide) rfl (fun h174 => ?_) (fun h174 => ?_)
    · exact K k
    · exact absurd (nI_le (by omega) (by omega)) h174
  | succ m ih =>
    intro k h hk K
    refine ev_iload_n (pc' := 173) dX2_digest_172 rfl rfl ?_
    refine ev_iconst (pc' := 174) (v := nI 5) dX2_digest_173 rfl (by decide) ?_
    refine ev_icmp_ge (tgt := 194) (pc' := 177) dX2_digest_174 (by decide) rfl (fun h174 => ?_) (fun h174 => ?_)
    · exact absurd h174 (nI_ge (by omega) (by omega))
    · refine ev_aload_n (pc' := 178) dX2_digest_177 rfl rfl ?_
      refine ev_aload_n (pc' := 179) dX2_digest_178 rfl rfl ?_
      refine ev_get inX2 0 16 rfl rfl (by decide) flX2_mark rfl (pc' := 182) dX2_digest_179 rfl ?_
      refine ev_iload_n (pc' := 183) dX2_digest_182 rfl rfl ?_
      refine ev_ialdN 12 rfl (by omega) (by decide) (hR.2.2.2.2.2.2.2 k (by omega)) (pc' := 184) dX2_digest_183 rfl ?_
      refine ev_i2l (pc' := 185) dX2_digest_184 rfl ?_
      refine ev_callV (As := [_]) coX2_mix 0 rfl rfl (c_mix _) rfl (by decide) (by first | exact Nat.le_of_ble_eq_true rfl | simp [Value.category, rf_cat]) dX2_digest_185 rfl (pc' := 188) rfl (fun v w hq => ?_)
      obtain ⟨rfl, rfl⟩ := hq
      dsimp only [Option.toList, List.cons_append, List.nil_append]
      refine ev_iinc (pc' := 191) (lv' := [_, _, _]) dX2_digest_188 rfl rfl (nI_1 _) (by decide) (by intro w hw; first | exact Or.inl rfl | (right; have hw := Option.some.inj (Option.some.inj hw); subst hw; first | rfl | exact rf_cat _) | cases hw) rfl ?_
      refine ev_goto (pc' := 172) dX2_digest_191 (by decide) ?_
      exact ih (k + 1) _ (by omega) K
theorem dgc_loop (hR : RM S mnd mgv mcu mck mcl msh mhh mnu mpa mfa mti mpo mle mde msr mtl mtx mcp mmk mns) (hc : scl S ≤ 6) : ∀ (m k : Nat) (h : Int64), k + m = scl S → (∀ j, Ev g mdX2_digest 239 [some (.ref mo), some (.int (nI j)), none] [] (wM g mo mr mnd mgv mcu mck mcl msh (mxT (scp S) m k h) mnu mpa mfa mti mpo mle mde msr mtl mtx mcp mmk mns) Ph) → Ev g mdX2_digest 214 [some (.ref mo), some (.int (nI k)), none] [] (wM g mo mr mnd mgv mcu mck mcl msh (h) mnu mpa mfa mti mpo mle mde msr mtl mtx mcp mmk mns) Ph := by
  intro m
  have e4 := hR.2.2.2.2.1
  induction m with
  | zero =>
    intro k h hk K
    refine ev_iload_n (pc' := 215) dX2_digest_214 rfl rfl ?_
    refine ev_aload_n (pc' := 216) dX2_digest_215 rfl rfl ?_
    refine ev_get inX2 0 14 rfl rfl (by decide) flX2_clipLength rfl (pc' := 219) dX2_digest_216 rfl ?_
    refine ev_icmp_ge (tgt := 239) (pc' := 222) dX2_digest_219 (by decide) rfl (fun h219 => ?_) (fun h219 => ?_)
    · exact K k
    · rw [e4] at h219
      exact absurd (nI_le (by omega) (by omega)) h219
  | succ m ih =>
    intro k h hk K
    refine ev_iload_n (pc' := 215) dX2_digest_214 rfl rfl ?_
    refine ev_aload_n (pc' := 216) dX2_digest_215 rfl rfl ?_
    refine ev_get inX2 0 14 rfl rfl (by decide) flX2_clipLength rfl (pc' := 219) dX2_digest_216 rfl ?_
    refine ev_icmp_ge (tgt := 239) (pc' := 222) dX2_digest_219 (by decide) rfl (fun h219 => ?_) (fun h219 => ?_)
    · rw [e4] at h219
      exact absurd h219 (nI_ge (by omega) (by omega))
    · refine ev_aload_n (pc' := 223) dX2_digest_222 rfl rfl ?_
      refine ev_aload_n (pc' := 224) dX2_digest_223 rfl rfl ?_
      refine ev_get inX2 0 15 rfl rfl (by decide) flX2_clip rfl (pc' := 227) dX2_digest_224 rfl ?_
      refine ev_iload_n (pc' := 228) dX2_digest_227 rfl rfl ?_
      refine ev_ialdN 11 rfl (by omega) (by decide) (hR.2.2.2.2.2.2.1 k (by omega)) (pc' := 229) dX2_digest_228 rfl ?_
      refine ev_i2l (pc' := 230) dX2_digest_229 rfl ?_
      refine ev_callV (As := [_]) coX2_mix 0 rfl rfl (c_mix _) rfl (by decide) (by first | exact Nat.le_of_ble_eq_true rfl | simp [Value.category, rf_cat]) dX2_digest_230 rfl (pc' := 233) rfl (fun v w hq => ?_)
      obtain ⟨rfl, rfl⟩ := hq
      dsimp only [Option.toList, List.cons_append, List.nil_append]
      refine ev_iinc (pc' := 236) (lv' := [_, _, _]) dX2_digest_233 rfl rfl (nI_1 _) (by decide) (by intro w hw; first | exact Or.inl rfl | (right; have hw := Option.some.inj (Option.some.inj hw); subst hw; first | rfl | exact rf_cat _) | cases hw) rfl ?_
      refine ev_goto (pc' := 214) dX2_digest_236 (by decide) ?_
      exact ih (k + 1) _ (by omega) K
theorem c_mdigest (I : Inv N S) (hR : RM S mnd mgv mcu mck mcl msh mhh mnu mpa mfa mti mpo mle mde msr mtl mtx mcp mmk mns) : Ret g mdX2_digest [.ref mo] (wM g mo mr mnd mgv mcu mck mcl msh mhh mnu mpa mfa mti mpo mle mde msr mtl mtx mcp mmk mns) (fun r w => r = some (.long (dig S)) ∧ isM g mo mr S w) := by
  refine Ret.of [_, _, _] 2 (by decide) (Nat.le_of_ble_eq_true rfl) rfl ?_
  have T := I.T
  have hkc := ix_lt T I.cu
  obtain ⟨rfl, e2, rfl, rfl, rfl, hR'⟩ := id hR
  refine ev_aload_n (pc' := 1) dX2_digest_0 rfl rfl ?_
  refine ev_ldc2 (pc' := 4) clX2_147 dX2_digest_1 rfl ?_
  refine pX2_h rfl (pc' := 7) dX2_digest_4 rfl ?_
  refine ev_aload_n (pc' := 8) dX2_digest_7 rfl rfl ?_
  refine ev_aload_n (pc' := 9) dX2_digest_8 rfl rfl ?_
  refine ev_get inX2 0 0 rfl rfl (by decide) flX2_nodes rfl (pc' := 12) dX2_digest_9 rfl ?_
  refine ev_i2l (pc' := 13) dX2_digest_12 rfl ?_
  refine ev_callV (As := [_]) coX2_mix 0 rfl rfl (c_mix _) rfl (by decide) (by first | exact Nat.le_of_ble_eq_true rfl | simp [Value.category, rf_cat]) dX2_digest_13 rfl (pc' := 16) rfl (fun v w hq => ?_)
  obtain ⟨rfl, rfl⟩ := hq
  dsimp only [Option.toList, List.cons_append, List.nil_append]
  refine ev_iconst (pc' := 17) (v := nI 0) dX2_digest_16 rfl (by decide) ?_
  refine ev_istore_n (pc' := 18) (lv' := [_, _, _]) dX2_digest_17 rfl (by decide) (by intro w hw; first | exact Or.inl rfl | (right; have hw := Option.some.inj (Option.some.inj hw); subst hw; first | rfl | exact rf_cat _) | cases hw) rfl ?_
  refine dgn_loop I hR (sL S).length 0 _ (by omega) (fun j => ?_)
  have co := fun x => c_oldest (g := g) (mo := mo) (mr := mr) (msh := msh) (mns := mns) (mhh := x) I hR
  refine ev_aload_n (pc' := 148) dX2_digest_147 rfl rfl ?_
  refine ev_aload_n (pc' := 149) dX2_digest_148 rfl rfl ?_
  refine ev_get inX2 0 2 rfl rfl (by decide) flX2_number rfl (pc' := 152) dX2_digest_149 rfl ?_
  refine ev_aload_n (pc' := 153) dX2_digest_152 rfl rfl ?_
  refine ev_get inX2 0 12 rfl rfl (by decide) flX2_current rfl (pc' := 156) dX2_digest_153 rfl ?_
  refine ev_ialdN 1 rfl (by omega) (by decide) (RM.row hR I.cu).1 (pc' := 157) dX2_digest_156 rfl ?_
  refine ev_i2l (pc' := 158) dX2_digest_157 rfl ?_
  refine ev_callV (As := [_]) coX2_mix 0 rfl rfl (c_mix _) rfl (by decide) (by first | exact Nat.le_of_ble_eq_true rfl | simp [Value.category, rf_cat]) dX2_digest_158 rfl (pc' := 161) rfl (fun v w hq => ?_)
  obtain ⟨rfl, rfl⟩ := hq
  dsimp only [Option.toList, List.cons_append, List.nil_append]
  refine ev_aload_n (pc' := 162) dX2_digest_161 rfl rfl ?_
  refine ev_aload_n (pc' := 163) dX2_digest_162 rfl rfl ?_
  refine ev_callV (As := []) coX2_oldest 0 rfl rfl (co _) rfl (by decide) (by first | exact Nat.le_of_ble_eq_true rfl | simp [Value.category, rf_cat]) dX2_digest_163 rfl (pc' := 166) rfl (fun v w hq => ?_)
  obtain ⟨rfl, rfl⟩ := hq
  dsimp only [Option.toList, List.cons_append, List.nil_append]
  refine ev_i2l (pc' := 167) dX2_digest_166 rfl ?_
  refine ev_callV (As := [_]) coX2_mix 0 rfl rfl (c_mix _) rfl (by decide) (by first | exact Nat.le_of_ble_eq_true rfl | simp [Value.category, rf_cat]) dX2_digest_167 rfl (pc' := 170) rfl (fun v w hq => ?_)
  obtain ⟨rfl, rfl⟩ := hq
  dsimp only [Option.toList, List.cons_append, List.nil_append]
  refine ev_iconst (pc' := 171) (v := nI 0) dX2_digest_170 rfl (by decide) ?_
  refine ev_istore_n (pc' := 172) (lv' := [_, _, _]) dX2_digest_171 rfl (by decide) (by intro w hw; first | exact Or.inl rfl | (right; have hw := Option.some.inj (Option.some.inj hw); subst hw; first | rfl | exact rf_cat _) | cases hw) rfl ?_
  refine dgm_loop hR 5 0 _ (by omega) (fun j => ?_)
  refine ev_aload_n (pc' := 195) dX2_digest_194 rfl rfl ?_
  refine ev_aload_n (pc' := 196) dX2_digest_195 rfl rfl ?_
  refine ev_get inX2 0 13 rfl rfl (by decide) flX2_clock rfl (pc' := 199) dX2_digest_196 rfl ?_
  refine ev_i2l (pc' := 200) dX2_digest_199 rfl ?_
  refine ev_callV (As := [_]) coX2_mix 0 rfl rfl (c_mix _) rfl (by decide) (by first | exact Nat.le_of_ble_eq_true rfl | simp [Value.category, rf_cat]) dX2_digest_200 rfl (pc' := 203) rfl (fun v w hq => ?_)
  obtain ⟨rfl, rfl⟩ := hq
  dsimp only [Option.toList, List.cons_append, List.nil_append]
  refine ev_aload_n (pc' := 204) dX2_digest_203 rfl rfl ?_
  refine ev_aload_n (pc' := 205) dX2_digest_204 rfl rfl ?_
  refine ev_get inX2 0 14 rfl rfl (by decide) flX2_clipLength rfl (pc' := 208) dX2_digest_205 rfl ?_
  refine ev_i2l (pc' := 209) dX2_digest_208 rfl ?_
  refine ev_callV (As := [_]) coX2_mix 0 rfl rfl (c_mix _) rfl (by decide) (by first | exact Nat.le_of_ble_eq_true rfl | simp [Value.category, rf_cat]) dX2_digest_209 rfl (pc' := 212) rfl (fun v w hq => ?_)
  obtain ⟨rfl, rfl⟩ := hq
  dsimp only [Option.toList, List.cons_append, List.nil_append]
  refine ev_iconst (pc' := 213) (v := nI 0) dX2_digest_212 rfl (by decide) ?_
  refine ev_istore_n (pc' := 214) (lv' := [_, _, _]) dX2_digest_213 rfl (by decide) (by intro w hw; first | exact Or.inl rfl | (right; have hw := Option.some.inj (Option.some.inj hw); subst hw; first | rfl | exact rf_cat _) | cases hw) rfl ?_
  refine dgc_loop hR I.cl (scl S) 0 _ (by omega) (fun j => ?_)
  refine ev_aload_n (pc' := 240) dX2_digest_239 rfl rfl ?_
  refine ev_get inX2 0 19 rfl rfl (by decide) flX2_h rfl (pc' := 243) dX2_digest_240 rfl ?_
  refine ev_lret rfl dX2_digest_243 ?_
  exact ⟨rfl, isM.of hR⟩
end M8
end
section
/-! ===== the reference's methods: a new node ===== -/
section M9
variable {g : EG} {mo : Nat} {mr : Nat → Nat} {mnd mgv mcu mck mcl msh : Int32} {mhh : Int64} {mnu mpa mfa mti mpo mle mde msr mtl mtx mcp mmk mns : Nat → Int32}
variable {S : SS} {N : Nat} {Ph : Option Value → va_W → Prop}
theorem gs_loop (f0 : Nat → Int32) {L n : Nat} (hL : L < 24) (hn : n ≤ 6) (P B : Int32) : ∀ (m i : Nat) (msr : Nat → Int32), i + m = n → (∀ j, j < 6 * L → msr j = f0 j) → (∀ j, j < i → msr (6 * L + j) = mns j) → (∀ msr : Nat → Int32, (∀ j, j < 6 * L → msr j = f0 j) → (∀ j, j < n → msr (6 * L + j) = mns j) → Ev g mdX2_grow 111 [some (.ref mo), some (.int P), some (.int (nI n)), some (.int B), some (.int (nI L)), none, none, none] [] (wM g mo mr mnd mgv mcu mck mcl msh mhh mnu mpa mfa mti mpo mle mde msr mtl mtx mcp mmk mns) Ph) → Ev g mdX2_grow 79 [some (.ref mo), some (.int P), some (.int (nI n)), some (.int B), some (.int (nI L)), some (.int (nI i)), none, none] [] (wM g mo mr mnd mgv mcu mck mcl msh mhh mnu mpa mfa mti mpo mle mde msr mtl mtx mcp mmk mns) Ph := by
  intro m
  induction m with
  | zero =>
    intro i msr hi h1 h2 K
    refine ev_iload (pc' := 81) dX2_grow_79 rfl rfl ?_
    refine ev_iload_n (pc' := 82) dX2_grow_81 rfl rfl ?_
    refine ev_icmp_ge (tgt := 111) (pc' := 85) dX2_grow_82 (by decide) rfl (fun h82 => ?_) (fun h82 => ?_)
    · exact Ev.weak [some (.ref mo), some (.int P), some (.int (nI n)), some (.int B), some (.int (nI L)), none, none, none] (lw_le_get _ _ (by simp [lw_le])) (K msr h1 (fun j hj => h2 j (by omega)))
    · exact absurd (nI_le (by omega) (by omega)) h82
  | succ m ih =>
    intro i msr hi h1 h2 K
    refine ev_iload (pc' := 81) dX2_grow_79 rfl rfl ?_
    refine ev_iload_n (pc' := 82) dX2_grow_81 rfl rfl ?_
    refine ev_icmp_ge (tgt := 111) (pc' := 85) dX2_grow_82 (by decide) rfl (fun h82 => ?_) (fun h82 => ?_)
    · exact absurd h82 (nI_ge (by omega) (by omega))
    · refine ev_aload_n (pc' := 86) dX2_grow_85 rfl rfl ?_
      refine ev_get inX2 0 9 rfl rfl (by decide) flX2_string rfl (pc' := 89) dX2_grow_86 rfl ?_
      refine ev_bipush (pc' := 91) (v := nI 6) dX2_grow_89 rfl (by decide) ?_
      refine ev_iload (pc' := 93) dX2_grow_91 rfl rfl ?_
      refine ev_imul (pc' := 94) dX2_grow_93 rfl ?_
      refine ev_iload (pc' := 96) dX2_grow_94 rfl rfl ?_
      refine ev_iadd (pc' := 97) dX2_grow_96 rfl ?_
      rw [pk_mul, nI_add]
      refine ev_aload_n (pc' := 98) dX2_grow_97 rfl rfl ?_
      refine ev_get inX2 0 17 rfl rfl (by decide) flX2_newString rfl (pc' := 101) dX2_grow_98 rfl ?_
      refine ev_iload (pc' := 103) dX2_grow_101 rfl rfl ?_
      refine ev_ialdN 13 rfl (by omega) (by decide) rfl (pc' := 104) dX2_grow_103 rfl ?_
      refine ev_iastN 8 rfl (by omega) (by decide) (pc' := 105) dX2_grow_104 rfl (ws' := wM _ _ _ _ _ _ _ _ _ _ _ _ _ _ _ _ _ _ _ _ _ _ _) rfl ?_
      refine ev_iinc (pc' := 108) (lv' := [_, _, _, _, _, _, _, _]) dX2_grow_105 rfl rfl (nI_1 _) (by decide) (by intro w hw; first | exact Or.inl rfl | (right; have hw := Option.some.inj (Option.some.inj hw); subst hw; first | rfl | exact rf_cat _) | cases hw) rfl ?_
      refine ev_goto (pc' := 79) dX2_grow_108 (by decide) ?_
      refine ih (i + 1) _ (by omega) (fun j hj => ?_) (fun j hj => ?_) K
      · rw [pk_un (by omega)]; exact h1 j hj
      · by_cases q : j = i
        · rw [q, pk_us]
        · rw [pk_un (by omega)]; exact h2 j (by omega)
theorem gd_loop (f0 : Nat → Int32) {L C n p tl : Nat} (hL : L < 24) (hC : C < L) (hn : n ≤ 6) (htl : tl + n ≤ 40) (hmt : mtl L = nI tl) (O : Int32) : ∀ (m i : Nat) (mtx : Nat → Int32), i + m = tl → (∀ j, j < 40 * L → mtx j = f0 j) → (∀ j, j < i → mtx (40 * L + j) = f0 (40 * C + (if j < p then j else j + n))) → (∀ mtx : Nat → Int32, (∀ j, j < 40 * L → mtx j = f0 j) → (∀ j, j < tl → mtx (40 * L + j) = f0 (40 * C + (if j < p then j else j + n))) → Ev g mdX2_grow 284 [some (.ref mo), some (.int (nI p)), some (.int (nI n)), some (.int (nI 1)), some (.int (nI L)), none, none, none] [] (wM g mo mr mnd mgv (nI C) mck mcl msh mhh mnu mpa mfa mti mpo mle mde msr mtl mtx mcp mmk mns) Ph) → p < 2 ^ 31 → Ev g mdX2_grow 147 [some (.ref mo), some (.int (nI p)), some (.int (nI n)), some (.int (nI 1)), some (.int (nI L)), some (.int O), some (.int (nI i)), none] [] (wM g mo mr mnd mgv (nI C) mck mcl msh mhh mnu mpa mfa mti mpo mle mde msr mtl mtx mcp mmk mns) Ph := by
  intro m
  induction m with
  | zero =>
    intro i mtx hi h1 h2 K hp
    refine ev_iload (pc' := 149) dX2_grow_147 rfl rfl ?_
    refine ev_aload_n (pc' := 150) dX2_grow_149 rfl rfl ?_
    refine ev_get inX2 0 10 rfl rfl (by decide) flX2_textLength rfl (pc' := 153) dX2_grow_150 rfl ?_
    refine ev_iload (pc' := 155) dX2_grow_153 rfl rfl ?_
    refine ev_ialdN 9 rfl (by omega) (by decide) hmt (pc' := 156) dX2_grow_155 rfl ?_
    refine ev_icmp_ge (tgt := 284) (pc' := 159) dX2_grow_156 (by decide) rfl (fun h156 => ?_) (fun h156 => ?_)
    · exact Ev.weak [some (.ref mo), some (.int (nI p)), some (.int (nI n)), some (.int (nI 1)), some (.int (nI L)), none, none, none] (lw_le_get _ _ (by simp [lw_le])) (K mtx h1 (fun j hj => h2 j (by omega)))
    · exact absurd (nI_le (by omega) (by omega)) h156
  | succ m ih =>
    intro i mtx hi h1 h2 K hp
    have fin : ∀ v : Int32, v = f0 (40 * C + (if i < p then i else i + n)) → Ev g mdX2_grow 203 [some (.ref mo), some (.int (nI p)), some (.int (nI n)), some (.int (nI 1)), some (.int (nI L)), some (.int O), some (.int (nI i)), none] [.int v, .int (nI (40 * L + i)), .ref (mr 9)] (wM g mo mr mnd mgv (nI C) mck mcl msh mhh mnu mpa mfa mti mpo mle mde msr mtl mtx mcp mmk mns) Ph := by
      intro v hv
      refine ev_iastN 10 rfl (by omega) (by decide) (pc' := 204) dX2_grow_203 rfl (ws' := wM _ _ _ _ _ _ _ _ _ _ _ _ _ _ _ _ _ _ _ _ _ _ _) rfl ?_
      refine ev_goto (pc' := 278) dX2_grow_204 (by decide) ?_
      refine ev_iinc (pc' := 281) (lv' := [_, _, _, _, _, _, _, _]) dX2_grow_278 rfl rfl (nI_1 _) (by decide) (by intro w hw; first | exact Or.inl rfl | (right; have hw := Option.some.inj (Option.some.inj hw); subst hw; first | rfl | exact rf_cat _) | cases hw) rfl ?_
      refine ev_goto (pc' := 147) dX2_grow_281 (by decide) ?_
      refine ih (i + 1) _ (by omega) (fun j hj => ?_) (fun j hj => ?_) K hp
      · rw [pk_un (by omega)]; exact h1 j hj
      · by_cases q : j = i
        · rw [q, pk_us]; exact hv
        · rw [pk_un (by omega)]; exact h2 j (by omega)
    refine ev_iload (pc' := 149) dX2_grow_147 rfl rfl ?_
    refine ev_aload_n (pc' := 150) dX2_grow_149 rfl rfl ?_
    refine ev_get inX2 0 10 rfl rfl (by decide) flX2_textLength rfl (pc' := 153) dX2_grow_150 rfl ?_
    refine ev_iload (pc' := 155) dX2_grow_153 rfl rfl ?_
    refine ev_ialdN 9 rfl (by omega) (by decide) hmt (pc' := 156) dX2_grow_155 rfl ?_
    refine ev_icmp_ge (tgt := 284) (pc' := 159) dX2_grow_156 (by decide) rfl (fun h156 => ?_) (fun h156 => ?_)
    · exact absurd h156 (nI_ge (by omega) (by omega))
    · refine ev_iload_n (pc' := 160) dX2_grow_159 rfl rfl ?_
      refine ev_if_eq (tgt := 207) (pc' := 163) dX2_grow_160 (by decide) rfl (fun h160 => ?_) (fun h160 => ?_)
      · exact absurd h160 (by decide)
      · refine ev_aload_n (pc' := 164) dX2_grow_163 rfl rfl ?_
        refine ev_get inX2 0 11 rfl rfl (by decide) flX2_text rfl (pc' := 167) dX2_grow_164 rfl ?_
        refine ev_bipush (pc' := 169) (v := nI 40) dX2_grow_167 rfl (by decide) ?_
        refine ev_iload (pc' := 171) dX2_grow_169 rfl rfl ?_
        refine ev_imul (pc' := 172) dX2_grow_171 rfl ?_
        refine ev_iload (pc' := 174) dX2_grow_172 rfl rfl ?_
        refine ev_iadd (pc' := 175) dX2_grow_174 rfl ?_
        rw [pk_mul, nI_add]
        refine ev_aload_n (pc' := 176) dX2_grow_175 rfl rfl ?_
        refine ev_get inX2 0 11 rfl rfl (by decide) flX2_text rfl (pc' := 179) dX2_grow_176 rfl ?_
        refine ev_bipush (pc' := 181) (v := nI 40) dX2_grow_179 rfl (by decide) ?_
        refine ev_aload_n (pc' := 182) dX2_grow_181 rfl rfl ?_
        refine ev_get inX2 0 12 rfl rfl (by decide) flX2_current rfl (pc' := 185) dX2_grow_182 rfl ?_
        refine ev_imul (pc' := 186) dX2_grow_185 rfl ?_
        rw [pk_mul]
        refine ev_iload (pc' := 188) dX2_grow_186 rfl rfl ?_
        refine ev_iload_n (pc' := 189) dX2_grow_188 rfl rfl ?_
        refine ev_icmp_ge (tgt := 197) (pc' := 192) dX2_grow_189 (by decide) rfl (fun h189 => ?_) (fun h189 => ?_)
        · have q : ¬ i < p := fun q => nI_ge q (by omega) h189
          refine ev_iload (pc' := 199) dX2_grow_197 rfl rfl ?_
          refine ev_iload_n (pc' := 200) dX2_grow_199 rfl rfl ?_
          refine ev_iadd (pc' := 201) dX2_grow_200 rfl ?_
          refine ev_iadd (pc' := 202) dX2_grow_201 rfl ?_
          rw [nI_add, nI_add]
          refine ev_ialdN 10 rfl (by omega) (by decide) rfl (pc' := 203) dX2_grow_202 rfl ?_
          exact fin _ (by rw [h1 _ (by omega), if_neg q])
        · have q : i < p := by
            rcases Nat.lt_or_ge i p with q | q
            · exact q
            · exact absurd (nI_le q (by omega)) h189
          refine ev_iload (pc' := 194) dX2_grow_192 rfl rfl ?_
          refine ev_goto (pc' := 201) dX2_grow_194 (by decide) ?_
          refine ev_iadd (pc' := 202) dX2_grow_201 rfl ?_
          rw [nI_add]
          refine ev_ialdN 10 rfl (by omega) (by decide) rfl (pc' := 203) dX2_grow_202 rfl ?_
          exact fin _ (by rw [h1 _ (by omega), if_pos q])
theorem gi_loop (f0 : Nat → Int32) {L C n p tl : Nat} (hL : L < 24) (hC : C < L) (hn1 : 1 ≤ n) (hn : n ≤ 6) (htl : tl ≤ 40) (hp : p + n ≤ tl) (hmt : mtl L = nI tl) (O : Int32) : ∀ (m i : Nat) (mtx : Nat → Int32), i + m = tl → (∀ j, j < 40 * L → mtx j = f0 j) → (∀ j, j < i → mtx (40 * L + j) = (if j < p then f0 (40 * C + j) else if j < p + n then mns (j - p) else f0 (40 * C + (j - n)))) → (∀ mtx : Nat → Int32, (∀ j, j < 40 * L → mtx j = f0 j) → (∀ j, j < tl → mtx (40 * L + j) = (if j < p then f0 (40 * C + j) else if j < p + n then mns (j - p) else f0 (40 * C + (j - n)))) → Ev g mdX2_grow 284 [some (.ref mo), some (.int (nI p)), some (.int (nI n)), some (.int (nI 0)), some (.int (nI L)), none, none, none] [] (wM g mo mr mnd mgv (nI C) mck mcl msh mhh mnu mpa mfa mti mpo mle mde msr mtl mtx mcp mmk mns) Ph) → Ev g mdX2_grow 147 [some (.ref mo), some (.int (nI p)), some (.int (nI n)), some (.int (nI 0)), some (.int (nI L)), some (.int O), some (.int (nI i)), none] [] (wM g mo mr mnd mgv (nI C) mck mcl msh mhh mnu mpa mfa mti mpo mle mde msr mtl mtx mcp mmk mns) Ph := by
  intro m
  induction m with
  | zero =>
    intro i mtx hi h1 h2 K
    refine ev_iload (pc' := 149) dX2_grow_147 rfl rfl ?_
    refine ev_aload_n (pc' := 150) dX2_grow_149 rfl rfl ?_
    refine ev_get inX2 0 10 rfl rfl (by decide) flX2_textLength rfl (pc' := 153) dX2_grow_150 rfl ?_
    refine ev_iload (pc' := 155) dX2_grow_153 rfl rfl ?_
    refine ev_ialdN 9 rfl (by omega) (by decide) hmt (pc' := 156) dX2_grow_155 rfl ?_
    refine ev_icmp_ge (tgt := 284) (pc' := 159) dX2_grow_156 (by decide) rfl (fun h156 => ?_) (fun h156 => ?_)
    · exact Ev.weak [some (.ref mo), some (.int (nI p)), some (.int (nI n)), some (.int (nI 0)), some (.int (nI L)), none, none, none] (lw_le_get _ _ (by simp [lw_le])) (K mtx h1 (fun j hj => h2 j (by omega)))
    · exact absurd (nI_le (by omega) (by omega)) h156
  | succ m ih =>
    intro i mtx hi h1 h2 K
    have fin : ∀ (v x7 : Int32), v = (if i < p then f0 (40 * C + i) else if i < p + n then mns (i - p) else f0 (40 * C + (i - n))) → Ev g mdX2_grow 277 [some (.ref mo), some (.int (nI p)), some (.int (nI n)), some (.int (nI 0)), some (.int (nI L)), some (.int O), some (.int (nI i)), some (.int x7)] [.int v, .int (nI (40 * L + i)), .ref (mr 9)] (wM g mo mr mnd mgv (nI C) mck mcl msh mhh mnu mpa mfa mti mpo mle mde msr mtl mtx mcp mmk mns) Ph := by
      intro v x7 hv
      refine ev_iastN 10 rfl (by omega) (by decide) (pc' := 278) dX2_grow_277 rfl (ws' := wM _ _ _ _ _ _ _ _ _ _ _ _ _ _ _ _ _ _ _ _ _ _ _) rfl ?_
      refine ev_iinc (pc' := 281) (lv' := [_, _, _, _, _, _, _, _]) dX2_grow_278 rfl rfl (nI_1 _) (by decide) (by intro w hw; first | exact Or.inl rfl | (right; have hw := Option.some.inj (Option.some.inj hw); subst hw; first | rfl | exact rf_cat _) | cases hw) rfl ?_
      refine ev_goto (pc' := 147) dX2_grow_281 (by decide) ?_
      refine Ev.weak [some (.ref mo), some (.int (nI p)), some (.int (nI n)), some (.int (nI 0)), some (.int (nI L)), some (.int O), some (.int (nI (i + 1))), none] (lw_le_get _ _ (by simp [lw_le])) ?_
      refine ih (i + 1) _ (by omega) (fun j hj => ?_) (fun j hj => ?_) K
      · rw [pk_un (by omega)]; exact h1 j hj
      · by_cases q : j = i
        · rw [q, pk_us]; exact hv
        · rw [pk_un (by omega)]; exact h2 j (by omega)
    refine ev_iload (pc' := 149) dX2_grow_147 rfl rfl ?_
    refine ev_aload_n (pc' := 150) dX2_grow_149 rfl rfl ?_
    refine ev_get inX2 0 10 rfl rfl (by decide) flX2_textLength rfl (pc' := 153) dX2_grow_150 rfl ?_
    refine ev_iload (pc' := 155) dX2_grow_153 rfl rfl ?_
    refine ev_ialdN 9 rfl (by omega) (by decide) hmt (pc' := 156) dX2_grow_155 rfl ?_
    refine ev_icmp_ge (tgt := 284) (pc' := 159) dX2_grow_156 (by decide) rfl (fun h156 => ?_) (fun h156 => ?_)
    · exact absurd h156 (nI_ge (by omega) (by omega))
    · refine ev_iload_n (pc' := 160) dX2_grow_159 rfl rfl ?_
      refine ev_if_eq (tgt := 207) (pc' := 163) dX2_grow_160 (by decide) rfl (fun h160 => ?_) (fun h160 => ?_)
      · refine ev_iload (pc' := 209) dX2_grow_207 rfl rfl ?_
        refine ev_iload_n (pc' := 210) dX2_grow_209 rfl rfl ?_
        refine ev_iload_n (pc' := 211) dX2_grow_210 rfl rfl ?_
        refine ev_iload_n (pc' := 212) dX2_grow_211 rfl rfl ?_
        refine ev_iadd (pc' := 213) dX2_grow_212 rfl ?_
        refine ev_iconst (pc' := 214) (v := nI 1) dX2_grow_213 rfl (by decide) ?_
        refine ev_isub (pc' := 215) dX2_grow_214 rfl ?_
        rw [nI_add, pk_sub (by omega)]
        have key : (nI p ≤ nI i ∧ nI i ≤ nI (p + n - 1)) ↔ (p ≤ i ∧ i < p + n) := by
          rw [nI_leI (by omega) (by omega), nI_leI (by omega) (by omega)]
          omega
        refine ev_callS (As := [_, _, _]) coX2_within (c_within _ _ _ _) rfl (by decide) (by first | exact Nat.le_of_ble_eq_true rfl | simp [Value.category, rf_cat]) dX2_grow_215 rfl (pc' := 218) rfl (fun v w hq => ?_)
        obtain ⟨rfl, rfl⟩ := hq
        dsimp only [Option.toList, List.cons_append, List.nil_append]
        refine ev_istore (pc' := 220) (lv' := [_, _, _, _, _, _, _, _]) dX2_grow_218 rfl (by decide) (by intro w hw; first | exact Or.inl rfl | (right; have hw := Option.some.inj (Option.some.inj hw); subst hw; first | rfl | exact rf_cat _) | cases hw) rfl ?_
        refine ev_aload_n (pc' := 221) dX2_grow_220 rfl rfl ?_
        refine ev_get inX2 0 11 rfl rfl (by decide) flX2_text rfl (pc' := 224) dX2_grow_221 rfl ?_
        refine ev_bipush (pc' := 226) (v := nI 40) dX2_grow_224 rfl (by decide) ?_
        refine ev_iload (pc' := 228) dX2_grow_226 rfl rfl ?_
        refine ev_imul (pc' := 229) dX2_grow_228 rfl ?_
        refine ev_iload (pc' := 231) dX2_grow_229 rfl rfl ?_
        refine ev_iadd (pc' := 232) dX2_grow_231 rfl ?_
        rw [pk_mul, nI_add]
        refine ev_iload (pc' := 234) dX2_grow_232 rfl rfl ?_
        refine ev_if_eq (tgt := 249) (pc' := 237) dX2_grow_234 (by decide) rfl (fun h234 => ?_) (fun h234 => ?_)
        · rw [bI_eq, decide_eq_false_iff_not, key] at h234
          refine ev_aload_n (pc' := 250) dX2_grow_249 rfl rfl ?_
          refine ev_get inX2 0 11 rfl rfl (by decide) flX2_text rfl (pc' := 253) dX2_grow_250 rfl ?_
          refine ev_bipush (pc' := 255) (v := nI 40) dX2_grow_253 rfl (by decide) ?_
          refine ev_aload_n (pc' := 256) dX2_grow_255 rfl rfl ?_
          refine ev_get inX2 0 12 rfl rfl (by decide) flX2_current rfl (pc' := 259) dX2_grow_256 rfl ?_
          refine ev_imul (pc' := 260) dX2_grow_259 rfl ?_
          rw [pk_mul]
          refine ev_iload (pc' := 262) dX2_grow_260 rfl rfl ?_
          refine ev_iload_n (pc' := 263) dX2_grow_262 rfl rfl ?_
          refine ev_icmp_ge (tgt := 271) (pc' := 266) dX2_grow_263 (by decide) rfl (fun h263 => ?_) (fun h263 => ?_)
          · have q : ¬ i < p := fun q => nI_ge q (by omega) h263
            refine ev_iload (pc' := 273) dX2_grow_271 rfl rfl ?_
            refine ev_iload_n (pc' := 274) dX2_grow_273 rfl rfl ?_
            refine ev_isub (pc' := 275) dX2_grow_274 rfl ?_
            rw [pk_sub (by omega)]
            refine ev_iadd (pc' := 276) dX2_grow_275 rfl ?_
            rw [nI_add]
            refine ev_ialdN 10 rfl (by omega) (by decide) rfl (pc' := 277) dX2_grow_276 rfl ?_
            exact fin _ _ (by rw [h1 _ (by omega), if_neg q, if_neg (by omega)])
          · have q : i < p := by
              rcases Nat.lt_or_ge i p with q | q
              · exact q
              · exact absurd (nI_le q (by omega)) h263
            refine ev_iload (pc' := 268) dX2_grow_266 rfl rfl ?_
            refine ev_goto (pc' := 275) dX2_grow_268 (by decide) ?_
            refine ev_iadd (pc' := 276) dX2_grow_275 rfl ?_
            rw [nI_add]
            refine ev_ialdN 10 rfl (by omega) (by decide) rfl (pc' := 277) dX2_grow_276 rfl ?_
            exact fin _ _ (by rw [h1 _ (by omega), if_pos q])
        · rw [bI_ne, decide_eq_true_eq, key] at h234
          refine ev_aload_n (pc' := 238) dX2_grow_237 rfl rfl ?_
          refine ev_get inX2 0 17 rfl rfl (by decide) flX2_newString rfl (pc' := 241) dX2_grow_238 rfl ?_
          refine ev_iload (pc' := 243) dX2_grow_241 rfl rfl ?_
          refine ev_iload_n (pc' := 244) dX2_grow_243 rfl rfl ?_
          refine ev_isub (pc' := 245) dX2_grow_244 rfl ?_
          rw [pk_sub (by omega)]
          refine ev_ialdN 13 rfl (by omega) (by decide) rfl (pc' := 246) dX2_grow_245 rfl ?_
          refine ev_goto (pc' := 277) dX2_grow_246 (by decide) ?_
          exact fin _ _ (by rw [if_neg (by omega), if_pos h234.2])
      · exact absurd rfl h160
end M9
end
section
/-! ===== the reference's methods: insert, delete ===== -/
section M10
variable {g : EG} {mo : Nat} {mr : Nat → Nat} {mnd mgv mcu mck mcl msh : Int32} {mhh : Int64} {mnu mpa mfa mti mpo mle mde msr mtl mtx mcp mmk mns : Nat → Int32}
variable {S : SS} {N : Nat} {Ph : Option Value → va_W → Prop}
theorem RM.addN (T : Tree S) (hR : RM S mnd mgv mcu mck mcl msh mhh mnu mpa mfa mti mpo mle mde msr mtl mtx mcp mmk mns) (ht : ∀ a ∈ sL S, stl S a ≤ 40) (hle : ∀ a ∈ sL S, sle S a ≤ 6) {p n t : Nat} {d : Bool} {s msr' mtx' : Nat → Int32} (h0 : nI t = mti (sL S).length) (hs1 : ∀ j, j < 6 * (sL S).length → msr' j = msr j) (hs2 : ∀ i, i < n → msr' (6 * (sL S).length + i) = s i) (ht1 : ∀ j, j < 40 * (sL S).length → mtx' j = mtx j) (ht2 : ∀ i, i < nTl (stl S (scu S)) n d → mtx' (40 * (sL S).length + i) = nTx (stx S (scu S)) p n d s i) (hc : scu S ∈ sL S) :
    RM (addN S p n d s t) (nI ((sL S).length + 1)) (nI (sgv S + 1)) mcu mck mcl msh mhh (upd mnu (sL S).length (nI (sgv S))) (upd mpa (sL S).length (nI (scu S))) (upd mfa (sL S).length (-7)) mti (upd mpo (sL S).length (nI p)) (upd mle (sL S).length (nI n)) (upd mde (sL S).length (bI d)) (msr') (upd mtl (sL S).length (nI (nTl (stl S (scu S)) n d))) (mtx') mcp mmk mns := by
  refine ⟨?_, rfl, ?_, hR.2.2.2.1, hR.2.2.2.2.1, fun a ha => ?_, hR.2.2.2.2.2.2.1, hR.2.2.2.2.2.2.2⟩
  · show nI ((sL S).length + 1) = nI (sL S ++ [sgv S]).length
    simp
  · show mcu = nI (ix (_root_.Jvm.Pilot.CEditTreeLaw_law_r5647_5301c2.addN S p n d s t) (scu S))
    rw [addN_ix hc]; exact hR.2.2.1
  · rcases List.mem_append.mp (show a ∈ sL S ++ [sgv S] from ha) with h | h
    · have h1 : a ≠ sgv S := fun e => sgv_notin T (e ▸ h)
      have hk := ix_len h
      have hk' : ix S a ≠ (sL S).length := by omega
      have hr := RM.row hR h
      rw [addN_ix h]
      refine ⟨?_, ?_, ?_, ?_, ?_, ?_, ?_, ?_, ?_, ?_⟩
      · rw [pk_un hk']; exact hr.1
      · show _ = oI (va_up (spa S) (sgv S) (some (scu S)) a)
        rw [pk_un hk', va_up_ne _ _ h1]; exact hr.2.1
      · show _ = oI (va_up (sfa S) (sgv S) none a)
        rw [pk_un hk', va_up_ne _ _ h1]; exact hr.2.2.1
      · show _ = nI (va_up (sti S) (sgv S) t a)
        rw [va_up_ne _ _ h1]; exact hr.2.2.2.1
      · show _ = nI (va_up (spo S) (sgv S) p a)
        rw [pk_un hk', va_up_ne _ _ h1]; exact hr.2.2.2.2.1
      · show _ = nI (va_up (sle S) (sgv S) n a)
        rw [pk_un hk', va_up_ne _ _ h1]; exact hr.2.2.2.2.2.1
      · show _ = bI (va_up (sde S) (sgv S) d a)
        rw [pk_un hk', va_up_ne _ _ h1]; exact hr.2.2.2.2.2.2.1
      · show _ = nI (va_up (stl S) (sgv S) _ a)
        rw [pk_un hk', va_up_ne _ _ h1]; exact hr.2.2.2.2.2.2.2.1
      · intro i hi
        have hi : i < va_up (sle S) (sgv S) n a := hi
        rw [va_up_ne _ _ h1] at hi
        show _ = va_up (ssr S) (sgv S) s a i
        have := hle a h
        rw [va_up_ne _ _ h1, hs1 _ (by omega)]; exact hr.2.2.2.2.2.2.2.2.1 i hi
      · intro i hi
        have hi : i < va_up (stl S) (sgv S) (nTl (stl S (scu S)) n d) a := hi
        rw [va_up_ne _ _ h1] at hi
        show _ = va_up (stx S) (sgv S) _ a i
        have := ht a h
        rw [va_up_ne _ _ h1, ht1 _ (by omega)]; exact hr.2.2.2.2.2.2.2.2.2 i hi
    · have h1 := List.mem_singleton.mp h
      subst h1
      rw [addN_ixn T]
      refine ⟨pk_us, ?_, ?_, ?_, ?_, ?_, ?_, ?_, ?_, ?_⟩
      · show _ = oI (va_up (spa S) (sgv S) (some (scu S)) (sgv S))
        rw [pk_us, va_up_self]; rfl
      · show _ = oI (va_up (sfa S) (sgv S) none (sgv S))
        rw [pk_us, va_up_self]; rfl
      · show _ = nI (va_up (sti S) (sgv S) t (sgv S))
        rw [va_up_self]; exact h0.symm
      · show _ = nI (va_up (spo S) (sgv S) p (sgv S))
        rw [pk_us, va_up_self]
      · show _ = nI (va_up (sle S) (sgv S) n (sgv S))
        rw [pk_us, va_up_self]
      · show _ = bI (va_up (sde S) (sgv S) d (sgv S))
        rw [pk_us, va_up_self]
      · show _ = nI (va_up (stl S) (sgv S) _ (sgv S))
        rw [pk_us, va_up_self]
      · intro i hi
        have hi : i < va_up (sle S) (sgv S) n (sgv S) := hi
        rw [va_up_self] at hi
        show _ = va_up (ssr S) (sgv S) s (sgv S) i
        rw [va_up_self]; exact hs2 i hi
      · intro i hi
        have hi : i < va_up (stl S) (sgv S) (nTl (stl S (scu S)) n d) (sgv S) := hi
        rw [va_up_self] at hi
        show _ = va_up (stx S) (sgv S) _ (sgv S) i
        rw [va_up_self]; exact ht2 i hi
theorem c_grow (T : Tree S) (hR : RM S mnd mgv mcu mck mcl msh mhh mnu mpa mfa mti mpo mle mde msr mtl mtx mcp mmk mns) (ht : ∀ a ∈ sL S, stl S a ≤ 40) (hle : ∀ a ∈ sL S, sle S a ≤ 6) (hc : scu S ∈ sL S) (hl : (sL S).length < 24) (hg : sgv S < 600) {p n : Nat} {d : Bool} {s : Nat → Int32} (hn1 : 1 ≤ n) (hn : n ≤ 6) (hp : p ≤ stl S (scu S)) (hd1 : d = true → p + n ≤ stl S (scu S)) (hd2 : d = false → stl S (scu S) + n ≤ 40) (hs : ∀ i, i < n → mns i = s i) : Ret g mdX2_grow [.ref mo, .int (nI p), .int (nI n), .int (bI d)] (wM g mo mr mnd mgv mcu mck mcl msh mhh mnu mpa mfa mti mpo mle mde msr mtl mtx mcp mmk mns) (fun r w => r = some (.int (nI (sgv S))) ∧ isM g mo mr (grw S p n d s) w) := by
  refine Ret.of [_, _, _, _, _, _, _, _] 4 (by decide) (Nat.le_of_ble_eq_true rfl) rfl ?_
  have hkc := ix_lt T hc
  have hkl := ix_len hc
  have h40 := ht _ hc
  have hr := RM.row hR hc
  obtain ⟨t, h0⟩ := nI_sur (mti (sL S).length)
  obtain ⟨rfl, rfl, rfl, -⟩ := id hR
  have fin : ∀ msr' mtx' : Nat → Int32, (∀ j, j < 6 * (sL S).length → msr' j = msr j) → (∀ i, i < n → msr' (6 * (sL S).length + i) = s i) → (∀ j, j < 40 * (sL S).length → mtx' j = mtx j) → (∀ i, i < nTl (stl S (scu S)) n d → mtx' (40 * (sL S).length + i) = nTx (stx S (scu S)) p n d s i) → Ev g mdX2_grow 284 [some (.ref mo), some (.int (nI p)), some (.int (nI n)), some (.int (bI d)), some (.int (nI (sL S).length)), none, none, none] [] (wM g mo mr (nI (sL S).length) (nI (sgv S + 1)) (nI (ix S (scu S))) mck mcl msh mhh (upd mnu (sL S).length (nI (sgv S))) (upd mpa (sL S).length (nI (scu S))) (upd mfa (sL S).length (-7)) mti (upd mpo (sL S).length (nI p)) (upd mle (sL S).length (nI n)) (upd mde (sL S).length (bI d)) (msr') (upd mtl (sL S).length (nI (nTl (stl S (scu S)) n d))) (mtx') mcp mmk mns) (fun r w => r = some (.int (nI (sgv S))) ∧ isM g mo mr (grw S p n d s) w) := by
    intro msr' mtx' hs1 hs2 ht1 ht2
    have hR2 := RM.addN T hR ht hle h0 hs1 hs2 ht1 ht2 hc
    have T2 := addN_T T hc hl hg p n t d s
    have hv : sgv S ∈ sL (_root_.Jvm.Pilot.CEditTreeLaw_law_r5647_5301c2.addN S p n d s t) := List.mem_append_right _ (List.mem_singleton.mpr rfl)
    have cb := c_become (g := g) (mo := mo) (mr := mr) (msh := msh) (mhh := mhh) (mns := mns) T2 hR2 hv
    rw [addN_ixn T] at cb
    refine ev_aload_n (pc' := 285) dX2_grow_284 rfl rfl ?_
    refine ev_dup (pc' := 286) dX2_grow_285 rfl (by first | rfl | exact rf_cat _) ?_
    refine ev_get inX2 0 0 rfl rfl (by decide) flX2_nodes rfl (pc' := 289) dX2_grow_286 rfl ?_
    refine ev_iconst (pc' := 290) (v := nI 1) dX2_grow_289 rfl (by decide) ?_
    refine ev_iadd (pc' := 291) dX2_grow_290 rfl ?_
    rw [nI_add]
    refine pX2_nodes rfl (pc' := 294) dX2_grow_291 rfl ?_
    refine ev_aload_n (pc' := 295) dX2_grow_294 rfl rfl ?_
    refine ev_iload (pc' := 297) dX2_grow_295 rfl rfl ?_
    refine ev_callV (As := [_]) coX2_become 0 rfl rfl (cb) rfl (by decide) (by first | exact Nat.le_of_ble_eq_true rfl | simp [Value.category, rf_cat]) dX2_grow_297 rfl (pc' := 300) rfl (fun v w hq => ?_)
    obtain ⟨rfl, hw⟩ := hq
    dsimp only [Option.toList, List.cons_append, List.nil_append]
    refine ev_iret rfl dX2_grow_300 ?_
    refine ⟨rfl, ?_⟩
    rw [grw_t] at hw
    exact hw
  have hz : bI d = 0 ∨ bI d = 1 := by cases d <;> simp [bI] <;> decide
  refine ev_aload_n (pc' := 1) dX2_grow_0 rfl rfl ?_
  refine ev_get inX2 0 0 rfl rfl (by decide) flX2_nodes rfl (pc' := 4) dX2_grow_1 rfl ?_
  refine ev_istore (pc' := 6) (lv' := [_, _, _, _, _, _, _, _]) dX2_grow_4 rfl (by decide) (by intro w hw; first | exact Or.inl rfl | (right; have hw := Option.some.inj (Option.some.inj hw); subst hw; first | rfl | exact rf_cat _) | cases hw) rfl ?_
  refine ev_aload_n (pc' := 7) dX2_grow_6 rfl rfl ?_
  refine ev_get inX2 0 2 rfl rfl (by decide) flX2_number rfl (pc' := 10) dX2_grow_7 rfl ?_
  refine ev_iload (pc' := 12) dX2_grow_10 rfl rfl ?_
  refine ev_aload_n (pc' := 13) dX2_grow_12 rfl rfl ?_
  refine ev_get inX2 0 1 rfl rfl (by decide) flX2_given rfl (pc' := 16) dX2_grow_13 rfl ?_
  refine ev_iastN 1 rfl (by omega) (by decide) (pc' := 17) dX2_grow_16 rfl (ws' := wM _ _ _ _ _ _ _ _ _ _ _ _ _ _ _ _ _ _ _ _ _ _ _) rfl ?_
  refine ev_aload_n (pc' := 18) dX2_grow_17 rfl rfl ?_
  refine ev_dup (pc' := 19) dX2_grow_18 rfl (by first | rfl | exact rf_cat _) ?_
  refine ev_get inX2 0 1 rfl rfl (by decide) flX2_given rfl (pc' := 22) dX2_grow_19 rfl ?_
  refine ev_iconst (pc' := 23) (v := nI 1) dX2_grow_22 rfl (by decide) ?_
  refine ev_iadd (pc' := 24) dX2_grow_23 rfl ?_
  rw [nI_add]
  refine pX2_given rfl (pc' := 27) dX2_grow_24 rfl ?_
  refine ev_aload_n (pc' := 28) dX2_grow_27 rfl rfl ?_
  refine ev_get inX2 0 3 rfl rfl (by decide) flX2_parent rfl (pc' := 31) dX2_grow_28 rfl ?_
  refine ev_iload (pc' := 33) dX2_grow_31 rfl rfl ?_
  refine ev_aload_n (pc' := 34) dX2_grow_33 rfl rfl ?_
  refine ev_get inX2 0 2 rfl rfl (by decide) flX2_number rfl (pc' := 37) dX2_grow_34 rfl ?_
  refine ev_aload_n (pc' := 38) dX2_grow_37 rfl rfl ?_
  refine ev_get inX2 0 12 rfl rfl (by decide) flX2_current rfl (pc' := 41) dX2_grow_38 rfl ?_
  refine ev_ialdN 1 rfl (by omega) (by decide) ((pk_un (by omega)).trans hr.1) (pc' := 42) dX2_grow_41 rfl ?_
  refine ev_iastN 2 rfl (by omega) (by decide) (pc' := 43) dX2_grow_42 rfl (ws' := wM _ _ _ _ _ _ _ _ _ _ _ _ _ _ _ _ _ _ _ _ _ _ _) rfl ?_
  refine ev_aload_n (pc' := 44) dX2_grow_43 rfl rfl ?_
  refine ev_get inX2 0 4 rfl rfl (by decide) flX2_favourite rfl (pc' := 47) dX2_grow_44 rfl ?_
  refine ev_iload (pc' := 49) dX2_grow_47 rfl rfl ?_
  refine ev_bipush (pc' := 51) (v := (-7)) dX2_grow_49 rfl (by decide) ?_
  refine ev_iastN 3 rfl (by omega) (by decide) (pc' := 52) dX2_grow_51 rfl (ws' := wM _ _ _ _ _ _ _ _ _ _ _ _ _ _ _ _ _ _ _ _ _ _ _) rfl ?_
  refine ev_aload_n (pc' := 53) dX2_grow_52 rfl rfl ?_
  refine ev_get inX2 0 6 rfl rfl (by decide) flX2_position rfl (pc' := 56) dX2_grow_53 rfl ?_
  refine ev_iload (pc' := 58) dX2_grow_56 rfl rfl ?_
  refine ev_iload_n (pc' := 59) dX2_grow_58 rfl rfl ?_
  refine ev_iastN 5 rfl (by omega) (by decide) (pc' := 60) dX2_grow_59 rfl (ws' := wM _ _ _ _ _ _ _ _ _ _ _ _ _ _ _ _ _ _ _ _ _ _ _) rfl ?_
  refine ev_aload_n (pc' := 61) dX2_grow_60 rfl rfl ?_
  refine ev_get inX2 0 7 rfl rfl (by decide) flX2_length rfl (pc' := 64) dX2_grow_61 rfl ?_
  refine ev_iload (pc' := 66) dX2_grow_64 rfl rfl ?_
  refine ev_iload_n (pc' := 67) dX2_grow_66 rfl rfl ?_
  refine ev_iastN 6 rfl (by omega) (by decide) (pc' := 68) dX2_grow_67 rfl (ws' := wM _ _ _ _ _ _ _ _ _ _ _ _ _ _ _ _ _ _ _ _ _ _ _) rfl ?_
  refine ev_aload_n (pc' := 69) dX2_grow_68 rfl rfl ?_
  refine ev_get inX2 0 8 rfl rfl (by decide) flX2_deletes rfl (pc' := 72) dX2_grow_69 rfl ?_
  refine ev_iload (pc' := 74) dX2_grow_72 rfl rfl ?_
  refine ev_iload_n (pc' := 75) dX2_grow_74 rfl rfl ?_
  refine ev_zastN 7 rfl (by omega) (by decide) hz (pc' := 76) dX2_grow_75 rfl (ws' := wM _ _ _ _ _ _ _ _ _ _ _ _ _ _ _ _ _ _ _ _ _ _ _) rfl ?_
  refine ev_iconst (pc' := 77) (v := nI 0) dX2_grow_76 rfl (by decide) ?_
  refine ev_istore (pc' := 79) (lv' := [_, _, _, _, _, _, _, _]) dX2_grow_77 rfl (by decide) (by intro w hw; first | exact Or.inl rfl | (right; have hw := Option.some.inj (Option.some.inj hw); subst hw; first | rfl | exact rf_cat _) | cases hw) rfl ?_
  refine gs_loop msr hl hn _ _ n 0 msr (by omega) (fun _ _ => rfl) (fun j hj => absurd hj (Nat.not_lt_zero j)) (fun msr' hs1 hs2 => ?_)
  have hs2' : ∀ i, i < n → msr' (6 * (sL S).length + i) = s i := fun i hi => (hs2 i hi).trans (hs i hi)
  refine ev_aload_n (pc' := 112) dX2_grow_111 rfl rfl ?_
  refine ev_get inX2 0 10 rfl rfl (by decide) flX2_textLength rfl (pc' := 115) dX2_grow_112 rfl ?_
  refine ev_aload_n (pc' := 116) dX2_grow_115 rfl rfl ?_
  refine ev_get inX2 0 12 rfl rfl (by decide) flX2_current rfl (pc' := 119) dX2_grow_116 rfl ?_
  refine ev_ialdN 9 rfl (by omega) (by decide) hr.2.2.2.2.2.2.2.1 (pc' := 120) dX2_grow_119 rfl ?_
  refine ev_istore (pc' := 122) (lv' := [_, _, _, _, _, _, _, _]) dX2_grow_120 rfl (by decide) (by intro w hw; first | exact Or.inl rfl | (right; have hw := Option.some.inj (Option.some.inj hw); subst hw; first | rfl | exact rf_cat _) | cases hw) rfl ?_
  refine ev_aload_n (pc' := 123) dX2_grow_122 rfl rfl ?_
  refine ev_get inX2 0 10 rfl rfl (by decide) flX2_textLength rfl (pc' := 126) dX2_grow_123 rfl ?_
  refine ev_iload (pc' := 128) dX2_grow_126 rfl rfl ?_
  refine ev_iload_n (pc' := 129) dX2_grow_128 rfl rfl ?_
  refine ev_if_eq (tgt := 139) (pc' := 132) dX2_grow_129 (by decide) rfl (fun h129 => ?_) (fun h129 => ?_)
  · have hd : d = false := bI_eq.mp h129
    subst hd
    refine ev_iload (pc' := 141) dX2_grow_139 rfl rfl ?_
    refine ev_iload_n (pc' := 142) dX2_grow_141 rfl rfl ?_
    refine ev_iadd (pc' := 143) dX2_grow_142 rfl ?_
    rw [nI_add]
    refine ev_iastN 9 rfl (by omega) (by decide) (pc' := 144) dX2_grow_143 rfl (ws' := wM _ _ _ _ _ _ _ _ _ _ _ _ _ _ _ _ _ _ _ _ _ _ _) rfl ?_
    refine ev_iconst (pc' := 145) (v := nI 0) dX2_grow_144 rfl (by decide) ?_
    refine ev_istore (pc' := 147) (lv' := [_, _, _, _, _, _, _, _]) dX2_grow_145 rfl (by decide) (by intro w hw; first | exact Or.inl rfl | (right; have hw := Option.some.inj (Option.some.inj hw); subst hw; first | rfl | exact rf_cat _) | cases hw) rfl ?_
    have := hd2 rfl
    refine gi_loop mtx (L := (sL S).length) (C := ix S (scu S)) (n := n) (p := p) (tl := stl S (scu S) + n) hl hkl hn1 hn (by omega) (by omega) pk_us _ (stl S (scu S) + n) 0 mtx (by omega) (fun _ _ => rfl) (fun j hj => absurd hj (Nat.not_lt_zero j)) (fun mtx' ht1 ht2 => ?_)
    refine fin msr' mtx' hs1 hs2' ht1 (fun i hi => ?_)
    have hi : i < stl S (scu S) + n := hi
    rw [ht2 i hi]
    unfold nTx
    rw [if_neg (show ¬ (false = true) by decide)]
    by_cases q1 : i < p
    · rw [if_pos q1, if_pos q1]; exact hr.2.2.2.2.2.2.2.2.2 i (by omega)
    · rw [if_neg q1, if_neg q1]
      by_cases q2 : i < p + n
      · rw [if_pos q2, if_pos q2]; exact hs _ (by omega)
      · rw [if_neg q2, if_neg q2]; exact hr.2.2.2.2.2.2.2.2.2 _ (by omega)
  · have hd : d = true := bI_ne.mp h129
    subst hd
    have := hd1 rfl
    refine ev_iload (pc' := 134) dX2_grow_132 rfl rfl ?_
    refine ev_iload_n (pc' := 135) dX2_grow_134 rfl rfl ?_
    refine ev_isub (pc' := 136) dX2_grow_135 rfl ?_
    refine ev_goto (pc' := 143) dX2_grow_136 (by decide) ?_
    rw [pk_sub (by omega)]
    refine ev_iastN 9 rfl (by omega) (by decide) (pc' := 144) dX2_grow_143 rfl (ws' := wM _ _ _ _ _ _ _ _ _ _ _ _ _ _ _ _ _ _ _ _ _ _ _) rfl ?_
    refine ev_iconst (pc' := 145) (v := nI 0) dX2_grow_144 rfl (by decide) ?_
    refine ev_istore (pc' := 147) (lv' := [_, _, _, _, _, _, _, _]) dX2_grow_145 rfl (by decide) (by intro w hw; first | exact Or.inl rfl | (right; have hw := Option.some.inj (Option.some.inj hw); subst hw; first | rfl | exact rf_cat _) | cases hw) rfl ?_
    refine gd_loop mtx (L := (sL S).length) (C := ix S (scu S)) (n := n) (p := p) (tl := stl S (scu S) - n) hl hkl hn (by omega) pk_us _ (stl S (scu S) - n) 0 mtx (by omega) (fun _ _ => rfl) (fun j hj => absurd hj (Nat.not_lt_zero j)) (fun mtx' ht1 ht2 => ?_) (by omega)
    refine fin msr' mtx' hs1 hs2' ht1 (fun i hi => ?_)
    have hi : i < stl S (scu S) - n := hi
    rw [ht2 i hi]
    unfold nTx
    rw [if_pos (show true = true from rfl)]
    by_cases q1 : i < p
    · rw [if_pos q1, if_pos q1]; exact hr.2.2.2.2.2.2.2.2.2 i (by omega)
    · rw [if_neg q1, if_neg q1]; exact hr.2.2.2.2.2.2.2.2.2 _ (by omega)
end M10
section M11
variable {g : EG} {mo : Nat} {mr : Nat → Nat} {mnd mgv mcu mck mcl msh : Int32} {mhh : Int64} {mnu mpa mfa mti mpo mle mde msr mtl mtx mcp mmk mns : Nat → Int32}
variable {S : SS} {N : Nat} {Ph : Option Value → va_W → Prop}
theorem cut_loop (T : Tree S) (hR : RM S mnd mgv mcu mck mcl msh mhh mnu mpa mfa mti mpo mle mde msr mtl mtx mcp mmk mns) (hc : scu S ∈ sL S) (h40 : stl S (scu S) ≤ 40) {p n : Nat} (hn : n ≤ 6) (hp : p + n ≤ stl S (scu S)) : ∀ (m i : Nat) (mns : Nat → Int32), i + m = n → (∀ j, j < i → mns j = stx S (scu S) (p + j)) → Ev g mdX2_cut 2 [some (.ref mo), some (.int (nI p)), some (.int (nI n)), some (.int (nI i))] [] (wM g mo mr mnd mgv mcu mck mcl msh mhh mnu mpa mfa mti mpo mle mde msr mtl mtx mcp mmk mns) (fun r w => r = none ∧ ∃ mns' : Nat → Int32, (∀ j, j < n → mns' j = stx S (scu S) (p + j)) ∧ w = (wM g mo mr mnd mgv mcu mck mcl msh mhh mnu mpa mfa mti mpo mle mde msr mtl mtx mcp mmk (mns'))) := by
  intro m
  have hkc := ix_lt T hc
  have hr := RM.row hR hc
  have e3 := hR.2.2.1
  subst e3
  induction m with
  | zero =>
    intro i mns hi h1
    refine ev_iload_n (pc' := 3) dX2_cut_2 rfl rfl ?_
    refine ev_iload_n (pc' := 4) dX2_cut_3 rfl rfl ?_
    refine ev_icmp_ge (tgt := 35) (pc' := 7) dX2_cut_4 (by decide) rfl (fun h4 => ?_) (fun h4 => ?_)
    · refine ev_vret rfl dX2_cut_35 ?_
      exact ⟨rfl, mns, fun j hj => h1 j (by omega), rfl⟩
    · exact absurd (nI_le (by omega) (by omega)) h4
  | succ m ih =>
    intro i mns hi h1
    refine ev_iload_n (pc' := 3) dX2_cut_2 rfl rfl ?_
    refine ev_iload_n (pc' := 4) dX2_cut_3 rfl rfl ?_
    refine ev_icmp_ge (tgt := 35) (pc' := 7) dX2_cut_4 (by decide) rfl (fun h4 => ?_) (fun h4 => ?_)
    · exact absurd h4 (nI_ge (by omega) (by omega))
    · refine ev_aload_n (pc' := 8) dX2_cut_7 rfl rfl ?_
      refine ev_get inX2 0 17 rfl rfl (by decide) flX2_newString rfl (pc' := 11) dX2_cut_8 rfl ?_
      refine ev_iload_n (pc' := 12) dX2_cut_11 rfl rfl ?_
      refine ev_aload_n (pc' := 13) dX2_cut_12 rfl rfl ?_
      refine ev_get inX2 0 11 rfl rfl (by decide) flX2_text rfl (pc' := 16) dX2_cut_13 rfl ?_
      refine ev_bipush (pc' := 18) (v := nI 40) dX2_cut_16 rfl (by decide) ?_
      refine ev_aload_n (pc' := 19) dX2_cut_18 rfl rfl ?_
      refine ev_get inX2 0 12 rfl rfl (by decide) flX2_current rfl (pc' := 22) dX2_cut_19 rfl ?_
      refine ev_imul (pc' := 23) dX2_cut_22 rfl ?_
      refine ev_iload_n (pc' := 24) dX2_cut_23 rfl rfl ?_
      refine ev_iadd (pc' := 25) dX2_cut_24 rfl ?_
      refine ev_iload_n (pc' := 26) dX2_cut_25 rfl rfl ?_
      refine ev_iadd (pc' := 27) dX2_cut_26 rfl ?_
      rw [pk_mul, nI_add, nI_add, Nat.add_assoc]
      refine ev_ialdN 10 rfl (by omega) (by decide) (hr.2.2.2.2.2.2.2.2.2 (p + i) (by omega)) (pc' := 28) dX2_cut_27 rfl ?_
      refine ev_iastN 13 rfl (by omega) (by decide) (pc' := 29) dX2_cut_28 rfl (ws' := wM _ _ _ _ _ _ _ _ _ _ _ _ _ _ _ _ _ _ _ _ _ _ _) rfl ?_
      refine ev_iinc (pc' := 32) (lv' := [_, _, _, _]) dX2_cut_29 rfl rfl (nI_1 _) (by decide) (by intro w hw; first | exact Or.inl rfl | (right; have hw := Option.some.inj (Option.some.inj hw); subst hw; first | rfl | exact rf_cat _) | cases hw) rfl ?_
      refine ev_goto (pc' := 2) dX2_cut_32 (by decide) ?_
      refine ih (i + 1) _ (by omega) (fun j hj => ?_)
      by_cases q : j = i
      · rw [q, pk_us]
      · rw [pk_un q]; exact h1 j (by omega)
theorem c_cut (T : Tree S) (hR : RM S mnd mgv mcu mck mcl msh mhh mnu mpa mfa mti mpo mle mde msr mtl mtx mcp mmk mns) (hc : scu S ∈ sL S) (h40 : stl S (scu S) ≤ 40) {p n : Nat} (hn : n ≤ 6) (hp : p + n ≤ stl S (scu S)) : Ret g mdX2_cut [.ref mo, .int (nI p), .int (nI n)] (wM g mo mr mnd mgv mcu mck mcl msh mhh mnu mpa mfa mti mpo mle mde msr mtl mtx mcp mmk mns) (fun r w => r = none ∧ ∃ mns' : Nat → Int32, (∀ j, j < n → mns' j = stx S (scu S) (p + j)) ∧ w = (wM g mo mr mnd mgv mcu mck mcl msh mhh mnu mpa mfa mti mpo mle mde msr mtl mtx mcp mmk (mns'))) := by
  refine Ret.of [_, _, _, _] 1 (by decide) (Nat.le_of_ble_eq_true rfl) rfl ?_
  refine ev_iconst (pc' := 1) (v := nI 0) dX2_cut_0 rfl (by decide) ?_
  refine ev_istore_n (pc' := 2) (lv' := [_, _, _, _]) dX2_cut_1 rfl (by decide) (by intro w hw; first | exact Or.inl rfl | (right; have hw := Option.some.inj (Option.some.inj hw); subst hw; first | rfl | exact rf_cat _) | cases hw) rfl ?_
  exact cut_loop T hR hc h40 hn hp n 0 mns (by omega) (fun j hj => absurd hj (Nat.not_lt_zero j))
theorem c_mdelete (I : Inv N S) (hN : N ≤ 512) (hR : RM S mnd mgv mcu mck mcl msh mhh mnu mpa mfa mti mpo mle mde msr mtl mtx mcp mmk mns) (x y : Int32) : Ret g mdX2_delete [.ref mo, .int x, .int y] (wM g mo mr mnd mgv mcu mck mcl msh mhh mnu mpa mfa mti mpo mle mde msr mtl mtx mcp mmk mns) (fun r w => r = some (.int (oDel S x y).1) ∧ isM g mo mr (oDel S x y).2 w) := by
  refine Ret.of [_, _, _] 0 (by decide) (Nat.le_of_ble_eq_true rfl) rfl ?_
  have T := I.T
  have hkc := ix_lt T I.cu
  have hr := RM.row hR I.cu
  have h40 := I.tl I.cu
  have hlen := T.len
  have hgv := I.gv
  obtain ⟨rfl, e2, rfl, e4, e5, e6⟩ := id hR
  have no : ¬ (0 ≤ x ∧ (1 ≤ y ∧ y ≤ 6) ∧ x ≤ nI (stl S (scu S)) - y) → Ev g mdX2_delete 29 [some (.ref mo), some (.int x), some (.int y)] [] (wM g mo mr (nI (sL S).length) mgv (nI (ix S (scu S))) mck mcl msh mhh mnu mpa mfa mti mpo mle mde msr mtl mtx mcp mmk mns) (fun r w => r = some (.int (oDel S x y).1) ∧ isM g mo mr (oDel S x y).2 w) := by
    intro h
    refine ev_iconst (pc' := 30) (v := (-1)) dX2_delete_29 rfl (by decide) ?_
    refine ev_iret rfl dX2_delete_30 ?_
    unfold oDel
    rw [if_neg h]
    exact ⟨rfl, isM.of hR⟩
  refine ev_iload_n (pc' := 1) dX2_delete_0 rfl rfl ?_
  refine ev_if_lt (tgt := 29) (pc' := 4) dX2_delete_1 (by decide) rfl (fun h1 => ?_) (fun h1 => ?_)
  · exact no (fun q => Int32.not_lt.mpr q.1 h1)
  · refine ev_iload_n (pc' := 5) dX2_delete_4 rfl rfl ?_
    refine ev_iconst (pc' := 6) (v := nI 1) dX2_delete_5 rfl (by decide) ?_
    refine ev_bipush (pc' := 8) (v := nI 6) dX2_delete_6 rfl (by decide) ?_
    refine ev_callS (As := [_, _, _]) coX2_within (c_within _ _ _ _) rfl (by decide) (by first | exact Nat.le_of_ble_eq_true rfl | simp [Value.category, rf_cat]) dX2_delete_8 rfl (pc' := 11) rfl (fun v w hq => ?_)
    obtain ⟨rfl, rfl⟩ := hq
    dsimp only [Option.toList, List.cons_append, List.nil_append]
    refine ev_if_eq (tgt := 29) (pc' := 14) dX2_delete_11 (by decide) rfl (fun h11 => ?_) (fun h11 => ?_)
    · rw [bI_eq, decide_eq_false_iff_not] at h11
      exact no (fun q => h11 q.2.1)
    · rw [bI_ne, decide_eq_true_eq] at h11
      have h11' : 1 ≤ y ∧ y ≤ 6 := h11
      refine ev_iload_n (pc' := 15) dX2_delete_14 rfl rfl ?_
      refine ev_aload_n (pc' := 16) dX2_delete_15 rfl rfl ?_
      refine ev_get inX2 0 10 rfl rfl (by decide) flX2_textLength rfl (pc' := 19) dX2_delete_16 rfl ?_
      refine ev_aload_n (pc' := 20) dX2_delete_19 rfl rfl ?_
      refine ev_get inX2 0 12 rfl rfl (by decide) flX2_current rfl (pc' := 23) dX2_delete_20 rfl ?_
      refine ev_ialdN 9 rfl (by omega) (by decide) hr.2.2.2.2.2.2.2.1 (pc' := 24) dX2_delete_23 rfl ?_
      refine ev_iload_n (pc' := 25) dX2_delete_24 rfl rfl ?_
      refine ev_isub (pc' := 26) dX2_delete_25 rfl ?_
      refine ev_icmp_le (tgt := 31) (pc' := 29) dX2_delete_26 (by decide) rfl (fun h26 => ?_) (fun h26 => ?_)
      · have hok : 0 ≤ x ∧ (1 ≤ y ∧ y ≤ 6) ∧ x ≤ nI (stl S (scu S)) - y := ⟨Int32.not_lt.mp h1, h11', h26⟩
        have e1 : (6 : Int32) = nI 6 := rfl
        obtain ⟨n, hn6, rfl⟩ := nI_of2 (M := 6) (n := 6) (by decide) (Int32.not_lt.mpr (Int32.le_trans (by decide) h11'.1)) h11'.2
        have hn1 : 1 ≤ n := by
          have := h11'.1
          rw [show (1 : Int32) = nI 1 from rfl, nI_leI (by omega) (by omega)] at this
          exact this
        obtain ⟨p, hp, rfl⟩ := nI_of h1
        have hpn : p + n ≤ stl S (scu S) := by
          have e2 : (nI (stl S (scu S)) - nI n).toInt = (stl S (scu S) : Int) - n := pk_sub_toInt (by omega) (by omega)
          rw [Int32.le_iff_toInt_le, e2, nI_toInt hp] at h26
          omega
        refine ev_aload_n (pc' := 32) dX2_delete_31 rfl rfl ?_
        refine ev_get inX2 0 0 rfl rfl (by decide) flX2_nodes rfl (pc' := 35) dX2_delete_32 rfl ?_
        refine ev_bipush (pc' := 37) (v := nI 24) dX2_delete_35 rfl (by decide) ?_
        refine ev_icmp_ne (tgt := 43) (pc' := 40) dX2_delete_37 (by decide) rfl (fun h37 => ?_) (fun h37 => ?_)
        · have hl : (sL S).length ≠ 24 := fun e => h37 (by rw [e])
          refine ev_aload_n (pc' := 44) dX2_delete_43 rfl rfl ?_
          refine ev_iload_n (pc' := 45) dX2_delete_44 rfl rfl ?_
          refine ev_iload_n (pc' := 46) dX2_delete_45 rfl rfl ?_
          refine ev_callV (As := [_, _]) coX2_cut 0 rfl rfl (c_cut T hR I.cu h40 hn6 hpn) rfl (by decide) (by first | exact Nat.le_of_ble_eq_true rfl | simp [Value.category, rf_cat]) dX2_delete_46 rfl (pc' := 49) rfl (fun v w hq => ?_)
          obtain ⟨rfl, mns', hs, rfl⟩ := hq
          dsimp only [Option.toList, List.cons_append, List.nil_append]
          have cg := c_grow (g := g) (mo := mo) (mr := mr) (msh := msh) (mhh := mhh) (mns := mns') (p := p) (n := n) (d := true) (s := fun i => stx S (scu S) (p + i)) T hR (fun a ha => I.tl ha) (fun a ha => I.le ha) I.cu (by omega) (by omega) hn1 hn6 (by omega) (fun _ => hpn) (fun h => by cases h) hs
          refine ev_aload_n (pc' := 50) dX2_delete_49 rfl rfl ?_
          refine ev_iload_n (pc' := 51) dX2_delete_50 rfl rfl ?_
          refine ev_iload_n (pc' := 52) dX2_delete_51 rfl rfl ?_
          refine ev_iconst (pc' := 53) (v := nI 1) dX2_delete_52 rfl (by decide) ?_
          refine ev_callV (As := [_, _, _]) coX2_grow 0 rfl rfl (cg) rfl (by decide) (by first | exact Nat.le_of_ble_eq_true rfl | simp [Value.category, rf_cat]) dX2_delete_53 rfl (pc' := 56) rfl (fun v w hq => ?_)
          obtain ⟨rfl, hw⟩ := hq
          dsimp only [Option.toList, List.cons_append, List.nil_append]
          refine ev_iret rfl dX2_delete_56 ?_
          unfold oDel
          rw [if_pos hok, if_neg hl, nI_clamp (by omega), nI_clamp (by omega)]
          exact ⟨rfl, hw⟩
        · have hl : (sL S).length = 24 := nI_inj (by omega) (by omega) h37
          refine ev_bipush (pc' := 42) (v := (-3)) dX2_delete_40 rfl (by decide) ?_
          refine ev_iret rfl dX2_delete_42 ?_
          unfold oDel
          rw [if_pos hok, if_pos hl]
          exact ⟨rfl, isM.of hR⟩
      · exact no (fun q => h26 q.2.2)
theorem ins_loop (hcl : scl S ≤ 6) (hR : RM S mnd mgv mcu mck mcl msh mhh mnu mpa mfa mti mpo mle mde msr mtl mtx mcp mmk mns) (x : Int32) : ∀ (m i : Nat) (mns : Nat → Int32), i + m = scl S → (∀ j, j < i → mns j = scp S j) → (∀ mns : Nat → Int32, (∀ j, j < scl S → mns j = scp S j) → Ev g mdX2_insert 93 [some (.ref mo), some (.int x), some (.int (nI (scl S))), none] [] (wM g mo mr mnd mgv mcu mck mcl msh mhh mnu mpa mfa mti mpo mle mde msr mtl mtx mcp mmk mns) Ph) → Ev g mdX2_insert 70 [some (.ref mo), some (.int x), some (.int (nI (scl S))), some (.int (nI i))] [] (wM g mo mr mnd mgv mcu mck mcl msh mhh mnu mpa mfa mti mpo mle mde msr mtl mtx mcp mmk mns) Ph := by
  intro m
  induction m with
  | zero =>
    intro i mns hi h1 K
    refine ev_iload_n (pc' := 71) dX2_insert_70 rfl rfl ?_
    refine ev_iload_n (pc' := 72) dX2_insert_71 rfl rfl ?_
    refine ev_icmp_ge (tgt := 93) (pc' := 75) dX2_insert_72 (by decide) rfl (fun h72 => ?_) (fun h72 => ?_)
    · exact Ev.weak [some (.ref mo), some (.int x), some (.int (nI (scl S))), none] (lw_le_get _ _ (by simp [lw_le])) (K mns (fun j hj => h1 j (by omega)))
    · exact absurd (nI_le (by omega) (by omega)) h72
  | succ m ih =>
    intro i mns hi h1 K
    refine ev_iload_n (pc' := 71) dX2_insert_70 rfl rfl ?_
    refine ev_iload_n (pc' := 72) dX2_insert_71 rfl rfl ?_
    refine ev_icmp_ge (tgt := 93) (pc' := 75) dX2_insert_72 (by decide) rfl (fun h72 => ?_) (fun h72 => ?_)
    · exact absurd h72 (nI_ge (by omega) (by omega))
    · refine ev_aload_n (pc' := 76) dX2_insert_75 rfl rfl ?_
      refine ev_get inX2 0 17 rfl rfl (by decide) flX2_newString rfl (pc' := 79) dX2_insert_76 rfl ?_
      refine ev_iload_n (pc' := 80) dX2_insert_79 rfl rfl ?_
      refine ev_aload_n (pc' := 81) dX2_insert_80 rfl rfl ?_
      refine ev_get inX2 0 15 rfl rfl (by decide) flX2_clip rfl (pc' := 84) dX2_insert_81 rfl ?_
      refine ev_iload_n (pc' := 85) dX2_insert_84 rfl rfl ?_
      refine ev_ialdN 11 rfl (by omega) (by decide) (hR.2.2.2.2.2.2.1 i (by omega)) (pc' := 86) dX2_insert_85 rfl ?_
      refine ev_iastN 13 rfl (by omega) (by decide) (pc' := 87) dX2_insert_86 rfl (ws' := wM _ _ _ _ _ _ _ _ _ _ _ _ _ _ _ _ _ _ _ _ _ _ _) rfl ?_
      refine ev_iinc (pc' := 90) (lv' := [_, _, _, _]) dX2_insert_87 rfl rfl (nI_1 _) (by decide) (by intro w hw; first | exact Or.inl rfl | (right; have hw := Option.some.inj (Option.some.inj hw); subst hw; first | rfl | exact rf_cat _) | cases hw) rfl ?_
      refine ev_goto (pc' := 70) dX2_insert_90 (by decide) ?_
      refine ih (i + 1) _ (by omega) (fun j hj => ?_) K
      by_cases q : j = i
      · rw [q, pk_us]
      · rw [pk_un q]; exact h1 j (by omega)
theorem c_minsert (I : Inv N S) (hN : N ≤ 512) (hR : RM S mnd mgv mcu mck mcl msh mhh mnu mpa mfa mti mpo mle mde msr mtl mtx mcp mmk mns) (x : Int32) : Ret g mdX2_insert [.ref mo, .int x] (wM g mo mr mnd mgv mcu mck mcl msh mhh mnu mpa mfa mti mpo mle mde msr mtl mtx mcp mmk mns) (fun r w => r = some (.int (oIns S x).1) ∧ isM g mo mr (oIns S x).2 w) := by
  refine Ret.of [_, _, _, _] 2 (by decide) (Nat.le_of_ble_eq_true rfl) rfl ?_
  have T := I.T
  have hkc := ix_lt T I.cu
  have hr := RM.row hR I.cu
  have h40 := I.tl I.cu
  have hlen := T.len
  have hgv := I.gv
  have hcl := I.cl
  obtain ⟨rfl, e2, rfl, e4, rfl, e6, e7, e8⟩ := id hR
  unfold oIns
  refine ev_aload_n (pc' := 1) dX2_insert_0 rfl rfl ?_
  refine ev_get inX2 0 14 rfl rfl (by decide) flX2_clipLength rfl (pc' := 4) dX2_insert_1 rfl ?_
  refine ev_if_ne (tgt := 10) (pc' := 7) dX2_insert_4 (by decide) rfl (fun h4 => ?_) (fun h4 => ?_)
  · have hz : ¬ scl S = 0 := fun e => h4 (by rw [e]; rfl)
    rw [if_neg hz]
    refine ev_iload_n (pc' := 11) dX2_insert_10 rfl rfl ?_
    refine ev_iconst (pc' := 12) (v := nI 0) dX2_insert_11 rfl (by decide) ?_
    refine ev_aload_n (pc' := 13) dX2_insert_12 rfl rfl ?_
    refine ev_get inX2 0 10 rfl rfl (by decide) flX2_textLength rfl (pc' := 16) dX2_insert_13 rfl ?_
    refine ev_aload_n (pc' := 17) dX2_insert_16 rfl rfl ?_
    refine ev_get inX2 0 12 rfl rfl (by decide) flX2_current rfl (pc' := 20) dX2_insert_17 rfl ?_
    refine ev_ialdN 9 rfl (by omega) (by decide) hr.2.2.2.2.2.2.2.1 (pc' := 21) dX2_insert_20 rfl ?_
    refine ev_callS (As := [_, _, _]) coX2_within (c_within _ _ _ _) rfl (by decide) (by first | exact Nat.le_of_ble_eq_true rfl | simp [Value.category, rf_cat]) dX2_insert_21 rfl (pc' := 24) rfl (fun v w hq => ?_)
    obtain ⟨rfl, rfl⟩ := hq
    dsimp only [Option.toList, List.cons_append, List.nil_append]
    refine ev_if_ne (tgt := 29) (pc' := 27) dX2_insert_24 (by decide) rfl (fun h24 => ?_) (fun h24 => ?_)
    · rw [bI_ne, decide_eq_true_eq] at h24
      have h24' : 0 ≤ x ∧ x ≤ nI (stl S (scu S)) := h24
      rw [if_pos h24']
      refine ev_aload_n (pc' := 30) dX2_insert_29 rfl rfl ?_
      refine ev_get inX2 0 10 rfl rfl (by decide) flX2_textLength rfl (pc' := 33) dX2_insert_30 rfl ?_
      refine ev_aload_n (pc' := 34) dX2_insert_33 rfl rfl ?_
      refine ev_get inX2 0 12 rfl rfl (by decide) flX2_current rfl (pc' := 37) dX2_insert_34 rfl ?_
      refine ev_ialdN 9 rfl (by omega) (by decide) hr.2.2.2.2.2.2.2.1 (pc' := 38) dX2_insert_37 rfl ?_
      refine ev_aload_n (pc' := 39) dX2_insert_38 rfl rfl ?_
      refine ev_get inX2 0 14 rfl rfl (by decide) flX2_clipLength rfl (pc' := 42) dX2_insert_39 rfl ?_
      refine ev_iadd (pc' := 43) dX2_insert_42 rfl ?_
      rw [nI_add]
      refine ev_bipush (pc' := 45) (v := nI 40) dX2_insert_43 rfl (by decide) ?_
      refine ev_icmp_le (tgt := 51) (pc' := 48) dX2_insert_45 (by decide) rfl (fun h45 => ?_) (fun h45 => ?_)
      · have hq : ¬ 40 < stl S (scu S) + scl S := by
          rw [nI_leI (by omega) (by omega)] at h45
          omega
        rw [if_neg hq]
        refine ev_aload_n (pc' := 52) dX2_insert_51 rfl rfl ?_
        refine ev_get inX2 0 0 rfl rfl (by decide) flX2_nodes rfl (pc' := 55) dX2_insert_52 rfl ?_
        refine ev_bipush (pc' := 57) (v := nI 24) dX2_insert_55 rfl (by decide) ?_
        refine ev_icmp_ne (tgt := 63) (pc' := 60) dX2_insert_57 (by decide) rfl (fun h57 => ?_) (fun h57 => ?_)
        · have hl : (sL S).length ≠ 24 := fun e => h57 (by rw [e])
          rw [if_neg hl]
          refine ev_aload_n (pc' := 64) dX2_insert_63 rfl rfl ?_
          refine ev_get inX2 0 14 rfl rfl (by decide) flX2_clipLength rfl (pc' := 67) dX2_insert_64 rfl ?_
          refine ev_istore_n (pc' := 68) (lv' := [_, _, _, _]) dX2_insert_67 rfl (by decide) (by intro w hw; first | exact Or.inl rfl | (right; have hw := Option.some.inj (Option.some.inj hw); subst hw; first | rfl | exact rf_cat _) | cases hw) rfl ?_
          refine ev_iconst (pc' := 69) (v := nI 0) dX2_insert_68 rfl (by decide) ?_
          refine ev_istore_n (pc' := 70) (lv' := [_, _, _, _]) dX2_insert_69 rfl (by decide) (by intro w hw; first | exact Or.inl rfl | (right; have hw := Option.some.inj (Option.some.inj hw); subst hw; first | rfl | exact rf_cat _) | cases hw) rfl ?_
          refine ins_loop (mr := mr) hcl hR _ (scl S) 0 _ (by omega) (fun j hj => absurd hj (Nat.not_lt_zero j)) (fun mns hs => ?_)
          obtain ⟨p, hp, rfl⟩ := nI_of (Int32.not_lt.mpr h24'.1)
          have hps : p ≤ stl S (scu S) := (nI_leI hp (by omega)).mp h24'.2
          have hR2 : RM (setCl S 0 (scp S)) (nI (sL S).length) mgv (nI (ix S (scu S))) mck (nI 0) msh mhh mnu mpa mfa mti mpo mle mde msr mtl mtx mcp mmk mns := ⟨rfl, e2, rfl, e4, rfl, e6, fun i hi => absurd hi (Nat.not_lt_zero i), e8⟩
          have cg := c_grow (g := g) (mo := mo) (mr := mr) (S := setCl S 0 (scp S)) (msh := msh) (mhh := mhh) (mns := mns) (p := p) (n := scl S) (d := false) (s := scp S) T hR2 (fun a ha => I.tl ha) (fun a ha => I.le ha) I.cu (show (sL S).length < 24 by omega) (show sgv S < 600 by omega) (by omega) hcl hps (fun h => by cases h) (fun _ => show stl S (scu S) + scl S ≤ 40 by omega) hs
          refine ev_aload_n (pc' := 94) dX2_insert_93 rfl rfl ?_
          refine ev_iconst (pc' := 95) (v := nI 0) dX2_insert_94 rfl (by decide) ?_
          refine pX2_clipLength rfl (pc' := 98) dX2_insert_95 rfl ?_
          refine ev_aload_n (pc' := 99) dX2_insert_98 rfl rfl ?_
          refine ev_iload_n (pc' := 100) dX2_insert_99 rfl rfl ?_
          refine ev_iload_n (pc' := 101) dX2_insert_100 rfl rfl ?_
          refine ev_iconst (pc' := 102) (v := nI 0) dX2_insert_101 rfl (by decide) ?_
          refine ev_callV (As := [_, _, _]) coX2_grow 0 rfl rfl (cg) rfl (by decide) (by first | exact Nat.le_of_ble_eq_true rfl | simp [Value.category, rf_cat]) dX2_insert_102 rfl (pc' := 105) rfl (fun v w hq => ?_)
          obtain ⟨rfl, hw⟩ := hq
          dsimp only [Option.toList, List.cons_append, List.nil_append]
          refine ev_iret rfl dX2_insert_105 ?_
          rw [nI_clamp (by omega)]
          exact ⟨rfl, hw⟩
        · have hl : (sL S).length = 24 := nI_inj (by omega) (by omega) h57
          rw [if_pos hl]
          refine ev_bipush (pc' := 62) (v := (-3)) dX2_insert_60 rfl (by decide) ?_
          refine ev_iret rfl dX2_insert_62 ?_
          exact ⟨rfl, isM.of hR⟩
      · have hq : 40 < stl S (scu S) + scl S := by
          rw [nI_leI (by omega) (by omega)] at h45
          omega
        rw [if_pos hq]
        refine ev_bipush (pc' := 50) (v := (-4)) dX2_insert_48 rfl (by decide) ?_
        refine ev_iret rfl dX2_insert_50 ?_
        exact ⟨rfl, isM.of hR⟩
    · rw [bI_eq, decide_eq_false_iff_not] at h24
      have h24' : ¬ (0 ≤ x ∧ x ≤ nI (stl S (scu S))) := h24
      rw [if_neg h24']
      refine ev_iconst (pc' := 28) (v := (-1)) dX2_insert_27 rfl (by decide) ?_
      refine ev_iret rfl dX2_insert_28 ?_
      exact ⟨rfl, isM.of hR⟩
  · rw [nIz (by omega)] at h4
    rw [if_pos h4]
    refine ev_bipush (pc' := 9) (v := (-7)) dX2_insert_7 rfl (by decide) ?_
    refine ev_iret rfl dX2_insert_9 ?_
    exact ⟨rfl, isM.of hR⟩
end M11
end
section
/-! ===== the reference's methods: selective undo ===== -/
section M12
variable {g : EG} {mo : Nat} {mr : Nat → Nat} {mnd mgv mcu mck mcl msh : Int32} {mhh : Int64} {mnu mpa mfa mti mpo mle mde msr mtl mtx mcp mmk mns : Nat → Int32}
variable {S : SS} {N : Nat} {Ph : Option Value → va_W → Prop}
theorem c_refusal (T : Tree S) (hR : RM S mnd mgv mcu mck mcl msh mhh mnu mpa mfa mti mpo mle mde msr mtl mtx mcp mmk mns) (hc : scu S ∈ sL S) (x : Int32) : Ret g mdX2_refusal [.ref mo, .int (lkI S x)] (wM g mo mr mnd mgv mcu mck mcl msh mhh mnu mpa mfa mti mpo mle mde msr mtl mtx mcp mmk mns) (fun r w => r = some (.int (refS S x)) ∧ w = (wM g mo mr mnd mgv mcu mck mcl msh mhh mnu mpa mfa mti mpo mle mde msr mtl mtx mcp mmk mns)) := by
  refine Ret.of [_, _] 0 (by decide) (Nat.le_of_ble_eq_true rfl) rfl ?_
  have e3 := hR.2.2.1
  subst e3
  unfold refS
  refine ev_iload_n (pc' := 1) dX2_refusal_0 rfl rfl ?_
  refine ev_bipush (pc' := 3) (v := (-7)) dX2_refusal_1 rfl (by decide) ?_
  refine ev_icmp_ne (tgt := 9) (pc' := 6) dX2_refusal_3 (by decide) rfl (fun h3 => ?_) (fun h3 => ?_)
  · cases hl : lk S x with
    | none => exact absurd (lkI_none hl) h3
    | some e =>
      have he := (lk_some hl).1
      have hk := ix_lt T he
      rw [lkI_some hl]
      show Ev g mdX2_refusal 9 _ _ _ (fun r w => r = some (.int (if e = 0 ∨ e ∉ path S (scu S) then (-6) else 0)) ∧ w = _)
      refine ev_iload_n (pc' := 10) dX2_refusal_9 rfl rfl ?_
      refine ev_if_eq (tgt := 25) (pc' := 13) dX2_refusal_10 (by decide) rfl (fun h10 => ?_) (fun h10 => ?_)
      · rw [ixz T he] at h10
        rw [if_pos (Or.inl h10)]
        refine ev_bipush (pc' := 27) (v := (-6)) dX2_refusal_25 rfl (by decide) ?_
        refine ev_goto (pc' := 31) dX2_refusal_27 (by decide) ?_
        refine ev_iret rfl dX2_refusal_31 ?_
        exact ⟨rfl, rfl⟩
      · rw [ixz T he] at h10
        refine ev_aload_n (pc' := 14) dX2_refusal_13 rfl rfl ?_
        refine ev_iload_n (pc' := 15) dX2_refusal_14 rfl rfl ?_
        refine ev_aload_n (pc' := 16) dX2_refusal_15 rfl rfl ?_
        refine ev_get inX2 0 12 rfl rfl (by decide) flX2_current rfl (pc' := 19) dX2_refusal_16 rfl ?_
        refine ev_callV (As := [_, _]) coX2_isOnPath 0 rfl rfl (c_isOnPath T hR he hc) rfl (by decide) (by first | exact Nat.le_of_ble_eq_true rfl | simp [Value.category, rf_cat]) dX2_refusal_19 rfl (pc' := 22) rfl (fun v w hq => ?_)
        obtain ⟨rfl, rfl⟩ := hq
        dsimp only [Option.toList, List.cons_append, List.nil_append]
        refine ev_if_ne (tgt := 30) (pc' := 25) dX2_refusal_22 (by decide) rfl (fun h22 => ?_) (fun h22 => ?_)
        · rw [bI_ne, decide_eq_true_eq] at h22
          rw [if_neg (fun q => q.elim h10 (fun z => z h22))]
          refine ev_iconst (pc' := 31) (v := nI 0) dX2_refusal_30 rfl (by decide) ?_
          refine ev_iret rfl dX2_refusal_31 ?_
          exact ⟨rfl, rfl⟩
        · rw [bI_eq, decide_eq_false_iff_not] at h22
          rw [if_pos (Or.inr h22)]
          refine ev_bipush (pc' := 27) (v := (-6)) dX2_refusal_25 rfl (by decide) ?_
          refine ev_goto (pc' := 31) dX2_refusal_27 (by decide) ?_
          refine ev_iret rfl dX2_refusal_31 ?_
          exact ⟨rfl, rfl⟩
  · rw [(lkI_m7 T).mp h3]
    refine ev_bipush (pc' := 8) (v := (-2)) dX2_refusal_6 rfl (by decide) ?_
    refine ev_iret rfl dX2_refusal_8 ?_
    exact ⟨rfl, rfl⟩
theorem anc_loop (T : Tree S) (hR : RM S mnd mgv mcu mck mcl msh mhh mnu mpa mfa mti mpo mle mde msr mtl mtx mcp mmk mns) {d x : Nat} (hd31 : d < 2 ^ 31) {K1 K2 K3 K4 K5 : Int32} (K : Ev g mdX2_shift 72 [some (.ref mo), some (.int K1), some (.int K2), some (.int K3), some (.int K4), some (.int K5), some (.int (nI d)), some (.int (nI (ix S x))), none, none, none, none] [] (wM g mo mr mnd mgv mcu mck mcl msh mhh mnu mpa mfa mti mpo mle mde msr mtl mtx mcp mmk mns) Ph) : ∀ (c : Nat), c ∈ sL S → (dwn S c)[d]? = some x → Ev g mdX2_shift 50 [some (.ref mo), some (.int K1), some (.int K2), some (.int K3), some (.int K4), some (.int K5), some (.int (nI d)), some (.int (nI (ix S c))), none, none, none, none] [] (wM g mo mr mnd mgv mcu mck mcl msh mhh mnu mpa mfa mti mpo mle mde msr mtl mtx mcp mmk mns) Ph := by
  intro c
  induction c using Nat.strongRecOn with
  | ind c ih =>
    intro hc hd
    have hdl := (List.getElem?_eq_some_iff.mp hd).1
    rw [dwn_len] at hdl
    have h1 := dep_le T c hc
    have h2 := T.lt hc
    refine ev_aload_n (pc' := 51) dX2_shift_50 rfl rfl ?_
    refine ev_iload (pc' := 53) dX2_shift_51 rfl rfl ?_
    refine ev_callV (As := [_]) coX2_depth 0 rfl rfl (c_depth T hR hc) rfl (by decide) (by first | exact Nat.le_of_ble_eq_true rfl | simp [Value.category, rf_cat]) dX2_shift_53 rfl (pc' := 56) rfl (fun v w hq => ?_)
    obtain ⟨rfl, rfl⟩ := hq
    dsimp only [Option.toList, List.cons_append, List.nil_append]
    refine ev_iload (pc' := 58) dX2_shift_56 rfl rfl ?_
    refine ev_icmp_le (tgt := 72) (pc' := 61) dX2_shift_58 (by decide) rfl (fun h58 => ?_) (fun h58 => ?_)
    · rw [nI_leI (by omega) (by omega)] at h58
      have e : d = dep S c := by omega
      rw [e, dwn_last T hc] at hd
      cases hd
      exact K
    · rw [nI_leI (by omega) (by omega)] at h58
      cases hb : spa S c with
      | none => rw [dep_none hb] at h58; omega
      | some b =>
        obtain ⟨h3, h4⟩ := T.par hc hb
        refine ev_aload_n (pc' := 62) dX2_shift_61 rfl rfl ?_
        refine ev_iload (pc' := 64) dX2_shift_62 rfl rfl ?_
        refine ev_callV (As := [_]) coX2_above 0 rfl rfl (c_above T hR hc) rfl (by decide) (by first | exact Nat.le_of_ble_eq_true rfl | simp [Value.category, rf_cat]) dX2_shift_64 rfl (pc' := 67) rfl (fun v w hq => ?_)
        obtain ⟨rfl, rfl⟩ := hq
        dsimp only [Option.toList, List.cons_append, List.nil_append]
        rw [upI_some hb]
        refine ev_istore (pc' := 69) (lv' := [_, _, _, _, _, _, _, _, _, _, _, _]) dX2_shift_67 rfl (by decide) (by intro w hw; first | exact Or.inl rfl | (right; have hw := Option.some.inj (Option.some.inj hw); subst hw; first | rfl | exact rf_cat _) | cases hw) rfl ?_
        refine ev_goto (pc' := 50) dX2_shift_69 (by decide) ?_
        rw [dwn_up T hc hb (by omega)] at hd
        exact ih b h4 h3 hd
theorem sh_step (I : Inv N S) (hR : RM S mnd mgv mcu mck mcl msh mhh mnu mpa mfa mti mpo mle mde msr mtl mtx mcp mmk mns) {e c a : Nat} (he : e ∈ sL S) (hc : c ∈ sL S) (ha : a ≤ 40) (hq : spo S c ≤ 40) {K4 K5 K6 : Int32} (K : Ev g mdX2_shift 245 [some (.ref mo), some (.int (nI (ix S e))), some (.int (nI (shn (sde S c) (ahd (sde S e) (sde S c) a (spo S c) (sle S c)) a (sle S c)))), some (.int (nI (sle S e))), some (.int K4), some (.int K5), some (.int K6), some (.int (nI (ix S c))), none, none, some (.int (bI (fre (sde S e) (sde S c) (sle S e) a (spo S c) (sle S c)))), none] [] (wM g mo mr mnd mgv mcu mck mcl msh mhh mnu mpa mfa mti mpo mle mde msr mtl mtx mcp mmk mns) Ph) : Ev g mdX2_shift 72 [some (.ref mo), some (.int (nI (ix S e))), some (.int (nI a)), some (.int (nI (sle S e))), some (.int K4), some (.int K5), some (.int K6), some (.int (nI (ix S c))), none, none, none, none] [] (wM g mo mr mnd mgv mcu mck mcl msh mhh mnu mpa mfa mti mpo mle mde msr mtl mtx mcp mmk mns) Ph := by
  have T := I.T
  have hke := ix_lt T he
  have hkc := ix_lt T hc
  have hre := RM.row hR he
  have hrc := RM.row hR hc
  have hle := I.le he
  have hlc := I.le hc
  have fin : ∀ (a' : Nat) (fr : Int32) (x8 x9 x11 : Value), a' = shn (sde S c) (ahd (sde S e) (sde S c) a (spo S c) (sle S c)) a (sle S c) → fr = bI (fre (sde S e) (sde S c) (sle S e) a (spo S c) (sle S c)) → Ev g mdX2_shift 245 [some (.ref mo), some (.int (nI (ix S e))), some (.int (nI a')), some (.int (nI (sle S e))), some (.int K4), some (.int K5), some (.int K6), some (.int (nI (ix S c))), some x8, some x9, some (.int fr), some x11] [] (wM g mo mr mnd mgv mcu mck mcl msh mhh mnu mpa mfa mti mpo mle mde msr mtl mtx mcp mmk mns) Ph := by
    intro a' fr x8 x9 x11 h1 h2
    subst h1; subst h2
    exact Ev.weak _ (lw_le_get _ _ (by simp [lw_le])) K
  cases hC : sde S c with
  | true =>
    have hdc := hrc.2.2.2.2.2.2.1
    rw [hC] at hdc
    refine ev_aload_n (pc' := 73) dX2_shift_72 rfl rfl ?_
    refine ev_get inX2 0 6 rfl rfl (by decide) flX2_position rfl (pc' := 76) dX2_shift_73 rfl ?_
    refine ev_iload (pc' := 78) dX2_shift_76 rfl rfl ?_
    refine ev_ialdN 5 rfl (by omega) (by decide) hrc.2.2.2.2.1 (pc' := 79) dX2_shift_78 rfl ?_
    refine ev_istore (pc' := 81) (lv' := [_, _, _, _, _, _, _, _, _, _, _, _]) dX2_shift_79 rfl (by decide) (by intro w hw; first | exact Or.inl rfl | (right; have hw := Option.some.inj (Option.some.inj hw); subst hw; first | rfl | exact rf_cat _) | cases hw) rfl ?_
    refine ev_aload_n (pc' := 82) dX2_shift_81 rfl rfl ?_
    refine ev_get inX2 0 7 rfl rfl (by decide) flX2_length rfl (pc' := 85) dX2_shift_82 rfl ?_
    refine ev_iload (pc' := 87) dX2_shift_85 rfl rfl ?_
    refine ev_ialdN 6 rfl (by omega) (by decide) hrc.2.2.2.2.2.1 (pc' := 88) dX2_shift_87 rfl ?_
    refine ev_istore (pc' := 90) (lv' := [_, _, _, _, _, _, _, _, _, _, _, _]) dX2_shift_88 rfl (by decide) (by intro w hw; first | exact Or.inl rfl | (right; have hw := Option.some.inj (Option.some.inj hw); subst hw; first | rfl | exact rf_cat _) | cases hw) rfl ?_
    refine ev_aload_n (pc' := 91) dX2_shift_90 rfl rfl ?_
    refine ev_get inX2 0 8 rfl rfl (by decide) flX2_deletes rfl (pc' := 94) dX2_shift_91 rfl ?_
    refine ev_iload (pc' := 96) dX2_shift_94 rfl rfl ?_
    refine ev_zaldN 7 rfl (by omega) (by decide) hdc (pc' := 97) dX2_shift_96 rfl ?_
    refine ev_if_eq (tgt := 166) (pc' := 100) dX2_shift_97 (by decide) rfl (fun h97 => ?_) (fun h97 => ?_)
    · exact absurd h97 (by decide)
    · refine ev_iload (pc' := 102) dX2_shift_100 rfl rfl ?_
      refine ev_iload (pc' := 104) dX2_shift_102 rfl rfl ?_
      refine ev_iadd (pc' := 105) dX2_shift_104 rfl ?_
      rw [nI_add]
      refine ev_iload_n (pc' := 106) dX2_shift_105 rfl rfl ?_
      refine ev_icmp_gt (tgt := 113) (pc' := 109) dX2_shift_106 (by decide) rfl (fun h106 => ?_) (fun h106 => ?_)
      · rw [nI_ltI (by omega) (by omega)] at h106
        have ea : ahd (sde S e) true a (spo S c) (sle S c) = false := by simp [ahd]; omega
        cases hE : sde S e with
        | true =>
          have hde := hre.2.2.2.2.2.2.1
          rw [hE] at hde ea
          refine ev_iconst (pc' := 114) (v := nI 0) dX2_shift_113 rfl (by decide) ?_
          refine ev_istore (pc' := 116) (lv' := [_, _, _, _, _, _, _, _, _, _, _, _]) dX2_shift_114 rfl (by decide) (by intro w hw; first | exact Or.inl rfl | (right; have hw := Option.some.inj (Option.some.inj hw); subst hw; first | rfl | exact rf_cat _) | cases hw) rfl ?_
          refine ev_iload (pc' := 118) dX2_shift_116 rfl rfl ?_
          refine ev_if_ne (tgt := 142) (pc' := 121) dX2_shift_118 (by decide) rfl (fun h118 => ?_) (fun h118 => ?_)
          · exact absurd rfl h118
          · refine ev_iload (pc' := 123) dX2_shift_121 rfl rfl ?_
            refine ev_iload_n (pc' := 124) dX2_shift_123 rfl rfl ?_
            refine ev_aload_n (pc' := 125) dX2_shift_124 rfl rfl ?_
            refine ev_get inX2 0 8 rfl rfl (by decide) flX2_deletes rfl (pc' := 128) dX2_shift_125 rfl ?_
            refine ev_iload_n (pc' := 129) dX2_shift_128 rfl rfl ?_
            refine ev_zaldN 7 rfl (by omega) (by decide) hde (pc' := 130) dX2_shift_129 rfl ?_
            refine ev_if_eq (tgt := 137) (pc' := 133) dX2_shift_130 (by decide) rfl (fun h130 => ?_) (fun h130 => ?_)
            · exact absurd h130 (by decide)
            · refine ev_iconst (pc' := 134) (v := nI 0) dX2_shift_133 rfl (by decide) ?_
              refine ev_goto (pc' := 138) dX2_shift_134 (by decide) ?_
              refine ev_iadd (pc' := 139) dX2_shift_138 rfl ?_
              rw [nI_add, Nat.add_zero]
              refine ev_icmp_lt (tgt := 146) (pc' := 142) dX2_shift_139 (by decide) rfl (fun h139 => ?_) (fun h139 => ?_)
              · rw [nI_ltI (by omega) (by omega)] at h139
                refine ev_iconst (pc' := 147) (v := nI 0) dX2_shift_146 rfl (by decide) ?_
                refine ev_istore (pc' := 149) (lv' := [_, _, _, _, _, _, _, _, _, _, _, _]) dX2_shift_147 rfl (by decide) (by intro w hw; first | exact Or.inl rfl | (right; have hw := Option.some.inj (Option.some.inj hw); subst hw; first | rfl | exact rf_cat _) | cases hw) rfl ?_
                refine ev_iload_n (pc' := 150) dX2_shift_149 rfl rfl ?_
                refine ev_iload (pc' := 152) dX2_shift_150 rfl rfl ?_
                refine ev_if_eq (tgt := 160) (pc' := 155) dX2_shift_152 (by decide) rfl (fun h152 => ?_) (fun h152 => ?_)
                · refine ev_iconst (pc' := 161) (v := nI 0) dX2_shift_160 rfl (by decide) ?_
                  refine ev_isub (pc' := 162) dX2_shift_161 rfl ?_
                  rw [pk_sub (Nat.zero_le _), Nat.sub_zero]
                  refine ev_istore_n (pc' := 163) (lv' := [_, _, _, _, _, _, _, _, _, _, _, _]) dX2_shift_162 rfl (by decide) (by intro w hw; first | exact Or.inl rfl | (right; have hw := Option.some.inj (Option.some.inj hw); subst hw; first | rfl | exact rf_cat _) | cases hw) rfl ?_
                  refine ev_goto (pc' := 245) dX2_shift_163 (by decide) ?_
                  refine fin a _ _ _ _ (by rw [hC, hE, ea]; rfl) (by rw [hC, hE]; unfold fre; rw [ea]; simp; rw [bI_f (by omega)])
                · exact absurd rfl h152
              · rw [nI_ltI (by omega) (by omega)] at h139
                refine ev_iconst (pc' := 143) (v := nI 1) dX2_shift_142 rfl (by decide) ?_
                refine ev_goto (pc' := 147) dX2_shift_143 (by decide) ?_
                refine ev_istore (pc' := 149) (lv' := [_, _, _, _, _, _, _, _, _, _, _, _]) dX2_shift_147 rfl (by decide) (by intro w hw; first | exact Or.inl rfl | (right; have hw := Option.some.inj (Option.some.inj hw); subst hw; first | rfl | exact rf_cat _) | cases hw) rfl ?_
                refine ev_iload_n (pc' := 150) dX2_shift_149 rfl rfl ?_
                refine ev_iload (pc' := 152) dX2_shift_150 rfl rfl ?_
                refine ev_if_eq (tgt := 160) (pc' := 155) dX2_shift_152 (by decide) rfl (fun h152 => ?_) (fun h152 => ?_)
                · refine ev_iconst (pc' := 161) (v := nI 0) dX2_shift_160 rfl (by decide) ?_
                  refine ev_isub (pc' := 162) dX2_shift_161 rfl ?_
                  rw [pk_sub (Nat.zero_le _), Nat.sub_zero]
                  refine ev_istore_n (pc' := 163) (lv' := [_, _, _, _, _, _, _, _, _, _, _, _]) dX2_shift_162 rfl (by decide) (by intro w hw; first | exact Or.inl rfl | (right; have hw := Option.some.inj (Option.some.inj hw); subst hw; first | rfl | exact rf_cat _) | cases hw) rfl ?_
                  refine ev_goto (pc' := 245) dX2_shift_163 (by decide) ?_
                  refine fin a _ _ _ _ (by rw [hC, hE, ea]; rfl) (by rw [hC, hE]; unfold fre; rw [ea]; simp; rw [bI_t (by omega)])
                · exact absurd rfl h152
        | false =>
          have hde := hre.2.2.2.2.2.2.1
          rw [hE] at hde ea
          refine ev_iconst (pc' := 114) (v := nI 0) dX2_shift_113 rfl (by decide) ?_
          refine ev_istore (pc' := 116) (lv' := [_, _, _, _, _, _, _, _, _, _, _, _]) dX2_shift_114 rfl (by decide) (by intro w hw; first | exact Or.inl rfl | (right; have hw := Option.some.inj (Option.some.inj hw); subst hw; first | rfl | exact rf_cat _) | cases hw) rfl ?_
          refine ev_iload (pc' := 118) dX2_shift_116 rfl rfl ?_
          refine ev_if_ne (tgt := 142) (pc' := 121) dX2_shift_118 (by decide) rfl (fun h118 => ?_) (fun h118 => ?_)
          · exact absurd rfl h118
          · refine ev_iload (pc' := 123) dX2_shift_121 rfl rfl ?_
            refine ev_iload_n (pc' := 124) dX2_shift_123 rfl rfl ?_
            refine ev_aload_n (pc' := 125) dX2_shift_124 rfl rfl ?_
            refine ev_get inX2 0 8 rfl rfl (by decide) flX2_deletes rfl (pc' := 128) dX2_shift_125 rfl ?_
            refine ev_iload_n (pc' := 129) dX2_shift_128 rfl rfl ?_
            refine ev_zaldN 7 rfl (by omega) (by decide) hde (pc' := 130) dX2_shift_129 rfl ?_
            refine ev_if_eq (tgt := 137) (pc' := 133) dX2_shift_130 (by decide) rfl (fun h130 => ?_) (fun h130 => ?_)
            · refine ev_iload_n (pc' := 138) dX2_shift_137 rfl rfl ?_
              refine ev_iadd (pc' := 139) dX2_shift_138 rfl ?_
              rw [nI_add]
              refine ev_icmp_lt (tgt := 146) (pc' := 142) dX2_shift_139 (by decide) rfl (fun h139 => ?_) (fun h139 => ?_)
              · rw [nI_ltI (by omega) (by omega)] at h139
                refine ev_iconst (pc' := 147) (v := nI 0) dX2_shift_146 rfl (by decide) ?_
                refine ev_istore (pc' := 149) (lv' := [_, _, _, _, _, _, _, _, _, _, _, _]) dX2_shift_147 rfl (by decide) (by intro w hw; first | exact Or.inl rfl | (right; have hw := Option.some.inj (Option.some.inj hw); subst hw; first | rfl | exact rf_cat _) | cases hw) rfl ?_
                refine ev_iload_n (pc' := 150) dX2_shift_149 rfl rfl ?_
                refine ev_iload (pc' := 152) dX2_shift_150 rfl rfl ?_
                refine ev_if_eq (tgt := 160) (pc' := 155) dX2_shift_152 (by decide) rfl (fun h152 => ?_) (fun h152 => ?_)
                · refine ev_iconst (pc' := 161) (v := nI 0) dX2_shift_160 rfl (by decide) ?_
                  refine ev_isub (pc' := 162) dX2_shift_161 rfl ?_
                  rw [pk_sub (Nat.zero_le _), Nat.sub_zero]
                  refine ev_istore_n (pc' := 163) (lv' := [_, _, _, _, _, _, _, _, _, _, _, _]) dX2_shift_162 rfl (by decide) (by intro w hw; first | exact Or.inl rfl | (right; have hw := Option.some.inj (Option.some.inj hw); subst hw; first | rfl | exact rf_cat _) | cases hw) rfl ?_
                  refine ev_goto (pc' := 245) dX2_shift_163 (by decide) ?_
                  refine fin a _ _ _ _ (by rw [hC, hE, ea]; rfl) (by rw [hC, hE]; unfold fre; rw [ea]; simp; rw [bI_f (by omega)])
                · exact absurd rfl h152
              · rw [nI_ltI (by omega) (by omega)] at h139
                refine ev_iconst (pc' := 143) (v := nI 1) dX2_shift_142 rfl (by decide) ?_
                refine ev_goto (pc' := 147) dX2_shift_143 (by decide) ?_
                refine ev_istore (pc' := 149) (lv' := [_, _, _, _, _, _, _, _, _, _, _, _]) dX2_shift_147 rfl (by decide) (by intro w hw; first | exact Or.inl rfl | (right; have hw := Option.some.inj (Option.some.inj hw); subst hw; first | rfl | exact rf_cat _) | cases hw) rfl ?_
                refine ev_iload_n (pc' := 150) dX2_shift_149 rfl rfl ?_
                refine ev_iload (pc' := 152) dX2_shift_150 rfl rfl ?_
                refine ev_if_eq (tgt := 160) (pc' := 155) dX2_shift_152 (by decide) rfl (fun h152 => ?_) (fun h152 => ?_)
                · refine ev_iconst (pc' := 161) (v := nI 0) dX2_shift_160 rfl (by decide) ?_
                  refine ev_isub (pc' := 162) dX2_shift_161 rfl ?_
                  rw [pk_sub (Nat.zero_le _), Nat.sub_zero]
                  refine ev_istore_n (pc' := 163) (lv' := [_, _, _, _, _, _, _, _, _, _, _, _]) dX2_shift_162 rfl (by decide) (by intro w hw; first | exact Or.inl rfl | (right; have hw := Option.some.inj (Option.some.inj hw); subst hw; first | rfl | exact rf_cat _) | cases hw) rfl ?_
                  refine ev_goto (pc' := 245) dX2_shift_163 (by decide) ?_
                  refine fin a _ _ _ _ (by rw [hC, hE, ea]; rfl) (by rw [hC, hE]; unfold fre; rw [ea]; simp; rw [bI_t (by omega)])
                · exact absurd rfl h152
            · exact absurd rfl h130
      · rw [nI_ltI (by omega) (by omega)] at h106
        have ea : ahd (sde S e) true a (spo S c) (sle S c) = true := by simp [ahd]; omega
        refine ev_iconst (pc' := 110) (v := nI 1) dX2_shift_109 rfl (by decide) ?_
        refine ev_goto (pc' := 114) dX2_shift_110 (by decide) ?_
        refine ev_istore (pc' := 116) (lv' := [_, _, _, _, _, _, _, _, _, _, _, _]) dX2_shift_114 rfl (by decide) (by intro w hw; first | exact Or.inl rfl | (right; have hw := Option.some.inj (Option.some.inj hw); subst hw; first | rfl | exact rf_cat _) | cases hw) rfl ?_
        refine ev_iload (pc' := 118) dX2_shift_116 rfl rfl ?_
        refine ev_if_ne (tgt := 142) (pc' := 121) dX2_shift_118 (by decide) rfl (fun h118 => ?_) (fun h118 => ?_)
        · refine ev_iconst (pc' := 143) (v := nI 1) dX2_shift_142 rfl (by decide) ?_
          refine ev_goto (pc' := 147) dX2_shift_143 (by decide) ?_
          refine ev_istore (pc' := 149) (lv' := [_, _, _, _, _, _, _, _, _, _, _, _]) dX2_shift_147 rfl (by decide) (by intro w hw; first | exact Or.inl rfl | (right; have hw := Option.some.inj (Option.some.inj hw); subst hw; first | rfl | exact rf_cat _) | cases hw) rfl ?_
          refine ev_iload_n (pc' := 150) dX2_shift_149 rfl rfl ?_
          refine ev_iload (pc' := 152) dX2_shift_150 rfl rfl ?_
          refine ev_if_eq (tgt := 160) (pc' := 155) dX2_shift_152 (by decide) rfl (fun h152 => ?_) (fun h152 => ?_)
          · exact absurd h152 (by decide)
          · refine ev_iload (pc' := 157) dX2_shift_155 rfl rfl ?_
            refine ev_goto (pc' := 161) dX2_shift_157 (by decide) ?_
            refine ev_isub (pc' := 162) dX2_shift_161 rfl ?_
            rw [pk_sub (by omega)]
            refine ev_istore_n (pc' := 163) (lv' := [_, _, _, _, _, _, _, _, _, _, _, _]) dX2_shift_162 rfl (by decide) (by intro w hw; first | exact Or.inl rfl | (right; have hw := Option.some.inj (Option.some.inj hw); subst hw; first | rfl | exact rf_cat _) | cases hw) rfl ?_
            refine ev_goto (pc' := 245) dX2_shift_163 (by decide) ?_
            refine fin (a - sle S c) _ _ _ _ (by rw [hC, ea]; rfl) (by rw [hC]; unfold fre; rw [ea]; rfl)
        · exact absurd h118 (by decide)
  | false =>
    have hdc := hrc.2.2.2.2.2.2.1
    rw [hC] at hdc
    have tl1 : ∀ (h : Bool) (f : Bool) (x8 x9 : Int32), x9 = nI (sle S c) → h = ahd (sde S e) false a (spo S c) (sle S c) → f = fre (sde S e) false (sle S e) a (spo S c) (sle S c) → Ev g mdX2_shift 229 [some (.ref mo), some (.int (nI (ix S e))), some (.int (nI a)), some (.int (nI (sle S e))), some (.int K4), some (.int K5), some (.int K6), some (.int (nI (ix S c))), some (.int x8), some (.int x9), none, some (.int (bI h))] [.int (bI f)] (wM g mo mr mnd mgv mcu mck mcl msh mhh mnu mpa mfa mti mpo mle mde msr mtl mtx mcp mmk mns) Ph := by
      intro h f x8 x9 h9 hh hf
      subst h9
      refine ev_istore (pc' := 231) (lv' := [_, _, _, _, _, _, _, _, _, _, _, _]) dX2_shift_229 rfl (by decide) (by intro w hw; first | exact Or.inl rfl | (right; have hw := Option.some.inj (Option.some.inj hw); subst hw; first | rfl | exact rf_cat _) | cases hw) rfl ?_
      refine ev_iload_n (pc' := 232) dX2_shift_231 rfl rfl ?_
      refine ev_iload (pc' := 234) dX2_shift_232 rfl rfl ?_
      refine ev_if_eq (tgt := 242) (pc' := 237) dX2_shift_234 (by decide) rfl (fun h234 => ?_) (fun h234 => ?_)
      · rw [bI_eq] at h234
        refine ev_iconst (pc' := 243) (v := nI 0) dX2_shift_242 rfl (by decide) ?_
        refine ev_iadd (pc' := 244) dX2_shift_243 rfl ?_
        rw [nI_add, Nat.add_zero]
        refine ev_istore_n (pc' := 245) (lv' := [_, _, _, _, _, _, _, _, _, _, _, _]) dX2_shift_244 rfl (by decide) (by intro w hw; first | exact Or.inl rfl | (right; have hw := Option.some.inj (Option.some.inj hw); subst hw; first | rfl | exact rf_cat _) | cases hw) rfl ?_
        refine fin a _ _ _ _ (by rw [hC, ← hh, h234]; rfl) (by rw [hC, ← hf])
      · rw [bI_ne] at h234
        refine ev_iload (pc' := 239) dX2_shift_237 rfl rfl ?_
        refine ev_goto (pc' := 243) dX2_shift_239 (by decide) ?_
        refine ev_iadd (pc' := 244) dX2_shift_243 rfl ?_
        rw [nI_add]
        refine ev_istore_n (pc' := 245) (lv' := [_, _, _, _, _, _, _, _, _, _, _, _]) dX2_shift_244 rfl (by decide) (by intro w hw; first | exact Or.inl rfl | (right; have hw := Option.some.inj (Option.some.inj hw); subst hw; first | rfl | exact rf_cat _) | cases hw) rfl ?_
        refine fin (a + sle S c) _ _ _ _ (by rw [hC, ← hh, h234]; rfl) (by rw [hC, ← hf])
    refine ev_aload_n (pc' := 73) dX2_shift_72 rfl rfl ?_
    refine ev_get inX2 0 6 rfl rfl (by decide) flX2_position rfl (pc' := 76) dX2_shift_73 rfl ?_
    refine ev_iload (pc' := 78) dX2_shift_76 rfl rfl ?_
    refine ev_ialdN 5 rfl (by omega) (by decide) hrc.2.2.2.2.1 (pc' := 79) dX2_shift_78 rfl ?_
    refine ev_istore (pc' := 81) (lv' := [_, _, _, _, _, _, _, _, _, _, _, _]) dX2_shift_79 rfl (by decide) (by intro w hw; first | exact Or.inl rfl | (right; have hw := Option.some.inj (Option.some.inj hw); subst hw; first | rfl | exact rf_cat _) | cases hw) rfl ?_
    refine ev_aload_n (pc' := 82) dX2_shift_81 rfl rfl ?_
    refine ev_get inX2 0 7 rfl rfl (by decide) flX2_length rfl (pc' := 85) dX2_shift_82 rfl ?_
    refine ev_iload (pc' := 87) dX2_shift_85 rfl rfl ?_
    refine ev_ialdN 6 rfl (by omega) (by decide) hrc.2.2.2.2.2.1 (pc' := 88) dX2_shift_87 rfl ?_
    refine ev_istore (pc' := 90) (lv' := [_, _, _, _, _, _, _, _, _, _, _, _]) dX2_shift_88 rfl (by decide) (by intro w hw; first | exact Or.inl rfl | (right; have hw := Option.some.inj (Option.some.inj hw); subst hw; first | rfl | exact rf_cat _) | cases hw) rfl ?_
    refine ev_aload_n (pc' := 91) dX2_shift_90 rfl rfl ?_
    refine ev_get inX2 0 8 rfl rfl (by decide) flX2_deletes rfl (pc' := 94) dX2_shift_91 rfl ?_
    refine ev_iload (pc' := 96) dX2_shift_94 rfl rfl ?_
    refine ev_zaldN 7 rfl (by omega) (by decide) hdc (pc' := 97) dX2_shift_96 rfl ?_
    refine ev_if_eq (tgt := 166) (pc' := 100) dX2_shift_97 (by decide) rfl (fun h97 => ?_) (fun h97 => ?_)
    · cases hE : sde S e with
      | true =>
        have hde := hre.2.2.2.2.2.2.1
        rw [hE] at hde
        have mid : ∀ h : Bool, h = ahd true false a (spo S c) (sle S c) → Ev g mdX2_shift 200 [some (.ref mo), some (.int (nI (ix S e))), some (.int (nI a)), some (.int (nI (sle S e))), some (.int K4), some (.int K5), some (.int K6), some (.int (nI (ix S c))), some (.int (nI (spo S c))), some (.int (nI (sle S c))), none, none] [.int (bI h)] (wM g mo mr mnd mgv mcu mck mcl msh mhh mnu mpa mfa mti mpo mle mde msr mtl mtx mcp mmk mns) Ph := by
          intro h hh
          refine ev_istore (pc' := 202) (lv' := [_, _, _, _, _, _, _, _, _, _, _, _]) dX2_shift_200 rfl (by decide) (by intro w hw; first | exact Or.inl rfl | (right; have hw := Option.some.inj (Option.some.inj hw); subst hw; first | rfl | exact rf_cat _) | cases hw) rfl ?_
          refine ev_iload (pc' := 204) dX2_shift_202 rfl rfl ?_
          refine ev_if_ne (tgt := 224) (pc' := 207) dX2_shift_204 (by decide) rfl (fun h204 => ?_) (fun h204 => ?_)
          · refine ev_iconst (pc' := 225) (v := nI 1) dX2_shift_224 rfl (by decide) ?_
            refine ev_goto (pc' := 229) dX2_shift_225 (by decide) ?_
            exact tl1 h true _ _ rfl (by rw [hE]; exact hh) (by rw [hE]; unfold fre; rw [← hh, bI_ne.mp h204]; rfl)
          · refine ev_aload_n (pc' := 208) dX2_shift_207 rfl rfl ?_
            refine ev_get inX2 0 8 rfl rfl (by decide) flX2_deletes rfl (pc' := 211) dX2_shift_208 rfl ?_
            refine ev_iload_n (pc' := 212) dX2_shift_211 rfl rfl ?_
            refine ev_zaldN 7 rfl (by omega) (by decide) hde (pc' := 213) dX2_shift_212 rfl ?_
            refine ev_if_ne (tgt := 224) (pc' := 216) dX2_shift_213 (by decide) rfl (fun h213 => ?_) (fun h213 => ?_)
            · refine ev_iconst (pc' := 225) (v := nI 1) dX2_shift_224 rfl (by decide) ?_
              refine ev_goto (pc' := 229) dX2_shift_225 (by decide) ?_
              exact tl1 h true _ _ rfl (by rw [hE]; exact hh) (by rw [hE]; simp [fre])
            · exact absurd h213 (by decide)
        refine ev_aload_n (pc' := 167) dX2_shift_166 rfl rfl ?_
        refine ev_get inX2 0 8 rfl rfl (by decide) flX2_deletes rfl (pc' := 170) dX2_shift_167 rfl ?_
        refine ev_iload_n (pc' := 171) dX2_shift_170 rfl rfl ?_
        refine ev_zaldN 7 rfl (by omega) (by decide) hde (pc' := 172) dX2_shift_171 rfl ?_
        refine ev_if_eq (tgt := 189) (pc' := 175) dX2_shift_172 (by decide) rfl (fun h172 => ?_) (fun h172 => ?_)
        · exact absurd h172 (by decide)
        · refine ev_iload (pc' := 177) dX2_shift_175 rfl rfl ?_
          refine ev_iload_n (pc' := 178) dX2_shift_177 rfl rfl ?_
          refine ev_icmp_ge (tgt := 185) (pc' := 181) dX2_shift_178 (by decide) rfl (fun h178 => ?_) (fun h178 => ?_)
          · rw [nI_leI (by omega) (by omega)] at h178
            refine ev_iconst (pc' := 186) (v := nI 0) dX2_shift_185 rfl (by decide) ?_
            refine ev_goto (pc' := 200) dX2_shift_186 (by decide) ?_
            exact mid false (by simp [ahd]; omega)
          · rw [nI_leI (by omega) (by omega)] at h178
            refine ev_iconst (pc' := 182) (v := nI 1) dX2_shift_181 rfl (by decide) ?_
            refine ev_goto (pc' := 200) dX2_shift_182 (by decide) ?_
            exact mid true (by simp [ahd]; omega)
      | false =>
        have hde := hre.2.2.2.2.2.2.1
        rw [hE] at hde
        have mid : ∀ h : Bool, h = ahd false false a (spo S c) (sle S c) → Ev g mdX2_shift 200 [some (.ref mo), some (.int (nI (ix S e))), some (.int (nI a)), some (.int (nI (sle S e))), some (.int K4), some (.int K5), some (.int K6), some (.int (nI (ix S c))), some (.int (nI (spo S c))), some (.int (nI (sle S c))), none, none] [.int (bI h)] (wM g mo mr mnd mgv mcu mck mcl msh mhh mnu mpa mfa mti mpo mle mde msr mtl mtx mcp mmk mns) Ph := by
          intro h hh
          refine ev_istore (pc' := 202) (lv' := [_, _, _, _, _, _, _, _, _, _, _, _]) dX2_shift_200 rfl (by decide) (by intro w hw; first | exact Or.inl rfl | (right; have hw := Option.some.inj (Option.some.inj hw); subst hw; first | rfl | exact rf_cat _) | cases hw) rfl ?_
          refine ev_iload (pc' := 204) dX2_shift_202 rfl rfl ?_
          refine ev_if_ne (tgt := 224) (pc' := 207) dX2_shift_204 (by decide) rfl (fun h204 => ?_) (fun h204 => ?_)
          · refine ev_iconst (pc' := 225) (v := nI 1) dX2_shift_224 rfl (by decide) ?_
            refine ev_goto (pc' := 229) dX2_shift_225 (by decide) ?_
            exact tl1 h true _ _ rfl (by rw [hE]; exact hh) (by rw [hE]; unfold fre; rw [← hh, bI_ne.mp h204]; rfl)
          · rw [bI_eq] at h204
            refine ev_aload_n (pc' := 208) dX2_shift_207 rfl rfl ?_
            refine ev_get inX2 0 8 rfl rfl (by decide) flX2_deletes rfl (pc' := 211) dX2_shift_208 rfl ?_
            refine ev_iload_n (pc' := 212) dX2_shift_211 rfl rfl ?_
            refine ev_zaldN 7 rfl (by omega) (by decide) hde (pc' := 213) dX2_shift_212 rfl ?_
            refine ev_if_ne (tgt := 224) (pc' := 216) dX2_shift_213 (by decide) rfl (fun h213 => ?_) (fun h213 => ?_)
            · exact absurd rfl h213
            · refine ev_iload (pc' := 218) dX2_shift_216 rfl rfl ?_
              refine ev_iload_n (pc' := 219) dX2_shift_218 rfl rfl ?_
              refine ev_iload_n (pc' := 220) dX2_shift_219 rfl rfl ?_
              refine ev_iadd (pc' := 221) dX2_shift_220 rfl ?_
              rw [nI_add]
              refine ev_icmp_lt (tgt := 228) (pc' := 224) dX2_shift_221 (by decide) rfl (fun h221 => ?_) (fun h221 => ?_)
              · rw [nI_ltI (by omega) (by omega)] at h221
                refine ev_iconst (pc' := 229) (v := nI 0) dX2_shift_228 rfl (by decide) ?_
                exact tl1 h false _ _ rfl (by rw [hE]; exact hh) (by rw [hE]; unfold fre; rw [← hh, h204]; simp; omega)
              · rw [nI_ltI (by omega) (by omega)] at h221
                refine ev_iconst (pc' := 225) (v := nI 1) dX2_shift_224 rfl (by decide) ?_
                refine ev_goto (pc' := 229) dX2_shift_225 (by decide) ?_
                exact tl1 h true _ _ rfl (by rw [hE]; exact hh) (by rw [hE]; unfold fre; rw [← hh, h204]; simp; omega)
        refine ev_aload_n (pc' := 167) dX2_shift_166 rfl rfl ?_
        refine ev_get inX2 0 8 rfl rfl (by decide) flX2_deletes rfl (pc' := 170) dX2_shift_167 rfl ?_
        refine ev_iload_n (pc' := 171) dX2_shift_170 rfl rfl ?_
        refine ev_zaldN 7 rfl (by omega) (by decide) hde (pc' := 172) dX2_shift_171 rfl ?_
        refine ev_if_eq (tgt := 189) (pc' := 175) dX2_shift_172 (by decide) rfl (fun h172 => ?_) (fun h172 => ?_)
        · refine ev_iload (pc' := 191) dX2_shift_189 rfl rfl ?_
          refine ev_iload_n (pc' := 192) dX2_shift_191 rfl rfl ?_
          refine ev_icmp_gt (tgt := 199) (pc' := 195) dX2_shift_192 (by decide) rfl (fun h192 => ?_) (fun h192 => ?_)
          · rw [nI_ltI (by omega) (by omega)] at h192
            refine ev_iconst (pc' := 200) (v := nI 0) dX2_shift_199 rfl (by decide) ?_
            exact mid false (by simp [ahd]; omega)
          · rw [nI_ltI (by omega) (by omega)] at h192
            refine ev_iconst (pc' := 196) (v := nI 1) dX2_shift_195 rfl (by decide) ?_
            refine ev_goto (pc' := 200) dX2_shift_196 (by decide) ?_
            exact mid true (by simp [ahd]; omega)
        · exact absurd rfl h172
    · exact absurd rfl h97
end M12
end
section
/-! ===== the reference's methods: selective undo, whole ===== -/
section M13
variable {g : EG} {mo : Nat} {mr : Nat → Nat} {mnd mgv mcu mck mcl msh : Int32} {mhh : Int64} {mnu mpa mfa mti mpo mle mde msr mtl mtx mcp mmk mns : Nat → Int32}
variable {S : SS} {N : Nat} {Ph : Option Value → va_W → Prop}
theorem sh_loop (I : Inv N S) (hR : RM S mnd mgv mcu mck mcl msh mhh mnu mpa mfa mti mpo mle mde msr mtl mtx mcp mmk mns) {e : Nat} (he : e ∈ sL S) (hn : 1 ≤ sle S e) {K4 : Int32} : ∀ (m d a x : Nat), d + 1 + m = dep S (scu S) + 1 → (dwn S (scu S))[d]? = some x → shG S e x a → Ev g mdX2_shift 37 [some (.ref mo), some (.int (nI (ix S e))), some (.int (nI a)), some (.int (nI (sle S e))), some (.int K4), some (.int (nI (dep S (scu S)))), some (.int (nI (d + 1))), none, none, none, none, none] [] (wM g mo mr mnd mgv mcu mck mcl msh mhh mnu mpa mfa mti mpo mle mde msr mtl mtx mcp mmk mns) (fun r w => (∀ c, shs S e ((dwn S (scu S)).drop (d + 1)) a = .inr c → c ∈ sL S ∧ r = some (.int (nI (ix S c))) ∧ w = (wM g mo mr mnd mgv mcu mck mcl msh mhh mnu mpa mfa mti mpo mle mde msr mtl mtx mcp mmk mns)) ∧ (∀ a', shs S e ((dwn S (scu S)).drop (d + 1)) a = .inl a' → shG S e (scu S) a' ∧ r = some (.int (-7)) ∧ w = (wM g mo mr mnd mgv mcu mck mcl (nI a') mhh mnu mpa mfa mti mpo mle mde msr mtl mtx mcp mmk mns))) := by
  have T := I.T
  have hc := I.cu
  have e3 := hR.2.2.1
  have hdl := dep_le T _ hc
  have hcl := T.lt hc
  have hlen := dwn_len S (scu S)
  intro m
  induction m with
  | zero =>
    intro d a x hd hx hG
    have hdd : d = dep S (scu S) := by omega
    rw [hdd, dwn_last T hc] at hx
    cases hx
    rw [List.drop_eq_nil_of_le (by omega)]
    refine ev_iload (pc' := 39) dX2_shift_37 rfl rfl ?_
    refine ev_iload (pc' := 41) dX2_shift_39 rfl rfl ?_
    refine ev_icmp_gt (tgt := 259) (pc' := 44) dX2_shift_41 (by decide) rfl (fun h41 => ?_) (fun h41 => ?_)
    · refine ev_aload_n (pc' := 260) dX2_shift_259 rfl rfl ?_
      refine ev_iload_n (pc' := 261) dX2_shift_260 rfl rfl ?_
      refine pX2_shifted rfl (pc' := 264) dX2_shift_261 rfl ?_
      refine ev_bipush (pc' := 266) (v := (-7)) dX2_shift_264 rfl (by decide) ?_
      refine ev_iret rfl dX2_shift_266 ?_
      refine ⟨fun c h => ?_, fun a' h => ?_⟩
      · cases h
      · cases h
        exact ⟨hG, rfl, rfl⟩
    · rw [nI_ltI (by omega) (by omega)] at h41
      omega
  | succ m ih =>
    intro d a x hd hx hG
    obtain ⟨c, hcd⟩ : ∃ c, (dwn S (scu S))[d + 1]? = some c := ⟨_, List.getElem?_eq_getElem (by omega)⟩
    have hcL := (dwn_in T hc hcd).1
    have hxL := (dwn_in T hc hx).1
    have hpar := dwn_par T _ hc d x c hx hcd
    have hdrop : (dwn S (scu S)).drop (d + 1) = c :: (dwn S (scu S)).drop (d + 1 + 1) := by
      have h1 : d + 1 < (dwn S (scu S)).length := by omega
      rw [List.drop_eq_getElem_cons h1]
      rw [List.getElem?_eq_getElem h1] at hcd
      rw [Option.some.inj hcd]
    rw [hdrop]
    have ha40 : a ≤ 40 := by
      have := I.tl hxL
      cases hE : sde S e with
      | false => have := (hG.1 hE).1; omega
      | true => have := hG.2 hE; omega
    have hq40 : spo S c ≤ 40 := by
      have := I.tl hxL
      obtain ⟨-, -, d1, d2⟩ := I.ed hcL hpar
      cases hC : sde S c with
      | false => have := (d2 hC).1; omega
      | true => have := (d1 hC).1; omega
    have hkc := ix_lt T hcL
    rw [show mcu = nI (ix S (scu S)) from e3]
    rw [show mcu = nI (ix S (scu S)) from e3] at ih hR
    refine ev_iload (pc' := 39) dX2_shift_37 rfl rfl ?_
    refine ev_iload (pc' := 41) dX2_shift_39 rfl rfl ?_
    refine ev_icmp_gt (tgt := 259) (pc' := 44) dX2_shift_41 (by decide) rfl (fun h41 => ?_) (fun h41 => ?_)
    · rw [nI_ltI (by omega) (by omega)] at h41
      omega
    · refine ev_aload_n (pc' := 45) dX2_shift_44 rfl rfl ?_
      refine ev_get inX2 0 12 rfl rfl (by decide) flX2_current rfl (pc' := 48) dX2_shift_45 rfl ?_
      refine ev_istore (pc' := 50) (lv' := [_, _, _, _, _, _, _, _, _, _, _, _]) dX2_shift_48 rfl (by decide) (by intro w hw; first | exact Or.inl rfl | (right; have hw := Option.some.inj (Option.some.inj hw); subst hw; first | rfl | exact rf_cat _) | cases hw) rfl ?_
      refine anc_loop T hR (by omega) ?_ (scu S) hc hcd
      refine sh_step I hR he hcL ha40 hq40 ?_
      unfold shs
      refine ev_iload (pc' := 247) dX2_shift_245 rfl rfl ?_
      refine ev_if_ne (tgt := 253) (pc' := 250) dX2_shift_247 (by decide) rfl (fun h247 => ?_) (fun h247 => ?_)
      · rw [bI_ne] at h247
        rw [if_pos h247]
        refine ev_iinc (pc' := 256) (lv' := [_, _, _, _, _, _, _, _, _, _, _, _]) dX2_shift_253 rfl rfl (nI_1 _) (by decide) (by intro w hw; first | exact Or.inl rfl | (right; have hw := Option.some.inj (Option.some.inj hw); subst hw; first | rfl | exact rf_cat _) | cases hw) rfl ?_
        refine ev_goto (pc' := 37) dX2_shift_256 (by decide) ?_
        refine Ev.weak [some (.ref mo), some (.int (nI (ix S e))), some (.int _), some (.int (nI (sle S e))), some (.int K4), some (.int (nI (dep S (scu S)))), some (.int (nI (d + 1 + 1))), none, none, none, none, none] (lw_le_get _ _ (by simp [lw_le]; rfl)) ?_
        exact ih (d + 1) _ c (by omega) hcd (shG_1 I hcL hpar hn hG h247)
      · rw [bI_eq] at h247
        rw [if_neg (by rw [h247]; decide)]
        refine ev_iload (pc' := 252) dX2_shift_250 rfl rfl ?_
        refine ev_iret rfl dX2_shift_252 ?_
        refine ⟨fun c' h => ?_, fun a' h => ?_⟩
        · cases h
          exact ⟨hcL, rfl, rfl⟩
        · cases h
theorem c_shift (I : Inv N S) (hR : RM S mnd mgv mcu mck mcl msh mhh mnu mpa mfa mti mpo mle mde msr mtl mtx mcp mmk mns) {e : Nat} (he : e ∈ sL S) (hz : e ≠ 0) (hp : e ∈ path S (scu S)) : Ret g mdX2_shift [.ref mo, .int (nI (ix S e))] (wM g mo mr mnd mgv mcu mck mcl msh mhh mnu mpa mfa mti mpo mle mde msr mtl mtx mcp mmk mns) (fun r w => (∀ c, shf S e = .inr c → c ∈ sL S ∧ r = some (.int (nI (ix S c))) ∧ w = (wM g mo mr mnd mgv mcu mck mcl msh mhh mnu mpa mfa mti mpo mle mde msr mtl mtx mcp mmk mns)) ∧ (∀ a', shf S e = .inl a' → shG S e (scu S) a' ∧ r = some (.int (-7)) ∧ w = (wM g mo mr mnd mgv mcu mck mcl (nI a') mhh mnu mpa mfa mti mpo mle mde msr mtl mtx mcp mmk mns))) := by
  refine Ret.of [_, _, _, _, _, _, _, _, _, _, _, _] 10 (by decide) (Nat.le_of_ble_eq_true rfl) rfl ?_
  have T := I.T
  have hk := ix_lt T he
  have hr := RM.row hR he
  have hc := I.cu
  have e3 := hR.2.2.1
  subst e3
  obtain ⟨b, hb, -⟩ := T.2.2.2.2.2.2 e he hz
  have hd := dwn_at T _ hc e hp
  have hdl := (List.getElem?_eq_some_iff.mp hd).1
  rw [dwn_len] at hdl
  refine ev_aload_n (pc' := 1) dX2_shift_0 rfl rfl ?_
  refine ev_get inX2 0 6 rfl rfl (by decide) flX2_position rfl (pc' := 4) dX2_shift_1 rfl ?_
  refine ev_iload_n (pc' := 5) dX2_shift_4 rfl rfl ?_
  refine ev_ialdN 5 rfl (by omega) (by decide) hr.2.2.2.2.1 (pc' := 6) dX2_shift_5 rfl ?_
  refine ev_istore_n (pc' := 7) (lv' := [_, _, _, _, _, _, _, _, _, _, _, _]) dX2_shift_6 rfl (by decide) (by intro w hw; first | exact Or.inl rfl | (right; have hw := Option.some.inj (Option.some.inj hw); subst hw; first | rfl | exact rf_cat _) | cases hw) rfl ?_
  refine ev_aload_n (pc' := 8) dX2_shift_7 rfl rfl ?_
  refine ev_get inX2 0 7 rfl rfl (by decide) flX2_length rfl (pc' := 11) dX2_shift_8 rfl ?_
  refine ev_iload_n (pc' := 12) dX2_shift_11 rfl rfl ?_
  refine ev_ialdN 6 rfl (by omega) (by decide) hr.2.2.2.2.2.1 (pc' := 13) dX2_shift_12 rfl ?_
  refine ev_istore_n (pc' := 14) (lv' := [_, _, _, _, _, _, _, _, _, _, _, _]) dX2_shift_13 rfl (by decide) (by intro w hw; first | exact Or.inl rfl | (right; have hw := Option.some.inj (Option.some.inj hw); subst hw; first | rfl | exact rf_cat _) | cases hw) rfl ?_
  refine ev_aload_n (pc' := 15) dX2_shift_14 rfl rfl ?_
  refine ev_iload_n (pc' := 16) dX2_shift_15 rfl rfl ?_
  refine ev_callV (As := [_]) coX2_depth 0 rfl rfl (c_depth T hR he) rfl (by decide) (by first | exact Nat.le_of_ble_eq_true rfl | simp [Value.category, rf_cat]) dX2_shift_16 rfl (pc' := 19) rfl (fun v w hq => ?_)
  obtain ⟨rfl, rfl⟩ := hq
  dsimp only [Option.toList, List.cons_append, List.nil_append]
  refine ev_iconst (pc' := 20) (v := nI 1) dX2_shift_19 rfl (by decide) ?_
  refine ev_iadd (pc' := 21) dX2_shift_20 rfl ?_
  rw [nI_add]
  refine ev_istore (pc' := 23) (lv' := [_, _, _, _, _, _, _, _, _, _, _, _]) dX2_shift_21 rfl (by decide) (by intro w hw; first | exact Or.inl rfl | (right; have hw := Option.some.inj (Option.some.inj hw); subst hw; first | rfl | exact rf_cat _) | cases hw) rfl ?_
  refine ev_aload_n (pc' := 24) dX2_shift_23 rfl rfl ?_
  refine ev_aload_n (pc' := 25) dX2_shift_24 rfl rfl ?_
  refine ev_get inX2 0 12 rfl rfl (by decide) flX2_current rfl (pc' := 28) dX2_shift_25 rfl ?_
  refine ev_callV (As := [_]) coX2_depth 0 rfl rfl (c_depth T hR hc) rfl (by decide) (by first | exact Nat.le_of_ble_eq_true rfl | simp [Value.category, rf_cat]) dX2_shift_28 rfl (pc' := 31) rfl (fun v w hq => ?_)
  obtain ⟨rfl, rfl⟩ := hq
  dsimp only [Option.toList, List.cons_append, List.nil_append]
  refine ev_istore (pc' := 33) (lv' := [_, _, _, _, _, _, _, _, _, _, _, _]) dX2_shift_31 rfl (by decide) (by intro w hw; first | exact Or.inl rfl | (right; have hw := Option.some.inj (Option.some.inj hw); subst hw; first | rfl | exact rf_cat _) | cases hw) rfl ?_
  refine ev_iload (pc' := 35) dX2_shift_33 rfl rfl ?_
  refine ev_istore (pc' := 37) (lv' := [_, _, _, _, _, _, _, _, _, _, _, _]) dX2_shift_35 rfl (by decide) (by intro w hw; first | exact Or.inl rfl | (right; have hw := Option.some.inj (Option.some.inj hw); subst hw; first | rfl | exact rf_cat _) | cases hw) rfl ?_
  exact sh_loop I hR he (I.ed he hb).1 (dep S (scu S) - dep S e) (dep S e) (spo S e) e (by omega) hd (shG_0 I he hb)
theorem c_mconflictWith (I : Inv N S) (hR : RM S mnd mgv mcu mck mcl msh mhh mnu mpa mfa mti mpo mle mde msr mtl mtx mcp mmk mns) (x : Int32) : Ret g mdX2_conflictWith [.ref mo, .int x] (wM g mo mr mnd mgv mcu mck mcl msh mhh mnu mpa mfa mti mpo mle mde msr mtl mtx mcp mmk mns) (fun r w => r = some (.int (aCW S x)) ∧ isM g mo mr S w) := by
  refine Ret.of [_, _, _, _, _] 3 (by decide) (Nat.le_of_ble_eq_true rfl) rfl ?_
  have T := I.T
  refine ev_aload_n (pc' := 1) dX2_conflictWith_0 rfl rfl ?_
  refine ev_iload_n (pc' := 2) dX2_conflictWith_1 rfl rfl ?_
  refine ev_callV (As := [_]) coX2_at 0 rfl rfl (c_at T hR x) rfl (by decide) (by first | exact Nat.le_of_ble_eq_true rfl | simp [Value.category, rf_cat]) dX2_conflictWith_2 rfl (pc' := 5) rfl (fun v w hq => ?_)
  obtain ⟨rfl, rfl⟩ := hq
  dsimp only [Option.toList, List.cons_append, List.nil_append]
  refine ev_istore_n (pc' := 6) (lv' := [_, _, _, _, _]) dX2_conflictWith_5 rfl (by decide) (by intro w hw; first | exact Or.inl rfl | (right; have hw := Option.some.inj (Option.some.inj hw); subst hw; first | rfl | exact rf_cat _) | cases hw) rfl ?_
  refine ev_aload_n (pc' := 7) dX2_conflictWith_6 rfl rfl ?_
  refine ev_iload_n (pc' := 8) dX2_conflictWith_7 rfl rfl ?_
  refine ev_callV (As := [_]) coX2_refusal 0 rfl rfl (c_refusal T hR I.cu x) rfl (by decide) (by first | exact Nat.le_of_ble_eq_true rfl | simp [Value.category, rf_cat]) dX2_conflictWith_8 rfl (pc' := 11) rfl (fun v w hq => ?_)
  obtain ⟨rfl, rfl⟩ := hq
  dsimp only [Option.toList, List.cons_append, List.nil_append]
  refine ev_istore_n (pc' := 12) (lv' := [_, _, _, _, _]) dX2_conflictWith_11 rfl (by decide) (by intro w hw; first | exact Or.inl rfl | (right; have hw := Option.some.inj (Option.some.inj hw); subst hw; first | rfl | exact rf_cat _) | cases hw) rfl ?_
  refine ev_iload_n (pc' := 13) dX2_conflictWith_12 rfl rfl ?_
  refine ev_if_eq (tgt := 18) (pc' := 16) dX2_conflictWith_13 (by decide) rfl (fun h13 => ?_) (fun h13 => ?_)
  · unfold refS at h13
    cases hl : lk S x with
    | none => rw [hl] at h13; exact absurd (show (-2 : Int32) = 0 from h13) (by decide)
    | some e =>
      have he := (lk_some hl).1
      rw [hl] at h13
      have h13' : (if e = 0 ∨ e ∉ path S (scu S) then (-6 : Int32) else 0) = 0 := h13
      by_cases hq : e = 0 ∨ e ∉ path S (scu S)
      · rw [if_pos hq] at h13'
        exact absurd h13' (by decide)
      · have hz : e ≠ 0 := fun q => hq (Or.inl q)
        have hp : e ∈ path S (scu S) := Decidable.byContradiction fun q => hq (Or.inr q)
        rw [aCW_at hl hq, lkI_some hl]
        refine ev_aload_n (pc' := 19) dX2_conflictWith_18 rfl rfl ?_
        refine ev_iload_n (pc' := 20) dX2_conflictWith_19 rfl rfl ?_
        refine ev_callV (As := [_]) coX2_shift 0 rfl rfl (c_shift I hR he hz hp) rfl (by decide) (by first | exact Nat.le_of_ble_eq_true rfl | simp [Value.category, rf_cat]) dX2_conflictWith_20 rfl (pc' := 23) rfl (fun v w hq => ?_)
        cases hs : shf S e with
        | inr c =>
          obtain ⟨hcL, rfl, rfl⟩ := hq.1 c hs
          have hkc := ix_lt T hcL
          dsimp only [Option.toList, List.cons_append, List.nil_append]
          refine ev_istore (pc' := 25) (lv' := [_, _, _, _, _]) dX2_conflictWith_23 rfl (by decide) (by intro w hw; first | exact Or.inl rfl | (right; have hw := Option.some.inj (Option.some.inj hw); subst hw; first | rfl | exact rf_cat _) | cases hw) rfl ?_
          refine ev_iload (pc' := 27) dX2_conflictWith_25 rfl rfl ?_
          refine ev_bipush (pc' := 29) (v := (-7)) dX2_conflictWith_27 rfl (by decide) ?_
          refine ev_icmp_ne (tgt := 37) (pc' := 32) dX2_conflictWith_29 (by decide) rfl (fun h29 => ?_) (fun h29 => ?_)
          · refine ev_aload_n (pc' := 38) dX2_conflictWith_37 rfl rfl ?_
            refine ev_get inX2 0 2 rfl rfl (by decide) flX2_number rfl (pc' := 41) dX2_conflictWith_38 rfl ?_
            refine ev_iload (pc' := 43) dX2_conflictWith_41 rfl rfl ?_
            refine ev_ialdN 1 rfl (by omega) (by decide) (RM.row hR hcL).1 (pc' := 44) dX2_conflictWith_43 rfl ?_
            refine ev_iret rfl dX2_conflictWith_44 ?_
            exact ⟨rfl, isM.of hR⟩
          · exact absurd h29 (nI_m7 (by omega))
        | inl a' =>
          obtain ⟨-, rfl, rfl⟩ := hq.2 a' hs
          dsimp only [Option.toList, List.cons_append, List.nil_append]
          refine ev_istore (pc' := 25) (lv' := [_, _, _, _, _]) dX2_conflictWith_23 rfl (by decide) (by intro w hw; first | exact Or.inl rfl | (right; have hw := Option.some.inj (Option.some.inj hw); subst hw; first | rfl | exact rf_cat _) | cases hw) rfl ?_
          refine ev_iload (pc' := 27) dX2_conflictWith_25 rfl rfl ?_
          refine ev_bipush (pc' := 29) (v := (-7)) dX2_conflictWith_27 rfl (by decide) ?_
          refine ev_icmp_ne (tgt := 37) (pc' := 32) dX2_conflictWith_29 (by decide) rfl (fun h29 => ?_) (fun h29 => ?_)
          · exact absurd rfl h29
          · refine ev_bipush (pc' := 34) (v := (-7)) dX2_conflictWith_32 rfl (by decide) ?_
            refine ev_goto (pc' := 44) dX2_conflictWith_34 (by decide) ?_
            refine ev_iret rfl dX2_conflictWith_44 ?_
            exact ⟨rfl, isM.of hR⟩
  · refine ev_iload_n (pc' := 17) dX2_conflictWith_16 rfl rfl ?_
    refine ev_iret rfl dX2_conflictWith_17 ?_
    refine ⟨?_, isM.of hR⟩
    unfold refS at h13 ⊢
    unfold aCW
    cases hl : lk S x with
    | none => rfl
    | some e =>
      rw [hl] at h13
      have h13' : ¬ (if e = 0 ∨ e ∉ path S (scu S) then (-6 : Int32) else 0) = 0 := h13
      by_cases hq : e = 0 ∨ e ∉ path S (scu S)
      · show some (Value.int (if _ then _ else _)) = some (Value.int (if _ then _ else _))
        rw [if_pos hq, if_pos hq]
      · rw [if_neg hq] at h13'
        exact absurd rfl h13'
theorem ue_loop (T : Tree S) (hR : RM S mnd mgv mcu mck mcl msh mhh mnu mpa mfa mti mpo mle mde msr mtl mtx mcp mmk mns) {e : Nat} (he : e ∈ sL S) (hle : sle S e ≤ 6) (K1 K3 : Int32) : ∀ (m i : Nat) (mns : Nat → Int32), i + m = sle S e → (∀ j, j < i → mns j = ssr S e j) → (∀ mns : Nat → Int32, (∀ j, j < sle S e → mns j = ssr S e j) → Ev g mdX2_undoEdit 115 [some (.ref mo), some (.int K1), some (.int (nI (ix S e))), some (.int K3), none] [] (wM g mo mr mnd mgv mcu mck mcl msh mhh mnu mpa mfa mti mpo mle mde msr mtl mtx mcp mmk mns) Ph) → Ev g mdX2_undoEdit 79 [some (.ref mo), some (.int K1), some (.int (nI (ix S e))), some (.int K3), some (.int (nI i))] [] (wM g mo mr mnd mgv mcu mck mcl msh mhh mnu mpa mfa mti mpo mle mde msr mtl mtx mcp mmk mns) Ph := by
  have hk := ix_lt T he
  have hr := RM.row hR he
  intro m
  induction m with
  | zero =>
    intro i mns hi h1 K
    refine ev_iload (pc' := 81) dX2_undoEdit_79 rfl rfl ?_
    refine ev_aload_n (pc' := 82) dX2_undoEdit_81 rfl rfl ?_
    refine ev_get inX2 0 7 rfl rfl (by decide) flX2_length rfl (pc' := 85) dX2_undoEdit_82 rfl ?_
    refine ev_iload_n (pc' := 86) dX2_undoEdit_85 rfl rfl ?_
    refine ev_ialdN 6 rfl (by omega) (by decide) hr.2.2.2.2.2.1 (pc' := 87) dX2_undoEdit_86 rfl ?_
    refine ev_icmp_ge (tgt := 115) (pc' := 90) dX2_undoEdit_87 (by decide) rfl (fun h87 => ?_) (fun h87 => ?_)
    · exact Ev.weak [some (.ref mo), some (.int K1), some (.int (nI (ix S e))), some (.int K3), none] (lw_le_get _ _ (by simp [lw_le])) (K mns (fun j hj => h1 j (by omega)))
    · exact absurd (nI_le (by omega) (by omega)) h87
  | succ m ih =>
    intro i mns hi h1 K
    refine ev_iload (pc' := 81) dX2_undoEdit_79 rfl rfl ?_
    refine ev_aload_n (pc' := 82) dX2_undoEdit_81 rfl rfl ?_
    refine ev_get inX2 0 7 rfl rfl (by decide) flX2_length rfl (pc' := 85) dX2_undoEdit_82 rfl ?_
    refine ev_iload_n (pc' := 86) dX2_undoEdit_85 rfl rfl ?_
    refine ev_ialdN 6 rfl (by omega) (by decide) hr.2.2.2.2.2.1 (pc' := 87) dX2_undoEdit_86 rfl ?_
    refine ev_icmp_ge (tgt := 115) (pc' := 90) dX2_undoEdit_87 (by decide) rfl (fun h87 => ?_) (fun h87 => ?_)
    · exact absurd h87 (nI_ge (by omega) (by omega))
    · refine ev_aload_n (pc' := 91) dX2_undoEdit_90 rfl rfl ?_
      refine ev_get inX2 0 17 rfl rfl (by decide) flX2_newString rfl (pc' := 94) dX2_undoEdit_91 rfl ?_
      refine ev_iload (pc' := 96) dX2_undoEdit_94 rfl rfl ?_
      refine ev_aload_n (pc' := 97) dX2_undoEdit_96 rfl rfl ?_
      refine ev_get inX2 0 9 rfl rfl (by decide) flX2_string rfl (pc' := 100) dX2_undoEdit_97 rfl ?_
      refine ev_bipush (pc' := 102) (v := nI 6) dX2_undoEdit_100 rfl (by decide) ?_
      refine ev_iload_n (pc' := 103) dX2_undoEdit_102 rfl rfl ?_
      refine ev_imul (pc' := 104) dX2_undoEdit_103 rfl ?_
      refine ev_iload (pc' := 106) dX2_undoEdit_104 rfl rfl ?_
      refine ev_iadd (pc' := 107) dX2_undoEdit_106 rfl ?_
      rw [pk_mul, nI_add]
      refine ev_ialdN 8 rfl (by omega) (by decide) (hr.2.2.2.2.2.2.2.2.1 i (by omega)) (pc' := 108) dX2_undoEdit_107 rfl ?_
      refine ev_iastN 13 rfl (by omega) (by decide) (pc' := 109) dX2_undoEdit_108 rfl (ws' := wM _ _ _ _ _ _ _ _ _ _ _ _ _ _ _ _ _ _ _ _ _ _ _) rfl ?_
      refine ev_iinc (pc' := 112) (lv' := [_, _, _, _, _]) dX2_undoEdit_109 rfl rfl (nI_1 _) (by decide) (by intro w hw; first | exact Or.inl rfl | (right; have hw := Option.some.inj (Option.some.inj hw); subst hw; first | rfl | exact rf_cat _) | cases hw) rfl ?_
      refine ev_goto (pc' := 79) dX2_undoEdit_112 (by decide) ?_
      refine ih (i + 1) _ (by omega) (fun j hj => ?_) K
      by_cases q : j = i
      · rw [q, pk_us]
      · rw [pk_un q]; exact h1 j (by omega)
theorem c_mundoEdit (I : Inv N S) (hN : N ≤ 512) (hR : RM S mnd mgv mcu mck mcl msh mhh mnu mpa mfa mti mpo mle mde msr mtl mtx mcp mmk mns) (x : Int32) : Ret g mdX2_undoEdit [.ref mo, .int x] (wM g mo mr mnd mgv mcu mck mcl msh mhh mnu mpa mfa mti mpo mle mde msr mtl mtx mcp mmk mns) (fun r w => r = some (.int (oUE S x).1) ∧ isM g mo mr (oUE S x).2 w) := by
  refine Ret.of [_, _, _, _, _] 3 (by decide) (Nat.le_of_ble_eq_true rfl) rfl ?_
  have T := I.T
  refine ev_aload_n (pc' := 1) dX2_undoEdit_0 rfl rfl ?_
  refine ev_iload_n (pc' := 2) dX2_undoEdit_1 rfl rfl ?_
  refine ev_callV (As := [_]) coX2_at 0 rfl rfl (c_at T hR x) rfl (by decide) (by first | exact Nat.le_of_ble_eq_true rfl | simp [Value.category, rf_cat]) dX2_undoEdit_2 rfl (pc' := 5) rfl (fun v w hq => ?_)
  obtain ⟨rfl, rfl⟩ := hq
  dsimp only [Option.toList, List.cons_append, List.nil_append]
  refine ev_istore_n (pc' := 6) (lv' := [_, _, _, _, _]) dX2_undoEdit_5 rfl (by decide) (by intro w hw; first | exact Or.inl rfl | (right; have hw := Option.some.inj (Option.some.inj hw); subst hw; first | rfl | exact rf_cat _) | cases hw) rfl ?_
  refine ev_aload_n (pc' := 7) dX2_undoEdit_6 rfl rfl ?_
  refine ev_iload_n (pc' := 8) dX2_undoEdit_7 rfl rfl ?_
  refine ev_callV (As := [_]) coX2_refusal 0 rfl rfl (c_refusal T hR I.cu x) rfl (by decide) (by first | exact Nat.le_of_ble_eq_true rfl | simp [Value.category, rf_cat]) dX2_undoEdit_8 rfl (pc' := 11) rfl (fun v w hq => ?_)
  obtain ⟨rfl, rfl⟩ := hq
  dsimp only [Option.toList, List.cons_append, List.nil_append]
  refine ev_istore_n (pc' := 12) (lv' := [_, _, _, _, _]) dX2_undoEdit_11 rfl (by decide) (by intro w hw; first | exact Or.inl rfl | (right; have hw := Option.some.inj (Option.some.inj hw); subst hw; first | rfl | exact rf_cat _) | cases hw) rfl ?_
  refine ev_iload_n (pc' := 13) dX2_undoEdit_12 rfl rfl ?_
  refine ev_if_eq (tgt := 18) (pc' := 16) dX2_undoEdit_13 (by decide) rfl (fun h13 => ?_) (fun h13 => ?_)
  · unfold refS at h13
    cases hl : lk S x with
    | none => rw [hl] at h13; exact absurd (show (-2 : Int32) = 0 from h13) (by decide)
    | some e =>
      have he := (lk_some hl).1
      rw [hl] at h13
      have h13' : (if e = 0 ∨ e ∉ path S (scu S) then (-6 : Int32) else 0) = 0 := h13
      by_cases hq : e = 0 ∨ e ∉ path S (scu S)
      · rw [if_pos hq] at h13'
        exact absurd h13' (by decide)
      · have hz : e ≠ 0 := fun q => hq (Or.inl q)
        have hp : e ∈ path S (scu S) := Decidable.byContradiction fun q => hq (Or.inr q)
        rw [oUE_at hl hq, lkI_some hl]
        have hk := ix_lt T he
        have hkc := ix_lt T I.cu
        have hr := RM.row hR he
        have hrc := RM.row hR I.cu
        have hle := I.le he
        have h40 := I.tl I.cu
        have hlen := T.len
        have hgv := I.gv
        obtain ⟨b, hb, -⟩ := T.2.2.2.2.2.2 e he hz
        have hn1 := (I.ed he hb).1
        refine ev_aload_n (pc' := 19) dX2_undoEdit_18 rfl rfl ?_
        refine ev_iload_n (pc' := 20) dX2_undoEdit_19 rfl rfl ?_
        refine ev_callV (As := [_]) coX2_shift 0 rfl rfl (c_shift I hR he hz hp) rfl (by decide) (by first | exact Nat.le_of_ble_eq_true rfl | simp [Value.category, rf_cat]) dX2_undoEdit_20 rfl (pc' := 23) rfl (fun v w hq => ?_)
        cases hs : shf S e with
        | inr c =>
          obtain ⟨hcL, rfl, rfl⟩ := hq.1 c hs
          have hkcc := ix_lt T hcL
          dsimp only [Option.toList, List.cons_append, List.nil_append]
          refine ev_bipush (pc' := 25) (v := (-7)) dX2_undoEdit_23 rfl (by decide) ?_
          refine ev_icmp_eq (tgt := 31) (pc' := 28) dX2_undoEdit_25 (by decide) rfl (fun h25 => ?_) (fun h25 => ?_)
          · exact absurd h25 (nI_m7 (by omega))
          · refine ev_bipush (pc' := 30) (v := (-5)) dX2_undoEdit_28 rfl (by decide) ?_
            refine ev_iret rfl dX2_undoEdit_30 ?_
            exact ⟨rfl, isM.of hR⟩
        | inl a' =>
          obtain ⟨hG, rfl, rfl⟩ := hq.2 a' hs
          dsimp only [Option.toList, List.cons_append, List.nil_append]
          have rest : ¬ (sde S e = true ∧ 40 < stl S (scu S) + sle S e) → Ev g mdX2_undoEdit 64 [some (.ref mo), some (.int x), some (.int (nI (ix S e))), some (.int (refS S x)), none] [] (wM g mo mr mnd mgv mcu mck mcl (nI a') mhh mnu mpa mfa mti mpo mle mde msr mtl mtx mcp mmk mns) (fun r w => r = some (.int (if sde S e = true ∧ 40 < stl S (scu S) + sle S e then ((-4 : Int32), S) else if (sL S).length = 24 then ((-3), S) else (nI (sgv S), grw S a' (sle S e) (!sde S e) (ssr S e))).1) ∧ isM g mo mr (if sde S e = true ∧ 40 < stl S (scu S) + sle S e then ((-4 : Int32), S) else if (sL S).length = 24 then ((-3), S) else (nI (sgv S), grw S a' (sle S e) (!sde S e) (ssr S e))).2 w) := by
            intro hno
            rw [if_neg hno]
            have e1 := hR.1
            refine ev_aload_n (pc' := 65) dX2_undoEdit_64 rfl rfl ?_
            refine ev_get inX2 0 0 rfl rfl (by decide) flX2_nodes rfl (pc' := 68) dX2_undoEdit_65 rfl ?_
            refine ev_bipush (pc' := 70) (v := nI 24) dX2_undoEdit_68 rfl (by decide) ?_
            refine ev_icmp_ne (tgt := 76) (pc' := 73) dX2_undoEdit_70 (by decide) rfl (fun h70 => ?_) (fun h70 => ?_)
            · have hl24 : (sL S).length ≠ 24 := fun q => h70 (by rw [e1, q])
              rw [if_neg hl24]
              refine ev_iconst (pc' := 77) (v := nI 0) dX2_undoEdit_76 rfl (by decide) ?_
              refine ev_istore (pc' := 79) (lv' := [_, _, _, _, _]) dX2_undoEdit_77 rfl (by decide) (by intro w hw; first | exact Or.inl rfl | (right; have hw := Option.some.inj (Option.some.inj hw); subst hw; first | rfl | exact rf_cat _) | cases hw) rfl ?_
              refine ue_loop (msh := nI a') (mns := mns) T hR he hle _ _ (sle S e) 0 _ (by omega) (fun j hj => absurd hj (Nat.not_lt_zero j)) (fun mns hns => ?_)
              have cg := c_grow (g := g) (mo := mo) (mr := mr) (msh := nI a') (mhh := mhh) (mns := mns) (p := a') (n := sle S e) (d := !sde S e) (s := ssr S e) T hR (fun a ha => I.tl ha) (fun a ha => I.le ha) I.cu (by omega) (by omega) hn1 hle
                (by
                  cases hE : sde S e with
                  | false => have := (hG.1 hE).1; omega
                  | true => exact hG.2 hE)
                (fun h => by
                  have hE : sde S e = false := by simpa using h
                  exact (hG.1 hE).1)
                (fun h => by
                  have hE : sde S e = true := by simpa using h
                  have : ¬ 40 < stl S (scu S) + sle S e := fun q => hno ⟨hE, q⟩
                  omega) hns
              refine ev_aload_n (pc' := 116) dX2_undoEdit_115 rfl rfl ?_
              refine ev_aload_n (pc' := 117) dX2_undoEdit_116 rfl rfl ?_
              refine ev_get inX2 0 18 rfl rfl (by decide) flX2_shifted rfl (pc' := 120) dX2_undoEdit_117 rfl ?_
              refine ev_aload_n (pc' := 121) dX2_undoEdit_120 rfl rfl ?_
              refine ev_get inX2 0 7 rfl rfl (by decide) flX2_length rfl (pc' := 124) dX2_undoEdit_121 rfl ?_
              refine ev_iload_n (pc' := 125) dX2_undoEdit_124 rfl rfl ?_
              refine ev_ialdN 6 rfl (by omega) (by decide) hr.2.2.2.2.2.1 (pc' := 126) dX2_undoEdit_125 rfl ?_
              refine ev_aload_n (pc' := 127) dX2_undoEdit_126 rfl rfl ?_
              refine ev_get inX2 0 8 rfl rfl (by decide) flX2_deletes rfl (pc' := 130) dX2_undoEdit_127 rfl ?_
              refine ev_iload_n (pc' := 131) dX2_undoEdit_130 rfl rfl ?_
              refine ev_zaldN 7 rfl (by omega) (by decide) hr.2.2.2.2.2.2.1 (pc' := 132) dX2_undoEdit_131 rfl ?_
              refine ev_if_ne (tgt := 139) (pc' := 135) dX2_undoEdit_132 (by decide) rfl (fun h132 => ?_) (fun h132 => ?_)
              · rw [bI_ne] at h132
                rw [h132] at cg ⊢
                refine ev_iconst (pc' := 140) (v := nI 0) dX2_undoEdit_139 rfl (by decide) ?_
                refine ev_callV (As := [_, _, _]) coX2_grow 0 rfl rfl (cg) rfl (by decide) (by first | exact Nat.le_of_ble_eq_true rfl | simp [Value.category, rf_cat]) dX2_undoEdit_140 rfl (pc' := 143) rfl (fun v w hq => ?_)
                obtain ⟨rfl, hw⟩ := hq
                dsimp only [Option.toList, List.cons_append, List.nil_append]
                refine ev_iret rfl dX2_undoEdit_143 ?_
                exact ⟨rfl, hw⟩
              · rw [bI_eq] at h132
                rw [h132] at cg ⊢
                refine ev_iconst (pc' := 136) (v := nI 1) dX2_undoEdit_135 rfl (by decide) ?_
                refine ev_goto (pc' := 140) dX2_undoEdit_136 (by decide) ?_
                refine ev_callV (As := [_, _, _]) coX2_grow 0 rfl rfl (cg) rfl (by decide) (by first | exact Nat.le_of_ble_eq_true rfl | simp [Value.category, rf_cat]) dX2_undoEdit_140 rfl (pc' := 143) rfl (fun v w hq => ?_)
                obtain ⟨rfl, hw⟩ := hq
                dsimp only [Option.toList, List.cons_append, List.nil_append]
                refine ev_iret rfl dX2_undoEdit_143 ?_
                exact ⟨rfl, hw⟩
            · have hl24 : (sL S).length = 24 := nI_inj (by omega) (by omega) (e1.symm.trans h70)
              rw [if_pos hl24]
              refine ev_bipush (pc' := 75) (v := (-3)) dX2_undoEdit_73 rfl (by decide) ?_
              refine ev_iret rfl dX2_undoEdit_75 ?_
              exact ⟨rfl, isM.of hR⟩
          refine ev_bipush (pc' := 25) (v := (-7)) dX2_undoEdit_23 rfl (by decide) ?_
          refine ev_icmp_eq (tgt := 31) (pc' := 28) dX2_undoEdit_25 (by decide) rfl (fun h25 => ?_) (fun h25 => ?_)
          · refine ev_aload_n (pc' := 32) dX2_undoEdit_31 rfl rfl ?_
            refine ev_get inX2 0 8 rfl rfl (by decide) flX2_deletes rfl (pc' := 35) dX2_undoEdit_32 rfl ?_
            refine ev_iload_n (pc' := 36) dX2_undoEdit_35 rfl rfl ?_
            refine ev_zaldN 7 rfl (by omega) (by decide) hr.2.2.2.2.2.2.1 (pc' := 37) dX2_undoEdit_36 rfl ?_
            refine ev_if_eq (tgt := 64) (pc' := 40) dX2_undoEdit_37 (by decide) rfl (fun h37 => ?_) (fun h37 => ?_)
            · rw [bI_eq] at h37
              exact rest (fun q => by rw [h37] at q; exact absurd q.1 (by decide))
            · rw [bI_ne] at h37
              have e3 := hR.2.2.1
              subst e3
              refine ev_aload_n (pc' := 41) dX2_undoEdit_40 rfl rfl ?_
              refine ev_get inX2 0 10 rfl rfl (by decide) flX2_textLength rfl (pc' := 44) dX2_undoEdit_41 rfl ?_
              refine ev_aload_n (pc' := 45) dX2_undoEdit_44 rfl rfl ?_
              refine ev_get inX2 0 12 rfl rfl (by decide) flX2_current rfl (pc' := 48) dX2_undoEdit_45 rfl ?_
              refine ev_ialdN 9 rfl (by omega) (by decide) hrc.2.2.2.2.2.2.2.1 (pc' := 49) dX2_undoEdit_48 rfl ?_
              refine ev_aload_n (pc' := 50) dX2_undoEdit_49 rfl rfl ?_
              refine ev_get inX2 0 7 rfl rfl (by decide) flX2_length rfl (pc' := 53) dX2_undoEdit_50 rfl ?_
              refine ev_iload_n (pc' := 54) dX2_undoEdit_53 rfl rfl ?_
              refine ev_ialdN 6 rfl (by omega) (by decide) hr.2.2.2.2.2.1 (pc' := 55) dX2_undoEdit_54 rfl ?_
              refine ev_iadd (pc' := 56) dX2_undoEdit_55 rfl ?_
              rw [nI_add]
              refine ev_bipush (pc' := 58) (v := nI 40) dX2_undoEdit_56 rfl (by decide) ?_
              refine ev_icmp_le (tgt := 64) (pc' := 61) dX2_undoEdit_58 (by decide) rfl (fun h58 => ?_) (fun h58 => ?_)
              · rw [nI_leI (by omega) (by omega)] at h58
                exact rest (fun q => by omega)
              · rw [nI_leI (by omega) (by omega)] at h58
                refine ev_bipush (pc' := 63) (v := (-4)) dX2_undoEdit_61 rfl (by decide) ?_
                refine ev_iret rfl dX2_undoEdit_63 ?_
                rw [show ueR S e (.inl a') = if sde S e = true ∧ 40 < stl S (scu S) + sle S e then ((-4), S) else if (sL S).length = 24 then ((-3), S) else (nI (sgv S), grw S a' (sle S e) (!sde S e) (ssr S e)) from rfl, if_pos (show sde S e = true ∧ 40 < stl S (scu S) + sle S e from ⟨h37, by omega⟩)]
                exact ⟨rfl, isM.of hR⟩
          · exact absurd rfl h25
  · refine ev_iload_n (pc' := 17) dX2_undoEdit_16 rfl rfl ?_
    refine ev_iret rfl dX2_undoEdit_17 ?_
    unfold refS at h13 ⊢
    unfold oUE
    cases hl : lk S x with
    | none => exact ⟨rfl, isM.of hR⟩
    | some e =>
      rw [hl] at h13
      have h13' : ¬ (if e = 0 ∨ e ∉ path S (scu S) then (-6 : Int32) else 0) = 0 := h13
      by_cases hq : e = 0 ∨ e ∉ path S (scu S)
      · show some (Value.int (if _ then _ else _)) = some (Value.int (if e = 0 ∨ e ∉ path S (scu S) then ((-6), S) else _).1) ∧ isM g mo mr (if e = 0 ∨ e ∉ path S (scu S) then ((-6 : Int32), S) else _).2 _
        rw [if_pos hq, if_pos hq]
        exact ⟨rfl, isM.of hR⟩
      · rw [if_neg hq] at h13'
        exact absurd rfl h13'
end M13
end
section
/-! ===== the reference's methods: forget ===== -/
section M14
variable {g : EG} {mo : Nat} {mr : Nat → Nat} {mnd mgv mcu mck mcl msh : Int32} {mhh : Int64} {mnu mpa mfa mti mpo mle mde msr mtl mtx mcp mmk mns : Nat → Int32}
variable {S : SS} {N : Nat} {Ph : Option Value → va_W → Prop}
theorem cl1_loop {G n : Nat} (hG : G ≤ n) (hn : n < 24) (hbo : ∀ j, j ≤ n → mde j = 0 ∨ mde j = 1) (K : Ev g mdX2_close 138 [some (.ref mo), some (.int (nI G)), none] [] (wM g mo mr (nI n) mgv mcu mck mcl msh mhh (sf 1 mnu G n) (sf 1 mpa G n) (sf 1 mfa G n) (sf 1 mti G n) (sf 1 mpo G n) (sf 1 mle G n) (sf 1 mde G n) msr (sf 1 mtl G n) mtx mcp mmk mns) Ph) : ∀ (m k : Nat), k + m = n → G ≤ k → Ev g mdX2_close 12 [some (.ref mo), some (.int (nI G)), some (.int (nI k))] [] (wM g mo mr (nI n) mgv mcu mck mcl msh mhh (sf 1 mnu G k) (sf 1 mpa G k) (sf 1 mfa G k) (sf 1 mti G k) (sf 1 mpo G k) (sf 1 mle G k) (sf 1 mde G k) msr (sf 1 mtl G k) mtx mcp mmk mns) Ph := by
  intro m
  induction m with
  | zero =>
    intro k hk hGk
    have : k = n := by omega
    subst this
    refine ev_iload_n (pc' := 13) dX2_close_12 rfl rfl ?_
    refine ev_aload_n (pc' := 14) dX2_close_13 rfl rfl ?_
    refine ev_get inX2 0 0 rfl rfl (by decide) flX2_nodes rfl (pc' := 17) dX2_close_14 rfl ?_
    refine ev_icmp_ge (tgt := 138) (pc' := 20) dX2_close_17 (by decide) rfl (fun h17 => ?_) (fun h17 => ?_)
    · exact Ev.weak [some (.ref mo), some (.int (nI G)), none] (lw_le_get _ _ (by simp [lw_le])) K
    · exact absurd (nI_le (by omega) (by omega)) h17
  | succ m ih =>
    intro k hk hGk
    refine ev_iload_n (pc' := 13) dX2_close_12 rfl rfl ?_
    refine ev_aload_n (pc' := 14) dX2_close_13 rfl rfl ?_
    refine ev_get inX2 0 0 rfl rfl (by decide) flX2_nodes rfl (pc' := 17) dX2_close_14 rfl ?_
    refine ev_icmp_ge (tgt := 138) (pc' := 20) dX2_close_17 (by decide) rfl (fun h17 => ?_) (fun h17 => ?_)
    · exact absurd h17 (nI_ge (by omega) (by omega))
    · refine ev_aload_n (pc' := 21) dX2_close_20 rfl rfl ?_
      refine ev_get inX2 0 2 rfl rfl (by decide) flX2_number rfl (pc' := 24) dX2_close_21 rfl ?_
      refine ev_iload_n (pc' := 25) dX2_close_24 rfl rfl ?_
      refine ev_aload_n (pc' := 26) dX2_close_25 rfl rfl ?_
      refine ev_get inX2 0 2 rfl rfl (by decide) flX2_number rfl (pc' := 29) dX2_close_26 rfl ?_
      refine ev_iload_n (pc' := 30) dX2_close_29 rfl rfl ?_
      refine ev_iconst (pc' := 31) (v := nI 1) dX2_close_30 rfl (by decide) ?_
      refine ev_iaddN  (pc' := 32) dX2_close_31 rfl ?_
      refine ev_ialdN 1 rfl (by omega) (by decide) (sf_far (by omega)) (pc' := 33) dX2_close_32 rfl ?_
      refine ev_iastN 1 rfl (by omega) (by decide) (pc' := 34) dX2_close_33 rfl (ws' := wM _ _ _ _ _ _ _ _ _ _ _ _ _ _ _ _ _ _ _ _ _ _ _) rfl ?_
      refine ev_aload_n (pc' := 35) dX2_close_34 rfl rfl ?_
      refine ev_get inX2 0 3 rfl rfl (by decide) flX2_parent rfl (pc' := 38) dX2_close_35 rfl ?_
      refine ev_iload_n (pc' := 39) dX2_close_38 rfl rfl ?_
      refine ev_aload_n (pc' := 40) dX2_close_39 rfl rfl ?_
      refine ev_get inX2 0 3 rfl rfl (by decide) flX2_parent rfl (pc' := 43) dX2_close_40 rfl ?_
      refine ev_iload_n (pc' := 44) dX2_close_43 rfl rfl ?_
      refine ev_iconst (pc' := 45) (v := nI 1) dX2_close_44 rfl (by decide) ?_
      refine ev_iaddN  (pc' := 46) dX2_close_45 rfl ?_
      refine ev_ialdN 2 rfl (by omega) (by decide) (sf_far (by omega)) (pc' := 47) dX2_close_46 rfl ?_
      refine ev_iastN 2 rfl (by omega) (by decide) (pc' := 48) dX2_close_47 rfl (ws' := wM _ _ _ _ _ _ _ _ _ _ _ _ _ _ _ _ _ _ _ _ _ _ _) rfl ?_
      refine ev_aload_n (pc' := 49) dX2_close_48 rfl rfl ?_
      refine ev_get inX2 0 4 rfl rfl (by decide) flX2_favourite rfl (pc' := 52) dX2_close_49 rfl ?_
      refine ev_iload_n (pc' := 53) dX2_close_52 rfl rfl ?_
      refine ev_aload_n (pc' := 54) dX2_close_53 rfl rfl ?_
      refine ev_get inX2 0 4 rfl rfl (by decide) flX2_favourite rfl (pc' := 57) dX2_close_54 rfl ?_
      refine ev_iload_n (pc' := 58) dX2_close_57 rfl rfl ?_
      refine ev_iconst (pc' := 59) (v := nI 1) dX2_close_58 rfl (by decide) ?_
      refine ev_iaddN  (pc' := 60) dX2_close_59 rfl ?_
      refine ev_ialdN 3 rfl (by omega) (by decide) (sf_far (by omega)) (pc' := 61) dX2_close_60 rfl ?_
      refine ev_iastN 3 rfl (by omega) (by decide) (pc' := 62) dX2_close_61 rfl (ws' := wM _ _ _ _ _ _ _ _ _ _ _ _ _ _ _ _ _ _ _ _ _ _ _) rfl ?_
      refine ev_aload_n (pc' := 63) dX2_close_62 rfl rfl ?_
      refine ev_get inX2 0 5 rfl rfl (by decide) flX2_time rfl (pc' := 66) dX2_close_63 rfl ?_
      refine ev_iload_n (pc' := 67) dX2_close_66 rfl rfl ?_
      refine ev_aload_n (pc' := 68) dX2_close_67 rfl rfl ?_
      refine ev_get inX2 0 5 rfl rfl (by decide) flX2_time rfl (pc' := 71) dX2_close_68 rfl ?_
      refine ev_iload_n (pc' := 72) dX2_close_71 rfl rfl ?_
      refine ev_iconst (pc' := 73) (v := nI 1) dX2_close_72 rfl (by decide) ?_
      refine ev_iaddN  (pc' := 74) dX2_close_73 rfl ?_
      refine ev_ialdN 4 rfl (by omega) (by decide) (sf_far (by omega)) (pc' := 75) dX2_close_74 rfl ?_
      refine ev_iastN 4 rfl (by omega) (by decide) (pc' := 76) dX2_close_75 rfl (ws' := wM _ _ _ _ _ _ _ _ _ _ _ _ _ _ _ _ _ _ _ _ _ _ _) rfl ?_
      refine ev_aload_n (pc' := 77) dX2_close_76 rfl rfl ?_
      refine ev_get inX2 0 6 rfl rfl (by decide) flX2_position rfl (pc' := 80) dX2_close_77 rfl ?_
      refine ev_iload_n (pc' := 81) dX2_close_80 rfl rfl ?_
      refine ev_aload_n (pc' := 82) dX2_close_81 rfl rfl ?_
      refine ev_get inX2 0 6 rfl rfl (by decide) flX2_position rfl (pc' := 85) dX2_close_82 rfl ?_
      refine ev_iload_n (pc' := 86) dX2_close_85 rfl rfl ?_
      refine ev_iconst (pc' := 87) (v := nI 1) dX2_close_86 rfl (by decide) ?_
      refine ev_iaddN  (pc' := 88) dX2_close_87 rfl ?_
      refine ev_ialdN 5 rfl (by omega) (by decide) (sf_far (by omega)) (pc' := 89) dX2_close_88 rfl ?_
      refine ev_iastN 5 rfl (by omega) (by decide) (pc' := 90) dX2_close_89 rfl (ws' := wM _ _ _ _ _ _ _ _ _ _ _ _ _ _ _ _ _ _ _ _ _ _ _) rfl ?_
      refine ev_aload_n (pc' := 91) dX2_close_90 rfl rfl ?_
      refine ev_get inX2 0 7 rfl rfl (by decide) flX2_length rfl (pc' := 94) dX2_close_91 rfl ?_
      refine ev_iload_n (pc' := 95) dX2_close_94 rfl rfl ?_
      refine ev_aload_n (pc' := 96) dX2_close_95 rfl rfl ?_
      refine ev_get inX2 0 7 rfl rfl (by decide) flX2_length rfl (pc' := 99) dX2_close_96 rfl ?_
      refine ev_iload_n (pc' := 100) dX2_close_99 rfl rfl ?_
      refine ev_iconst (pc' := 101) (v := nI 1) dX2_close_100 rfl (by decide) ?_
      refine ev_iaddN  (pc' := 102) dX2_close_101 rfl ?_
      refine ev_ialdN 6 rfl (by omega) (by decide) (sf_far (by omega)) (pc' := 103) dX2_close_102 rfl ?_
      refine ev_iastN 6 rfl (by omega) (by decide) (pc' := 104) dX2_close_103 rfl (ws' := wM _ _ _ _ _ _ _ _ _ _ _ _ _ _ _ _ _ _ _ _ _ _ _) rfl ?_
      refine ev_aload_n (pc' := 105) dX2_close_104 rfl rfl ?_
      refine ev_get inX2 0 8 rfl rfl (by decide) flX2_deletes rfl (pc' := 108) dX2_close_105 rfl ?_
      refine ev_iload_n (pc' := 109) dX2_close_108 rfl rfl ?_
      refine ev_aload_n (pc' := 110) dX2_close_109 rfl rfl ?_
      refine ev_get inX2 0 8 rfl rfl (by decide) flX2_deletes rfl (pc' := 113) dX2_close_110 rfl ?_
      refine ev_iload_n (pc' := 114) dX2_close_113 rfl rfl ?_
      refine ev_iconst (pc' := 115) (v := nI 1) dX2_close_114 rfl (by decide) ?_
      refine ev_iaddN  (pc' := 116) dX2_close_115 rfl ?_
      refine ev_zaldN 7 rfl (by omega) (by decide) (sf_far (by omega)) (pc' := 117) dX2_close_116 rfl ?_
      refine ev_zastN 7 rfl (by omega) (by decide) (hbo _ (by omega)) (pc' := 118) dX2_close_117 rfl (ws' := wM _ _ _ _ _ _ _ _ _ _ _ _ _ _ _ _ _ _ _ _ _ _ _) rfl ?_
      refine ev_aload_n (pc' := 119) dX2_close_118 rfl rfl ?_
      refine ev_get inX2 0 10 rfl rfl (by decide) flX2_textLength rfl (pc' := 122) dX2_close_119 rfl ?_
      refine ev_iload_n (pc' := 123) dX2_close_122 rfl rfl ?_
      refine ev_aload_n (pc' := 124) dX2_close_123 rfl rfl ?_
      refine ev_get inX2 0 10 rfl rfl (by decide) flX2_textLength rfl (pc' := 127) dX2_close_124 rfl ?_
      refine ev_iload_n (pc' := 128) dX2_close_127 rfl rfl ?_
      refine ev_iconst (pc' := 129) (v := nI 1) dX2_close_128 rfl (by decide) ?_
      refine ev_iaddN  (pc' := 130) dX2_close_129 rfl ?_
      refine ev_ialdN 9 rfl (by omega) (by decide) (sf_far (by omega)) (pc' := 131) dX2_close_130 rfl ?_
      refine ev_iastN 9 rfl (by omega) (by decide) (pc' := 132) dX2_close_131 rfl (ws' := wM _ _ _ _ _ _ _ _ _ _ _ _ _ _ _ _ _ _ _ _ _ _ _) rfl ?_
      refine ev_iinc (pc' := 135) (lv' := [_, _, _]) dX2_close_132 rfl rfl (nI_1 _) (by decide) (by intro w hw; first | exact Or.inl rfl | (right; have hw := Option.some.inj (Option.some.inj hw); subst hw; first | rfl | exact rf_cat _) | cases hw) rfl ?_
      refine ev_goto (pc' := 12) dX2_close_135 (by decide) ?_
      rw [sf_s hGk, sf_s hGk, sf_s hGk, sf_s hGk, sf_s hGk, sf_s hGk, sf_s hGk, sf_s hGk]
      exact ih (k + 1) (by omega) (by omega)
theorem cl2_loop {G n : Nat} (hG : G ≤ n) (hn : n < 24) (K : Ev g mdX2_close 175 [some (.ref mo), some (.int (nI G)), none] [] (wM g mo mr (nI n) mgv mcu mck mcl msh mhh mnu mpa mfa mti mpo mle mde (sf 6 msr (6 * G) (6 * n)) mtl mtx mcp mmk mns) Ph) : ∀ (m k : Nat), k + m = 6 * n → 6 * G ≤ k → Ev g mdX2_close 143 [some (.ref mo), some (.int (nI G)), some (.int (nI k))] [] (wM g mo mr (nI n) mgv mcu mck mcl msh mhh mnu mpa mfa mti mpo mle mde (sf 6 msr (6 * G) k) mtl mtx mcp mmk mns) Ph := by
  intro m
  induction m with
  | zero =>
    intro k hk hGk
    have : k = 6 * n := by omega
    subst this
    refine ev_iload_n (pc' := 144) dX2_close_143 rfl rfl ?_
    refine ev_bipush (pc' := 146) (v := nI 6) dX2_close_144 rfl (by decide) ?_
    refine ev_aload_n (pc' := 147) dX2_close_146 rfl rfl ?_
    refine ev_get inX2 0 0 rfl rfl (by decide) flX2_nodes rfl (pc' := 150) dX2_close_147 rfl ?_
    refine ev_imulN  (pc' := 151) dX2_close_150 rfl ?_
    refine ev_icmp_ge (tgt := 175) (pc' := 154) dX2_close_151 (by decide) rfl (fun h151 => ?_) (fun h151 => ?_)
    · exact Ev.weak [some (.ref mo), some (.int (nI G)), none] (lw_le_get _ _ (by simp [lw_le])) K
    · exact absurd (nI_le (by omega) (by omega)) h151
  | succ m ih =>
    intro k hk hGk
    refine ev_iload_n (pc' := 144) dX2_close_143 rfl rfl ?_
    refine ev_bipush (pc' := 146) (v := nI 6) dX2_close_144 rfl (by decide) ?_
    refine ev_aload_n (pc' := 147) dX2_close_146 rfl rfl ?_
    refine ev_get inX2 0 0 rfl rfl (by decide) flX2_nodes rfl (pc' := 150) dX2_close_147 rfl ?_
    refine ev_imulN  (pc' := 151) dX2_close_150 rfl ?_
    refine ev_icmp_ge (tgt := 175) (pc' := 154) dX2_close_151 (by decide) rfl (fun h151 => ?_) (fun h151 => ?_)
    · exact absurd h151 (nI_ge (by omega) (by omega))
    · refine ev_aload_n (pc' := 155) dX2_close_154 rfl rfl ?_
      refine ev_get inX2 0 9 rfl rfl (by decide) flX2_string rfl (pc' := 158) dX2_close_155 rfl ?_
      refine ev_iload_n (pc' := 159) dX2_close_158 rfl rfl ?_
      refine ev_aload_n (pc' := 160) dX2_close_159 rfl rfl ?_
      refine ev_get inX2 0 9 rfl rfl (by decide) flX2_string rfl (pc' := 163) dX2_close_160 rfl ?_
      refine ev_iload_n (pc' := 164) dX2_close_163 rfl rfl ?_
      refine ev_bipush (pc' := 166) (v := nI 6) dX2_close_164 rfl (by decide) ?_
      refine ev_iaddN  (pc' := 167) dX2_close_166 rfl ?_
      refine ev_ialdN 8 rfl (by omega) (by decide) (sf_far (by omega)) (pc' := 168) dX2_close_167 rfl ?_
      refine ev_iastN 8 rfl (by omega) (by decide) (pc' := 169) dX2_close_168 rfl (ws' := wM _ _ _ _ _ _ _ _ _ _ _ _ _ _ _ _ _ _ _ _ _ _ _) rfl ?_
      refine ev_iinc (pc' := 172) (lv' := [_, _, _]) dX2_close_169 rfl rfl (nI_1 _) (by decide) (by intro w hw; first | exact Or.inl rfl | (right; have hw := Option.some.inj (Option.some.inj hw); subst hw; first | rfl | exact rf_cat _) | cases hw) rfl ?_
      refine ev_goto (pc' := 143) dX2_close_172 (by decide) ?_
      rw [sf_s hGk]
      exact ih (k + 1) (by omega) (by omega)
theorem cl3_loop {G n : Nat} (hG : G ≤ n) (hn : n < 24) (K : Ev g mdX2_close 212 [some (.ref mo), some (.int (nI G)), none] [] (wM g mo mr (nI n) mgv mcu mck mcl msh mhh mnu mpa mfa mti mpo mle mde msr mtl (sf 40 mtx (40 * G) (40 * n)) mcp mmk mns) Ph) : ∀ (m k : Nat), k + m = 40 * n → 40 * G ≤ k → Ev g mdX2_close 180 [some (.ref mo), some (.int (nI G)), some (.int (nI k))] [] (wM g mo mr (nI n) mgv mcu mck mcl msh mhh mnu mpa mfa mti mpo mle mde msr mtl (sf 40 mtx (40 * G) k) mcp mmk mns) Ph := by
  intro m
  induction m with
  | zero =>
    intro k hk hGk
    have : k = 40 * n := by omega
    subst this
    refine ev_iload_n (pc' := 181) dX2_close_180 rfl rfl ?_
    refine ev_bipush (pc' := 183) (v := nI 40) dX2_close_181 rfl (by decide) ?_
    refine ev_aload_n (pc' := 184) dX2_close_183 rfl rfl ?_
    refine ev_get inX2 0 0 rfl rfl (by decide) flX2_nodes rfl (pc' := 187) dX2_close_184 rfl ?_
    refine ev_imulN  (pc' := 188) dX2_close_187 rfl ?_
    refine ev_icmp_ge (tgt := 212) (pc' := 191) dX2_close_188 (by decide) rfl (fun h188 => ?_) (fun h188 => ?_)
    · exact Ev.weak [some (.ref mo), some (.int (nI G)), none] (lw_le_get _ _ (by simp [lw_le])) K
    · exact absurd (nI_le (by omega) (by omega)) h188
  | succ m ih =>
    intro k hk hGk
    refine ev_iload_n (pc' := 181) dX2_close_180 rfl rfl ?_
    refine ev_bipush (pc' := 183) (v := nI 40) dX2_close_181 rfl (by decide) ?_
    refine ev_aload_n (pc' := 184) dX2_close_183 rfl rfl ?_
    refine ev_get inX2 0 0 rfl rfl (by decide) flX2_nodes rfl (pc' := 187) dX2_close_184 rfl ?_
    refine ev_imulN  (pc' := 188) dX2_close_187 rfl ?_
    refine ev_icmp_ge (tgt := 212) (pc' := 191) dX2_close_188 (by decide) rfl (fun h188 => ?_) (fun h188 => ?_)
    · exact absurd h188 (nI_ge (by omega) (by omega))
    · refine ev_aload_n (pc' := 192) dX2_close_191 rfl rfl ?_
      refine ev_get inX2 0 11 rfl rfl (by decide) flX2_text rfl (pc' := 195) dX2_close_192 rfl ?_
      refine ev_iload_n (pc' := 196) dX2_close_195 rfl rfl ?_
      refine ev_aload_n (pc' := 197) dX2_close_196 rfl rfl ?_
      refine ev_get inX2 0 11 rfl rfl (by decide) flX2_text rfl (pc' := 200) dX2_close_197 rfl ?_
      refine ev_iload_n (pc' := 201) dX2_close_200 rfl rfl ?_
      refine ev_bipush (pc' := 203) (v := nI 40) dX2_close_201 rfl (by decide) ?_
      refine ev_iaddN  (pc' := 204) dX2_close_203 rfl ?_
      refine ev_ialdN 10 rfl (by omega) (by decide) (sf_far (by omega)) (pc' := 205) dX2_close_204 rfl ?_
      refine ev_iastN 10 rfl (by omega) (by decide) (pc' := 206) dX2_close_205 rfl (ws' := wM _ _ _ _ _ _ _ _ _ _ _ _ _ _ _ _ _ _ _ _ _ _ _) rfl ?_
      refine ev_iinc (pc' := 209) (lv' := [_, _, _]) dX2_close_206 rfl rfl (nI_1 _) (by decide) (by intro w hw; first | exact Or.inl rfl | (right; have hw := Option.some.inj (Option.some.inj hw); subst hw; first | rfl | exact rf_cat _) | cases hw) rfl ?_
      refine ev_goto (pc' := 180) dX2_close_209 (by decide) ?_
      rw [sf_s hGk]
      exact ih (k + 1) (by omega) (by omega)
theorem RM.rmv (T : Tree S) (hR : RM S mnd mgv mcu mck mcl msh mhh mnu mpa mfa mti mpo mle mde msr mtl mtx mcp mmk mns) (ht : ∀ a ∈ sL S, stl S a ≤ 40) (hle : ∀ a ∈ sL S, sle S a ≤ 6) {e n : Nat} (he : e ∈ sL S) (hT : Tree (rmv S e)) (hc : scu S ∈ sL S) (hce : scu S ≠ e) (hn : n + 1 = (sL S).length) : RM (_root_.Jvm.Pilot.CEditTreeLaw_law_r5647_5301c2.rmv S e) (nI n) mgv (nI (ix (_root_.Jvm.Pilot.CEditTreeLaw_law_r5647_5301c2.rmv S e) (scu S))) mck mcl msh mhh (sf 1 mnu (ix S e) n) (sf 1 mpa (ix S e) n) (sf 1 mfa (ix S e) n) (sf 1 mti (ix S e) n) (sf 1 mpo (ix S e) n) (sf 1 mle (ix S e) n) (sf 1 mde (ix S e) n) (sf 6 msr (6 * ix S e) (6 * n)) (sf 1 mtl (ix S e) n) (sf 40 mtx (40 * ix S e) (40 * n)) mcp mmk mns := by
  refine ⟨?_, hR.2.1, rfl, hR.2.2.2.1, hR.2.2.2.2.1, fun a ha => ?_, hR.2.2.2.2.2.2.1, hR.2.2.2.2.2.2.2⟩
  · rw [rmv_len he, ← hn, Nat.add_sub_cancel]
  · obtain ⟨h1, h2⟩ := (rmv_mem T he).mp ha
    have hr := RM.row hR h1
    have hk := ix_len h1
    have h40 := ht a h1
    have h6 := hle a h1
    have key : ∀ f : Nat → Int32, sf 1 f (ix S e) n (ix (_root_.Jvm.Pilot.CEditTreeLaw_law_r5647_5301c2.rmv S e) a) = f (ix S a) := by
      intro f
      rcases rmv_ix T he hT h1 h2 with ⟨q1, q2⟩ | ⟨q1, q2⟩
      · rw [q2, sf_lo q1]
      · rw [sf_in (by omega) (by omega), q2]
    refine ⟨(key _).trans hr.1, (key _).trans hr.2.1, (key _).trans hr.2.2.1, (key _).trans hr.2.2.2.1, (key _).trans hr.2.2.2.2.1, (key _).trans hr.2.2.2.2.2.1, (key _).trans hr.2.2.2.2.2.2.1, (key _).trans hr.2.2.2.2.2.2.2.1, fun i hi => ?_, fun i hi => ?_⟩
    · have hi : i < sle S a := hi
      have h9 := hr.2.2.2.2.2.2.2.2.1 i hi
      rcases rmv_ix T he hT h1 h2 with ⟨q1, q2⟩ | ⟨q1, q2⟩
      · rw [q2, sf_lo (by omega)]; exact h9
      · rw [sf_in (by omega) (by omega), show 6 * ix (_root_.Jvm.Pilot.CEditTreeLaw_law_r5647_5301c2.rmv S e) a + i + 6 = 6 * ix S a + i by omega]; exact h9
    · have hi : i < stl S a := hi
      have h9 := hr.2.2.2.2.2.2.2.2.2 i hi
      rcases rmv_ix T he hT h1 h2 with ⟨q1, q2⟩ | ⟨q1, q2⟩
      · rw [q2, sf_lo (by omega)]; exact h9
      · rw [sf_in (by omega) (by omega), show 40 * ix (_root_.Jvm.Pilot.CEditTreeLaw_law_r5647_5301c2.rmv S e) a + i + 40 = 40 * ix S a + i by omega]; exact h9
theorem c_close (T : Tree S) (hR : RM S mnd mgv mcu mck mcl msh mhh mnu mpa mfa mti mpo mle mde msr mtl mtx mcp mmk mns) (ht : ∀ a ∈ sL S, stl S a ≤ 40) (hle : ∀ a ∈ sL S, sle S a ≤ 6) {e : Nat} (he : e ∈ sL S) (hT : Tree (rmv S e)) (hc : scu S ∈ sL S) (hce : scu S ≠ e) : Ret g mdX2_close [.ref mo, .int (nI (ix S e))] (wM g mo mr mnd mgv mcu mck mcl msh mhh mnu mpa mfa mti mpo mle mde msr mtl mtx mcp mmk mns) (fun r w => r = none ∧ isM g mo mr (rmv S e) w) := by
  refine Ret.of [_, _, _] 1 (by decide) (Nat.le_of_ble_eq_true rfl) rfl ?_
  have hk := ix_len he
  have hlen := T.len
  obtain ⟨n, hn⟩ : ∃ n, n + 1 = (sL S).length := ⟨(sL S).length - 1, by omega⟩
  have hR2 := RM.rmv T hR ht hle he hT hc hce hn
  obtain ⟨rfl, e2, rfl, e4⟩ := id hR
  rw [← hn]
  refine ev_aload_n (pc' := 1) dX2_close_0 rfl rfl ?_
  refine ev_dup (pc' := 2) dX2_close_1 rfl (by first | rfl | exact rf_cat _) ?_
  refine ev_get inX2 0 0 rfl rfl (by decide) flX2_nodes rfl (pc' := 5) dX2_close_2 rfl ?_
  refine ev_iconst (pc' := 6) (v := nI 1) dX2_close_5 rfl (by decide) ?_
  refine ev_isubN (by omega) (pc' := 7) dX2_close_6 rfl ?_
  refine pX2_nodes rfl (pc' := 10) dX2_close_7 rfl ?_
  refine ev_iload_n (pc' := 11) dX2_close_10 rfl rfl ?_
  refine ev_istore_n (pc' := 12) (lv' := [_, _, _]) dX2_close_11 rfl (by decide) (by intro w hw; first | exact Or.inl rfl | (right; have hw := Option.some.inj (Option.some.inj hw); subst hw; first | rfl | exact rf_cat _) | cases hw) rfl ?_
  have e0 : ∀ f : Nat → Int32, f = sf 1 f (ix S e) (ix S e) := fun f => (sf_0 1 f _).symm
  refine Ev.eq rfl rfl rfl (ws2 := (wM g mo mr (nI n) mgv (nI (ix S (scu S))) mck mcl msh mhh (sf 1 mnu (ix S e) (ix S e)) (sf 1 mpa (ix S e) (ix S e)) (sf 1 mfa (ix S e) (ix S e)) (sf 1 mti (ix S e) (ix S e)) (sf 1 mpo (ix S e) (ix S e)) (sf 1 mle (ix S e) (ix S e)) (sf 1 mde (ix S e) (ix S e)) msr (sf 1 mtl (ix S e) (ix S e)) mtx mcp mmk mns)) (by rw [← e0, ← e0, ← e0, ← e0, ← e0, ← e0, ← e0, ← e0]; rfl) ?_
  have hbo : ∀ j, j ≤ n → mde j = 0 ∨ mde j = 1 := fun j hj => by
    obtain ⟨b, hb, rfl⟩ := ix_at T (show j < (sL S).length by omega)
    rw [(RM.row hR hb).2.2.2.2.2.2.1]
    cases sde S b <;> simp [bI] <;> decide
  refine cl1_loop (by omega) (by omega) hbo ?_ (n - ix S e) (ix S e) (by omega) (Nat.le_refl _)
  refine ev_bipush (pc' := 140) (v := nI 6) dX2_close_138 rfl (by decide) ?_
  refine ev_iload_n (pc' := 141) dX2_close_140 rfl rfl ?_
  refine ev_imulN  (pc' := 142) dX2_close_141 rfl ?_
  refine ev_istore_n (pc' := 143) (lv' := [_, _, _]) dX2_close_142 rfl (by decide) (by intro w hw; first | exact Or.inl rfl | (right; have hw := Option.some.inj (Option.some.inj hw); subst hw; first | rfl | exact rf_cat _) | cases hw) rfl ?_
  refine Ev.eq rfl rfl rfl (ws2 := (wM g mo mr (nI n) mgv (nI (ix S (scu S))) mck mcl msh mhh (sf 1 mnu (ix S e) n) (sf 1 mpa (ix S e) n) (sf 1 mfa (ix S e) n) (sf 1 mti (ix S e) n) (sf 1 mpo (ix S e) n) (sf 1 mle (ix S e) n) (sf 1 mde (ix S e) n) (sf 6 msr (6 * ix S e) (6 * ix S e)) (sf 1 mtl (ix S e) n) mtx mcp mmk mns)) (by rw [sf_0]) ?_
  refine cl2_loop (by omega) (by omega) ?_ (6 * n - 6 * ix S e) (6 * ix S e) (by omega) (Nat.le_refl _)
  refine ev_bipush (pc' := 177) (v := nI 40) dX2_close_175 rfl (by decide) ?_
  refine ev_iload_n (pc' := 178) dX2_close_177 rfl rfl ?_
  refine ev_imulN  (pc' := 179) dX2_close_178 rfl ?_
  refine ev_istore_n (pc' := 180) (lv' := [_, _, _]) dX2_close_179 rfl (by decide) (by intro w hw; first | exact Or.inl rfl | (right; have hw := Option.some.inj (Option.some.inj hw); subst hw; first | rfl | exact rf_cat _) | cases hw) rfl ?_
  refine Ev.eq rfl rfl rfl (ws2 := (wM g mo mr (nI n) mgv (nI (ix S (scu S))) mck mcl msh mhh (sf 1 mnu (ix S e) n) (sf 1 mpa (ix S e) n) (sf 1 mfa (ix S e) n) (sf 1 mti (ix S e) n) (sf 1 mpo (ix S e) n) (sf 1 mle (ix S e) n) (sf 1 mde (ix S e) n) (sf 6 msr (6 * ix S e) (6 * n)) (sf 1 mtl (ix S e) n) (sf 40 mtx (40 * ix S e) (40 * ix S e)) mcp mmk mns)) (by rw [sf_0]) ?_
  refine cl3_loop (by omega) (by omega) ?_ (40 * n - 40 * ix S e) (40 * ix S e) (by omega) (Nat.le_refl _)
  have hkc := ix_lt T hc
  refine ev_aload_n (pc' := 213) dX2_close_212 rfl rfl ?_
  refine ev_dup (pc' := 214) dX2_close_213 rfl (by first | rfl | exact rf_cat _) ?_
  refine ev_get inX2 0 12 rfl rfl (by decide) flX2_current rfl (pc' := 217) dX2_close_214 rfl ?_
  refine ev_aload_n (pc' := 218) dX2_close_217 rfl rfl ?_
  refine ev_get inX2 0 12 rfl rfl (by decide) flX2_current rfl (pc' := 221) dX2_close_218 rfl ?_
  refine ev_iload_n (pc' := 222) dX2_close_221 rfl rfl ?_
  refine ev_icmp_le (tgt := 229) (pc' := 225) dX2_close_222 (by decide) rfl (fun h222 => ?_) (fun h222 => ?_)
  · rw [nI_leI (by omega) (by omega)] at h222
    refine ev_iconst (pc' := 230) (v := nI 0) dX2_close_229 rfl (by decide) ?_
    refine ev_isubN (by omega) (pc' := 231) dX2_close_230 rfl ?_
    refine pX2_current rfl (pc' := 234) dX2_close_231 rfl ?_
    refine ev_vret rfl dX2_close_234 ?_
    refine ⟨rfl, ?_⟩
    rcases rmv_ix T he hT hc hce with ⟨q1, q2⟩ | ⟨q1, q2⟩
    · rw [Nat.sub_zero, ← q2]; exact isM.of hR2
    · omega
  · rw [nI_leI (by omega) (by omega)] at h222
    refine ev_iconst (pc' := 226) (v := nI 1) dX2_close_225 rfl (by decide) ?_
    refine ev_goto (pc' := 230) dX2_close_226 (by decide) ?_
    refine ev_isubN (by omega) (pc' := 231) dX2_close_230 rfl ?_
    refine pX2_current rfl (pc' := 234) dX2_close_231 rfl ?_
    refine ev_vret rfl dX2_close_234 ?_
    refine ⟨rfl, ?_⟩
    rcases rmv_ix T he hT hc hce with ⟨q1, q2⟩ | ⟨q1, q2⟩
    · omega
    · rw [← q2, Nat.add_sub_cancel]; exact isM.of hR2
theorem c_mforget (I : Inv N S) (hR : RM S mnd mgv mcu mck mcl msh mhh mnu mpa mfa mti mpo mle mde msr mtl mtx mcp mmk mns) (x : Int32) : Ret g mdX2_forget [.ref mo, .int x] (wM g mo mr mnd mgv mcu mck mcl msh mhh mnu mpa mfa mti mpo mle mde msr mtl mtx mcp mmk mns) (fun r w => r = some (.int (oFgt S x).1) ∧ isM g mo mr (oFgt S x).2 w) := by
  refine Ret.of [_, _, _, _, _] 3 (by decide) (Nat.le_of_ble_eq_true rfl) rfl ?_
  have T := I.T
  refine ev_aload_n (pc' := 1) dX2_forget_0 rfl rfl ?_
  refine ev_iload_n (pc' := 2) dX2_forget_1 rfl rfl ?_
  refine ev_callV (As := [_]) coX2_at 0 rfl rfl (c_at T hR x) rfl (by decide) (by first | exact Nat.le_of_ble_eq_true rfl | simp [Value.category, rf_cat]) dX2_forget_2 rfl (pc' := 5) rfl (fun v w hq => ?_)
  obtain ⟨rfl, rfl⟩ := hq
  dsimp only [Option.toList, List.cons_append, List.nil_append]
  refine ev_istore_n (pc' := 6) (lv' := [_, _, _, _, _]) dX2_forget_5 rfl (by decide) (by intro w hw; first | exact Or.inl rfl | (right; have hw := Option.some.inj (Option.some.inj hw); subst hw; first | rfl | exact rf_cat _) | cases hw) rfl ?_
  refine ev_iload_n (pc' := 7) dX2_forget_6 rfl rfl ?_
  refine ev_bipush (pc' := 9) (v := (-7)) dX2_forget_7 rfl (by decide) ?_
  refine ev_icmp_ne (tgt := 15) (pc' := 12) dX2_forget_9 (by decide) rfl (fun h9 => ?_) (fun h9 => ?_)
  · cases hl : lk S x with
    | none => exact absurd (lkI_none hl) h9
    | some e =>
      obtain ⟨he, rfl⟩ := lk_some hl
      have hk := ix_lt T he
      rw [lkI_some hl]
      refine ev_aload_n (pc' := 16) dX2_forget_15 rfl rfl ?_
      refine ev_iload_n (pc' := 17) dX2_forget_16 rfl rfl ?_
      refine ev_callV (As := [_]) coX2_isLoose 0 rfl rfl (c_isLoose I hR he) rfl (by decide) (by first | exact Nat.le_of_ble_eq_true rfl | simp [Value.category, rf_cat]) dX2_forget_17 rfl (pc' := 20) rfl (fun v w hq => ?_)
      obtain ⟨rfl, rfl⟩ := hq
      dsimp only [Option.toList, List.cons_append, List.nil_append]
      refine ev_if_ne (tgt := 26) (pc' := 23) dX2_forget_20 (by decide) rfl (fun h20 => ?_) (fun h20 => ?_)
      · rw [bI_ne] at h20
        obtain ⟨hz, hce, -, -⟩ := loose_of h20
        obtain ⟨p, hp, hpL, hpe⟩ := T.2.2.2.2.2.2 e he hz
        have hT := rmv_T T he hz (loose_ch h20)
        have hp1 : p ∈ sL (rmv S e) := (rmv_mem T he).mpr ⟨hpL, by omega⟩
        have hkp := ix_lt hT hp1
        have hplt := T.lt hpL
        have helt := T.lt he
        have hlen1 := hT.len
        have e2 := (RM.row hR he).2.1
        rw [hp] at e2
        rw [oFgt_y hl h20 hp]
        show Ev g mdX2_forget 26 _ [] _ (fun r w => r = some (.int (nI ((sL S).length - 1))) ∧ isM g mo mr (fgS S e p) w)
        unfold fgS
        refine ev_aload_n (pc' := 27) dX2_forget_26 rfl rfl ?_
        refine ev_get inX2 0 3 rfl rfl (by decide) flX2_parent rfl (pc' := 30) dX2_forget_27 rfl ?_
        refine ev_iload_n (pc' := 31) dX2_forget_30 rfl rfl ?_
        refine ev_ialdN 2 rfl (by omega) (by decide) e2 (pc' := 32) dX2_forget_31 rfl ?_
        refine ev_istore_n (pc' := 33) (lv' := [_, _, _, _, _]) dX2_forget_32 rfl (by decide) (by intro w hw; first | exact Or.inl rfl | (right; have hw := Option.some.inj (Option.some.inj hw); subst hw; first | rfl | exact rf_cat _) | cases hw) rfl ?_
        refine ev_aload_n (pc' := 34) dX2_forget_33 rfl rfl ?_
        refine ev_iload_n (pc' := 35) dX2_forget_34 rfl rfl ?_
        refine ev_callV (As := [_]) coX2_close 0 rfl rfl (c_close T hR (fun a ha => I.tl ha) (fun a ha => I.le ha) he hT I.cu (fun q => hce q.symm)) rfl (by decide) (by first | exact Nat.le_of_ble_eq_true rfl | simp [Value.category, rf_cat]) dX2_forget_35 rfl (pc' := 38) rfl (fun v w hq => ?_)
        obtain ⟨rfl, nd2, gv2, cu2, ck2, cl2, sh2, hh2, nu2, pa2, fa2, ti2, po2, le2, de2, sr2, tl2, tx2, cp2, mk2, ns2, rfl, hR2⟩ := hq
        dsimp only [Option.toList, List.cons_append, List.nil_append]
        have e5 : lkI (rmv S e) (oI (some p)) = nI (ix (rmv S e) p) := lkI_some (lk_of hT hp1)
        refine ev_aload_n (pc' := 39) dX2_forget_38 rfl rfl ?_
        refine ev_iload_n (pc' := 40) dX2_forget_39 rfl rfl ?_
        refine ev_callV (As := [_]) coX2_at 0 rfl rfl (c_at hT hR2 _) rfl (by decide) (by first | exact Nat.le_of_ble_eq_true rfl | simp [Value.category, rf_cat]) dX2_forget_40 rfl (pc' := 43) rfl (fun v w hq => ?_)
        obtain ⟨rfl, rfl⟩ := hq
        dsimp only [Option.toList, List.cons_append, List.nil_append]
        rw [e5]
        have e6 := hR2.1
        rw [rmv_len he] at e6
        subst e6
        have hfr : fa2 (ix (rmv S e) p) = oI (sfa S p) := (RM.row hR2 hp1).2.2.1
        have feq : oI (sfa S p) = nI e ↔ sfa S p = some e := oI_eqI (fun c hc => by have := T.lt (I.fa hpL hc).1; omega) (by omega)
        refine ev_istore (pc' := 45) (lv' := [_, _, _, _, _]) dX2_forget_43 rfl (by decide) (by intro w hw; first | exact Or.inl rfl | (right; have hw := Option.some.inj (Option.some.inj hw); subst hw; first | rfl | exact rf_cat _) | cases hw) rfl ?_
        refine ev_aload_n (pc' := 46) dX2_forget_45 rfl rfl ?_
        refine ev_get inX2 0 4 rfl rfl (by decide) flX2_favourite rfl (pc' := 49) dX2_forget_46 rfl ?_
        refine ev_iload (pc' := 51) dX2_forget_49 rfl rfl ?_
        refine ev_ialdN 3 rfl (by omega) (by decide) hfr (pc' := 52) dX2_forget_51 rfl ?_
        refine ev_iload_n (pc' := 53) dX2_forget_52 rfl rfl ?_
        refine ev_icmp_ne (tgt := 77) (pc' := 56) dX2_forget_53 (by decide) rfl (fun h53 => ?_) (fun h53 => ?_)
        · rw [feq] at h53
          rw [if_neg h53]
          refine ev_aload_n (pc' := 78) dX2_forget_77 rfl rfl ?_
          refine ev_get inX2 0 0 rfl rfl (by decide) flX2_nodes rfl (pc' := 81) dX2_forget_78 rfl ?_
          refine ev_iret rfl dX2_forget_81 ?_
          exact ⟨rfl, isM.of hR2⟩
        · rw [feq] at h53
          rw [if_pos h53]
          refine ev_aload_n (pc' := 57) dX2_forget_56 rfl rfl ?_
          refine ev_get inX2 0 4 rfl rfl (by decide) flX2_favourite rfl (pc' := 60) dX2_forget_57 rfl ?_
          refine ev_iload (pc' := 62) dX2_forget_60 rfl rfl ?_
          refine ev_aload_n (pc' := 63) dX2_forget_62 rfl rfl ?_
          refine ev_iload (pc' := 65) dX2_forget_63 rfl rfl ?_
          refine ev_aload_n (pc' := 66) dX2_forget_65 rfl rfl ?_
          refine ev_iload (pc' := 68) dX2_forget_66 rfl rfl ?_
          refine ev_callV (As := [_]) coX2_childMany 0 rfl rfl (c_childMany hT hR2 hp1) rfl (by decide) (by first | exact Nat.le_of_ble_eq_true rfl | simp [Value.category, rf_cat]) dX2_forget_68 rfl (pc' := 71) rfl (fun v w hq => ?_)
          obtain ⟨rfl, rfl⟩ := hq
          dsimp only [Option.toList, List.cons_append, List.nil_append]
          refine ev_iconst (pc' := 72) (v := nI 1) dX2_forget_71 rfl (by decide) ?_
          refine ev_isub (pc' := 73) dX2_forget_72 rfl ?_
          refine ev_callV (As := [_, _]) coX2_child 0 rfl rfl (c_child hT hR2 hp1 _) rfl (by decide) (by first | exact Nat.le_of_ble_eq_true rfl | simp [Value.category, rf_cat]) dX2_forget_73 rfl (pc' := 76) rfl (fun v w hq => ?_)
          obtain ⟨rfl, rfl⟩ := hq
          dsimp only [Option.toList, List.cons_append, List.nil_append]
          rw [show chO (spa (rmv S e)) p (nI (chN (rmv S e) p) - nI 1) (sL (rmv S e)) 0 = oI (nch (spa S) p (sL (rmv S e))) from chO_last _ _ _ (by omega)]
          refine ev_iastN 3 rfl (by omega) (by decide) (pc' := 77) dX2_forget_76 rfl (ws' := wM _ _ _ _ _ _ _ _ _ _ _ _ _ _ _ _ _ _ _ _ _ _ _) rfl ?_
          refine ev_aload_n (pc' := 78) dX2_forget_77 rfl rfl ?_
          refine ev_get inX2 0 0 rfl rfl (by decide) flX2_nodes rfl (pc' := 81) dX2_forget_78 rfl ?_
          refine ev_iret rfl dX2_forget_81 ?_
          refine ⟨rfl, isM.of ⟨hR2.1, hR2.2.1, hR2.2.2.1, hR2.2.2.2.1, hR2.2.2.2.2.1, fun a ha => ?_, hR2.2.2.2.2.2.2.1, hR2.2.2.2.2.2.2.2⟩⟩
          have h := hR2.2.2.2.2.2.1 a ha
          refine ⟨h.1, h.2.1, ?_, h.2.2.2⟩
          show upd fa2 (ix (rmv S e) p) (oI (nch (spa S) p (sL (rmv S e)))) (ix (rmv S e) a) = oI (va_up (sfa S) p (nch (spa S) p (sL (rmv S e))) a)
          by_cases q : a = p
          · rw [q, pk_us, va_up_self]
          · rw [pk_un (fun z => q (ix_inj hT ha hp1 z)), va_up_ne _ _ q]; exact h.2.2.1
      · rw [bI_eq] at h20
        rw [oFgt_n hl h20]
        refine ev_bipush (pc' := 25) (v := (-6)) dX2_forget_23 rfl (by decide) ?_
        refine ev_iret rfl dX2_forget_25 ?_
        exact ⟨rfl, isM.of hR⟩
  · refine ev_bipush (pc' := 14) (v := (-2)) dX2_forget_12 rfl (by decide) ?_
    refine ev_iret rfl dX2_forget_14 ?_
    rw [oFgt_0 ((lkI_m7 T).mp h9)]
    exact ⟨rfl, isM.of hR⟩
end M14
end
section
/-! ===== the landed class: rows over its world ===== -/
section XR
variable {g : EG} {xo an ac am : Nat} {LN LT : List Nat} {xt : Nat → Nat} {xar : Nat → Option Nat} {xnt xln : Int32} {xcu : Nat} {xck : Int32} {xcp : Nat → Int32} {xcl : Int32} {xmk : Nat → Option Nat} {xtl xnu xti : Nat → Int32} {xpa xfa : Nat → Option Nat} {xep xel xde : Nat → Int32} {xtc : Nat → Nat → Int32}
variable {d : MD} {pc pc' tgt : Nat} {lv lv' : List (Option Value)} {st st' : List Value} {ws ws' : va_W} {Ph : Option Value → va_W → Prop}
theorem gX0_textLength {a : Nat} {v : Int32} (ho : d.1.cls = RX1) (ha : a ∈ LN) (hv : xtl a = v) (hd : decode d.2.1 pc = .ok (.getfield 40, 3)) (hp : pc + 3 = pc') (kk : Ev g d pc' lv (.int v :: st) (wX g xo an ac am LN LT xt xar xnt xln xcu xck xcp xcl xmk xtl xnu xti xpa xfa xep xel xde xtc) Ph) : Ev g d pc lv (.ref a :: st) (wX g xo an ac am LN LT xt xar xnt xln xcu xck xcp xcl xmk xtl xnu xti xpa xfa xep xel xde xtc) Ph :=
  xn_get 1 ha (by rw [ho]; exact fnX0_textLength) (by decide) (by rw [← hv]; rfl) hd hp kk
theorem gX0_number {a : Nat} {v : Int32} (ho : d.1.cls = RX1) (ha : a ∈ LN) (hv : xnu a = v) (hd : decode d.2.1 pc = .ok (.getfield 55, 3)) (hp : pc + 3 = pc') (kk : Ev g d pc' lv (.int v :: st) (wX g xo an ac am LN LT xt xar xnt xln xcu xck xcp xcl xmk xtl xnu xti xpa xfa xep xel xde xtc) Ph) : Ev g d pc lv (.ref a :: st) (wX g xo an ac am LN LT xt xar xnt xln xcu xck xcp xcl xmk xtl xnu xti xpa xfa xep xel xde xtc) Ph :=
  xn_get 2 ha (by rw [ho]; exact fnX0_number) (by decide) (by rw [← hv]; rfl) hd hp kk
theorem gX0_time {a : Nat} {v : Int32} (ho : d.1.cls = RX1) (ha : a ∈ LN) (hv : xti a = v) (hd : decode d.2.1 pc = .ok (.getfield 111, 3)) (hp : pc + 3 = pc') (kk : Ev g d pc' lv (.int v :: st) (wX g xo an ac am LN LT xt xar xnt xln xcu xck xcp xcl xmk xtl xnu xti xpa xfa xep xel xde xtc) Ph) : Ev g d pc lv (.ref a :: st) (wX g xo an ac am LN LT xt xar xnt xln xcu xck xcp xcl xmk xtl xnu xti xpa xfa xep xel xde xtc) Ph :=
  xn_get 3 ha (by rw [ho]; exact fnX0_time) (by decide) (by rw [← hv]; rfl) hd hp kk
theorem gX0_parent {a : Nat} {v : Option Nat} (ho : d.1.cls = RX1) (ha : a ∈ LN) (hv : xpa a = v) (hd : decode d.2.1 pc = .ok (.getfield 62, 3)) (hp : pc + 3 = pc') (kk : Ev g d pc' lv (va_rf v :: st) (wX g xo an ac am LN LT xt xar xnt xln xcu xck xcp xcl xmk xtl xnu xti xpa xfa xep xel xde xtc) Ph) : Ev g d pc lv (.ref a :: st) (wX g xo an ac am LN LT xt xar xnt xln xcu xck xcp xcl xmk xtl xnu xti xpa xfa xep xel xde xtc) Ph :=
  xn_get 4 ha (by rw [ho]; exact fnX0_parent) (by decide) (by rw [← hv]; rfl) hd hp kk
theorem gX0_favourite {a : Nat} {v : Option Nat} (ho : d.1.cls = RX1) (ha : a ∈ LN) (hv : xfa a = v) (hd : decode d.2.1 pc = .ok (.getfield 69, 3)) (hp : pc + 3 = pc') (kk : Ev g d pc' lv (va_rf v :: st) (wX g xo an ac am LN LT xt xar xnt xln xcu xck xcp xcl xmk xtl xnu xti xpa xfa xep xel xde xtc) Ph) : Ev g d pc lv (.ref a :: st) (wX g xo an ac am LN LT xt xar xnt xln xcu xck xcp xcl xmk xtl xnu xti xpa xfa xep xel xde xtc) Ph :=
  xn_get 5 ha (by rw [ho]; exact fnX0_favourite) (by decide) (by rw [← hv]; rfl) hd hp kk
theorem gX0_editPosition {a : Nat} {v : Int32} (ho : d.1.cls = RX1) (ha : a ∈ LN) (hv : xep a = v) (hd : decode d.2.1 pc = .ok (.getfield 98, 3)) (hp : pc + 3 = pc') (kk : Ev g d pc' lv (.int v :: st) (wX g xo an ac am LN LT xt xar xnt xln xcu xck xcp xcl xmk xtl xnu xti xpa xfa xep xel xde xtc) Ph) : Ev g d pc lv (.ref a :: st) (wX g xo an ac am LN LT xt xar xnt xln xcu xck xcp xcl xmk xtl xnu xti xpa xfa xep xel xde xtc) Ph :=
  xn_get 6 ha (by rw [ho]; exact fnX0_editPosition) (by decide) (by rw [← hv]; rfl) hd hp kk
theorem gX0_editLength {a : Nat} {v : Int32} (ho : d.1.cls = RX1) (ha : a ∈ LN) (hv : xel a = v) (hd : decode d.2.1 pc = .ok (.getfield 92, 3)) (hp : pc + 3 = pc') (kk : Ev g d pc' lv (.int v :: st) (wX g xo an ac am LN LT xt xar xnt xln xcu xck xcp xcl xmk xtl xnu xti xpa xfa xep xel xde xtc) Ph) : Ev g d pc lv (.ref a :: st) (wX g xo an ac am LN LT xt xar xnt xln xcu xck xcp xcl xmk xtl xnu xti xpa xfa xep xel xde xtc) Ph :=
  xn_get 7 ha (by rw [ho]; exact fnX0_editLength) (by decide) (by rw [← hv]; rfl) hd hp kk
theorem gX0_deletion {a : Nat} {v : Int32} (ho : d.1.cls = RX1) (ha : a ∈ LN) (hv : xde a = v) (hd : decode d.2.1 pc = .ok (.getfield 88, 3)) (hp : pc + 3 = pc') (kk : Ev g d pc' lv (.int v :: st) (wX g xo an ac am LN LT xt xar xnt xln xcu xck xcp xcl xmk xtl xnu xti xpa xfa xep xel xde xtc) Ph) : Ev g d pc lv (.ref a :: st) (wX g xo an ac am LN LT xt xar xnt xln xcu xck xcp xcl xmk xtl xnu xti xpa xfa xep xel xde xtc) Ph :=
  xn_get 8 ha (by rw [ho]; exact fnX0_deletion) (by decide) (by rw [← hv]; rfl) hd hp kk
theorem gX0_text {a : Nat} (ho : d.1.cls = RX1) (ha : a ∈ LN) (hd : decode d.2.1 pc = .ok (.getfield 95, 3)) (hp : pc + 3 = pc') (kk : Ev g d pc' lv (.ref (xt a) :: st) (wX g xo an ac am LN LT xt xar xnt xln xcu xck xcp xcl xmk xtl xnu xti xpa xfa xep xel xde xtc) Ph) : Ev g d pc lv (.ref a :: st) (wX g xo an ac am LN LT xt xar xnt xln xcu xck xcp xcl xmk xtl xnu xti xpa xfa xep xel xde xtc) Ph :=
  xn_get 0 ha (by rw [ho]; exact fnX0_text) (by decide) rfl hd hp kk
theorem gX1_nodes (ho : d.1.cls = RX1) (hd : decode d.2.1 pc = .ok (.getfield 11, 3)) (hp : pc + 3 = pc') (kk : Ev g d pc' lv (.ref an :: st) (wX g xo an ac am LN LT xt xar xnt xln xcu xck xcp xcl xmk xtl xnu xti xpa xfa xep xel xde xtc) Ph) : Ev g d pc lv (.ref xo :: st) (wX g xo an ac am LN LT xt xar xnt xln xcu xck xcp xcl xmk xtl xnu xti xpa xfa xep xel xde xtc) Ph :=
  ev_get (ws := (wX g xo an ac am LN LT xt xar xnt xln xcu xck xcp xcl xmk xtl xnu xti xpa xfa xep xel xde xtc)) inX1 0 0 rfl rfl (by decide) (by rw [ho]; exact flX1_nodes) rfl hd hp kk
theorem gX1_nodeTotal (ho : d.1.cls = RX1) (hd : decode d.2.1 pc = .ok (.getfield 15, 3)) (hp : pc + 3 = pc') (kk : Ev g d pc' lv (.int xnt :: st) (wX g xo an ac am LN LT xt xar xnt xln xcu xck xcp xcl xmk xtl xnu xti xpa xfa xep xel xde xtc) Ph) : Ev g d pc lv (.ref xo :: st) (wX g xo an ac am LN LT xt xar xnt xln xcu xck xcp xcl xmk xtl xnu xti xpa xfa xep xel xde xtc) Ph :=
  ev_get (ws := (wX g xo an ac am LN LT xt xar xnt xln xcu xck xcp xcl xmk xtl xnu xti xpa xfa xep xel xde xtc)) inX1 0 1 rfl rfl (by decide) (by rw [ho]; exact flX1_nodeTotal) rfl hd hp kk
theorem gX1_lastNumber (ho : d.1.cls = RX1) (hd : decode d.2.1 pc = .ok (.getfield 19, 3)) (hp : pc + 3 = pc') (kk : Ev g d pc' lv (.int xln :: st) (wX g xo an ac am LN LT xt xar xnt xln xcu xck xcp xcl xmk xtl xnu xti xpa xfa xep xel xde xtc) Ph) : Ev g d pc lv (.ref xo :: st) (wX g xo an ac am LN LT xt xar xnt xln xcu xck xcp xcl xmk xtl xnu xti xpa xfa xep xel xde xtc) Ph :=
  ev_get (ws := (wX g xo an ac am LN LT xt xar xnt xln xcu xck xcp xcl xmk xtl xnu xti xpa xfa xep xel xde xtc)) inX1 0 2 rfl rfl (by decide) (by rw [ho]; exact flX1_lastNumber) rfl hd hp kk
theorem gX1_currentNode (ho : d.1.cls = RX1) (hd : decode d.2.1 pc = .ok (.getfield 36, 3)) (hp : pc + 3 = pc') (kk : Ev g d pc' lv (.ref xcu :: st) (wX g xo an ac am LN LT xt xar xnt xln xcu xck xcp xcl xmk xtl xnu xti xpa xfa xep xel xde xtc) Ph) : Ev g d pc lv (.ref xo :: st) (wX g xo an ac am LN LT xt xar xnt xln xcu xck xcp xcl xmk xtl xnu xti xpa xfa xep xel xde xtc) Ph :=
  ev_get (ws := (wX g xo an ac am LN LT xt xar xnt xln xcu xck xcp xcl xmk xtl xnu xti xpa xfa xep xel xde xtc)) inX1 0 3 rfl rfl (by decide) (by rw [ho]; exact flX1_currentNode) rfl hd hp kk
theorem gX1_clock (ho : d.1.cls = RX1) (hd : decode d.2.1 pc = .ok (.getfield 22, 3)) (hp : pc + 3 = pc') (kk : Ev g d pc' lv (.int xck :: st) (wX g xo an ac am LN LT xt xar xnt xln xcu xck xcp xcl xmk xtl xnu xti xpa xfa xep xel xde xtc) Ph) : Ev g d pc lv (.ref xo :: st) (wX g xo an ac am LN LT xt xar xnt xln xcu xck xcp xcl xmk xtl xnu xti xpa xfa xep xel xde xtc) Ph :=
  ev_get (ws := (wX g xo an ac am LN LT xt xar xnt xln xcu xck xcp xcl xmk xtl xnu xti xpa xfa xep xel xde xtc)) inX1 0 4 rfl rfl (by decide) (by rw [ho]; exact flX1_clock) rfl hd hp kk
theorem gX1_clip (ho : d.1.cls = RX1) (hd : decode d.2.1 pc = .ok (.getfield 25, 3)) (hp : pc + 3 = pc') (kk : Ev g d pc' lv (.ref ac :: st) (wX g xo an ac am LN LT xt xar xnt xln xcu xck xcp xcl xmk xtl xnu xti xpa xfa xep xel xde xtc) Ph) : Ev g d pc lv (.ref xo :: st) (wX g xo an ac am LN LT xt xar xnt xln xcu xck xcp xcl xmk xtl xnu xti xpa xfa xep xel xde xtc) Ph :=
  ev_get (ws := (wX g xo an ac am LN LT xt xar xnt xln xcu xck xcp xcl xmk xtl xnu xti xpa xfa xep xel xde xtc)) inX1 0 5 rfl rfl (by decide) (by rw [ho]; exact flX1_clip) rfl hd hp kk
theorem gX1_clipLength (ho : d.1.cls = RX1) (hd : decode d.2.1 pc = .ok (.getfield 29, 3)) (hp : pc + 3 = pc') (kk : Ev g d pc' lv (.int xcl :: st) (wX g xo an ac am LN LT xt xar xnt xln xcu xck xcp xcl xmk xtl xnu xti xpa xfa xep xel xde xtc) Ph) : Ev g d pc lv (.ref xo :: st) (wX g xo an ac am LN LT xt xar xnt xln xcu xck xcp xcl xmk xtl xnu xti xpa xfa xep xel xde xtc) Ph :=
  ev_get (ws := (wX g xo an ac am LN LT xt xar xnt xln xcu xck xcp xcl xmk xtl xnu xti xpa xfa xep xel xde xtc)) inX1 0 6 rfl rfl (by decide) (by rw [ho]; exact flX1_clipLength) rfl hd hp kk
theorem gX1_marks (ho : d.1.cls = RX1) (hd : decode d.2.1 pc = .ok (.getfield 32, 3)) (hp : pc + 3 = pc') (kk : Ev g d pc' lv (.ref am :: st) (wX g xo an ac am LN LT xt xar xnt xln xcu xck xcp xcl xmk xtl xnu xti xpa xfa xep xel xde xtc) Ph) : Ev g d pc lv (.ref xo :: st) (wX g xo an ac am LN LT xt xar xnt xln xcu xck xcp xcl xmk xtl xnu xti xpa xfa xep xel xde xtc) Ph :=
  ev_get (ws := (wX g xo an ac am LN LT xt xar xnt xln xcu xck xcp xcl xmk xtl xnu xti xpa xfa xep xel xde xtc)) inX1 0 7 rfl rfl (by decide) (by rw [ho]; exact flX1_marks) rfl hd hp kk
theorem x_nodes_get {k : Nat} {v : Option Nat} (hk : k < 24) (hv : xar k = v) (hd : decode d.2.1 pc = .ok (.aaload, 1)) (hp : pc + 1 = pc') (kk : Ev g d pc' lv (va_rf v :: st) (wX g xo an ac am LN LT xt xar xnt xln xcu xck xcp xcl xmk xtl xnu xti xpa xfa xep xel xde xtc) Ph) : Ev g d pc lv (.int (nI k) :: .ref an :: st) (wX g xo an ac am LN LT xt xar xnt xln xcu xck xcp xcl xmk xtl xnu xti xpa xfa xep xel xde xtc) Ph :=
  ev_aaldN (ws := (wX g xo an ac am LN LT xt xar xnt xln xcu xck xcp xcl xmk xtl xnu xti xpa xfa xep xel xde xtc)) 1 (a := an) (n := 24) (f := xar) rfl hk (by decide) hv hd hp kk
theorem x_marks_get {k : Nat} {v : Option Nat} (hk : k < 5) (hv : xmk k = v) (hd : decode d.2.1 pc = .ok (.aaload, 1)) (hp : pc + 1 = pc') (kk : Ev g d pc' lv (va_rf v :: st) (wX g xo an ac am LN LT xt xar xnt xln xcu xck xcp xcl xmk xtl xnu xti xpa xfa xep xel xde xtc) Ph) : Ev g d pc lv (.int (nI k) :: .ref am :: st) (wX g xo an ac am LN LT xt xar xnt xln xcu xck xcp xcl xmk xtl xnu xti xpa xfa xep xel xde xtc) Ph :=
  ev_aaldN (ws := (wX g xo an ac am LN LT xt xar xnt xln xcu xck xcp xcl xmk xtl xnu xti xpa xfa xep xel xde xtc)) 3 (a := am) (n := 5) (f := xmk) rfl hk (by decide) hv hd hp kk
theorem ev_ifnullR {x : Nat} {off : Int} (hd : decode d.2.1 pc = .ok (.ifnull off, 3)) (hp : pc + 3 = pc') (k : Ev g d pc' lv st ws Ph) : Ev g d pc lv (.ref x :: st) ws Ph := by
  subst hp; exact Ev.go k fun p e s m args below meth c H locs ls R Q hx hb _ _ hl kk => lv_ifnull hx hb hd (kk ls hl)
theorem ev_ifnullZ {off : Int} (hd : decode d.2.1 pc = .ok (.ifnull off, 3)) (ht : (pc : Int) + off = (tgt : Int)) (k : Ev g d tgt lv st ws Ph) : Ev g d pc lv (va_rf none :: st) ws Ph :=
  Ev.go k fun p e s m args below meth c H locs ls R Q hx hb _ _ hl kk => lv_ifnullN hx hb hd ht (kk ls hl)
theorem ev_ifnonnullR {x : Nat} {off : Int} (hd : decode d.2.1 pc = .ok (.ifnonnull off, 3)) (ht : (pc : Int) + off = (tgt : Int)) (k : Ev g d tgt lv st ws Ph) : Ev g d pc lv (.ref x :: st) ws Ph :=
  Ev.go k fun p e s m args below meth c H locs ls R Q hx hb _ _ hl kk => lv_ifnonnull hx hb hd ht (kk ls hl)
theorem ev_ifnonnullZ {off : Int} (hd : decode d.2.1 pc = .ok (.ifnonnull off, 3)) (hp : pc + 3 = pc') (k : Ev g d pc' lv st ws Ph) : Ev g d pc lv (va_rf none :: st) ws Ph := by
  subst hp; exact Ev.go k fun p e s m args below meth c H locs ls R Q hx hb _ _ hl kk => lv_ifnonnullN hx hb hd (kk ls hl)
theorem xt_cald {t k : Nat} {v : Int32} (ht : t ∈ LT) (hk : k < 40) (hv : xtc t k = v) (hd : decode d.2.1 pc = .ok (.caload, 1)) (hp : pc + 1 = pc') (kk : Ev g d pc' lv (.int v :: st) (wX g xo an ac am LN LT xt xar xnt xln xcu xck xcp xcl xmk xtl xnu xti xpa xfa xep xel xde xtc) Ph) : Ev g d pc lv (.int (nI k) :: .ref t :: st) (wX g xo an ac am LN LT xt xar xnt xln xcu xck xcp xcl xmk xtl xnu xti xpa xfa xep xel xde xtc) Ph := by
  obtain ⟨q, -, hq⟩ := wX_text (g := g) (xo := xo) (an := an) (ac := ac) (am := am) (LN := LN) (LT := LT) (xt := xt) (xar := xar) (xnt := xnt) (xln := xln) (xcu := xcu) (xck := xck) (xcp := xcp) (xcl := xcl) (xmk := xmk) (xtl := xtl) (xnu := xnu) (xti := xti) (xpa := xpa) (xfa := xfa) (xep := xep) (xel := xel) (xde := xde) (xtc := xtc) ht
  exact ev_caldN q hq hk (by decide) hv hd hp kk
theorem x_clip_put {k : Nat} {x : Int32} (hk : k < 6) (hx : vp_nar .char x = x) (hd : decode d.2.1 pc = .ok (.castore, 1)) (hp : pc + 1 = pc') (kk : Ev g d pc' lv st (wX g xo an ac am LN LT xt xar xnt xln xcu xck (upd xcp k x) xcl xmk xtl xnu xti xpa xfa xep xel xde xtc) Ph) : Ev g d pc lv (.int x :: .int (nI k) :: .ref ac :: st) (wX g xo an ac am LN LT xt xar xnt xln xcu xck xcp xcl xmk xtl xnu xti xpa xfa xep xel xde xtc) Ph :=
  ev_cast (ws := (wX g xo an ac am LN LT xt xar xnt xln xcu xck xcp xcl xmk xtl xnu xti xpa xfa xep xel xde xtc)) 2 (a := ac) (n := 6) (f := xcp) rfl (vp_in_nI hk (by decide)) hx hd hp (by rw [nI_clamp (by omega)]; rfl) kk
theorem x_nodes_put {k v : Nat} (hk : k < 24) (hv : v ∈ LN) (hd : decode d.2.1 pc = .ok (.aastore, 1)) (hp : pc + 1 = pc') (kk : Ev g d pc' lv st (wX g xo an ac am LN LT xt (va_up xar k (some v)) xnt xln xcu xck xcp xcl xmk xtl xnu xti xpa xfa xep xel xde xtc) Ph) : Ev g d pc lv (.ref v :: .int (nI k) :: .ref an :: st) (wX g xo an ac am LN LT xt xar xnt xln xcu xck xcp xcl xmk xtl xnu xti xpa xfa xep xel xde xtc) Ph := by
  obtain ⟨q, hq⟩ := wX_node (g := g) (xo := xo) (an := an) (ac := ac) (am := am) (LN := LN) (LT := LT) (xt := xt) (xar := xar) (xnt := xnt) (xln := xln) (xcu := xcu) (xck := xck) (xcp := xcp) (xcl := xcl) (xmk := xmk) (xtl := xtl) (xnu := xnu) (xti := xti) (xpa := xpa) (xfa := xfa) (xep := xep) (xel := xel) (xde := xde) (xtc := xtc) hv
  exact ev_aast (ws := (wX g xo an ac am LN LT xt xar xnt xln xcu xck xcp xcl xmk xtl xnu xti xpa xfa xep xel xde xtc)) 1 q (a := an) (n := 24) (f := xar) rfl hq (vp_in_nI hk (by decide)) hd hp (by rw [nI_clamp (by omega)]; rfl) kk
theorem x_marks_put {k v : Nat} (hk : k < 5) (hv : v ∈ LN) (hd : decode d.2.1 pc = .ok (.aastore, 1)) (hp : pc + 1 = pc') (kk : Ev g d pc' lv st (wX g xo an ac am LN LT xt xar xnt xln xcu xck xcp xcl (va_up xmk k (some v)) xtl xnu xti xpa xfa xep xel xde xtc) Ph) : Ev g d pc lv (.ref v :: .int (nI k) :: .ref am :: st) (wX g xo an ac am LN LT xt xar xnt xln xcu xck xcp xcl xmk xtl xnu xti xpa xfa xep xel xde xtc) Ph := by
  obtain ⟨q, hq⟩ := wX_node (g := g) (xo := xo) (an := an) (ac := ac) (am := am) (LN := LN) (LT := LT) (xt := xt) (xar := xar) (xnt := xnt) (xln := xln) (xcu := xcu) (xck := xck) (xcp := xcp) (xcl := xcl) (xmk := xmk) (xtl := xtl) (xnu := xnu) (xti := xti) (xpa := xpa) (xfa := xfa) (xep := xep) (xel := xel) (xde := xde) (xtc := xtc) hv
  exact ev_aast (ws := (wX g xo an ac am LN LT xt xar xnt xln xcu xck xcp xcl xmk xtl xnu xti xpa xfa xep xel xde xtc)) 3 q (a := am) (n := 5) (f := xmk) rfl hq (vp_in_nI hk (by decide)) hd hp (by rw [nI_clamp (by omega)]; rfl) kk
theorem x_marks_nul {k : Nat} (hk : k < 5) (hd : decode d.2.1 pc = .ok (.aastore, 1)) (hp : pc + 1 = pc') (kk : Ev g d pc' lv st (wX g xo an ac am LN LT xt xar xnt xln xcu xck xcp xcl (va_up xmk k none) xtl xnu xti xpa xfa xep xel xde xtc) Ph) : Ev g d pc lv (va_rf none :: .int (nI k) :: .ref am :: st) (wX g xo an ac am LN LT xt xar xnt xln xcu xck xcp xcl xmk xtl xnu xti xpa xfa xep xel xde xtc) Ph :=
  ev_aastN (ws := (wX g xo an ac am LN LT xt xar xnt xln xcu xck xcp xcl xmk xtl xnu xti xpa xfa xep xel xde xtc)) 3 (a := am) (n := 5) (f := xmk) rfl (vp_in_nI hk (by decide)) hd hp (by rw [nI_clamp (by omega)]; rfl) kk
theorem x_copy {a0 q0 t1 n0 sp dp n index : Nat} {f : Nat → Int32} (ha0 : ((wX g xo an ac am LN LT xt xar xnt xln xcu xck xcp xcl xmk xtl xnu xti xpa xfa xep xel xde xtc))[q0]? = some (a0, .inl (g.2.2.1, n0, .inl f))) (ht1 : t1 ∈ LT) (h1 : sp + n ≤ n0) (h2 : dp + n ≤ 40) (hb : n0 < 1000) (hfit : ∀ i, i < n → chOk (f (sp + i))) (hr : 2 ≤ d.2.2.2.2) (hcat : (st.map fun v => v.category).sum ≤ 8) (hlink : Cond.methodLink d.1.cls index arraycopyName ∈ lw_good) (hd : decode d.2.1 pc = .ok (.invokestatic index, 3)) (hp : pc + 3 = pc') (kk : Ev g d pc' lv st (wX g xo an ac am LN LT xt xar xnt xln xcu xck xcp xcl xmk xtl xnu xti xpa xfa xep xel xde (va_up xtc t1 (va_cpy f (xtc t1) sp dp n))) Ph) : Ev g d pc lv (.int (nI n) :: .int (nI dp) :: .ref t1 :: .int (nI sp) :: .ref a0 :: st) (wX g xo an ac am LN LT xt xar xnt xln xcu xck xcp xcl xmk xtl xnu xti xpa xfa xep xel xde xtc) Ph := by
  obtain ⟨q1, hl1, hq1⟩ := wX_text (g := g) (xo := xo) (an := an) (ac := ac) (am := am) (LN := LN) (LT := LT) (xt := xt) (xar := xar) (xnt := xnt) (xln := xln) (xcu := xcu) (xck := xck) (xcp := xcp) (xcl := xcl) (xmk := xmk) (xtl := xtl) (xnu := xnu) (xti := xti) (xpa := xpa) (xfa := xfa) (xep := xep) (xel := xel) (xde := xde) (xtc := xtc) ht1
  refine ev_copyc q0 q1 ha0 hq1 hlink (nI_pos (by omega)) (nI_pos (by omega)) (nI_pos (by omega)) (by rw [nI_clamp (by omega), nI_clamp (by omega)]; exact h1) (by rw [nI_clamp (by omega), nI_clamp (by omega)]; exact h2) (fun i hi => ?_) hr hcat hd hp (fun hA => ?_)
  · rw [nI_clamp (by omega)] at hi ⊢
    exact hfit i hi
  · obtain ⟨A, hD⟩ := hA
    rw [nI_clamp (by omega), nI_clamp (by omega), nI_clamp (by omega), wX_tset hD ht1 hl1 hq1]
    exact kk

theorem rf_some (a : Nat) : Value.ref a = va_rf (some a) := rfl
theorem ev_aload_nE {i : Fin 4} {r : Option Nat} {v : Value} (hd : decode d.2.1 pc = .ok (.aload_n i, 1)) (hp : pc + 1 = pc') (hi : lv[(i : Nat)]? = some (some v)) (hv : v = va_rf r) (k : Ev g d pc' lv (v :: st) ws Ph) : Ev g d pc lv st ws Ph := by
  subst hv; exact ev_aload_nq hd hp hi k
theorem ev_aloadE {i : Nat} {r : Option Nat} {v : Value} (hd : decode d.2.1 pc = .ok (.aload i, 2)) (hp : pc + 2 = pc') (hi : lv[i]? = some (some v)) (hv : v = va_rf r) (k : Ev g d pc' lv (v :: st) ws Ph) : Ev g d pc lv st ws Ph := by
  subst hv; exact ev_aloadq hd hp hi k
theorem ev_astore_nE {i : Fin 4} {r : Option Nat} {v : Value} (hv : v = va_rf r) (hd : decode d.2.1 pc = .ok (.astore_n i, 1)) (hp : pc + 1 = pc') (hn : (i : Nat) < d.2.2.1) (hpv : lw_pv lv i) (hs : lv.set (i : Nat) (some v) = lv') (k : Ev g d pc' lv' st ws Ph) : Ev g d pc lv (v :: st) ws Ph := by
  subst hv; exact ev_astore_nq hd hp hn hpv hs k
theorem ev_astoreE {i : Nat} {r : Option Nat} {v : Value} (hv : v = va_rf r) (hd : decode d.2.1 pc = .ok (.astore i, 2)) (hp : pc + 2 = pc') (hn : i < d.2.2.1) (hpv : lw_pv lv i) (hs : lv.set i (some v) = lv') (k : Ev g d pc' lv' st ws Ph) : Ev g d pc lv (v :: st) ws Ph := by
  subst hv; exact ev_astoreq hd hp hn hpv hs k
theorem ev_aretE {r : Option Nat} {v : Value} {nm : String} (hv : v = va_rf r) (hr : d.2.2.2.1 = some (.object nm)) (hd : decode d.2.1 pc = .ok (.areturn, 1)) (h : Ph (some v) ws) : Ev g d pc lv [v] ws Ph := by
  subst hv; exact ev_aret hr hd h
theorem ev_acmp_eqE {rx ry : Option Nat} {v1 v2 : Value} {off : Int} (h1 : v1 = va_rf ry) (h2 : v2 = va_rf rx) (hd : decode d.2.1 pc = .ok (.if_acmp .eq off, 3)) (ht : (pc : Int) + off = (tgt : Int)) (hp : pc + 3 = pc') (kt : rx = ry → Ev g d tgt lv st ws Ph) (kf : ¬ rx = ry → Ev g d pc' lv st ws Ph) : Ev g d pc lv (v1 :: v2 :: st) ws Ph := by
  subst h1; subst h2; exact ev_acmp_eq hd ht hp kt kf
theorem ev_acmp_neE {rx ry : Option Nat} {v1 v2 : Value} {off : Int} (h1 : v1 = va_rf ry) (h2 : v2 = va_rf rx) (hd : decode d.2.1 pc = .ok (.if_acmp .ne off, 3)) (ht : (pc : Int) + off = (tgt : Int)) (hp : pc + 3 = pc') (kt : ¬ rx = ry → Ev g d tgt lv st ws Ph) (kf : rx = ry → Ev g d pc' lv st ws Ph) : Ev g d pc lv (v1 :: v2 :: st) ws Ph := by
  subst h1; subst h2; exact ev_acmp_ne hd ht hp kt kf
theorem pX0_parentE {a : Nat} {r : Option Nat} {v : Value} (hv : v = va_rf r) (ho : d.1.cls = RX1) (ha : a ∈ LN) (hd : decode d.2.1 pc = .ok (.putfield 62, 3)) (hp : pc + 3 = pc') (kk : Ev g d pc' lv st (wX g xo an ac am LN LT xt xar xnt xln xcu xck xcp xcl xmk xtl xnu xti (va_up xpa a r) xfa xep xel xde xtc) Ph) : Ev g d pc lv (v :: .ref a :: st) (wX g xo an ac am LN LT xt xar xnt xln xcu xck xcp xcl xmk xtl xnu xti xpa xfa xep xel xde xtc) Ph := by
  subst hv; exact pX0_parent ho ha hd hp kk
theorem pX0_favouriteE {a : Nat} {r : Option Nat} {v : Value} (hv : v = va_rf r) (ho : d.1.cls = RX1) (ha : a ∈ LN) (hd : decode d.2.1 pc = .ok (.putfield 69, 3)) (hp : pc + 3 = pc') (kk : Ev g d pc' lv st (wX g xo an ac am LN LT xt xar xnt xln xcu xck xcp xcl xmk xtl xnu xti xpa (va_up xfa a r) xep xel xde xtc) Ph) : Ev g d pc lv (v :: .ref a :: st) (wX g xo an ac am LN LT xt xar xnt xln xcu xck xcp xcl xmk xtl xnu xti xpa xfa xep xel xde xtc) Ph := by
  subst hv; exact pX0_favourite ho ha hd hp kk
theorem x_callV {z : MD} {index n : Nat} {As rest : List Value} {Ps : Option Value → va_W → Prop} (co : coV d.1.cls index z n) (hz : z.1.cls = RX1) (hM : Ret g z (.ref xo :: As) (wX g xo an ac am LN LT xt xar xnt xln xcu xck xcp xcl xmk xtl xnu xti xpa xfa xep xel xde xtc) Ps) (hn : As.length = n) (hR : z.2.2.2.2 + 1 ≤ d.2.2.2.2) (hcat : (rest.map fun v => v.category).sum ≤ 8) (hd : decode d.2.1 pc = .ok (.invokevirtual index, 3)) (hst : st = As.reverse ++ .ref xo :: rest) (hp : pc + 3 = pc') (k : ∀ v w, Ps v w → Ev g d pc' lv (v.toList ++ rest) w Ph) : Ev g d pc lv st (wX g xo an ac am LN LT xt xar xnt xln xcu xck xcp xcl xmk xtl xnu xti xpa xfa xep xel xde xtc) Ph :=
  ev_callV (ws := (wX g xo an ac am LN LT xt xar xnt xln xcu xck xcp xcl xmk xtl xnu xti xpa xfa xep xel xde xtc)) (ci := 1) (T := TX1) (N := 8) co 0 rfl (by rw [hz]; rfl) hM hn hR hcat hd hst hp k
end XR
/-! the tie between the world and the mathematical value; hd: the object of a number -/
def rowX (S : SS) (hd : Nat → Nat) (a : Nat) (LN : List Nat) (xt : Nat → Nat) (xar : Nat → Option Nat) (xtl xnu xti : Nat → Int32) (xpa xfa : Nat → Option Nat) (xep xel xde : Nat → Int32) (xtc : Nat → Nat → Int32) : Prop :=
  hd a ∈ LN ∧ xar (ix S a) = some (hd a) ∧ xtl (hd a) = nI (stl S a) ∧ xnu (hd a) = nI a ∧ xti (hd a) = nI (sti S a) ∧ xpa (hd a) = (spa S a).map hd ∧ xfa (hd a) = (sfa S a).map hd ∧ xep (hd a) = nI (spo S a) ∧ xel (hd a) = nI (sle S a) ∧ xde (hd a) = bI (sde S a) ∧ (∀ i, i < stl S a → xtc (xt (hd a)) i = stx S a i)
def RX (S : SS) (hd : Nat → Nat) (LN LT : List Nat) (xt : Nat → Nat) (xar : Nat → Option Nat) (xnt xln : Int32) (xcu : Nat) (xck : Int32) (xcp : Nat → Int32) (xcl : Int32) (xmk : Nat → Option Nat) (xtl xnu xti : Nat → Int32) (xpa xfa : Nat → Option Nat) (xep xel xde : Nat → Int32) (xtc : Nat → Nat → Int32) : Prop :=
  xnt = nI (sL S).length ∧ xln + nI 1 = nI (sgv S) ∧ xcu = hd (scu S) ∧ xck = nI (sck S) ∧ xcl = nI (scl S) ∧ (∀ a ∈ sL S, rowX S hd a LN xt xar xtl xnu xti xpa xfa xep xel xde xtc) ∧ (∀ i, i < scl S → xcp i = scp S i) ∧ (∀ i, i < 5 → xmk i = (smk S i).map hd) ∧ (∀ a ∈ sL S, ∀ b ∈ sL S, hd a = hd b → a = b) ∧ (∀ k, (sL S).length ≤ k → k < 24 → ∃ q, xar k = some q ∧ q ∈ LN ∧ ∀ a ∈ sL S, hd a ≠ q) ∧ (∀ j k, (sL S).length ≤ j → j < k → k < 24 → xar j ≠ xar k) ∧ (∀ q ∈ LN, xt q ∈ LT) ∧ (∀ q ∈ LN, ∀ q' ∈ LN, xt q = xt q' → q = q')
def isX (g : EG) (xo an ac am : Nat) (LN LT : List Nat) (xt : Nat → Nat) (S : SS) (w : va_W) : Prop := ∃ (hd : Nat → Nat) (xar : Nat → Option Nat) (xnt xln : Int32) (xcu : Nat) (xck : Int32) (xcp : Nat → Int32) (xcl : Int32) (xmk : Nat → Option Nat) (xtl xnu xti : Nat → Int32) (xpa xfa : Nat → Option Nat) (xep xel xde : Nat → Int32) (xtc : Nat → Nat → Int32), w = (wX g xo an ac am LN LT xt xar xnt xln xcu xck xcp xcl xmk xtl xnu xti xpa xfa xep xel xde xtc) ∧ RX S hd LN LT xt xar xnt xln xcu xck xcp xcl xmk xtl xnu xti xpa xfa xep xel xde xtc
section XS1
variable {g : EG} {xo an ac am : Nat} {LN LT : List Nat} {xt : Nat → Nat} {xar : Nat → Option Nat} {xnt xln : Int32} {xcu : Nat} {xck : Int32} {xcp : Nat → Int32} {xcl : Int32} {xmk : Nat → Option Nat} {xtl xnu xti : Nat → Int32} {xpa xfa : Nat → Option Nat} {xep xel xde : Nat → Int32} {xtc : Nat → Nat → Int32}
variable {S : SS} {hd : Nat → Nat} {N : Nat} {Ph : Option Value → va_W → Prop}
theorem isX.of (hR : RX S hd LN LT xt xar xnt xln xcu xck xcp xcl xmk xtl xnu xti xpa xfa xep xel xde xtc) : isX g xo an ac am LN LT xt S (wX g xo an ac am LN LT xt xar xnt xln xcu xck xcp xcl xmk xtl xnu xti xpa xfa xep xel xde xtc) := ⟨hd, xar, xnt, xln, xcu, xck, xcp, xcl, xmk, xtl, xnu, xti, xpa, xfa, xep, xel, xde, xtc, rfl, hR⟩
theorem RX.row (hR : RX S hd LN LT xt xar xnt xln xcu xck xcp xcl xmk xtl xnu xti xpa xfa xep xel xde xtc) {a : Nat} (h : a ∈ sL S) : rowX S hd a LN xt xar xtl xnu xti xpa xfa xep xel xde xtc := hR.2.2.2.2.2.1 a h
theorem RX.inj (hR : RX S hd LN LT xt xar xnt xln xcu xck xcp xcl xmk xtl xnu xti xpa xfa xep xel xde xtc) {a b : Nat} (ha : a ∈ sL S) (hb : b ∈ sL S) (h : hd a = hd b) : a = b := hR.2.2.2.2.2.2.2.2.1 a ha b hb h
theorem RX.tin (hR : RX S hd LN LT xt xar xnt xln xcu xck xcp xcl xmk xtl xnu xti xpa xfa xep xel xde xtc) {q : Nat} (hq : q ∈ LN) : xt q ∈ LT := hR.2.2.2.2.2.2.2.2.2.2.2.1 q hq
theorem RX.tinj (hR : RX S hd LN LT xt xar xnt xln xcu xck xcp xcl xmk xtl xnu xti xpa xfa xep xel xde xtc) {q q' : Nat} (hq : q ∈ LN) (hq' : q' ∈ LN) (h : xt q = xt q') : q = q' := hR.2.2.2.2.2.2.2.2.2.2.2.2 q hq q' hq' h
theorem RX.mk (hR : RX S hd LN LT xt xar xnt xln xcu xck xcp xcl xmk xtl xnu xti xpa xfa xep xel xde xtc) {i : Nat} (hi : i < 5) : xmk i = (smk S i).map hd := hR.2.2.2.2.2.2.2.1 i hi
theorem RX.cp (hR : RX S hd LN LT xt xar xnt xln xcu xck xcp xcl xmk xtl xnu xti xpa xfa xep xel xde xtc) {i : Nat} (hi : i < scl S) : xcp i = scp S i := hR.2.2.2.2.2.2.1 i hi
end XS1
end
section
/-! ===== the landed class: what is read ===== -/
section X1
variable {g : EG} {xo an ac am : Nat} {LN LT : List Nat} {xt : Nat → Nat} {xar : Nat → Option Nat} {xnt xln : Int32} {xcu : Nat} {xck : Int32} {xcp : Nat → Int32} {xcl : Int32} {xmk : Nat → Option Nat} {xtl xnu xti : Nat → Int32} {xpa xfa : Nat → Option Nat} {xep xel xde : Nat → Int32} {xtc : Nat → Nat → Int32}
variable {S : SS} {hd : Nat → Nat} {N : Nat} {Ph : Option Value → va_W → Prop}
theorem find_loop (T : Tree S) (hR : RX S hd LN LT xt xar xnt xln xcu xck xcp xcl xmk xtl xnu xti xpa xfa xep xel xde xtc) {x : Int32} : ∀ (m k : Nat), k + m = (sL S).length → Ev g mdX1_find 2 [some (.ref xo), some (.int x), some (.int (nI k))] [] (wX g xo an ac am LN LT xt xar xnt xln xcu xck xcp xcl xmk xtl xnu xti xpa xfa xep xel xde xtc) (fun r w => r = some (va_rf ((((sL S).drop k).find? (fun a => decide (nI a = x))).map hd)) ∧ w = (wX g xo an ac am LN LT xt xar xnt xln xcu xck xcp xcl xmk xtl xnu xti xpa xfa xep xel xde xtc)) := by
  have hlen := T.len
  intro m
  induction m with
  | zero =>
    intro k hk
    rw [drop_end hk]
    refine ev_iload_n (pc' := 3) dX1_find_2 rfl rfl ?_
    refine ev_aload_nE (pc' := 4) dX1_find_3 rfl rfl (by first | exact rf_some _ | exact rfl) ?_
    refine gX1_nodeTotal rfl (pc' := 7) dX1_find_4 rfl ?_
    refine ev_icmp_ge (tgt := 36) (pc' := 10) dX1_find_7 (by decide) rfl (fun h7 => ?_) (fun h7 => ?_)
    · refine ev_null (pc' := 37) dX1_find_36 rfl ?_
      refine ev_aretE (nm := "EditTree$Node") (by first | exact rf_some _ | exact rfl) rfl dX1_find_37 ?_
      exact ⟨rfl, rfl⟩
    · rw [hR.1] at h7
      exact absurd (nI_le (by omega) (by omega)) h7
  | succ m ih =>
    intro k hk
    refine ev_iload_n (pc' := 3) dX1_find_2 rfl rfl ?_
    refine ev_aload_nE (pc' := 4) dX1_find_3 rfl rfl (by first | exact rf_some _ | exact rfl) ?_
    refine gX1_nodeTotal rfl (pc' := 7) dX1_find_4 rfl ?_
    refine ev_icmp_ge (tgt := 36) (pc' := 10) dX1_find_7 (by decide) rfl (fun h7 => ?_) (fun h7 => ?_)
    · rw [hR.1] at h7
      exact absurd h7 (nI_ge (by omega) (by omega))
    · obtain ⟨b, hb, rfl⟩ := ix_at T (show k < (sL S).length by omega)
      have hr := RX.row hR hb
      have hbL := hr.1
      rw [drop_ix hb]
      refine ev_aload_nE (pc' := 11) dX1_find_10 rfl rfl (by first | exact rf_some _ | exact rfl) ?_
      refine gX1_nodes rfl (pc' := 14) dX1_find_11 rfl ?_
      refine ev_iload_n (pc' := 15) dX1_find_14 rfl rfl ?_
      refine x_nodes_get (by omega) hr.2.1 (pc' := 16) dX1_find_15 rfl ?_
      refine gX0_number rfl hbL hr.2.2.2.1 (pc' := 19) dX1_find_16 rfl ?_
      refine ev_iload_n (pc' := 20) dX1_find_19 rfl rfl ?_
      refine ev_icmp_ne (tgt := 30) (pc' := 23) dX1_find_20 (by decide) rfl (fun h20 => ?_) (fun h20 => ?_)
      · refine ev_iinc (pc' := 33) (lv' := [_, _, _]) dX1_find_30 rfl rfl (nI_1 _) (by decide) (by intro w hw; first | exact Or.inl rfl | (right; have hw := Option.some.inj (Option.some.inj hw); subst hw; first | rfl | exact rf_cat _) | cases hw) rfl ?_
        refine ev_goto (pc' := 2) dX1_find_33 (by decide) ?_
        rw [List.find?_cons_of_neg (by simpa using h20)]
        exact ih (ix S b + 1) (by omega)
      · refine ev_aload_nE (pc' := 24) dX1_find_23 rfl rfl (by first | exact rf_some _ | exact rfl) ?_
        refine gX1_nodes rfl (pc' := 27) dX1_find_24 rfl ?_
        refine ev_iload_n (pc' := 28) dX1_find_27 rfl rfl ?_
        refine x_nodes_get (by omega) hr.2.1 (pc' := 29) dX1_find_28 rfl ?_
        refine ev_aretE (nm := "EditTree$Node") (by first | exact rf_some _ | exact rfl) rfl dX1_find_29 ?_
        rw [List.find?_cons_of_pos (by simpa using h20)]
        exact ⟨rfl, rfl⟩
theorem c_find (T : Tree S) (hR : RX S hd LN LT xt xar xnt xln xcu xck xcp xcl xmk xtl xnu xti xpa xfa xep xel xde xtc) (x : Int32) : Ret g mdX1_find [.ref xo, .int x] (wX g xo an ac am LN LT xt xar xnt xln xcu xck xcp xcl xmk xtl xnu xti xpa xfa xep xel xde xtc) (fun r w => r = some (va_rf ((lk S x).map hd)) ∧ w = (wX g xo an ac am LN LT xt xar xnt xln xcu xck xcp xcl xmk xtl xnu xti xpa xfa xep xel xde xtc)) := by
  refine Ret.of [_, _, _] 1 (by decide) (Nat.le_of_ble_eq_true rfl) rfl ?_
  refine ev_iconst (pc' := 1) (v := nI 0) dX1_find_0 rfl (by decide) ?_
  refine ev_istore_n (pc' := 2) (lv' := [_, _, _]) dX1_find_1 rfl (by decide) (by intro w hw; first | exact Or.inl rfl | (right; have hw := Option.some.inj (Option.some.inj hw); subst hw; first | rfl | exact rf_cat _) | cases hw) rfl ?_
  exact find_loop T hR (sL S).length 0 (by omega)
theorem c_non (hR : RX S hd LN LT xt xar xnt xln xcu xck xcp xcl xmk xtl xnu xti xpa xfa xep xel xde xtc) (o : Option Nat) (ho : ∀ a, o = some a → a ∈ sL S) : Ret g mdX1_numberOrNone [va_rf (o.map hd)] (wX g xo an ac am LN LT xt xar xnt xln xcu xck xcp xcl xmk xtl xnu xti xpa xfa xep xel xde xtc) (fun r w => r = some (.int (oI o)) ∧ w = (wX g xo an ac am LN LT xt xar xnt xln xcu xck xcp xcl xmk xtl xnu xti xpa xfa xep xel xde xtc)) := by
  refine Ret.of [some (va_rf (o.map hd))] 0 (by decide) (by cases o <;> exact Nat.le_of_ble_eq_true rfl) (by cases o <;> rfl) ?_
  cases o with
  | none =>
    show Ev g mdX1_numberOrNone 0 [some (va_rf none)] [] _ _
    refine ev_aload_nE (pc' := 1) dX1_numberOrNone_0 rfl rfl (by first | exact rf_some _ | exact rfl) ?_
    refine ev_ifnonnullZ (pc' := 4) dX1_numberOrNone_1 rfl ?_
    refine ev_bipush (pc' := 6) (v := (-7)) dX1_numberOrNone_4 rfl (by decide) ?_
    refine ev_goto (pc' := 13) dX1_numberOrNone_6 (by decide) ?_
    refine ev_iret rfl dX1_numberOrNone_13 ?_
    exact ⟨rfl, rfl⟩
  | some a =>
    have hr := RX.row hR (ho a rfl)
    show Ev g mdX1_numberOrNone 0 [some (.ref (hd a))] [] _ _
    refine ev_aload_nE (pc' := 1) dX1_numberOrNone_0 rfl rfl (by first | exact rf_some _ | exact rfl) ?_
    refine ev_ifnonnullR (tgt := 9) dX1_numberOrNone_1 (by decide) ?_
    refine ev_aload_nE (pc' := 10) dX1_numberOrNone_9 rfl rfl (by first | exact rf_some _ | exact rfl) ?_
    refine gX0_number rfl hr.1 hr.2.2.2.1 (pc' := 13) dX1_numberOrNone_10 rfl ?_
    refine ev_iret rfl dX1_numberOrNone_13 ?_
    exact ⟨rfl, rfl⟩
theorem anc_x (T : Tree S) (hR : RX S hd LN LT xt xar xnt xln xcu xck xcp xcl xmk xtl xnu xti xpa xfa xep xel xde xtc) {c : Nat} (hc : c ∈ sL S) (z : Nat) : ∀ (a : Nat), a ∈ sL S → Ev g mdX1_isAncestor 2 [some (.ref (hd c)), some (.ref z), some (.ref (hd a))] [] (wX g xo an ac am LN LT xt xar xnt xln xcu xck xcp xcl xmk xtl xnu xti xpa xfa xep xel xde xtc) (fun r w => r = some (.int (bI (decide (c ∈ path S a)))) ∧ w = (wX g xo an ac am LN LT xt xar xnt xln xcu xck xcp xcl xmk xtl xnu xti xpa xfa xep xel xde xtc)) := by
  intro a
  induction a using Nat.strongRecOn with
  | ind a ih =>
    intro ha
    have hr := RX.row hR ha
    refine ev_aload_nE (pc' := 3) dX1_isAncestor_2 rfl rfl (by first | exact rf_some _ | exact rfl) ?_
    refine ev_ifnullR (pc' := 6) dX1_isAncestor_3 rfl ?_
    refine ev_aload_nE (pc' := 7) dX1_isAncestor_6 rfl rfl (by first | exact rf_some _ | exact rfl) ?_
    refine ev_aload_nE (pc' := 8) dX1_isAncestor_7 rfl rfl (by first | exact rf_some _ | exact rfl) ?_
    refine ev_acmp_neE (by first | exact rf_some _ | exact rfl) (by first | exact rf_some _ | exact rfl) (tgt := 13) (pc' := 11) dX1_isAncestor_8 (by decide) rfl (fun h8 => ?_) (fun h8 => ?_)
    · have e : c ≠ a := fun q => h8 (by rw [q])
      cases hb : spa S a with
      | none =>
        have hpa := hr.2.2.2.2.2.1
        rw [hb] at hpa
        refine ev_aload_nE (pc' := 14) dX1_isAncestor_13 rfl rfl (by first | exact rf_some _ | exact rfl) ?_
        refine gX0_parent rfl hr.1 hpa (pc' := 17) dX1_isAncestor_14 rfl ?_
        refine ev_astore_nE (by first | exact rf_some _ | exact rfl) (pc' := 18) (lv' := [_, _, _]) dX1_isAncestor_17 rfl (by decide) (by intro w hw; first | exact Or.inl rfl | (right; have hw := Option.some.inj (Option.some.inj hw); subst hw; first | rfl | exact rf_cat _) | cases hw) rfl ?_
        refine ev_goto (pc' := 2) dX1_isAncestor_18 (by decide) ?_
        show Ev g mdX1_isAncestor 2 [_, _, some (va_rf none)] [] _ _
        refine ev_aload_nE (pc' := 3) dX1_isAncestor_2 rfl rfl (by first | exact rf_some _ | exact rfl) ?_
        refine ev_ifnullZ (tgt := 21) dX1_isAncestor_3 (by decide) ?_
        refine ev_iconst (pc' := 22) (v := nI 0) dX1_isAncestor_21 rfl (by decide) ?_
        refine ev_zret rfl (by decide) dX1_isAncestor_22 ?_
        refine ⟨?_, rfl⟩
        rw [path_none hb, bI_f (by simpa using e)]
      | some b =>
        obtain ⟨h1, h2⟩ := T.par ha hb
        have hpa := hr.2.2.2.2.2.1
        rw [hb] at hpa
        refine ev_aload_nE (pc' := 14) dX1_isAncestor_13 rfl rfl (by first | exact rf_some _ | exact rfl) ?_
        refine gX0_parent rfl hr.1 hpa (pc' := 17) dX1_isAncestor_14 rfl ?_
        refine ev_astore_nE (by first | exact rf_some _ | exact rfl) (pc' := 18) (lv' := [_, _, _]) dX1_isAncestor_17 rfl (by decide) (by intro w hw; first | exact Or.inl rfl | (right; have hw := Option.some.inj (Option.some.inj hw); subst hw; first | rfl | exact rf_cat _) | cases hw) rfl ?_
        refine ev_goto (pc' := 2) dX1_isAncestor_18 (by decide) ?_
        have h3 := ih b h2 h1
        have h4 : decide (c ∈ path S a) = decide (c ∈ path S b) := by
          rw [path_some T ha hb]
          simp [e]
        rw [h4]
        exact h3
    · have e : a = c := RX.inj hR ha hc (Option.some.inj h8)
      refine ev_iconst (pc' := 12) (v := nI 1) dX1_isAncestor_11 rfl (by decide) ?_
      refine ev_zret rfl (by decide) dX1_isAncestor_12 ?_
      refine ⟨?_, rfl⟩
      rw [bI_t (by rw [e]; exact path_self S c)]
theorem c_isAncestor (T : Tree S) (hR : RX S hd LN LT xt xar xnt xln xcu xck xcp xcl xmk xtl xnu xti xpa xfa xep xel xde xtc) {c a : Nat} (hc : c ∈ sL S) (ha : a ∈ sL S) : Ret g mdX1_isAncestor [.ref (hd c), .ref (hd a)] (wX g xo an ac am LN LT xt xar xnt xln xcu xck xcp xcl xmk xtl xnu xti xpa xfa xep xel xde xtc) (fun r w => r = some (.int (bI (decide (c ∈ path S a)))) ∧ w = (wX g xo an ac am LN LT xt xar xnt xln xcu xck xcp xcl xmk xtl xnu xti xpa xfa xep xel xde xtc)) := by
  refine Ret.of [_, _, _] 1 (by decide) (Nat.le_of_ble_eq_true rfl) rfl ?_
  refine ev_aload_nE (pc' := 1) dX1_isAncestor_0 rfl rfl (by first | exact rf_some _ | exact rfl) ?_
  refine ev_astore_nE (by first | exact rf_some _ | exact rfl) (pc' := 2) (lv' := [_, _, _]) dX1_isAncestor_1 rfl (by decide) (by intro w hw; first | exact Or.inl rfl | (right; have hw := Option.some.inj (Option.some.inj hw); subst hw; first | rfl | exact rf_cat _) | cases hw) rfl ?_
  exact anc_x T hR hc _ a ha
theorem lc_x (T : Tree S) (hR : RX S hd LN LT xt xar xnt xln xcu xck xcp xcl xmk xtl xnu xti xpa xfa xep xel xde xtc) {b : Nat} (hb : b ∈ sL S) (z : Nat) : ∀ (a : Nat), a ∈ sL S → Ev g mdX1_lowestCommon 2 [some (.ref z), some (.ref (hd b)), some (.ref (hd a))] [] (wX g xo an ac am LN LT xt xar xnt xln xcu xck xcp xcl xmk xtl xnu xti xpa xfa xep xel xde xtc) (fun r w => r = some (.ref (hd (lca S a b))) ∧ w = (wX g xo an ac am LN LT xt xar xnt xln xcu xck xcp xcl xmk xtl xnu xti xpa xfa xep xel xde xtc)) := by
  intro a
  induction a using Nat.strongRecOn with
  | ind a ih =>
    intro ha
    have hr := RX.row hR ha
    have hpa := hr.2.2.2.2.2.1
    cases hc : spa S a with
    | none =>
      rw [hc] at hpa
      refine ev_aload_nE (pc' := 3) dX1_lowestCommon_2 rfl rfl (by first | exact rf_some _ | exact rfl) ?_
      refine gX0_parent rfl hr.1 hpa (pc' := 6) dX1_lowestCommon_3 rfl ?_
      show Ev g mdX1_lowestCommon 6 _ [va_rf none] _ _
      refine ev_ifnullZ (tgt := 25) dX1_lowestCommon_6 (by decide) ?_
      refine ev_aload_nE (pc' := 26) dX1_lowestCommon_25 rfl rfl (by first | exact rf_some _ | exact rfl) ?_
      refine ev_aretE (nm := "EditTree$Node") (by first | exact rf_some _ | exact rfl) rfl dX1_lowestCommon_26 ?_
      refine ⟨?_, rfl⟩
      rw [lca_in (show a ∈ path S b by rw [T.none ha hc]; exact path_root T b hb)]
    | some c =>
      obtain ⟨h1, h2⟩ := T.par ha hc
      rw [hc] at hpa
      refine ev_aload_nE (pc' := 3) dX1_lowestCommon_2 rfl rfl (by first | exact rf_some _ | exact rfl) ?_
      refine gX0_parent rfl hr.1 hpa (pc' := 6) dX1_lowestCommon_3 rfl ?_
      refine ev_ifnullR (pc' := 9) dX1_lowestCommon_6 rfl ?_
      refine ev_aload_nE (pc' := 10) dX1_lowestCommon_9 rfl rfl (by first | exact rf_some _ | exact rfl) ?_
      refine ev_aload_nE (pc' := 11) dX1_lowestCommon_10 rfl rfl (by first | exact rf_some _ | exact rfl) ?_
      refine ev_callS (As := [_, _]) coX1_isAncestor (c_isAncestor T hR ha hb) rfl (by decide) (by first | exact Nat.le_of_ble_eq_true rfl | simp [Value.category, rf_cat]) dX1_lowestCommon_11 rfl (pc' := 14) rfl (fun v w hq => ?_)
      obtain ⟨rfl, rfl⟩ := hq
      dsimp only [Option.toList, List.cons_append, List.nil_append]
      refine ev_if_ne (tgt := 25) (pc' := 17) dX1_lowestCommon_14 (by decide) rfl (fun h14 => ?_) (fun h14 => ?_)
      · rw [bI_ne, decide_eq_true_eq] at h14
        refine ev_aload_nE (pc' := 26) dX1_lowestCommon_25 rfl rfl (by first | exact rf_some _ | exact rfl) ?_
        refine ev_aretE (nm := "EditTree$Node") (by first | exact rf_some _ | exact rfl) rfl dX1_lowestCommon_26 ?_
        refine ⟨?_, rfl⟩
        rw [lca_in h14]
      · rw [bI_eq, decide_eq_false_iff_not] at h14
        refine ev_aload_nE (pc' := 18) dX1_lowestCommon_17 rfl rfl (by first | exact rf_some _ | exact rfl) ?_
        refine gX0_parent rfl hr.1 hpa (pc' := 21) dX1_lowestCommon_18 rfl ?_
        refine ev_astore_nE (by first | exact rf_some _ | exact rfl) (pc' := 22) (lv' := [_, _, _]) dX1_lowestCommon_21 rfl (by decide) (by intro w hw; first | exact Or.inl rfl | (right; have hw := Option.some.inj (Option.some.inj hw); subst hw; first | rfl | exact rf_cat _) | cases hw) rfl ?_
        refine ev_goto (pc' := 2) dX1_lowestCommon_22 (by decide) ?_
        rw [lca_up T ha hc h14]
        exact ih c h2 h1
theorem c_lowestCommon (T : Tree S) (hR : RX S hd LN LT xt xar xnt xln xcu xck xcp xcl xmk xtl xnu xti xpa xfa xep xel xde xtc) {a b : Nat} (ha : a ∈ sL S) (hb : b ∈ sL S) : Ret g mdX1_lowestCommon [.ref (hd a), .ref (hd b)] (wX g xo an ac am LN LT xt xar xnt xln xcu xck xcp xcl xmk xtl xnu xti xpa xfa xep xel xde xtc) (fun r w => r = some (.ref (hd (lca S a b))) ∧ w = (wX g xo an ac am LN LT xt xar xnt xln xcu xck xcp xcl xmk xtl xnu xti xpa xfa xep xel xde xtc)) := by
  refine Ret.of [_, _, _] 1 (by decide) (Nat.le_of_ble_eq_true rfl) rfl ?_
  refine ev_aload_nE (pc' := 1) dX1_lowestCommon_0 rfl rfl (by first | exact rf_some _ | exact rfl) ?_
  refine ev_astore_nE (by first | exact rf_some _ | exact rfl) (pc' := 2) (lv' := [_, _, _]) dX1_lowestCommon_1 rfl (by decide) (by intro w hw; first | exact Or.inl rfl | (right; have hw := Option.some.inj (Option.some.inj hw); subst hw; first | rfl | exact rf_cat _) | cases hw) rfl ?_
  exact lc_x T hR hb _ a ha
theorem dp_x (T : Tree S) (hR : RX S hd LN LT xt xar xnt xln xcu xck xcp xcl xmk xtl xnu xti xpa xfa xep xel xde xtc) (z : Nat) : ∀ (a : Nat), a ∈ sL S → ∀ m : Nat, Ev g mdX1_depthOf 7 [some (.ref z), some (.int (nI m)), some (va_rf ((spa S a).map hd))] [] (wX g xo an ac am LN LT xt xar xnt xln xcu xck xcp xcl xmk xtl xnu xti xpa xfa xep xel xde xtc) (fun r w => r = some (.int (nI (m + dep S a))) ∧ w = (wX g xo an ac am LN LT xt xar xnt xln xcu xck xcp xcl xmk xtl xnu xti xpa xfa xep xel xde xtc)) := by
  intro a
  induction a using Nat.strongRecOn with
  | ind a ih =>
    intro ha m
    cases hb : spa S a with
    | none =>
      show Ev g mdX1_depthOf 7 [_, _, some (va_rf none)] [] _ _
      refine ev_aload_nE (pc' := 8) dX1_depthOf_7 rfl rfl (by first | exact rf_some _ | exact rfl) ?_
      refine ev_ifnullZ (tgt := 22) dX1_depthOf_8 (by decide) ?_
      refine ev_iload_n (pc' := 23) dX1_depthOf_22 rfl rfl ?_
      refine ev_iret rfl dX1_depthOf_23 ?_
      exact ⟨by rw [dep_none hb]; rfl, rfl⟩
    | some b =>
      obtain ⟨h1, h2⟩ := T.par ha hb
      have hr := RX.row hR h1
      show Ev g mdX1_depthOf 7 [_, _, some (.ref (hd b))] [] _ _
      refine ev_aload_nE (pc' := 8) dX1_depthOf_7 rfl rfl (by first | exact rf_some _ | exact rfl) ?_
      refine ev_ifnullR (pc' := 11) dX1_depthOf_8 rfl ?_
      refine ev_iinc (pc' := 14) (lv' := [_, _, _]) dX1_depthOf_11 rfl rfl (nI_1 _) (by decide) (by intro w hw; first | exact Or.inl rfl | (right; have hw := Option.some.inj (Option.some.inj hw); subst hw; first | rfl | exact rf_cat _) | cases hw) rfl ?_
      refine ev_aload_nE (pc' := 15) dX1_depthOf_14 rfl rfl (by first | exact rf_some _ | exact rfl) ?_
      refine gX0_parent rfl hr.1 hr.2.2.2.2.2.1 (pc' := 18) dX1_depthOf_15 rfl ?_
      refine ev_astore_nE (by first | exact rf_some _ | exact rfl) (pc' := 19) (lv' := [_, _, _]) dX1_depthOf_18 rfl (by decide) (by intro w hw; first | exact Or.inl rfl | (right; have hw := Option.some.inj (Option.some.inj hw); subst hw; first | rfl | exact rf_cat _) | cases hw) rfl ?_
      refine ev_goto (pc' := 7) dX1_depthOf_19 (by decide) ?_
      rw [dep_some T ha hb, show m + (dep S b + 1) = m + 1 + dep S b by omega]
      exact ih b h2 h1 (m + 1)
theorem c_depthOf (T : Tree S) (hR : RX S hd LN LT xt xar xnt xln xcu xck xcp xcl xmk xtl xnu xti xpa xfa xep xel xde xtc) {a : Nat} (ha : a ∈ sL S) : Ret g mdX1_depthOf [.ref (hd a)] (wX g xo an ac am LN LT xt xar xnt xln xcu xck xcp xcl xmk xtl xnu xti xpa xfa xep xel xde xtc) (fun r w => r = some (.int (nI (dep S a))) ∧ w = (wX g xo an ac am LN LT xt xar xnt xln xcu xck xcp xcl xmk xtl xnu xti xpa xfa xep xel xde xtc)) := by
  refine Ret.of [_, _, _] 2 (by decide) (Nat.le_of_ble_eq_true rfl) rfl ?_
  have hr := RX.row hR ha
  refine ev_iconst (pc' := 1) (v := nI 0) dX1_depthOf_0 rfl (by decide) ?_
  refine ev_istore_n (pc' := 2) (lv' := [_, _, _]) dX1_depthOf_1 rfl (by decide) (by intro w hw; first | exact Or.inl rfl | (right; have hw := Option.some.inj (Option.some.inj hw); subst hw; first | rfl | exact rf_cat _) | cases hw) rfl ?_
  refine ev_aload_nE (pc' := 3) dX1_depthOf_2 rfl rfl (by first | exact rf_some _ | exact rfl) ?_
  refine gX0_parent rfl hr.1 hr.2.2.2.2.2.1 (pc' := 6) dX1_depthOf_3 rfl ?_
  refine ev_astore_nE (by first | exact rf_some _ | exact rfl) (pc' := 7) (lv' := [_, _, _]) dX1_depthOf_6 rfl (by decide) (by intro w hw; first | exact Or.inl rfl | (right; have hw := Option.some.inj (Option.some.inj hw); subst hw; first | rfl | exact rf_cat _) | cases hw) rfl ?_
  have := dp_x (g := g) (xo := xo) (an := an) (ac := ac) (am := am) T hR (hd a) a ha 0
  rw [Nat.zero_add] at this
  exact this
theorem c_steps (T : Tree S) (hR : RX S hd LN LT xt xar xnt xln xcu xck xcp xcl xmk xtl xnu xti xpa xfa xep xel xde xtc) {a b : Nat} (ha : a ∈ sL S) (hb : b ∈ sL S) : Ret g mdX1_stepsBetween [.ref (hd a), .ref (hd b)] (wX g xo an ac am LN LT xt xar xnt xln xcu xck xcp xcl xmk xtl xnu xti xpa xfa xep xel xde xtc) (fun r w => r = some (.int (farS S a b)) ∧ w = (wX g xo an ac am LN LT xt xar xnt xln xcu xck xcp xcl xmk xtl xnu xti xpa xfa xep xel xde xtc)) := by
  refine Ret.of [_, _, _] 1 (by decide) (Nat.le_of_ble_eq_true rfl) rfl ?_
  refine ev_aload_nE (pc' := 1) dX1_stepsBetween_0 rfl rfl (by first | exact rf_some _ | exact rfl) ?_
  refine ev_aload_nE (pc' := 2) dX1_stepsBetween_1 rfl rfl (by first | exact rf_some _ | exact rfl) ?_
  refine ev_callS (As := [_, _]) coX1_lowestCommon (c_lowestCommon T hR ha hb) rfl (by decide) (by first | exact Nat.le_of_ble_eq_true rfl | simp [Value.category, rf_cat]) dX1_stepsBetween_2 rfl (pc' := 5) rfl (fun v w hq => ?_)
  obtain ⟨rfl, rfl⟩ := hq
  dsimp only [Option.toList, List.cons_append, List.nil_append]
  refine ev_astore_nE (by first | exact rf_some _ | exact rfl) (pc' := 6) (lv' := [_, _, _]) dX1_stepsBetween_5 rfl (by decide) (by intro w hw; first | exact Or.inl rfl | (right; have hw := Option.some.inj (Option.some.inj hw); subst hw; first | rfl | exact rf_cat _) | cases hw) rfl ?_
  refine ev_aload_nE (pc' := 7) dX1_stepsBetween_6 rfl rfl (by first | exact rf_some _ | exact rfl) ?_
  refine ev_callS (As := [_]) coX1_depthOf (c_depthOf T hR ha) rfl (by decide) (by first | exact Nat.le_of_ble_eq_true rfl | simp [Value.category, rf_cat]) dX1_stepsBetween_7 rfl (pc' := 10) rfl (fun v w hq => ?_)
  obtain ⟨rfl, rfl⟩ := hq
  dsimp only [Option.toList, List.cons_append, List.nil_append]
  refine ev_aload_nE (pc' := 11) dX1_stepsBetween_10 rfl rfl (by first | exact rf_some _ | exact rfl) ?_
  refine ev_callS (As := [_]) coX1_depthOf (c_depthOf T hR hb) rfl (by decide) (by first | exact Nat.le_of_ble_eq_true rfl | simp [Value.category, rf_cat]) dX1_stepsBetween_11 rfl (pc' := 14) rfl (fun v w hq => ?_)
  obtain ⟨rfl, rfl⟩ := hq
  dsimp only [Option.toList, List.cons_append, List.nil_append]
  refine ev_iadd (pc' := 15) dX1_stepsBetween_14 rfl ?_
  refine ev_iconst (pc' := 16) (v := nI 2) dX1_stepsBetween_15 rfl (by decide) ?_
  refine ev_aload_nE (pc' := 17) dX1_stepsBetween_16 rfl rfl (by first | exact rf_some _ | exact rfl) ?_
  refine ev_callS (As := [_]) coX1_depthOf (c_depthOf T hR (lca_mem T hb a ha)) rfl (by decide) (by first | exact Nat.le_of_ble_eq_true rfl | simp [Value.category, rf_cat]) dX1_stepsBetween_17 rfl (pc' := 20) rfl (fun v w hq => ?_)
  obtain ⟨rfl, rfl⟩ := hq
  dsimp only [Option.toList, List.cons_append, List.nil_append]
  refine ev_imul (pc' := 21) dX1_stepsBetween_20 rfl ?_
  refine ev_isub (pc' := 22) dX1_stepsBetween_21 rfl ?_
  refine ev_iret rfl dX1_stepsBetween_22 ?_
  exact ⟨rfl, rfl⟩
theorem c_editCode (hR : RX S hd LN LT xt xar xnt xln xcu xck xcp xcl xmk xtl xnu xti xpa xfa xep xel xde xtc) {a : Nat} (ha : a ∈ sL S) : Ret g mdX1_editCode [.ref (hd a)] (wX g xo an ac am LN LT xt xar xnt xln xcu xck xcp xcl xmk xtl xnu xti xpa xfa xep xel xde xtc) (fun r w => r = some (.int (edc S a)) ∧ w = (wX g xo an ac am LN LT xt xar xnt xln xcu xck xcp xcl xmk xtl xnu xti xpa xfa xep xel xde xtc)) := by
  refine Ret.of [_] 0 (by decide) (Nat.le_of_ble_eq_true rfl) rfl ?_
  have hr := RX.row hR ha
  refine ev_sipush (pc' := 3) (v := nI 1000) dX1_editCode_0 rfl (by decide) ?_
  refine ev_aload_nE (pc' := 4) dX1_editCode_3 rfl rfl (by first | exact rf_some _ | exact rfl) ?_
  refine gX0_editPosition rfl hr.1 hr.2.2.2.2.2.2.2.1 (pc' := 7) dX1_editCode_4 rfl ?_
  refine ev_imul (pc' := 8) dX1_editCode_7 rfl ?_
  refine ev_bipush (pc' := 10) (v := nI 10) dX1_editCode_8 rfl (by decide) ?_
  refine ev_aload_nE (pc' := 11) dX1_editCode_10 rfl rfl (by first | exact rf_some _ | exact rfl) ?_
  refine gX0_editLength rfl hr.1 hr.2.2.2.2.2.2.2.2.1 (pc' := 14) dX1_editCode_11 rfl ?_
  refine ev_imul (pc' := 15) dX1_editCode_14 rfl ?_
  refine ev_iadd (pc' := 16) dX1_editCode_15 rfl ?_
  refine ev_aload_nE (pc' := 17) dX1_editCode_16 rfl rfl (by first | exact rf_some _ | exact rfl) ?_
  refine gX0_deletion rfl hr.1 hr.2.2.2.2.2.2.2.2.2.1 (pc' := 20) dX1_editCode_17 rfl ?_
  refine ev_if_eq (tgt := 27) (pc' := 23) dX1_editCode_20 (by decide) rfl (fun h20 => ?_) (fun h20 => ?_)
  · refine ev_iconst (pc' := 28) (v := nI 0) dX1_editCode_27 rfl (by decide) ?_
    refine ev_iadd (pc' := 29) dX1_editCode_28 rfl ?_
    refine ev_iret rfl dX1_editCode_29 ?_
    refine ⟨?_, rfl⟩
    unfold edc
    rw [bI_eq.mp h20]; rfl
  · refine ev_iconst (pc' := 24) (v := nI 1) dX1_editCode_23 rfl (by decide) ?_
    refine ev_goto (pc' := 28) dX1_editCode_24 (by decide) ?_
    refine ev_iadd (pc' := 29) dX1_editCode_28 rfl ?_
    refine ev_iret rfl dX1_editCode_29 ?_
    refine ⟨?_, rfl⟩
    unfold edc
    rw [bI_ne.mp h20]; rfl
theorem c_isTreeFull (T : Tree S) (hR : RX S hd LN LT xt xar xnt xln xcu xck xcp xcl xmk xtl xnu xti xpa xfa xep xel xde xtc) : Ret g mdX1_isTreeFull [.ref xo] (wX g xo an ac am LN LT xt xar xnt xln xcu xck xcp xcl xmk xtl xnu xti xpa xfa xep xel xde xtc) (fun r w => r = some (.int (bI (decide ((sL S).length = 24)))) ∧ w = (wX g xo an ac am LN LT xt xar xnt xln xcu xck xcp xcl xmk xtl xnu xti xpa xfa xep xel xde xtc)) := by
  refine Ret.of [_] 0 (by decide) (Nat.le_of_ble_eq_true rfl) rfl ?_
  have hlen := T.len
  have e1 := hR.1
  subst e1
  refine ev_aload_nE (pc' := 1) dX1_isTreeFull_0 rfl rfl (by first | exact rf_some _ | exact rfl) ?_
  refine gX1_nodeTotal rfl (pc' := 4) dX1_isTreeFull_1 rfl ?_
  refine ev_bipush (pc' := 6) (v := nI 24) dX1_isTreeFull_4 rfl (by decide) ?_
  refine ev_icmp_lt (tgt := 13) (pc' := 9) dX1_isTreeFull_6 (by decide) rfl (fun h6 => ?_) (fun h6 => ?_)
  · rw [nI_ltI (by omega) (by omega)] at h6
    refine ev_iconst (pc' := 14) (v := nI 0) dX1_isTreeFull_13 rfl (by decide) ?_
    refine ev_zret rfl (by decide) dX1_isTreeFull_14 ?_
    exact ⟨by rw [bI_f (by omega)], rfl⟩
  · rw [nI_ltI (by omega) (by omega)] at h6
    refine ev_iconst (pc' := 10) (v := nI 1) dX1_isTreeFull_9 rfl (by decide) ?_
    refine ev_goto (pc' := 14) dX1_isTreeFull_10 (by decide) ?_
    refine ev_zret rfl (by decide) dX1_isTreeFull_14 ?_
    exact ⟨by rw [bI_t (by omega)], rfl⟩
theorem c_hasRoomFor (hR : RX S hd LN LT xt xar xnt xln xcu xck xcp xcl xmk xtl xnu xti xpa xfa xep xel xde xtc) (hc : scu S ∈ sL S) (h40 : stl S (scu S) ≤ 40) {n : Nat} (hn : n ≤ 6) : Ret g mdX1_hasRoomFor [.ref xo, .int (nI n)] (wX g xo an ac am LN LT xt xar xnt xln xcu xck xcp xcl xmk xtl xnu xti xpa xfa xep xel xde xtc) (fun r w => r = some (.int (bI (decide (stl S (scu S) + n ≤ 40)))) ∧ w = (wX g xo an ac am LN LT xt xar xnt xln xcu xck xcp xcl xmk xtl xnu xti xpa xfa xep xel xde xtc)) := by
  refine Ret.of [_, _] 0 (by decide) (Nat.le_of_ble_eq_true rfl) rfl ?_
  have hr := RX.row hR hc
  have e3 := hR.2.2.1
  subst e3
  refine ev_iload_n (pc' := 1) dX1_hasRoomFor_0 rfl rfl ?_
  refine ev_bipush (pc' := 3) (v := nI 40) dX1_hasRoomFor_1 rfl (by decide) ?_
  refine ev_aload_nE (pc' := 4) dX1_hasRoomFor_3 rfl rfl (by first | exact rf_some _ | exact rfl) ?_
  refine gX1_currentNode rfl (pc' := 7) dX1_hasRoomFor_4 rfl ?_
  refine gX0_textLength rfl hr.1 hr.2.2.1 (pc' := 10) dX1_hasRoomFor_7 rfl ?_
  refine ev_isubN (by omega) (pc' := 11) dX1_hasRoomFor_10 rfl ?_
  refine ev_icmp_gt (tgt := 18) (pc' := 14) dX1_hasRoomFor_11 (by decide) rfl (fun h11 => ?_) (fun h11 => ?_)
  · rw [nI_ltI (by omega) (by omega)] at h11
    refine ev_iconst (pc' := 19) (v := nI 0) dX1_hasRoomFor_18 rfl (by decide) ?_
    refine ev_zret rfl (by decide) dX1_hasRoomFor_19 ?_
    exact ⟨by rw [bI_f (by omega)], rfl⟩
  · rw [nI_ltI (by omega) (by omega)] at h11
    refine ev_iconst (pc' := 15) (v := nI 1) dX1_hasRoomFor_14 rfl (by decide) ?_
    refine ev_goto (pc' := 19) dX1_hasRoomFor_15 (by decide) ?_
    refine ev_zret rfl (by decide) dX1_hasRoomFor_19 ?_
    exact ⟨by rw [bI_t (by omega)], rfl⟩
theorem c_xisMark (ws : va_W) (x : Int32) : Ret g mdX1_isMark [.int x] ws (fun r w => r = some (.int (bI (isMk x))) ∧ w = ws) := by
  refine Ret.of [_] 0 (by decide) (Nat.le_of_ble_eq_true rfl) rfl ?_
  have key : isMk x = decide (¬ x < 0 ∧ ¬ nI 5 ≤ x) := by
    unfold isMk
    congr 1
    rw [Int32.le_iff_toInt_le, Int32.le_iff_toInt_le, Int32.lt_iff_toInt_lt, Int32.le_iff_toInt_le]
    have e4 : (4 : Int32).toInt = 4 := by decide
    have e5 : (nI 5).toInt = 5 := by decide
    have e0 : (0 : Int32).toInt = 0 := by decide
    rw [e4, e5, e0]
    apply propext
    omega
  rw [key]
  refine ev_iload_n (pc' := 1) dX1_isMark_0 rfl rfl ?_
  refine ev_if_lt (tgt := 13) (pc' := 4) dX1_isMark_1 (by decide) rfl (fun h1 => ?_) (fun h1 => ?_)
  · refine ev_iconst (pc' := 14) (v := nI 0) dX1_isMark_13 rfl (by decide) ?_
    refine ev_zret rfl (by decide) dX1_isMark_14 ?_
    exact ⟨by rw [bI_f (fun q => q.1 h1)], rfl⟩
  · refine ev_iload_n (pc' := 5) dX1_isMark_4 rfl rfl ?_
    refine ev_iconst (pc' := 6) (v := nI 5) dX1_isMark_5 rfl (by decide) ?_
    refine ev_icmp_ge (tgt := 13) (pc' := 9) dX1_isMark_6 (by decide) rfl (fun h6 => ?_) (fun h6 => ?_)
    · refine ev_iconst (pc' := 14) (v := nI 0) dX1_isMark_13 rfl (by decide) ?_
      refine ev_zret rfl (by decide) dX1_isMark_14 ?_
      exact ⟨by rw [bI_f (fun q => q.2 h6)], rfl⟩
    · refine ev_iconst (pc' := 10) (v := nI 1) dX1_isMark_9 rfl (by decide) ?_
      refine ev_goto (pc' := 14) dX1_isMark_10 (by decide) ?_
      refine ev_zret rfl (by decide) dX1_isMark_14 ?_
      exact ⟨by rw [bI_t ⟨h1, h6⟩], rfl⟩
theorem mk_eq (hR : RX S hd LN LT xt xar xnt xln xcu xck xcp xcl xmk xtl xnu xti xpa xfa xep xel xde xtc) {a i : Nat} (ha : a ∈ sL S) (hm : ∀ b, smk S i = some b → b ∈ sL S) : (smk S i).map hd = some (hd a) ↔ smk S i = some a := by
  cases h : smk S i with
  | none => exact ⟨fun q => absurd q (by simp), fun q => absurd q (by simp)⟩
  | some b => exact ⟨fun q => by rw [RX.inj hR (hm b h) ha (Option.some.inj q)], fun q => by cases q; rfl⟩
theorem mon_x (hR : RX S hd LN LT xt xar xnt xln xcu xck xcp xcl xmk xtl xnu xti xpa xfa xep xel xde xtc) (hm : ∀ i, i < 5 → ∀ b, smk S i = some b → b ∈ sL S) {a : Nat} (ha : a ∈ sL S) : ∀ (m k n : Nat), k + m = 5 → Ev g mdX1_marksOn 4 [some (.ref xo), some (.ref (hd a)), some (.int (nI n)), some (.int (nI k))] [] (wX g xo an ac am LN LT xt xar xnt xln xcu xck xcp xcl xmk xtl xnu xti xpa xfa xep xel xde xtc) (fun r w => r = some (.int (nI (n + cnt (fun i => decide (smk S i = some a)) ((List.range 5).drop k)))) ∧ w = (wX g xo an ac am LN LT xt xar xnt xln xcu xck xcp xcl xmk xtl xnu xti xpa xfa xep xel xde xtc)) := by
  intro m
  induction m with
  | zero =>
    intro k n hk
    have : k = 5 := by omega
    subst this
    refine ev_iload_n (pc' := 5) dX1_marksOn_4 rfl rfl ?_
    refine ev_iconst (pc' := 6) (v := nI 5) dX1_marksOn_5 rfl (by decide) ?_
    refine ev_icmp_ge (tgt := 28) (pc' := 9) dX1_marksOn_6 (by decide) rfl (fun h6 => ?_) (fun h6 => ?_)
    · refine ev_iload_n (pc' := 29) dX1_marksOn_28 rfl rfl ?_
      refine ev_iret rfl dX1_marksOn_29 ?_
      exact ⟨rfl, rfl⟩
    · exact absurd (nI_le (by omega) (by omega)) h6
  | succ m ih =>
    intro k n hk
    have hdr : (List.range 5).drop k = k :: (List.range 5).drop (k + 1) := by
      rw [List.drop_eq_getElem_cons (by simp; omega)]; simp
    rw [hdr]
    refine ev_iload_n (pc' := 5) dX1_marksOn_4 rfl rfl ?_
    refine ev_iconst (pc' := 6) (v := nI 5) dX1_marksOn_5 rfl (by decide) ?_
    refine ev_icmp_ge (tgt := 28) (pc' := 9) dX1_marksOn_6 (by decide) rfl (fun h6 => ?_) (fun h6 => ?_)
    · exact absurd h6 (nI_ge (by omega) (by omega))
    · refine ev_aload_nE (pc' := 10) dX1_marksOn_9 rfl rfl (by first | exact rf_some _ | exact rfl) ?_
      refine gX1_marks rfl (pc' := 13) dX1_marksOn_10 rfl ?_
      refine ev_iload_n (pc' := 14) dX1_marksOn_13 rfl rfl ?_
      refine x_marks_get (by omega) (RX.mk hR (by omega)) (pc' := 15) dX1_marksOn_14 rfl ?_
      refine ev_aload_nE (pc' := 16) dX1_marksOn_15 rfl rfl (by first | exact rf_some _ | exact rfl) ?_
      refine ev_acmp_neE (by first | exact rf_some _ | exact rfl) (by first | exact rf_some _ | exact rfl) (tgt := 22) (pc' := 19) dX1_marksOn_16 (by decide) rfl (fun h16 => ?_) (fun h16 => ?_)
      · rw [mk_eq hR ha (hm k (by omega))] at h16
        refine ev_iinc (pc' := 25) (lv' := [_, _, _, _]) dX1_marksOn_22 rfl rfl (nI_1 _) (by decide) (by intro w hw; first | exact Or.inl rfl | (right; have hw := Option.some.inj (Option.some.inj hw); subst hw; first | rfl | exact rf_cat _) | cases hw) rfl ?_
        refine ev_goto (pc' := 4) dX1_marksOn_25 (by decide) ?_
        have h := ih (k + 1) n (by omega)
        unfold cnt
        rw [decide_eq_false h16, if_neg (by decide), Nat.zero_add]
        exact h
      · rw [mk_eq hR ha (hm k (by omega))] at h16
        refine ev_iinc (pc' := 22) (lv' := [_, _, _, _]) dX1_marksOn_19 rfl rfl (nI_1 _) (by decide) (by intro w hw; first | exact Or.inl rfl | (right; have hw := Option.some.inj (Option.some.inj hw); subst hw; first | rfl | exact rf_cat _) | cases hw) rfl ?_
        refine ev_iinc (pc' := 25) (lv' := [_, _, _, _]) dX1_marksOn_22 rfl rfl (nI_1 _) (by decide) (by intro w hw; first | exact Or.inl rfl | (right; have hw := Option.some.inj (Option.some.inj hw); subst hw; first | rfl | exact rf_cat _) | cases hw) rfl ?_
        refine ev_goto (pc' := 4) dX1_marksOn_25 (by decide) ?_
        have h := ih (k + 1) (n + 1) (by omega)
        unfold cnt
        rw [decide_eq_true h16, if_pos rfl, ← Nat.add_assoc]
        exact h
theorem c_xmarksOn (hR : RX S hd LN LT xt xar xnt xln xcu xck xcp xcl xmk xtl xnu xti xpa xfa xep xel xde xtc) (hm : ∀ i, i < 5 → ∀ b, smk S i = some b → b ∈ sL S) {a : Nat} (ha : a ∈ sL S) : Ret g mdX1_marksOn [.ref xo, .ref (hd a)] (wX g xo an ac am LN LT xt xar xnt xln xcu xck xcp xcl xmk xtl xnu xti xpa xfa xep xel xde xtc) (fun r w => r = some (.int (nI (mkN S a))) ∧ w = (wX g xo an ac am LN LT xt xar xnt xln xcu xck xcp xcl xmk xtl xnu xti xpa xfa xep xel xde xtc)) := by
  refine Ret.of [_, _, _, _] 2 (by decide) (Nat.le_of_ble_eq_true rfl) rfl ?_
  refine ev_iconst (pc' := 1) (v := nI 0) dX1_marksOn_0 rfl (by decide) ?_
  refine ev_istore_n (pc' := 2) (lv' := [_, _, _, _]) dX1_marksOn_1 rfl (by decide) (by intro w hw; first | exact Or.inl rfl | (right; have hw := Option.some.inj (Option.some.inj hw); subst hw; first | rfl | exact rf_cat _) | cases hw) rfl ?_
  refine ev_iconst (pc' := 3) (v := nI 0) dX1_marksOn_2 rfl (by decide) ?_
  refine ev_istore_n (pc' := 4) (lv' := [_, _, _, _]) dX1_marksOn_3 rfl (by decide) (by intro w hw; first | exact Or.inl rfl | (right; have hw := Option.some.inj (Option.some.inj hw); subst hw; first | rfl | exact rf_cat _) | cases hw) rfl ?_
  have h := mon_x (g := g) (xo := xo) (an := an) (ac := ac) (am := am) hR hm ha 5 0 0 rfl
  rw [Nat.zero_add] at h
  exact h
theorem c_isForgettable (I : Inv N S) (hR : RX S hd LN LT xt xar xnt xln xcu xck xcp xcl xmk xtl xnu xti xpa xfa xep xel xde xtc) {a : Nat} (ha : a ∈ sL S) : Ret g mdX1_isForgettable [.ref xo, .ref (hd a)] (wX g xo an ac am LN LT xt xar xnt xln xcu xck xcp xcl xmk xtl xnu xti xpa xfa xep xel xde xtc) (fun r w => r = some (.int (bI (loose S a))) ∧ w = (wX g xo an ac am LN LT xt xar xnt xln xcu xck xcp xcl xmk xtl xnu xti xpa xfa xep xel xde xtc)) := by
  refine Ret.of [_, _] 0 (by decide) (Nat.le_of_ble_eq_true rfl) rfl ?_
  have T := I.T
  have hr := RX.row hR ha
  have e3 := hR.2.2.1
  subst e3
  have no : ¬ (a ≠ 0 ∧ a ≠ scu S ∧ chN S a = 0 ∧ mkN S a = 0) → Ev g mdX1_isForgettable 34 [some (.ref xo), some (.ref (hd a))] [] (wX g xo an ac am LN LT xt xar xnt xln (hd (scu S)) xck xcp xcl xmk xtl xnu xti xpa xfa xep xel xde xtc) (fun r w => r = some (.int (bI (loose S a))) ∧ w = (wX g xo an ac am LN LT xt xar xnt xln (hd (scu S)) xck xcp xcl xmk xtl xnu xti xpa xfa xep xel xde xtc)) := by
    intro h
    refine ev_iconst (pc' := 35) (v := nI 0) dX1_isForgettable_34 rfl (by decide) ?_
    refine ev_zret rfl (by decide) dX1_isForgettable_35 ?_
    refine ⟨?_, rfl⟩
    unfold loose
    rw [bI_f h]
  have hpa := hr.2.2.2.2.2.1
  cases hb : spa S a with
  | none =>
    rw [hb] at hpa
    refine ev_aload_nE (pc' := 1) dX1_isForgettable_0 rfl rfl (by first | exact rf_some _ | exact rfl) ?_
    refine gX0_parent rfl hr.1 hpa (pc' := 4) dX1_isForgettable_1 rfl ?_
    show Ev g mdX1_isForgettable 4 _ [va_rf none] _ _
    refine ev_ifnullZ (tgt := 34) dX1_isForgettable_4 (by decide) ?_
    exact no (fun q => q.1 (T.none ha hb))
  | some b =>
    have hz : a ≠ 0 := fun q => by rw [q, T.pa0] at hb; cases hb
    rw [hb] at hpa
    refine ev_aload_nE (pc' := 1) dX1_isForgettable_0 rfl rfl (by first | exact rf_some _ | exact rfl) ?_
    refine gX0_parent rfl hr.1 hpa (pc' := 4) dX1_isForgettable_1 rfl ?_
    refine ev_ifnullR (pc' := 7) dX1_isForgettable_4 rfl ?_
    refine ev_aload_nE (pc' := 8) dX1_isForgettable_7 rfl rfl (by first | exact rf_some _ | exact rfl) ?_
    refine ev_aload_nE (pc' := 9) dX1_isForgettable_8 rfl rfl (by first | exact rf_some _ | exact rfl) ?_
    refine gX1_currentNode rfl (pc' := 12) dX1_isForgettable_9 rfl ?_
    refine ev_acmp_eqE (by first | exact rf_some _ | exact rfl) (by first | exact rf_some _ | exact rfl) (tgt := 34) (pc' := 15) dX1_isForgettable_12 (by decide) rfl (fun h12 => ?_) (fun h12 => ?_)
    · exact no (fun q => q.2.1 (RX.inj hR ha I.cu (Option.some.inj h12)))
    · have hc : a ≠ scu S := fun q => h12 (by rw [q])
      have hfa := hr.2.2.2.2.2.2.1
      cases hf : sfa S a with
      | some c =>
        rw [hf] at hfa
        refine ev_aload_nE (pc' := 16) dX1_isForgettable_15 rfl rfl (by first | exact rf_some _ | exact rfl) ?_
        refine gX0_favourite rfl hr.1 hfa (pc' := 19) dX1_isForgettable_16 rfl ?_
        refine ev_ifnonnullR (tgt := 34) dX1_isForgettable_19 (by decide) ?_
        refine no (fun q => ?_)
        obtain ⟨h1, h2⟩ := I.fa ha hf
        have := cnt_0.mp q.2.2.1 c h1
        simp [h2] at this
      | none =>
        rw [hf] at hfa
        have hch : chN S a = 0 := cnt_0.mpr (fun c hc => by simpa using I.fn ha hf hc)
        have hml := mkN_le S a
        refine ev_aload_nE (pc' := 16) dX1_isForgettable_15 rfl rfl (by first | exact rf_some _ | exact rfl) ?_
        refine gX0_favourite rfl hr.1 hfa (pc' := 19) dX1_isForgettable_16 rfl ?_
        show Ev g mdX1_isForgettable 19 _ [va_rf none] _ _
        refine ev_ifnonnullZ (pc' := 22) dX1_isForgettable_19 rfl ?_
        refine ev_aload_nE (pc' := 23) dX1_isForgettable_22 rfl rfl (by first | exact rf_some _ | exact rfl) ?_
        refine ev_aload_nE (pc' := 24) dX1_isForgettable_23 rfl rfl (by first | exact rf_some _ | exact rfl) ?_
        refine x_callV (As := [_]) coX1_marksOn rfl (c_xmarksOn hR (fun i hi b hb => I.mk hi hb) ha) rfl (by decide) (by first | exact Nat.le_of_ble_eq_true rfl | simp [Value.category, rf_cat]) dX1_isForgettable_24 rfl (pc' := 27) rfl (fun v w hq => ?_)
        obtain ⟨rfl, rfl⟩ := hq
        dsimp only [Option.toList, List.cons_append, List.nil_append]
        refine ev_if_ne (tgt := 34) (pc' := 30) dX1_isForgettable_27 (by decide) rfl (fun h27 => ?_) (fun h27 => ?_)
        · exact no (fun q => h27 (by rw [q.2.2.2]; rfl))
        · rw [nIz (by omega)] at h27
          refine ev_iconst (pc' := 31) (v := nI 1) dX1_isForgettable_30 rfl (by decide) ?_
          refine ev_goto (pc' := 35) dX1_isForgettable_31 (by decide) ?_
          refine ev_zret rfl (by decide) dX1_isForgettable_35 ?_
          refine ⟨?_, rfl⟩
          unfold loose
          rw [bI_t ⟨hz, hc, hch, h27⟩]
end X1
end
section
/-! ===== the landed class: the calls that read ===== -/
section X2
variable {g : EG} {xo an ac am : Nat} {LN LT : List Nat} {xt : Nat → Nat} {xar : Nat → Option Nat} {xnt xln : Int32} {xcu : Nat} {xck : Int32} {xcp : Nat → Int32} {xcl : Int32} {xmk : Nat → Option Nat} {xtl xnu xti : Nat → Int32} {xpa xfa : Nat → Option Nat} {xep xel xde : Nat → Int32} {xtc : Nat → Nat → Int32}
variable {S : SS} {hd : Nat → Nat} {N : Nat} {Ph : Option Value → va_W → Prop}
theorem c_xcurrent (hR : RX S hd LN LT xt xar xnt xln xcu xck xcp xcl xmk xtl xnu xti xpa xfa xep xel xde xtc) (hc : scu S ∈ sL S) : Ret g mdX1_current [.ref xo] (wX g xo an ac am LN LT xt xar xnt xln xcu xck xcp xcl xmk xtl xnu xti xpa xfa xep xel xde xtc) (fun r w => r = some (.int (nI (scu S))) ∧ w = (wX g xo an ac am LN LT xt xar xnt xln xcu xck xcp xcl xmk xtl xnu xti xpa xfa xep xel xde xtc)) := by
  refine Ret.of [_] 0 (by decide) (Nat.le_of_ble_eq_true rfl) rfl ?_
  have hr := RX.row hR hc
  have e3 := hR.2.2.1
  subst e3
  refine ev_aload_nE (pc' := 1) dX1_current_0 rfl rfl (by first | exact rf_some _ | exact rfl) ?_
  refine gX1_currentNode rfl (pc' := 4) dX1_current_1 rfl ?_
  refine gX0_number rfl hr.1 hr.2.2.2.1 (pc' := 7) dX1_current_4 rfl ?_
  refine ev_iret rfl dX1_current_7 ?_
  exact ⟨rfl, rfl⟩
theorem c_xnodeCount (hR : RX S hd LN LT xt xar xnt xln xcu xck xcp xcl xmk xtl xnu xti xpa xfa xep xel xde xtc) : Ret g mdX1_nodeCount [.ref xo] (wX g xo an ac am LN LT xt xar xnt xln xcu xck xcp xcl xmk xtl xnu xti xpa xfa xep xel xde xtc) (fun r w => r = some (.int (nI (sL S).length)) ∧ w = (wX g xo an ac am LN LT xt xar xnt xln xcu xck xcp xcl xmk xtl xnu xti xpa xfa xep xel xde xtc)) := by
  refine Ret.of [_] 0 (by decide) (Nat.le_of_ble_eq_true rfl) rfl ?_
  obtain rfl := hR.1
  refine ev_aload_nE (pc' := 1) dX1_nodeCount_0 rfl rfl (by first | exact rf_some _ | exact rfl) ?_
  refine gX1_nodeTotal rfl (pc' := 4) dX1_nodeCount_1 rfl ?_
  refine ev_iret rfl dX1_nodeCount_4 ?_
  exact ⟨rfl, rfl⟩
theorem c_xlengthOf (T : Tree S) (hR : RX S hd LN LT xt xar xnt xln xcu xck xcp xcl xmk xtl xnu xti xpa xfa xep xel xde xtc) (x : Int32) : Ret g mdX1_lengthOf [.ref xo, .int x] (wX g xo an ac am LN LT xt xar xnt xln xcu xck xcp xcl xmk xtl xnu xti xpa xfa xep xel xde xtc) (fun r w => r = some (.int (aLen S x)) ∧ w = (wX g xo an ac am LN LT xt xar xnt xln xcu xck xcp xcl xmk xtl xnu xti xpa xfa xep xel xde xtc)) := by
  refine Ret.of [_, _, _] 1 (by decide) (Nat.le_of_ble_eq_true rfl) rfl ?_
  unfold aLen
  refine ev_aload_nE (pc' := 1) dX1_lengthOf_0 rfl rfl (by first | exact rf_some _ | exact rfl) ?_
  refine ev_iload_n (pc' := 2) dX1_lengthOf_1 rfl rfl ?_
  refine x_callV (As := [_]) coX1_find rfl (c_find T hR x) rfl (by decide) (by first | exact Nat.le_of_ble_eq_true rfl | simp [Value.category, rf_cat]) dX1_lengthOf_2 rfl (pc' := 5) rfl (fun v w hq => ?_)
  obtain ⟨rfl, rfl⟩ := hq
  dsimp only [Option.toList, List.cons_append, List.nil_append]
  cases hl : lk S x with
  | none =>
    show Ev g mdX1_lengthOf 5 _ [va_rf none] _ _
    refine ev_astore_nE (by first | exact rf_some _ | exact rfl) (pc' := 6) (lv' := [_, _, _]) dX1_lengthOf_5 rfl (by decide) (by intro w hw; first | exact Or.inl rfl | (right; have hw := Option.some.inj (Option.some.inj hw); subst hw; first | rfl | exact rf_cat _) | cases hw) rfl ?_
    refine ev_aload_nE (pc' := 7) dX1_lengthOf_6 rfl rfl (by first | exact rf_some _ | exact rfl) ?_
    refine ev_ifnonnullZ (pc' := 10) dX1_lengthOf_7 rfl ?_
    refine ev_bipush (pc' := 12) (v := (-2)) dX1_lengthOf_10 rfl (by decide) ?_
    refine ev_goto (pc' := 19) dX1_lengthOf_12 (by decide) ?_
    refine ev_iret rfl dX1_lengthOf_19 ?_
    exact ⟨rfl, rfl⟩
  | some a =>
    have hr := RX.row hR (lk_some hl).1
    show Ev g mdX1_lengthOf 5 _ [.ref (hd a)] _ _
    refine ev_astore_nE (by first | exact rf_some _ | exact rfl) (pc' := 6) (lv' := [_, _, _]) dX1_lengthOf_5 rfl (by decide) (by intro w hw; first | exact Or.inl rfl | (right; have hw := Option.some.inj (Option.some.inj hw); subst hw; first | rfl | exact rf_cat _) | cases hw) rfl ?_
    refine ev_aload_nE (pc' := 7) dX1_lengthOf_6 rfl rfl (by first | exact rf_some _ | exact rfl) ?_
    refine ev_ifnonnullR (tgt := 15) dX1_lengthOf_7 (by decide) ?_
    refine ev_aload_nE (pc' := 16) dX1_lengthOf_15 rfl rfl (by first | exact rf_some _ | exact rfl) ?_
    refine gX0_textLength rfl hr.1 hr.2.2.1 (pc' := 19) dX1_lengthOf_16 rfl ?_
    refine ev_iret rfl dX1_lengthOf_19 ?_
    exact ⟨rfl, rfl⟩
theorem c_xtimeOf (T : Tree S) (hR : RX S hd LN LT xt xar xnt xln xcu xck xcp xcl xmk xtl xnu xti xpa xfa xep xel xde xtc) (x : Int32) : Ret g mdX1_timeOf [.ref xo, .int x] (wX g xo an ac am LN LT xt xar xnt xln xcu xck xcp xcl xmk xtl xnu xti xpa xfa xep xel xde xtc) (fun r w => r = some (.int (aTim S x)) ∧ w = (wX g xo an ac am LN LT xt xar xnt xln xcu xck xcp xcl xmk xtl xnu xti xpa xfa xep xel xde xtc)) := by
  refine Ret.of [_, _, _] 1 (by decide) (Nat.le_of_ble_eq_true rfl) rfl ?_
  unfold aTim
  refine ev_aload_nE (pc' := 1) dX1_timeOf_0 rfl rfl (by first | exact rf_some _ | exact rfl) ?_
  refine ev_iload_n (pc' := 2) dX1_timeOf_1 rfl rfl ?_
  refine x_callV (As := [_]) coX1_find rfl (c_find T hR x) rfl (by decide) (by first | exact Nat.le_of_ble_eq_true rfl | simp [Value.category, rf_cat]) dX1_timeOf_2 rfl (pc' := 5) rfl (fun v w hq => ?_)
  obtain ⟨rfl, rfl⟩ := hq
  dsimp only [Option.toList, List.cons_append, List.nil_append]
  cases hl : lk S x with
  | none =>
    show Ev g mdX1_timeOf 5 _ [va_rf none] _ _
    refine ev_astore_nE (by first | exact rf_some _ | exact rfl) (pc' := 6) (lv' := [_, _, _]) dX1_timeOf_5 rfl (by decide) (by intro w hw; first | exact Or.inl rfl | (right; have hw := Option.some.inj (Option.some.inj hw); subst hw; first | rfl | exact rf_cat _) | cases hw) rfl ?_
    refine ev_aload_nE (pc' := 7) dX1_timeOf_6 rfl rfl (by first | exact rf_some _ | exact rfl) ?_
    refine ev_ifnonnullZ (pc' := 10) dX1_timeOf_7 rfl ?_
    refine ev_bipush (pc' := 12) (v := (-2)) dX1_timeOf_10 rfl (by decide) ?_
    refine ev_goto (pc' := 19) dX1_timeOf_12 (by decide) ?_
    refine ev_iret rfl dX1_timeOf_19 ?_
    exact ⟨rfl, rfl⟩
  | some a =>
    have hr := RX.row hR (lk_some hl).1
    show Ev g mdX1_timeOf 5 _ [.ref (hd a)] _ _
    refine ev_astore_nE (by first | exact rf_some _ | exact rfl) (pc' := 6) (lv' := [_, _, _]) dX1_timeOf_5 rfl (by decide) (by intro w hw; first | exact Or.inl rfl | (right; have hw := Option.some.inj (Option.some.inj hw); subst hw; first | rfl | exact rf_cat _) | cases hw) rfl ?_
    refine ev_aload_nE (pc' := 7) dX1_timeOf_6 rfl rfl (by first | exact rf_some _ | exact rfl) ?_
    refine ev_ifnonnullR (tgt := 15) dX1_timeOf_7 (by decide) ?_
    refine ev_aload_nE (pc' := 16) dX1_timeOf_15 rfl rfl (by first | exact rf_some _ | exact rfl) ?_
    refine gX0_time rfl hr.1 hr.2.2.2.2.1 (pc' := 19) dX1_timeOf_16 rfl ?_
    refine ev_iret rfl dX1_timeOf_19 ?_
    exact ⟨rfl, rfl⟩
theorem c_xfavouriteOf (I : Inv N S) (hR : RX S hd LN LT xt xar xnt xln xcu xck xcp xcl xmk xtl xnu xti xpa xfa xep xel xde xtc) (x : Int32) : Ret g mdX1_favouriteOf [.ref xo, .int x] (wX g xo an ac am LN LT xt xar xnt xln xcu xck xcp xcl xmk xtl xnu xti xpa xfa xep xel xde xtc) (fun r w => r = some (.int (aFav S x)) ∧ w = (wX g xo an ac am LN LT xt xar xnt xln xcu xck xcp xcl xmk xtl xnu xti xpa xfa xep xel xde xtc)) := by
  refine Ret.of [_, _, _] 1 (by decide) (Nat.le_of_ble_eq_true rfl) rfl ?_
  unfold aFav
  refine ev_aload_nE (pc' := 1) dX1_favouriteOf_0 rfl rfl (by first | exact rf_some _ | exact rfl) ?_
  refine ev_iload_n (pc' := 2) dX1_favouriteOf_1 rfl rfl ?_
  refine x_callV (As := [_]) coX1_find rfl (c_find I.T hR x) rfl (by decide) (by first | exact Nat.le_of_ble_eq_true rfl | simp [Value.category, rf_cat]) dX1_favouriteOf_2 rfl (pc' := 5) rfl (fun v w hq => ?_)
  obtain ⟨rfl, rfl⟩ := hq
  dsimp only [Option.toList, List.cons_append, List.nil_append]
  cases hl : lk S x with
  | none =>
    show Ev g mdX1_favouriteOf 5 _ [va_rf none] _ _
    refine ev_astore_nE (by first | exact rf_some _ | exact rfl) (pc' := 6) (lv' := [_, _, _]) dX1_favouriteOf_5 rfl (by decide) (by intro w hw; first | exact Or.inl rfl | (right; have hw := Option.some.inj (Option.some.inj hw); subst hw; first | rfl | exact rf_cat _) | cases hw) rfl ?_
    refine ev_aload_nE (pc' := 7) dX1_favouriteOf_6 rfl rfl (by first | exact rf_some _ | exact rfl) ?_
    refine ev_ifnonnullZ (pc' := 10) dX1_favouriteOf_7 rfl ?_
    refine ev_bipush (pc' := 12) (v := (-2)) dX1_favouriteOf_10 rfl (by decide) ?_
    refine ev_goto (pc' := 22) dX1_favouriteOf_12 (by decide) ?_
    refine ev_iret rfl dX1_favouriteOf_22 ?_
    exact ⟨rfl, rfl⟩
  | some a =>
    have ha := (lk_some hl).1
    have hr := RX.row hR ha
    show Ev g mdX1_favouriteOf 5 _ [.ref (hd a)] _ _
    refine ev_astore_nE (by first | exact rf_some _ | exact rfl) (pc' := 6) (lv' := [_, _, _]) dX1_favouriteOf_5 rfl (by decide) (by intro w hw; first | exact Or.inl rfl | (right; have hw := Option.some.inj (Option.some.inj hw); subst hw; first | rfl | exact rf_cat _) | cases hw) rfl ?_
    refine ev_aload_nE (pc' := 7) dX1_favouriteOf_6 rfl rfl (by first | exact rf_some _ | exact rfl) ?_
    refine ev_ifnonnullR (tgt := 15) dX1_favouriteOf_7 (by decide) ?_
    refine ev_aload_nE (pc' := 16) dX1_favouriteOf_15 rfl rfl (by first | exact rf_some _ | exact rfl) ?_
    refine gX0_favourite rfl hr.1 hr.2.2.2.2.2.2.1 (pc' := 19) dX1_favouriteOf_16 rfl ?_
    refine ev_callS (As := [_]) coX1_numberOrNone (c_non hR (sfa S a) (fun c hc => (I.fa ha hc).1)) rfl (by decide) (by first | exact Nat.le_of_ble_eq_true rfl | simp [Value.category, rf_cat]) dX1_favouriteOf_19 rfl (pc' := 22) rfl (fun v w hq => ?_)
    obtain ⟨rfl, rfl⟩ := hq
    dsimp only [Option.toList, List.cons_append, List.nil_append]
    refine ev_iret rfl dX1_favouriteOf_22 ?_
    exact ⟨rfl, rfl⟩
theorem a0_none (T : Tree S) {a : Nat} (ha : a ∈ sL S) : a = 0 ↔ spa S a = none := ⟨fun q => by rw [q]; exact T.pa0, fun q => T.none ha q⟩
theorem c_xeditOf (T : Tree S) (hR : RX S hd LN LT xt xar xnt xln xcu xck xcp xcl xmk xtl xnu xti xpa xfa xep xel xde xtc) (x : Int32) : Ret g mdX1_editOf [.ref xo, .int x] (wX g xo an ac am LN LT xt xar xnt xln xcu xck xcp xcl xmk xtl xnu xti xpa xfa xep xel xde xtc) (fun r w => r = some (.int (aEdit S x)) ∧ w = (wX g xo an ac am LN LT xt xar xnt xln xcu xck xcp xcl xmk xtl xnu xti xpa xfa xep xel xde xtc)) := by
  refine Ret.of [_, _, _] 1 (by decide) (Nat.le_of_ble_eq_true rfl) rfl ?_
  unfold aEdit
  refine ev_aload_nE (pc' := 1) dX1_editOf_0 rfl rfl (by first | exact rf_some _ | exact rfl) ?_
  refine ev_iload_n (pc' := 2) dX1_editOf_1 rfl rfl ?_
  refine x_callV (As := [_]) coX1_find rfl (c_find T hR x) rfl (by decide) (by first | exact Nat.le_of_ble_eq_true rfl | simp [Value.category, rf_cat]) dX1_editOf_2 rfl (pc' := 5) rfl (fun v w hq => ?_)
  obtain ⟨rfl, rfl⟩ := hq
  dsimp only [Option.toList, List.cons_append, List.nil_append]
  cases hl : lk S x with
  | none =>
    show Ev g mdX1_editOf 5 _ [va_rf none] _ _
    refine ev_astore_nE (by first | exact rf_some _ | exact rfl) (pc' := 6) (lv' := [_, _, _]) dX1_editOf_5 rfl (by decide) (by intro w hw; first | exact Or.inl rfl | (right; have hw := Option.some.inj (Option.some.inj hw); subst hw; first | rfl | exact rf_cat _) | cases hw) rfl ?_
    refine ev_aload_nE (pc' := 7) dX1_editOf_6 rfl rfl (by first | exact rf_some _ | exact rfl) ?_
    refine ev_ifnonnullZ (pc' := 10) dX1_editOf_7 rfl ?_
    refine ev_bipush (pc' := 12) (v := (-2)) dX1_editOf_10 rfl (by decide) ?_
    refine ev_iret rfl dX1_editOf_12 ?_
    exact ⟨rfl, rfl⟩
  | some a =>
    have ha := (lk_some hl).1
    have hr := RX.row hR ha
    have hpa := hr.2.2.2.2.2.1
    show Ev g mdX1_editOf 5 _ [.ref (hd a)] _ (fun r w => r = some (.int (if a = 0 then (-6) else edc S a)) ∧ w = _)
    refine ev_astore_nE (by first | exact rf_some _ | exact rfl) (pc' := 6) (lv' := [_, _, _]) dX1_editOf_5 rfl (by decide) (by intro w hw; first | exact Or.inl rfl | (right; have hw := Option.some.inj (Option.some.inj hw); subst hw; first | rfl | exact rf_cat _) | cases hw) rfl ?_
    refine ev_aload_nE (pc' := 7) dX1_editOf_6 rfl rfl (by first | exact rf_some _ | exact rfl) ?_
    refine ev_ifnonnullR (tgt := 13) dX1_editOf_7 (by decide) ?_
    cases hb : spa S a with
    | none =>
      rw [if_pos ((a0_none T ha).mpr hb)]
      rw [hb] at hpa
      refine ev_aload_nE (pc' := 14) dX1_editOf_13 rfl rfl (by first | exact rf_some _ | exact rfl) ?_
      refine gX0_parent rfl hr.1 hpa (pc' := 17) dX1_editOf_14 rfl ?_
      show Ev g mdX1_editOf 17 _ [va_rf none] _ _
      refine ev_ifnonnullZ (pc' := 20) dX1_editOf_17 rfl ?_
      refine ev_bipush (pc' := 22) (v := (-6)) dX1_editOf_20 rfl (by decide) ?_
      refine ev_goto (pc' := 29) dX1_editOf_22 (by decide) ?_
      refine ev_iret rfl dX1_editOf_29 ?_
      exact ⟨rfl, rfl⟩
    | some b =>
      rw [if_neg (fun q => by rw [(a0_none T ha).mp q] at hb; cases hb)]
      rw [hb] at hpa
      refine ev_aload_nE (pc' := 14) dX1_editOf_13 rfl rfl (by first | exact rf_some _ | exact rfl) ?_
      refine gX0_parent rfl hr.1 hpa (pc' := 17) dX1_editOf_14 rfl ?_
      refine ev_ifnonnullR (tgt := 25) dX1_editOf_17 (by decide) ?_
      refine ev_aload_nE (pc' := 26) dX1_editOf_25 rfl rfl (by first | exact rf_some _ | exact rfl) ?_
      refine ev_callS (As := [_]) coX1_editCode (c_editCode hR ha) rfl (by decide) (by first | exact Nat.le_of_ble_eq_true rfl | simp [Value.category, rf_cat]) dX1_editOf_26 rfl (pc' := 29) rfl (fun v w hq => ?_)
      obtain ⟨rfl, rfl⟩ := hq
      dsimp only [Option.toList, List.cons_append, List.nil_append]
      refine ev_iret rfl dX1_editOf_29 ?_
      exact ⟨rfl, rfl⟩
theorem c_xparentOf (T : Tree S) (hR : RX S hd LN LT xt xar xnt xln xcu xck xcp xcl xmk xtl xnu xti xpa xfa xep xel xde xtc) (x : Int32) : Ret g mdX1_parentOf [.ref xo, .int x] (wX g xo an ac am LN LT xt xar xnt xln xcu xck xcp xcl xmk xtl xnu xti xpa xfa xep xel xde xtc) (fun r w => r = some (.int (aPar S x)) ∧ w = (wX g xo an ac am LN LT xt xar xnt xln xcu xck xcp xcl xmk xtl xnu xti xpa xfa xep xel xde xtc)) := by
  refine Ret.of [_, _, _, _] 2 (by decide) (Nat.le_of_ble_eq_true rfl) rfl ?_
  unfold aPar
  refine ev_aload_nE (pc' := 1) dX1_parentOf_0 rfl rfl (by first | exact rf_some _ | exact rfl) ?_
  refine ev_iload_n (pc' := 2) dX1_parentOf_1 rfl rfl ?_
  refine x_callV (As := [_]) coX1_find rfl (c_find T hR x) rfl (by decide) (by first | exact Nat.le_of_ble_eq_true rfl | simp [Value.category, rf_cat]) dX1_parentOf_2 rfl (pc' := 5) rfl (fun v w hq => ?_)
  obtain ⟨rfl, rfl⟩ := hq
  dsimp only [Option.toList, List.cons_append, List.nil_append]
  cases hl : lk S x with
  | none =>
    show Ev g mdX1_parentOf 5 _ [va_rf none] _ _
    refine ev_astore_nE (by first | exact rf_some _ | exact rfl) (pc' := 6) (lv' := [_, _, _, _]) dX1_parentOf_5 rfl (by decide) (by intro w hw; first | exact Or.inl rfl | (right; have hw := Option.some.inj (Option.some.inj hw); subst hw; first | rfl | exact rf_cat _) | cases hw) rfl ?_
    refine ev_aload_nE (pc' := 7) dX1_parentOf_6 rfl rfl (by first | exact rf_some _ | exact rfl) ?_
    refine ev_ifnonnullZ (pc' := 10) dX1_parentOf_7 rfl ?_
    refine ev_bipush (pc' := 12) (v := (-2)) dX1_parentOf_10 rfl (by decide) ?_
    refine ev_iret rfl dX1_parentOf_12 ?_
    exact ⟨rfl, rfl⟩
  | some a =>
    have ha := (lk_some hl).1
    have hr := RX.row hR ha
    have hpa := hr.2.2.2.2.2.1
    show Ev g mdX1_parentOf 5 _ [.ref (hd a)] _ (fun r w => r = some (.int (if a = 0 then (-6) else oI (spa S a))) ∧ w = _)
    refine ev_astore_nE (by first | exact rf_some _ | exact rfl) (pc' := 6) (lv' := [_, _, _, _]) dX1_parentOf_5 rfl (by decide) (by intro w hw; first | exact Or.inl rfl | (right; have hw := Option.some.inj (Option.some.inj hw); subst hw; first | rfl | exact rf_cat _) | cases hw) rfl ?_
    refine ev_aload_nE (pc' := 7) dX1_parentOf_6 rfl rfl (by first | exact rf_some _ | exact rfl) ?_
    refine ev_ifnonnullR (tgt := 13) dX1_parentOf_7 (by decide) ?_
    cases hb : spa S a with
    | none =>
      rw [if_pos ((a0_none T ha).mpr hb)]
      rw [hb] at hpa
      refine ev_aload_nE (pc' := 14) dX1_parentOf_13 rfl rfl (by first | exact rf_some _ | exact rfl) ?_
      refine gX0_parent rfl hr.1 hpa (pc' := 17) dX1_parentOf_14 rfl ?_
      show Ev g mdX1_parentOf 17 _ [va_rf none] _ _
      refine ev_astore_nE (by first | exact rf_some _ | exact rfl) (pc' := 18) (lv' := [_, _, _, _]) dX1_parentOf_17 rfl (by decide) (by intro w hw; first | exact Or.inl rfl | (right; have hw := Option.some.inj (Option.some.inj hw); subst hw; first | rfl | exact rf_cat _) | cases hw) rfl ?_
      refine ev_aload_nE (pc' := 19) dX1_parentOf_18 rfl rfl (by first | exact rf_some _ | exact rfl) ?_
      refine ev_ifnonnullZ (pc' := 22) dX1_parentOf_19 rfl ?_
      refine ev_bipush (pc' := 24) (v := (-6)) dX1_parentOf_22 rfl (by decide) ?_
      refine ev_goto (pc' := 31) dX1_parentOf_24 (by decide) ?_
      refine ev_iret rfl dX1_parentOf_31 ?_
      exact ⟨rfl, rfl⟩
    | some b =>
      have hrb := RX.row hR (T.par ha hb).1
      rw [if_neg (fun q => by rw [(a0_none T ha).mp q] at hb; cases hb)]
      rw [hb] at hpa
      refine ev_aload_nE (pc' := 14) dX1_parentOf_13 rfl rfl (by first | exact rf_some _ | exact rfl) ?_
      refine gX0_parent rfl hr.1 hpa (pc' := 17) dX1_parentOf_14 rfl ?_
      show Ev g mdX1_parentOf 17 _ [.ref (hd b)] _ _
      refine ev_astore_nE (by first | exact rf_some _ | exact rfl) (pc' := 18) (lv' := [_, _, _, _]) dX1_parentOf_17 rfl (by decide) (by intro w hw; first | exact Or.inl rfl | (right; have hw := Option.some.inj (Option.some.inj hw); subst hw; first | rfl | exact rf_cat _) | cases hw) rfl ?_
      refine ev_aload_nE (pc' := 19) dX1_parentOf_18 rfl rfl (by first | exact rf_some _ | exact rfl) ?_
      refine ev_ifnonnullR (tgt := 27) dX1_parentOf_19 (by decide) ?_
      refine ev_aload_nE (pc' := 28) dX1_parentOf_27 rfl rfl (by first | exact rf_some _ | exact rfl) ?_
      refine gX0_number rfl hrb.1 hrb.2.2.2.1 (pc' := 31) dX1_parentOf_28 rfl ?_
      refine ev_iret rfl dX1_parentOf_31 ?_
      exact ⟨rfl, rfl⟩
theorem c_xcharacterOf (I : Inv N S) (hR : RX S hd LN LT xt xar xnt xln xcu xck xcp xcl xmk xtl xnu xti xpa xfa xep xel xde xtc) (x i : Int32) : Ret g mdX1_characterOf [.ref xo, .int x, .int i] (wX g xo an ac am LN LT xt xar xnt xln xcu xck xcp xcl xmk xtl xnu xti xpa xfa xep xel xde xtc) (fun r w => r = some (.int (aChr S x i)) ∧ w = (wX g xo an ac am LN LT xt xar xnt xln xcu xck xcp xcl xmk xtl xnu xti xpa xfa xep xel xde xtc)) := by
  refine Ret.of [_, _, _, _] 1 (by decide) (Nat.le_of_ble_eq_true rfl) rfl ?_
  unfold aChr
  refine ev_aload_nE (pc' := 1) dX1_characterOf_0 rfl rfl (by first | exact rf_some _ | exact rfl) ?_
  refine ev_iload_n (pc' := 2) dX1_characterOf_1 rfl rfl ?_
  refine x_callV (As := [_]) coX1_find rfl (c_find I.T hR x) rfl (by decide) (by first | exact Nat.le_of_ble_eq_true rfl | simp [Value.category, rf_cat]) dX1_characterOf_2 rfl (pc' := 5) rfl (fun v w hq => ?_)
  obtain ⟨rfl, rfl⟩ := hq
  dsimp only [Option.toList, List.cons_append, List.nil_append]
  cases hl : lk S x with
  | none =>
    show Ev g mdX1_characterOf 5 _ [va_rf none] _ _
    refine ev_astore_nE (by first | exact rf_some _ | exact rfl) (pc' := 6) (lv' := [_, _, _, _]) dX1_characterOf_5 rfl (by decide) (by intro w hw; first | exact Or.inl rfl | (right; have hw := Option.some.inj (Option.some.inj hw); subst hw; first | rfl | exact rf_cat _) | cases hw) rfl ?_
    refine ev_aload_nE (pc' := 7) dX1_characterOf_6 rfl rfl (by first | exact rf_some _ | exact rfl) ?_
    refine ev_ifnonnullZ (pc' := 10) dX1_characterOf_7 rfl ?_
    refine ev_bipush (pc' := 12) (v := (-2)) dX1_characterOf_10 rfl (by decide) ?_
    refine ev_iret rfl dX1_characterOf_12 ?_
    exact ⟨rfl, rfl⟩
  | some a =>
    have ha := (lk_some hl).1
    have hr := RX.row hR ha
    have h40 := I.tl ha
    show Ev g mdX1_characterOf 5 _ [.ref (hd a)] _ (fun r w => r = some (.int (if 0 ≤ i ∧ i < nI (stl S a) then stx S a i.toNatClampNeg else (-1))) ∧ w = _)
    refine ev_astore_nE (by first | exact rf_some _ | exact rfl) (pc' := 6) (lv' := [_, _, _, _]) dX1_characterOf_5 rfl (by decide) (by intro w hw; first | exact Or.inl rfl | (right; have hw := Option.some.inj (Option.some.inj hw); subst hw; first | rfl | exact rf_cat _) | cases hw) rfl ?_
    refine ev_aload_nE (pc' := 7) dX1_characterOf_6 rfl rfl (by first | exact rf_some _ | exact rfl) ?_
    refine ev_ifnonnullR (tgt := 13) dX1_characterOf_7 (by decide) ?_
    refine ev_iload_n (pc' := 14) dX1_characterOf_13 rfl rfl ?_
    refine ev_if_lt (tgt := 25) (pc' := 17) dX1_characterOf_14 (by decide) rfl (fun h14 => ?_) (fun h14 => ?_)
    · rw [if_neg (fun q => Int32.not_lt.mpr q.1 h14)]
      refine ev_iconst (pc' := 26) (v := (-1)) dX1_characterOf_25 rfl (by decide) ?_
      refine ev_iret rfl dX1_characterOf_26 ?_
      exact ⟨rfl, rfl⟩
    · refine ev_iload_n (pc' := 18) dX1_characterOf_17 rfl rfl ?_
      refine ev_aload_nE (pc' := 19) dX1_characterOf_18 rfl rfl (by first | exact rf_some _ | exact rfl) ?_
      refine gX0_textLength rfl hr.1 hr.2.2.1 (pc' := 22) dX1_characterOf_19 rfl ?_
      refine ev_icmp_lt (tgt := 27) (pc' := 25) dX1_characterOf_22 (by decide) rfl (fun h22 => ?_) (fun h22 => ?_)
      · rw [if_pos ⟨Int32.not_lt.mp h14, h22⟩]
        obtain ⟨j, hj, rfl⟩ := nI_of h14
        rw [nI_ltI hj (by omega)] at h22
        rw [nI_clamp hj]
        have hT := RX.tin hR hr.1
        have hX := hr.2.2.2.2.2.2.2.2.2.2 j h22
        refine ev_aload_nE (pc' := 28) dX1_characterOf_27 rfl rfl (by first | exact rf_some _ | exact rfl) ?_
        refine gX0_text rfl hr.1 (pc' := 31) dX1_characterOf_28 rfl ?_
        refine ev_iload_n (pc' := 32) dX1_characterOf_31 rfl rfl ?_
        refine xt_cald hT (by omega) hX (pc' := 33) dX1_characterOf_32 rfl ?_
        refine ev_iret rfl dX1_characterOf_33 ?_
        exact ⟨rfl, rfl⟩
      · rw [if_neg (fun q => h22 q.2)]
        refine ev_iconst (pc' := 26) (v := (-1)) dX1_characterOf_25 rfl (by decide) ?_
        refine ev_iret rfl dX1_characterOf_26 ?_
        exact ⟨rfl, rfl⟩
theorem c_xcommonAncestor (T : Tree S) (hR : RX S hd LN LT xt xar xnt xln xcu xck xcp xcl xmk xtl xnu xti xpa xfa xep xel xde xtc) (x y : Int32) : Ret g mdX1_commonAncestor [.ref xo, .int x, .int y] (wX g xo an ac am LN LT xt xar xnt xln xcu xck xcp xcl xmk xtl xnu xti xpa xfa xep xel xde xtc) (fun r w => r = some (.int (aLca S x y)) ∧ w = (wX g xo an ac am LN LT xt xar xnt xln xcu xck xcp xcl xmk xtl xnu xti xpa xfa xep xel xde xtc)) := by
  refine Ret.of [_, _, _, _, _] 2 (by decide) (Nat.le_of_ble_eq_true rfl) rfl ?_
  unfold aLca
  refine ev_aload_nE (pc' := 1) dX1_commonAncestor_0 rfl rfl (by first | exact rf_some _ | exact rfl) ?_
  refine ev_iload_n (pc' := 2) dX1_commonAncestor_1 rfl rfl ?_
  refine x_callV (As := [_]) coX1_find rfl (c_find T hR x) rfl (by decide) (by first | exact Nat.le_of_ble_eq_true rfl | simp [Value.category, rf_cat]) dX1_commonAncestor_2 rfl (pc' := 5) rfl (fun v w hq => ?_)
  obtain ⟨rfl, rfl⟩ := hq
  dsimp only [Option.toList, List.cons_append, List.nil_append]
  cases hl : lk S x with
  | none =>
    show Ev g mdX1_commonAncestor 5 _ [va_rf none] _ (fun r w => r = some (.int (-2)) ∧ w = _)
    refine ev_astore_nE (by first | exact rf_some _ | exact rfl) (pc' := 6) (lv' := [_, _, _, _, _]) dX1_commonAncestor_5 rfl (by decide) (by intro w hw; first | exact Or.inl rfl | (right; have hw := Option.some.inj (Option.some.inj hw); subst hw; first | rfl | exact rf_cat _) | cases hw) rfl ?_
    refine ev_aload_nE (pc' := 7) dX1_commonAncestor_6 rfl rfl (by first | exact rf_some _ | exact rfl) ?_
    refine ev_iload_n (pc' := 8) dX1_commonAncestor_7 rfl rfl ?_
    refine x_callV (As := [_]) coX1_find rfl (c_find T hR y) rfl (by decide) (by first | exact Nat.le_of_ble_eq_true rfl | simp [Value.category, rf_cat]) dX1_commonAncestor_8 rfl (pc' := 11) rfl (fun v w hq => ?_)
    obtain ⟨rfl, rfl⟩ := hq
    dsimp only [Option.toList, List.cons_append, List.nil_append]
    refine ev_astoreE (by first | exact rf_some _ | exact rfl) (pc' := 13) (lv' := [_, _, _, _, _]) dX1_commonAncestor_11 rfl (by decide) (by intro w hw; first | exact Or.inl rfl | (right; have hw := Option.some.inj (Option.some.inj hw); subst hw; first | rfl | exact rf_cat _) | cases hw) rfl ?_
    refine ev_aload_nE (pc' := 14) dX1_commonAncestor_13 rfl rfl (by first | exact rf_some _ | exact rfl) ?_
    refine ev_ifnullZ (tgt := 22) dX1_commonAncestor_14 (by decide) ?_
    refine ev_bipush (pc' := 24) (v := (-2)) dX1_commonAncestor_22 rfl (by decide) ?_
    refine ev_iret rfl dX1_commonAncestor_24 ?_
    exact ⟨rfl, rfl⟩
  | some a =>
    have ha := (lk_some hl).1
    show Ev g mdX1_commonAncestor 5 _ [.ref (hd a)] _ _
    refine ev_astore_nE (by first | exact rf_some _ | exact rfl) (pc' := 6) (lv' := [_, _, _, _, _]) dX1_commonAncestor_5 rfl (by decide) (by intro w hw; first | exact Or.inl rfl | (right; have hw := Option.some.inj (Option.some.inj hw); subst hw; first | rfl | exact rf_cat _) | cases hw) rfl ?_
    refine ev_aload_nE (pc' := 7) dX1_commonAncestor_6 rfl rfl (by first | exact rf_some _ | exact rfl) ?_
    refine ev_iload_n (pc' := 8) dX1_commonAncestor_7 rfl rfl ?_
    refine x_callV (As := [_]) coX1_find rfl (c_find T hR y) rfl (by decide) (by first | exact Nat.le_of_ble_eq_true rfl | simp [Value.category, rf_cat]) dX1_commonAncestor_8 rfl (pc' := 11) rfl (fun v w hq => ?_)
    obtain ⟨rfl, rfl⟩ := hq
    dsimp only [Option.toList, List.cons_append, List.nil_append]
    cases hm : lk S y with
    | none =>
      show Ev g mdX1_commonAncestor 11 _ [va_rf none] _ (fun r w => r = some (.int (-2)) ∧ w = _)
      refine ev_astoreE (by first | exact rf_some _ | exact rfl) (pc' := 13) (lv' := [_, _, _, _, _]) dX1_commonAncestor_11 rfl (by decide) (by intro w hw; first | exact Or.inl rfl | (right; have hw := Option.some.inj (Option.some.inj hw); subst hw; first | rfl | exact rf_cat _) | cases hw) rfl ?_
      refine ev_aload_nE (pc' := 14) dX1_commonAncestor_13 rfl rfl (by first | exact rf_some _ | exact rfl) ?_
      refine ev_ifnullR (pc' := 17) dX1_commonAncestor_14 rfl ?_
      refine ev_aloadE (pc' := 19) dX1_commonAncestor_17 rfl rfl (by first | exact rf_some _ | exact rfl) ?_
      refine ev_ifnonnullZ (pc' := 22) dX1_commonAncestor_19 rfl ?_
      refine ev_bipush (pc' := 24) (v := (-2)) dX1_commonAncestor_22 rfl (by decide) ?_
      refine ev_iret rfl dX1_commonAncestor_24 ?_
      exact ⟨rfl, rfl⟩
    | some b =>
      have hb := (lk_some hm).1
      have hr := RX.row hR (lca_mem T hb a ha)
      show Ev g mdX1_commonAncestor 11 _ [.ref (hd b)] _ (fun r w => r = some (.int (nI (lca S a b))) ∧ w = _)
      refine ev_astoreE (by first | exact rf_some _ | exact rfl) (pc' := 13) (lv' := [_, _, _, _, _]) dX1_commonAncestor_11 rfl (by decide) (by intro w hw; first | exact Or.inl rfl | (right; have hw := Option.some.inj (Option.some.inj hw); subst hw; first | rfl | exact rf_cat _) | cases hw) rfl ?_
      refine ev_aload_nE (pc' := 14) dX1_commonAncestor_13 rfl rfl (by first | exact rf_some _ | exact rfl) ?_
      refine ev_ifnullR (pc' := 17) dX1_commonAncestor_14 rfl ?_
      refine ev_aloadE (pc' := 19) dX1_commonAncestor_17 rfl rfl (by first | exact rf_some _ | exact rfl) ?_
      refine ev_ifnonnullR (tgt := 25) dX1_commonAncestor_19 (by decide) ?_
      refine ev_aload_nE (pc' := 26) dX1_commonAncestor_25 rfl rfl (by first | exact rf_some _ | exact rfl) ?_
      refine ev_aloadE (pc' := 28) dX1_commonAncestor_26 rfl rfl (by first | exact rf_some _ | exact rfl) ?_
      refine ev_callS (As := [_, _]) coX1_lowestCommon (c_lowestCommon T hR ha hb) rfl (by decide) (by first | exact Nat.le_of_ble_eq_true rfl | simp [Value.category, rf_cat]) dX1_commonAncestor_28 rfl (pc' := 31) rfl (fun v w hq => ?_)
      obtain ⟨rfl, rfl⟩ := hq
      dsimp only [Option.toList, List.cons_append, List.nil_append]
      refine gX0_number rfl hr.1 hr.2.2.2.1 (pc' := 34) dX1_commonAncestor_31 rfl ?_
      refine ev_iret rfl dX1_commonAncestor_34 ?_
      exact ⟨rfl, rfl⟩
theorem c_xdistance (T : Tree S) (hR : RX S hd LN LT xt xar xnt xln xcu xck xcp xcl xmk xtl xnu xti xpa xfa xep xel xde xtc) (x y : Int32) : Ret g mdX1_distance [.ref xo, .int x, .int y] (wX g xo an ac am LN LT xt xar xnt xln xcu xck xcp xcl xmk xtl xnu xti xpa xfa xep xel xde xtc) (fun r w => r = some (.int (aDis S x y)) ∧ w = (wX g xo an ac am LN LT xt xar xnt xln xcu xck xcp xcl xmk xtl xnu xti xpa xfa xep xel xde xtc)) := by
  refine Ret.of [_, _, _, _, _] 2 (by decide) (Nat.le_of_ble_eq_true rfl) rfl ?_
  unfold aDis
  refine ev_aload_nE (pc' := 1) dX1_distance_0 rfl rfl (by first | exact rf_some _ | exact rfl) ?_
  refine ev_iload_n (pc' := 2) dX1_distance_1 rfl rfl ?_
  refine x_callV (As := [_]) coX1_find rfl (c_find T hR x) rfl (by decide) (by first | exact Nat.le_of_ble_eq_true rfl | simp [Value.category, rf_cat]) dX1_distance_2 rfl (pc' := 5) rfl (fun v w hq => ?_)
  obtain ⟨rfl, rfl⟩ := hq
  dsimp only [Option.toList, List.cons_append, List.nil_append]
  cases hl : lk S x with
  | none =>
    show Ev g mdX1_distance 5 _ [va_rf none] _ (fun r w => r = some (.int (-2)) ∧ w = _)
    refine ev_astore_nE (by first | exact rf_some _ | exact rfl) (pc' := 6) (lv' := [_, _, _, _, _]) dX1_distance_5 rfl (by decide) (by intro w hw; first | exact Or.inl rfl | (right; have hw := Option.some.inj (Option.some.inj hw); subst hw; first | rfl | exact rf_cat _) | cases hw) rfl ?_
    refine ev_aload_nE (pc' := 7) dX1_distance_6 rfl rfl (by first | exact rf_some _ | exact rfl) ?_
    refine ev_iload_n (pc' := 8) dX1_distance_7 rfl rfl ?_
    refine x_callV (As := [_]) coX1_find rfl (c_find T hR y) rfl (by decide) (by first | exact Nat.le_of_ble_eq_true rfl | simp [Value.category, rf_cat]) dX1_distance_8 rfl (pc' := 11) rfl (fun v w hq => ?_)
    obtain ⟨rfl, rfl⟩ := hq
    dsimp only [Option.toList, List.cons_append, List.nil_append]
    refine ev_astoreE (by first | exact rf_some _ | exact rfl) (pc' := 13) (lv' := [_, _, _, _, _]) dX1_distance_11 rfl (by decide) (by intro w hw; first | exact Or.inl rfl | (right; have hw := Option.some.inj (Option.some.inj hw); subst hw; first | rfl | exact rf_cat _) | cases hw) rfl ?_
    refine ev_aload_nE (pc' := 14) dX1_distance_13 rfl rfl (by first | exact rf_some _ | exact rfl) ?_
    refine ev_ifnullZ (tgt := 22) dX1_distance_14 (by decide) ?_
    refine ev_bipush (pc' := 24) (v := (-2)) dX1_distance_22 rfl (by decide) ?_
    refine ev_iret rfl dX1_distance_24 ?_
    exact ⟨rfl, rfl⟩
  | some a =>
    have ha := (lk_some hl).1
    show Ev g mdX1_distance 5 _ [.ref (hd a)] _ _
    refine ev_astore_nE (by first | exact rf_some _ | exact rfl) (pc' := 6) (lv' := [_, _, _, _, _]) dX1_distance_5 rfl (by decide) (by intro w hw; first | exact Or.inl rfl | (right; have hw := Option.some.inj (Option.some.inj hw); subst hw; first | rfl | exact rf_cat _) | cases hw) rfl ?_
    refine ev_aload_nE (pc' := 7) dX1_distance_6 rfl rfl (by first | exact rf_some _ | exact rfl) ?_
    refine ev_iload_n (pc' := 8) dX1_distance_7 rfl rfl ?_
    refine x_callV (As := [_]) coX1_find rfl (c_find T hR y) rfl (by decide) (by first | exact Nat.le_of_ble_eq_true rfl | simp [Value.category, rf_cat]) dX1_distance_8 rfl (pc' := 11) rfl (fun v w hq => ?_)
    obtain ⟨rfl, rfl⟩ := hq
    dsimp only [Option.toList, List.cons_append, List.nil_append]
    cases hm : lk S y with
    | none =>
      show Ev g mdX1_distance 11 _ [va_rf none] _ (fun r w => r = some (.int (-2)) ∧ w = _)
      refine ev_astoreE (by first | exact rf_some _ | exact rfl) (pc' := 13) (lv' := [_, _, _, _, _]) dX1_distance_11 rfl (by decide) (by intro w hw; first | exact Or.inl rfl | (right; have hw := Option.some.inj (Option.some.inj hw); subst hw; first | rfl | exact rf_cat _) | cases hw) rfl ?_
      refine ev_aload_nE (pc' := 14) dX1_distance_13 rfl rfl (by first | exact rf_some _ | exact rfl) ?_
      refine ev_ifnullR (pc' := 17) dX1_distance_14 rfl ?_
      refine ev_aloadE (pc' := 19) dX1_distance_17 rfl rfl (by first | exact rf_some _ | exact rfl) ?_
      refine ev_ifnonnullZ (pc' := 22) dX1_distance_19 rfl ?_
      refine ev_bipush (pc' := 24) (v := (-2)) dX1_distance_22 rfl (by decide) ?_
      refine ev_iret rfl dX1_distance_24 ?_
      exact ⟨rfl, rfl⟩
    | some b =>
      have hb := (lk_some hm).1
      show Ev g mdX1_distance 11 _ [.ref (hd b)] _ (fun r w => r = some (.int (farS S a b)) ∧ w = _)
      refine ev_astoreE (by first | exact rf_some _ | exact rfl) (pc' := 13) (lv' := [_, _, _, _, _]) dX1_distance_11 rfl (by decide) (by intro w hw; first | exact Or.inl rfl | (right; have hw := Option.some.inj (Option.some.inj hw); subst hw; first | rfl | exact rf_cat _) | cases hw) rfl ?_
      refine ev_aload_nE (pc' := 14) dX1_distance_13 rfl rfl (by first | exact rf_some _ | exact rfl) ?_
      refine ev_ifnullR (pc' := 17) dX1_distance_14 rfl ?_
      refine ev_aloadE (pc' := 19) dX1_distance_17 rfl rfl (by first | exact rf_some _ | exact rfl) ?_
      refine ev_ifnonnullR (tgt := 25) dX1_distance_19 (by decide) ?_
      refine ev_aload_nE (pc' := 26) dX1_distance_25 rfl rfl (by first | exact rf_some _ | exact rfl) ?_
      refine ev_aloadE (pc' := 28) dX1_distance_26 rfl rfl (by first | exact rf_some _ | exact rfl) ?_
      refine ev_callS (As := [_, _]) coX1_stepsBetween (c_steps T hR ha hb) rfl (by decide) (by first | exact Nat.le_of_ble_eq_true rfl | simp [Value.category, rf_cat]) dX1_distance_28 rfl (pc' := 31) rfl (fun v w hq => ?_)
      obtain ⟨rfl, rfl⟩ := hq
      dsimp only [Option.toList, List.cons_append, List.nil_append]
      refine ev_iret rfl dX1_distance_31 ?_
      exact ⟨rfl, rfl⟩
theorem pa_eq (T : Tree S) (hR : RX S hd LN LT xt xar xnt xln xcu xck xcp xcl xmk xtl xnu xti xpa xfa xep xel xde xtc) {b a : Nat} (hb : b ∈ sL S) (ha : a ∈ sL S) : (spa S b).map hd = some (hd a) ↔ spa S b = some a := by
  cases h : spa S b with
  | none => exact ⟨fun q => absurd q (by simp), fun q => absurd q (by simp)⟩
  | some c => exact ⟨fun q => by rw [RX.inj hR (T.par hb h).1 ha (Option.some.inj q)], fun q => by cases q; rfl⟩
theorem chd_x (T : Tree S) (hR : RX S hd LN LT xt xar xnt xln xcu xck xcp xcl xmk xtl xnu xti xpa xfa xep xel xde xtc) {a : Nat} (ha : a ∈ sL S) (x i : Int32) : ∀ (m k n : Nat), k + m = (sL S).length → Ev g mdX1_childOf 19 [some (.ref xo), some (.int x), some (.int i), some (.ref (hd a)), some (.int (nI n)), some (.int (nI k))] [] (wX g xo an ac am LN LT xt xar xnt xln xcu xck xcp xcl xmk xtl xnu xti xpa xfa xep xel xde xtc) (fun r w => r = some (.int (chO (spa S) a i ((sL S).drop k) n)) ∧ w = (wX g xo an ac am LN LT xt xar xnt xln xcu xck xcp xcl xmk xtl xnu xti xpa xfa xep xel xde xtc)) := by
  intro m
  have hlen := T.len
  induction m with
  | zero =>
    intro k n hk
    refine ev_iload (pc' := 21) dX1_childOf_19 rfl rfl ?_
    refine ev_aload_nE (pc' := 22) dX1_childOf_21 rfl rfl (by first | exact rf_some _ | exact rfl) ?_
    refine gX1_nodeTotal rfl (pc' := 25) dX1_childOf_22 rfl ?_
    refine ev_icmp_ge (tgt := 68) (pc' := 28) dX1_childOf_25 (by decide) rfl (fun h25 => ?_) (fun h25 => ?_)
    · refine ev_bipush (pc' := 70) (v := (-7)) dX1_childOf_68 rfl (by decide) ?_
      refine ev_iret rfl dX1_childOf_70 ?_
      rw [drop_end hk]
      exact ⟨rfl, rfl⟩
    · rw [hR.1] at h25
      exact absurd (nI_le (by omega) (by omega)) h25
  | succ m ih =>
    intro k n hk
    obtain ⟨b, hb, rfl⟩ := ix_at T (show k < (sL S).length by omega)
    have hr := RX.row hR hb
    rw [drop_ix hb]
    unfold chO
    refine ev_iload (pc' := 21) dX1_childOf_19 rfl rfl ?_
    refine ev_aload_nE (pc' := 22) dX1_childOf_21 rfl rfl (by first | exact rf_some _ | exact rfl) ?_
    refine gX1_nodeTotal rfl (pc' := 25) dX1_childOf_22 rfl ?_
    refine ev_icmp_ge (tgt := 68) (pc' := 28) dX1_childOf_25 (by decide) rfl (fun h25 => ?_) (fun h25 => ?_)
    · rw [hR.1] at h25
      exact absurd h25 (nI_ge (by omega) (by omega))
    · refine ev_aload_nE (pc' := 29) dX1_childOf_28 rfl rfl (by first | exact rf_some _ | exact rfl) ?_
      refine gX1_nodes rfl (pc' := 32) dX1_childOf_29 rfl ?_
      refine ev_iload (pc' := 34) dX1_childOf_32 rfl rfl ?_
      refine x_nodes_get (by omega) hr.2.1 (pc' := 35) dX1_childOf_34 rfl ?_
      refine gX0_parent rfl hr.1 hr.2.2.2.2.2.1 (pc' := 38) dX1_childOf_35 rfl ?_
      refine ev_aload_nE (pc' := 39) dX1_childOf_38 rfl rfl (by first | exact rf_some _ | exact rfl) ?_
      refine ev_acmp_neE (by first | exact rf_some _ | exact rfl) (by first | exact rf_some _ | exact rfl) (tgt := 62) (pc' := 42) dX1_childOf_39 (by decide) rfl (fun h39 => ?_) (fun h39 => ?_)
      · rw [pa_eq T hR hb ha] at h39
        rw [if_neg h39]
        refine ev_iinc (pc' := 65) (lv' := [_, _, _, _, _, _]) dX1_childOf_62 rfl rfl (nI_1 _) (by decide) (by intro w hw; first | exact Or.inl rfl | (right; have hw := Option.some.inj (Option.some.inj hw); subst hw; first | rfl | exact rf_cat _) | cases hw) rfl ?_
        refine ev_goto (pc' := 19) dX1_childOf_65 (by decide) ?_
        exact ih (ix S b + 1) n (by omega)
      · rw [pa_eq T hR hb ha] at h39
        rw [if_pos h39]
        refine ev_iload (pc' := 44) dX1_childOf_42 rfl rfl ?_
        refine ev_iload_n (pc' := 45) dX1_childOf_44 rfl rfl ?_
        refine ev_icmp_ne (tgt := 59) (pc' := 48) dX1_childOf_45 (by decide) rfl (fun h45 => ?_) (fun h45 => ?_)
        · rw [if_neg h45]
          refine ev_iinc (pc' := 62) (lv' := [_, _, _, _, _, _]) dX1_childOf_59 rfl rfl (nI_1 _) (by decide) (by intro w hw; first | exact Or.inl rfl | (right; have hw := Option.some.inj (Option.some.inj hw); subst hw; first | rfl | exact rf_cat _) | cases hw) rfl ?_
          refine ev_iinc (pc' := 65) (lv' := [_, _, _, _, _, _]) dX1_childOf_62 rfl rfl (nI_1 _) (by decide) (by intro w hw; first | exact Or.inl rfl | (right; have hw := Option.some.inj (Option.some.inj hw); subst hw; first | rfl | exact rf_cat _) | cases hw) rfl ?_
          refine ev_goto (pc' := 19) dX1_childOf_65 (by decide) ?_
          exact ih (ix S b + 1) (n + 1) (by omega)
        · rw [if_pos h45]
          refine ev_aload_nE (pc' := 49) dX1_childOf_48 rfl rfl (by first | exact rf_some _ | exact rfl) ?_
          refine gX1_nodes rfl (pc' := 52) dX1_childOf_49 rfl ?_
          refine ev_iload (pc' := 54) dX1_childOf_52 rfl rfl ?_
          refine x_nodes_get (by omega) hr.2.1 (pc' := 55) dX1_childOf_54 rfl ?_
          refine gX0_number rfl hr.1 hr.2.2.2.1 (pc' := 58) dX1_childOf_55 rfl ?_
          refine ev_iret rfl dX1_childOf_58 ?_
          exact ⟨rfl, rfl⟩
theorem c_xchildOf (T : Tree S) (hR : RX S hd LN LT xt xar xnt xln xcu xck xcp xcl xmk xtl xnu xti xpa xfa xep xel xde xtc) (x i : Int32) : Ret g mdX1_childOf [.ref xo, .int x, .int i] (wX g xo an ac am LN LT xt xar xnt xln xcu xck xcp xcl xmk xtl xnu xti xpa xfa xep xel xde xtc) (fun r w => r = some (.int (aChild S x i)) ∧ w = (wX g xo an ac am LN LT xt xar xnt xln xcu xck xcp xcl xmk xtl xnu xti xpa xfa xep xel xde xtc)) := by
  refine Ret.of [_, _, _, _, _, _] 3 (by decide) (Nat.le_of_ble_eq_true rfl) rfl ?_
  unfold aChild
  refine ev_aload_nE (pc' := 1) dX1_childOf_0 rfl rfl (by first | exact rf_some _ | exact rfl) ?_
  refine ev_iload_n (pc' := 2) dX1_childOf_1 rfl rfl ?_
  refine x_callV (As := [_]) coX1_find rfl (c_find T hR x) rfl (by decide) (by first | exact Nat.le_of_ble_eq_true rfl | simp [Value.category, rf_cat]) dX1_childOf_2 rfl (pc' := 5) rfl (fun v w hq => ?_)
  obtain ⟨rfl, rfl⟩ := hq
  dsimp only [Option.toList, List.cons_append, List.nil_append]
  cases hl : lk S x with
  | none =>
    show Ev g mdX1_childOf 5 _ [va_rf none] _ _
    refine ev_astore_nE (by first | exact rf_some _ | exact rfl) (pc' := 6) (lv' := [_, _, _, _, _, _]) dX1_childOf_5 rfl (by decide) (by intro w hw; first | exact Or.inl rfl | (right; have hw := Option.some.inj (Option.some.inj hw); subst hw; first | rfl | exact rf_cat _) | cases hw) rfl ?_
    refine ev_aload_nE (pc' := 7) dX1_childOf_6 rfl rfl (by first | exact rf_some _ | exact rfl) ?_
    refine ev_ifnonnullZ (pc' := 10) dX1_childOf_7 rfl ?_
    refine ev_bipush (pc' := 12) (v := (-2)) dX1_childOf_10 rfl (by decide) ?_
    refine ev_iret rfl dX1_childOf_12 ?_
    exact ⟨rfl, rfl⟩
  | some a =>
    show Ev g mdX1_childOf 5 _ [.ref (hd a)] _ _
    refine ev_astore_nE (by first | exact rf_some _ | exact rfl) (pc' := 6) (lv' := [_, _, _, _, _, _]) dX1_childOf_5 rfl (by decide) (by intro w hw; first | exact Or.inl rfl | (right; have hw := Option.some.inj (Option.some.inj hw); subst hw; first | rfl | exact rf_cat _) | cases hw) rfl ?_
    refine ev_aload_nE (pc' := 7) dX1_childOf_6 rfl rfl (by first | exact rf_some _ | exact rfl) ?_
    refine ev_ifnonnullR (tgt := 13) dX1_childOf_7 (by decide) ?_
    refine ev_iconst (pc' := 14) (v := nI 0) dX1_childOf_13 rfl (by decide) ?_
    refine ev_istore (pc' := 16) (lv' := [_, _, _, _, _, _]) dX1_childOf_14 rfl (by decide) (by intro w hw; first | exact Or.inl rfl | (right; have hw := Option.some.inj (Option.some.inj hw); subst hw; first | rfl | exact rf_cat _) | cases hw) rfl ?_
    refine ev_iconst (pc' := 17) (v := nI 0) dX1_childOf_16 rfl (by decide) ?_
    refine ev_istore (pc' := 19) (lv' := [_, _, _, _, _, _]) dX1_childOf_17 rfl (by decide) (by intro w hw; first | exact Or.inl rfl | (right; have hw := Option.some.inj (Option.some.inj hw); subst hw; first | rfl | exact rf_cat _) | cases hw) rfl ?_
    exact chd_x T hR (lk_some hl).1 x i (sL S).length 0 0 (by omega)
theorem old_x (I : Inv N S) (hR : RX S hd LN LT xt xar xnt xln xcu xck xcp xcl xmk xtl xnu xti xpa xfa xep xel xde xtc) : ∀ (m k : Nat) (b : Option Nat), k + m = (sL S).length → (∀ e, b = some e → e ∈ sL S) → Ev g mdX1_oldestLeaf 4 [some (.ref xo), some (va_rf (b.map hd)), some (.int (nI k)), none] [] (wX g xo an ac am LN LT xt xar xnt xln xcu xck xcp xcl xmk xtl xnu xti xpa xfa xep xel xde xtc) (fun r w => r = some (.int (oI (oldF S ((sL S).drop k) b))) ∧ w = (wX g xo an ac am LN LT xt xar xnt xln xcu xck xcp xcl xmk xtl xnu xti xpa xfa xep xel xde xtc)) := by
  intro m
  have T := I.T
  have hlen := T.len
  induction m with
  | zero =>
    intro k b hk hb
    rw [drop_end hk]
    show Ev g mdX1_oldestLeaf 4 _ [] _ (fun r w => r = some (.int (oI b)) ∧ w = _)
    refine ev_iload_n (pc' := 5) dX1_oldestLeaf_4 rfl rfl ?_
    refine ev_aload_nE (pc' := 6) dX1_oldestLeaf_5 rfl rfl (by first | exact rf_some _ | exact rfl) ?_
    refine gX1_nodeTotal rfl (pc' := 9) dX1_oldestLeaf_6 rfl ?_
    refine ev_icmp_ge (tgt := 50) (pc' := 12) dX1_oldestLeaf_9 (by decide) rfl (fun h9 => ?_) (fun h9 => ?_)
    · refine ev_aload_nE (pc' := 51) dX1_oldestLeaf_50 rfl rfl (by first | exact rf_some _ | exact rfl) ?_
      refine ev_callS (As := [_]) coX1_numberOrNone (c_non hR b hb) rfl (by decide) (by first | exact Nat.le_of_ble_eq_true rfl | simp [Value.category, rf_cat]) dX1_oldestLeaf_51 rfl (pc' := 54) rfl (fun v w hq => ?_)
      obtain ⟨rfl, rfl⟩ := hq
      dsimp only [Option.toList, List.cons_append, List.nil_append]
      refine ev_iret rfl dX1_oldestLeaf_54 ?_
      exact ⟨rfl, rfl⟩
    · rw [hR.1] at h9
      exact absurd (nI_le (by omega) (by omega)) h9
  | succ m ih =>
    intro k b hk hb
    obtain ⟨c, hc, rfl⟩ := ix_at T (show k < (sL S).length by omega)
    have hr := RX.row hR hc
    rw [drop_ix hc]
    unfold oldF
    have skip : ¬ (loose S c = true ∧ (∀ e, b = some e → nI (sti S c) < nI (sti S e))) → Ev g mdX1_oldestLeaf 44 [some (.ref xo), some (va_rf (b.map hd)), some (.int (nI (ix S c))), some (.ref (hd c))] [] (wX g xo an ac am LN LT xt xar xnt xln xcu xck xcp xcl xmk xtl xnu xti xpa xfa xep xel xde xtc) (fun r w => r = some (.int (oI (oldF S ((sL S).drop (ix S c + 1)) (if loose S c = true ∧ (∀ e, b = some e → nI (sti S c) < nI (sti S e)) then some c else b)))) ∧ w = (wX g xo an ac am LN LT xt xar xnt xln xcu xck xcp xcl xmk xtl xnu xti xpa xfa xep xel xde xtc)) := by
      intro h
      rw [if_neg h]
      refine ev_iinc (pc' := 47) (lv' := [_, _, _, _]) dX1_oldestLeaf_44 rfl rfl (nI_1 _) (by decide) (by intro w hw; first | exact Or.inl rfl | (right; have hw := Option.some.inj (Option.some.inj hw); subst hw; first | rfl | exact rf_cat _) | cases hw) rfl ?_
      refine ev_goto (pc' := 4) dX1_oldestLeaf_47 (by decide) ?_
      refine Ev.weak [some (.ref xo), some (va_rf (b.map hd)), some (.int (nI (ix S c + 1))), none] (lw_le_get _ _ (by simp [lw_le])) ?_
      exact ih (ix S c + 1) b (by omega) hb
    have take : (loose S c = true ∧ (∀ e, b = some e → nI (sti S c) < nI (sti S e))) → Ev g mdX1_oldestLeaf 42 [some (.ref xo), some (va_rf (b.map hd)), some (.int (nI (ix S c))), some (.ref (hd c))] [] (wX g xo an ac am LN LT xt xar xnt xln xcu xck xcp xcl xmk xtl xnu xti xpa xfa xep xel xde xtc) (fun r w => r = some (.int (oI (oldF S ((sL S).drop (ix S c + 1)) (if loose S c = true ∧ (∀ e, b = some e → nI (sti S c) < nI (sti S e)) then some c else b)))) ∧ w = (wX g xo an ac am LN LT xt xar xnt xln xcu xck xcp xcl xmk xtl xnu xti xpa xfa xep xel xde xtc)) := by
      intro h
      rw [if_pos h]
      refine ev_aload_nE (pc' := 43) dX1_oldestLeaf_42 rfl rfl (by first | exact rf_some _ | exact rfl) ?_
      refine ev_astore_nE (by first | exact rf_some _ | exact rfl) (pc' := 44) (lv' := [_, _, _, _]) dX1_oldestLeaf_43 rfl (by decide) (by intro w hw; first | exact Or.inl rfl | (right; have hw := Option.some.inj (Option.some.inj hw); subst hw; first | rfl | exact rf_cat _) | cases hw) rfl ?_
      refine ev_iinc (pc' := 47) (lv' := [_, _, _, _]) dX1_oldestLeaf_44 rfl rfl (nI_1 _) (by decide) (by intro w hw; first | exact Or.inl rfl | (right; have hw := Option.some.inj (Option.some.inj hw); subst hw; first | rfl | exact rf_cat _) | cases hw) rfl ?_
      refine ev_goto (pc' := 4) dX1_oldestLeaf_47 (by decide) ?_
      refine Ev.weak [some (.ref xo), some (va_rf ((some c).map hd)), some (.int (nI (ix S c + 1))), none] (lw_le_get _ _ ⟨rfl, rfl, rfl, trivial⟩) ?_
      exact ih (ix S c + 1) (some c) (by omega) (fun e he => by cases he; exact hc)
    refine ev_iload_n (pc' := 5) dX1_oldestLeaf_4 rfl rfl ?_
    refine ev_aload_nE (pc' := 6) dX1_oldestLeaf_5 rfl rfl (by first | exact rf_some _ | exact rfl) ?_
    refine gX1_nodeTotal rfl (pc' := 9) dX1_oldestLeaf_6 rfl ?_
    refine ev_icmp_ge (tgt := 50) (pc' := 12) dX1_oldestLeaf_9 (by decide) rfl (fun h9 => ?_) (fun h9 => ?_)
    · rw [hR.1] at h9
      exact absurd h9 (nI_ge (by omega) (by omega))
    · refine ev_aload_nE (pc' := 13) dX1_oldestLeaf_12 rfl rfl (by first | exact rf_some _ | exact rfl) ?_
      refine gX1_nodes rfl (pc' := 16) dX1_oldestLeaf_13 rfl ?_
      refine ev_iload_n (pc' := 17) dX1_oldestLeaf_16 rfl rfl ?_
      refine x_nodes_get (by omega) hr.2.1 (pc' := 18) dX1_oldestLeaf_17 rfl ?_
      show Ev g mdX1_oldestLeaf 18 _ [.ref (hd c)] _ _
      refine ev_astore_nE (by first | exact rf_some _ | exact rfl) (pc' := 19) (lv' := [_, _, _, _]) dX1_oldestLeaf_18 rfl (by decide) (by intro w hw; first | exact Or.inl rfl | (right; have hw := Option.some.inj (Option.some.inj hw); subst hw; first | rfl | exact rf_cat _) | cases hw) rfl ?_
      refine ev_aload_nE (pc' := 20) dX1_oldestLeaf_19 rfl rfl (by first | exact rf_some _ | exact rfl) ?_
      refine ev_aload_nE (pc' := 21) dX1_oldestLeaf_20 rfl rfl (by first | exact rf_some _ | exact rfl) ?_
      refine x_callV (As := [_]) coX1_isForgettable rfl (c_isForgettable I hR hc) rfl (by decide) (by first | exact Nat.le_of_ble_eq_true rfl | simp [Value.category, rf_cat]) dX1_oldestLeaf_21 rfl (pc' := 24) rfl (fun v w hq => ?_)
      obtain ⟨rfl, rfl⟩ := hq
      dsimp only [Option.toList, List.cons_append, List.nil_append]
      refine ev_if_eq (tgt := 44) (pc' := 27) dX1_oldestLeaf_24 (by decide) rfl (fun h24 => ?_) (fun h24 => ?_)
      · rw [bI_eq] at h24
        exact skip (fun q => by rw [h24] at q; exact absurd q.1 (by decide))
      · rw [bI_ne] at h24
        cases b with
        | none =>
          show Ev g mdX1_oldestLeaf 27 [_, some (va_rf none), _, _] [] _ _
          refine ev_aload_nE (pc' := 28) dX1_oldestLeaf_27 rfl rfl (by first | exact rf_some _ | exact rfl) ?_
          refine ev_ifnullZ (tgt := 42) dX1_oldestLeaf_28 (by decide) ?_
          exact take ⟨h24, fun e he => by cases he⟩
        | some e =>
          have he := hb e rfl
          have hre := RX.row hR he
          show Ev g mdX1_oldestLeaf 27 [_, some (.ref (hd e)), _, _] [] _ _
          refine ev_aload_nE (pc' := 28) dX1_oldestLeaf_27 rfl rfl (by first | exact rf_some _ | exact rfl) ?_
          refine ev_ifnullR (pc' := 31) dX1_oldestLeaf_28 rfl ?_
          refine ev_aload_nE (pc' := 32) dX1_oldestLeaf_31 rfl rfl (by first | exact rf_some _ | exact rfl) ?_
          refine gX0_time rfl hr.1 hr.2.2.2.2.1 (pc' := 35) dX1_oldestLeaf_32 rfl ?_
          refine ev_aload_nE (pc' := 36) dX1_oldestLeaf_35 rfl rfl (by first | exact rf_some _ | exact rfl) ?_
          refine gX0_time rfl hre.1 hre.2.2.2.2.1 (pc' := 39) dX1_oldestLeaf_36 rfl ?_
          refine ev_icmp_ge (tgt := 44) (pc' := 42) dX1_oldestLeaf_39 (by decide) rfl (fun h39 => ?_) (fun h39 => ?_)
          · exact skip (fun q => Int32.not_lt.mpr h39 (q.2 e rfl))
          · exact take ⟨h24, fun e' he' => by cases he'; exact Int32.not_le.mp h39⟩
theorem c_xoldestLeaf (I : Inv N S) (hR : RX S hd LN LT xt xar xnt xln xcu xck xcp xcl xmk xtl xnu xti xpa xfa xep xel xde xtc) : Ret g mdX1_oldestLeaf [.ref xo] (wX g xo an ac am LN LT xt xar xnt xln xcu xck xcp xcl xmk xtl xnu xti xpa xfa xep xel xde xtc) (fun r w => r = some (.int (aOld S)) ∧ w = (wX g xo an ac am LN LT xt xar xnt xln xcu xck xcp xcl xmk xtl xnu xti xpa xfa xep xel xde xtc)) := by
  refine Ret.of [_, _, _, _] 3 (by decide) (Nat.le_of_ble_eq_true rfl) rfl ?_
  refine ev_null (pc' := 1) dX1_oldestLeaf_0 rfl ?_
  refine ev_astore_nE (by first | exact rf_some _ | exact rfl) (pc' := 2) (lv' := [_, _, _, _]) dX1_oldestLeaf_1 rfl (by decide) (by intro w hw; first | exact Or.inl rfl | (right; have hw := Option.some.inj (Option.some.inj hw); subst hw; first | rfl | exact rf_cat _) | cases hw) rfl ?_
  refine ev_iconst (pc' := 3) (v := nI 0) dX1_oldestLeaf_2 rfl (by decide) ?_
  refine ev_istore_n (pc' := 4) (lv' := [_, _, _, _]) dX1_oldestLeaf_3 rfl (by decide) (by intro w hw; first | exact Or.inl rfl | (right; have hw := Option.some.inj (Option.some.inj hw); subst hw; first | rfl | exact rf_cat _) | cases hw) rfl ?_
  exact old_x I hR (sL S).length 0 none (by omega) (fun e he => by cases he)
end X2
end
section
/-! ===== the landed class: becoming current, the clip, the marks ===== -/
section X3
variable {g : EG} {xo an ac am : Nat} {LN LT : List Nat} {xt : Nat → Nat} {xar : Nat → Option Nat} {xnt xln : Int32} {xcu : Nat} {xck : Int32} {xcp : Nat → Int32} {xcl : Int32} {xmk : Nat → Option Nat} {xtl xnu xti : Nat → Int32} {xpa xfa : Nat → Option Nat} {xep xel xde : Nat → Int32} {xtc : Nat → Nat → Int32}
variable {S : SS} {hd : Nat → Nat} {N : Nat} {Ph : Option Value → va_W → Prop}
theorem RX.setFav {f : Nat → Option Nat} (hR : RX (setFa S f) hd LN LT xt xar xnt xln xcu xck xcp xcl xmk xtl xnu xti xpa xfa xep xel xde xtc) {b c : Nat} (hb : b ∈ sL S) : RX (setFa S (va_up f b (some c))) hd LN LT xt xar xnt xln xcu xck xcp xcl xmk xtl xnu xti xpa (va_up xfa (hd b) (some (hd c))) xep xel xde xtc := by
  refine ⟨hR.1, hR.2.1, hR.2.2.1, hR.2.2.2.1, hR.2.2.2.2.1, fun x hx => ?_, hR.2.2.2.2.2.2⟩
  have h := hR.2.2.2.2.2.1 x hx
  refine ⟨h.1, h.2.1, h.2.2.1, h.2.2.2.1, h.2.2.2.2.1, h.2.2.2.2.2.1, ?_, h.2.2.2.2.2.2.2⟩
  show va_up xfa (hd b) (some (hd c)) (hd x) = (va_up f b (some c) x).map hd
  by_cases q : x = b
  · rw [q, va_up_self, va_up_self]; rfl
  · rw [va_up_ne _ _ (fun e => q (RX.inj hR hx hb e)), va_up_ne _ _ q]; exact h.2.2.2.2.2.2.1
end X3
section X4
variable {g : EG} {xo an ac am : Nat} {LN LT : List Nat} {xt : Nat → Nat} {S : SS} {hd : Nat → Nat}
theorem mkc_loop (T : Tree S) {z : Nat} : ∀ (c : Nat), c ∈ sL S → ∀ (f : Nat → Option Nat) (xar : Nat → Option Nat) (xnt xln : Int32) (xcu : Nat) (xck : Int32) (xcp : Nat → Int32) (xcl : Int32) (xmk : Nat → Option Nat) (xtl xnu xti : Nat → Int32) (xpa xfa : Nat → Option Nat) (xep xel xde : Nat → Int32) (xtc : Nat → Nat → Int32), RX (setFa S f) hd LN LT xt xar xnt xln xcu xck xcp xcl xmk xtl xnu xti xpa xfa xep xel xde xtc → Ev g mdX1_makeCurrent 25 [some (.ref xo), some (.ref z), some (.ref (hd c))] [] (wX g xo an ac am LN LT xt xar xnt xln xcu xck xcp xcl xmk xtl xnu xti xpa xfa xep xel xde xtc) (fun r w => r = none ∧ ∃ xfa' : Nat → Option Nat, w = (wX g xo an ac am LN LT xt xar xnt xln xcu xck xcp xcl xmk xtl xnu xti xpa (xfa') xep xel xde xtc) ∧ RX (setFa S (favs (spa S) (path S c) f)) hd LN LT xt xar xnt xln xcu xck xcp xcl xmk xtl xnu xti xpa (xfa') xep xel xde xtc) := by
  intro c
  induction c using Nat.strongRecOn with
  | ind c ih =>
    intro hc f xar xnt xln xcu xck xcp xcl xmk xtl xnu xti xpa xfa xep xel xde xtc hR
    have hr := RX.row hR hc
    have hpa : xpa (hd c) = (spa S c).map hd := hr.2.2.2.2.2.1
    cases hb : spa S c with
    | none =>
      rw [hb] at hpa
      refine ev_aload_nE (pc' := 26) dX1_makeCurrent_25 rfl rfl (by first | exact rf_some _ | exact rfl) ?_
      refine gX0_parent rfl hr.1 hpa (pc' := 29) dX1_makeCurrent_26 rfl ?_
      show Ev g mdX1_makeCurrent 29 _ [va_rf none] _ _
      refine ev_ifnullZ (tgt := 48) dX1_makeCurrent_29 (by decide) ?_
      refine ev_vret rfl dX1_makeCurrent_48 ?_
      refine ⟨rfl, xfa, rfl, ?_⟩
      rw [path_none hb]
      show RX (setFa S (match spa S c with | some b => va_up f b (some c) | none => f)) hd LN LT xt xar xnt xln xcu xck xcp xcl xmk xtl xnu xti xpa xfa xep xel xde xtc
      rw [hb]
      exact hR
    | some b =>
      obtain ⟨h1, h2⟩ := T.par hc hb
      have hrb := RX.row hR h1
      rw [hb] at hpa
      refine ev_aload_nE (pc' := 26) dX1_makeCurrent_25 rfl rfl (by first | exact rf_some _ | exact rfl) ?_
      refine gX0_parent rfl hr.1 hpa (pc' := 29) dX1_makeCurrent_26 rfl ?_
      refine ev_ifnullR (pc' := 32) dX1_makeCurrent_29 rfl ?_
      refine ev_aload_nE (pc' := 33) dX1_makeCurrent_32 rfl rfl (by first | exact rf_some _ | exact rfl) ?_
      refine gX0_parent rfl hr.1 hpa (pc' := 36) dX1_makeCurrent_33 rfl ?_
      show Ev g mdX1_makeCurrent 36 _ [.ref (hd b)] _ _
      refine ev_aload_nE (pc' := 37) dX1_makeCurrent_36 rfl rfl (by first | exact rf_some _ | exact rfl) ?_
      refine pX0_favouriteE (by first | exact rf_some _ | exact rfl) rfl hrb.1 (pc' := 40) dX1_makeCurrent_37 rfl ?_
      refine ev_aload_nE (pc' := 41) dX1_makeCurrent_40 rfl rfl (by first | exact rf_some _ | exact rfl) ?_
      refine gX0_parent rfl hr.1 hpa (pc' := 44) dX1_makeCurrent_41 rfl ?_
      refine ev_astore_nE (by first | exact rf_some _ | exact rfl) (pc' := 45) (lv' := [_, _, _]) dX1_makeCurrent_44 rfl (by decide) (by intro w hw; first | exact Or.inl rfl | (right; have hw := Option.some.inj (Option.some.inj hw); subst hw; first | rfl | exact rf_cat _) | cases hw) rfl ?_
      refine ev_goto (pc' := 25) dX1_makeCurrent_45 (by decide) ?_
      have hR2 := RX.setFav hR (b := b) (c := c) h1
      have h3 := ih b h2 h1 (va_up f b (some c)) _ _ _ _ _ _ _ _ _ _ _ _ _ _ _ _ _ hR2
      rw [path_some T hc hb]
      show Ev g mdX1_makeCurrent 25 _ [] _ (fun r w => r = none ∧ ∃ xfa' : Nat → Option Nat, w = (wX g xo an ac am LN LT xt xar xnt xln xcu xck xcp xcl xmk xtl xnu xti xpa (xfa') xep xel xde xtc) ∧ RX (setFa S (favs (spa S) (path S b) (match spa S c with | some b => va_up f b (some c) | none => f))) hd LN LT xt xar xnt xln xcu xck xcp xcl xmk xtl xnu xti xpa (xfa') xep xel xde xtc)
      rw [hb]
      exact h3
theorem RX.bec0 {xar : Nat → Option Nat} {xnt xln : Int32} {xcu : Nat} {xck : Int32} {xcp : Nat → Int32} {xcl : Int32} {xmk : Nat → Option Nat} {xtl xnu xti : Nat → Int32} {xpa xfa : Nat → Option Nat} {xep xel xde : Nat → Int32} {xtc : Nat → Nat → Int32} (hR : RX S hd LN LT xt xar xnt xln xcu xck xcp xcl xmk xtl xnu xti xpa xfa xep xel xde xtc) {a : Nat} (ha : a ∈ sL S) : RX (setFa (bec0 S a) (sfa S)) hd LN LT xt xar xnt xln (hd a) (nI (sck S + 1)) xcp xcl xmk xtl xnu (va_up xti (hd a) (nI (sck S + 1))) xpa xfa xep xel xde xtc := by
  refine ⟨hR.1, hR.2.1, rfl, rfl, hR.2.2.2.2.1, fun x hx => ?_, hR.2.2.2.2.2.2⟩
  have h := hR.2.2.2.2.2.1 x hx
  refine ⟨h.1, h.2.1, h.2.2.1, h.2.2.2.1, ?_, h.2.2.2.2.2⟩
  show va_up xti (hd a) (nI (sck S + 1)) (hd x) = nI (va_up (sti S) a (sck S + 1) x)
  by_cases q : x = a
  · rw [q, va_up_self, va_up_self]
  · rw [va_up_ne _ _ (fun e => q (RX.inj hR hx ha e)), va_up_ne _ _ q]; exact h.2.2.2.2.1
theorem c_makeCurrent (T : Tree S) {xar : Nat → Option Nat} {xnt xln : Int32} {xcu : Nat} {xck : Int32} {xcp : Nat → Int32} {xcl : Int32} {xmk : Nat → Option Nat} {xtl xnu xti : Nat → Int32} {xpa xfa : Nat → Option Nat} {xep xel xde : Nat → Int32} {xtc : Nat → Nat → Int32} (hR : RX S hd LN LT xt xar xnt xln xcu xck xcp xcl xmk xtl xnu xti xpa xfa xep xel xde xtc) {a : Nat} (ha : a ∈ sL S) : Ret g mdX1_makeCurrent [.ref xo, .ref (hd a)] (wX g xo an ac am LN LT xt xar xnt xln xcu xck xcp xcl xmk xtl xnu xti xpa xfa xep xel xde xtc) (fun r w => r = none ∧ ∃ (xti' : Nat → Int32) (xfa' : Nat → Option Nat), w = (wX g xo an ac am LN LT xt xar xnt xln (hd a) (nI (sck S + 1)) xcp xcl xmk xtl xnu (xti') xpa (xfa') xep xel xde xtc) ∧ RX (bec S a) hd LN LT xt xar xnt xln (hd a) (nI (sck S + 1)) xcp xcl xmk xtl xnu (xti') xpa (xfa') xep xel xde xtc) := by
  refine Ret.of [_, _, _] 1 (by decide) (Nat.le_of_ble_eq_true rfl) rfl ?_
  have hr := RX.row hR ha
  have e4 := hR.2.2.2.1
  subst e4
  refine ev_aload_nE (pc' := 1) dX1_makeCurrent_0 rfl rfl (by first | exact rf_some _ | exact rfl) ?_
  refine ev_dup (pc' := 2) dX1_makeCurrent_1 rfl (by first | rfl | exact rf_cat _) ?_
  refine gX1_clock rfl (pc' := 5) dX1_makeCurrent_2 rfl ?_
  refine ev_iconst (pc' := 6) (v := nI 1) dX1_makeCurrent_5 rfl (by decide) ?_
  refine ev_iaddN  (pc' := 7) dX1_makeCurrent_6 rfl ?_
  refine pX1_clock rfl (pc' := 10) dX1_makeCurrent_7 rfl ?_
  refine ev_aload_nE (pc' := 11) dX1_makeCurrent_10 rfl rfl (by first | exact rf_some _ | exact rfl) ?_
  refine ev_aload_nE (pc' := 12) dX1_makeCurrent_11 rfl rfl (by first | exact rf_some _ | exact rfl) ?_
  refine gX1_clock rfl (pc' := 15) dX1_makeCurrent_12 rfl ?_
  refine pX0_time rfl hr.1 (pc' := 18) dX1_makeCurrent_15 rfl ?_
  refine ev_aload_nE (pc' := 19) dX1_makeCurrent_18 rfl rfl (by first | exact rf_some _ | exact rfl) ?_
  refine ev_aload_nE (pc' := 20) dX1_makeCurrent_19 rfl rfl (by first | exact rf_some _ | exact rfl) ?_
  refine pX1_currentNode rfl (pc' := 23) dX1_makeCurrent_20 rfl ?_
  refine ev_aload_nE (pc' := 24) dX1_makeCurrent_23 rfl rfl (by first | exact rf_some _ | exact rfl) ?_
  refine ev_astore_nE (by first | exact rf_some _ | exact rfl) (pc' := 25) (lv' := [_, _, _]) dX1_makeCurrent_24 rfl (by decide) (by intro w hw; first | exact Or.inl rfl | (right; have hw := Option.some.inj (Option.some.inj hw); subst hw; first | rfl | exact rf_cat _) | cases hw) rfl ?_
  have h := mkc_loop (g := g) (xo := xo) (an := an) (ac := ac) (am := am) (z := hd a) (S := bec0 S a) T a ha (sfa S) _ _ _ _ _ _ _ _ _ _ _ _ _ _ _ _ _ (RX.bec0 hR ha)
  refine Ev.mono h (fun r w hq => ?_)
  obtain ⟨h1, xfa', h2, h3⟩ := hq
  exact ⟨h1, _, xfa', h2, h3⟩
end X4
section X5
variable {g : EG} {xo an ac am : Nat} {LN LT : List Nat} {xt : Nat → Nat} {xar : Nat → Option Nat} {xnt xln : Int32} {xcu : Nat} {xck : Int32} {xcp : Nat → Int32} {xcl : Int32} {xmk : Nat → Option Nat} {xtl xnu xti : Nat → Int32} {xpa xfa : Nat → Option Nat} {xep xel xde : Nat → Int32} {xtc : Nat → Nat → Int32}
variable {S : SS} {hd : Nat → Nat} {N : Nat} {Ph : Option Value → va_W → Prop}
theorem ch_nar {j : Nat} (hj : j < 65536) : vp_nar .char (nI j) = nI j := by unfold vp_nar; rw [(pk_charN hj).1]
theorem ch_i2c {j : Nat} (hj : j < 65536) : ((nI j).toUInt32 % 65536).toInt32 = nI j := by rw [pk_char, pk_tn (by omega), Nat.mod_eq_of_lt hj]
theorem c_xappend (hR : RX S hd LN LT xt xar xnt xln xcu xck xcp xcl xmk xtl xnu xti xpa xfa xep xel xde xtc) (hc : scl S ≤ 6) (x : Int32) : Ret g mdX1_append [.ref xo, .int x] (wX g xo an ac am LN LT xt xar xnt xln xcu xck xcp xcl xmk xtl xnu xti xpa xfa xep xel xde xtc) (fun r w => r = some (.int (oApp S x).1) ∧ isX g xo an ac am LN LT xt (oApp S x).2 w) := by
  refine Ret.of [_, _] 0 (by decide) (Nat.le_of_ble_eq_true rfl) rfl ?_
  have e5 := hR.2.2.2.2.1
  subst e5
  have no : ¬ (32 ≤ x ∧ x ≤ 126) → Ev g mdX1_append 12 [some (.ref xo), some (.int x)] [] (wX g xo an ac am LN LT xt xar xnt xln xcu xck xcp (nI (scl S)) xmk xtl xnu xti xpa xfa xep xel xde xtc) (fun r w => r = some (.int (oApp S x).1) ∧ isX g xo an ac am LN LT xt (oApp S x).2 w) := by
    intro h
    refine ev_iconst (pc' := 13) (v := (-1)) dX1_append_12 rfl (by decide) ?_
    refine ev_iret rfl dX1_append_13 ?_
    unfold oApp
    rw [if_neg h]
    exact ⟨rfl, isX.of hR⟩
  refine ev_iload_n (pc' := 1) dX1_append_0 rfl rfl ?_
  refine ev_bipush (pc' := 3) (v := nI 32) dX1_append_1 rfl (by decide) ?_
  refine ev_icmp_lt (tgt := 12) (pc' := 6) dX1_append_3 (by decide) rfl (fun h3 => ?_) (fun h3 => ?_)
  · exact no (fun q => Int32.not_lt.mpr q.1 h3)
  · refine ev_iload_n (pc' := 7) dX1_append_6 rfl rfl ?_
    refine ev_bipush (pc' := 9) (v := nI 126) dX1_append_7 rfl (by decide) ?_
    refine ev_icmp_le (tgt := 14) (pc' := 12) dX1_append_9 (by decide) rfl (fun h9 => ?_) (fun h9 => ?_)
    · have hx : 32 ≤ x ∧ x ≤ 126 := ⟨Int32.not_lt.mp h3, h9⟩
      obtain ⟨j, hj, rfl⟩ := nI_of2 (M := 126) (n := 126) (by decide) (Int32.not_lt.mpr (Int32.le_trans (by decide) hx.1)) hx.2
      refine ev_aload_nE (pc' := 15) dX1_append_14 rfl rfl (by first | exact rf_some _ | exact rfl) ?_
      refine gX1_clipLength rfl (pc' := 18) dX1_append_15 rfl ?_
      refine ev_bipush (pc' := 20) (v := nI 6) dX1_append_18 rfl (by decide) ?_
      refine ev_icmp_lt (tgt := 26) (pc' := 23) dX1_append_20 (by decide) rfl (fun h20 => ?_) (fun h20 => ?_)
      · rw [nI_ltI (by omega) (by omega)] at h20
        refine ev_aload_nE (pc' := 27) dX1_append_26 rfl rfl (by first | exact rf_some _ | exact rfl) ?_
        refine gX1_clip rfl (pc' := 30) dX1_append_27 rfl ?_
        refine ev_aload_nE (pc' := 31) dX1_append_30 rfl rfl (by first | exact rf_some _ | exact rfl) ?_
        refine gX1_clipLength rfl (pc' := 34) dX1_append_31 rfl ?_
        refine ev_iload_n (pc' := 35) dX1_append_34 rfl rfl ?_
        refine ev_i2c (pc' := 36) dX1_append_35 rfl (ch_i2c (by omega)) ?_
        refine x_clip_put (by omega) (ch_nar (by omega)) (pc' := 37) dX1_append_36 rfl ?_
        refine ev_aload_nE (pc' := 38) dX1_append_37 rfl rfl (by first | exact rf_some _ | exact rfl) ?_
        refine ev_dup (pc' := 39) dX1_append_38 rfl (by first | rfl | exact rf_cat _) ?_
        refine gX1_clipLength rfl (pc' := 42) dX1_append_39 rfl ?_
        refine ev_iconst (pc' := 43) (v := nI 1) dX1_append_42 rfl (by decide) ?_
        refine ev_iaddN  (pc' := 44) dX1_append_43 rfl ?_
        refine pX1_clipLength rfl (pc' := 47) dX1_append_44 rfl ?_
        refine ev_aload_nE (pc' := 48) dX1_append_47 rfl rfl (by first | exact rf_some _ | exact rfl) ?_
        refine gX1_clipLength rfl (pc' := 51) dX1_append_48 rfl ?_
        refine ev_iret rfl dX1_append_51 ?_
        unfold oApp
        rw [if_pos hx, if_neg (by omega)]
        refine ⟨rfl, isX.of (hd := hd) ⟨hR.1, hR.2.1, hR.2.2.1, hR.2.2.2.1, rfl, hR.2.2.2.2.2.1, fun i hi => ?_, hR.2.2.2.2.2.2.2⟩⟩
        have hi : i < scl S + 1 := hi
        show upd xcp (scl S) (nI j) i = upd (scp S) (scl S) (nI j) i
        by_cases q : i = scl S
        · rw [q, pk_us, pk_us]
        · rw [pk_un q, pk_un q]; exact RX.cp hR (by omega)
      · rw [nI_ltI (by omega) (by omega)] at h20
        refine ev_bipush (pc' := 25) (v := (-4)) dX1_append_23 rfl (by decide) ?_
        refine ev_iret rfl dX1_append_25 ?_
        unfold oApp
        rw [if_pos hx, if_pos (by omega)]
        exact ⟨rfl, isX.of hR⟩
    · exact no (fun q => h9 q.2)
theorem c_xclearClip (hR : RX S hd LN LT xt xar xnt xln xcu xck xcp xcl xmk xtl xnu xti xpa xfa xep xel xde xtc) : Ret g mdX1_clearClip [.ref xo] (wX g xo an ac am LN LT xt xar xnt xln xcu xck xcp xcl xmk xtl xnu xti xpa xfa xep xel xde xtc) (fun r w => r = some (.int (oClr S).1) ∧ isX g xo an ac am LN LT xt (oClr S).2 w) := by
  refine Ret.of [_, _] 1 (by decide) (Nat.le_of_ble_eq_true rfl) rfl ?_
  have e5 := hR.2.2.2.2.1
  subst e5
  refine ev_aload_nE (pc' := 1) dX1_clearClip_0 rfl rfl (by first | exact rf_some _ | exact rfl) ?_
  refine gX1_clipLength rfl (pc' := 4) dX1_clearClip_1 rfl ?_
  refine ev_istore_n (pc' := 5) (lv' := [_, _]) dX1_clearClip_4 rfl (by decide) (by intro w hw; first | exact Or.inl rfl | (right; have hw := Option.some.inj (Option.some.inj hw); subst hw; first | rfl | exact rf_cat _) | cases hw) rfl ?_
  refine ev_aload_nE (pc' := 6) dX1_clearClip_5 rfl rfl (by first | exact rf_some _ | exact rfl) ?_
  refine ev_iconst (pc' := 7) (v := nI 0) dX1_clearClip_6 rfl (by decide) ?_
  refine pX1_clipLength rfl (pc' := 10) dX1_clearClip_7 rfl ?_
  refine ev_iload_n (pc' := 11) dX1_clearClip_10 rfl rfl ?_
  refine ev_iret rfl dX1_clearClip_11 ?_
  exact ⟨rfl, isX.of (hd := hd) ⟨hR.1, hR.2.1, hR.2.2.1, hR.2.2.2.1, rfl, hR.2.2.2.2.2.1, fun i hi => absurd hi (Nat.not_lt_zero i), hR.2.2.2.2.2.2.2⟩⟩
theorem c_xundo (T : Tree S) (hR : RX S hd LN LT xt xar xnt xln xcu xck xcp xcl xmk xtl xnu xti xpa xfa xep xel xde xtc) (hc : scu S ∈ sL S) : Ret g mdX1_undo [.ref xo] (wX g xo an ac am LN LT xt xar xnt xln xcu xck xcp xcl xmk xtl xnu xti xpa xfa xep xel xde xtc) (fun r w => r = some (.int (oUndo S).1) ∧ isX g xo an ac am LN LT xt (oUndo S).2 w) := by
  refine Ret.of [_, _] 1 (by decide) (Nat.le_of_ble_eq_true rfl) rfl ?_
  have hr := RX.row hR hc
  have e3 := hR.2.2.1
  subst e3
  have hpa := hr.2.2.2.2.2.1
  unfold oUndo
  cases hb : spa S (scu S) with
  | none =>
    rw [hb] at hpa
    refine ev_aload_nE (pc' := 1) dX1_undo_0 rfl rfl (by first | exact rf_some _ | exact rfl) ?_
    refine gX1_currentNode rfl (pc' := 4) dX1_undo_1 rfl ?_
    refine gX0_parent rfl hr.1 hpa (pc' := 7) dX1_undo_4 rfl ?_
    show Ev g mdX1_undo 7 _ [va_rf none] _ _
    refine ev_astore_nE (by first | exact rf_some _ | exact rfl) (pc' := 8) (lv' := [_, _]) dX1_undo_7 rfl (by decide) (by intro w hw; first | exact Or.inl rfl | (right; have hw := Option.some.inj (Option.some.inj hw); subst hw; first | rfl | exact rf_cat _) | cases hw) rfl ?_
    refine ev_aload_nE (pc' := 9) dX1_undo_8 rfl rfl (by first | exact rf_some _ | exact rfl) ?_
    refine ev_ifnonnullZ (pc' := 12) dX1_undo_9 rfl ?_
    refine ev_bipush (pc' := 14) (v := (-7)) dX1_undo_12 rfl (by decide) ?_
    refine ev_iret rfl dX1_undo_14 ?_
    exact ⟨rfl, isX.of hR⟩
  | some b =>
    have h1 := (T.par hc hb).1
    rw [hb] at hpa
    refine ev_aload_nE (pc' := 1) dX1_undo_0 rfl rfl (by first | exact rf_some _ | exact rfl) ?_
    refine gX1_currentNode rfl (pc' := 4) dX1_undo_1 rfl ?_
    refine gX0_parent rfl hr.1 hpa (pc' := 7) dX1_undo_4 rfl ?_
    show Ev g mdX1_undo 7 _ [.ref (hd b)] _ _
    refine ev_astore_nE (by first | exact rf_some _ | exact rfl) (pc' := 8) (lv' := [_, _]) dX1_undo_7 rfl (by decide) (by intro w hw; first | exact Or.inl rfl | (right; have hw := Option.some.inj (Option.some.inj hw); subst hw; first | rfl | exact rf_cat _) | cases hw) rfl ?_
    refine ev_aload_nE (pc' := 9) dX1_undo_8 rfl rfl (by first | exact rf_some _ | exact rfl) ?_
    refine ev_ifnonnullR (tgt := 15) dX1_undo_9 (by decide) ?_
    refine ev_aload_nE (pc' := 16) dX1_undo_15 rfl rfl (by first | exact rf_some _ | exact rfl) ?_
    refine ev_aload_nE (pc' := 17) dX1_undo_16 rfl rfl (by first | exact rf_some _ | exact rfl) ?_
    refine x_callV (As := [_]) coX1_makeCurrent rfl (c_makeCurrent T hR h1) rfl (by decide) (by first | exact Nat.le_of_ble_eq_true rfl | simp [Value.category, rf_cat]) dX1_undo_17 rfl (pc' := 20) rfl (fun v w hq => ?_)
    obtain ⟨rfl, xti', xfa', rfl, hR2⟩ := hq
    dsimp only [Option.toList, List.cons_append, List.nil_append]
    have hr2 := RX.row hR2 h1
    refine ev_aload_nE (pc' := 21) dX1_undo_20 rfl rfl (by first | exact rf_some _ | exact rfl) ?_
    refine gX0_number rfl hr2.1 hr2.2.2.2.1 (pc' := 24) dX1_undo_21 rfl ?_
    refine ev_iret rfl dX1_undo_24 ?_
    exact ⟨rfl, isX.of hR2⟩
theorem c_xredo (T : Tree S) (hR : RX S hd LN LT xt xar xnt xln xcu xck xcp xcl xmk xtl xnu xti xpa xfa xep xel xde xtc) (hc : scu S ∈ sL S) (hf : ∀ a ∈ sL S, ∀ c, sfa S a = some c → c ∈ sL S) : Ret g mdX1_redo [.ref xo] (wX g xo an ac am LN LT xt xar xnt xln xcu xck xcp xcl xmk xtl xnu xti xpa xfa xep xel xde xtc) (fun r w => r = some (.int (oRedo S).1) ∧ isX g xo an ac am LN LT xt (oRedo S).2 w) := by
  refine Ret.of [_, _] 1 (by decide) (Nat.le_of_ble_eq_true rfl) rfl ?_
  have hr := RX.row hR hc
  have e3 := hR.2.2.1
  subst e3
  have hpa := hr.2.2.2.2.2.2.1
  unfold oRedo
  cases hb : sfa S (scu S) with
  | none =>
    rw [hb] at hpa
    refine ev_aload_nE (pc' := 1) dX1_redo_0 rfl rfl (by first | exact rf_some _ | exact rfl) ?_
    refine gX1_currentNode rfl (pc' := 4) dX1_redo_1 rfl ?_
    refine gX0_favourite rfl hr.1 hpa (pc' := 7) dX1_redo_4 rfl ?_
    show Ev g mdX1_redo 7 _ [va_rf none] _ _
    refine ev_astore_nE (by first | exact rf_some _ | exact rfl) (pc' := 8) (lv' := [_, _]) dX1_redo_7 rfl (by decide) (by intro w hw; first | exact Or.inl rfl | (right; have hw := Option.some.inj (Option.some.inj hw); subst hw; first | rfl | exact rf_cat _) | cases hw) rfl ?_
    refine ev_aload_nE (pc' := 9) dX1_redo_8 rfl rfl (by first | exact rf_some _ | exact rfl) ?_
    refine ev_ifnonnullZ (pc' := 12) dX1_redo_9 rfl ?_
    refine ev_bipush (pc' := 14) (v := (-7)) dX1_redo_12 rfl (by decide) ?_
    refine ev_iret rfl dX1_redo_14 ?_
    exact ⟨rfl, isX.of hR⟩
  | some b =>
    have h1 := hf _ hc b hb
    rw [hb] at hpa
    refine ev_aload_nE (pc' := 1) dX1_redo_0 rfl rfl (by first | exact rf_some _ | exact rfl) ?_
    refine gX1_currentNode rfl (pc' := 4) dX1_redo_1 rfl ?_
    refine gX0_favourite rfl hr.1 hpa (pc' := 7) dX1_redo_4 rfl ?_
    show Ev g mdX1_redo 7 _ [.ref (hd b)] _ _
    refine ev_astore_nE (by first | exact rf_some _ | exact rfl) (pc' := 8) (lv' := [_, _]) dX1_redo_7 rfl (by decide) (by intro w hw; first | exact Or.inl rfl | (right; have hw := Option.some.inj (Option.some.inj hw); subst hw; first | rfl | exact rf_cat _) | cases hw) rfl ?_
    refine ev_aload_nE (pc' := 9) dX1_redo_8 rfl rfl (by first | exact rf_some _ | exact rfl) ?_
    refine ev_ifnonnullR (tgt := 15) dX1_redo_9 (by decide) ?_
    refine ev_aload_nE (pc' := 16) dX1_redo_15 rfl rfl (by first | exact rf_some _ | exact rfl) ?_
    refine ev_aload_nE (pc' := 17) dX1_redo_16 rfl rfl (by first | exact rf_some _ | exact rfl) ?_
    refine x_callV (As := [_]) coX1_makeCurrent rfl (c_makeCurrent T hR h1) rfl (by decide) (by first | exact Nat.le_of_ble_eq_true rfl | simp [Value.category, rf_cat]) dX1_redo_17 rfl (pc' := 20) rfl (fun v w hq => ?_)
    obtain ⟨rfl, xti', xfa', rfl, hR2⟩ := hq
    dsimp only [Option.toList, List.cons_append, List.nil_append]
    have hr2 := RX.row hR2 h1
    refine ev_aload_nE (pc' := 21) dX1_redo_20 rfl rfl (by first | exact rf_some _ | exact rfl) ?_
    refine gX0_number rfl hr2.1 hr2.2.2.2.1 (pc' := 24) dX1_redo_21 rfl ?_
    refine ev_iret rfl dX1_redo_24 ?_
    exact ⟨rfl, isX.of hR2⟩
theorem c_xjump (T : Tree S) (hR : RX S hd LN LT xt xar xnt xln xcu xck xcp xcl xmk xtl xnu xti xpa xfa xep xel xde xtc) (hc : scu S ∈ sL S) (x : Int32) : Ret g mdX1_jump [.ref xo, .int x] (wX g xo an ac am LN LT xt xar xnt xln xcu xck xcp xcl xmk xtl xnu xti xpa xfa xep xel xde xtc) (fun r w => r = some (.int (oJump S x).1) ∧ isX g xo an ac am LN LT xt (oJump S x).2 w) := by
  refine Ret.of [_, _, _, _] 2 (by decide) (Nat.le_of_ble_eq_true rfl) rfl ?_
  have e3 := hR.2.2.1
  subst e3
  unfold oJump
  refine ev_aload_nE (pc' := 1) dX1_jump_0 rfl rfl (by first | exact rf_some _ | exact rfl) ?_
  refine ev_iload_n (pc' := 2) dX1_jump_1 rfl rfl ?_
  refine x_callV (As := [_]) coX1_find rfl (c_find T hR x) rfl (by decide) (by first | exact Nat.le_of_ble_eq_true rfl | simp [Value.category, rf_cat]) dX1_jump_2 rfl (pc' := 5) rfl (fun v w hq => ?_)
  obtain ⟨rfl, rfl⟩ := hq
  dsimp only [Option.toList, List.cons_append, List.nil_append]
  cases hl : lk S x with
  | none =>
    show Ev g mdX1_jump 5 _ [va_rf none] _ _
    refine ev_astore_nE (by first | exact rf_some _ | exact rfl) (pc' := 6) (lv' := [_, _, _, _]) dX1_jump_5 rfl (by decide) (by intro w hw; first | exact Or.inl rfl | (right; have hw := Option.some.inj (Option.some.inj hw); subst hw; first | rfl | exact rf_cat _) | cases hw) rfl ?_
    refine ev_aload_nE (pc' := 7) dX1_jump_6 rfl rfl (by first | exact rf_some _ | exact rfl) ?_
    refine ev_ifnonnullZ (pc' := 10) dX1_jump_7 rfl ?_
    refine ev_bipush (pc' := 12) (v := (-2)) dX1_jump_10 rfl (by decide) ?_
    refine ev_iret rfl dX1_jump_12 ?_
    exact ⟨rfl, isX.of hR⟩
  | some a =>
    have ha := (lk_some hl).1
    show Ev g mdX1_jump 5 _ [.ref (hd a)] _ _
    refine ev_astore_nE (by first | exact rf_some _ | exact rfl) (pc' := 6) (lv' := [_, _, _, _]) dX1_jump_5 rfl (by decide) (by intro w hw; first | exact Or.inl rfl | (right; have hw := Option.some.inj (Option.some.inj hw); subst hw; first | rfl | exact rf_cat _) | cases hw) rfl ?_
    refine ev_aload_nE (pc' := 7) dX1_jump_6 rfl rfl (by first | exact rf_some _ | exact rfl) ?_
    refine ev_ifnonnullR (tgt := 13) dX1_jump_7 (by decide) ?_
    refine ev_aload_nE (pc' := 14) dX1_jump_13 rfl rfl (by first | exact rf_some _ | exact rfl) ?_
    refine gX1_currentNode rfl (pc' := 17) dX1_jump_14 rfl ?_
    refine ev_aload_nE (pc' := 18) dX1_jump_17 rfl rfl (by first | exact rf_some _ | exact rfl) ?_
    refine ev_callS (As := [_, _]) coX1_stepsBetween (c_steps T hR hc ha) rfl (by decide) (by first | exact Nat.le_of_ble_eq_true rfl | simp [Value.category, rf_cat]) dX1_jump_18 rfl (pc' := 21) rfl (fun v w hq => ?_)
    obtain ⟨rfl, rfl⟩ := hq
    dsimp only [Option.toList, List.cons_append, List.nil_append]
    refine ev_istore_n (pc' := 22) (lv' := [_, _, _, _]) dX1_jump_21 rfl (by decide) (by intro w hw; first | exact Or.inl rfl | (right; have hw := Option.some.inj (Option.some.inj hw); subst hw; first | rfl | exact rf_cat _) | cases hw) rfl ?_
    refine ev_aload_nE (pc' := 23) dX1_jump_22 rfl rfl (by first | exact rf_some _ | exact rfl) ?_
    refine ev_aload_nE (pc' := 24) dX1_jump_23 rfl rfl (by first | exact rf_some _ | exact rfl) ?_
    refine x_callV (As := [_]) coX1_makeCurrent rfl (c_makeCurrent T hR ha) rfl (by decide) (by first | exact Nat.le_of_ble_eq_true rfl | simp [Value.category, rf_cat]) dX1_jump_24 rfl (pc' := 27) rfl (fun v w hq => ?_)
    obtain ⟨rfl, xti', xfa', rfl, hR2⟩ := hq
    dsimp only [Option.toList, List.cons_append, List.nil_append]
    refine ev_iload_n (pc' := 28) dX1_jump_27 rfl rfl ?_
    refine ev_iret rfl dX1_jump_28 ?_
    exact ⟨rfl, isX.of hR2⟩
theorem RX.setMk (hR : RX S hd LN LT xt xar xnt xln xcu xck xcp xcl xmk xtl xnu xti xpa xfa xep xel xde xtc) {j : Nat} (v : Option Nat) : RX (setMk S (va_up (smk S) j v)) hd LN LT xt xar xnt xln xcu xck xcp xcl (va_up xmk j (v.map hd)) xtl xnu xti xpa xfa xep xel xde xtc := by
  refine ⟨hR.1, hR.2.1, hR.2.2.1, hR.2.2.2.1, hR.2.2.2.2.1, hR.2.2.2.2.2.1, hR.2.2.2.2.2.2.1, fun i hi => ?_, hR.2.2.2.2.2.2.2.2⟩
  show va_up xmk j (v.map hd) i = (va_up (smk S) j v i).map hd
  by_cases q : i = j
  · rw [q, va_up_self, va_up_self]
  · rw [va_up_ne _ _ q, va_up_ne _ _ q]; exact RX.mk hR hi
theorem c_xsetMark (T : Tree S) (hR : RX S hd LN LT xt xar xnt xln xcu xck xcp xcl xmk xtl xnu xti xpa xfa xep xel xde xtc) (hm : ∀ i, i < 5 → ∀ b, smk S i = some b → b ∈ sL S) (m x : Int32) : Ret g mdX1_setMark [.ref xo, .int m, .int x] (wX g xo an ac am LN LT xt xar xnt xln xcu xck xcp xcl xmk xtl xnu xti xpa xfa xep xel xde xtc) (fun r w => r = some (.int (oSetM S m x).1) ∧ isX g xo an ac am LN LT xt (oSetM S m x).2 w) := by
  refine Ret.of [_, _, _, _] 1 (by decide) (Nat.le_of_ble_eq_true rfl) rfl ?_
  refine ev_iload_n (pc' := 1) dX1_setMark_0 rfl rfl ?_
  refine ev_callS (As := [_]) coX1_isMark (c_xisMark _ _) rfl (by decide) (by first | exact Nat.le_of_ble_eq_true rfl | simp [Value.category, rf_cat]) dX1_setMark_1 rfl (pc' := 4) rfl (fun v w hq => ?_)
  obtain ⟨rfl, rfl⟩ := hq
  dsimp only [Option.toList, List.cons_append, List.nil_append]
  refine ev_if_ne (tgt := 9) (pc' := 7) dX1_setMark_4 (by decide) rfl (fun h4 => ?_) (fun h4 => ?_)
  · rw [bI_ne] at h4
    unfold oSetM
    rw [if_pos h4]
    obtain ⟨j, hj, rfl⟩ := isMk_of h4
    rw [nI_clamp (by omega)]
    refine ev_aload_nE (pc' := 10) dX1_setMark_9 rfl rfl (by first | exact rf_some _ | exact rfl) ?_
    refine ev_iload_n (pc' := 11) dX1_setMark_10 rfl rfl ?_
    refine x_callV (As := [_]) coX1_find rfl (c_find T hR x) rfl (by decide) (by first | exact Nat.le_of_ble_eq_true rfl | simp [Value.category, rf_cat]) dX1_setMark_11 rfl (pc' := 14) rfl (fun v w hq => ?_)
    obtain ⟨rfl, rfl⟩ := hq
    dsimp only [Option.toList, List.cons_append, List.nil_append]
    cases hl : lk S x with
    | none =>
      show Ev g mdX1_setMark 14 _ [va_rf none] _ _
      refine ev_astore_nE (by first | exact rf_some _ | exact rfl) (pc' := 15) (lv' := [_, _, _, _]) dX1_setMark_14 rfl (by decide) (by intro w hw; first | exact Or.inl rfl | (right; have hw := Option.some.inj (Option.some.inj hw); subst hw; first | rfl | exact rf_cat _) | cases hw) rfl ?_
      refine ev_aload_nE (pc' := 16) dX1_setMark_15 rfl rfl (by first | exact rf_some _ | exact rfl) ?_
      refine ev_ifnonnullZ (pc' := 19) dX1_setMark_16 rfl ?_
      refine ev_bipush (pc' := 21) (v := (-2)) dX1_setMark_19 rfl (by decide) ?_
      refine ev_iret rfl dX1_setMark_21 ?_
      exact ⟨rfl, isX.of hR⟩
    | some a =>
      have ha := (lk_some hl).1
      have hr := RX.row hR ha
      have hR2 := RX.setMk hR (j := j) (some a)
      have hm2 : ∀ i, i < 5 → ∀ b, smk (setMk S (va_up (smk S) j (some a))) i = some b → b ∈ sL S := fun i hi b hb => by
        by_cases q : i = j
        · rw [q] at hb
          rw [show smk (setMk S (va_up (smk S) j (some a))) j = some a from va_up_self _ _ _] at hb
          cases hb; exact ha
        · rw [show smk (setMk S (va_up (smk S) j (some a))) i = smk S i from va_up_ne _ _ q] at hb
          exact hm i hi b hb
      show Ev g mdX1_setMark 14 _ [.ref (hd a)] _ _
      refine ev_astore_nE (by first | exact rf_some _ | exact rfl) (pc' := 15) (lv' := [_, _, _, _]) dX1_setMark_14 rfl (by decide) (by intro w hw; first | exact Or.inl rfl | (right; have hw := Option.some.inj (Option.some.inj hw); subst hw; first | rfl | exact rf_cat _) | cases hw) rfl ?_
      refine ev_aload_nE (pc' := 16) dX1_setMark_15 rfl rfl (by first | exact rf_some _ | exact rfl) ?_
      refine ev_ifnonnullR (tgt := 22) dX1_setMark_16 (by decide) ?_
      refine ev_aload_nE (pc' := 23) dX1_setMark_22 rfl rfl (by first | exact rf_some _ | exact rfl) ?_
      refine gX1_marks rfl (pc' := 26) dX1_setMark_23 rfl ?_
      refine ev_iload_n (pc' := 27) dX1_setMark_26 rfl rfl ?_
      refine ev_aload_nE (pc' := 28) dX1_setMark_27 rfl rfl (by first | exact rf_some _ | exact rfl) ?_
      refine x_marks_put (by omega) hr.1 (pc' := 29) dX1_setMark_28 rfl ?_
      refine ev_aload_nE (pc' := 30) dX1_setMark_29 rfl rfl (by first | exact rf_some _ | exact rfl) ?_
      refine ev_aload_nE (pc' := 31) dX1_setMark_30 rfl rfl (by first | exact rf_some _ | exact rfl) ?_
      refine x_callV (As := [_]) coX1_marksOn rfl (c_xmarksOn hR2 hm2 ha) rfl (by decide) (by first | exact Nat.le_of_ble_eq_true rfl | simp [Value.category, rf_cat]) dX1_setMark_31 rfl (pc' := 34) rfl (fun v w hq => ?_)
      obtain ⟨rfl, rfl⟩ := hq
      dsimp only [Option.toList, List.cons_append, List.nil_append]
      refine ev_iret rfl dX1_setMark_34 ?_
      exact ⟨rfl, isX.of hR2⟩
  · rw [bI_eq] at h4
    refine ev_iconst (pc' := 8) (v := (-1)) dX1_setMark_7 rfl (by decide) ?_
    refine ev_iret rfl dX1_setMark_8 ?_
    unfold oSetM
    rw [h4]
    exact ⟨rfl, isX.of hR⟩
theorem c_xclearMark (hR : RX S hd LN LT xt xar xnt xln xcu xck xcp xcl xmk xtl xnu xti xpa xfa xep xel xde xtc) (hm : ∀ i, i < 5 → ∀ b, smk S i = some b → b ∈ sL S) (m : Int32) : Ret g mdX1_clearMark [.ref xo, .int m] (wX g xo an ac am LN LT xt xar xnt xln xcu xck xcp xcl xmk xtl xnu xti xpa xfa xep xel xde xtc) (fun r w => r = some (.int (oClrM S m).1) ∧ isX g xo an ac am LN LT xt (oClrM S m).2 w) := by
  refine Ret.of [_, _, _] 1 (by decide) (Nat.le_of_ble_eq_true rfl) rfl ?_
  refine ev_iload_n (pc' := 1) dX1_clearMark_0 rfl rfl ?_
  refine ev_callS (As := [_]) coX1_isMark (c_xisMark _ _) rfl (by decide) (by first | exact Nat.le_of_ble_eq_true rfl | simp [Value.category, rf_cat]) dX1_clearMark_1 rfl (pc' := 4) rfl (fun v w hq => ?_)
  obtain ⟨rfl, rfl⟩ := hq
  dsimp only [Option.toList, List.cons_append, List.nil_append]
  refine ev_if_ne (tgt := 9) (pc' := 7) dX1_clearMark_4 (by decide) rfl (fun h4 => ?_) (fun h4 => ?_)
  · rw [bI_ne] at h4
    unfold oClrM
    rw [if_pos h4]
    obtain ⟨j, hj, rfl⟩ := isMk_of h4
    rw [nI_clamp (by omega)]
    refine ev_aload_nE (pc' := 10) dX1_clearMark_9 rfl rfl (by first | exact rf_some _ | exact rfl) ?_
    refine gX1_marks rfl (pc' := 13) dX1_clearMark_10 rfl ?_
    refine ev_iload_n (pc' := 14) dX1_clearMark_13 rfl rfl ?_
    refine x_marks_get (by omega) (RX.mk hR hj) (pc' := 15) dX1_clearMark_14 rfl ?_
    refine ev_callS (As := [_]) coX1_numberOrNone (c_non hR (smk S j) (hm j hj)) rfl (by decide) (by first | exact Nat.le_of_ble_eq_true rfl | simp [Value.category, rf_cat]) dX1_clearMark_15 rfl (pc' := 18) rfl (fun v w hq => ?_)
    obtain ⟨rfl, rfl⟩ := hq
    dsimp only [Option.toList, List.cons_append, List.nil_append]
    refine ev_istore_n (pc' := 19) (lv' := [_, _, _]) dX1_clearMark_18 rfl (by decide) (by intro w hw; first | exact Or.inl rfl | (right; have hw := Option.some.inj (Option.some.inj hw); subst hw; first | rfl | exact rf_cat _) | cases hw) rfl ?_
    refine ev_aload_nE (pc' := 20) dX1_clearMark_19 rfl rfl (by first | exact rf_some _ | exact rfl) ?_
    refine gX1_marks rfl (pc' := 23) dX1_clearMark_20 rfl ?_
    refine ev_iload_n (pc' := 24) dX1_clearMark_23 rfl rfl ?_
    refine ev_null (pc' := 25) dX1_clearMark_24 rfl ?_
    refine x_marks_nul (by omega) (pc' := 26) dX1_clearMark_25 rfl ?_
    refine ev_iload_n (pc' := 27) dX1_clearMark_26 rfl rfl ?_
    refine ev_iret rfl dX1_clearMark_27 ?_
    exact ⟨rfl, isX.of (RX.setMk hR (j := j) none)⟩
  · rw [bI_eq] at h4
    refine ev_iconst (pc' := 8) (v := (-1)) dX1_clearMark_7 rfl (by decide) ?_
    refine ev_iret rfl dX1_clearMark_8 ?_
    unfold oClrM
    rw [h4]
    exact ⟨rfl, isX.of hR⟩
theorem c_xgoToMark (T : Tree S) (hR : RX S hd LN LT xt xar xnt xln xcu xck xcp xcl xmk xtl xnu xti xpa xfa xep xel xde xtc) (hm : ∀ i, i < 5 → ∀ b, smk S i = some b → b ∈ sL S) (m : Int32) : Ret g mdX1_goToMark [.ref xo, .int m] (wX g xo an ac am LN LT xt xar xnt xln xcu xck xcp xcl xmk xtl xnu xti xpa xfa xep xel xde xtc) (fun r w => r = some (.int (oGoM S m).1) ∧ isX g xo an ac am LN LT xt (oGoM S m).2 w) := by
  refine Ret.of [_, _, _] 1 (by decide) (Nat.le_of_ble_eq_true rfl) rfl ?_
  refine ev_iload_n (pc' := 1) dX1_goToMark_0 rfl rfl ?_
  refine ev_callS (As := [_]) coX1_isMark (c_xisMark _ _) rfl (by decide) (by first | exact Nat.le_of_ble_eq_true rfl | simp [Value.category, rf_cat]) dX1_goToMark_1 rfl (pc' := 4) rfl (fun v w hq => ?_)
  obtain ⟨rfl, rfl⟩ := hq
  dsimp only [Option.toList, List.cons_append, List.nil_append]
  refine ev_if_ne (tgt := 9) (pc' := 7) dX1_goToMark_4 (by decide) rfl (fun h4 => ?_) (fun h4 => ?_)
  · rw [bI_ne] at h4
    unfold oGoM
    rw [if_pos h4]
    obtain ⟨j, hj, rfl⟩ := isMk_of h4
    rw [nI_clamp (by omega)]
    have hrow := RX.mk hR hj
    cases hb : smk S j with
    | none =>
      rw [hb] at hrow
      refine ev_aload_nE (pc' := 10) dX1_goToMark_9 rfl rfl (by first | exact rf_some _ | exact rfl) ?_
      refine gX1_marks rfl (pc' := 13) dX1_goToMark_10 rfl ?_
      refine ev_iload_n (pc' := 14) dX1_goToMark_13 rfl rfl ?_
      refine x_marks_get (by omega) hrow (pc' := 15) dX1_goToMark_14 rfl ?_
      show Ev g mdX1_goToMark 15 _ [va_rf none] _ _
      refine ev_astore_nE (by first | exact rf_some _ | exact rfl) (pc' := 16) (lv' := [_, _, _]) dX1_goToMark_15 rfl (by decide) (by intro w hw; first | exact Or.inl rfl | (right; have hw := Option.some.inj (Option.some.inj hw); subst hw; first | rfl | exact rf_cat _) | cases hw) rfl ?_
      refine ev_aload_nE (pc' := 17) dX1_goToMark_16 rfl rfl (by first | exact rf_some _ | exact rfl) ?_
      refine ev_ifnonnullZ (pc' := 20) dX1_goToMark_17 rfl ?_
      refine ev_bipush (pc' := 22) (v := (-7)) dX1_goToMark_20 rfl (by decide) ?_
      refine ev_iret rfl dX1_goToMark_22 ?_
      exact ⟨rfl, isX.of hR⟩
    | some b =>
      rw [hb] at hrow
      have h1 := hm j hj b hb
      refine ev_aload_nE (pc' := 10) dX1_goToMark_9 rfl rfl (by first | exact rf_some _ | exact rfl) ?_
      refine gX1_marks rfl (pc' := 13) dX1_goToMark_10 rfl ?_
      refine ev_iload_n (pc' := 14) dX1_goToMark_13 rfl rfl ?_
      refine x_marks_get (by omega) hrow (pc' := 15) dX1_goToMark_14 rfl ?_
      show Ev g mdX1_goToMark 15 _ [.ref (hd b)] _ _
      refine ev_astore_nE (by first | exact rf_some _ | exact rfl) (pc' := 16) (lv' := [_, _, _]) dX1_goToMark_15 rfl (by decide) (by intro w hw; first | exact Or.inl rfl | (right; have hw := Option.some.inj (Option.some.inj hw); subst hw; first | rfl | exact rf_cat _) | cases hw) rfl ?_
      refine ev_aload_nE (pc' := 17) dX1_goToMark_16 rfl rfl (by first | exact rf_some _ | exact rfl) ?_
      refine ev_ifnonnullR (tgt := 23) dX1_goToMark_17 (by decide) ?_
      refine ev_aload_nE (pc' := 24) dX1_goToMark_23 rfl rfl (by first | exact rf_some _ | exact rfl) ?_
      refine ev_aload_nE (pc' := 25) dX1_goToMark_24 rfl rfl (by first | exact rf_some _ | exact rfl) ?_
      refine x_callV (As := [_]) coX1_makeCurrent rfl (c_makeCurrent T hR h1) rfl (by decide) (by first | exact Nat.le_of_ble_eq_true rfl | simp [Value.category, rf_cat]) dX1_goToMark_25 rfl (pc' := 28) rfl (fun v w hq => ?_)
      obtain ⟨rfl, xti', xfa', rfl, hR2⟩ := hq
      dsimp only [Option.toList, List.cons_append, List.nil_append]
      have hr2 := RX.row hR2 h1
      refine ev_aload_nE (pc' := 29) dX1_goToMark_28 rfl rfl (by first | exact rf_some _ | exact rfl) ?_
      refine gX0_number rfl hr2.1 hr2.2.2.2.1 (pc' := 32) dX1_goToMark_29 rfl ?_
      refine ev_iret rfl dX1_goToMark_32 ?_
      exact ⟨rfl, isX.of hR2⟩
  · rw [bI_eq] at h4
    refine ev_iconst (pc' := 8) (v := (-1)) dX1_goToMark_7 rfl (by decide) ?_
    refine ev_iret rfl dX1_goToMark_8 ?_
    unfold oGoM
    rw [h4]
    exact ⟨rfl, isX.of hR⟩
end X5
end
section
/-! ===== the landed class: a new node ===== -/
section X6
variable {g : EG} {xo an ac am : Nat} {LN LT : List Nat} {xt : Nat → Nat} {xar : Nat → Option Nat} {xnt xln : Int32} {xcu : Nat} {xck : Int32} {xcp : Nat → Int32} {xcl : Int32} {xmk : Nat → Option Nat} {xtl xnu xti : Nat → Int32} {xpa xfa : Nat → Option Nat} {xep xel xde : Nat → Int32} {xtc : Nat → Nat → Int32}
variable {S : SS} {hd : Nat → Nat} {N : Nat} {Ph : Option Value → va_W → Prop}
theorem c_addChild {k q : Nat} (hk : k < 24) (hq : q ∈ LN) (ha : xar k = some q) (P L : Int32) : Ret g mdX1_addChild [.ref xo, .int P, .int L] (wX g xo an ac am LN LT xt xar (nI k) xln xcu xck xcp xcl xmk xtl xnu xti xpa xfa xep xel xde xtc) (fun r w => r = some (.ref q) ∧ w = (wX g xo an ac am LN LT xt xar (nI (k + 1)) (xln + nI 1) xcu xck xcp xcl xmk xtl (va_up xnu q (xln + nI 1)) xti (va_up xpa q (some xcu)) (va_up xfa q none) (va_up xep q P) (va_up xel q L) xde xtc)) := by
  refine Ret.of [_, _, _, _] 1 (by decide) (Nat.le_of_ble_eq_true rfl) rfl ?_
  refine ev_aload_nE (pc' := 1) dX1_addChild_0 rfl rfl (by first | exact rf_some _ | exact rfl) ?_
  refine gX1_nodes rfl (pc' := 4) dX1_addChild_1 rfl ?_
  refine ev_aload_nE (pc' := 5) dX1_addChild_4 rfl rfl (by first | exact rf_some _ | exact rfl) ?_
  refine gX1_nodeTotal rfl (pc' := 8) dX1_addChild_5 rfl ?_
  refine x_nodes_get (by omega) ha (pc' := 9) dX1_addChild_8 rfl ?_
  show Ev g mdX1_addChild 9 _ [.ref q] _ _
  refine ev_astore_nE (by first | exact rf_some _ | exact rfl) (pc' := 10) (lv' := [_, _, _, _]) dX1_addChild_9 rfl (by decide) (by intro w hw; first | exact Or.inl rfl | (right; have hw := Option.some.inj (Option.some.inj hw); subst hw; first | rfl | exact rf_cat _) | cases hw) rfl ?_
  refine ev_aload_nE (pc' := 11) dX1_addChild_10 rfl rfl (by first | exact rf_some _ | exact rfl) ?_
  refine ev_dup (pc' := 12) dX1_addChild_11 rfl (by first | rfl | exact rf_cat _) ?_
  refine gX1_nodeTotal rfl (pc' := 15) dX1_addChild_12 rfl ?_
  refine ev_iconst (pc' := 16) (v := nI 1) dX1_addChild_15 rfl (by decide) ?_
  refine ev_iaddN  (pc' := 17) dX1_addChild_16 rfl ?_
  refine pX1_nodeTotal rfl (pc' := 20) dX1_addChild_17 rfl ?_
  refine ev_aload_nE (pc' := 21) dX1_addChild_20 rfl rfl (by first | exact rf_some _ | exact rfl) ?_
  refine ev_dup (pc' := 22) dX1_addChild_21 rfl (by first | rfl | exact rf_cat _) ?_
  refine gX1_lastNumber rfl (pc' := 25) dX1_addChild_22 rfl ?_
  refine ev_iconst (pc' := 26) (v := nI 1) dX1_addChild_25 rfl (by decide) ?_
  refine ev_iadd (pc' := 27) dX1_addChild_26 rfl ?_
  refine pX1_lastNumber rfl (pc' := 30) dX1_addChild_27 rfl ?_
  refine ev_aload_nE (pc' := 31) dX1_addChild_30 rfl rfl (by first | exact rf_some _ | exact rfl) ?_
  refine ev_aload_nE (pc' := 32) dX1_addChild_31 rfl rfl (by first | exact rf_some _ | exact rfl) ?_
  refine gX1_lastNumber rfl (pc' := 35) dX1_addChild_32 rfl ?_
  refine pX0_number rfl (by assumption) (pc' := 38) dX1_addChild_35 rfl ?_
  refine ev_aload_nE (pc' := 39) dX1_addChild_38 rfl rfl (by first | exact rf_some _ | exact rfl) ?_
  refine ev_aload_nE (pc' := 40) dX1_addChild_39 rfl rfl (by first | exact rf_some _ | exact rfl) ?_
  refine gX1_currentNode rfl (pc' := 43) dX1_addChild_40 rfl ?_
  refine pX0_parentE (by first | exact rf_some _ | exact rfl) rfl (by assumption) (pc' := 46) dX1_addChild_43 rfl ?_
  refine ev_aload_nE (pc' := 47) dX1_addChild_46 rfl rfl (by first | exact rf_some _ | exact rfl) ?_
  refine ev_null (pc' := 48) dX1_addChild_47 rfl ?_
  refine pX0_favouriteE (by first | exact rf_some _ | exact rfl) rfl (by assumption) (pc' := 51) dX1_addChild_48 rfl ?_
  refine ev_aload_nE (pc' := 52) dX1_addChild_51 rfl rfl (by first | exact rf_some _ | exact rfl) ?_
  refine ev_iload_n (pc' := 53) dX1_addChild_52 rfl rfl ?_
  refine pX0_editPosition rfl (by assumption) (pc' := 56) dX1_addChild_53 rfl ?_
  refine ev_aload_nE (pc' := 57) dX1_addChild_56 rfl rfl (by first | exact rf_some _ | exact rfl) ?_
  refine ev_iload_n (pc' := 58) dX1_addChild_57 rfl rfl ?_
  refine pX0_editLength rfl (by assumption) (pc' := 61) dX1_addChild_58 rfl ?_
  refine ev_aload_nE (pc' := 62) dX1_addChild_61 rfl rfl (by first | exact rf_some _ | exact rfl) ?_
  refine ev_aretE (nm := "EditTree$Node") (by first | exact rf_some _ | exact rfl) rfl dX1_addChild_62 ?_
  exact ⟨rfl, rfl⟩
theorem RX.addN (I : Inv N S) (hR : RX S hd LN LT xt xar xnt xln xcu xck xcp xcl xmk xtl xnu xti xpa xfa xep xel xde xtc) {p n t q : Nat} {d : Bool} {s : Nat → Int32} {xtc' : Nat → Nat → Int32} (hq : q ∈ LN) (hqa : xar (sL S).length = some q) (hqn : ∀ a ∈ sL S, hd a ≠ q) (h0 : nI t = xti q) (ht1 : ∀ z, z ≠ xt q → xtc' z = xtc z) (ht2 : ∀ i, i < nTl (stl S (scu S)) n d → xtc' (xt q) i = nTx (stx S (scu S)) p n d s i) :
    RX (addN S p n d s t) (va_up hd (sgv S) q) LN LT xt xar (nI ((sL S).length + 1)) (nI (sgv S)) xcu xck xcp xcl xmk (va_up xtl q (nI (nTl (stl S (scu S)) n d))) (va_up xnu q (nI (sgv S))) xti (va_up xpa q (some xcu)) (va_up xfa q none) (va_up xep q (nI p)) (va_up xel q (nI n)) (va_up xde q (bI d)) (xtc') := by
  have T := I.T
  have hv := sgv_notin T
  have hne : ∀ a ∈ sL S, a ≠ sgv S := fun a ha e => hv (e ▸ ha)
  have hdo : ∀ a ∈ sL S, va_up hd (sgv S) q a = hd a := fun a ha => va_up_ne _ _ (hne a ha)
  have hdm : ∀ o : Option Nat, (∀ a, o = some a → a ∈ sL S) → o.map (va_up hd (sgv S) q) = o.map hd := fun o ho => by
    cases o with
    | none => rfl
    | some a => show some _ = some _; rw [hdo a (ho a rfl)]
  refine ⟨?_, ?_, ?_, hR.2.2.2.1, hR.2.2.2.2.1, fun a ha => ?_, hR.2.2.2.2.2.2.1, fun i hi => ?_, fun a ha b hb e => ?_, fun k h1 h2 => ?_, fun j k h1 h2 h3 => ?_, hR.2.2.2.2.2.2.2.2.2.2.2⟩
  · show nI ((sL S).length + 1) = nI (sL S ++ [sgv S]).length
    simp
  · exact nI_add _ _
  · show xcu = va_up hd (sgv S) q (scu S)
    rw [hdo _ I.cu]; exact hR.2.2.1
  · rcases List.mem_append.mp (show a ∈ sL S ++ [sgv S] from ha) with h | h
    · have h1 := hne a h
      have hr := RX.row hR h
      have hq' := hqn a h
      unfold rowX
      rw [hdo a h, addN_ix h]
      refine ⟨hr.1, hr.2.1, ?_, ?_, ?_, ?_, ?_, ?_, ?_, ?_, fun i hi => ?_⟩
      · show va_up xtl q _ (hd a) = nI (va_up (stl S) (sgv S) _ a)
        rw [va_up_ne _ _ hq', va_up_ne _ _ h1]; exact hr.2.2.1
      · rw [va_up_ne _ _ hq']; exact hr.2.2.2.1
      · show xti (hd a) = nI (va_up (sti S) (sgv S) t a)
        rw [va_up_ne _ _ h1]; exact hr.2.2.2.2.1
      · show va_up xpa q _ (hd a) = (va_up (spa S) (sgv S) (some (scu S)) a).map (va_up hd (sgv S) q)
        rw [va_up_ne _ _ hq', va_up_ne _ _ h1, hdm _ (fun b hb => (T.par h hb).1)]; exact hr.2.2.2.2.2.1
      · show va_up xfa q _ (hd a) = (va_up (sfa S) (sgv S) none a).map (va_up hd (sgv S) q)
        rw [va_up_ne _ _ hq', va_up_ne _ _ h1, hdm _ (fun b hb => (I.fa h hb).1)]; exact hr.2.2.2.2.2.2.1
      · show va_up xep q _ (hd a) = nI (va_up (spo S) (sgv S) p a)
        rw [va_up_ne _ _ hq', va_up_ne _ _ h1]; exact hr.2.2.2.2.2.2.2.1
      · show va_up xel q _ (hd a) = nI (va_up (sle S) (sgv S) n a)
        rw [va_up_ne _ _ hq', va_up_ne _ _ h1]; exact hr.2.2.2.2.2.2.2.2.1
      · show va_up xde q _ (hd a) = bI (va_up (sde S) (sgv S) d a)
        rw [va_up_ne _ _ hq', va_up_ne _ _ h1]; exact hr.2.2.2.2.2.2.2.2.2.1
      · have hi : i < va_up (stl S) (sgv S) (nTl (stl S (scu S)) n d) a := hi
        rw [va_up_ne _ _ h1] at hi
        show xtc' (xt (hd a)) i = va_up (stx S) (sgv S) _ a i
        rw [va_up_ne _ _ h1, ht1 _ (fun e => hq' (RX.tinj hR hr.1 hq e))]; exact hr.2.2.2.2.2.2.2.2.2.2 i hi
    · have h1 := List.mem_singleton.mp h
      subst h1
      unfold rowX
      rw [va_up_self, addN_ixn T]
      refine ⟨hq, hqa, ?_, va_up_self _ _ _, ?_, ?_, ?_, ?_, ?_, ?_, fun i hi => ?_⟩
      · show _ = nI (va_up (stl S) (sgv S) _ (sgv S))
        rw [va_up_self, va_up_self]
      · show _ = nI (va_up (sti S) (sgv S) t (sgv S))
        rw [va_up_self]; exact h0.symm
      · show _ = (va_up (spa S) (sgv S) (some (scu S)) (sgv S)).map (va_up hd (sgv S) q)
        rw [va_up_self, va_up_self]
        show _ = some (va_up hd (sgv S) q (scu S))
        rw [hdo _ I.cu, hR.2.2.1]
      · show _ = (va_up (sfa S) (sgv S) none (sgv S)).map (va_up hd (sgv S) q)
        rw [va_up_self, va_up_self]; rfl
      · show _ = nI (va_up (spo S) (sgv S) p (sgv S))
        rw [va_up_self, va_up_self]
      · show _ = nI (va_up (sle S) (sgv S) n (sgv S))
        rw [va_up_self, va_up_self]
      · show _ = bI (va_up (sde S) (sgv S) d (sgv S))
        rw [va_up_self, va_up_self]
      · have hi : i < va_up (stl S) (sgv S) (nTl (stl S (scu S)) n d) (sgv S) := hi
        rw [va_up_self] at hi
        show _ = va_up (stx S) (sgv S) _ (sgv S) i
        rw [va_up_self]; exact ht2 i hi
  · show xmk i = (smk S i).map (va_up hd (sgv S) q)
    rw [hdm _ (fun a ha => I.mk hi ha)]; exact RX.mk hR hi
  · rcases List.mem_append.mp (show a ∈ sL S ++ [sgv S] from ha) with h | h <;> rcases List.mem_append.mp (show b ∈ sL S ++ [sgv S] from hb) with h' | h'
    · rw [hdo a h, hdo b h'] at e; exact RX.inj hR h h' e
    · rw [List.mem_singleton.mp h', hdo a h, va_up_self] at e; exact absurd e (hqn a h)
    · rw [List.mem_singleton.mp h, hdo b h', va_up_self] at e; exact absurd e.symm (hqn b h')
    · rw [List.mem_singleton.mp h, List.mem_singleton.mp h']
  · have h1 : (sL S ++ [sgv S]).length ≤ k := h1
    rw [List.length_append, List.length_singleton] at h1
    obtain ⟨q', e1, e2, e3⟩ := hR.2.2.2.2.2.2.2.2.2.1 k (by omega) h2
    refine ⟨q', e1, e2, fun a ha e => ?_⟩
    rcases List.mem_append.mp (show a ∈ sL S ++ [sgv S] from ha) with h | h
    · rw [hdo a h] at e; exact e3 a h e
    · rw [List.mem_singleton.mp h, va_up_self] at e
      exact hR.2.2.2.2.2.2.2.2.2.2.1 (sL S).length k (Nat.le_refl _) (by omega) h2 (by rw [hqa, e1, e])
  · have h1 : (sL S ++ [sgv S]).length ≤ j := h1
    rw [List.length_append, List.length_singleton] at h1
    exact hR.2.2.2.2.2.2.2.2.2.2.1 j k (by omega) h2 h3
theorem cpy_lo {f h : Nat → Int32} {sp dp n i : Nat} (hi : i < dp) : va_cpy f h sp dp n i = h i := pk_cpy_out (Or.inl hi)
theorem cpy_hi {f h : Nat → Int32} {sp dp n i : Nat} (hi : dp + n ≤ i) : va_cpy f h sp dp n i = h i := pk_cpy_out (Or.inr hi)
theorem cpy_in {f h : Nat → Int32} {sp dp n i : Nat} (h1 : dp ≤ i) (h2 : i < dp + n) : va_cpy f h sp dp n i = f (sp + (i - dp)) := pk_cpy_in h1 h2
theorem c_addInsertion (I : Inv N S) (hg : sgv S < 600) (hl : (sL S).length < 24) (hR : RX S hd LN LT xt xar xnt xln xcu xck xcp xcl xmk xtl xnu xti xpa xfa xep xel xde xtc) {p n fr n0 src : Nat} {s f : Nat → Int32} (hn1 : 1 ≤ n) (hn : n ≤ 6) (hp : p ≤ stl S (scu S)) (h40 : stl S (scu S) + n ≤ 40) (hfr : fr + n ≤ n0) (hn0 : n0 ≤ 40) (hs : ∀ i, i < n → f (fr + i) = s i) (hch : ∀ i, i < n → chOk (f (fr + i)))
    (hsrc : ∀ q, xar (sL S).length = some q → (∀ a ∈ sL S, hd a ≠ q) → q ∈ LN → ∀ (xnt xln : Int32) (xnu : Nat → Int32) (xpa xfa : Nat → Option Nat) (xep xel : Nat → Int32) (xtc' : Nat → Nat → Int32), (∀ z, z ≠ xt q → xtc' z = xtc z) → ∃ q0 : Nat, ((wX g xo an ac am LN LT xt xar xnt xln xcu xck xcp xcl xmk xtl xnu xti xpa xfa xep xel xde (xtc')))[q0]? = some (src, .inl (g.2.2.1, n0, .inl f))) :
    Ret g mdX1_addInsertion [.ref xo, .int (nI p), .ref src, .int (nI fr), .int (nI n)] (wX g xo an ac am LN LT xt xar xnt xln xcu xck xcp xcl xmk xtl xnu xti xpa xfa xep xel xde xtc) (fun r w => r = none ∧ isX g xo an ac am LN LT xt (grw S p n false s) w) := by
  refine Ret.of [_, _, _, _, _, _, _, _] 3 (by decide) (Nat.le_of_ble_eq_true rfl) rfl ?_
  have T := I.T
  have hr := RX.row hR I.cu
  obtain ⟨q, hqa, hqL, hqn⟩ := hR.2.2.2.2.2.2.2.2.2.1 (sL S).length (Nat.le_refl _) hl
  obtain ⟨t, h0⟩ := nI_sur (xti q)
  have hcq := hqn _ I.cu
  have htb := RX.tin hR hr.1
  have ht1 := RX.tin hR hqL
  have htn : xt (hd (scu S)) ≠ xt q := fun e => hcq (RX.tinj hR hr.1 hqL e)
  have e2 := hR.2.1
  obtain ⟨rfl, -, rfl, -⟩ := id hR
  have etl : va_up xtl q (nI (nTl (stl S (scu S)) n false)) = va_up xtl q (nI (stl S (scu S) + n)) := rfl
  refine ev_aload_nE (pc' := 1) dX1_addInsertion_0 rfl rfl (by first | exact rf_some _ | exact rfl) ?_
  refine gX1_currentNode rfl (pc' := 4) dX1_addInsertion_1 rfl ?_
  refine ev_astoreE (by first | exact rf_some _ | exact rfl) (pc' := 6) (lv' := [_, _, _, _, _, _, _, _]) dX1_addInsertion_4 rfl (by decide) (by intro w hw; first | exact Or.inl rfl | (right; have hw := Option.some.inj (Option.some.inj hw); subst hw; first | rfl | exact rf_cat _) | cases hw) rfl ?_
  refine ev_aload_nE (pc' := 7) dX1_addInsertion_6 rfl rfl (by first | exact rf_some _ | exact rfl) ?_
  refine ev_iload_n (pc' := 8) dX1_addInsertion_7 rfl rfl ?_
  refine ev_iload (pc' := 10) dX1_addInsertion_8 rfl rfl ?_
  refine x_callV (As := [_, _]) coX1_addChild rfl (c_addChild hl hqL hqa _ _) rfl (by decide) (by first | exact Nat.le_of_ble_eq_true rfl | simp [Value.category, rf_cat]) dX1_addInsertion_10 rfl (pc' := 13) rfl (fun v w hq => ?_)
  obtain ⟨rfl, rfl⟩ := hq
  dsimp only [Option.toList, List.cons_append, List.nil_append]
  rw [e2]
  have hsrc' := hsrc q hqa hqn hqL (nI ((sL S).length + 1)) (nI (sgv S)) (va_up xnu q (nI (sgv S))) (va_up xpa q (some (hd (scu S)))) (va_up xfa q none) (va_up xep q (nI p)) (va_up xel q (nI n))
  obtain ⟨qb, -, hqb⟩ := wX_text (g := g) (xo := xo) (an := an) (ac := ac) (am := am) (LN := LN) (LT := LT) (xt := xt) (xar := xar) (xnt := nI ((sL S).length + 1)) (xln := nI (sgv S)) (xcu := hd (scu S)) (xck := xck) (xcp := xcp) (xcl := xcl) (xmk := xmk) (xtl := xtl) (xnu := va_up xnu q (nI (sgv S))) (xti := xti) (xpa := va_up xpa q (some (hd (scu S)))) (xfa := va_up xfa q none) (xep := va_up xep q (nI p)) (xel := va_up xel q (nI n)) (xde := xde) (xtc := xtc) htb
  refine ev_astoreE (by first | exact rf_some _ | exact rfl) (pc' := 15) (lv' := [_, _, _, _, _, _, _, _]) dX1_addInsertion_13 rfl (by decide) (by intro w hw; first | exact Or.inl rfl | (right; have hw := Option.some.inj (Option.some.inj hw); subst hw; first | rfl | exact rf_cat _) | cases hw) rfl ?_
  refine ev_aloadE (pc' := 17) dX1_addInsertion_15 rfl rfl (by first | exact rf_some _ | exact rfl) ?_
  refine gX0_textLength rfl hr.1 hr.2.2.1 (pc' := 20) dX1_addInsertion_17 rfl ?_
  refine ev_iload_n (pc' := 21) dX1_addInsertion_20 rfl rfl ?_
  refine ev_isubN (by omega) (pc' := 22) dX1_addInsertion_21 rfl ?_
  refine ev_istore (pc' := 24) (lv' := [_, _, _, _, _, _, _, _]) dX1_addInsertion_22 rfl (by decide) (by intro w hw; first | exact Or.inl rfl | (right; have hw := Option.some.inj (Option.some.inj hw); subst hw; first | rfl | exact rf_cat _) | cases hw) rfl ?_
  refine ev_aloadE (pc' := 26) dX1_addInsertion_24 rfl rfl (by first | exact rf_some _ | exact rfl) ?_
  refine gX0_text rfl hr.1 (pc' := 29) dX1_addInsertion_26 rfl ?_
  refine ev_iconst (pc' := 30) (v := nI 0) dX1_addInsertion_29 rfl (by decide) ?_
  refine ev_aloadE (pc' := 32) dX1_addInsertion_30 rfl rfl (by first | exact rf_some _ | exact rfl) ?_
  refine gX0_text rfl hqL (pc' := 35) dX1_addInsertion_32 rfl ?_
  refine ev_iconst (pc' := 36) (v := nI 0) dX1_addInsertion_35 rfl (by decide) ?_
  refine ev_iload_n (pc' := 37) dX1_addInsertion_36 rfl rfl ?_
  refine x_copy hqb ht1 (by omega) (by omega) (by decide) (fun i hi => by rw [Nat.zero_add, hr.2.2.2.2.2.2.2.2.2.2 i (by omega)]; exact I.tx I.cu (by omega)) (by decide) (by first | exact Nat.le_of_ble_eq_true rfl | simp [Value.category, rf_cat]) cpX1 (pc' := 40) dX1_addInsertion_37 rfl ?_
  obtain ⟨q2, hq2⟩ := hsrc' (va_up xtc (xt q) (va_cpy (xtc (xt (hd (scu S)))) (xtc (xt q)) 0 0 p)) (fun z hz => va_up_ne _ _ hz)
  refine ev_aload_nE (pc' := 41) dX1_addInsertion_40 rfl rfl (by first | exact rf_some _ | exact rfl) ?_
  refine ev_iload_n (pc' := 42) dX1_addInsertion_41 rfl rfl ?_
  refine ev_aloadE (pc' := 44) dX1_addInsertion_42 rfl rfl (by first | exact rf_some _ | exact rfl) ?_
  refine gX0_text rfl hqL (pc' := 47) dX1_addInsertion_44 rfl ?_
  refine ev_iload_n (pc' := 48) dX1_addInsertion_47 rfl rfl ?_
  refine ev_iload (pc' := 50) dX1_addInsertion_48 rfl rfl ?_
  refine x_copy hq2 ht1 hfr (by omega) (by omega) hch (by decide) (by first | exact Nat.le_of_ble_eq_true rfl | simp [Value.category, rf_cat]) cpX1 (pc' := 53) dX1_addInsertion_50 rfl ?_
  rw [va_up_self, bx_uu]
  obtain ⟨qc, -, hqc⟩ := wX_text (g := g) (xo := xo) (an := an) (ac := ac) (am := am) (LN := LN) (LT := LT) (xt := xt) (xar := xar) (xnt := nI ((sL S).length + 1)) (xln := nI (sgv S)) (xcu := hd (scu S)) (xck := xck) (xcp := xcp) (xcl := xcl) (xmk := xmk) (xtl := xtl) (xnu := va_up xnu q (nI (sgv S))) (xti := xti) (xpa := va_up xpa q (some (hd (scu S)))) (xfa := va_up xfa q none) (xep := va_up xep q (nI p)) (xel := va_up xel q (nI n)) (xde := xde) (xtc := va_up xtc (xt q) (va_cpy f (va_cpy (xtc (xt (hd (scu S)))) (xtc (xt q)) 0 0 p) fr p n)) htb
  rw [show fT g (va_up xtc (xt q) (va_cpy f (va_cpy (xtc (xt (hd (scu S)))) (xtc (xt q)) 0 0 p) fr p n)) (xt (hd (scu S))) = .inl (g.2.2.1, 40, .inl (xtc (xt (hd (scu S))))) by unfold fT; rw [va_up_ne _ _ htn]] at hqc
  refine ev_aloadE (pc' := 55) dX1_addInsertion_53 rfl rfl (by first | exact rf_some _ | exact rfl) ?_
  refine gX0_text rfl hr.1 (pc' := 58) dX1_addInsertion_55 rfl ?_
  refine ev_iload_n (pc' := 59) dX1_addInsertion_58 rfl rfl ?_
  refine ev_aloadE (pc' := 61) dX1_addInsertion_59 rfl rfl (by first | exact rf_some _ | exact rfl) ?_
  refine gX0_text rfl hqL (pc' := 64) dX1_addInsertion_61 rfl ?_
  refine ev_iload_n (pc' := 65) dX1_addInsertion_64 rfl rfl ?_
  refine ev_iload (pc' := 67) dX1_addInsertion_65 rfl rfl ?_
  refine ev_iaddN  (pc' := 68) dX1_addInsertion_67 rfl ?_
  refine ev_iload (pc' := 70) dX1_addInsertion_68 rfl rfl ?_
  refine x_copy hqc ht1 (by omega) (by omega) (by decide) (fun i hi => by rw [hr.2.2.2.2.2.2.2.2.2.2 (p + i) (by omega)]; exact I.tx I.cu (by omega)) (by decide) (by first | exact Nat.le_of_ble_eq_true rfl | simp [Value.category, rf_cat]) cpX1 (pc' := 73) dX1_addInsertion_70 rfl ?_
  rw [va_up_self, bx_uu]
  have hR2 := RX.addN (p := p) (n := n) (t := t) (d := false) (s := s) I hR hqL hqa hqn h0 (xtc' := va_up xtc (xt q) (va_cpy (xtc (xt (hd (scu S)))) (va_cpy f (va_cpy (xtc (xt (hd (scu S)))) (xtc (xt q)) 0 0 p) fr p n) p (p + n) (stl S (scu S) - p))) (fun z hz => va_up_ne _ _ hz) (fun i hi => by
    have hi : i < stl S (scu S) + n := hi
    rw [va_up_self]
    unfold nTx
    rw [if_neg (show ¬ (false = true) by decide)]
    by_cases q1 : i < p
    · rw [if_pos q1, cpy_lo (by omega), cpy_lo q1, cpy_in (Nat.zero_le _) (by omega), Nat.sub_zero, Nat.zero_add]; exact hr.2.2.2.2.2.2.2.2.2.2 i (by omega)
    · rw [if_neg q1]
      by_cases q2 : i < p + n
      · rw [if_pos q2, cpy_lo q2, cpy_in (by omega) q2]; exact hs _ (by omega)
      · rw [if_neg q2, cpy_in (by omega) (by omega), show p + (i - (p + n)) = i - n by omega]; exact hr.2.2.2.2.2.2.2.2.2.2 _ (by omega))
  have T2 := addN_T T I.cu hl hg p n t false s
  have hv : sgv S ∈ sL (_root_.Jvm.Pilot.CEditTreeLaw_law_r5647_5301c2.addN S p n false s t) := List.mem_append_right _ (List.mem_singleton.mpr rfl)
  have cm := c_makeCurrent (g := g) (xo := xo) (an := an) (ac := ac) (am := am) T2 hR2 hv
  rw [va_up_self] at cm
  refine ev_aloadE (pc' := 75) dX1_addInsertion_73 rfl rfl (by first | exact rf_some _ | exact rfl) ?_
  refine ev_aloadE (pc' := 77) dX1_addInsertion_75 rfl rfl (by first | exact rf_some _ | exact rfl) ?_
  refine gX0_textLength rfl hr.1 hr.2.2.1 (pc' := 80) dX1_addInsertion_77 rfl ?_
  refine ev_iload (pc' := 82) dX1_addInsertion_80 rfl rfl ?_
  refine ev_iaddN  (pc' := 83) dX1_addInsertion_82 rfl ?_
  refine pX0_textLength rfl hqL (pc' := 86) dX1_addInsertion_83 rfl ?_
  refine ev_aloadE (pc' := 88) dX1_addInsertion_86 rfl rfl (by first | exact rf_some _ | exact rfl) ?_
  refine ev_iconst (pc' := 89) (v := nI 0) dX1_addInsertion_88 rfl (by decide) ?_
  refine pX0_deletion rfl hqL (Or.inl rfl) (pc' := 92) dX1_addInsertion_89 rfl ?_
  refine ev_aload_nE (pc' := 93) dX1_addInsertion_92 rfl rfl (by first | exact rf_some _ | exact rfl) ?_
  refine ev_aloadE (pc' := 95) dX1_addInsertion_93 rfl rfl (by first | exact rf_some _ | exact rfl) ?_
  refine x_callV (As := [_]) coX1_makeCurrent rfl (cm) rfl (by decide) (by first | exact Nat.le_of_ble_eq_true rfl | simp [Value.category, rf_cat]) dX1_addInsertion_95 rfl (pc' := 98) rfl (fun v w hq => ?_)
  obtain ⟨rfl, xti', xfa', rfl, hR3⟩ := hq
  dsimp only [Option.toList, List.cons_append, List.nil_append]
  refine ev_vret rfl dX1_addInsertion_98 ?_
  refine ⟨rfl, ?_⟩
  rw [grw_t] at hR3
  exact isX.of hR3
theorem c_addDeletion (I : Inv N S) (hg : sgv S < 600) (hl : (sL S).length < 24) (hR : RX S hd LN LT xt xar xnt xln xcu xck xcp xcl xmk xtl xnu xti xpa xfa xep xel xde xtc) {p n : Nat} {s : Nat → Int32} (hn1 : 1 ≤ n) (hn : n ≤ 6) (hp : p + n ≤ stl S (scu S)) :
    Ret g mdX1_addDeletion [.ref xo, .int (nI p), .int (nI n)] (wX g xo an ac am LN LT xt xar xnt xln xcu xck xcp xcl xmk xtl xnu xti xpa xfa xep xel xde xtc) (fun r w => r = none ∧ isX g xo an ac am LN LT xt (grw S p n true s) w) := by
  refine Ret.of [_, _, _, _, _, _] 3 (by decide) (Nat.le_of_ble_eq_true rfl) rfl ?_
  have T := I.T
  have hr := RX.row hR I.cu
  have h40 := I.tl I.cu
  obtain ⟨q, hqa, hqL, hqn⟩ := hR.2.2.2.2.2.2.2.2.2.1 (sL S).length (Nat.le_refl _) hl
  obtain ⟨t, h0⟩ := nI_sur (xti q)
  have hcq := hqn _ I.cu
  have htb := RX.tin hR hr.1
  have ht1 := RX.tin hR hqL
  have htn : xt (hd (scu S)) ≠ xt q := fun e => hcq (RX.tinj hR hr.1 hqL e)
  have e2 := hR.2.1
  obtain ⟨rfl, -, rfl, -⟩ := id hR
  refine ev_aload_nE (pc' := 1) dX1_addDeletion_0 rfl rfl (by first | exact rf_some _ | exact rfl) ?_
  refine gX1_currentNode rfl (pc' := 4) dX1_addDeletion_1 rfl ?_
  refine ev_astore_nE (by first | exact rf_some _ | exact rfl) (pc' := 5) (lv' := [_, _, _, _, _, _]) dX1_addDeletion_4 rfl (by decide) (by intro w hw; first | exact Or.inl rfl | (right; have hw := Option.some.inj (Option.some.inj hw); subst hw; first | rfl | exact rf_cat _) | cases hw) rfl ?_
  refine ev_aload_nE (pc' := 6) dX1_addDeletion_5 rfl rfl (by first | exact rf_some _ | exact rfl) ?_
  refine ev_iload_n (pc' := 7) dX1_addDeletion_6 rfl rfl ?_
  refine ev_iload_n (pc' := 8) dX1_addDeletion_7 rfl rfl ?_
  refine x_callV (As := [_, _]) coX1_addChild rfl (c_addChild hl hqL hqa _ _) rfl (by decide) (by first | exact Nat.le_of_ble_eq_true rfl | simp [Value.category, rf_cat]) dX1_addDeletion_8 rfl (pc' := 11) rfl (fun v w hq => ?_)
  obtain ⟨rfl, rfl⟩ := hq
  dsimp only [Option.toList, List.cons_append, List.nil_append]
  rw [e2]
  obtain ⟨qb, -, hqb⟩ := wX_text (g := g) (xo := xo) (an := an) (ac := ac) (am := am) (LN := LN) (LT := LT) (xt := xt) (xar := xar) (xnt := nI ((sL S).length + 1)) (xln := nI (sgv S)) (xcu := hd (scu S)) (xck := xck) (xcp := xcp) (xcl := xcl) (xmk := xmk) (xtl := xtl) (xnu := va_up xnu q (nI (sgv S))) (xti := xti) (xpa := va_up xpa q (some (hd (scu S)))) (xfa := va_up xfa q none) (xep := va_up xep q (nI p)) (xel := va_up xel q (nI n)) (xde := xde) (xtc := xtc) htb
  refine ev_astoreE (by first | exact rf_some _ | exact rfl) (pc' := 13) (lv' := [_, _, _, _, _, _]) dX1_addDeletion_11 rfl (by decide) (by intro w hw; first | exact Or.inl rfl | (right; have hw := Option.some.inj (Option.some.inj hw); subst hw; first | rfl | exact rf_cat _) | cases hw) rfl ?_
  refine ev_aload_nE (pc' := 14) dX1_addDeletion_13 rfl rfl (by first | exact rf_some _ | exact rfl) ?_
  refine gX0_textLength rfl hr.1 hr.2.2.1 (pc' := 17) dX1_addDeletion_14 rfl ?_
  refine ev_iload_n (pc' := 18) dX1_addDeletion_17 rfl rfl ?_
  refine ev_isubN (by omega) (pc' := 19) dX1_addDeletion_18 rfl ?_
  refine ev_iload_n (pc' := 20) dX1_addDeletion_19 rfl rfl ?_
  refine ev_isubN (by omega) (pc' := 21) dX1_addDeletion_20 rfl ?_
  refine ev_istore (pc' := 23) (lv' := [_, _, _, _, _, _]) dX1_addDeletion_21 rfl (by decide) (by intro w hw; first | exact Or.inl rfl | (right; have hw := Option.some.inj (Option.some.inj hw); subst hw; first | rfl | exact rf_cat _) | cases hw) rfl ?_
  refine ev_aload_nE (pc' := 24) dX1_addDeletion_23 rfl rfl (by first | exact rf_some _ | exact rfl) ?_
  refine gX0_text rfl hr.1 (pc' := 27) dX1_addDeletion_24 rfl ?_
  refine ev_iconst (pc' := 28) (v := nI 0) dX1_addDeletion_27 rfl (by decide) ?_
  refine ev_aloadE (pc' := 30) dX1_addDeletion_28 rfl rfl (by first | exact rf_some _ | exact rfl) ?_
  refine gX0_text rfl hqL (pc' := 33) dX1_addDeletion_30 rfl ?_
  refine ev_iconst (pc' := 34) (v := nI 0) dX1_addDeletion_33 rfl (by decide) ?_
  refine ev_iload_n (pc' := 35) dX1_addDeletion_34 rfl rfl ?_
  refine x_copy hqb ht1 (by omega) (by omega) (by decide) (fun i hi => by rw [Nat.zero_add, hr.2.2.2.2.2.2.2.2.2.2 i (by omega)]; exact I.tx I.cu (by omega)) (by decide) (by first | exact Nat.le_of_ble_eq_true rfl | simp [Value.category, rf_cat]) cpX1 (pc' := 38) dX1_addDeletion_35 rfl ?_
  obtain ⟨qc, -, hqc⟩ := wX_text (g := g) (xo := xo) (an := an) (ac := ac) (am := am) (LN := LN) (LT := LT) (xt := xt) (xar := xar) (xnt := nI ((sL S).length + 1)) (xln := nI (sgv S)) (xcu := hd (scu S)) (xck := xck) (xcp := xcp) (xcl := xcl) (xmk := xmk) (xtl := xtl) (xnu := va_up xnu q (nI (sgv S))) (xti := xti) (xpa := va_up xpa q (some (hd (scu S)))) (xfa := va_up xfa q none) (xep := va_up xep q (nI p)) (xel := va_up xel q (nI n)) (xde := xde) (xtc := va_up xtc (xt q) (va_cpy (xtc (xt (hd (scu S)))) (xtc (xt q)) 0 0 p)) htb
  rw [show fT g (va_up xtc (xt q) (va_cpy (xtc (xt (hd (scu S)))) (xtc (xt q)) 0 0 p)) (xt (hd (scu S))) = .inl (g.2.2.1, 40, .inl (xtc (xt (hd (scu S))))) by unfold fT; rw [va_up_ne _ _ htn]] at hqc
  refine ev_aload_nE (pc' := 39) dX1_addDeletion_38 rfl rfl (by first | exact rf_some _ | exact rfl) ?_
  refine gX0_text rfl hr.1 (pc' := 42) dX1_addDeletion_39 rfl ?_
  refine ev_iload_n (pc' := 43) dX1_addDeletion_42 rfl rfl ?_
  refine ev_iload_n (pc' := 44) dX1_addDeletion_43 rfl rfl ?_
  refine ev_iaddN  (pc' := 45) dX1_addDeletion_44 rfl ?_
  refine ev_aloadE (pc' := 47) dX1_addDeletion_45 rfl rfl (by first | exact rf_some _ | exact rfl) ?_
  refine gX0_text rfl hqL (pc' := 50) dX1_addDeletion_47 rfl ?_
  refine ev_iload_n (pc' := 51) dX1_addDeletion_50 rfl rfl ?_
  refine ev_iload (pc' := 53) dX1_addDeletion_51 rfl rfl ?_
  refine x_copy hqc ht1 (by omega) (by omega) (by decide) (fun i hi => by rw [hr.2.2.2.2.2.2.2.2.2.2 (p + n + i) (by omega)]; exact I.tx I.cu (by omega)) (by decide) (by first | exact Nat.le_of_ble_eq_true rfl | simp [Value.category, rf_cat]) cpX1 (pc' := 56) dX1_addDeletion_53 rfl ?_
  rw [va_up_self, bx_uu]
  have hR2 := RX.addN (p := p) (n := n) (t := t) (d := true) (s := s) I hR hqL hqa hqn h0 (xtc' := va_up xtc (xt q) (va_cpy (xtc (xt (hd (scu S)))) (va_cpy (xtc (xt (hd (scu S)))) (xtc (xt q)) 0 0 p) (p + n) p (stl S (scu S) - p - n))) (fun z hz => va_up_ne _ _ hz) (fun i hi => by
    have hi : i < stl S (scu S) - n := hi
    rw [va_up_self]
    unfold nTx
    rw [if_pos (show true = true from rfl)]
    by_cases q1 : i < p
    · rw [if_pos q1, cpy_lo q1, cpy_in (Nat.zero_le _) (by omega), Nat.sub_zero, Nat.zero_add]; exact hr.2.2.2.2.2.2.2.2.2.2 i (by omega)
    · rw [if_neg q1, cpy_in (by omega) (by omega), show p + n + (i - p) = i + n by omega]; exact hr.2.2.2.2.2.2.2.2.2.2 _ (by omega))
  have T2 := addN_T T I.cu hl hg p n t true s
  have hv : sgv S ∈ sL (_root_.Jvm.Pilot.CEditTreeLaw_law_r5647_5301c2.addN S p n true s t) := List.mem_append_right _ (List.mem_singleton.mpr rfl)
  have cm := c_makeCurrent (g := g) (xo := xo) (an := an) (ac := ac) (am := am) T2 hR2 hv
  rw [va_up_self] at cm
  refine ev_aloadE (pc' := 58) dX1_addDeletion_56 rfl rfl (by first | exact rf_some _ | exact rfl) ?_
  refine ev_aload_nE (pc' := 59) dX1_addDeletion_58 rfl rfl (by first | exact rf_some _ | exact rfl) ?_
  refine gX0_textLength rfl hr.1 hr.2.2.1 (pc' := 62) dX1_addDeletion_59 rfl ?_
  refine ev_iload_n (pc' := 63) dX1_addDeletion_62 rfl rfl ?_
  refine ev_isubN (by omega) (pc' := 64) dX1_addDeletion_63 rfl ?_
  refine pX0_textLength rfl hqL (pc' := 67) dX1_addDeletion_64 rfl ?_
  refine ev_aloadE (pc' := 69) dX1_addDeletion_67 rfl rfl (by first | exact rf_some _ | exact rfl) ?_
  refine ev_iconst (pc' := 70) (v := nI 1) dX1_addDeletion_69 rfl (by decide) ?_
  refine pX0_deletion rfl hqL (Or.inr rfl) (pc' := 73) dX1_addDeletion_70 rfl ?_
  refine ev_aload_nE (pc' := 74) dX1_addDeletion_73 rfl rfl (by first | exact rf_some _ | exact rfl) ?_
  refine ev_aloadE (pc' := 76) dX1_addDeletion_74 rfl rfl (by first | exact rf_some _ | exact rfl) ?_
  refine x_callV (As := [_]) coX1_makeCurrent rfl (cm) rfl (by decide) (by first | exact Nat.le_of_ble_eq_true rfl | simp [Value.category, rf_cat]) dX1_addDeletion_76 rfl (pc' := 79) rfl (fun v w hq => ?_)
  obtain ⟨rfl, xti', xfa', rfl, hR3⟩ := hq
  dsimp only [Option.toList, List.cons_append, List.nil_append]
  refine ev_vret rfl dX1_addDeletion_79 ?_
  refine ⟨rfl, ?_⟩
  rw [grw_t] at hR3
  exact isX.of hR3
end X6
end
