section
-- ===== PART A: goes FIRST, ahead of the names: the tables' words, and 'selects' of the private methods out of them =====
/-- a private method of a class that the tables say can be made, by its rows of tables_1 -/
def lw_okq (q : MethodName × Nat) : Prop := (q.1.cls ≠ "java/lang/invoke/MethodHandle" ∧ q.1.cls ≠ "java/lang/invoke/VarHandle") ∧ Cond.instantiable q.1.cls q.2 ∈ tables_1 ∧ Cond.privateMethod q.1 ∈ tables_1 ∧ Cond.instanceMethod q.1 ∈ tables_1
theorem lw_p0 : lw_okq (⟨"TaskBuild$Graph", "layersFrom", "(II)I"⟩, 5) := ⟨⟨by decide +kernel, by decide +kernel⟩, List.mem_of_getElem? (i := 47) (by decide +kernel), List.mem_of_getElem? (i := 153) (by decide +kernel), List.mem_of_getElem? (i := 154) (by decide +kernel)⟩
theorem lw_p1 : lw_okq (⟨"TaskBuild$Graph", "toldBeforeAny", "(I)I"⟩, 5) := ⟨⟨by decide +kernel, by decide +kernel⟩, List.mem_of_getElem? (i := 47) (by decide +kernel), List.mem_of_getElem? (i := 157) (by decide +kernel), List.mem_of_getElem? (i := 158) (by decide +kernel)⟩
theorem lw_p2 : lw_okq (⟨"TaskBuild$Graph", "leastBehind", "(II)I"⟩, 5) := ⟨⟨by decide +kernel, by decide +kernel⟩, List.mem_of_getElem? (i := 47) (by decide +kernel), List.mem_of_getElem? (i := 161) (by decide +kernel), List.mem_of_getElem? (i := 162) (by decide +kernel)⟩
theorem lw_p3 : lw_okq (⟨"TaskBuild$Runnables", "opensTask", "(I)Z"⟩, 6) := ⟨⟨by decide +kernel, by decide +kernel⟩, List.mem_of_getElem? (i := 16) (by decide +kernel), List.mem_of_getElem? (i := 202) (by decide +kernel), List.mem_of_getElem? (i := 203) (by decide +kernel)⟩
theorem lw_p4 : lw_okq (⟨"TaskBuild", "nextPlan", "()LTaskBuild$Plan;"⟩, 6) := ⟨⟨by decide +kernel, by decide +kernel⟩, List.mem_of_getElem? (i := 8) (by decide +kernel), List.mem_of_getElem? (i := 206) (by decide +kernel), List.mem_of_getElem? (i := 207) (by decide +kernel)⟩
theorem lw_p5 : lw_okq (⟨"TaskBuild$Plan", "addEventTasks", "(ILTaskBuild$Runnables;LTaskBuild$Graph;)V"⟩, 6) := ⟨⟨by decide +kernel, by decide +kernel⟩, List.mem_of_getElem? (i := 70) (by decide +kernel), List.mem_of_getElem? (i := 214) (by decide +kernel), List.mem_of_getElem? (i := 215) (by decide +kernel)⟩
theorem lw_p6 : lw_okq (⟨"TaskBuild$Plan", "addTask", "(IILTaskBuild$Graph;)V"⟩, 6) := ⟨⟨by decide +kernel, by decide +kernel⟩, List.mem_of_getElem? (i := 70) (by decide +kernel), List.mem_of_getElem? (i := 223) (by decide +kernel), List.mem_of_getElem? (i := 224) (by decide +kernel)⟩
theorem lw_p7 : lw_okq (⟨"TaskBuild$Plan", "addPeriodTasks", "(ILTaskBuild$Runnables;LTaskBuild$Graph;)V"⟩, 6) := ⟨⟨by decide +kernel, by decide +kernel⟩, List.mem_of_getElem? (i := 70) (by decide +kernel), List.mem_of_getElem? (i := 231) (by decide +kernel), List.mem_of_getElem? (i := 232) (by decide +kernel)⟩
theorem lw_p8 : lw_okq (⟨"TaskBuild$Plan", "sizeOf", "(I)I"⟩, 6) := ⟨⟨by decide +kernel, by decide +kernel⟩, List.mem_of_getElem? (i := 70) (by decide +kernel), List.mem_of_getElem? (i := 256) (by decide +kernel), List.mem_of_getElem? (i := 257) (by decide +kernel)⟩
theorem lw_p9 : lw_okq (⟨"TaskBuild$Plan", "isWrittenAbove", "(ILTaskBuild$Runnables;I)Z"⟩, 6) := ⟨⟨by decide +kernel, by decide +kernel⟩, List.mem_of_getElem? (i := 70) (by decide +kernel), List.mem_of_getElem? (i := 272) (by decide +kernel), List.mem_of_getElem? (i := 273) (by decide +kernel)⟩
theorem lw_p10 : lw_okq (⟨"TaskBuild$Plan", "standsIn", "(LTaskBuild$Plan;I)Z"⟩, 6) := ⟨⟨by decide +kernel, by decide +kernel⟩, List.mem_of_getElem? (i := 70) (by decide +kernel), List.mem_of_getElem? (i := 317) (by decide +kernel), List.mem_of_getElem? (i := 318) (by decide +kernel)⟩
theorem lw_p11 : lw_okq (⟨"TaskBuildModel", "isRunnable", "(I)Z"⟩, 19) := ⟨⟨by decide +kernel, by decide +kernel⟩, List.mem_of_getElem? (i := 323) (by decide +kernel), List.mem_of_getElem? (i := 401) (by decide +kernel), List.mem_of_getElem? (i := 402) (by decide +kernel)⟩
theorem lw_p12 : lw_okq (⟨"TaskBuildModel", "measure", "(I)V"⟩, 19) := ⟨⟨by decide +kernel, by decide +kernel⟩, List.mem_of_getElem? (i := 323) (by decide +kernel), List.mem_of_getElem? (i := 405) (by decide +kernel), List.mem_of_getElem? (i := 406) (by decide +kernel)⟩
theorem lw_p13 : lw_okq (⟨"TaskBuildModel", "tellRing", "(I)V"⟩, 19) := ⟨⟨by decide +kernel, by decide +kernel⟩, List.mem_of_getElem? (i := 323) (by decide +kernel), List.mem_of_getElem? (i := 409) (by decide +kernel), List.mem_of_getElem? (i := 410) (by decide +kernel)⟩
theorem lw_p14 : lw_okq (⟨"TaskBuildModel", "tasksOn", "(I)I"⟩, 19) := ⟨⟨by decide +kernel, by decide +kernel⟩, List.mem_of_getElem? (i := 323) (by decide +kernel), List.mem_of_getElem? (i := 426) (by decide +kernel), List.mem_of_getElem? (i := 427) (by decide +kernel)⟩
theorem lw_p15 : lw_okq (⟨"TaskBuildModel", "makeTasks", "(I)V"⟩, 19) := ⟨⟨by decide +kernel, by decide +kernel⟩, List.mem_of_getElem? (i := 323) (by decide +kernel), List.mem_of_getElem? (i := 430) (by decide +kernel), List.mem_of_getElem? (i := 431) (by decide +kernel)⟩
def lw_privs_1 : List (MethodName × Nat) := [(⟨"TaskBuild$Graph", "layersFrom", "(II)I"⟩, 5), (⟨"TaskBuild$Graph", "toldBeforeAny", "(I)I"⟩, 5), (⟨"TaskBuild$Graph", "leastBehind", "(II)I"⟩, 5), (⟨"TaskBuild$Runnables", "opensTask", "(I)Z"⟩, 6), (⟨"TaskBuild", "nextPlan", "()LTaskBuild$Plan;"⟩, 6), (⟨"TaskBuild$Plan", "addEventTasks", "(ILTaskBuild$Runnables;LTaskBuild$Graph;)V"⟩, 6), (⟨"TaskBuild$Plan", "addTask", "(IILTaskBuild$Graph;)V"⟩, 6), (⟨"TaskBuild$Plan", "addPeriodTasks", "(ILTaskBuild$Runnables;LTaskBuild$Graph;)V"⟩, 6), (⟨"TaskBuild$Plan", "sizeOf", "(I)I"⟩, 6), (⟨"TaskBuild$Plan", "isWrittenAbove", "(ILTaskBuild$Runnables;I)Z"⟩, 6), (⟨"TaskBuild$Plan", "standsIn", "(LTaskBuild$Plan;I)Z"⟩, 6), (⟨"TaskBuildModel", "isRunnable", "(I)Z"⟩, 19), (⟨"TaskBuildModel", "measure", "(I)V"⟩, 19), (⟨"TaskBuildModel", "tellRing", "(I)V"⟩, 19), (⟨"TaskBuildModel", "tasksOn", "(I)I"⟩, 19), (⟨"TaskBuildModel", "makeTasks", "(I)V"⟩, 19)]
theorem lw_r1 : ∀ q ∈ lw_privs_1, lw_okq q := List.forall_mem_cons.mpr ⟨lw_p0, List.forall_mem_cons.mpr ⟨lw_p1, List.forall_mem_cons.mpr ⟨lw_p2, List.forall_mem_cons.mpr ⟨lw_p3, List.forall_mem_cons.mpr ⟨lw_p4, List.forall_mem_cons.mpr ⟨lw_p5, List.forall_mem_cons.mpr ⟨lw_p6, List.forall_mem_cons.mpr ⟨lw_p7, List.forall_mem_cons.mpr ⟨lw_p8, List.forall_mem_cons.mpr ⟨lw_p9, List.forall_mem_cons.mpr ⟨lw_p10, List.forall_mem_cons.mpr ⟨lw_p11, List.forall_mem_cons.mpr ⟨lw_p12, List.forall_mem_cons.mpr ⟨lw_p13, List.forall_mem_cons.mpr ⟨lw_p14, List.forall_mem_cons.mpr ⟨lw_p15, fun _ h => absurd h List.not_mem_nil⟩⟩⟩⟩⟩⟩⟩⟩⟩⟩⟩⟩⟩⟩⟩⟩
theorem lw_p16 : lw_okq (⟨"TaskBuildModel", "addTask", "(III)V"⟩, 19) := ⟨⟨by decide +kernel, by decide +kernel⟩, List.mem_of_getElem? (i := 323) (by decide +kernel), List.mem_of_getElem? (i := 434) (by decide +kernel), List.mem_of_getElem? (i := 435) (by decide +kernel)⟩
theorem lw_p17 : lw_okq (⟨"TaskBuildModel", "behind", "(I)I"⟩, 19) := ⟨⟨by decide +kernel, by decide +kernel⟩, List.mem_of_getElem? (i := 323) (by decide +kernel), List.mem_of_getElem? (i := 438) (by decide +kernel), List.mem_of_getElem? (i := 439) (by decide +kernel)⟩
theorem lw_p18 : lw_okq (⟨"TaskBuildModel", "with", "(II)I"⟩, 19) := ⟨⟨by decide +kernel, by decide +kernel⟩, List.mem_of_getElem? (i := 323) (by decide +kernel), List.mem_of_getElem? (i := 442) (by decide +kernel), List.mem_of_getElem? (i := 443) (by decide +kernel)⟩
theorem lw_p19 : lw_okq (⟨"TaskBuildModel", "keep", "(I)V"⟩, 19) := ⟨⟨by decide +kernel, by decide +kernel⟩, List.mem_of_getElem? (i := 323) (by decide +kernel), List.mem_of_getElem? (i := 446) (by decide +kernel), List.mem_of_getElem? (i := 447) (by decide +kernel)⟩
theorem lw_p20 : lw_okq (⟨"TaskBuildModel", "isTask", "(I)Z"⟩, 19) := ⟨⟨by decide +kernel, by decide +kernel⟩, List.mem_of_getElem? (i := 323) (by decide +kernel), List.mem_of_getElem? (i := 458) (by decide +kernel), List.mem_of_getElem? (i := 459) (by decide +kernel)⟩
theorem lw_p21 : lw_okq (⟨"TaskBuildModel", "from", "(II)I"⟩, 19) := ⟨⟨by decide +kernel, by decide +kernel⟩, List.mem_of_getElem? (i := 323) (by decide +kernel), List.mem_of_getElem? (i := 462) (by decide +kernel), List.mem_of_getElem? (i := 463) (by decide +kernel)⟩
theorem lw_p22 : lw_okq (⟨"TaskBuildModel", "rankOf", "(I)I"⟩, 19) := ⟨⟨by decide +kernel, by decide +kernel⟩, List.mem_of_getElem? (i := 323) (by decide +kernel), List.mem_of_getElem? (i := 470) (by decide +kernel), List.mem_of_getElem? (i := 471) (by decide +kernel)⟩
theorem lw_p23 : lw_okq (⟨"TaskBuildModel", "isCopied", "(I)Z"⟩, 19) := ⟨⟨by decide +kernel, by decide +kernel⟩, List.mem_of_getElem? (i := 323) (by decide +kernel), List.mem_of_getElem? (i := 478) (by decide +kernel), List.mem_of_getElem? (i := 479) (by decide +kernel)⟩
theorem lw_p24 : lw_okq (⟨"TaskBuildModel", "isSame", "(III)Z"⟩, 19) := ⟨⟨by decide +kernel, by decide +kernel⟩, List.mem_of_getElem? (i := 323) (by decide +kernel), List.mem_of_getElem? (i := 498) (by decide +kernel), List.mem_of_getElem? (i := 499) (by decide +kernel)⟩
def lw_privs_2 : List (MethodName × Nat) := [(⟨"TaskBuildModel", "addTask", "(III)V"⟩, 19), (⟨"TaskBuildModel", "behind", "(I)I"⟩, 19), (⟨"TaskBuildModel", "with", "(II)I"⟩, 19), (⟨"TaskBuildModel", "keep", "(I)V"⟩, 19), (⟨"TaskBuildModel", "isTask", "(I)Z"⟩, 19), (⟨"TaskBuildModel", "from", "(II)I"⟩, 19), (⟨"TaskBuildModel", "rankOf", "(I)I"⟩, 19), (⟨"TaskBuildModel", "isCopied", "(I)Z"⟩, 19), (⟨"TaskBuildModel", "isSame", "(III)Z"⟩, 19)]
theorem lw_r2 : ∀ q ∈ lw_privs_2, lw_okq q := List.forall_mem_cons.mpr ⟨lw_p16, List.forall_mem_cons.mpr ⟨lw_p17, List.forall_mem_cons.mpr ⟨lw_p18, List.forall_mem_cons.mpr ⟨lw_p19, List.forall_mem_cons.mpr ⟨lw_p20, List.forall_mem_cons.mpr ⟨lw_p21, List.forall_mem_cons.mpr ⟨lw_p22, List.forall_mem_cons.mpr ⟨lw_p23, List.forall_mem_cons.mpr ⟨lw_p24, fun _ h => absurd h List.not_mem_nil⟩⟩⟩⟩⟩⟩⟩⟩⟩
def lw_privs : List (MethodName × Nat) := lw_privs_1 ++ (lw_privs_2)
def lw_tbl : List Cond := k2_sels lw_privs ++ tables_1
theorem lw_privs_ok : ∀ q ∈ lw_privs, lw_okq q := by
  show ∀ q ∈ lw_privs_1 ++ (lw_privs_2), lw_okq q
  exact List.forall_mem_append.mpr ⟨lw_r1, lw_r2⟩
end
section
def R_T : String := "TaskBuild"
def R_U : String := "TaskBuild$Runnables"
def R_G : String := "TaskBuild$Graph"
def R_P : String := "TaskBuild$Plan"
def R_M : String := "TaskBuildModel"
def R_J : String := "java/lang/Integer"
def R_L : String := "TaskBuildLaw"
def T_T : u_T := fun k => match k with
  | 0 => ("TaskBuild", "all", "LTaskBuild$Runnables;", true)
  | 1 => ("TaskBuild", "graph", "LTaskBuild$Graph;", true)
  | 2 => ("TaskBuild", "kept", "[LTaskBuild$Plan;", true)
  | 3 => ("TaskBuild", "keptCount", "I", false)
  | 4 => ("TaskBuild", "unkept", "LTaskBuild$Plan;", true)
  | _ => ("TaskBuild", "built", "LTaskBuild$Plan;", false)
def ty_T : Nat → FieldType := fun k => match k with
  | 0 => .object "TaskBuild$Runnables"
  | 1 => .object "TaskBuild$Graph"
  | 2 => .array (.object "TaskBuild$Plan")
  | 3 => .int
  | 4 => .object "TaskBuild$Plan"
  | _ => .object "TaskBuild$Plan"
theorem nok_T : ∀ a, a < 6 → ∀ b, b < 6 → a ≠ b → (T_T a).2.1 ≠ (T_T b).2.1 := by decide +kernel
theorem tok_T : ∀ k, k < 6 → parseFieldDescriptor (T_T k).2.2.1 = some (ty_T k) := by decide +kernel
theorem dfl_T : ∀ j, j < 6 → defaultValue (ty_T j) = vp_V [.null, .null, .null, .int 0, .null, .null] j := by decide +kernel
def T_U : u_T := fun k => match k with
  | 0 => ("TaskBuild$Runnables", "count", "I", false)
  | 1 => ("TaskBuild$Runnables", "period", "[I", true)
  | 2 => ("TaskBuild$Runnables", "core", "[I", true)
  | 3 => ("TaskBuild$Runnables", "steps", "[I", true)
  | 4 => ("TaskBuild$Runnables", "reads", "[I", true)
  | _ => ("TaskBuild$Runnables", "writes", "[I", true)
def ty_U : Nat → FieldType := fun k => match k with
  | 0 => .int
  | 1 => .array .int
  | 2 => .array .int
  | 3 => .array .int
  | 4 => .array .int
  | _ => .array .int
theorem nok_U : ∀ a, a < 6 → ∀ b, b < 6 → a ≠ b → (T_U a).2.1 ≠ (T_U b).2.1 := by decide +kernel
theorem tok_U : ∀ k, k < 6 → parseFieldDescriptor (T_U k).2.2.1 = some (ty_U k) := by decide +kernel
theorem dfl_U : ∀ j, j < 6 → defaultValue (ty_U j) = vp_V [.int 0, .null, .null, .null, .null, .null] j := by decide +kernel
def T_G : u_T := fun k => match k with
  | 0 => ("TaskBuild$Graph", "toldBefore", "[I", true)
  | 1 => ("TaskBuild$Graph", "allBefore", "[I", true)
  | 2 => ("TaskBuild$Graph", "layer", "[I", true)
  | 3 => ("TaskBuild$Graph", "told", "[I", true)
  | _ => ("TaskBuild$Graph", "toldCount", "I", false)
def ty_G : Nat → FieldType := fun k => match k with
  | 0 => .array .int
  | 1 => .array .int
  | 2 => .array .int
  | 3 => .array .int
  | _ => .int
theorem nok_G : ∀ a, a < 5 → ∀ b, b < 5 → a ≠ b → (T_G a).2.1 ≠ (T_G b).2.1 := by decide +kernel
theorem tok_G : ∀ k, k < 5 → parseFieldDescriptor (T_G k).2.2.1 = some (ty_G k) := by decide +kernel
theorem dfl_G : ∀ j, j < 5 → defaultValue (ty_G j) = vp_V [.null, .null, .null, .null, .int 0] j := by decide +kernel
def T_P : u_T := fun k => match k with
  | 0 => ("TaskBuild$Plan", "taskCount", "I", false)
  | 1 => ("TaskBuild$Plan", "taskOf", "[I", true)
  | 2 => ("TaskBuild$Plan", "periodOf", "[I", true)
  | 3 => ("TaskBuild$Plan", "rankOf", "[I", true)
  | 4 => ("TaskBuild$Plan", "row", "[I", true)
  | _ => ("TaskBuild$Plan", "startOf", "[I", true)
def ty_P : Nat → FieldType := fun k => match k with
  | 0 => .int
  | 1 => .array .int
  | 2 => .array .int
  | 3 => .array .int
  | 4 => .array .int
  | _ => .array .int
theorem nok_P : ∀ a, a < 6 → ∀ b, b < 6 → a ≠ b → (T_P a).2.1 ≠ (T_P b).2.1 := by decide +kernel
theorem tok_P : ∀ k, k < 6 → parseFieldDescriptor (T_P k).2.2.1 = some (ty_P k) := by decide +kernel
theorem dfl_P : ∀ j, j < 6 → defaultValue (ty_P j) = vp_V [.int 0, .null, .null, .null, .null, .null] j := by decide +kernel
def T_M : u_T := fun k => match k with
  | 0 => ("TaskBuildModel", "code", "I", false)
  | 1 => ("TaskBuildModel", "runnables", "I", false)
  | 2 => ("TaskBuildModel", "period", "[I", true)
  | 3 => ("TaskBuildModel", "core", "[I", true)
  | 4 => ("TaskBuildModel", "steps", "[I", true)
  | 5 => ("TaskBuildModel", "before", "[I", true)
  | 6 => ("TaskBuildModel", "reads", "[I", true)
  | 7 => ("TaskBuildModel", "writes", "[I", true)
  | 8 => ("TaskBuildModel", "ringSize", "I", false)
  | 9 => ("TaskBuildModel", "ring", "[I", true)
  | 10 => ("TaskBuildModel", "far", "[I", true)
  | 11 => ("TaskBuildModel", "built", "Z", false)
  | 12 => ("TaskBuildModel", "builds", "I", false)
  | 13 => ("TaskBuildModel", "tasks", "[I", true)
  | 14 => ("TaskBuildModel", "coreOf", "[I", true)
  | 15 => ("TaskBuildModel", "periodOf", "[I", true)
  | 16 => ("TaskBuildModel", "ends", "[I", true)
  | 17 => ("TaskBuildModel", "rows", "[I", true)
  | _ => ("TaskBuildModel", "taskOf", "[I", true)
def ty_M : Nat → FieldType := fun k => match k with
  | 0 => .int
  | 1 => .int
  | 2 => .array .int
  | 3 => .array .int
  | 4 => .array .int
  | 5 => .array .int
  | 6 => .array .int
  | 7 => .array .int
  | 8 => .int
  | 9 => .array .int
  | 10 => .array .int
  | 11 => .boolean
  | 12 => .int
  | 13 => .array .int
  | 14 => .array .int
  | 15 => .array .int
  | 16 => .array .int
  | 17 => .array .int
  | _ => .array .int
theorem nok_M : ∀ a, a < 19 → ∀ b, b < 19 → a ≠ b → (T_M a).2.1 ≠ (T_M b).2.1 := by decide +kernel
theorem tok_M : ∀ k, k < 19 → parseFieldDescriptor (T_M k).2.2.1 = some (ty_M k) := by decide +kernel
theorem dfl_M : ∀ j, j < 19 → defaultValue (ty_M j) = vp_V [.int 0, .int 0, .null, .null, .null, .null, .null, .null, .int 0, .null, .null, .int 0, .int 0, .null, .null, .null, .null, .null, .null] j := by decide +kernel
abbrev c_U_init : ByteArray := prog_4_method_1_code
def y_U_init : MethodName := ⟨R_U, "<init>", "()V"⟩
abbrev c_G_init : ByteArray := prog_2_method_1_code
def y_G_init : MethodName := ⟨R_G, "<init>", "()V"⟩
abbrev c_P_init : ByteArray := prog_3_method_1_code
def y_P_init : MethodName := ⟨R_P, "<init>", "()V"⟩
abbrev c_T_init : ByteArray := prog_1_method_1_code
def y_T_init : MethodName := ⟨R_T, "<init>", "()V"⟩
abbrev c_T_isWithin : ByteArray := prog_1_method_16_code
def y_T_isWithin : MethodName := ⟨R_T, "isWithin", "(III)Z"⟩
abbrev c_U_isFull : ByteArray := prog_4_method_3_code
def y_U_isFull : MethodName := ⟨R_U, "isFull", "()Z"⟩
abbrev c_U_add : ByteArray := prog_4_method_4_code
def y_U_add : MethodName := ⟨R_U, "add", "(III)I"⟩
abbrev c_T_runnable : ByteArray := prog_1_method_2_code
def y_T_runnable : MethodName := ⟨R_T, "runnable", "(III)I"⟩
abbrev c_U_has : ByteArray := prog_4_method_2_code
def y_U_has : MethodName := ⟨R_U, "has", "(I)Z"⟩
abbrev c_T_isIn : ByteArray := prog_1_method_18_code
def y_T_isIn : MethodName := ⟨R_T, "isIn", "(II)Z"⟩
abbrev c_G_wouldCloseRing : ByteArray := prog_2_method_2_code
def y_G_wouldCloseRing : MethodName := ⟨R_G, "wouldCloseRing", "(II)Z"⟩
abbrev c_G_toldBeforeAny : ByteArray := prog_2_method_8_code
def y_G_toldBeforeAny : MethodName := ⟨R_G, "toldBeforeAny", "(I)I"⟩
abbrev c_G_layersFrom : ByteArray := prog_2_method_7_code
def y_G_layersFrom : MethodName := ⟨R_G, "layersFrom", "(II)I"⟩
abbrev c_G_leastBehind : ByteArray := prog_2_method_9_code
def y_G_leastBehind : MethodName := ⟨R_G, "leastBehind", "(II)I"⟩
abbrev c_G_tellRing : ByteArray := prog_2_method_4_code
def y_G_tellRing : MethodName := ⟨R_G, "tellRing", "(II)V"⟩
abbrev c_G_add : ByteArray := prog_2_method_3_code
def y_G_add : MethodName := ⟨R_G, "add", "(II)V"⟩
abbrev c_T_needs : ByteArray := prog_1_method_3_code
def y_T_needs : MethodName := ⟨R_T, "needs", "(IIZ)I"⟩
abbrev c_T_isDatum : ByteArray := prog_1_method_17_code
def y_T_isDatum : MethodName := ⟨R_T, "isDatum", "(I)Z"⟩
abbrev c_U_addWrite : ByteArray := prog_4_method_6_code
def y_U_addWrite : MethodName := ⟨R_U, "addWrite", "(II)V"⟩
abbrev c_U_addRead : ByteArray := prog_4_method_5_code
def y_U_addRead : MethodName := ⟨R_U, "addRead", "(II)V"⟩
abbrev c_J_bitCount : ByteArray := prog_7_method_49_code
def y_J_bitCount : MethodName := ⟨R_J, "bitCount", "(I)I"⟩
abbrev c_U_dataUsedBy : ByteArray := prog_4_method_7_code
def y_U_dataUsedBy : MethodName := ⟨R_U, "dataUsedBy", "(I)I"⟩
abbrev c_T_area : ByteArray := prog_1_method_4_code
def y_T_area : MethodName := ⟨R_T, "area", "(II)I"⟩
abbrev c_U_opensTask : ByteArray := prog_4_method_11_code
def y_U_opensTask : MethodName := ⟨R_U, "opensTask", "(I)Z"⟩
abbrev c_U_tasksOn : ByteArray := prog_4_method_10_code
def y_U_tasksOn : MethodName := ⟨R_U, "tasksOn", "(I)I"⟩
abbrev c_T_nextPlan : ByteArray := prog_1_method_15_code
def y_T_nextPlan : MethodName := ⟨R_T, "nextPlan", "()LTaskBuild$Plan;"⟩
abbrev c_U_group : ByteArray := prog_4_method_8_code
def y_U_group : MethodName := ⟨R_U, "group", "(II)I"⟩
abbrev c_G_leastFree : ByteArray := prog_2_method_6_code
def y_G_leastFree : MethodName := ⟨R_G, "leastFree", "(I)I"⟩
abbrev c_P_addTask : ByteArray := prog_3_method_5_code
def y_P_addTask : MethodName := ⟨R_P, "addTask", "(IILTaskBuild$Graph;)V"⟩
abbrev c_P_addEventTasks : ByteArray := prog_3_method_3_code
def y_P_addEventTasks : MethodName := ⟨R_P, "addEventTasks", "(ILTaskBuild$Runnables;LTaskBuild$Graph;)V"⟩
abbrev c_U_periodAbove : ByteArray := prog_4_method_9_code
def y_U_periodAbove : MethodName := ⟨R_U, "periodAbove", "(II)I"⟩
abbrev c_P_addPeriodTasks : ByteArray := prog_3_method_4_code
def y_P_addPeriodTasks : MethodName := ⟨R_P, "addPeriodTasks", "(ILTaskBuild$Runnables;LTaskBuild$Graph;)V"⟩
abbrev c_P_layOut : ByteArray := prog_3_method_2_code
def y_P_layOut : MethodName := ⟨R_P, "layOut", "(LTaskBuild$Runnables;LTaskBuild$Graph;)V"⟩
abbrev c_T_build : ByteArray := prog_1_method_5_code
def y_T_build : MethodName := ⟨R_T, "build", "()I"⟩
abbrev c_T_task : ByteArray := prog_1_method_6_code
def y_T_task : MethodName := ⟨R_T, "task", "(I)I"⟩
abbrev c_P_hasTask : ByteArray := prog_3_method_6_code
def y_P_hasTask : MethodName := ⟨R_P, "hasTask", "(I)Z"⟩
abbrev c_P_sizeOf : ByteArray := prog_3_method_7_code
def y_P_sizeOf : MethodName := ⟨R_P, "sizeOf", "(I)I"⟩
abbrev c_P_runnableAt : ByteArray := prog_3_method_8_code
def y_P_runnableAt : MethodName := ⟨R_P, "runnableAt", "(II)I"⟩
abbrev c_T_order : ByteArray := prog_1_method_7_code
def y_T_order : MethodName := ⟨R_T, "order", "(II)I"⟩
abbrev c_T_rank : ByteArray := prog_1_method_8_code
def y_T_rank : MethodName := ⟨R_T, "rank", "(I)I"⟩
abbrev c_P_isWrittenAbove : ByteArray := prog_3_method_12_code
def y_P_isWrittenAbove : MethodName := ⟨R_P, "isWrittenAbove", "(ILTaskBuild$Runnables;I)Z"⟩
abbrev c_P_isCopied : ByteArray := prog_3_method_11_code
def y_P_isCopied : MethodName := ⟨R_P, "isCopied", "(LTaskBuild$Runnables;I)Z"⟩
abbrev c_T_buffer : ByteArray := prog_1_method_9_code
def y_T_buffer : MethodName := ⟨R_T, "buffer", "(I)I"⟩
abbrev c_P_startAt : ByteArray := prog_3_method_10_code
def y_P_startAt : MethodName := ⟨R_P, "startAt", "(II)I"⟩
abbrev c_T_table : ByteArray := prog_1_method_10_code
def y_T_table : MethodName := ⟨R_T, "table", "(II)I"⟩
abbrev c_G_toldAt : ByteArray := prog_2_method_5_code
def y_G_toldAt : MethodName := ⟨R_G, "toldAt", "(I)I"⟩
abbrev c_T_ring : ByteArray := prog_1_method_11_code
def y_T_ring : MethodName := ⟨R_T, "ring", "(I)I"⟩
abbrev c_U_copiesAcross : ByteArray := prog_4_method_12_code
def y_U_copiesAcross : MethodName := ⟨R_U, "copiesAcross", "(I)I"⟩
abbrev c_T_cross : ByteArray := prog_1_method_12_code
def y_T_cross : MethodName := ⟨R_T, "cross", "(I)I"⟩
abbrev c_P_stepsOf : ByteArray := prog_3_method_9_code
def y_P_stepsOf : MethodName := ⟨R_P, "stepsOf", "(ILTaskBuild$Runnables;)I"⟩
abbrev c_T_budget : ByteArray := prog_1_method_13_code
def y_T_budget : MethodName := ⟨R_T, "budget", "(IJ)I"⟩
abbrev c_P_standsIn : ByteArray := prog_3_method_14_code
def y_P_standsIn : MethodName := ⟨R_P, "standsIn", "(LTaskBuild$Plan;I)Z"⟩
abbrev c_P_tasksNotIn : ByteArray := prog_3_method_13_code
def y_P_tasksNotIn : MethodName := ⟨R_P, "tasksNotIn", "(LTaskBuild$Plan;)I"⟩
abbrev c_T_differ : ByteArray := prog_1_method_14_code
def y_T_differ : MethodName := ⟨R_T, "differ", "(I)I"⟩
abbrev c_M_init : ByteArray := prog_6_method_1_code
def y_M_init : MethodName := ⟨R_M, "<init>", "()V"⟩
abbrev c_M_isIn : ByteArray := prog_6_method_3_code
def y_M_isIn : MethodName := ⟨R_M, "isIn", "(JJJ)Z"⟩
abbrev c_M_isRunnable : ByteArray := prog_6_method_4_code
def y_M_isRunnable : MethodName := ⟨R_M, "isRunnable", "(I)Z"⟩
abbrev c_M_runnable : ByteArray := prog_6_method_5_code
def y_M_runnable : MethodName := ⟨R_M, "runnable", "(III)I"⟩
abbrev c_M_measure : ByteArray := prog_6_method_6_code
def y_M_measure : MethodName := ⟨R_M, "measure", "(I)V"⟩
abbrev c_M_tellRing : ByteArray := prog_6_method_7_code
def y_M_tellRing : MethodName := ⟨R_M, "tellRing", "(I)V"⟩
abbrev c_M_needs : ByteArray := prog_6_method_8_code
def y_M_needs : MethodName := ⟨R_M, "needs", "(IIZ)I"⟩
abbrev c_M_ring : ByteArray := prog_6_method_9_code
def y_M_ring : MethodName := ⟨R_M, "ring", "(I)I"⟩
abbrev c_M_area : ByteArray := prog_6_method_10_code
def y_M_area : MethodName := ⟨R_M, "area", "(II)I"⟩
abbrev c_M_behind : ByteArray := prog_6_method_11_code
def y_M_behind : MethodName := ⟨R_M, "behind", "(I)I"⟩
abbrev c_M_addTask : ByteArray := prog_6_method_12_code
def y_M_addTask : MethodName := ⟨R_M, "addTask", "(III)V"⟩
abbrev c_M_with : ByteArray := prog_6_method_13_code
def y_M_with : MethodName := ⟨R_M, "with", "(II)I"⟩
abbrev c_M_tasksOn : ByteArray := prog_6_method_14_code
def y_M_tasksOn : MethodName := ⟨R_M, "tasksOn", "(I)I"⟩
abbrev c_M_makeTasks : ByteArray := prog_6_method_15_code
def y_M_makeTasks : MethodName := ⟨R_M, "makeTasks", "(I)V"⟩
abbrev c_M_keep : ByteArray := prog_6_method_17_code
def y_M_keep : MethodName := ⟨R_M, "keep", "(I)V"⟩
abbrev c_M_build : ByteArray := prog_6_method_16_code
def y_M_build : MethodName := ⟨R_M, "build", "()I"⟩
abbrev c_M_from : ByteArray := prog_6_method_18_code
def y_M_from : MethodName := ⟨R_M, "from", "(II)I"⟩
abbrev c_M_isTask : ByteArray := prog_6_method_19_code
def y_M_isTask : MethodName := ⟨R_M, "isTask", "(I)Z"⟩
abbrev c_M_task : ByteArray := prog_6_method_20_code
def y_M_task : MethodName := ⟨R_M, "task", "(I)I"⟩
abbrev c_M_order : ByteArray := prog_6_method_21_code
def y_M_order : MethodName := ⟨R_M, "order", "(II)I"⟩
abbrev c_M_rankOf : ByteArray := prog_6_method_22_code
def y_M_rankOf : MethodName := ⟨R_M, "rankOf", "(I)I"⟩
abbrev c_M_rank : ByteArray := prog_6_method_23_code
def y_M_rank : MethodName := ⟨R_M, "rank", "(I)I"⟩
abbrev c_M_isCopied : ByteArray := prog_6_method_24_code
def y_M_isCopied : MethodName := ⟨R_M, "isCopied", "(I)Z"⟩
abbrev c_M_buffer : ByteArray := prog_6_method_25_code
def y_M_buffer : MethodName := ⟨R_M, "buffer", "(I)I"⟩
abbrev c_M_table : ByteArray := prog_6_method_26_code
def y_M_table : MethodName := ⟨R_M, "table", "(II)I"⟩
abbrev c_M_cross : ByteArray := prog_6_method_27_code
def y_M_cross : MethodName := ⟨R_M, "cross", "(I)I"⟩
abbrev c_M_budget : ByteArray := prog_6_method_28_code
def y_M_budget : MethodName := ⟨R_M, "budget", "(IJ)I"⟩
abbrev c_M_isSame : ByteArray := prog_6_method_29_code
def y_M_isSame : MethodName := ⟨R_M, "isSame", "(III)Z"⟩
abbrev c_M_differ : ByteArray := prog_6_method_30_code
def y_M_differ : MethodName := ⟨R_M, "differ", "(I)I"⟩
end
section
theorem d_T_init_0 : decode c_T_init 0 = .ok (.aload_n 0, 1) := by decide +kernel
theorem d_T_init_1 : decode c_T_init 1 = .ok (.invokespecial 1, 3) := by decide +kernel
theorem d_T_init_4 : decode c_T_init 4 = .ok (.aload_n 0, 1) := by decide +kernel
theorem d_T_init_5 : decode c_T_init 5 = .ok (.new 7, 3) := by decide +kernel
theorem d_T_init_8 : decode c_T_init 8 = .ok (.dup, 1) := by decide +kernel
theorem d_T_init_9 : decode c_T_init 9 = .ok (.invokespecial 9, 3) := by decide +kernel
theorem d_T_init_12 : decode c_T_init 12 = .ok (.putfield 10, 3) := by decide +kernel
theorem d_T_init_15 : decode c_T_init 15 = .ok (.aload_n 0, 1) := by decide +kernel
theorem d_T_init_16 : decode c_T_init 16 = .ok (.new 16, 3) := by decide +kernel
theorem d_T_init_19 : decode c_T_init 19 = .ok (.dup, 1) := by decide +kernel
theorem d_T_init_20 : decode c_T_init 20 = .ok (.invokespecial 18, 3) := by decide +kernel
theorem d_T_init_23 : decode c_T_init 23 = .ok (.putfield 19, 3) := by decide +kernel
theorem d_T_init_26 : decode c_T_init 26 = .ok (.aload_n 0, 1) := by decide +kernel
theorem d_T_init_27 : decode c_T_init 27 = .ok (.bipush 40, 2) := by decide +kernel
theorem d_T_init_29 : decode c_T_init 29 = .ok (.anewarray 23, 3) := by decide +kernel
theorem d_T_init_32 : decode c_T_init 32 = .ok (.putfield 25, 3) := by decide +kernel
theorem d_T_init_35 : decode c_T_init 35 = .ok (.aload_n 0, 1) := by decide +kernel
theorem d_T_init_36 : decode c_T_init 36 = .ok (.new 23, 3) := by decide +kernel
theorem d_T_init_39 : decode c_T_init 39 = .ok (.dup, 1) := by decide +kernel
theorem d_T_init_40 : decode c_T_init 40 = .ok (.invokespecial 29, 3) := by decide +kernel
theorem d_T_init_43 : decode c_T_init 43 = .ok (.putfield 30, 3) := by decide +kernel
theorem d_T_init_46 : decode c_T_init 46 = .ok (.return_, 1) := by decide +kernel
theorem d_T_isWithin_0 : decode c_T_isWithin 0 = .ok (.iload_n 0, 1) := by decide +kernel
theorem d_T_isWithin_1 : decode c_T_isWithin 1 = .ok (.iload_n 1, 1) := by decide +kernel
theorem d_T_isWithin_2 : decode c_T_isWithin 2 = .ok (.if_icmp .lt 12, 3) := by decide +kernel
theorem d_T_isWithin_5 : decode c_T_isWithin 5 = .ok (.iload_n 0, 1) := by decide +kernel
theorem d_T_isWithin_6 : decode c_T_isWithin 6 = .ok (.iload_n 2, 1) := by decide +kernel
theorem d_T_isWithin_7 : decode c_T_isWithin 7 = .ok (.if_icmp .gt 7, 3) := by decide +kernel
theorem d_T_isWithin_10 : decode c_T_isWithin 10 = .ok (.iconst 1, 1) := by decide +kernel
theorem d_T_isWithin_11 : decode c_T_isWithin 11 = .ok (.goto 4, 3) := by decide +kernel
theorem d_T_isWithin_14 : decode c_T_isWithin 14 = .ok (.iconst 0, 1) := by decide +kernel
theorem d_T_isWithin_15 : decode c_T_isWithin 15 = .ok (.ireturn, 1) := by decide +kernel
theorem d_T_runnable_0 : decode c_T_runnable 0 = .ok (.iload_n 1, 1) := by decide +kernel
theorem d_T_runnable_1 : decode c_T_runnable 1 = .ok (.iconst 0, 1) := by decide +kernel
theorem d_T_runnable_2 : decode c_T_runnable 2 = .ok (.sipush 1000, 3) := by decide +kernel
theorem d_T_runnable_5 : decode c_T_runnable 5 = .ok (.invokestatic 34, 3) := by decide +kernel
theorem d_T_runnable_8 : decode c_T_runnable 8 = .ok (.ifCond .eq 22, 3) := by decide +kernel
theorem d_T_runnable_11 : decode c_T_runnable 11 = .ok (.iload_n 2, 1) := by decide +kernel
theorem d_T_runnable_12 : decode c_T_runnable 12 = .ok (.iconst 1, 1) := by decide +kernel
theorem d_T_runnable_13 : decode c_T_runnable 13 = .ok (.iconst 4, 1) := by decide +kernel
theorem d_T_runnable_14 : decode c_T_runnable 14 = .ok (.invokestatic 34, 3) := by decide +kernel
theorem d_T_runnable_17 : decode c_T_runnable 17 = .ok (.ifCond .eq 13, 3) := by decide +kernel
theorem d_T_runnable_20 : decode c_T_runnable 20 = .ok (.iload_n 3, 1) := by decide +kernel
theorem d_T_runnable_21 : decode c_T_runnable 21 = .ok (.iconst 0, 1) := by decide +kernel
theorem d_T_runnable_22 : decode c_T_runnable 22 = .ok (.ldc 38, 2) := by decide +kernel
theorem d_T_runnable_24 : decode c_T_runnable 24 = .ok (.invokestatic 34, 3) := by decide +kernel
theorem d_T_runnable_27 : decode c_T_runnable 27 = .ok (.ifCond .ne 6, 3) := by decide +kernel
theorem d_T_runnable_30 : decode c_T_runnable 30 = .ok (.bipush (-2), 2) := by decide +kernel
theorem d_T_runnable_32 : decode c_T_runnable 32 = .ok (.ireturn, 1) := by decide +kernel
theorem d_T_runnable_33 : decode c_T_runnable 33 = .ok (.aload_n 0, 1) := by decide +kernel
theorem d_T_runnable_34 : decode c_T_runnable 34 = .ok (.getfield 10, 3) := by decide +kernel
theorem d_T_runnable_37 : decode c_T_runnable 37 = .ok (.invokevirtual 39, 3) := by decide +kernel
theorem d_T_runnable_40 : decode c_T_runnable 40 = .ok (.ifCond .eq 6, 3) := by decide +kernel
theorem d_T_runnable_43 : decode c_T_runnable 43 = .ok (.bipush (-4), 2) := by decide +kernel
theorem d_T_runnable_45 : decode c_T_runnable 45 = .ok (.ireturn, 1) := by decide +kernel
theorem d_T_runnable_46 : decode c_T_runnable 46 = .ok (.aload_n 0, 1) := by decide +kernel
theorem d_T_runnable_47 : decode c_T_runnable 47 = .ok (.aconst_null, 1) := by decide +kernel
theorem d_T_runnable_48 : decode c_T_runnable 48 = .ok (.putfield 43, 3) := by decide +kernel
theorem d_T_runnable_51 : decode c_T_runnable 51 = .ok (.aload_n 0, 1) := by decide +kernel
theorem d_T_runnable_52 : decode c_T_runnable 52 = .ok (.getfield 10, 3) := by decide +kernel
theorem d_T_runnable_55 : decode c_T_runnable 55 = .ok (.iload_n 1, 1) := by decide +kernel
theorem d_T_runnable_56 : decode c_T_runnable 56 = .ok (.iload_n 2, 1) := by decide +kernel
theorem d_T_runnable_57 : decode c_T_runnable 57 = .ok (.iload_n 3, 1) := by decide +kernel
theorem d_T_runnable_58 : decode c_T_runnable 58 = .ok (.invokevirtual 46, 3) := by decide +kernel
theorem d_T_runnable_61 : decode c_T_runnable 61 = .ok (.ireturn, 1) := by decide +kernel
theorem d_T_isIn_0 : decode c_T_isIn 0 = .ok (.iload_n 0, 1) := by decide +kernel
theorem d_T_isIn_1 : decode c_T_isIn 1 = .ok (.iconst 1, 1) := by decide +kernel
theorem d_T_isIn_2 : decode c_T_isIn 2 = .ok (.iload_n 1, 1) := by decide +kernel
theorem d_T_isIn_3 : decode c_T_isIn 3 = .ok (.ishl, 1) := by decide +kernel
theorem d_T_isIn_4 : decode c_T_isIn 4 = .ok (.iand, 1) := by decide +kernel
theorem d_T_isIn_5 : decode c_T_isIn 5 = .ok (.ifCond .eq 7, 3) := by decide +kernel
theorem d_T_isIn_8 : decode c_T_isIn 8 = .ok (.iconst 1, 1) := by decide +kernel
theorem d_T_isIn_9 : decode c_T_isIn 9 = .ok (.goto 4, 3) := by decide +kernel
theorem d_T_isIn_12 : decode c_T_isIn 12 = .ok (.iconst 0, 1) := by decide +kernel
theorem d_T_isIn_13 : decode c_T_isIn 13 = .ok (.ireturn, 1) := by decide +kernel
theorem d_T_needs_0 : decode c_T_needs 0 = .ok (.aload_n 0, 1) := by decide +kernel
theorem d_T_needs_1 : decode c_T_needs 1 = .ok (.getfield 10, 3) := by decide +kernel
theorem d_T_needs_4 : decode c_T_needs 4 = .ok (.iload_n 1, 1) := by decide +kernel
theorem d_T_needs_5 : decode c_T_needs 5 = .ok (.invokevirtual 50, 3) := by decide +kernel
theorem d_T_needs_8 : decode c_T_needs 8 = .ok (.ifCond .eq 14, 3) := by decide +kernel
theorem d_T_needs_11 : decode c_T_needs 11 = .ok (.aload_n 0, 1) := by decide +kernel
theorem d_T_needs_12 : decode c_T_needs 12 = .ok (.getfield 10, 3) := by decide +kernel
theorem d_T_needs_15 : decode c_T_needs 15 = .ok (.iload_n 2, 1) := by decide +kernel
theorem d_T_needs_16 : decode c_T_needs 16 = .ok (.invokevirtual 50, 3) := by decide +kernel
theorem d_T_needs_19 : decode c_T_needs 19 = .ok (.ifCond .ne 5, 3) := by decide +kernel
theorem d_T_needs_22 : decode c_T_needs 22 = .ok (.iconst (-1), 1) := by decide +kernel
theorem d_T_needs_23 : decode c_T_needs 23 = .ok (.ireturn, 1) := by decide +kernel
theorem d_T_needs_24 : decode c_T_needs 24 = .ok (.iload_n 3, 1) := by decide +kernel
theorem d_T_needs_25 : decode c_T_needs 25 = .ok (.ifCond .ne 35, 3) := by decide +kernel
theorem d_T_needs_28 : decode c_T_needs 28 = .ok (.aload_n 0, 1) := by decide +kernel
theorem d_T_needs_29 : decode c_T_needs 29 = .ok (.getfield 19, 3) := by decide +kernel
theorem d_T_needs_32 : decode c_T_needs 32 = .ok (.iload_n 1, 1) := by decide +kernel
theorem d_T_needs_33 : decode c_T_needs 33 = .ok (.iload_n 2, 1) := by decide +kernel
theorem d_T_needs_34 : decode c_T_needs 34 = .ok (.invokevirtual 54, 3) := by decide +kernel
theorem d_T_needs_37 : decode c_T_needs 37 = .ok (.ifCond .eq 14, 3) := by decide +kernel
theorem d_T_needs_40 : decode c_T_needs 40 = .ok (.aload_n 0, 1) := by decide +kernel
theorem d_T_needs_41 : decode c_T_needs 41 = .ok (.getfield 19, 3) := by decide +kernel
theorem d_T_needs_44 : decode c_T_needs 44 = .ok (.iload_n 1, 1) := by decide +kernel
theorem d_T_needs_45 : decode c_T_needs 45 = .ok (.iload_n 2, 1) := by decide +kernel
theorem d_T_needs_46 : decode c_T_needs 46 = .ok (.invokevirtual 58, 3) := by decide +kernel
theorem d_T_needs_49 : decode c_T_needs 49 = .ok (.iconst 0, 1) := by decide +kernel
theorem d_T_needs_50 : decode c_T_needs 50 = .ok (.ireturn, 1) := by decide +kernel
theorem d_T_needs_51 : decode c_T_needs 51 = .ok (.aload_n 0, 1) := by decide +kernel
theorem d_T_needs_52 : decode c_T_needs 52 = .ok (.getfield 19, 3) := by decide +kernel
theorem d_T_needs_55 : decode c_T_needs 55 = .ok (.iload_n 1, 1) := by decide +kernel
theorem d_T_needs_56 : decode c_T_needs 56 = .ok (.iload_n 2, 1) := by decide +kernel
theorem d_T_needs_57 : decode c_T_needs 57 = .ok (.invokevirtual 62, 3) := by decide +kernel
theorem d_T_needs_60 : decode c_T_needs 60 = .ok (.aload_n 0, 1) := by decide +kernel
theorem d_T_needs_61 : decode c_T_needs 61 = .ok (.aconst_null, 1) := by decide +kernel
theorem d_T_needs_62 : decode c_T_needs 62 = .ok (.putfield 43, 3) := by decide +kernel
theorem d_T_needs_65 : decode c_T_needs 65 = .ok (.iconst 1, 1) := by decide +kernel
theorem d_T_needs_66 : decode c_T_needs 66 = .ok (.ireturn, 1) := by decide +kernel
theorem d_T_isDatum_0 : decode c_T_isDatum 0 = .ok (.iload_n 0, 1) := by decide +kernel
theorem d_T_isDatum_1 : decode c_T_isDatum 1 = .ok (.iconst 1, 1) := by decide +kernel
theorem d_T_isDatum_2 : decode c_T_isDatum 2 = .ok (.bipush 20, 2) := by decide +kernel
theorem d_T_isDatum_4 : decode c_T_isDatum 4 = .ok (.invokestatic 34, 3) := by decide +kernel
theorem d_T_isDatum_7 : decode c_T_isDatum 7 = .ok (.ireturn, 1) := by decide +kernel
theorem d_J_bitCount_0 : decode c_J_bitCount 0 = .ok (.iload_n 0, 1) := by decide +kernel
theorem d_J_bitCount_1 : decode c_J_bitCount 1 = .ok (.iload_n 0, 1) := by decide +kernel
theorem d_J_bitCount_2 : decode c_J_bitCount 2 = .ok (.iconst 1, 1) := by decide +kernel
theorem d_J_bitCount_3 : decode c_J_bitCount 3 = .ok (.iushr, 1) := by decide +kernel
theorem d_J_bitCount_4 : decode c_J_bitCount 4 = .ok (.ldc_w 265, 3) := by decide +kernel
theorem d_J_bitCount_7 : decode c_J_bitCount 7 = .ok (.iand, 1) := by decide +kernel
theorem d_J_bitCount_8 : decode c_J_bitCount 8 = .ok (.isub, 1) := by decide +kernel
theorem d_J_bitCount_9 : decode c_J_bitCount 9 = .ok (.istore_n 0, 1) := by decide +kernel
theorem d_J_bitCount_10 : decode c_J_bitCount 10 = .ok (.iload_n 0, 1) := by decide +kernel
theorem d_J_bitCount_11 : decode c_J_bitCount 11 = .ok (.ldc_w 266, 3) := by decide +kernel
theorem d_J_bitCount_14 : decode c_J_bitCount 14 = .ok (.iand, 1) := by decide +kernel
theorem d_J_bitCount_15 : decode c_J_bitCount 15 = .ok (.iload_n 0, 1) := by decide +kernel
theorem d_J_bitCount_16 : decode c_J_bitCount 16 = .ok (.iconst 2, 1) := by decide +kernel
theorem d_J_bitCount_17 : decode c_J_bitCount 17 = .ok (.iushr, 1) := by decide +kernel
theorem d_J_bitCount_18 : decode c_J_bitCount 18 = .ok (.ldc_w 266, 3) := by decide +kernel
theorem d_J_bitCount_21 : decode c_J_bitCount 21 = .ok (.iand, 1) := by decide +kernel
theorem d_J_bitCount_22 : decode c_J_bitCount 22 = .ok (.iadd, 1) := by decide +kernel
theorem d_J_bitCount_23 : decode c_J_bitCount 23 = .ok (.istore_n 0, 1) := by decide +kernel
theorem d_J_bitCount_24 : decode c_J_bitCount 24 = .ok (.iload_n 0, 1) := by decide +kernel
theorem d_J_bitCount_25 : decode c_J_bitCount 25 = .ok (.iload_n 0, 1) := by decide +kernel
theorem d_J_bitCount_26 : decode c_J_bitCount 26 = .ok (.iconst 4, 1) := by decide +kernel
theorem d_J_bitCount_27 : decode c_J_bitCount 27 = .ok (.iushr, 1) := by decide +kernel
theorem d_J_bitCount_28 : decode c_J_bitCount 28 = .ok (.iadd, 1) := by decide +kernel
theorem d_J_bitCount_29 : decode c_J_bitCount 29 = .ok (.ldc_w 267, 3) := by decide +kernel
theorem d_J_bitCount_32 : decode c_J_bitCount 32 = .ok (.iand, 1) := by decide +kernel
theorem d_J_bitCount_33 : decode c_J_bitCount 33 = .ok (.istore_n 0, 1) := by decide +kernel
theorem d_J_bitCount_34 : decode c_J_bitCount 34 = .ok (.iload_n 0, 1) := by decide +kernel
theorem d_J_bitCount_35 : decode c_J_bitCount 35 = .ok (.iload_n 0, 1) := by decide +kernel
theorem d_J_bitCount_36 : decode c_J_bitCount 36 = .ok (.bipush 8, 2) := by decide +kernel
theorem d_J_bitCount_38 : decode c_J_bitCount 38 = .ok (.iushr, 1) := by decide +kernel
theorem d_J_bitCount_39 : decode c_J_bitCount 39 = .ok (.iadd, 1) := by decide +kernel
theorem d_J_bitCount_40 : decode c_J_bitCount 40 = .ok (.istore_n 0, 1) := by decide +kernel
theorem d_J_bitCount_41 : decode c_J_bitCount 41 = .ok (.iload_n 0, 1) := by decide +kernel
theorem d_J_bitCount_42 : decode c_J_bitCount 42 = .ok (.iload_n 0, 1) := by decide +kernel
theorem d_J_bitCount_43 : decode c_J_bitCount 43 = .ok (.bipush 16, 2) := by decide +kernel
theorem d_J_bitCount_45 : decode c_J_bitCount 45 = .ok (.iushr, 1) := by decide +kernel
theorem d_J_bitCount_46 : decode c_J_bitCount 46 = .ok (.iadd, 1) := by decide +kernel
theorem d_J_bitCount_47 : decode c_J_bitCount 47 = .ok (.istore_n 0, 1) := by decide +kernel
theorem d_J_bitCount_48 : decode c_J_bitCount 48 = .ok (.iload_n 0, 1) := by decide +kernel
theorem d_J_bitCount_49 : decode c_J_bitCount 49 = .ok (.bipush 63, 2) := by decide +kernel
theorem d_J_bitCount_51 : decode c_J_bitCount 51 = .ok (.iand, 1) := by decide +kernel
theorem d_J_bitCount_52 : decode c_J_bitCount 52 = .ok (.ireturn, 1) := by decide +kernel
theorem d_T_area_0 : decode c_T_area 0 = .ok (.aload_n 0, 1) := by decide +kernel
theorem d_T_area_1 : decode c_T_area 1 = .ok (.getfield 10, 3) := by decide +kernel
theorem d_T_area_4 : decode c_T_area 4 = .ok (.iload_n 1, 1) := by decide +kernel
theorem d_T_area_5 : decode c_T_area 5 = .ok (.invokevirtual 50, 3) := by decide +kernel
theorem d_T_area_8 : decode c_T_area 8 = .ok (.ifCond .ne 5, 3) := by decide +kernel
theorem d_T_area_11 : decode c_T_area 11 = .ok (.iconst (-1), 1) := by decide +kernel
theorem d_T_area_12 : decode c_T_area 12 = .ok (.ireturn, 1) := by decide +kernel
theorem d_T_area_13 : decode c_T_area 13 = .ok (.iload_n 2, 1) := by decide +kernel
theorem d_T_area_14 : decode c_T_area 14 = .ok (.ifCond .ge 7, 3) := by decide +kernel
theorem d_T_area_17 : decode c_T_area 17 = .ok (.iconst 1, 1) := by decide +kernel
theorem d_T_area_18 : decode c_T_area 18 = .ok (.goto 4, 3) := by decide +kernel
theorem d_T_area_21 : decode c_T_area 21 = .ok (.iconst 0, 1) := by decide +kernel
theorem d_T_area_22 : decode c_T_area 22 = .ok (.istore_n 3, 1) := by decide +kernel
theorem d_T_area_23 : decode c_T_area 23 = .ok (.iload_n 3, 1) := by decide +kernel
theorem d_T_area_24 : decode c_T_area 24 = .ok (.ifCond .eq 8, 3) := by decide +kernel
theorem d_T_area_27 : decode c_T_area 27 = .ok (.iload_n 2, 1) := by decide +kernel
theorem d_T_area_28 : decode c_T_area 28 = .ok (.ineg, 1) := by decide +kernel
theorem d_T_area_29 : decode c_T_area 29 = .ok (.goto 4, 3) := by decide +kernel
theorem d_T_area_32 : decode c_T_area 32 = .ok (.iload_n 2, 1) := by decide +kernel
theorem d_T_area_33 : decode c_T_area 33 = .ok (.istore 4, 2) := by decide +kernel
theorem d_T_area_35 : decode c_T_area 35 = .ok (.iload 4, 2) := by decide +kernel
theorem d_T_area_37 : decode c_T_area 37 = .ok (.invokestatic 64, 3) := by decide +kernel
theorem d_T_area_40 : decode c_T_area 40 = .ok (.ifCond .ne 6, 3) := by decide +kernel
theorem d_T_area_43 : decode c_T_area 43 = .ok (.bipush (-2), 2) := by decide +kernel
theorem d_T_area_45 : decode c_T_area 45 = .ok (.ireturn, 1) := by decide +kernel
theorem d_T_area_46 : decode c_T_area 46 = .ok (.aload_n 0, 1) := by decide +kernel
theorem d_T_area_47 : decode c_T_area 47 = .ok (.aconst_null, 1) := by decide +kernel
theorem d_T_area_48 : decode c_T_area 48 = .ok (.putfield 43, 3) := by decide +kernel
theorem d_T_area_51 : decode c_T_area 51 = .ok (.iload_n 3, 1) := by decide +kernel
theorem d_T_area_52 : decode c_T_area 52 = .ok (.ifCond .eq 16, 3) := by decide +kernel
theorem d_T_area_55 : decode c_T_area 55 = .ok (.aload_n 0, 1) := by decide +kernel
theorem d_T_area_56 : decode c_T_area 56 = .ok (.getfield 10, 3) := by decide +kernel
theorem d_T_area_59 : decode c_T_area 59 = .ok (.iload_n 1, 1) := by decide +kernel
theorem d_T_area_60 : decode c_T_area 60 = .ok (.iload 4, 2) := by decide +kernel
theorem d_T_area_62 : decode c_T_area 62 = .ok (.invokevirtual 67, 3) := by decide +kernel
theorem d_T_area_65 : decode c_T_area 65 = .ok (.goto 13, 3) := by decide +kernel
theorem d_T_area_68 : decode c_T_area 68 = .ok (.aload_n 0, 1) := by decide +kernel
theorem d_T_area_69 : decode c_T_area 69 = .ok (.getfield 10, 3) := by decide +kernel
theorem d_T_area_72 : decode c_T_area 72 = .ok (.iload_n 1, 1) := by decide +kernel
theorem d_T_area_73 : decode c_T_area 73 = .ok (.iload 4, 2) := by decide +kernel
theorem d_T_area_75 : decode c_T_area 75 = .ok (.invokevirtual 70, 3) := by decide +kernel
theorem d_T_area_78 : decode c_T_area 78 = .ok (.aload_n 0, 1) := by decide +kernel
theorem d_T_area_79 : decode c_T_area 79 = .ok (.getfield 10, 3) := by decide +kernel
theorem d_T_area_82 : decode c_T_area 82 = .ok (.iload_n 1, 1) := by decide +kernel
theorem d_T_area_83 : decode c_T_area 83 = .ok (.invokevirtual 73, 3) := by decide +kernel
theorem d_T_area_86 : decode c_T_area 86 = .ok (.ireturn, 1) := by decide +kernel
theorem d_T_nextPlan_0 : decode c_T_nextPlan 0 = .ok (.aload_n 0, 1) := by decide +kernel
theorem d_T_nextPlan_1 : decode c_T_nextPlan 1 = .ok (.getfield 123, 3) := by decide +kernel
theorem d_T_nextPlan_4 : decode c_T_nextPlan 4 = .ok (.aload_n 0, 1) := by decide +kernel
theorem d_T_nextPlan_5 : decode c_T_nextPlan 5 = .ok (.getfield 25, 3) := by decide +kernel
theorem d_T_nextPlan_8 : decode c_T_nextPlan 8 = .ok (.arraylength, 1) := by decide +kernel
theorem d_T_nextPlan_9 : decode c_T_nextPlan 9 = .ok (.if_icmp .lt 8, 3) := by decide +kernel
theorem d_T_nextPlan_12 : decode c_T_nextPlan 12 = .ok (.aload_n 0, 1) := by decide +kernel
theorem d_T_nextPlan_13 : decode c_T_nextPlan 13 = .ok (.getfield 30, 3) := by decide +kernel
theorem d_T_nextPlan_16 : decode c_T_nextPlan 16 = .ok (.areturn, 1) := by decide +kernel
theorem d_T_nextPlan_17 : decode c_T_nextPlan 17 = .ok (.new 23, 3) := by decide +kernel
theorem d_T_nextPlan_20 : decode c_T_nextPlan 20 = .ok (.dup, 1) := by decide +kernel
theorem d_T_nextPlan_21 : decode c_T_nextPlan 21 = .ok (.invokespecial 29, 3) := by decide +kernel
theorem d_T_nextPlan_24 : decode c_T_nextPlan 24 = .ok (.astore_n 1, 1) := by decide +kernel
theorem d_T_nextPlan_25 : decode c_T_nextPlan 25 = .ok (.aload_n 0, 1) := by decide +kernel
theorem d_T_nextPlan_26 : decode c_T_nextPlan 26 = .ok (.getfield 25, 3) := by decide +kernel
theorem d_T_nextPlan_29 : decode c_T_nextPlan 29 = .ok (.aload_n 0, 1) := by decide +kernel
theorem d_T_nextPlan_30 : decode c_T_nextPlan 30 = .ok (.getfield 123, 3) := by decide +kernel
theorem d_T_nextPlan_33 : decode c_T_nextPlan 33 = .ok (.aload_n 1, 1) := by decide +kernel
theorem d_T_nextPlan_34 : decode c_T_nextPlan 34 = .ok (.aastore, 1) := by decide +kernel
theorem d_T_nextPlan_35 : decode c_T_nextPlan 35 = .ok (.aload_n 0, 1) := by decide +kernel
theorem d_T_nextPlan_36 : decode c_T_nextPlan 36 = .ok (.dup, 1) := by decide +kernel
theorem d_T_nextPlan_37 : decode c_T_nextPlan 37 = .ok (.getfield 123, 3) := by decide +kernel
theorem d_T_nextPlan_40 : decode c_T_nextPlan 40 = .ok (.iconst 1, 1) := by decide +kernel
theorem d_T_nextPlan_41 : decode c_T_nextPlan 41 = .ok (.iadd, 1) := by decide +kernel
theorem d_T_nextPlan_42 : decode c_T_nextPlan 42 = .ok (.putfield 123, 3) := by decide +kernel
theorem d_T_nextPlan_45 : decode c_T_nextPlan 45 = .ok (.aload_n 1, 1) := by decide +kernel
theorem d_T_nextPlan_46 : decode c_T_nextPlan 46 = .ok (.areturn, 1) := by decide +kernel
theorem d_T_build_0 : decode c_T_build 0 = .ok (.aload_n 0, 1) := by decide +kernel
theorem d_T_build_1 : decode c_T_build 1 = .ok (.aconst_null, 1) := by decide +kernel
theorem d_T_build_2 : decode c_T_build 2 = .ok (.putfield 43, 3) := by decide +kernel
theorem d_T_build_5 : decode c_T_build 5 = .ok (.iconst 1, 1) := by decide +kernel
theorem d_T_build_6 : decode c_T_build 6 = .ok (.istore_n 1, 1) := by decide +kernel
theorem d_T_build_7 : decode c_T_build 7 = .ok (.iload_n 1, 1) := by decide +kernel
theorem d_T_build_8 : decode c_T_build 8 = .ok (.iconst 4, 1) := by decide +kernel
theorem d_T_build_9 : decode c_T_build 9 = .ok (.if_icmp .gt 25, 3) := by decide +kernel
theorem d_T_build_12 : decode c_T_build 12 = .ok (.aload_n 0, 1) := by decide +kernel
theorem d_T_build_13 : decode c_T_build 13 = .ok (.getfield 10, 3) := by decide +kernel
theorem d_T_build_16 : decode c_T_build 16 = .ok (.iload_n 1, 1) := by decide +kernel
theorem d_T_build_17 : decode c_T_build 17 = .ok (.invokevirtual 77, 3) := by decide +kernel
theorem d_T_build_20 : decode c_T_build 20 = .ok (.bipush 12, 2) := by decide +kernel
theorem d_T_build_22 : decode c_T_build 22 = .ok (.if_icmp .le 6, 3) := by decide +kernel
theorem d_T_build_25 : decode c_T_build 25 = .ok (.bipush (-4), 2) := by decide +kernel
theorem d_T_build_27 : decode c_T_build 27 = .ok (.ireturn, 1) := by decide +kernel
theorem d_T_build_28 : decode c_T_build 28 = .ok (.iinc 1 1, 3) := by decide +kernel
theorem d_T_build_31 : decode c_T_build 31 = .ok (.goto (-24), 3) := by decide +kernel
theorem d_T_build_34 : decode c_T_build 34 = .ok (.aload_n 0, 1) := by decide +kernel
theorem d_T_build_35 : decode c_T_build 35 = .ok (.invokevirtual 80, 3) := by decide +kernel
theorem d_T_build_38 : decode c_T_build 38 = .ok (.astore_n 1, 1) := by decide +kernel
theorem d_T_build_39 : decode c_T_build 39 = .ok (.aload_n 1, 1) := by decide +kernel
theorem d_T_build_40 : decode c_T_build 40 = .ok (.aload_n 0, 1) := by decide +kernel
theorem d_T_build_41 : decode c_T_build 41 = .ok (.getfield 10, 3) := by decide +kernel
theorem d_T_build_44 : decode c_T_build 44 = .ok (.aload_n 0, 1) := by decide +kernel
theorem d_T_build_45 : decode c_T_build 45 = .ok (.getfield 19, 3) := by decide +kernel
theorem d_T_build_48 : decode c_T_build 48 = .ok (.invokevirtual 84, 3) := by decide +kernel
theorem d_T_build_51 : decode c_T_build 51 = .ok (.aload_n 0, 1) := by decide +kernel
theorem d_T_build_52 : decode c_T_build 52 = .ok (.aload_n 1, 1) := by decide +kernel
theorem d_T_build_53 : decode c_T_build 53 = .ok (.putfield 43, 3) := by decide +kernel
theorem d_T_build_56 : decode c_T_build 56 = .ok (.aload_n 1, 1) := by decide +kernel
theorem d_T_build_57 : decode c_T_build 57 = .ok (.getfield 88, 3) := by decide +kernel
theorem d_T_build_60 : decode c_T_build 60 = .ok (.ireturn, 1) := by decide +kernel
theorem d_T_task_0 : decode c_T_task 0 = .ok (.aload_n 0, 1) := by decide +kernel
theorem d_T_task_1 : decode c_T_task 1 = .ok (.getfield 10, 3) := by decide +kernel
theorem d_T_task_4 : decode c_T_task 4 = .ok (.iload_n 1, 1) := by decide +kernel
theorem d_T_task_5 : decode c_T_task 5 = .ok (.invokevirtual 50, 3) := by decide +kernel
theorem d_T_task_8 : decode c_T_task 8 = .ok (.ifCond .ne 5, 3) := by decide +kernel
theorem d_T_task_11 : decode c_T_task 11 = .ok (.iconst (-1), 1) := by decide +kernel
theorem d_T_task_12 : decode c_T_task 12 = .ok (.ireturn, 1) := by decide +kernel
theorem d_T_task_13 : decode c_T_task 13 = .ok (.aload_n 0, 1) := by decide +kernel
theorem d_T_task_14 : decode c_T_task 14 = .ok (.getfield 43, 3) := by decide +kernel
theorem d_T_task_17 : decode c_T_task 17 = .ok (.ifnonnull 6, 3) := by decide +kernel
theorem d_T_task_20 : decode c_T_task 20 = .ok (.bipush (-3), 2) := by decide +kernel
theorem d_T_task_22 : decode c_T_task 22 = .ok (.ireturn, 1) := by decide +kernel
theorem d_T_task_23 : decode c_T_task 23 = .ok (.aload_n 0, 1) := by decide +kernel
theorem d_T_task_24 : decode c_T_task 24 = .ok (.getfield 43, 3) := by decide +kernel
theorem d_T_task_27 : decode c_T_task 27 = .ok (.getfield 92, 3) := by decide +kernel
theorem d_T_task_30 : decode c_T_task 30 = .ok (.iload_n 1, 1) := by decide +kernel
theorem d_T_task_31 : decode c_T_task 31 = .ok (.iaload, 1) := by decide +kernel
theorem d_T_task_32 : decode c_T_task 32 = .ok (.ireturn, 1) := by decide +kernel
theorem d_T_order_0 : decode c_T_order 0 = .ok (.aload_n 0, 1) := by decide +kernel
theorem d_T_order_1 : decode c_T_order 1 = .ok (.getfield 43, 3) := by decide +kernel
theorem d_T_order_4 : decode c_T_order 4 = .ok (.ifnonnull 6, 3) := by decide +kernel
theorem d_T_order_7 : decode c_T_order 7 = .ok (.bipush (-3), 2) := by decide +kernel
theorem d_T_order_9 : decode c_T_order 9 = .ok (.ireturn, 1) := by decide +kernel
theorem d_T_order_10 : decode c_T_order 10 = .ok (.aload_n 0, 1) := by decide +kernel
theorem d_T_order_11 : decode c_T_order 11 = .ok (.getfield 43, 3) := by decide +kernel
theorem d_T_order_14 : decode c_T_order 14 = .ok (.iload_n 1, 1) := by decide +kernel
theorem d_T_order_15 : decode c_T_order 15 = .ok (.invokevirtual 96, 3) := by decide +kernel
theorem d_T_order_18 : decode c_T_order 18 = .ok (.ifCond .ne 5, 3) := by decide +kernel
theorem d_T_order_21 : decode c_T_order 21 = .ok (.iconst (-1), 1) := by decide +kernel
theorem d_T_order_22 : decode c_T_order 22 = .ok (.ireturn, 1) := by decide +kernel
theorem d_T_order_23 : decode c_T_order 23 = .ok (.aload_n 0, 1) := by decide +kernel
theorem d_T_order_24 : decode c_T_order 24 = .ok (.getfield 43, 3) := by decide +kernel
theorem d_T_order_27 : decode c_T_order 27 = .ok (.iload_n 1, 1) := by decide +kernel
theorem d_T_order_28 : decode c_T_order 28 = .ok (.iload_n 2, 1) := by decide +kernel
theorem d_T_order_29 : decode c_T_order 29 = .ok (.invokevirtual 99, 3) := by decide +kernel
theorem d_T_order_32 : decode c_T_order 32 = .ok (.ireturn, 1) := by decide +kernel
theorem d_T_rank_0 : decode c_T_rank 0 = .ok (.aload_n 0, 1) := by decide +kernel
theorem d_T_rank_1 : decode c_T_rank 1 = .ok (.getfield 43, 3) := by decide +kernel
theorem d_T_rank_4 : decode c_T_rank 4 = .ok (.ifnonnull 6, 3) := by decide +kernel
theorem d_T_rank_7 : decode c_T_rank 7 = .ok (.bipush (-3), 2) := by decide +kernel
theorem d_T_rank_9 : decode c_T_rank 9 = .ok (.ireturn, 1) := by decide +kernel
theorem d_T_rank_10 : decode c_T_rank 10 = .ok (.aload_n 0, 1) := by decide +kernel
theorem d_T_rank_11 : decode c_T_rank 11 = .ok (.getfield 43, 3) := by decide +kernel
theorem d_T_rank_14 : decode c_T_rank 14 = .ok (.iload_n 1, 1) := by decide +kernel
theorem d_T_rank_15 : decode c_T_rank 15 = .ok (.invokevirtual 96, 3) := by decide +kernel
theorem d_T_rank_18 : decode c_T_rank 18 = .ok (.ifCond .ne 5, 3) := by decide +kernel
theorem d_T_rank_21 : decode c_T_rank 21 = .ok (.iconst (-1), 1) := by decide +kernel
theorem d_T_rank_22 : decode c_T_rank 22 = .ok (.ireturn, 1) := by decide +kernel
theorem d_T_rank_23 : decode c_T_rank 23 = .ok (.aload_n 0, 1) := by decide +kernel
theorem d_T_rank_24 : decode c_T_rank 24 = .ok (.getfield 43, 3) := by decide +kernel
theorem d_T_rank_27 : decode c_T_rank 27 = .ok (.getfield 103, 3) := by decide +kernel
theorem d_T_rank_30 : decode c_T_rank 30 = .ok (.iload_n 1, 1) := by decide +kernel
theorem d_T_rank_31 : decode c_T_rank 31 = .ok (.iaload, 1) := by decide +kernel
theorem d_T_rank_32 : decode c_T_rank 32 = .ok (.ireturn, 1) := by decide +kernel
theorem d_T_buffer_0 : decode c_T_buffer 0 = .ok (.iload_n 1, 1) := by decide +kernel
theorem d_T_buffer_1 : decode c_T_buffer 1 = .ok (.invokestatic 64, 3) := by decide +kernel
theorem d_T_buffer_4 : decode c_T_buffer 4 = .ok (.ifCond .ne 6, 3) := by decide +kernel
theorem d_T_buffer_7 : decode c_T_buffer 7 = .ok (.bipush (-2), 2) := by decide +kernel
theorem d_T_buffer_9 : decode c_T_buffer 9 = .ok (.ireturn, 1) := by decide +kernel
theorem d_T_buffer_10 : decode c_T_buffer 10 = .ok (.aload_n 0, 1) := by decide +kernel
theorem d_T_buffer_11 : decode c_T_buffer 11 = .ok (.getfield 43, 3) := by decide +kernel
theorem d_T_buffer_14 : decode c_T_buffer 14 = .ok (.ifnonnull 6, 3) := by decide +kernel
theorem d_T_buffer_17 : decode c_T_buffer 17 = .ok (.bipush (-3), 2) := by decide +kernel
theorem d_T_buffer_19 : decode c_T_buffer 19 = .ok (.ireturn, 1) := by decide +kernel
theorem d_T_buffer_20 : decode c_T_buffer 20 = .ok (.aload_n 0, 1) := by decide +kernel
theorem d_T_buffer_21 : decode c_T_buffer 21 = .ok (.getfield 43, 3) := by decide +kernel
theorem d_T_buffer_24 : decode c_T_buffer 24 = .ok (.aload_n 0, 1) := by decide +kernel
theorem d_T_buffer_25 : decode c_T_buffer 25 = .ok (.getfield 10, 3) := by decide +kernel
theorem d_T_buffer_28 : decode c_T_buffer 28 = .ok (.iload_n 1, 1) := by decide +kernel
theorem d_T_buffer_29 : decode c_T_buffer 29 = .ok (.invokevirtual 106, 3) := by decide +kernel
theorem d_T_buffer_32 : decode c_T_buffer 32 = .ok (.ifCond .eq 7, 3) := by decide +kernel
theorem d_T_buffer_35 : decode c_T_buffer 35 = .ok (.iconst 1, 1) := by decide +kernel
theorem d_T_buffer_36 : decode c_T_buffer 36 = .ok (.goto 4, 3) := by decide +kernel
theorem d_T_buffer_39 : decode c_T_buffer 39 = .ok (.iconst 0, 1) := by decide +kernel
theorem d_T_buffer_40 : decode c_T_buffer 40 = .ok (.ireturn, 1) := by decide +kernel
theorem d_T_table_0 : decode c_T_table 0 = .ok (.iload_n 1, 1) := by decide +kernel
theorem d_T_table_1 : decode c_T_table 1 = .ok (.ifCond .ge 6, 3) := by decide +kernel
theorem d_T_table_4 : decode c_T_table 4 = .ok (.bipush (-2), 2) := by decide +kernel
theorem d_T_table_6 : decode c_T_table 6 = .ok (.ireturn, 1) := by decide +kernel
theorem d_T_table_7 : decode c_T_table 7 = .ok (.aload_n 0, 1) := by decide +kernel
theorem d_T_table_8 : decode c_T_table 8 = .ok (.getfield 43, 3) := by decide +kernel
theorem d_T_table_11 : decode c_T_table 11 = .ok (.ifnonnull 6, 3) := by decide +kernel
theorem d_T_table_14 : decode c_T_table 14 = .ok (.bipush (-3), 2) := by decide +kernel
theorem d_T_table_16 : decode c_T_table 16 = .ok (.ireturn, 1) := by decide +kernel
theorem d_T_table_17 : decode c_T_table 17 = .ok (.aload_n 0, 1) := by decide +kernel
theorem d_T_table_18 : decode c_T_table 18 = .ok (.getfield 43, 3) := by decide +kernel
theorem d_T_table_21 : decode c_T_table 21 = .ok (.iload_n 1, 1) := by decide +kernel
theorem d_T_table_22 : decode c_T_table 22 = .ok (.iload_n 2, 1) := by decide +kernel
theorem d_T_table_23 : decode c_T_table 23 = .ok (.invokevirtual 110, 3) := by decide +kernel
theorem d_T_table_26 : decode c_T_table 26 = .ok (.ireturn, 1) := by decide +kernel
theorem d_T_ring_0 : decode c_T_ring 0 = .ok (.aload_n 0, 1) := by decide +kernel
theorem d_T_ring_1 : decode c_T_ring 1 = .ok (.getfield 19, 3) := by decide +kernel
theorem d_T_ring_4 : decode c_T_ring 4 = .ok (.iload_n 1, 1) := by decide +kernel
theorem d_T_ring_5 : decode c_T_ring 5 = .ok (.invokevirtual 113, 3) := by decide +kernel
theorem d_T_ring_8 : decode c_T_ring 8 = .ok (.ireturn, 1) := by decide +kernel
theorem d_T_cross_0 : decode c_T_cross 0 = .ok (.iload_n 1, 1) := by decide +kernel
theorem d_T_cross_1 : decode c_T_cross 1 = .ok (.invokestatic 64, 3) := by decide +kernel
theorem d_T_cross_4 : decode c_T_cross 4 = .ok (.ifCond .ne 6, 3) := by decide +kernel
theorem d_T_cross_7 : decode c_T_cross 7 = .ok (.bipush (-2), 2) := by decide +kernel
theorem d_T_cross_9 : decode c_T_cross 9 = .ok (.ireturn, 1) := by decide +kernel
theorem d_T_cross_10 : decode c_T_cross 10 = .ok (.aload_n 0, 1) := by decide +kernel
theorem d_T_cross_11 : decode c_T_cross 11 = .ok (.getfield 43, 3) := by decide +kernel
theorem d_T_cross_14 : decode c_T_cross 14 = .ok (.ifnonnull 6, 3) := by decide +kernel
theorem d_T_cross_17 : decode c_T_cross 17 = .ok (.bipush (-3), 2) := by decide +kernel
theorem d_T_cross_19 : decode c_T_cross 19 = .ok (.ireturn, 1) := by decide +kernel
theorem d_T_cross_20 : decode c_T_cross 20 = .ok (.aload_n 0, 1) := by decide +kernel
theorem d_T_cross_21 : decode c_T_cross 21 = .ok (.getfield 10, 3) := by decide +kernel
theorem d_T_cross_24 : decode c_T_cross 24 = .ok (.iload_n 1, 1) := by decide +kernel
theorem d_T_cross_25 : decode c_T_cross 25 = .ok (.invokevirtual 116, 3) := by decide +kernel
theorem d_T_cross_28 : decode c_T_cross 28 = .ok (.ireturn, 1) := by decide +kernel
theorem d_T_budget_0 : decode c_T_budget 0 = .ok (.aload_n 0, 1) := by decide +kernel
theorem d_T_budget_1 : decode c_T_budget 1 = .ok (.getfield 43, 3) := by decide +kernel
theorem d_T_budget_4 : decode c_T_budget 4 = .ok (.ifnonnull 6, 3) := by decide +kernel
theorem d_T_budget_7 : decode c_T_budget 7 = .ok (.bipush (-3), 2) := by decide +kernel
theorem d_T_budget_9 : decode c_T_budget 9 = .ok (.ireturn, 1) := by decide +kernel
theorem d_T_budget_10 : decode c_T_budget 10 = .ok (.aload_n 0, 1) := by decide +kernel
theorem d_T_budget_11 : decode c_T_budget 11 = .ok (.getfield 43, 3) := by decide +kernel
theorem d_T_budget_14 : decode c_T_budget 14 = .ok (.iload_n 1, 1) := by decide +kernel
theorem d_T_budget_15 : decode c_T_budget 15 = .ok (.invokevirtual 96, 3) := by decide +kernel
theorem d_T_budget_18 : decode c_T_budget 18 = .ok (.ifCond .ne 5, 3) := by decide +kernel
theorem d_T_budget_21 : decode c_T_budget 21 = .ok (.iconst (-1), 1) := by decide +kernel
theorem d_T_budget_22 : decode c_T_budget 22 = .ok (.ireturn, 1) := by decide +kernel
theorem d_T_budget_23 : decode c_T_budget 23 = .ok (.lload_n 2, 1) := by decide +kernel
theorem d_T_budget_24 : decode c_T_budget 24 = .ok (.lconst 0, 1) := by decide +kernel
theorem d_T_budget_25 : decode c_T_budget 25 = .ok (.lcmp, 1) := by decide +kernel
theorem d_T_budget_26 : decode c_T_budget 26 = .ok (.ifCond .ge 6, 3) := by decide +kernel
theorem d_T_budget_29 : decode c_T_budget 29 = .ok (.bipush (-2), 2) := by decide +kernel
theorem d_T_budget_31 : decode c_T_budget 31 = .ok (.ireturn, 1) := by decide +kernel
theorem d_T_budget_32 : decode c_T_budget 32 = .ok (.aload_n 0, 1) := by decide +kernel
theorem d_T_budget_33 : decode c_T_budget 33 = .ok (.getfield 43, 3) := by decide +kernel
theorem d_T_budget_36 : decode c_T_budget 36 = .ok (.iload_n 1, 1) := by decide +kernel
theorem d_T_budget_37 : decode c_T_budget 37 = .ok (.aload_n 0, 1) := by decide +kernel
theorem d_T_budget_38 : decode c_T_budget 38 = .ok (.getfield 10, 3) := by decide +kernel
theorem d_T_budget_41 : decode c_T_budget 41 = .ok (.invokevirtual 119, 3) := by decide +kernel
theorem d_T_budget_44 : decode c_T_budget 44 = .ok (.i2l, 1) := by decide +kernel
theorem d_T_budget_45 : decode c_T_budget 45 = .ok (.lload_n 2, 1) := by decide +kernel
theorem d_T_budget_46 : decode c_T_budget 46 = .ok (.lcmp, 1) := by decide +kernel
theorem d_T_budget_47 : decode c_T_budget 47 = .ok (.ifCond .gt 7, 3) := by decide +kernel
theorem d_T_budget_50 : decode c_T_budget 50 = .ok (.iconst 1, 1) := by decide +kernel
theorem d_T_budget_51 : decode c_T_budget 51 = .ok (.goto 4, 3) := by decide +kernel
theorem d_T_budget_54 : decode c_T_budget 54 = .ok (.iconst 0, 1) := by decide +kernel
theorem d_T_budget_55 : decode c_T_budget 55 = .ok (.ireturn, 1) := by decide +kernel
theorem d_T_differ_0 : decode c_T_differ 0 = .ok (.aload_n 0, 1) := by decide +kernel
theorem d_T_differ_1 : decode c_T_differ 1 = .ok (.getfield 43, 3) := by decide +kernel
theorem d_T_differ_4 : decode c_T_differ 4 = .ok (.ifnonnull 6, 3) := by decide +kernel
theorem d_T_differ_7 : decode c_T_differ 7 = .ok (.bipush (-3), 2) := by decide +kernel
theorem d_T_differ_9 : decode c_T_differ 9 = .ok (.ireturn, 1) := by decide +kernel
theorem d_T_differ_10 : decode c_T_differ 10 = .ok (.iload_n 1, 1) := by decide +kernel
theorem d_T_differ_11 : decode c_T_differ 11 = .ok (.iconst 1, 1) := by decide +kernel
theorem d_T_differ_12 : decode c_T_differ 12 = .ok (.aload_n 0, 1) := by decide +kernel
theorem d_T_differ_13 : decode c_T_differ 13 = .ok (.getfield 123, 3) := by decide +kernel
theorem d_T_differ_16 : decode c_T_differ 16 = .ok (.invokestatic 34, 3) := by decide +kernel
theorem d_T_differ_19 : decode c_T_differ 19 = .ok (.ifCond .ne 5, 3) := by decide +kernel
theorem d_T_differ_22 : decode c_T_differ 22 = .ok (.iconst (-1), 1) := by decide +kernel
theorem d_T_differ_23 : decode c_T_differ 23 = .ok (.ireturn, 1) := by decide +kernel
theorem d_T_differ_24 : decode c_T_differ 24 = .ok (.aload_n 0, 1) := by decide +kernel
theorem d_T_differ_25 : decode c_T_differ 25 = .ok (.getfield 25, 3) := by decide +kernel
theorem d_T_differ_28 : decode c_T_differ 28 = .ok (.iload_n 1, 1) := by decide +kernel
theorem d_T_differ_29 : decode c_T_differ 29 = .ok (.iconst 1, 1) := by decide +kernel
theorem d_T_differ_30 : decode c_T_differ 30 = .ok (.isub, 1) := by decide +kernel
theorem d_T_differ_31 : decode c_T_differ 31 = .ok (.aaload, 1) := by decide +kernel
theorem d_T_differ_32 : decode c_T_differ 32 = .ok (.astore_n 2, 1) := by decide +kernel
theorem d_T_differ_33 : decode c_T_differ 33 = .ok (.aload_n 2, 1) := by decide +kernel
theorem d_T_differ_34 : decode c_T_differ 34 = .ok (.ifnonnull 5, 3) := by decide +kernel
theorem d_T_differ_37 : decode c_T_differ 37 = .ok (.iconst (-1), 1) := by decide +kernel
theorem d_T_differ_38 : decode c_T_differ 38 = .ok (.ireturn, 1) := by decide +kernel
theorem d_T_differ_39 : decode c_T_differ 39 = .ok (.aload_n 0, 1) := by decide +kernel
theorem d_T_differ_40 : decode c_T_differ 40 = .ok (.getfield 43, 3) := by decide +kernel
theorem d_T_differ_43 : decode c_T_differ 43 = .ok (.aload_n 2, 1) := by decide +kernel
theorem d_T_differ_44 : decode c_T_differ 44 = .ok (.invokevirtual 126, 3) := by decide +kernel
theorem d_T_differ_47 : decode c_T_differ 47 = .ok (.ireturn, 1) := by decide +kernel
end
section
theorem d_U_init_0 : decode c_U_init 0 = .ok (.aload_n 0, 1) := by decide +kernel
theorem d_U_init_1 : decode c_U_init 1 = .ok (.invokespecial 3, 3) := by decide +kernel
theorem d_U_init_4 : decode c_U_init 4 = .ok (.aload_n 0, 1) := by decide +kernel
theorem d_U_init_5 : decode c_U_init 5 = .ok (.bipush 25, 2) := by decide +kernel
theorem d_U_init_7 : decode c_U_init 7 = .ok (.newarray .int, 2) := by decide +kernel
theorem d_U_init_9 : decode c_U_init 9 = .ok (.putfield 9, 3) := by decide +kernel
theorem d_U_init_12 : decode c_U_init 12 = .ok (.aload_n 0, 1) := by decide +kernel
theorem d_U_init_13 : decode c_U_init 13 = .ok (.bipush 25, 2) := by decide +kernel
theorem d_U_init_15 : decode c_U_init 15 = .ok (.newarray .int, 2) := by decide +kernel
theorem d_U_init_17 : decode c_U_init 17 = .ok (.putfield 15, 3) := by decide +kernel
theorem d_U_init_20 : decode c_U_init 20 = .ok (.aload_n 0, 1) := by decide +kernel
theorem d_U_init_21 : decode c_U_init 21 = .ok (.bipush 25, 2) := by decide +kernel
theorem d_U_init_23 : decode c_U_init 23 = .ok (.newarray .int, 2) := by decide +kernel
theorem d_U_init_25 : decode c_U_init 25 = .ok (.putfield 18, 3) := by decide +kernel
theorem d_U_init_28 : decode c_U_init 28 = .ok (.aload_n 0, 1) := by decide +kernel
theorem d_U_init_29 : decode c_U_init 29 = .ok (.bipush 25, 2) := by decide +kernel
theorem d_U_init_31 : decode c_U_init 31 = .ok (.newarray .int, 2) := by decide +kernel
theorem d_U_init_33 : decode c_U_init 33 = .ok (.putfield 21, 3) := by decide +kernel
theorem d_U_init_36 : decode c_U_init 36 = .ok (.aload_n 0, 1) := by decide +kernel
theorem d_U_init_37 : decode c_U_init 37 = .ok (.bipush 25, 2) := by decide +kernel
theorem d_U_init_39 : decode c_U_init 39 = .ok (.newarray .int, 2) := by decide +kernel
theorem d_U_init_41 : decode c_U_init 41 = .ok (.putfield 24, 3) := by decide +kernel
theorem d_U_init_44 : decode c_U_init 44 = .ok (.return_, 1) := by decide +kernel
theorem d_G_init_0 : decode c_G_init 0 = .ok (.aload_n 0, 1) := by decide +kernel
theorem d_G_init_1 : decode c_G_init 1 = .ok (.invokespecial 3, 3) := by decide +kernel
theorem d_G_init_4 : decode c_G_init 4 = .ok (.aload_n 0, 1) := by decide +kernel
theorem d_G_init_5 : decode c_G_init 5 = .ok (.bipush 25, 2) := by decide +kernel
theorem d_G_init_7 : decode c_G_init 7 = .ok (.newarray .int, 2) := by decide +kernel
theorem d_G_init_9 : decode c_G_init 9 = .ok (.putfield 9, 3) := by decide +kernel
theorem d_G_init_12 : decode c_G_init 12 = .ok (.aload_n 0, 1) := by decide +kernel
theorem d_G_init_13 : decode c_G_init 13 = .ok (.bipush 25, 2) := by decide +kernel
theorem d_G_init_15 : decode c_G_init 15 = .ok (.newarray .int, 2) := by decide +kernel
theorem d_G_init_17 : decode c_G_init 17 = .ok (.putfield 15, 3) := by decide +kernel
theorem d_G_init_20 : decode c_G_init 20 = .ok (.aload_n 0, 1) := by decide +kernel
theorem d_G_init_21 : decode c_G_init 21 = .ok (.bipush 24, 2) := by decide +kernel
theorem d_G_init_23 : decode c_G_init 23 = .ok (.newarray .int, 2) := by decide +kernel
theorem d_G_init_25 : decode c_G_init 25 = .ok (.putfield 18, 3) := by decide +kernel
theorem d_G_init_28 : decode c_G_init 28 = .ok (.aload_n 0, 1) := by decide +kernel
theorem d_G_init_29 : decode c_G_init 29 = .ok (.bipush 24, 2) := by decide +kernel
theorem d_G_init_31 : decode c_G_init 31 = .ok (.newarray .int, 2) := by decide +kernel
theorem d_G_init_33 : decode c_G_init 33 = .ok (.putfield 21, 3) := by decide +kernel
theorem d_G_init_36 : decode c_G_init 36 = .ok (.return_, 1) := by decide +kernel
theorem d_U_isFull_0 : decode c_U_isFull 0 = .ok (.aload_n 0, 1) := by decide +kernel
theorem d_U_isFull_1 : decode c_U_isFull 1 = .ok (.getfield 27, 3) := by decide +kernel
theorem d_U_isFull_4 : decode c_U_isFull 4 = .ok (.bipush 24, 2) := by decide +kernel
theorem d_U_isFull_6 : decode c_U_isFull 6 = .ok (.if_icmp .lt 7, 3) := by decide +kernel
theorem d_U_isFull_9 : decode c_U_isFull 9 = .ok (.iconst 1, 1) := by decide +kernel
theorem d_U_isFull_10 : decode c_U_isFull 10 = .ok (.goto 4, 3) := by decide +kernel
theorem d_U_isFull_13 : decode c_U_isFull 13 = .ok (.iconst 0, 1) := by decide +kernel
theorem d_U_isFull_14 : decode c_U_isFull 14 = .ok (.ireturn, 1) := by decide +kernel
theorem d_U_add_0 : decode c_U_add 0 = .ok (.aload_n 0, 1) := by decide +kernel
theorem d_U_add_1 : decode c_U_add 1 = .ok (.dup, 1) := by decide +kernel
theorem d_U_add_2 : decode c_U_add 2 = .ok (.getfield 27, 3) := by decide +kernel
theorem d_U_add_5 : decode c_U_add 5 = .ok (.iconst 1, 1) := by decide +kernel
theorem d_U_add_6 : decode c_U_add 6 = .ok (.iadd, 1) := by decide +kernel
theorem d_U_add_7 : decode c_U_add 7 = .ok (.putfield 27, 3) := by decide +kernel
theorem d_U_add_10 : decode c_U_add 10 = .ok (.aload_n 0, 1) := by decide +kernel
theorem d_U_add_11 : decode c_U_add 11 = .ok (.getfield 9, 3) := by decide +kernel
theorem d_U_add_14 : decode c_U_add 14 = .ok (.aload_n 0, 1) := by decide +kernel
theorem d_U_add_15 : decode c_U_add 15 = .ok (.getfield 27, 3) := by decide +kernel
theorem d_U_add_18 : decode c_U_add 18 = .ok (.iload_n 1, 1) := by decide +kernel
theorem d_U_add_19 : decode c_U_add 19 = .ok (.iastore, 1) := by decide +kernel
theorem d_U_add_20 : decode c_U_add 20 = .ok (.aload_n 0, 1) := by decide +kernel
theorem d_U_add_21 : decode c_U_add 21 = .ok (.getfield 15, 3) := by decide +kernel
theorem d_U_add_24 : decode c_U_add 24 = .ok (.aload_n 0, 1) := by decide +kernel
theorem d_U_add_25 : decode c_U_add 25 = .ok (.getfield 27, 3) := by decide +kernel
theorem d_U_add_28 : decode c_U_add 28 = .ok (.iload_n 2, 1) := by decide +kernel
theorem d_U_add_29 : decode c_U_add 29 = .ok (.iastore, 1) := by decide +kernel
theorem d_U_add_30 : decode c_U_add 30 = .ok (.aload_n 0, 1) := by decide +kernel
theorem d_U_add_31 : decode c_U_add 31 = .ok (.getfield 18, 3) := by decide +kernel
theorem d_U_add_34 : decode c_U_add 34 = .ok (.aload_n 0, 1) := by decide +kernel
theorem d_U_add_35 : decode c_U_add 35 = .ok (.getfield 27, 3) := by decide +kernel
theorem d_U_add_38 : decode c_U_add 38 = .ok (.iload_n 3, 1) := by decide +kernel
theorem d_U_add_39 : decode c_U_add 39 = .ok (.iastore, 1) := by decide +kernel
theorem d_U_add_40 : decode c_U_add 40 = .ok (.aload_n 0, 1) := by decide +kernel
theorem d_U_add_41 : decode c_U_add 41 = .ok (.getfield 27, 3) := by decide +kernel
theorem d_U_add_44 : decode c_U_add 44 = .ok (.ireturn, 1) := by decide +kernel
theorem d_U_has_0 : decode c_U_has 0 = .ok (.iload_n 1, 1) := by decide +kernel
theorem d_U_has_1 : decode c_U_has 1 = .ok (.iconst 1, 1) := by decide +kernel
theorem d_U_has_2 : decode c_U_has 2 = .ok (.aload_n 0, 1) := by decide +kernel
theorem d_U_has_3 : decode c_U_has 3 = .ok (.getfield 27, 3) := by decide +kernel
theorem d_U_has_6 : decode c_U_has 6 = .ok (.invokestatic 31, 3) := by decide +kernel
theorem d_U_has_9 : decode c_U_has 9 = .ok (.ireturn, 1) := by decide +kernel
theorem d_G_wouldCloseRing_0 : decode c_G_wouldCloseRing 0 = .ok (.iload_n 1, 1) := by decide +kernel
theorem d_G_wouldCloseRing_1 : decode c_G_wouldCloseRing 1 = .ok (.iload_n 2, 1) := by decide +kernel
theorem d_G_wouldCloseRing_2 : decode c_G_wouldCloseRing 2 = .ok (.if_icmp .eq 16, 3) := by decide +kernel
theorem d_G_wouldCloseRing_5 : decode c_G_wouldCloseRing 5 = .ok (.aload_n 0, 1) := by decide +kernel
theorem d_G_wouldCloseRing_6 : decode c_G_wouldCloseRing 6 = .ok (.getfield 15, 3) := by decide +kernel
theorem d_G_wouldCloseRing_9 : decode c_G_wouldCloseRing 9 = .ok (.iload_n 1, 1) := by decide +kernel
theorem d_G_wouldCloseRing_10 : decode c_G_wouldCloseRing 10 = .ok (.iaload, 1) := by decide +kernel
theorem d_G_wouldCloseRing_11 : decode c_G_wouldCloseRing 11 = .ok (.iload_n 2, 1) := by decide +kernel
theorem d_G_wouldCloseRing_12 : decode c_G_wouldCloseRing 12 = .ok (.invokestatic 24, 3) := by decide +kernel
theorem d_G_wouldCloseRing_15 : decode c_G_wouldCloseRing 15 = .ok (.ifCond .eq 7, 3) := by decide +kernel
theorem d_G_wouldCloseRing_18 : decode c_G_wouldCloseRing 18 = .ok (.iconst 1, 1) := by decide +kernel
theorem d_G_wouldCloseRing_19 : decode c_G_wouldCloseRing 19 = .ok (.goto 4, 3) := by decide +kernel
theorem d_G_wouldCloseRing_22 : decode c_G_wouldCloseRing 22 = .ok (.iconst 0, 1) := by decide +kernel
theorem d_G_wouldCloseRing_23 : decode c_G_wouldCloseRing 23 = .ok (.ireturn, 1) := by decide +kernel
theorem d_G_toldBeforeAny_0 : decode c_G_toldBeforeAny 0 = .ok (.iconst 0, 1) := by decide +kernel
theorem d_G_toldBeforeAny_1 : decode c_G_toldBeforeAny 1 = .ok (.istore_n 2, 1) := by decide +kernel
theorem d_G_toldBeforeAny_2 : decode c_G_toldBeforeAny 2 = .ok (.iconst 1, 1) := by decide +kernel
theorem d_G_toldBeforeAny_3 : decode c_G_toldBeforeAny 3 = .ok (.istore_n 3, 1) := by decide +kernel
theorem d_G_toldBeforeAny_4 : decode c_G_toldBeforeAny 4 = .ok (.iload_n 3, 1) := by decide +kernel
theorem d_G_toldBeforeAny_5 : decode c_G_toldBeforeAny 5 = .ok (.bipush 24, 2) := by decide +kernel
theorem d_G_toldBeforeAny_7 : decode c_G_toldBeforeAny 7 = .ok (.if_icmp .gt 26, 3) := by decide +kernel
theorem d_G_toldBeforeAny_10 : decode c_G_toldBeforeAny 10 = .ok (.iload_n 1, 1) := by decide +kernel
theorem d_G_toldBeforeAny_11 : decode c_G_toldBeforeAny 11 = .ok (.iload_n 3, 1) := by decide +kernel
theorem d_G_toldBeforeAny_12 : decode c_G_toldBeforeAny 12 = .ok (.invokestatic 24, 3) := by decide +kernel
theorem d_G_toldBeforeAny_15 : decode c_G_toldBeforeAny 15 = .ok (.ifCond .eq 12, 3) := by decide +kernel
theorem d_G_toldBeforeAny_18 : decode c_G_toldBeforeAny 18 = .ok (.iload_n 2, 1) := by decide +kernel
theorem d_G_toldBeforeAny_19 : decode c_G_toldBeforeAny 19 = .ok (.aload_n 0, 1) := by decide +kernel
theorem d_G_toldBeforeAny_20 : decode c_G_toldBeforeAny 20 = .ok (.getfield 9, 3) := by decide +kernel
theorem d_G_toldBeforeAny_23 : decode c_G_toldBeforeAny 23 = .ok (.iload_n 3, 1) := by decide +kernel
theorem d_G_toldBeforeAny_24 : decode c_G_toldBeforeAny 24 = .ok (.iaload, 1) := by decide +kernel
theorem d_G_toldBeforeAny_25 : decode c_G_toldBeforeAny 25 = .ok (.ior, 1) := by decide +kernel
theorem d_G_toldBeforeAny_26 : decode c_G_toldBeforeAny 26 = .ok (.istore_n 2, 1) := by decide +kernel
theorem d_G_toldBeforeAny_27 : decode c_G_toldBeforeAny 27 = .ok (.iinc 3 1, 3) := by decide +kernel
theorem d_G_toldBeforeAny_30 : decode c_G_toldBeforeAny 30 = .ok (.goto (-26), 3) := by decide +kernel
theorem d_G_toldBeforeAny_33 : decode c_G_toldBeforeAny 33 = .ok (.iload_n 2, 1) := by decide +kernel
theorem d_G_toldBeforeAny_34 : decode c_G_toldBeforeAny 34 = .ok (.ireturn, 1) := by decide +kernel
theorem d_G_layersFrom_0 : decode c_G_layersFrom 0 = .ok (.aload_n 0, 1) := by decide +kernel
theorem d_G_layersFrom_1 : decode c_G_layersFrom 1 = .ok (.getfield 18, 3) := by decide +kernel
theorem d_G_layersFrom_4 : decode c_G_layersFrom 4 = .ok (.iconst 0, 1) := by decide +kernel
theorem d_G_layersFrom_5 : decode c_G_layersFrom 5 = .ok (.iconst 1, 1) := by decide +kernel
theorem d_G_layersFrom_6 : decode c_G_layersFrom 6 = .ok (.iload_n 1, 1) := by decide +kernel
theorem d_G_layersFrom_7 : decode c_G_layersFrom 7 = .ok (.ishl, 1) := by decide +kernel
theorem d_G_layersFrom_8 : decode c_G_layersFrom 8 = .ok (.iastore, 1) := by decide +kernel
theorem d_G_layersFrom_9 : decode c_G_layersFrom 9 = .ok (.iconst 0, 1) := by decide +kernel
theorem d_G_layersFrom_10 : decode c_G_layersFrom 10 = .ok (.istore_n 3, 1) := by decide +kernel
theorem d_G_layersFrom_11 : decode c_G_layersFrom 11 = .ok (.iload_n 3, 1) := by decide +kernel
theorem d_G_layersFrom_12 : decode c_G_layersFrom 12 = .ok (.aload_n 0, 1) := by decide +kernel
theorem d_G_layersFrom_13 : decode c_G_layersFrom 13 = .ok (.getfield 18, 3) := by decide +kernel
theorem d_G_layersFrom_16 : decode c_G_layersFrom 16 = .ok (.arraylength, 1) := by decide +kernel
theorem d_G_layersFrom_17 : decode c_G_layersFrom 17 = .ok (.iconst 1, 1) := by decide +kernel
theorem d_G_layersFrom_18 : decode c_G_layersFrom 18 = .ok (.isub, 1) := by decide +kernel
theorem d_G_layersFrom_19 : decode c_G_layersFrom 19 = .ok (.if_icmp .ge 40, 3) := by decide +kernel
theorem d_G_layersFrom_22 : decode c_G_layersFrom 22 = .ok (.aload_n 0, 1) := by decide +kernel
theorem d_G_layersFrom_23 : decode c_G_layersFrom 23 = .ok (.getfield 18, 3) := by decide +kernel
theorem d_G_layersFrom_26 : decode c_G_layersFrom 26 = .ok (.iload_n 3, 1) := by decide +kernel
theorem d_G_layersFrom_27 : decode c_G_layersFrom 27 = .ok (.iaload, 1) := by decide +kernel
theorem d_G_layersFrom_28 : decode c_G_layersFrom 28 = .ok (.iload_n 2, 1) := by decide +kernel
theorem d_G_layersFrom_29 : decode c_G_layersFrom 29 = .ok (.invokestatic 24, 3) := by decide +kernel
theorem d_G_layersFrom_32 : decode c_G_layersFrom 32 = .ok (.ifCond .ne 27, 3) := by decide +kernel
theorem d_G_layersFrom_35 : decode c_G_layersFrom 35 = .ok (.aload_n 0, 1) := by decide +kernel
theorem d_G_layersFrom_36 : decode c_G_layersFrom 36 = .ok (.getfield 18, 3) := by decide +kernel
theorem d_G_layersFrom_39 : decode c_G_layersFrom 39 = .ok (.iload_n 3, 1) := by decide +kernel
theorem d_G_layersFrom_40 : decode c_G_layersFrom 40 = .ok (.iconst 1, 1) := by decide +kernel
theorem d_G_layersFrom_41 : decode c_G_layersFrom 41 = .ok (.iadd, 1) := by decide +kernel
theorem d_G_layersFrom_42 : decode c_G_layersFrom 42 = .ok (.aload_n 0, 1) := by decide +kernel
theorem d_G_layersFrom_43 : decode c_G_layersFrom 43 = .ok (.aload_n 0, 1) := by decide +kernel
theorem d_G_layersFrom_44 : decode c_G_layersFrom 44 = .ok (.getfield 18, 3) := by decide +kernel
theorem d_G_layersFrom_47 : decode c_G_layersFrom 47 = .ok (.iload_n 3, 1) := by decide +kernel
theorem d_G_layersFrom_48 : decode c_G_layersFrom 48 = .ok (.iaload, 1) := by decide +kernel
theorem d_G_layersFrom_49 : decode c_G_layersFrom 49 = .ok (.invokevirtual 39, 3) := by decide +kernel
theorem d_G_layersFrom_52 : decode c_G_layersFrom 52 = .ok (.iastore, 1) := by decide +kernel
theorem d_G_layersFrom_53 : decode c_G_layersFrom 53 = .ok (.iinc 3 1, 3) := by decide +kernel
theorem d_G_layersFrom_56 : decode c_G_layersFrom 56 = .ok (.goto (-45), 3) := by decide +kernel
theorem d_G_layersFrom_59 : decode c_G_layersFrom 59 = .ok (.iload_n 3, 1) := by decide +kernel
theorem d_G_layersFrom_60 : decode c_G_layersFrom 60 = .ok (.ireturn, 1) := by decide +kernel
theorem d_G_leastBehind_0 : decode c_G_leastBehind 0 = .ok (.iconst 1, 1) := by decide +kernel
theorem d_G_leastBehind_1 : decode c_G_leastBehind 1 = .ok (.istore_n 3, 1) := by decide +kernel
theorem d_G_leastBehind_2 : decode c_G_leastBehind 2 = .ok (.iload_n 3, 1) := by decide +kernel
theorem d_G_leastBehind_3 : decode c_G_leastBehind 3 = .ok (.bipush 24, 2) := by decide +kernel
theorem d_G_leastBehind_5 : decode c_G_leastBehind 5 = .ok (.if_icmp .gt 32, 3) := by decide +kernel
theorem d_G_leastBehind_8 : decode c_G_leastBehind 8 = .ok (.iload_n 2, 1) := by decide +kernel
theorem d_G_leastBehind_9 : decode c_G_leastBehind 9 = .ok (.iload_n 3, 1) := by decide +kernel
theorem d_G_leastBehind_10 : decode c_G_leastBehind 10 = .ok (.invokestatic 24, 3) := by decide +kernel
theorem d_G_leastBehind_13 : decode c_G_leastBehind 13 = .ok (.ifCond .eq 18, 3) := by decide +kernel
theorem d_G_leastBehind_16 : decode c_G_leastBehind 16 = .ok (.aload_n 0, 1) := by decide +kernel
theorem d_G_leastBehind_17 : decode c_G_leastBehind 17 = .ok (.getfield 9, 3) := by decide +kernel
theorem d_G_leastBehind_20 : decode c_G_leastBehind 20 = .ok (.iload_n 3, 1) := by decide +kernel
theorem d_G_leastBehind_21 : decode c_G_leastBehind 21 = .ok (.iaload, 1) := by decide +kernel
theorem d_G_leastBehind_22 : decode c_G_leastBehind 22 = .ok (.iload_n 1, 1) := by decide +kernel
theorem d_G_leastBehind_23 : decode c_G_leastBehind 23 = .ok (.invokestatic 24, 3) := by decide +kernel
theorem d_G_leastBehind_26 : decode c_G_leastBehind 26 = .ok (.ifCond .eq 5, 3) := by decide +kernel
theorem d_G_leastBehind_29 : decode c_G_leastBehind 29 = .ok (.iload_n 3, 1) := by decide +kernel
theorem d_G_leastBehind_30 : decode c_G_leastBehind 30 = .ok (.ireturn, 1) := by decide +kernel
theorem d_G_leastBehind_31 : decode c_G_leastBehind 31 = .ok (.iinc 3 1, 3) := by decide +kernel
theorem d_G_leastBehind_34 : decode c_G_leastBehind 34 = .ok (.goto (-32), 3) := by decide +kernel
theorem d_G_leastBehind_37 : decode c_G_leastBehind 37 = .ok (.iconst 0, 1) := by decide +kernel
theorem d_G_leastBehind_38 : decode c_G_leastBehind 38 = .ok (.ireturn, 1) := by decide +kernel
theorem d_G_tellRing_0 : decode c_G_tellRing 0 = .ok (.aload_n 0, 1) := by decide +kernel
theorem d_G_tellRing_1 : decode c_G_tellRing 1 = .ok (.iload_n 1, 1) := by decide +kernel
theorem d_G_tellRing_2 : decode c_G_tellRing 2 = .ok (.iload_n 2, 1) := by decide +kernel
theorem d_G_tellRing_3 : decode c_G_tellRing 3 = .ok (.invokevirtual 28, 3) := by decide +kernel
theorem d_G_tellRing_6 : decode c_G_tellRing 6 = .ok (.istore_n 3, 1) := by decide +kernel
theorem d_G_tellRing_7 : decode c_G_tellRing 7 = .ok (.aload_n 0, 1) := by decide +kernel
theorem d_G_tellRing_8 : decode c_G_tellRing 8 = .ok (.getfield 21, 3) := by decide +kernel
theorem d_G_tellRing_11 : decode c_G_tellRing 11 = .ok (.iconst 0, 1) := by decide +kernel
theorem d_G_tellRing_12 : decode c_G_tellRing 12 = .ok (.iload_n 2, 1) := by decide +kernel
theorem d_G_tellRing_13 : decode c_G_tellRing 13 = .ok (.iastore, 1) := by decide +kernel
theorem d_G_tellRing_14 : decode c_G_tellRing 14 = .ok (.iconst 1, 1) := by decide +kernel
theorem d_G_tellRing_15 : decode c_G_tellRing 15 = .ok (.istore 4, 2) := by decide +kernel
theorem d_G_tellRing_17 : decode c_G_tellRing 17 = .ok (.iload 4, 2) := by decide +kernel
theorem d_G_tellRing_19 : decode c_G_tellRing 19 = .ok (.iload_n 3, 1) := by decide +kernel
theorem d_G_tellRing_20 : decode c_G_tellRing 20 = .ok (.if_icmp .gt 38, 3) := by decide +kernel
theorem d_G_tellRing_23 : decode c_G_tellRing 23 = .ok (.aload_n 0, 1) := by decide +kernel
theorem d_G_tellRing_24 : decode c_G_tellRing 24 = .ok (.getfield 21, 3) := by decide +kernel
theorem d_G_tellRing_27 : decode c_G_tellRing 27 = .ok (.iload 4, 2) := by decide +kernel
theorem d_G_tellRing_29 : decode c_G_tellRing 29 = .ok (.aload_n 0, 1) := by decide +kernel
theorem d_G_tellRing_30 : decode c_G_tellRing 30 = .ok (.aload_n 0, 1) := by decide +kernel
theorem d_G_tellRing_31 : decode c_G_tellRing 31 = .ok (.getfield 21, 3) := by decide +kernel
theorem d_G_tellRing_34 : decode c_G_tellRing 34 = .ok (.iload 4, 2) := by decide +kernel
theorem d_G_tellRing_36 : decode c_G_tellRing 36 = .ok (.iconst 1, 1) := by decide +kernel
theorem d_G_tellRing_37 : decode c_G_tellRing 37 = .ok (.isub, 1) := by decide +kernel
theorem d_G_tellRing_38 : decode c_G_tellRing 38 = .ok (.iaload, 1) := by decide +kernel
theorem d_G_tellRing_39 : decode c_G_tellRing 39 = .ok (.aload_n 0, 1) := by decide +kernel
theorem d_G_tellRing_40 : decode c_G_tellRing 40 = .ok (.getfield 18, 3) := by decide +kernel
theorem d_G_tellRing_43 : decode c_G_tellRing 43 = .ok (.iload_n 3, 1) := by decide +kernel
theorem d_G_tellRing_44 : decode c_G_tellRing 44 = .ok (.iload 4, 2) := by decide +kernel
theorem d_G_tellRing_46 : decode c_G_tellRing 46 = .ok (.isub, 1) := by decide +kernel
theorem d_G_tellRing_47 : decode c_G_tellRing 47 = .ok (.iaload, 1) := by decide +kernel
theorem d_G_tellRing_48 : decode c_G_tellRing 48 = .ok (.invokevirtual 32, 3) := by decide +kernel
theorem d_G_tellRing_51 : decode c_G_tellRing 51 = .ok (.iastore, 1) := by decide +kernel
theorem d_G_tellRing_52 : decode c_G_tellRing 52 = .ok (.iinc 4 1, 3) := by decide +kernel
theorem d_G_tellRing_55 : decode c_G_tellRing 55 = .ok (.goto (-38), 3) := by decide +kernel
theorem d_G_tellRing_58 : decode c_G_tellRing 58 = .ok (.aload_n 0, 1) := by decide +kernel
theorem d_G_tellRing_59 : decode c_G_tellRing 59 = .ok (.iload_n 3, 1) := by decide +kernel
theorem d_G_tellRing_60 : decode c_G_tellRing 60 = .ok (.iconst 1, 1) := by decide +kernel
theorem d_G_tellRing_61 : decode c_G_tellRing 61 = .ok (.iadd, 1) := by decide +kernel
theorem d_G_tellRing_62 : decode c_G_tellRing 62 = .ok (.putfield 35, 3) := by decide +kernel
theorem d_G_tellRing_65 : decode c_G_tellRing 65 = .ok (.return_, 1) := by decide +kernel
theorem d_G_add_0 : decode c_G_add 0 = .ok (.aload_n 0, 1) := by decide +kernel
theorem d_G_add_1 : decode c_G_add 1 = .ok (.getfield 9, 3) := by decide +kernel
theorem d_G_add_4 : decode c_G_add 4 = .ok (.iload_n 2, 1) := by decide +kernel
theorem d_G_add_5 : decode c_G_add 5 = .ok (.dup2, 1) := by decide +kernel
theorem d_G_add_6 : decode c_G_add 6 = .ok (.iaload, 1) := by decide +kernel
theorem d_G_add_7 : decode c_G_add 7 = .ok (.iconst 1, 1) := by decide +kernel
theorem d_G_add_8 : decode c_G_add 8 = .ok (.iload_n 1, 1) := by decide +kernel
theorem d_G_add_9 : decode c_G_add 9 = .ok (.ishl, 1) := by decide +kernel
theorem d_G_add_10 : decode c_G_add 10 = .ok (.ior, 1) := by decide +kernel
theorem d_G_add_11 : decode c_G_add 11 = .ok (.iastore, 1) := by decide +kernel
theorem d_G_add_12 : decode c_G_add 12 = .ok (.aload_n 0, 1) := by decide +kernel
theorem d_G_add_13 : decode c_G_add 13 = .ok (.getfield 15, 3) := by decide +kernel
theorem d_G_add_16 : decode c_G_add 16 = .ok (.iload_n 1, 1) := by decide +kernel
theorem d_G_add_17 : decode c_G_add 17 = .ok (.iaload, 1) := by decide +kernel
theorem d_G_add_18 : decode c_G_add 18 = .ok (.iconst 1, 1) := by decide +kernel
theorem d_G_add_19 : decode c_G_add 19 = .ok (.iload_n 1, 1) := by decide +kernel
theorem d_G_add_20 : decode c_G_add 20 = .ok (.ishl, 1) := by decide +kernel
theorem d_G_add_21 : decode c_G_add 21 = .ok (.ior, 1) := by decide +kernel
theorem d_G_add_22 : decode c_G_add 22 = .ok (.istore_n 3, 1) := by decide +kernel
theorem d_G_add_23 : decode c_G_add 23 = .ok (.iconst 1, 1) := by decide +kernel
theorem d_G_add_24 : decode c_G_add 24 = .ok (.istore 4, 2) := by decide +kernel
theorem d_G_add_26 : decode c_G_add 26 = .ok (.iload 4, 2) := by decide +kernel
theorem d_G_add_28 : decode c_G_add 28 = .ok (.bipush 24, 2) := by decide +kernel
theorem d_G_add_30 : decode c_G_add 30 = .ok (.if_icmp .gt 40, 3) := by decide +kernel
theorem d_G_add_33 : decode c_G_add 33 = .ok (.iload 4, 2) := by decide +kernel
theorem d_G_add_35 : decode c_G_add 35 = .ok (.iload_n 2, 1) := by decide +kernel
theorem d_G_add_36 : decode c_G_add 36 = .ok (.if_icmp .eq 17, 3) := by decide +kernel
theorem d_G_add_39 : decode c_G_add 39 = .ok (.aload_n 0, 1) := by decide +kernel
theorem d_G_add_40 : decode c_G_add 40 = .ok (.getfield 15, 3) := by decide +kernel
theorem d_G_add_43 : decode c_G_add 43 = .ok (.iload 4, 2) := by decide +kernel
theorem d_G_add_45 : decode c_G_add 45 = .ok (.iaload, 1) := by decide +kernel
theorem d_G_add_46 : decode c_G_add 46 = .ok (.iload_n 2, 1) := by decide +kernel
theorem d_G_add_47 : decode c_G_add 47 = .ok (.invokestatic 24, 3) := by decide +kernel
theorem d_G_add_50 : decode c_G_add 50 = .ok (.ifCond .eq 14, 3) := by decide +kernel
theorem d_G_add_53 : decode c_G_add 53 = .ok (.aload_n 0, 1) := by decide +kernel
theorem d_G_add_54 : decode c_G_add 54 = .ok (.getfield 15, 3) := by decide +kernel
theorem d_G_add_57 : decode c_G_add 57 = .ok (.iload 4, 2) := by decide +kernel
theorem d_G_add_59 : decode c_G_add 59 = .ok (.dup2, 1) := by decide +kernel
theorem d_G_add_60 : decode c_G_add 60 = .ok (.iaload, 1) := by decide +kernel
theorem d_G_add_61 : decode c_G_add 61 = .ok (.iload_n 3, 1) := by decide +kernel
theorem d_G_add_62 : decode c_G_add 62 = .ok (.ior, 1) := by decide +kernel
theorem d_G_add_63 : decode c_G_add 63 = .ok (.iastore, 1) := by decide +kernel
theorem d_G_add_64 : decode c_G_add 64 = .ok (.iinc 4 1, 3) := by decide +kernel
theorem d_G_add_67 : decode c_G_add 67 = .ok (.goto (-41), 3) := by decide +kernel
theorem d_G_add_70 : decode c_G_add 70 = .ok (.return_, 1) := by decide +kernel
theorem d_U_addWrite_0 : decode c_U_addWrite 0 = .ok (.aload_n 0, 1) := by decide +kernel
theorem d_U_addWrite_1 : decode c_U_addWrite 1 = .ok (.getfield 24, 3) := by decide +kernel
theorem d_U_addWrite_4 : decode c_U_addWrite 4 = .ok (.iload_n 1, 1) := by decide +kernel
theorem d_U_addWrite_5 : decode c_U_addWrite 5 = .ok (.dup2, 1) := by decide +kernel
theorem d_U_addWrite_6 : decode c_U_addWrite 6 = .ok (.iaload, 1) := by decide +kernel
theorem d_U_addWrite_7 : decode c_U_addWrite 7 = .ok (.iconst 1, 1) := by decide +kernel
theorem d_U_addWrite_8 : decode c_U_addWrite 8 = .ok (.iload_n 2, 1) := by decide +kernel
theorem d_U_addWrite_9 : decode c_U_addWrite 9 = .ok (.ishl, 1) := by decide +kernel
theorem d_U_addWrite_10 : decode c_U_addWrite 10 = .ok (.ior, 1) := by decide +kernel
theorem d_U_addWrite_11 : decode c_U_addWrite 11 = .ok (.iastore, 1) := by decide +kernel
theorem d_U_addWrite_12 : decode c_U_addWrite 12 = .ok (.return_, 1) := by decide +kernel
theorem d_U_addRead_0 : decode c_U_addRead 0 = .ok (.aload_n 0, 1) := by decide +kernel
theorem d_U_addRead_1 : decode c_U_addRead 1 = .ok (.getfield 21, 3) := by decide +kernel
theorem d_U_addRead_4 : decode c_U_addRead 4 = .ok (.iload_n 1, 1) := by decide +kernel
theorem d_U_addRead_5 : decode c_U_addRead 5 = .ok (.dup2, 1) := by decide +kernel
theorem d_U_addRead_6 : decode c_U_addRead 6 = .ok (.iaload, 1) := by decide +kernel
theorem d_U_addRead_7 : decode c_U_addRead 7 = .ok (.iconst 1, 1) := by decide +kernel
theorem d_U_addRead_8 : decode c_U_addRead 8 = .ok (.iload_n 2, 1) := by decide +kernel
theorem d_U_addRead_9 : decode c_U_addRead 9 = .ok (.ishl, 1) := by decide +kernel
theorem d_U_addRead_10 : decode c_U_addRead 10 = .ok (.ior, 1) := by decide +kernel
theorem d_U_addRead_11 : decode c_U_addRead 11 = .ok (.iastore, 1) := by decide +kernel
theorem d_U_addRead_12 : decode c_U_addRead 12 = .ok (.return_, 1) := by decide +kernel
theorem d_U_dataUsedBy_0 : decode c_U_dataUsedBy 0 = .ok (.aload_n 0, 1) := by decide +kernel
theorem d_U_dataUsedBy_1 : decode c_U_dataUsedBy 1 = .ok (.getfield 21, 3) := by decide +kernel
theorem d_U_dataUsedBy_4 : decode c_U_dataUsedBy 4 = .ok (.iload_n 1, 1) := by decide +kernel
theorem d_U_dataUsedBy_5 : decode c_U_dataUsedBy 5 = .ok (.iaload, 1) := by decide +kernel
theorem d_U_dataUsedBy_6 : decode c_U_dataUsedBy 6 = .ok (.aload_n 0, 1) := by decide +kernel
theorem d_U_dataUsedBy_7 : decode c_U_dataUsedBy 7 = .ok (.getfield 24, 3) := by decide +kernel
theorem d_U_dataUsedBy_10 : decode c_U_dataUsedBy 10 = .ok (.iload_n 1, 1) := by decide +kernel
theorem d_U_dataUsedBy_11 : decode c_U_dataUsedBy 11 = .ok (.iaload, 1) := by decide +kernel
theorem d_U_dataUsedBy_12 : decode c_U_dataUsedBy 12 = .ok (.ior, 1) := by decide +kernel
theorem d_U_dataUsedBy_13 : decode c_U_dataUsedBy 13 = .ok (.invokestatic 35, 3) := by decide +kernel
theorem d_U_dataUsedBy_16 : decode c_U_dataUsedBy 16 = .ok (.ireturn, 1) := by decide +kernel
theorem d_U_opensTask_0 : decode c_U_opensTask 0 = .ok (.aload_n 0, 1) := by decide +kernel
theorem d_U_opensTask_1 : decode c_U_opensTask 1 = .ok (.getfield 9, 3) := by decide +kernel
theorem d_U_opensTask_4 : decode c_U_opensTask 4 = .ok (.iload_n 1, 1) := by decide +kernel
theorem d_U_opensTask_5 : decode c_U_opensTask 5 = .ok (.iaload, 1) := by decide +kernel
theorem d_U_opensTask_6 : decode c_U_opensTask 6 = .ok (.ifCond .ne 5, 3) := by decide +kernel
theorem d_U_opensTask_9 : decode c_U_opensTask 9 = .ok (.iconst 1, 1) := by decide +kernel
theorem d_U_opensTask_10 : decode c_U_opensTask 10 = .ok (.ireturn, 1) := by decide +kernel
theorem d_U_opensTask_11 : decode c_U_opensTask 11 = .ok (.iconst 1, 1) := by decide +kernel
theorem d_U_opensTask_12 : decode c_U_opensTask 12 = .ok (.istore_n 2, 1) := by decide +kernel
theorem d_U_opensTask_13 : decode c_U_opensTask 13 = .ok (.iload_n 2, 1) := by decide +kernel
theorem d_U_opensTask_14 : decode c_U_opensTask 14 = .ok (.iload_n 1, 1) := by decide +kernel
theorem d_U_opensTask_15 : decode c_U_opensTask 15 = .ok (.if_icmp .ge 41, 3) := by decide +kernel
theorem d_U_opensTask_18 : decode c_U_opensTask 18 = .ok (.aload_n 0, 1) := by decide +kernel
theorem d_U_opensTask_19 : decode c_U_opensTask 19 = .ok (.getfield 15, 3) := by decide +kernel
theorem d_U_opensTask_22 : decode c_U_opensTask 22 = .ok (.iload_n 2, 1) := by decide +kernel
theorem d_U_opensTask_23 : decode c_U_opensTask 23 = .ok (.iaload, 1) := by decide +kernel
theorem d_U_opensTask_24 : decode c_U_opensTask 24 = .ok (.aload_n 0, 1) := by decide +kernel
theorem d_U_opensTask_25 : decode c_U_opensTask 25 = .ok (.getfield 15, 3) := by decide +kernel
theorem d_U_opensTask_28 : decode c_U_opensTask 28 = .ok (.iload_n 1, 1) := by decide +kernel
theorem d_U_opensTask_29 : decode c_U_opensTask 29 = .ok (.iaload, 1) := by decide +kernel
theorem d_U_opensTask_30 : decode c_U_opensTask 30 = .ok (.if_icmp .ne 20, 3) := by decide +kernel
theorem d_U_opensTask_33 : decode c_U_opensTask 33 = .ok (.aload_n 0, 1) := by decide +kernel
theorem d_U_opensTask_34 : decode c_U_opensTask 34 = .ok (.getfield 9, 3) := by decide +kernel
theorem d_U_opensTask_37 : decode c_U_opensTask 37 = .ok (.iload_n 2, 1) := by decide +kernel
theorem d_U_opensTask_38 : decode c_U_opensTask 38 = .ok (.iaload, 1) := by decide +kernel
theorem d_U_opensTask_39 : decode c_U_opensTask 39 = .ok (.aload_n 0, 1) := by decide +kernel
theorem d_U_opensTask_40 : decode c_U_opensTask 40 = .ok (.getfield 9, 3) := by decide +kernel
theorem d_U_opensTask_43 : decode c_U_opensTask 43 = .ok (.iload_n 1, 1) := by decide +kernel
theorem d_U_opensTask_44 : decode c_U_opensTask 44 = .ok (.iaload, 1) := by decide +kernel
theorem d_U_opensTask_45 : decode c_U_opensTask 45 = .ok (.if_icmp .ne 5, 3) := by decide +kernel
theorem d_U_opensTask_48 : decode c_U_opensTask 48 = .ok (.iconst 0, 1) := by decide +kernel
theorem d_U_opensTask_49 : decode c_U_opensTask 49 = .ok (.ireturn, 1) := by decide +kernel
theorem d_U_opensTask_50 : decode c_U_opensTask 50 = .ok (.iinc 2 1, 3) := by decide +kernel
theorem d_U_opensTask_53 : decode c_U_opensTask 53 = .ok (.goto (-40), 3) := by decide +kernel
theorem d_U_opensTask_56 : decode c_U_opensTask 56 = .ok (.iconst 1, 1) := by decide +kernel
theorem d_U_opensTask_57 : decode c_U_opensTask 57 = .ok (.ireturn, 1) := by decide +kernel
theorem d_U_tasksOn_0 : decode c_U_tasksOn 0 = .ok (.iconst 0, 1) := by decide +kernel
theorem d_U_tasksOn_1 : decode c_U_tasksOn 1 = .ok (.istore_n 2, 1) := by decide +kernel
theorem d_U_tasksOn_2 : decode c_U_tasksOn 2 = .ok (.iconst 1, 1) := by decide +kernel
theorem d_U_tasksOn_3 : decode c_U_tasksOn 3 = .ok (.istore_n 3, 1) := by decide +kernel
theorem d_U_tasksOn_4 : decode c_U_tasksOn 4 = .ok (.iload_n 3, 1) := by decide +kernel
theorem d_U_tasksOn_5 : decode c_U_tasksOn 5 = .ok (.aload_n 0, 1) := by decide +kernel
theorem d_U_tasksOn_6 : decode c_U_tasksOn 6 = .ok (.getfield 27, 3) := by decide +kernel
theorem d_U_tasksOn_9 : decode c_U_tasksOn 9 = .ok (.if_icmp .gt 30, 3) := by decide +kernel
theorem d_U_tasksOn_12 : decode c_U_tasksOn 12 = .ok (.aload_n 0, 1) := by decide +kernel
theorem d_U_tasksOn_13 : decode c_U_tasksOn 13 = .ok (.getfield 15, 3) := by decide +kernel
theorem d_U_tasksOn_16 : decode c_U_tasksOn 16 = .ok (.iload_n 3, 1) := by decide +kernel
theorem d_U_tasksOn_17 : decode c_U_tasksOn 17 = .ok (.iaload, 1) := by decide +kernel
theorem d_U_tasksOn_18 : decode c_U_tasksOn 18 = .ok (.iload_n 1, 1) := by decide +kernel
theorem d_U_tasksOn_19 : decode c_U_tasksOn 19 = .ok (.if_icmp .ne 14, 3) := by decide +kernel
theorem d_U_tasksOn_22 : decode c_U_tasksOn 22 = .ok (.aload_n 0, 1) := by decide +kernel
theorem d_U_tasksOn_23 : decode c_U_tasksOn 23 = .ok (.iload_n 3, 1) := by decide +kernel
theorem d_U_tasksOn_24 : decode c_U_tasksOn 24 = .ok (.invokevirtual 41, 3) := by decide +kernel
theorem d_U_tasksOn_27 : decode c_U_tasksOn 27 = .ok (.ifCond .eq 6, 3) := by decide +kernel
theorem d_U_tasksOn_30 : decode c_U_tasksOn 30 = .ok (.iinc 2 1, 3) := by decide +kernel
theorem d_U_tasksOn_33 : decode c_U_tasksOn 33 = .ok (.iinc 3 1, 3) := by decide +kernel
theorem d_U_tasksOn_36 : decode c_U_tasksOn 36 = .ok (.goto (-32), 3) := by decide +kernel
theorem d_U_tasksOn_39 : decode c_U_tasksOn 39 = .ok (.iload_n 2, 1) := by decide +kernel
theorem d_U_tasksOn_40 : decode c_U_tasksOn 40 = .ok (.ireturn, 1) := by decide +kernel
theorem d_U_group_0 : decode c_U_group 0 = .ok (.iconst 0, 1) := by decide +kernel
theorem d_U_group_1 : decode c_U_group 1 = .ok (.istore_n 3, 1) := by decide +kernel
theorem d_U_group_2 : decode c_U_group 2 = .ok (.iconst 1, 1) := by decide +kernel
theorem d_U_group_3 : decode c_U_group 3 = .ok (.istore 4, 2) := by decide +kernel
theorem d_U_group_5 : decode c_U_group 5 = .ok (.iload 4, 2) := by decide +kernel
theorem d_U_group_7 : decode c_U_group 7 = .ok (.aload_n 0, 1) := by decide +kernel
theorem d_U_group_8 : decode c_U_group 8 = .ok (.getfield 27, 3) := by decide +kernel
theorem d_U_group_11 : decode c_U_group 11 = .ok (.if_icmp .gt 38, 3) := by decide +kernel
theorem d_U_group_14 : decode c_U_group 14 = .ok (.aload_n 0, 1) := by decide +kernel
theorem d_U_group_15 : decode c_U_group 15 = .ok (.getfield 15, 3) := by decide +kernel
theorem d_U_group_18 : decode c_U_group 18 = .ok (.iload 4, 2) := by decide +kernel
theorem d_U_group_20 : decode c_U_group 20 = .ok (.iaload, 1) := by decide +kernel
theorem d_U_group_21 : decode c_U_group 21 = .ok (.iload_n 1, 1) := by decide +kernel
theorem d_U_group_22 : decode c_U_group 22 = .ok (.if_icmp .ne 21, 3) := by decide +kernel
theorem d_U_group_25 : decode c_U_group 25 = .ok (.aload_n 0, 1) := by decide +kernel
theorem d_U_group_26 : decode c_U_group 26 = .ok (.getfield 9, 3) := by decide +kernel
theorem d_U_group_29 : decode c_U_group 29 = .ok (.iload 4, 2) := by decide +kernel
theorem d_U_group_31 : decode c_U_group 31 = .ok (.iaload, 1) := by decide +kernel
theorem d_U_group_32 : decode c_U_group 32 = .ok (.iload_n 2, 1) := by decide +kernel
theorem d_U_group_33 : decode c_U_group 33 = .ok (.if_icmp .ne 10, 3) := by decide +kernel
theorem d_U_group_36 : decode c_U_group 36 = .ok (.iload_n 3, 1) := by decide +kernel
theorem d_U_group_37 : decode c_U_group 37 = .ok (.iconst 1, 1) := by decide +kernel
theorem d_U_group_38 : decode c_U_group 38 = .ok (.iload 4, 2) := by decide +kernel
theorem d_U_group_40 : decode c_U_group 40 = .ok (.ishl, 1) := by decide +kernel
theorem d_U_group_41 : decode c_U_group 41 = .ok (.ior, 1) := by decide +kernel
theorem d_U_group_42 : decode c_U_group 42 = .ok (.istore_n 3, 1) := by decide +kernel
theorem d_U_group_43 : decode c_U_group 43 = .ok (.iinc 4 1, 3) := by decide +kernel
theorem d_U_group_46 : decode c_U_group 46 = .ok (.goto (-41), 3) := by decide +kernel
theorem d_U_group_49 : decode c_U_group 49 = .ok (.iload_n 3, 1) := by decide +kernel
theorem d_U_group_50 : decode c_U_group 50 = .ok (.ireturn, 1) := by decide +kernel
theorem d_G_leastFree_0 : decode c_G_leastFree 0 = .ok (.iconst 1, 1) := by decide +kernel
theorem d_G_leastFree_1 : decode c_G_leastFree 1 = .ok (.istore_n 2, 1) := by decide +kernel
theorem d_G_leastFree_2 : decode c_G_leastFree 2 = .ok (.iload_n 2, 1) := by decide +kernel
theorem d_G_leastFree_3 : decode c_G_leastFree 3 = .ok (.bipush 24, 2) := by decide +kernel
theorem d_G_leastFree_5 : decode c_G_leastFree 5 = .ok (.if_icmp .gt 30, 3) := by decide +kernel
theorem d_G_leastFree_8 : decode c_G_leastFree 8 = .ok (.iload_n 1, 1) := by decide +kernel
theorem d_G_leastFree_9 : decode c_G_leastFree 9 = .ok (.iload_n 2, 1) := by decide +kernel
theorem d_G_leastFree_10 : decode c_G_leastFree 10 = .ok (.invokestatic 24, 3) := by decide +kernel
theorem d_G_leastFree_13 : decode c_G_leastFree 13 = .ok (.ifCond .eq 16, 3) := by decide +kernel
theorem d_G_leastFree_16 : decode c_G_leastFree 16 = .ok (.aload_n 0, 1) := by decide +kernel
theorem d_G_leastFree_17 : decode c_G_leastFree 17 = .ok (.getfield 15, 3) := by decide +kernel
theorem d_G_leastFree_20 : decode c_G_leastFree 20 = .ok (.iload_n 2, 1) := by decide +kernel
theorem d_G_leastFree_21 : decode c_G_leastFree 21 = .ok (.iaload, 1) := by decide +kernel
theorem d_G_leastFree_22 : decode c_G_leastFree 22 = .ok (.iload_n 1, 1) := by decide +kernel
theorem d_G_leastFree_23 : decode c_G_leastFree 23 = .ok (.iand, 1) := by decide +kernel
theorem d_G_leastFree_24 : decode c_G_leastFree 24 = .ok (.ifCond .ne 5, 3) := by decide +kernel
theorem d_G_leastFree_27 : decode c_G_leastFree 27 = .ok (.iload_n 2, 1) := by decide +kernel
theorem d_G_leastFree_28 : decode c_G_leastFree 28 = .ok (.ireturn, 1) := by decide +kernel
theorem d_G_leastFree_29 : decode c_G_leastFree 29 = .ok (.iinc 2 1, 3) := by decide +kernel
theorem d_G_leastFree_32 : decode c_G_leastFree 32 = .ok (.goto (-30), 3) := by decide +kernel
theorem d_G_leastFree_35 : decode c_G_leastFree 35 = .ok (.iconst 0, 1) := by decide +kernel
theorem d_G_leastFree_36 : decode c_G_leastFree 36 = .ok (.ireturn, 1) := by decide +kernel
theorem d_U_periodAbove_0 : decode c_U_periodAbove 0 = .ok (.iconst 0, 1) := by decide +kernel
theorem d_U_periodAbove_1 : decode c_U_periodAbove 1 = .ok (.istore_n 3, 1) := by decide +kernel
theorem d_U_periodAbove_2 : decode c_U_periodAbove 2 = .ok (.iconst 1, 1) := by decide +kernel
theorem d_U_periodAbove_3 : decode c_U_periodAbove 3 = .ok (.istore 4, 2) := by decide +kernel
theorem d_U_periodAbove_5 : decode c_U_periodAbove 5 = .ok (.iload 4, 2) := by decide +kernel
theorem d_U_periodAbove_7 : decode c_U_periodAbove 7 = .ok (.aload_n 0, 1) := by decide +kernel
theorem d_U_periodAbove_8 : decode c_U_periodAbove 8 = .ok (.getfield 27, 3) := by decide +kernel
theorem d_U_periodAbove_11 : decode c_U_periodAbove 11 = .ok (.if_icmp .gt 54, 3) := by decide +kernel
theorem d_U_periodAbove_14 : decode c_U_periodAbove 14 = .ok (.aload_n 0, 1) := by decide +kernel
theorem d_U_periodAbove_15 : decode c_U_periodAbove 15 = .ok (.getfield 15, 3) := by decide +kernel
theorem d_U_periodAbove_18 : decode c_U_periodAbove 18 = .ok (.iload 4, 2) := by decide +kernel
theorem d_U_periodAbove_20 : decode c_U_periodAbove 20 = .ok (.iaload, 1) := by decide +kernel
theorem d_U_periodAbove_21 : decode c_U_periodAbove 21 = .ok (.iload_n 1, 1) := by decide +kernel
theorem d_U_periodAbove_22 : decode c_U_periodAbove 22 = .ok (.if_icmp .ne 37, 3) := by decide +kernel
theorem d_U_periodAbove_25 : decode c_U_periodAbove 25 = .ok (.aload_n 0, 1) := by decide +kernel
theorem d_U_periodAbove_26 : decode c_U_periodAbove 26 = .ok (.getfield 9, 3) := by decide +kernel
theorem d_U_periodAbove_29 : decode c_U_periodAbove 29 = .ok (.iload 4, 2) := by decide +kernel
theorem d_U_periodAbove_31 : decode c_U_periodAbove 31 = .ok (.iaload, 1) := by decide +kernel
theorem d_U_periodAbove_32 : decode c_U_periodAbove 32 = .ok (.iload_n 2, 1) := by decide +kernel
theorem d_U_periodAbove_33 : decode c_U_periodAbove 33 = .ok (.if_icmp .le 26, 3) := by decide +kernel
theorem d_U_periodAbove_36 : decode c_U_periodAbove 36 = .ok (.iload_n 3, 1) := by decide +kernel
theorem d_U_periodAbove_37 : decode c_U_periodAbove 37 = .ok (.ifCond .eq 14, 3) := by decide +kernel
theorem d_U_periodAbove_40 : decode c_U_periodAbove 40 = .ok (.aload_n 0, 1) := by decide +kernel
theorem d_U_periodAbove_41 : decode c_U_periodAbove 41 = .ok (.getfield 9, 3) := by decide +kernel
theorem d_U_periodAbove_44 : decode c_U_periodAbove 44 = .ok (.iload 4, 2) := by decide +kernel
theorem d_U_periodAbove_46 : decode c_U_periodAbove 46 = .ok (.iaload, 1) := by decide +kernel
theorem d_U_periodAbove_47 : decode c_U_periodAbove 47 = .ok (.iload_n 3, 1) := by decide +kernel
theorem d_U_periodAbove_48 : decode c_U_periodAbove 48 = .ok (.if_icmp .ge 11, 3) := by decide +kernel
theorem d_U_periodAbove_51 : decode c_U_periodAbove 51 = .ok (.aload_n 0, 1) := by decide +kernel
theorem d_U_periodAbove_52 : decode c_U_periodAbove 52 = .ok (.getfield 9, 3) := by decide +kernel
theorem d_U_periodAbove_55 : decode c_U_periodAbove 55 = .ok (.iload 4, 2) := by decide +kernel
theorem d_U_periodAbove_57 : decode c_U_periodAbove 57 = .ok (.iaload, 1) := by decide +kernel
theorem d_U_periodAbove_58 : decode c_U_periodAbove 58 = .ok (.istore_n 3, 1) := by decide +kernel
theorem d_U_periodAbove_59 : decode c_U_periodAbove 59 = .ok (.iinc 4 1, 3) := by decide +kernel
theorem d_U_periodAbove_62 : decode c_U_periodAbove 62 = .ok (.goto (-57), 3) := by decide +kernel
theorem d_U_periodAbove_65 : decode c_U_periodAbove 65 = .ok (.iload_n 3, 1) := by decide +kernel
theorem d_U_periodAbove_66 : decode c_U_periodAbove 66 = .ok (.ireturn, 1) := by decide +kernel
theorem d_G_toldAt_0 : decode c_G_toldAt 0 = .ok (.iload_n 1, 1) := by decide +kernel
theorem d_G_toldAt_1 : decode c_G_toldAt 1 = .ok (.ifCond .lt 20, 3) := by decide +kernel
theorem d_G_toldAt_4 : decode c_G_toldAt 4 = .ok (.iload_n 1, 1) := by decide +kernel
theorem d_G_toldAt_5 : decode c_G_toldAt 5 = .ok (.aload_n 0, 1) := by decide +kernel
theorem d_G_toldAt_6 : decode c_G_toldAt 6 = .ok (.getfield 35, 3) := by decide +kernel
theorem d_G_toldAt_9 : decode c_G_toldAt 9 = .ok (.if_icmp .ge 12, 3) := by decide +kernel
theorem d_G_toldAt_12 : decode c_G_toldAt 12 = .ok (.aload_n 0, 1) := by decide +kernel
theorem d_G_toldAt_13 : decode c_G_toldAt 13 = .ok (.getfield 21, 3) := by decide +kernel
theorem d_G_toldAt_16 : decode c_G_toldAt 16 = .ok (.iload_n 1, 1) := by decide +kernel
theorem d_G_toldAt_17 : decode c_G_toldAt 17 = .ok (.iaload, 1) := by decide +kernel
theorem d_G_toldAt_18 : decode c_G_toldAt 18 = .ok (.goto 4, 3) := by decide +kernel
theorem d_G_toldAt_21 : decode c_G_toldAt 21 = .ok (.iconst 0, 1) := by decide +kernel
theorem d_G_toldAt_22 : decode c_G_toldAt 22 = .ok (.ireturn, 1) := by decide +kernel
theorem d_U_copiesAcross_0 : decode c_U_copiesAcross 0 = .ok (.iconst 0, 1) := by decide +kernel
theorem d_U_copiesAcross_1 : decode c_U_copiesAcross 1 = .ok (.istore_n 2, 1) := by decide +kernel
theorem d_U_copiesAcross_2 : decode c_U_copiesAcross 2 = .ok (.iconst 0, 1) := by decide +kernel
theorem d_U_copiesAcross_3 : decode c_U_copiesAcross 3 = .ok (.istore_n 3, 1) := by decide +kernel
theorem d_U_copiesAcross_4 : decode c_U_copiesAcross 4 = .ok (.iconst 1, 1) := by decide +kernel
theorem d_U_copiesAcross_5 : decode c_U_copiesAcross 5 = .ok (.istore 4, 2) := by decide +kernel
theorem d_U_copiesAcross_7 : decode c_U_copiesAcross 7 = .ok (.iload 4, 2) := by decide +kernel
theorem d_U_copiesAcross_9 : decode c_U_copiesAcross 9 = .ok (.aload_n 0, 1) := by decide +kernel
theorem d_U_copiesAcross_10 : decode c_U_copiesAcross 10 = .ok (.getfield 27, 3) := by decide +kernel
theorem d_U_copiesAcross_13 : decode c_U_copiesAcross 13 = .ok (.if_icmp .gt 61, 3) := by decide +kernel
theorem d_U_copiesAcross_16 : decode c_U_copiesAcross 16 = .ok (.aload_n 0, 1) := by decide +kernel
theorem d_U_copiesAcross_17 : decode c_U_copiesAcross 17 = .ok (.getfield 21, 3) := by decide +kernel
theorem d_U_copiesAcross_20 : decode c_U_copiesAcross 20 = .ok (.iload 4, 2) := by decide +kernel
theorem d_U_copiesAcross_22 : decode c_U_copiesAcross 22 = .ok (.iaload, 1) := by decide +kernel
theorem d_U_copiesAcross_23 : decode c_U_copiesAcross 23 = .ok (.iload_n 1, 1) := by decide +kernel
theorem d_U_copiesAcross_24 : decode c_U_copiesAcross 24 = .ok (.invokestatic 45, 3) := by decide +kernel
theorem d_U_copiesAcross_27 : decode c_U_copiesAcross 27 = .ok (.ifCond .eq 15, 3) := by decide +kernel
theorem d_U_copiesAcross_30 : decode c_U_copiesAcross 30 = .ok (.iload_n 2, 1) := by decide +kernel
theorem d_U_copiesAcross_31 : decode c_U_copiesAcross 31 = .ok (.iconst 1, 1) := by decide +kernel
theorem d_U_copiesAcross_32 : decode c_U_copiesAcross 32 = .ok (.aload_n 0, 1) := by decide +kernel
theorem d_U_copiesAcross_33 : decode c_U_copiesAcross 33 = .ok (.getfield 15, 3) := by decide +kernel
theorem d_U_copiesAcross_36 : decode c_U_copiesAcross 36 = .ok (.iload 4, 2) := by decide +kernel
theorem d_U_copiesAcross_38 : decode c_U_copiesAcross 38 = .ok (.iaload, 1) := by decide +kernel
theorem d_U_copiesAcross_39 : decode c_U_copiesAcross 39 = .ok (.ishl, 1) := by decide +kernel
theorem d_U_copiesAcross_40 : decode c_U_copiesAcross 40 = .ok (.ior, 1) := by decide +kernel
theorem d_U_copiesAcross_41 : decode c_U_copiesAcross 41 = .ok (.istore_n 2, 1) := by decide +kernel
theorem d_U_copiesAcross_42 : decode c_U_copiesAcross 42 = .ok (.aload_n 0, 1) := by decide +kernel
theorem d_U_copiesAcross_43 : decode c_U_copiesAcross 43 = .ok (.getfield 24, 3) := by decide +kernel
theorem d_U_copiesAcross_46 : decode c_U_copiesAcross 46 = .ok (.iload 4, 2) := by decide +kernel
theorem d_U_copiesAcross_48 : decode c_U_copiesAcross 48 = .ok (.iaload, 1) := by decide +kernel
theorem d_U_copiesAcross_49 : decode c_U_copiesAcross 49 = .ok (.iload_n 1, 1) := by decide +kernel
theorem d_U_copiesAcross_50 : decode c_U_copiesAcross 50 = .ok (.invokestatic 45, 3) := by decide +kernel
theorem d_U_copiesAcross_53 : decode c_U_copiesAcross 53 = .ok (.ifCond .eq 15, 3) := by decide +kernel
theorem d_U_copiesAcross_56 : decode c_U_copiesAcross 56 = .ok (.iload_n 3, 1) := by decide +kernel
theorem d_U_copiesAcross_57 : decode c_U_copiesAcross 57 = .ok (.iconst 1, 1) := by decide +kernel
theorem d_U_copiesAcross_58 : decode c_U_copiesAcross 58 = .ok (.aload_n 0, 1) := by decide +kernel
theorem d_U_copiesAcross_59 : decode c_U_copiesAcross 59 = .ok (.getfield 15, 3) := by decide +kernel
theorem d_U_copiesAcross_62 : decode c_U_copiesAcross 62 = .ok (.iload 4, 2) := by decide +kernel
theorem d_U_copiesAcross_64 : decode c_U_copiesAcross 64 = .ok (.iaload, 1) := by decide +kernel
theorem d_U_copiesAcross_65 : decode c_U_copiesAcross 65 = .ok (.ishl, 1) := by decide +kernel
theorem d_U_copiesAcross_66 : decode c_U_copiesAcross 66 = .ok (.ior, 1) := by decide +kernel
theorem d_U_copiesAcross_67 : decode c_U_copiesAcross 67 = .ok (.istore_n 3, 1) := by decide +kernel
theorem d_U_copiesAcross_68 : decode c_U_copiesAcross 68 = .ok (.iinc 4 1, 3) := by decide +kernel
theorem d_U_copiesAcross_71 : decode c_U_copiesAcross 71 = .ok (.goto (-64), 3) := by decide +kernel
theorem d_U_copiesAcross_74 : decode c_U_copiesAcross 74 = .ok (.iconst 0, 1) := by decide +kernel
theorem d_U_copiesAcross_75 : decode c_U_copiesAcross 75 = .ok (.istore 4, 2) := by decide +kernel
theorem d_U_copiesAcross_77 : decode c_U_copiesAcross 77 = .ok (.iconst 1, 1) := by decide +kernel
theorem d_U_copiesAcross_78 : decode c_U_copiesAcross 78 = .ok (.istore 5, 2) := by decide +kernel
theorem d_U_copiesAcross_80 : decode c_U_copiesAcross 80 = .ok (.iload 5, 2) := by decide +kernel
theorem d_U_copiesAcross_82 : decode c_U_copiesAcross 82 = .ok (.iconst 4, 1) := by decide +kernel
theorem d_U_copiesAcross_83 : decode c_U_copiesAcross 83 = .ok (.if_icmp .gt 44, 3) := by decide +kernel
theorem d_U_copiesAcross_86 : decode c_U_copiesAcross 86 = .ok (.iload_n 3, 1) := by decide +kernel
theorem d_U_copiesAcross_87 : decode c_U_copiesAcross 87 = .ok (.iconst 1, 1) := by decide +kernel
theorem d_U_copiesAcross_88 : decode c_U_copiesAcross 88 = .ok (.iload 5, 2) := by decide +kernel
theorem d_U_copiesAcross_90 : decode c_U_copiesAcross 90 = .ok (.ishl, 1) := by decide +kernel
theorem d_U_copiesAcross_91 : decode c_U_copiesAcross 91 = .ok (.iconst (-1), 1) := by decide +kernel
theorem d_U_copiesAcross_92 : decode c_U_copiesAcross 92 = .ok (.ixor, 1) := by decide +kernel
theorem d_U_copiesAcross_93 : decode c_U_copiesAcross 93 = .ok (.iand, 1) := by decide +kernel
theorem d_U_copiesAcross_94 : decode c_U_copiesAcross 94 = .ok (.ifCond .eq 7, 3) := by decide +kernel
theorem d_U_copiesAcross_97 : decode c_U_copiesAcross 97 = .ok (.iconst 1, 1) := by decide +kernel
theorem d_U_copiesAcross_98 : decode c_U_copiesAcross 98 = .ok (.goto 4, 3) := by decide +kernel
theorem d_U_copiesAcross_101 : decode c_U_copiesAcross 101 = .ok (.iconst 0, 1) := by decide +kernel
theorem d_U_copiesAcross_102 : decode c_U_copiesAcross 102 = .ok (.istore 6, 2) := by decide +kernel
theorem d_U_copiesAcross_104 : decode c_U_copiesAcross 104 = .ok (.iload_n 2, 1) := by decide +kernel
theorem d_U_copiesAcross_105 : decode c_U_copiesAcross 105 = .ok (.iload 5, 2) := by decide +kernel
theorem d_U_copiesAcross_107 : decode c_U_copiesAcross 107 = .ok (.invokestatic 45, 3) := by decide +kernel
theorem d_U_copiesAcross_110 : decode c_U_copiesAcross 110 = .ok (.ifCond .eq 11, 3) := by decide +kernel
theorem d_U_copiesAcross_113 : decode c_U_copiesAcross 113 = .ok (.iload 6, 2) := by decide +kernel
theorem d_U_copiesAcross_115 : decode c_U_copiesAcross 115 = .ok (.ifCond .eq 6, 3) := by decide +kernel
theorem d_U_copiesAcross_118 : decode c_U_copiesAcross 118 = .ok (.iinc 4 1, 3) := by decide +kernel
theorem d_U_copiesAcross_121 : decode c_U_copiesAcross 121 = .ok (.iinc 5 1, 3) := by decide +kernel
theorem d_U_copiesAcross_124 : decode c_U_copiesAcross 124 = .ok (.goto (-44), 3) := by decide +kernel
theorem d_U_copiesAcross_127 : decode c_U_copiesAcross 127 = .ok (.iload 4, 2) := by decide +kernel
theorem d_U_copiesAcross_129 : decode c_U_copiesAcross 129 = .ok (.ireturn, 1) := by decide +kernel
end
section
theorem d_P_init_0 : decode c_P_init 0 = .ok (.aload_n 0, 1) := by decide +kernel
theorem d_P_init_1 : decode c_P_init 1 = .ok (.invokespecial 3, 3) := by decide +kernel
theorem d_P_init_4 : decode c_P_init 4 = .ok (.aload_n 0, 1) := by decide +kernel
theorem d_P_init_5 : decode c_P_init 5 = .ok (.bipush 25, 2) := by decide +kernel
theorem d_P_init_7 : decode c_P_init 7 = .ok (.newarray .int, 2) := by decide +kernel
theorem d_P_init_9 : decode c_P_init 9 = .ok (.putfield 9, 3) := by decide +kernel
theorem d_P_init_12 : decode c_P_init 12 = .ok (.aload_n 0, 1) := by decide +kernel
theorem d_P_init_13 : decode c_P_init 13 = .ok (.bipush 25, 2) := by decide +kernel
theorem d_P_init_15 : decode c_P_init 15 = .ok (.newarray .int, 2) := by decide +kernel
theorem d_P_init_17 : decode c_P_init 17 = .ok (.putfield 15, 3) := by decide +kernel
theorem d_P_init_20 : decode c_P_init 20 = .ok (.aload_n 0, 1) := by decide +kernel
theorem d_P_init_21 : decode c_P_init 21 = .ok (.bipush 25, 2) := by decide +kernel
theorem d_P_init_23 : decode c_P_init 23 = .ok (.newarray .int, 2) := by decide +kernel
theorem d_P_init_25 : decode c_P_init 25 = .ok (.putfield 18, 3) := by decide +kernel
theorem d_P_init_28 : decode c_P_init 28 = .ok (.aload_n 0, 1) := by decide +kernel
theorem d_P_init_29 : decode c_P_init 29 = .ok (.bipush 24, 2) := by decide +kernel
theorem d_P_init_31 : decode c_P_init 31 = .ok (.newarray .int, 2) := by decide +kernel
theorem d_P_init_33 : decode c_P_init 33 = .ok (.putfield 21, 3) := by decide +kernel
theorem d_P_init_36 : decode c_P_init 36 = .ok (.aload_n 0, 1) := by decide +kernel
theorem d_P_init_37 : decode c_P_init 37 = .ok (.bipush 26, 2) := by decide +kernel
theorem d_P_init_39 : decode c_P_init 39 = .ok (.newarray .int, 2) := by decide +kernel
theorem d_P_init_41 : decode c_P_init 41 = .ok (.putfield 24, 3) := by decide +kernel
theorem d_P_init_44 : decode c_P_init 44 = .ok (.return_, 1) := by decide +kernel
theorem d_P_addTask_0 : decode c_P_addTask 0 = .ok (.aload_n 0, 1) := by decide +kernel
theorem d_P_addTask_1 : decode c_P_addTask 1 = .ok (.getfield 27, 3) := by decide +kernel
theorem d_P_addTask_4 : decode c_P_addTask 4 = .ok (.bipush 24, 2) := by decide +kernel
theorem d_P_addTask_6 : decode c_P_addTask 6 = .ok (.if_icmp .lt 4, 3) := by decide +kernel
theorem d_P_addTask_9 : decode c_P_addTask 9 = .ok (.return_, 1) := by decide +kernel
theorem d_P_addTask_10 : decode c_P_addTask 10 = .ok (.aload_n 0, 1) := by decide +kernel
theorem d_P_addTask_11 : decode c_P_addTask 11 = .ok (.dup, 1) := by decide +kernel
theorem d_P_addTask_12 : decode c_P_addTask 12 = .ok (.getfield 27, 3) := by decide +kernel
theorem d_P_addTask_15 : decode c_P_addTask 15 = .ok (.iconst 1, 1) := by decide +kernel
theorem d_P_addTask_16 : decode c_P_addTask 16 = .ok (.iadd, 1) := by decide +kernel
theorem d_P_addTask_17 : decode c_P_addTask 17 = .ok (.putfield 27, 3) := by decide +kernel
theorem d_P_addTask_20 : decode c_P_addTask 20 = .ok (.aload_n 0, 1) := by decide +kernel
theorem d_P_addTask_21 : decode c_P_addTask 21 = .ok (.getfield 15, 3) := by decide +kernel
theorem d_P_addTask_24 : decode c_P_addTask 24 = .ok (.aload_n 0, 1) := by decide +kernel
theorem d_P_addTask_25 : decode c_P_addTask 25 = .ok (.getfield 27, 3) := by decide +kernel
theorem d_P_addTask_28 : decode c_P_addTask 28 = .ok (.iload_n 1, 1) := by decide +kernel
theorem d_P_addTask_29 : decode c_P_addTask 29 = .ok (.iastore, 1) := by decide +kernel
theorem d_P_addTask_30 : decode c_P_addTask 30 = .ok (.iload_n 2, 1) := by decide +kernel
theorem d_P_addTask_31 : decode c_P_addTask 31 = .ok (.istore 4, 2) := by decide +kernel
theorem d_P_addTask_33 : decode c_P_addTask 33 = .ok (.aload_n 0, 1) := by decide +kernel
theorem d_P_addTask_34 : decode c_P_addTask 34 = .ok (.getfield 24, 3) := by decide +kernel
theorem d_P_addTask_37 : decode c_P_addTask 37 = .ok (.aload_n 0, 1) := by decide +kernel
theorem d_P_addTask_38 : decode c_P_addTask 38 = .ok (.getfield 27, 3) := by decide +kernel
theorem d_P_addTask_41 : decode c_P_addTask 41 = .ok (.iaload, 1) := by decide +kernel
theorem d_P_addTask_42 : decode c_P_addTask 42 = .ok (.istore 5, 2) := by decide +kernel
theorem d_P_addTask_44 : decode c_P_addTask 44 = .ok (.iload 4, 2) := by decide +kernel
theorem d_P_addTask_46 : decode c_P_addTask 46 = .ok (.ifCond .eq 58, 3) := by decide +kernel
theorem d_P_addTask_49 : decode c_P_addTask 49 = .ok (.iload 5, 2) := by decide +kernel
theorem d_P_addTask_51 : decode c_P_addTask 51 = .ok (.aload_n 0, 1) := by decide +kernel
theorem d_P_addTask_52 : decode c_P_addTask 52 = .ok (.getfield 21, 3) := by decide +kernel
theorem d_P_addTask_55 : decode c_P_addTask 55 = .ok (.arraylength, 1) := by decide +kernel
theorem d_P_addTask_56 : decode c_P_addTask 56 = .ok (.if_icmp .ge 48, 3) := by decide +kernel
theorem d_P_addTask_59 : decode c_P_addTask 59 = .ok (.aload_n 3, 1) := by decide +kernel
theorem d_P_addTask_60 : decode c_P_addTask 60 = .ok (.iload 4, 2) := by decide +kernel
theorem d_P_addTask_62 : decode c_P_addTask 62 = .ok (.invokevirtual 55, 3) := by decide +kernel
theorem d_P_addTask_65 : decode c_P_addTask 65 = .ok (.istore 6, 2) := by decide +kernel
theorem d_P_addTask_67 : decode c_P_addTask 67 = .ok (.aload_n 0, 1) := by decide +kernel
theorem d_P_addTask_68 : decode c_P_addTask 68 = .ok (.getfield 21, 3) := by decide +kernel
theorem d_P_addTask_71 : decode c_P_addTask 71 = .ok (.iload 5, 2) := by decide +kernel
theorem d_P_addTask_73 : decode c_P_addTask 73 = .ok (.iload 6, 2) := by decide +kernel
theorem d_P_addTask_75 : decode c_P_addTask 75 = .ok (.iastore, 1) := by decide +kernel
theorem d_P_addTask_76 : decode c_P_addTask 76 = .ok (.aload_n 0, 1) := by decide +kernel
theorem d_P_addTask_77 : decode c_P_addTask 77 = .ok (.getfield 9, 3) := by decide +kernel
theorem d_P_addTask_80 : decode c_P_addTask 80 = .ok (.iload 6, 2) := by decide +kernel
theorem d_P_addTask_82 : decode c_P_addTask 82 = .ok (.aload_n 0, 1) := by decide +kernel
theorem d_P_addTask_83 : decode c_P_addTask 83 = .ok (.getfield 27, 3) := by decide +kernel
theorem d_P_addTask_86 : decode c_P_addTask 86 = .ok (.iastore, 1) := by decide +kernel
theorem d_P_addTask_87 : decode c_P_addTask 87 = .ok (.iload 4, 2) := by decide +kernel
theorem d_P_addTask_89 : decode c_P_addTask 89 = .ok (.iconst 1, 1) := by decide +kernel
theorem d_P_addTask_90 : decode c_P_addTask 90 = .ok (.iload 6, 2) := by decide +kernel
theorem d_P_addTask_92 : decode c_P_addTask 92 = .ok (.ishl, 1) := by decide +kernel
theorem d_P_addTask_93 : decode c_P_addTask 93 = .ok (.iconst (-1), 1) := by decide +kernel
theorem d_P_addTask_94 : decode c_P_addTask 94 = .ok (.ixor, 1) := by decide +kernel
theorem d_P_addTask_95 : decode c_P_addTask 95 = .ok (.iand, 1) := by decide +kernel
theorem d_P_addTask_96 : decode c_P_addTask 96 = .ok (.istore 4, 2) := by decide +kernel
theorem d_P_addTask_98 : decode c_P_addTask 98 = .ok (.iinc 5 1, 3) := by decide +kernel
theorem d_P_addTask_101 : decode c_P_addTask 101 = .ok (.goto (-57), 3) := by decide +kernel
theorem d_P_addTask_104 : decode c_P_addTask 104 = .ok (.aload_n 0, 1) := by decide +kernel
theorem d_P_addTask_105 : decode c_P_addTask 105 = .ok (.getfield 24, 3) := by decide +kernel
theorem d_P_addTask_108 : decode c_P_addTask 108 = .ok (.aload_n 0, 1) := by decide +kernel
theorem d_P_addTask_109 : decode c_P_addTask 109 = .ok (.getfield 27, 3) := by decide +kernel
theorem d_P_addTask_112 : decode c_P_addTask 112 = .ok (.iconst 1, 1) := by decide +kernel
theorem d_P_addTask_113 : decode c_P_addTask 113 = .ok (.iadd, 1) := by decide +kernel
theorem d_P_addTask_114 : decode c_P_addTask 114 = .ok (.iload 5, 2) := by decide +kernel
theorem d_P_addTask_116 : decode c_P_addTask 116 = .ok (.iastore, 1) := by decide +kernel
theorem d_P_addTask_117 : decode c_P_addTask 117 = .ok (.return_, 1) := by decide +kernel
theorem d_P_addEventTasks_0 : decode c_P_addEventTasks 0 = .ok (.aload_n 2, 1) := by decide +kernel
theorem d_P_addEventTasks_1 : decode c_P_addEventTasks 1 = .ok (.iload_n 1, 1) := by decide +kernel
theorem d_P_addEventTasks_2 : decode c_P_addEventTasks 2 = .ok (.iconst 0, 1) := by decide +kernel
theorem d_P_addEventTasks_3 : decode c_P_addEventTasks 3 = .ok (.invokevirtual 38, 3) := by decide +kernel
theorem d_P_addEventTasks_6 : decode c_P_addEventTasks 6 = .ok (.istore 4, 2) := by decide +kernel
theorem d_P_addEventTasks_8 : decode c_P_addEventTasks 8 = .ok (.iconst 1, 1) := by decide +kernel
theorem d_P_addEventTasks_9 : decode c_P_addEventTasks 9 = .ok (.istore 5, 2) := by decide +kernel
theorem d_P_addEventTasks_11 : decode c_P_addEventTasks 11 = .ok (.iload 5, 2) := by decide +kernel
theorem d_P_addEventTasks_13 : decode c_P_addEventTasks 13 = .ok (.bipush 24, 2) := by decide +kernel
theorem d_P_addEventTasks_15 : decode c_P_addEventTasks 15 = .ok (.if_icmp .gt 29, 3) := by decide +kernel
theorem d_P_addEventTasks_18 : decode c_P_addEventTasks 18 = .ok (.iload 4, 2) := by decide +kernel
theorem d_P_addEventTasks_20 : decode c_P_addEventTasks 20 = .ok (.iload 5, 2) := by decide +kernel
theorem d_P_addEventTasks_22 : decode c_P_addEventTasks 22 = .ok (.invokestatic 44, 3) := by decide +kernel
theorem d_P_addEventTasks_25 : decode c_P_addEventTasks 25 = .ok (.ifCond .eq 13, 3) := by decide +kernel
theorem d_P_addEventTasks_28 : decode c_P_addEventTasks 28 = .ok (.aload_n 0, 1) := by decide +kernel
theorem d_P_addEventTasks_29 : decode c_P_addEventTasks 29 = .ok (.iconst 0, 1) := by decide +kernel
theorem d_P_addEventTasks_30 : decode c_P_addEventTasks 30 = .ok (.iconst 1, 1) := by decide +kernel
theorem d_P_addEventTasks_31 : decode c_P_addEventTasks 31 = .ok (.iload 5, 2) := by decide +kernel
theorem d_P_addEventTasks_33 : decode c_P_addEventTasks 33 = .ok (.ishl, 1) := by decide +kernel
theorem d_P_addEventTasks_34 : decode c_P_addEventTasks 34 = .ok (.aload_n 3, 1) := by decide +kernel
theorem d_P_addEventTasks_35 : decode c_P_addEventTasks 35 = .ok (.invokevirtual 48, 3) := by decide +kernel
theorem d_P_addEventTasks_38 : decode c_P_addEventTasks 38 = .ok (.iinc 5 1, 3) := by decide +kernel
theorem d_P_addEventTasks_41 : decode c_P_addEventTasks 41 = .ok (.goto (-30), 3) := by decide +kernel
theorem d_P_addEventTasks_44 : decode c_P_addEventTasks 44 = .ok (.return_, 1) := by decide +kernel
theorem d_P_addPeriodTasks_0 : decode c_P_addPeriodTasks 0 = .ok (.aload_n 2, 1) := by decide +kernel
theorem d_P_addPeriodTasks_1 : decode c_P_addPeriodTasks 1 = .ok (.iload_n 1, 1) := by decide +kernel
theorem d_P_addPeriodTasks_2 : decode c_P_addPeriodTasks 2 = .ok (.iconst 0, 1) := by decide +kernel
theorem d_P_addPeriodTasks_3 : decode c_P_addPeriodTasks 3 = .ok (.invokevirtual 52, 3) := by decide +kernel
theorem d_P_addPeriodTasks_6 : decode c_P_addPeriodTasks 6 = .ok (.istore 4, 2) := by decide +kernel
theorem d_P_addPeriodTasks_8 : decode c_P_addPeriodTasks 8 = .ok (.iconst 0, 1) := by decide +kernel
theorem d_P_addPeriodTasks_9 : decode c_P_addPeriodTasks 9 = .ok (.istore 5, 2) := by decide +kernel
theorem d_P_addPeriodTasks_11 : decode c_P_addPeriodTasks 11 = .ok (.iload 5, 2) := by decide +kernel
theorem d_P_addPeriodTasks_13 : decode c_P_addPeriodTasks 13 = .ok (.bipush 24, 2) := by decide +kernel
theorem d_P_addPeriodTasks_15 : decode c_P_addPeriodTasks 15 = .ok (.if_icmp .ge 37, 3) := by decide +kernel
theorem d_P_addPeriodTasks_18 : decode c_P_addPeriodTasks 18 = .ok (.iload 4, 2) := by decide +kernel
theorem d_P_addPeriodTasks_20 : decode c_P_addPeriodTasks 20 = .ok (.ifCond .le 32, 3) := by decide +kernel
theorem d_P_addPeriodTasks_23 : decode c_P_addPeriodTasks 23 = .ok (.aload_n 0, 1) := by decide +kernel
theorem d_P_addPeriodTasks_24 : decode c_P_addPeriodTasks 24 = .ok (.iload 4, 2) := by decide +kernel
theorem d_P_addPeriodTasks_26 : decode c_P_addPeriodTasks 26 = .ok (.aload_n 2, 1) := by decide +kernel
theorem d_P_addPeriodTasks_27 : decode c_P_addPeriodTasks 27 = .ok (.iload_n 1, 1) := by decide +kernel
theorem d_P_addPeriodTasks_28 : decode c_P_addPeriodTasks 28 = .ok (.iload 4, 2) := by decide +kernel
theorem d_P_addPeriodTasks_30 : decode c_P_addPeriodTasks 30 = .ok (.invokevirtual 38, 3) := by decide +kernel
theorem d_P_addPeriodTasks_33 : decode c_P_addPeriodTasks 33 = .ok (.aload_n 3, 1) := by decide +kernel
theorem d_P_addPeriodTasks_34 : decode c_P_addPeriodTasks 34 = .ok (.invokevirtual 48, 3) := by decide +kernel
theorem d_P_addPeriodTasks_37 : decode c_P_addPeriodTasks 37 = .ok (.aload_n 2, 1) := by decide +kernel
theorem d_P_addPeriodTasks_38 : decode c_P_addPeriodTasks 38 = .ok (.iload_n 1, 1) := by decide +kernel
theorem d_P_addPeriodTasks_39 : decode c_P_addPeriodTasks 39 = .ok (.iload 4, 2) := by decide +kernel
theorem d_P_addPeriodTasks_41 : decode c_P_addPeriodTasks 41 = .ok (.invokevirtual 52, 3) := by decide +kernel
theorem d_P_addPeriodTasks_44 : decode c_P_addPeriodTasks 44 = .ok (.istore 4, 2) := by decide +kernel
theorem d_P_addPeriodTasks_46 : decode c_P_addPeriodTasks 46 = .ok (.iinc 5 1, 3) := by decide +kernel
theorem d_P_addPeriodTasks_49 : decode c_P_addPeriodTasks 49 = .ok (.goto (-38), 3) := by decide +kernel
theorem d_P_addPeriodTasks_52 : decode c_P_addPeriodTasks 52 = .ok (.return_, 1) := by decide +kernel
theorem d_P_layOut_0 : decode c_P_layOut 0 = .ok (.aload_n 0, 1) := by decide +kernel
theorem d_P_layOut_1 : decode c_P_layOut 1 = .ok (.iconst 0, 1) := by decide +kernel
theorem d_P_layOut_2 : decode c_P_layOut 2 = .ok (.putfield 27, 3) := by decide +kernel
theorem d_P_layOut_5 : decode c_P_layOut 5 = .ok (.iconst 1, 1) := by decide +kernel
theorem d_P_layOut_6 : decode c_P_layOut 6 = .ok (.istore_n 3, 1) := by decide +kernel
theorem d_P_layOut_7 : decode c_P_layOut 7 = .ok (.iload_n 3, 1) := by decide +kernel
theorem d_P_layOut_8 : decode c_P_layOut 8 = .ok (.iconst 4, 1) := by decide +kernel
theorem d_P_layOut_9 : decode c_P_layOut 9 = .ok (.if_icmp .gt 66, 3) := by decide +kernel
theorem d_P_layOut_12 : decode c_P_layOut 12 = .ok (.aload_n 0, 1) := by decide +kernel
theorem d_P_layOut_13 : decode c_P_layOut 13 = .ok (.getfield 27, 3) := by decide +kernel
theorem d_P_layOut_16 : decode c_P_layOut 16 = .ok (.istore 4, 2) := by decide +kernel
theorem d_P_layOut_18 : decode c_P_layOut 18 = .ok (.aload_n 0, 1) := by decide +kernel
theorem d_P_layOut_19 : decode c_P_layOut 19 = .ok (.iload_n 3, 1) := by decide +kernel
theorem d_P_layOut_20 : decode c_P_layOut 20 = .ok (.aload_n 1, 1) := by decide +kernel
theorem d_P_layOut_21 : decode c_P_layOut 21 = .ok (.aload_n 2, 1) := by decide +kernel
theorem d_P_layOut_22 : decode c_P_layOut 22 = .ok (.invokevirtual 31, 3) := by decide +kernel
theorem d_P_layOut_25 : decode c_P_layOut 25 = .ok (.aload_n 0, 1) := by decide +kernel
theorem d_P_layOut_26 : decode c_P_layOut 26 = .ok (.iload_n 3, 1) := by decide +kernel
theorem d_P_layOut_27 : decode c_P_layOut 27 = .ok (.aload_n 1, 1) := by decide +kernel
theorem d_P_layOut_28 : decode c_P_layOut 28 = .ok (.aload_n 2, 1) := by decide +kernel
theorem d_P_layOut_29 : decode c_P_layOut 29 = .ok (.invokevirtual 35, 3) := by decide +kernel
theorem d_P_layOut_32 : decode c_P_layOut 32 = .ok (.iload 4, 2) := by decide +kernel
theorem d_P_layOut_34 : decode c_P_layOut 34 = .ok (.iconst 1, 1) := by decide +kernel
theorem d_P_layOut_35 : decode c_P_layOut 35 = .ok (.iadd, 1) := by decide +kernel
theorem d_P_layOut_36 : decode c_P_layOut 36 = .ok (.istore 5, 2) := by decide +kernel
theorem d_P_layOut_38 : decode c_P_layOut 38 = .ok (.iload 5, 2) := by decide +kernel
theorem d_P_layOut_40 : decode c_P_layOut 40 = .ok (.aload_n 0, 1) := by decide +kernel
theorem d_P_layOut_41 : decode c_P_layOut 41 = .ok (.getfield 27, 3) := by decide +kernel
theorem d_P_layOut_44 : decode c_P_layOut 44 = .ok (.if_icmp .gt 25, 3) := by decide +kernel
theorem d_P_layOut_47 : decode c_P_layOut 47 = .ok (.aload_n 0, 1) := by decide +kernel
theorem d_P_layOut_48 : decode c_P_layOut 48 = .ok (.getfield 18, 3) := by decide +kernel
theorem d_P_layOut_51 : decode c_P_layOut 51 = .ok (.iload 5, 2) := by decide +kernel
theorem d_P_layOut_53 : decode c_P_layOut 53 = .ok (.aload_n 0, 1) := by decide +kernel
theorem d_P_layOut_54 : decode c_P_layOut 54 = .ok (.getfield 27, 3) := by decide +kernel
theorem d_P_layOut_57 : decode c_P_layOut 57 = .ok (.iload 5, 2) := by decide +kernel
theorem d_P_layOut_59 : decode c_P_layOut 59 = .ok (.isub, 1) := by decide +kernel
theorem d_P_layOut_60 : decode c_P_layOut 60 = .ok (.iconst 1, 1) := by decide +kernel
theorem d_P_layOut_61 : decode c_P_layOut 61 = .ok (.iadd, 1) := by decide +kernel
theorem d_P_layOut_62 : decode c_P_layOut 62 = .ok (.iastore, 1) := by decide +kernel
theorem d_P_layOut_63 : decode c_P_layOut 63 = .ok (.iinc 5 1, 3) := by decide +kernel
theorem d_P_layOut_66 : decode c_P_layOut 66 = .ok (.goto (-28), 3) := by decide +kernel
theorem d_P_layOut_69 : decode c_P_layOut 69 = .ok (.iinc 3 1, 3) := by decide +kernel
theorem d_P_layOut_72 : decode c_P_layOut 72 = .ok (.goto (-65), 3) := by decide +kernel
theorem d_P_layOut_75 : decode c_P_layOut 75 = .ok (.return_, 1) := by decide +kernel
theorem d_P_hasTask_0 : decode c_P_hasTask 0 = .ok (.iload_n 1, 1) := by decide +kernel
theorem d_P_hasTask_1 : decode c_P_hasTask 1 = .ok (.iconst 1, 1) := by decide +kernel
theorem d_P_hasTask_2 : decode c_P_hasTask 2 = .ok (.aload_n 0, 1) := by decide +kernel
theorem d_P_hasTask_3 : decode c_P_hasTask 3 = .ok (.getfield 27, 3) := by decide +kernel
theorem d_P_hasTask_6 : decode c_P_hasTask 6 = .ok (.invokestatic 61, 3) := by decide +kernel
theorem d_P_hasTask_9 : decode c_P_hasTask 9 = .ok (.ireturn, 1) := by decide +kernel
theorem d_P_sizeOf_0 : decode c_P_sizeOf 0 = .ok (.aload_n 0, 1) := by decide +kernel
theorem d_P_sizeOf_1 : decode c_P_sizeOf 1 = .ok (.getfield 24, 3) := by decide +kernel
theorem d_P_sizeOf_4 : decode c_P_sizeOf 4 = .ok (.iload_n 1, 1) := by decide +kernel
theorem d_P_sizeOf_5 : decode c_P_sizeOf 5 = .ok (.iconst 1, 1) := by decide +kernel
theorem d_P_sizeOf_6 : decode c_P_sizeOf 6 = .ok (.iadd, 1) := by decide +kernel
theorem d_P_sizeOf_7 : decode c_P_sizeOf 7 = .ok (.iaload, 1) := by decide +kernel
theorem d_P_sizeOf_8 : decode c_P_sizeOf 8 = .ok (.aload_n 0, 1) := by decide +kernel
theorem d_P_sizeOf_9 : decode c_P_sizeOf 9 = .ok (.getfield 24, 3) := by decide +kernel
theorem d_P_sizeOf_12 : decode c_P_sizeOf 12 = .ok (.iload_n 1, 1) := by decide +kernel
theorem d_P_sizeOf_13 : decode c_P_sizeOf 13 = .ok (.iaload, 1) := by decide +kernel
theorem d_P_sizeOf_14 : decode c_P_sizeOf 14 = .ok (.isub, 1) := by decide +kernel
theorem d_P_sizeOf_15 : decode c_P_sizeOf 15 = .ok (.ireturn, 1) := by decide +kernel
theorem d_P_runnableAt_0 : decode c_P_runnableAt 0 = .ok (.iload_n 2, 1) := by decide +kernel
theorem d_P_runnableAt_1 : decode c_P_runnableAt 1 = .ok (.ifCond .lt 28, 3) := by decide +kernel
theorem d_P_runnableAt_4 : decode c_P_runnableAt 4 = .ok (.iload_n 2, 1) := by decide +kernel
theorem d_P_runnableAt_5 : decode c_P_runnableAt 5 = .ok (.aload_n 0, 1) := by decide +kernel
theorem d_P_runnableAt_6 : decode c_P_runnableAt 6 = .ok (.iload_n 1, 1) := by decide +kernel
theorem d_P_runnableAt_7 : decode c_P_runnableAt 7 = .ok (.invokevirtual 65, 3) := by decide +kernel
theorem d_P_runnableAt_10 : decode c_P_runnableAt 10 = .ok (.if_icmp .ge 19, 3) := by decide +kernel
theorem d_P_runnableAt_13 : decode c_P_runnableAt 13 = .ok (.aload_n 0, 1) := by decide +kernel
theorem d_P_runnableAt_14 : decode c_P_runnableAt 14 = .ok (.getfield 21, 3) := by decide +kernel
theorem d_P_runnableAt_17 : decode c_P_runnableAt 17 = .ok (.aload_n 0, 1) := by decide +kernel
theorem d_P_runnableAt_18 : decode c_P_runnableAt 18 = .ok (.getfield 24, 3) := by decide +kernel
theorem d_P_runnableAt_21 : decode c_P_runnableAt 21 = .ok (.iload_n 1, 1) := by decide +kernel
theorem d_P_runnableAt_22 : decode c_P_runnableAt 22 = .ok (.iaload, 1) := by decide +kernel
theorem d_P_runnableAt_23 : decode c_P_runnableAt 23 = .ok (.iload_n 2, 1) := by decide +kernel
theorem d_P_runnableAt_24 : decode c_P_runnableAt 24 = .ok (.iadd, 1) := by decide +kernel
theorem d_P_runnableAt_25 : decode c_P_runnableAt 25 = .ok (.iaload, 1) := by decide +kernel
theorem d_P_runnableAt_26 : decode c_P_runnableAt 26 = .ok (.goto 4, 3) := by decide +kernel
theorem d_P_runnableAt_29 : decode c_P_runnableAt 29 = .ok (.iconst 0, 1) := by decide +kernel
theorem d_P_runnableAt_30 : decode c_P_runnableAt 30 = .ok (.ireturn, 1) := by decide +kernel
theorem d_P_isWrittenAbove_0 : decode c_P_isWrittenAbove 0 = .ok (.aload_n 0, 1) := by decide +kernel
theorem d_P_isWrittenAbove_1 : decode c_P_isWrittenAbove 1 = .ok (.getfield 18, 3) := by decide +kernel
theorem d_P_isWrittenAbove_4 : decode c_P_isWrittenAbove 4 = .ok (.aload_n 0, 1) := by decide +kernel
theorem d_P_isWrittenAbove_5 : decode c_P_isWrittenAbove 5 = .ok (.getfield 9, 3) := by decide +kernel
theorem d_P_isWrittenAbove_8 : decode c_P_isWrittenAbove 8 = .ok (.iload_n 1, 1) := by decide +kernel
theorem d_P_isWrittenAbove_9 : decode c_P_isWrittenAbove 9 = .ok (.iaload, 1) := by decide +kernel
theorem d_P_isWrittenAbove_10 : decode c_P_isWrittenAbove 10 = .ok (.iaload, 1) := by decide +kernel
theorem d_P_isWrittenAbove_11 : decode c_P_isWrittenAbove 11 = .ok (.istore 4, 2) := by decide +kernel
theorem d_P_isWrittenAbove_13 : decode c_P_isWrittenAbove 13 = .ok (.iconst 1, 1) := by decide +kernel
theorem d_P_isWrittenAbove_14 : decode c_P_isWrittenAbove 14 = .ok (.istore 5, 2) := by decide +kernel
theorem d_P_isWrittenAbove_16 : decode c_P_isWrittenAbove 16 = .ok (.iload 5, 2) := by decide +kernel
theorem d_P_isWrittenAbove_18 : decode c_P_isWrittenAbove 18 = .ok (.aload_n 2, 1) := by decide +kernel
theorem d_P_isWrittenAbove_19 : decode c_P_isWrittenAbove 19 = .ok (.getfield 71, 3) := by decide +kernel
theorem d_P_isWrittenAbove_22 : decode c_P_isWrittenAbove 22 = .ok (.if_icmp .gt 70, 3) := by decide +kernel
theorem d_P_isWrittenAbove_25 : decode c_P_isWrittenAbove 25 = .ok (.aload_n 2, 1) := by decide +kernel
theorem d_P_isWrittenAbove_26 : decode c_P_isWrittenAbove 26 = .ok (.getfield 81, 3) := by decide +kernel
theorem d_P_isWrittenAbove_29 : decode c_P_isWrittenAbove 29 = .ok (.iload 5, 2) := by decide +kernel
theorem d_P_isWrittenAbove_31 : decode c_P_isWrittenAbove 31 = .ok (.iaload, 1) := by decide +kernel
theorem d_P_isWrittenAbove_32 : decode c_P_isWrittenAbove 32 = .ok (.iload_n 3, 1) := by decide +kernel
theorem d_P_isWrittenAbove_33 : decode c_P_isWrittenAbove 33 = .ok (.invokestatic 44, 3) := by decide +kernel
theorem d_P_isWrittenAbove_36 : decode c_P_isWrittenAbove 36 = .ok (.ifCond .eq 23, 3) := by decide +kernel
theorem d_P_isWrittenAbove_39 : decode c_P_isWrittenAbove 39 = .ok (.aload_n 2, 1) := by decide +kernel
theorem d_P_isWrittenAbove_40 : decode c_P_isWrittenAbove 40 = .ok (.getfield 84, 3) := by decide +kernel
theorem d_P_isWrittenAbove_43 : decode c_P_isWrittenAbove 43 = .ok (.iload 5, 2) := by decide +kernel
theorem d_P_isWrittenAbove_45 : decode c_P_isWrittenAbove 45 = .ok (.iaload, 1) := by decide +kernel
theorem d_P_isWrittenAbove_46 : decode c_P_isWrittenAbove 46 = .ok (.aload_n 2, 1) := by decide +kernel
theorem d_P_isWrittenAbove_47 : decode c_P_isWrittenAbove 47 = .ok (.getfield 84, 3) := by decide +kernel
theorem d_P_isWrittenAbove_50 : decode c_P_isWrittenAbove 50 = .ok (.iload_n 1, 1) := by decide +kernel
theorem d_P_isWrittenAbove_51 : decode c_P_isWrittenAbove 51 = .ok (.iaload, 1) := by decide +kernel
theorem d_P_isWrittenAbove_52 : decode c_P_isWrittenAbove 52 = .ok (.if_icmp .ne 7, 3) := by decide +kernel
theorem d_P_isWrittenAbove_55 : decode c_P_isWrittenAbove 55 = .ok (.iconst 1, 1) := by decide +kernel
theorem d_P_isWrittenAbove_56 : decode c_P_isWrittenAbove 56 = .ok (.goto 4, 3) := by decide +kernel
theorem d_P_isWrittenAbove_59 : decode c_P_isWrittenAbove 59 = .ok (.iconst 0, 1) := by decide +kernel
theorem d_P_isWrittenAbove_60 : decode c_P_isWrittenAbove 60 = .ok (.istore 6, 2) := by decide +kernel
theorem d_P_isWrittenAbove_62 : decode c_P_isWrittenAbove 62 = .ok (.iload 6, 2) := by decide +kernel
theorem d_P_isWrittenAbove_64 : decode c_P_isWrittenAbove 64 = .ok (.ifCond .eq 22, 3) := by decide +kernel
theorem d_P_isWrittenAbove_67 : decode c_P_isWrittenAbove 67 = .ok (.aload_n 0, 1) := by decide +kernel
theorem d_P_isWrittenAbove_68 : decode c_P_isWrittenAbove 68 = .ok (.getfield 18, 3) := by decide +kernel
theorem d_P_isWrittenAbove_71 : decode c_P_isWrittenAbove 71 = .ok (.aload_n 0, 1) := by decide +kernel
theorem d_P_isWrittenAbove_72 : decode c_P_isWrittenAbove 72 = .ok (.getfield 9, 3) := by decide +kernel
theorem d_P_isWrittenAbove_75 : decode c_P_isWrittenAbove 75 = .ok (.iload 5, 2) := by decide +kernel
theorem d_P_isWrittenAbove_77 : decode c_P_isWrittenAbove 77 = .ok (.iaload, 1) := by decide +kernel
theorem d_P_isWrittenAbove_78 : decode c_P_isWrittenAbove 78 = .ok (.iaload, 1) := by decide +kernel
theorem d_P_isWrittenAbove_79 : decode c_P_isWrittenAbove 79 = .ok (.iload 4, 2) := by decide +kernel
theorem d_P_isWrittenAbove_81 : decode c_P_isWrittenAbove 81 = .ok (.if_icmp .le 5, 3) := by decide +kernel
theorem d_P_isWrittenAbove_84 : decode c_P_isWrittenAbove 84 = .ok (.iconst 1, 1) := by decide +kernel
theorem d_P_isWrittenAbove_85 : decode c_P_isWrittenAbove 85 = .ok (.ireturn, 1) := by decide +kernel
theorem d_P_isWrittenAbove_86 : decode c_P_isWrittenAbove 86 = .ok (.iinc 5 1, 3) := by decide +kernel
theorem d_P_isWrittenAbove_89 : decode c_P_isWrittenAbove 89 = .ok (.goto (-73), 3) := by decide +kernel
theorem d_P_isWrittenAbove_92 : decode c_P_isWrittenAbove 92 = .ok (.iconst 0, 1) := by decide +kernel
theorem d_P_isWrittenAbove_93 : decode c_P_isWrittenAbove 93 = .ok (.ireturn, 1) := by decide +kernel
theorem d_P_isCopied_0 : decode c_P_isCopied 0 = .ok (.iconst 1, 1) := by decide +kernel
theorem d_P_isCopied_1 : decode c_P_isCopied 1 = .ok (.istore_n 3, 1) := by decide +kernel
theorem d_P_isCopied_2 : decode c_P_isCopied 2 = .ok (.iload_n 3, 1) := by decide +kernel
theorem d_P_isCopied_3 : decode c_P_isCopied 3 = .ok (.aload_n 1, 1) := by decide +kernel
theorem d_P_isCopied_4 : decode c_P_isCopied 4 = .ok (.getfield 71, 3) := by decide +kernel
theorem d_P_isCopied_7 : decode c_P_isCopied 7 = .ok (.if_icmp .gt 34, 3) := by decide +kernel
theorem d_P_isCopied_10 : decode c_P_isCopied 10 = .ok (.aload_n 1, 1) := by decide +kernel
theorem d_P_isCopied_11 : decode c_P_isCopied 11 = .ok (.getfield 74, 3) := by decide +kernel
theorem d_P_isCopied_14 : decode c_P_isCopied 14 = .ok (.iload_n 3, 1) := by decide +kernel
theorem d_P_isCopied_15 : decode c_P_isCopied 15 = .ok (.iaload, 1) := by decide +kernel
theorem d_P_isCopied_16 : decode c_P_isCopied 16 = .ok (.iload_n 2, 1) := by decide +kernel
theorem d_P_isCopied_17 : decode c_P_isCopied 17 = .ok (.invokestatic 44, 3) := by decide +kernel
theorem d_P_isCopied_20 : decode c_P_isCopied 20 = .ok (.ifCond .eq 15, 3) := by decide +kernel
theorem d_P_isCopied_23 : decode c_P_isCopied 23 = .ok (.aload_n 0, 1) := by decide +kernel
theorem d_P_isCopied_24 : decode c_P_isCopied 24 = .ok (.iload_n 3, 1) := by decide +kernel
theorem d_P_isCopied_25 : decode c_P_isCopied 25 = .ok (.aload_n 1, 1) := by decide +kernel
theorem d_P_isCopied_26 : decode c_P_isCopied 26 = .ok (.iload_n 2, 1) := by decide +kernel
theorem d_P_isCopied_27 : decode c_P_isCopied 27 = .ok (.invokevirtual 77, 3) := by decide +kernel
theorem d_P_isCopied_30 : decode c_P_isCopied 30 = .ok (.ifCond .eq 5, 3) := by decide +kernel
theorem d_P_isCopied_33 : decode c_P_isCopied 33 = .ok (.iconst 1, 1) := by decide +kernel
theorem d_P_isCopied_34 : decode c_P_isCopied 34 = .ok (.ireturn, 1) := by decide +kernel
theorem d_P_isCopied_35 : decode c_P_isCopied 35 = .ok (.iinc 3 1, 3) := by decide +kernel
theorem d_P_isCopied_38 : decode c_P_isCopied 38 = .ok (.goto (-36), 3) := by decide +kernel
theorem d_P_isCopied_41 : decode c_P_isCopied 41 = .ok (.iconst 0, 1) := by decide +kernel
theorem d_P_isCopied_42 : decode c_P_isCopied 42 = .ok (.ireturn, 1) := by decide +kernel
theorem d_P_startAt_0 : decode c_P_startAt 0 = .ok (.iconst 0, 1) := by decide +kernel
theorem d_P_startAt_1 : decode c_P_startAt 1 = .ok (.istore_n 3, 1) := by decide +kernel
theorem d_P_startAt_2 : decode c_P_startAt 2 = .ok (.iconst 1, 1) := by decide +kernel
theorem d_P_startAt_3 : decode c_P_startAt 3 = .ok (.istore 4, 2) := by decide +kernel
theorem d_P_startAt_5 : decode c_P_startAt 5 = .ok (.iload 4, 2) := by decide +kernel
theorem d_P_startAt_7 : decode c_P_startAt 7 = .ok (.aload_n 0, 1) := by decide +kernel
theorem d_P_startAt_8 : decode c_P_startAt 8 = .ok (.getfield 27, 3) := by decide +kernel
theorem d_P_startAt_11 : decode c_P_startAt 11 = .ok (.if_icmp .gt 42, 3) := by decide +kernel
theorem d_P_startAt_14 : decode c_P_startAt 14 = .ok (.aload_n 0, 1) := by decide +kernel
theorem d_P_startAt_15 : decode c_P_startAt 15 = .ok (.getfield 15, 3) := by decide +kernel
theorem d_P_startAt_18 : decode c_P_startAt 18 = .ok (.iload 4, 2) := by decide +kernel
theorem d_P_startAt_20 : decode c_P_startAt 20 = .ok (.iaload, 1) := by decide +kernel
theorem d_P_startAt_21 : decode c_P_startAt 21 = .ok (.ifCond .le 26, 3) := by decide +kernel
theorem d_P_startAt_24 : decode c_P_startAt 24 = .ok (.iload_n 1, 1) := by decide +kernel
theorem d_P_startAt_25 : decode c_P_startAt 25 = .ok (.aload_n 0, 1) := by decide +kernel
theorem d_P_startAt_26 : decode c_P_startAt 26 = .ok (.getfield 15, 3) := by decide +kernel
theorem d_P_startAt_29 : decode c_P_startAt 29 = .ok (.iload 4, 2) := by decide +kernel
theorem d_P_startAt_31 : decode c_P_startAt 31 = .ok (.iaload, 1) := by decide +kernel
theorem d_P_startAt_32 : decode c_P_startAt 32 = .ok (.irem, 1) := by decide +kernel
theorem d_P_startAt_33 : decode c_P_startAt 33 = .ok (.ifCond .ne 14, 3) := by decide +kernel
theorem d_P_startAt_36 : decode c_P_startAt 36 = .ok (.iload_n 3, 1) := by decide +kernel
theorem d_P_startAt_37 : decode c_P_startAt 37 = .ok (.iload_n 2, 1) := by decide +kernel
theorem d_P_startAt_38 : decode c_P_startAt 38 = .ok (.if_icmp .ne 6, 3) := by decide +kernel
theorem d_P_startAt_41 : decode c_P_startAt 41 = .ok (.iload 4, 2) := by decide +kernel
theorem d_P_startAt_43 : decode c_P_startAt 43 = .ok (.ireturn, 1) := by decide +kernel
theorem d_P_startAt_44 : decode c_P_startAt 44 = .ok (.iinc 3 1, 3) := by decide +kernel
theorem d_P_startAt_47 : decode c_P_startAt 47 = .ok (.iinc 4 1, 3) := by decide +kernel
theorem d_P_startAt_50 : decode c_P_startAt 50 = .ok (.goto (-45), 3) := by decide +kernel
theorem d_P_startAt_53 : decode c_P_startAt 53 = .ok (.iconst 0, 1) := by decide +kernel
theorem d_P_startAt_54 : decode c_P_startAt 54 = .ok (.ireturn, 1) := by decide +kernel
theorem d_P_stepsOf_0 : decode c_P_stepsOf 0 = .ok (.iconst 0, 1) := by decide +kernel
theorem d_P_stepsOf_1 : decode c_P_stepsOf 1 = .ok (.istore_n 3, 1) := by decide +kernel
theorem d_P_stepsOf_2 : decode c_P_stepsOf 2 = .ok (.aload_n 0, 1) := by decide +kernel
theorem d_P_stepsOf_3 : decode c_P_stepsOf 3 = .ok (.getfield 24, 3) := by decide +kernel
theorem d_P_stepsOf_6 : decode c_P_stepsOf 6 = .ok (.iload_n 1, 1) := by decide +kernel
theorem d_P_stepsOf_7 : decode c_P_stepsOf 7 = .ok (.iaload, 1) := by decide +kernel
theorem d_P_stepsOf_8 : decode c_P_stepsOf 8 = .ok (.istore 4, 2) := by decide +kernel
theorem d_P_stepsOf_10 : decode c_P_stepsOf 10 = .ok (.iload 4, 2) := by decide +kernel
theorem d_P_stepsOf_12 : decode c_P_stepsOf 12 = .ok (.aload_n 0, 1) := by decide +kernel
theorem d_P_stepsOf_13 : decode c_P_stepsOf 13 = .ok (.getfield 24, 3) := by decide +kernel
theorem d_P_stepsOf_16 : decode c_P_stepsOf 16 = .ok (.iload_n 1, 1) := by decide +kernel
theorem d_P_stepsOf_17 : decode c_P_stepsOf 17 = .ok (.iconst 1, 1) := by decide +kernel
theorem d_P_stepsOf_18 : decode c_P_stepsOf 18 = .ok (.iadd, 1) := by decide +kernel
theorem d_P_stepsOf_19 : decode c_P_stepsOf 19 = .ok (.iaload, 1) := by decide +kernel
theorem d_P_stepsOf_20 : decode c_P_stepsOf 20 = .ok (.if_icmp .ge 24, 3) := by decide +kernel
theorem d_P_stepsOf_23 : decode c_P_stepsOf 23 = .ok (.iload_n 3, 1) := by decide +kernel
theorem d_P_stepsOf_24 : decode c_P_stepsOf 24 = .ok (.aload_n 2, 1) := by decide +kernel
theorem d_P_stepsOf_25 : decode c_P_stepsOf 25 = .ok (.getfield 68, 3) := by decide +kernel
theorem d_P_stepsOf_28 : decode c_P_stepsOf 28 = .ok (.aload_n 0, 1) := by decide +kernel
theorem d_P_stepsOf_29 : decode c_P_stepsOf 29 = .ok (.getfield 21, 3) := by decide +kernel
theorem d_P_stepsOf_32 : decode c_P_stepsOf 32 = .ok (.iload 4, 2) := by decide +kernel
theorem d_P_stepsOf_34 : decode c_P_stepsOf 34 = .ok (.iaload, 1) := by decide +kernel
theorem d_P_stepsOf_35 : decode c_P_stepsOf 35 = .ok (.iaload, 1) := by decide +kernel
theorem d_P_stepsOf_36 : decode c_P_stepsOf 36 = .ok (.iadd, 1) := by decide +kernel
theorem d_P_stepsOf_37 : decode c_P_stepsOf 37 = .ok (.istore_n 3, 1) := by decide +kernel
theorem d_P_stepsOf_38 : decode c_P_stepsOf 38 = .ok (.iinc 4 1, 3) := by decide +kernel
theorem d_P_stepsOf_41 : decode c_P_stepsOf 41 = .ok (.goto (-31), 3) := by decide +kernel
theorem d_P_stepsOf_44 : decode c_P_stepsOf 44 = .ok (.iload_n 3, 1) := by decide +kernel
theorem d_P_stepsOf_45 : decode c_P_stepsOf 45 = .ok (.ireturn, 1) := by decide +kernel
theorem d_P_standsIn_0 : decode c_P_standsIn 0 = .ok (.aload_n 1, 1) := by decide +kernel
theorem d_P_standsIn_1 : decode c_P_standsIn 1 = .ok (.getfield 9, 3) := by decide +kernel
theorem d_P_standsIn_4 : decode c_P_standsIn 4 = .ok (.aload_n 0, 1) := by decide +kernel
theorem d_P_standsIn_5 : decode c_P_standsIn 5 = .ok (.iload_n 2, 1) := by decide +kernel
theorem d_P_standsIn_6 : decode c_P_standsIn 6 = .ok (.iconst 0, 1) := by decide +kernel
theorem d_P_standsIn_7 : decode c_P_standsIn 7 = .ok (.invokevirtual 91, 3) := by decide +kernel
theorem d_P_standsIn_10 : decode c_P_standsIn 10 = .ok (.iaload, 1) := by decide +kernel
theorem d_P_standsIn_11 : decode c_P_standsIn 11 = .ok (.istore_n 3, 1) := by decide +kernel
theorem d_P_standsIn_12 : decode c_P_standsIn 12 = .ok (.aload_n 1, 1) := by decide +kernel
theorem d_P_standsIn_13 : decode c_P_standsIn 13 = .ok (.iload_n 3, 1) := by decide +kernel
theorem d_P_standsIn_14 : decode c_P_standsIn 14 = .ok (.invokevirtual 94, 3) := by decide +kernel
theorem d_P_standsIn_17 : decode c_P_standsIn 17 = .ok (.ifCond .eq 16, 3) := by decide +kernel
theorem d_P_standsIn_20 : decode c_P_standsIn 20 = .ok (.aload_n 1, 1) := by decide +kernel
theorem d_P_standsIn_21 : decode c_P_standsIn 21 = .ok (.iload_n 3, 1) := by decide +kernel
theorem d_P_standsIn_22 : decode c_P_standsIn 22 = .ok (.invokevirtual 65, 3) := by decide +kernel
theorem d_P_standsIn_25 : decode c_P_standsIn 25 = .ok (.aload_n 0, 1) := by decide +kernel
theorem d_P_standsIn_26 : decode c_P_standsIn 26 = .ok (.iload_n 2, 1) := by decide +kernel
theorem d_P_standsIn_27 : decode c_P_standsIn 27 = .ok (.invokevirtual 65, 3) := by decide +kernel
theorem d_P_standsIn_30 : decode c_P_standsIn 30 = .ok (.if_icmp .eq 5, 3) := by decide +kernel
theorem d_P_standsIn_33 : decode c_P_standsIn 33 = .ok (.iconst 0, 1) := by decide +kernel
theorem d_P_standsIn_34 : decode c_P_standsIn 34 = .ok (.ireturn, 1) := by decide +kernel
theorem d_P_standsIn_35 : decode c_P_standsIn 35 = .ok (.iconst 0, 1) := by decide +kernel
theorem d_P_standsIn_36 : decode c_P_standsIn 36 = .ok (.istore 4, 2) := by decide +kernel
theorem d_P_standsIn_38 : decode c_P_standsIn 38 = .ok (.iload 4, 2) := by decide +kernel
theorem d_P_standsIn_40 : decode c_P_standsIn 40 = .ok (.aload_n 0, 1) := by decide +kernel
theorem d_P_standsIn_41 : decode c_P_standsIn 41 = .ok (.iload_n 2, 1) := by decide +kernel
theorem d_P_standsIn_42 : decode c_P_standsIn 42 = .ok (.invokevirtual 65, 3) := by decide +kernel
theorem d_P_standsIn_45 : decode c_P_standsIn 45 = .ok (.if_icmp .ge 28, 3) := by decide +kernel
theorem d_P_standsIn_48 : decode c_P_standsIn 48 = .ok (.aload_n 1, 1) := by decide +kernel
theorem d_P_standsIn_49 : decode c_P_standsIn 49 = .ok (.iload_n 3, 1) := by decide +kernel
theorem d_P_standsIn_50 : decode c_P_standsIn 50 = .ok (.iload 4, 2) := by decide +kernel
theorem d_P_standsIn_52 : decode c_P_standsIn 52 = .ok (.invokevirtual 91, 3) := by decide +kernel
theorem d_P_standsIn_55 : decode c_P_standsIn 55 = .ok (.aload_n 0, 1) := by decide +kernel
theorem d_P_standsIn_56 : decode c_P_standsIn 56 = .ok (.iload_n 2, 1) := by decide +kernel
theorem d_P_standsIn_57 : decode c_P_standsIn 57 = .ok (.iload 4, 2) := by decide +kernel
theorem d_P_standsIn_59 : decode c_P_standsIn 59 = .ok (.invokevirtual 91, 3) := by decide +kernel
theorem d_P_standsIn_62 : decode c_P_standsIn 62 = .ok (.if_icmp .eq 5, 3) := by decide +kernel
theorem d_P_standsIn_65 : decode c_P_standsIn 65 = .ok (.iconst 0, 1) := by decide +kernel
theorem d_P_standsIn_66 : decode c_P_standsIn 66 = .ok (.ireturn, 1) := by decide +kernel
theorem d_P_standsIn_67 : decode c_P_standsIn 67 = .ok (.iinc 4 1, 3) := by decide +kernel
theorem d_P_standsIn_70 : decode c_P_standsIn 70 = .ok (.goto (-32), 3) := by decide +kernel
theorem d_P_standsIn_73 : decode c_P_standsIn 73 = .ok (.iconst 1, 1) := by decide +kernel
theorem d_P_standsIn_74 : decode c_P_standsIn 74 = .ok (.ireturn, 1) := by decide +kernel
theorem d_P_tasksNotIn_0 : decode c_P_tasksNotIn 0 = .ok (.iconst 0, 1) := by decide +kernel
theorem d_P_tasksNotIn_1 : decode c_P_tasksNotIn 1 = .ok (.istore_n 2, 1) := by decide +kernel
theorem d_P_tasksNotIn_2 : decode c_P_tasksNotIn 2 = .ok (.iconst 1, 1) := by decide +kernel
theorem d_P_tasksNotIn_3 : decode c_P_tasksNotIn 3 = .ok (.istore_n 3, 1) := by decide +kernel
theorem d_P_tasksNotIn_4 : decode c_P_tasksNotIn 4 = .ok (.iload_n 3, 1) := by decide +kernel
theorem d_P_tasksNotIn_5 : decode c_P_tasksNotIn 5 = .ok (.aload_n 0, 1) := by decide +kernel
theorem d_P_tasksNotIn_6 : decode c_P_tasksNotIn 6 = .ok (.getfield 27, 3) := by decide +kernel
theorem d_P_tasksNotIn_9 : decode c_P_tasksNotIn 9 = .ok (.if_icmp .gt 21, 3) := by decide +kernel
theorem d_P_tasksNotIn_12 : decode c_P_tasksNotIn 12 = .ok (.aload_n 0, 1) := by decide +kernel
theorem d_P_tasksNotIn_13 : decode c_P_tasksNotIn 13 = .ok (.aload_n 1, 1) := by decide +kernel
theorem d_P_tasksNotIn_14 : decode c_P_tasksNotIn 14 = .ok (.iload_n 3, 1) := by decide +kernel
theorem d_P_tasksNotIn_15 : decode c_P_tasksNotIn 15 = .ok (.invokevirtual 87, 3) := by decide +kernel
theorem d_P_tasksNotIn_18 : decode c_P_tasksNotIn 18 = .ok (.ifCond .ne 6, 3) := by decide +kernel
theorem d_P_tasksNotIn_21 : decode c_P_tasksNotIn 21 = .ok (.iinc 2 1, 3) := by decide +kernel
theorem d_P_tasksNotIn_24 : decode c_P_tasksNotIn 24 = .ok (.iinc 3 1, 3) := by decide +kernel
theorem d_P_tasksNotIn_27 : decode c_P_tasksNotIn 27 = .ok (.goto (-23), 3) := by decide +kernel
theorem d_P_tasksNotIn_30 : decode c_P_tasksNotIn 30 = .ok (.iload_n 2, 1) := by decide +kernel
theorem d_P_tasksNotIn_31 : decode c_P_tasksNotIn 31 = .ok (.ireturn, 1) := by decide +kernel
end
section
theorem d_M_init_0 : decode c_M_init 0 = .ok (.aload_n 0, 1) := by decide +kernel
theorem d_M_init_1 : decode c_M_init 1 = .ok (.invokespecial 1, 3) := by decide +kernel
theorem d_M_init_4 : decode c_M_init 4 = .ok (.aload_n 0, 1) := by decide +kernel
theorem d_M_init_5 : decode c_M_init 5 = .ok (.bipush 25, 2) := by decide +kernel
theorem d_M_init_7 : decode c_M_init 7 = .ok (.newarray .int, 2) := by decide +kernel
theorem d_M_init_9 : decode c_M_init 9 = .ok (.putfield 7, 3) := by decide +kernel
theorem d_M_init_12 : decode c_M_init 12 = .ok (.aload_n 0, 1) := by decide +kernel
theorem d_M_init_13 : decode c_M_init 13 = .ok (.bipush 25, 2) := by decide +kernel
theorem d_M_init_15 : decode c_M_init 15 = .ok (.newarray .int, 2) := by decide +kernel
theorem d_M_init_17 : decode c_M_init 17 = .ok (.putfield 13, 3) := by decide +kernel
theorem d_M_init_20 : decode c_M_init 20 = .ok (.aload_n 0, 1) := by decide +kernel
theorem d_M_init_21 : decode c_M_init 21 = .ok (.bipush 25, 2) := by decide +kernel
theorem d_M_init_23 : decode c_M_init 23 = .ok (.newarray .int, 2) := by decide +kernel
theorem d_M_init_25 : decode c_M_init 25 = .ok (.putfield 16, 3) := by decide +kernel
theorem d_M_init_28 : decode c_M_init 28 = .ok (.aload_n 0, 1) := by decide +kernel
theorem d_M_init_29 : decode c_M_init 29 = .ok (.bipush 25, 2) := by decide +kernel
theorem d_M_init_31 : decode c_M_init 31 = .ok (.newarray .int, 2) := by decide +kernel
theorem d_M_init_33 : decode c_M_init 33 = .ok (.putfield 19, 3) := by decide +kernel
theorem d_M_init_36 : decode c_M_init 36 = .ok (.aload_n 0, 1) := by decide +kernel
theorem d_M_init_37 : decode c_M_init 37 = .ok (.bipush 21, 2) := by decide +kernel
theorem d_M_init_39 : decode c_M_init 39 = .ok (.newarray .int, 2) := by decide +kernel
theorem d_M_init_41 : decode c_M_init 41 = .ok (.putfield 22, 3) := by decide +kernel
theorem d_M_init_44 : decode c_M_init 44 = .ok (.aload_n 0, 1) := by decide +kernel
theorem d_M_init_45 : decode c_M_init 45 = .ok (.bipush 21, 2) := by decide +kernel
theorem d_M_init_47 : decode c_M_init 47 = .ok (.newarray .int, 2) := by decide +kernel
theorem d_M_init_49 : decode c_M_init 49 = .ok (.putfield 25, 3) := by decide +kernel
theorem d_M_init_52 : decode c_M_init 52 = .ok (.aload_n 0, 1) := by decide +kernel
theorem d_M_init_53 : decode c_M_init 53 = .ok (.bipush 25, 2) := by decide +kernel
theorem d_M_init_55 : decode c_M_init 55 = .ok (.newarray .int, 2) := by decide +kernel
theorem d_M_init_57 : decode c_M_init 57 = .ok (.putfield 28, 3) := by decide +kernel
theorem d_M_init_60 : decode c_M_init 60 = .ok (.aload_n 0, 1) := by decide +kernel
theorem d_M_init_61 : decode c_M_init 61 = .ok (.bipush 25, 2) := by decide +kernel
theorem d_M_init_63 : decode c_M_init 63 = .ok (.newarray .int, 2) := by decide +kernel
theorem d_M_init_65 : decode c_M_init 65 = .ok (.putfield 31, 3) := by decide +kernel
theorem d_M_init_68 : decode c_M_init 68 = .ok (.aload_n 0, 1) := by decide +kernel
theorem d_M_init_69 : decode c_M_init 69 = .ok (.bipush 41, 2) := by decide +kernel
theorem d_M_init_71 : decode c_M_init 71 = .ok (.newarray .int, 2) := by decide +kernel
theorem d_M_init_73 : decode c_M_init 73 = .ok (.putfield 34, 3) := by decide +kernel
theorem d_M_init_76 : decode c_M_init 76 = .ok (.aload_n 0, 1) := by decide +kernel
theorem d_M_init_77 : decode c_M_init 77 = .ok (.sipush 984, 3) := by decide +kernel
theorem d_M_init_80 : decode c_M_init 80 = .ok (.newarray .int, 2) := by decide +kernel
theorem d_M_init_82 : decode c_M_init 82 = .ok (.putfield 37, 3) := by decide +kernel
theorem d_M_init_85 : decode c_M_init 85 = .ok (.aload_n 0, 1) := by decide +kernel
theorem d_M_init_86 : decode c_M_init 86 = .ok (.sipush 984, 3) := by decide +kernel
theorem d_M_init_89 : decode c_M_init 89 = .ok (.newarray .int, 2) := by decide +kernel
theorem d_M_init_91 : decode c_M_init 91 = .ok (.putfield 40, 3) := by decide +kernel
theorem d_M_init_94 : decode c_M_init 94 = .ok (.aload_n 0, 1) := by decide +kernel
theorem d_M_init_95 : decode c_M_init 95 = .ok (.sipush 1025, 3) := by decide +kernel
theorem d_M_init_98 : decode c_M_init 98 = .ok (.newarray .int, 2) := by decide +kernel
theorem d_M_init_100 : decode c_M_init 100 = .ok (.putfield 43, 3) := by decide +kernel
theorem d_M_init_103 : decode c_M_init 103 = .ok (.aload_n 0, 1) := by decide +kernel
theorem d_M_init_104 : decode c_M_init 104 = .ok (.sipush 984, 3) := by decide +kernel
theorem d_M_init_107 : decode c_M_init 107 = .ok (.newarray .int, 2) := by decide +kernel
theorem d_M_init_109 : decode c_M_init 109 = .ok (.putfield 46, 3) := by decide +kernel
theorem d_M_init_112 : decode c_M_init 112 = .ok (.aload_n 0, 1) := by decide +kernel
theorem d_M_init_113 : decode c_M_init 113 = .ok (.bipush 25, 2) := by decide +kernel
theorem d_M_init_115 : decode c_M_init 115 = .ok (.newarray .int, 2) := by decide +kernel
theorem d_M_init_117 : decode c_M_init 117 = .ok (.putfield 49, 3) := by decide +kernel
theorem d_M_init_120 : decode c_M_init 120 = .ok (.return_, 1) := by decide +kernel
theorem d_M_isIn_0 : decode c_M_isIn 0 = .ok (.lload_n 0, 1) := by decide +kernel
theorem d_M_isIn_1 : decode c_M_isIn 1 = .ok (.lload_n 2, 1) := by decide +kernel
theorem d_M_isIn_2 : decode c_M_isIn 2 = .ok (.lcmp, 1) := by decide +kernel
theorem d_M_isIn_3 : decode c_M_isIn 3 = .ok (.ifCond .lt 14, 3) := by decide +kernel
theorem d_M_isIn_6 : decode c_M_isIn 6 = .ok (.lload_n 0, 1) := by decide +kernel
theorem d_M_isIn_7 : decode c_M_isIn 7 = .ok (.lload 4, 2) := by decide +kernel
theorem d_M_isIn_9 : decode c_M_isIn 9 = .ok (.lcmp, 1) := by decide +kernel
theorem d_M_isIn_10 : decode c_M_isIn 10 = .ok (.ifCond .gt 7, 3) := by decide +kernel
theorem d_M_isIn_13 : decode c_M_isIn 13 = .ok (.iconst 1, 1) := by decide +kernel
theorem d_M_isIn_14 : decode c_M_isIn 14 = .ok (.goto 4, 3) := by decide +kernel
theorem d_M_isIn_17 : decode c_M_isIn 17 = .ok (.iconst 0, 1) := by decide +kernel
theorem d_M_isIn_18 : decode c_M_isIn 18 = .ok (.ireturn, 1) := by decide +kernel
theorem d_M_isRunnable_0 : decode c_M_isRunnable 0 = .ok (.iload_n 1, 1) := by decide +kernel
theorem d_M_isRunnable_1 : decode c_M_isRunnable 1 = .ok (.i2l, 1) := by decide +kernel
theorem d_M_isRunnable_2 : decode c_M_isRunnable 2 = .ok (.lconst 1, 1) := by decide +kernel
theorem d_M_isRunnable_3 : decode c_M_isRunnable 3 = .ok (.aload_n 0, 1) := by decide +kernel
theorem d_M_isRunnable_4 : decode c_M_isRunnable 4 = .ok (.getfield 56, 3) := by decide +kernel
theorem d_M_isRunnable_7 : decode c_M_isRunnable 7 = .ok (.i2l, 1) := by decide +kernel
theorem d_M_isRunnable_8 : decode c_M_isRunnable 8 = .ok (.invokestatic 59, 3) := by decide +kernel
theorem d_M_isRunnable_11 : decode c_M_isRunnable 11 = .ok (.ireturn, 1) := by decide +kernel
theorem d_M_runnable_0 : decode c_M_runnable 0 = .ok (.aload_n 0, 1) := by decide +kernel
theorem d_M_runnable_1 : decode c_M_runnable 1 = .ok (.iconst 0, 1) := by decide +kernel
theorem d_M_runnable_2 : decode c_M_runnable 2 = .ok (.putfield 52, 3) := by decide +kernel
theorem d_M_runnable_5 : decode c_M_runnable 5 = .ok (.iload_n 1, 1) := by decide +kernel
theorem d_M_runnable_6 : decode c_M_runnable 6 = .ok (.i2l, 1) := by decide +kernel
theorem d_M_runnable_7 : decode c_M_runnable 7 = .ok (.lconst 0, 1) := by decide +kernel
theorem d_M_runnable_8 : decode c_M_runnable 8 = .ok (.ldc2_w 63, 3) := by decide +kernel
theorem d_M_runnable_11 : decode c_M_runnable 11 = .ok (.invokestatic 59, 3) := by decide +kernel
theorem d_M_runnable_14 : decode c_M_runnable 14 = .ok (.ifCond .eq 27, 3) := by decide +kernel
theorem d_M_runnable_17 : decode c_M_runnable 17 = .ok (.iload_n 2, 1) := by decide +kernel
theorem d_M_runnable_18 : decode c_M_runnable 18 = .ok (.i2l, 1) := by decide +kernel
theorem d_M_runnable_19 : decode c_M_runnable 19 = .ok (.lconst 1, 1) := by decide +kernel
theorem d_M_runnable_20 : decode c_M_runnable 20 = .ok (.ldc2_w 65, 3) := by decide +kernel
theorem d_M_runnable_23 : decode c_M_runnable 23 = .ok (.invokestatic 59, 3) := by decide +kernel
theorem d_M_runnable_26 : decode c_M_runnable 26 = .ok (.ifCond .eq 15, 3) := by decide +kernel
theorem d_M_runnable_29 : decode c_M_runnable 29 = .ok (.iload_n 3, 1) := by decide +kernel
theorem d_M_runnable_30 : decode c_M_runnable 30 = .ok (.i2l, 1) := by decide +kernel
theorem d_M_runnable_31 : decode c_M_runnable 31 = .ok (.lconst 0, 1) := by decide +kernel
theorem d_M_runnable_32 : decode c_M_runnable 32 = .ok (.ldc2_w 67, 3) := by decide +kernel
theorem d_M_runnable_35 : decode c_M_runnable 35 = .ok (.invokestatic 59, 3) := by decide +kernel
theorem d_M_runnable_38 : decode c_M_runnable 38 = .ok (.ifCond .ne 6, 3) := by decide +kernel
theorem d_M_runnable_41 : decode c_M_runnable 41 = .ok (.bipush (-2), 2) := by decide +kernel
theorem d_M_runnable_43 : decode c_M_runnable 43 = .ok (.ireturn, 1) := by decide +kernel
theorem d_M_runnable_44 : decode c_M_runnable 44 = .ok (.aload_n 0, 1) := by decide +kernel
theorem d_M_runnable_45 : decode c_M_runnable 45 = .ok (.getfield 56, 3) := by decide +kernel
theorem d_M_runnable_48 : decode c_M_runnable 48 = .ok (.bipush 24, 2) := by decide +kernel
theorem d_M_runnable_50 : decode c_M_runnable 50 = .ok (.if_icmp .ne 6, 3) := by decide +kernel
theorem d_M_runnable_53 : decode c_M_runnable 53 = .ok (.bipush (-4), 2) := by decide +kernel
theorem d_M_runnable_55 : decode c_M_runnable 55 = .ok (.ireturn, 1) := by decide +kernel
theorem d_M_runnable_56 : decode c_M_runnable 56 = .ok (.aload_n 0, 1) := by decide +kernel
theorem d_M_runnable_57 : decode c_M_runnable 57 = .ok (.dup, 1) := by decide +kernel
theorem d_M_runnable_58 : decode c_M_runnable 58 = .ok (.getfield 56, 3) := by decide +kernel
theorem d_M_runnable_61 : decode c_M_runnable 61 = .ok (.iconst 1, 1) := by decide +kernel
theorem d_M_runnable_62 : decode c_M_runnable 62 = .ok (.iadd, 1) := by decide +kernel
theorem d_M_runnable_63 : decode c_M_runnable 63 = .ok (.putfield 56, 3) := by decide +kernel
theorem d_M_runnable_66 : decode c_M_runnable 66 = .ok (.aload_n 0, 1) := by decide +kernel
theorem d_M_runnable_67 : decode c_M_runnable 67 = .ok (.getfield 7, 3) := by decide +kernel
theorem d_M_runnable_70 : decode c_M_runnable 70 = .ok (.aload_n 0, 1) := by decide +kernel
theorem d_M_runnable_71 : decode c_M_runnable 71 = .ok (.getfield 56, 3) := by decide +kernel
theorem d_M_runnable_74 : decode c_M_runnable 74 = .ok (.iload_n 1, 1) := by decide +kernel
theorem d_M_runnable_75 : decode c_M_runnable 75 = .ok (.iastore, 1) := by decide +kernel
theorem d_M_runnable_76 : decode c_M_runnable 76 = .ok (.aload_n 0, 1) := by decide +kernel
theorem d_M_runnable_77 : decode c_M_runnable 77 = .ok (.getfield 13, 3) := by decide +kernel
theorem d_M_runnable_80 : decode c_M_runnable 80 = .ok (.aload_n 0, 1) := by decide +kernel
theorem d_M_runnable_81 : decode c_M_runnable 81 = .ok (.getfield 56, 3) := by decide +kernel
theorem d_M_runnable_84 : decode c_M_runnable 84 = .ok (.iload_n 2, 1) := by decide +kernel
theorem d_M_runnable_85 : decode c_M_runnable 85 = .ok (.iastore, 1) := by decide +kernel
theorem d_M_runnable_86 : decode c_M_runnable 86 = .ok (.aload_n 0, 1) := by decide +kernel
theorem d_M_runnable_87 : decode c_M_runnable 87 = .ok (.getfield 16, 3) := by decide +kernel
theorem d_M_runnable_90 : decode c_M_runnable 90 = .ok (.aload_n 0, 1) := by decide +kernel
theorem d_M_runnable_91 : decode c_M_runnable 91 = .ok (.getfield 56, 3) := by decide +kernel
theorem d_M_runnable_94 : decode c_M_runnable 94 = .ok (.iload_n 3, 1) := by decide +kernel
theorem d_M_runnable_95 : decode c_M_runnable 95 = .ok (.iastore, 1) := by decide +kernel
theorem d_M_runnable_96 : decode c_M_runnable 96 = .ok (.aload_n 0, 1) := by decide +kernel
theorem d_M_runnable_97 : decode c_M_runnable 97 = .ok (.iconst 0, 1) := by decide +kernel
theorem d_M_runnable_98 : decode c_M_runnable 98 = .ok (.putfield 69, 3) := by decide +kernel
theorem d_M_runnable_101 : decode c_M_runnable 101 = .ok (.aload_n 0, 1) := by decide +kernel
theorem d_M_runnable_102 : decode c_M_runnable 102 = .ok (.getfield 56, 3) := by decide +kernel
theorem d_M_runnable_105 : decode c_M_runnable 105 = .ok (.ireturn, 1) := by decide +kernel
theorem d_M_measure_0 : decode c_M_measure 0 = .ok (.iconst 1, 1) := by decide +kernel
theorem d_M_measure_1 : decode c_M_measure 1 = .ok (.istore_n 2, 1) := by decide +kernel
theorem d_M_measure_2 : decode c_M_measure 2 = .ok (.iload_n 2, 1) := by decide +kernel
theorem d_M_measure_3 : decode c_M_measure 3 = .ok (.aload_n 0, 1) := by decide +kernel
theorem d_M_measure_4 : decode c_M_measure 4 = .ok (.getfield 56, 3) := by decide +kernel
theorem d_M_measure_7 : decode c_M_measure 7 = .ok (.if_icmp .gt 26, 3) := by decide +kernel
theorem d_M_measure_10 : decode c_M_measure 10 = .ok (.aload_n 0, 1) := by decide +kernel
theorem d_M_measure_11 : decode c_M_measure 11 = .ok (.getfield 31, 3) := by decide +kernel
theorem d_M_measure_14 : decode c_M_measure 14 = .ok (.iload_n 2, 1) := by decide +kernel
theorem d_M_measure_15 : decode c_M_measure 15 = .ok (.iload_n 2, 1) := by decide +kernel
theorem d_M_measure_16 : decode c_M_measure 16 = .ok (.iload_n 1, 1) := by decide +kernel
theorem d_M_measure_17 : decode c_M_measure 17 = .ok (.if_icmp .ne 7, 3) := by decide +kernel
theorem d_M_measure_20 : decode c_M_measure 20 = .ok (.iconst 0, 1) := by decide +kernel
theorem d_M_measure_21 : decode c_M_measure 21 = .ok (.goto 5, 3) := by decide +kernel
theorem d_M_measure_24 : decode c_M_measure 24 = .ok (.bipush 99, 2) := by decide +kernel
theorem d_M_measure_26 : decode c_M_measure 26 = .ok (.iastore, 1) := by decide +kernel
theorem d_M_measure_27 : decode c_M_measure 27 = .ok (.iinc 2 1, 3) := by decide +kernel
theorem d_M_measure_30 : decode c_M_measure 30 = .ok (.goto (-28), 3) := by decide +kernel
theorem d_M_measure_33 : decode c_M_measure 33 = .ok (.iconst 0, 1) := by decide +kernel
theorem d_M_measure_34 : decode c_M_measure 34 = .ok (.istore_n 2, 1) := by decide +kernel
theorem d_M_measure_35 : decode c_M_measure 35 = .ok (.iload_n 2, 1) := by decide +kernel
theorem d_M_measure_36 : decode c_M_measure 36 = .ok (.aload_n 0, 1) := by decide +kernel
theorem d_M_measure_37 : decode c_M_measure 37 = .ok (.getfield 56, 3) := by decide +kernel
theorem d_M_measure_40 : decode c_M_measure 40 = .ok (.if_icmp .ge 91, 3) := by decide +kernel
theorem d_M_measure_43 : decode c_M_measure 43 = .ok (.iconst 1, 1) := by decide +kernel
theorem d_M_measure_44 : decode c_M_measure 44 = .ok (.istore_n 3, 1) := by decide +kernel
theorem d_M_measure_45 : decode c_M_measure 45 = .ok (.iload_n 3, 1) := by decide +kernel
theorem d_M_measure_46 : decode c_M_measure 46 = .ok (.aload_n 0, 1) := by decide +kernel
theorem d_M_measure_47 : decode c_M_measure 47 = .ok (.getfield 56, 3) := by decide +kernel
theorem d_M_measure_50 : decode c_M_measure 50 = .ok (.if_icmp .gt 75, 3) := by decide +kernel
theorem d_M_measure_53 : decode c_M_measure 53 = .ok (.iconst 1, 1) := by decide +kernel
theorem d_M_measure_54 : decode c_M_measure 54 = .ok (.istore 4, 2) := by decide +kernel
theorem d_M_measure_56 : decode c_M_measure 56 = .ok (.iload 4, 2) := by decide +kernel
theorem d_M_measure_58 : decode c_M_measure 58 = .ok (.aload_n 0, 1) := by decide +kernel
theorem d_M_measure_59 : decode c_M_measure 59 = .ok (.getfield 56, 3) := by decide +kernel
theorem d_M_measure_62 : decode c_M_measure 62 = .ok (.if_icmp .gt 57, 3) := by decide +kernel
theorem d_M_measure_65 : decode c_M_measure 65 = .ok (.aload_n 0, 1) := by decide +kernel
theorem d_M_measure_66 : decode c_M_measure 66 = .ok (.getfield 19, 3) := by decide +kernel
theorem d_M_measure_69 : decode c_M_measure 69 = .ok (.iload 4, 2) := by decide +kernel
theorem d_M_measure_71 : decode c_M_measure 71 = .ok (.iaload, 1) := by decide +kernel
theorem d_M_measure_72 : decode c_M_measure 72 = .ok (.iload_n 3, 1) := by decide +kernel
theorem d_M_measure_73 : decode c_M_measure 73 = .ok (.ishr, 1) := by decide +kernel
theorem d_M_measure_74 : decode c_M_measure 74 = .ok (.iconst 1, 1) := by decide +kernel
theorem d_M_measure_75 : decode c_M_measure 75 = .ok (.iand, 1) := by decide +kernel
theorem d_M_measure_76 : decode c_M_measure 76 = .ok (.iconst 1, 1) := by decide +kernel
theorem d_M_measure_77 : decode c_M_measure 77 = .ok (.if_icmp .ne 36, 3) := by decide +kernel
theorem d_M_measure_80 : decode c_M_measure 80 = .ok (.aload_n 0, 1) := by decide +kernel
theorem d_M_measure_81 : decode c_M_measure 81 = .ok (.getfield 31, 3) := by decide +kernel
theorem d_M_measure_84 : decode c_M_measure 84 = .ok (.iload 4, 2) := by decide +kernel
theorem d_M_measure_86 : decode c_M_measure 86 = .ok (.iaload, 1) := by decide +kernel
theorem d_M_measure_87 : decode c_M_measure 87 = .ok (.iconst 1, 1) := by decide +kernel
theorem d_M_measure_88 : decode c_M_measure 88 = .ok (.iadd, 1) := by decide +kernel
theorem d_M_measure_89 : decode c_M_measure 89 = .ok (.aload_n 0, 1) := by decide +kernel
theorem d_M_measure_90 : decode c_M_measure 90 = .ok (.getfield 31, 3) := by decide +kernel
theorem d_M_measure_93 : decode c_M_measure 93 = .ok (.iload_n 3, 1) := by decide +kernel
theorem d_M_measure_94 : decode c_M_measure 94 = .ok (.iaload, 1) := by decide +kernel
theorem d_M_measure_95 : decode c_M_measure 95 = .ok (.if_icmp .ge 18, 3) := by decide +kernel
theorem d_M_measure_98 : decode c_M_measure 98 = .ok (.aload_n 0, 1) := by decide +kernel
theorem d_M_measure_99 : decode c_M_measure 99 = .ok (.getfield 31, 3) := by decide +kernel
theorem d_M_measure_102 : decode c_M_measure 102 = .ok (.iload_n 3, 1) := by decide +kernel
theorem d_M_measure_103 : decode c_M_measure 103 = .ok (.aload_n 0, 1) := by decide +kernel
theorem d_M_measure_104 : decode c_M_measure 104 = .ok (.getfield 31, 3) := by decide +kernel
theorem d_M_measure_107 : decode c_M_measure 107 = .ok (.iload 4, 2) := by decide +kernel
theorem d_M_measure_109 : decode c_M_measure 109 = .ok (.iaload, 1) := by decide +kernel
theorem d_M_measure_110 : decode c_M_measure 110 = .ok (.iconst 1, 1) := by decide +kernel
theorem d_M_measure_111 : decode c_M_measure 111 = .ok (.iadd, 1) := by decide +kernel
theorem d_M_measure_112 : decode c_M_measure 112 = .ok (.iastore, 1) := by decide +kernel
theorem d_M_measure_113 : decode c_M_measure 113 = .ok (.iinc 4 1, 3) := by decide +kernel
theorem d_M_measure_116 : decode c_M_measure 116 = .ok (.goto (-60), 3) := by decide +kernel
theorem d_M_measure_119 : decode c_M_measure 119 = .ok (.iinc 3 1, 3) := by decide +kernel
theorem d_M_measure_122 : decode c_M_measure 122 = .ok (.goto (-77), 3) := by decide +kernel
theorem d_M_measure_125 : decode c_M_measure 125 = .ok (.iinc 2 1, 3) := by decide +kernel
theorem d_M_measure_128 : decode c_M_measure 128 = .ok (.goto (-93), 3) := by decide +kernel
theorem d_M_measure_131 : decode c_M_measure 131 = .ok (.return_, 1) := by decide +kernel
theorem d_M_tellRing_0 : decode c_M_tellRing 0 = .ok (.aload_n 0, 1) := by decide +kernel
theorem d_M_tellRing_1 : decode c_M_tellRing 1 = .ok (.iconst 0, 1) := by decide +kernel
theorem d_M_tellRing_2 : decode c_M_tellRing 2 = .ok (.putfield 73, 3) := by decide +kernel
theorem d_M_tellRing_5 : decode c_M_tellRing 5 = .ok (.iload_n 1, 1) := by decide +kernel
theorem d_M_tellRing_6 : decode c_M_tellRing 6 = .ok (.istore_n 2, 1) := by decide +kernel
theorem d_M_tellRing_7 : decode c_M_tellRing 7 = .ok (.aload_n 0, 1) := by decide +kernel
theorem d_M_tellRing_8 : decode c_M_tellRing 8 = .ok (.getfield 28, 3) := by decide +kernel
theorem d_M_tellRing_11 : decode c_M_tellRing 11 = .ok (.iconst 0, 1) := by decide +kernel
theorem d_M_tellRing_12 : decode c_M_tellRing 12 = .ok (.iload_n 1, 1) := by decide +kernel
theorem d_M_tellRing_13 : decode c_M_tellRing 13 = .ok (.iastore, 1) := by decide +kernel
theorem d_M_tellRing_14 : decode c_M_tellRing 14 = .ok (.aload_n 0, 1) := by decide +kernel
theorem d_M_tellRing_15 : decode c_M_tellRing 15 = .ok (.iconst 1, 1) := by decide +kernel
theorem d_M_tellRing_16 : decode c_M_tellRing 16 = .ok (.putfield 73, 3) := by decide +kernel
theorem d_M_tellRing_19 : decode c_M_tellRing 19 = .ok (.aload_n 0, 1) := by decide +kernel
theorem d_M_tellRing_20 : decode c_M_tellRing 20 = .ok (.getfield 31, 3) := by decide +kernel
theorem d_M_tellRing_23 : decode c_M_tellRing 23 = .ok (.iload_n 2, 1) := by decide +kernel
theorem d_M_tellRing_24 : decode c_M_tellRing 24 = .ok (.iaload, 1) := by decide +kernel
theorem d_M_tellRing_25 : decode c_M_tellRing 25 = .ok (.ifCond .le 66, 3) := by decide +kernel
theorem d_M_tellRing_28 : decode c_M_tellRing 28 = .ok (.iconst 1, 1) := by decide +kernel
theorem d_M_tellRing_29 : decode c_M_tellRing 29 = .ok (.istore_n 3, 1) := by decide +kernel
theorem d_M_tellRing_30 : decode c_M_tellRing 30 = .ok (.aload_n 0, 1) := by decide +kernel
theorem d_M_tellRing_31 : decode c_M_tellRing 31 = .ok (.getfield 19, 3) := by decide +kernel
theorem d_M_tellRing_34 : decode c_M_tellRing 34 = .ok (.iload_n 3, 1) := by decide +kernel
theorem d_M_tellRing_35 : decode c_M_tellRing 35 = .ok (.iaload, 1) := by decide +kernel
theorem d_M_tellRing_36 : decode c_M_tellRing 36 = .ok (.iload_n 2, 1) := by decide +kernel
theorem d_M_tellRing_37 : decode c_M_tellRing 37 = .ok (.ishr, 1) := by decide +kernel
theorem d_M_tellRing_38 : decode c_M_tellRing 38 = .ok (.iconst 1, 1) := by decide +kernel
theorem d_M_tellRing_39 : decode c_M_tellRing 39 = .ok (.iand, 1) := by decide +kernel
theorem d_M_tellRing_40 : decode c_M_tellRing 40 = .ok (.ifCond .eq 20, 3) := by decide +kernel
theorem d_M_tellRing_43 : decode c_M_tellRing 43 = .ok (.aload_n 0, 1) := by decide +kernel
theorem d_M_tellRing_44 : decode c_M_tellRing 44 = .ok (.getfield 31, 3) := by decide +kernel
theorem d_M_tellRing_47 : decode c_M_tellRing 47 = .ok (.iload_n 3, 1) := by decide +kernel
theorem d_M_tellRing_48 : decode c_M_tellRing 48 = .ok (.iaload, 1) := by decide +kernel
theorem d_M_tellRing_49 : decode c_M_tellRing 49 = .ok (.aload_n 0, 1) := by decide +kernel
theorem d_M_tellRing_50 : decode c_M_tellRing 50 = .ok (.getfield 31, 3) := by decide +kernel
theorem d_M_tellRing_53 : decode c_M_tellRing 53 = .ok (.iload_n 2, 1) := by decide +kernel
theorem d_M_tellRing_54 : decode c_M_tellRing 54 = .ok (.iaload, 1) := by decide +kernel
theorem d_M_tellRing_55 : decode c_M_tellRing 55 = .ok (.iconst 1, 1) := by decide +kernel
theorem d_M_tellRing_56 : decode c_M_tellRing 56 = .ok (.isub, 1) := by decide +kernel
theorem d_M_tellRing_57 : decode c_M_tellRing 57 = .ok (.if_icmp .eq 9, 3) := by decide +kernel
theorem d_M_tellRing_60 : decode c_M_tellRing 60 = .ok (.iinc 3 1, 3) := by decide +kernel
theorem d_M_tellRing_63 : decode c_M_tellRing 63 = .ok (.goto (-33), 3) := by decide +kernel
theorem d_M_tellRing_66 : decode c_M_tellRing 66 = .ok (.iload_n 3, 1) := by decide +kernel
theorem d_M_tellRing_67 : decode c_M_tellRing 67 = .ok (.istore_n 2, 1) := by decide +kernel
theorem d_M_tellRing_68 : decode c_M_tellRing 68 = .ok (.aload_n 0, 1) := by decide +kernel
theorem d_M_tellRing_69 : decode c_M_tellRing 69 = .ok (.getfield 28, 3) := by decide +kernel
theorem d_M_tellRing_72 : decode c_M_tellRing 72 = .ok (.aload_n 0, 1) := by decide +kernel
theorem d_M_tellRing_73 : decode c_M_tellRing 73 = .ok (.getfield 73, 3) := by decide +kernel
theorem d_M_tellRing_76 : decode c_M_tellRing 76 = .ok (.iload_n 2, 1) := by decide +kernel
theorem d_M_tellRing_77 : decode c_M_tellRing 77 = .ok (.iastore, 1) := by decide +kernel
theorem d_M_tellRing_78 : decode c_M_tellRing 78 = .ok (.aload_n 0, 1) := by decide +kernel
theorem d_M_tellRing_79 : decode c_M_tellRing 79 = .ok (.dup, 1) := by decide +kernel
theorem d_M_tellRing_80 : decode c_M_tellRing 80 = .ok (.getfield 73, 3) := by decide +kernel
theorem d_M_tellRing_83 : decode c_M_tellRing 83 = .ok (.iconst 1, 1) := by decide +kernel
theorem d_M_tellRing_84 : decode c_M_tellRing 84 = .ok (.iadd, 1) := by decide +kernel
theorem d_M_tellRing_85 : decode c_M_tellRing 85 = .ok (.putfield 73, 3) := by decide +kernel
theorem d_M_tellRing_88 : decode c_M_tellRing 88 = .ok (.goto (-69), 3) := by decide +kernel
theorem d_M_tellRing_91 : decode c_M_tellRing 91 = .ok (.return_, 1) := by decide +kernel
theorem d_M_needs_0 : decode c_M_needs 0 = .ok (.aload_n 0, 1) := by decide +kernel
theorem d_M_needs_1 : decode c_M_needs 1 = .ok (.iconst 0, 1) := by decide +kernel
theorem d_M_needs_2 : decode c_M_needs 2 = .ok (.putfield 52, 3) := by decide +kernel
theorem d_M_needs_5 : decode c_M_needs 5 = .ok (.aload_n 0, 1) := by decide +kernel
theorem d_M_needs_6 : decode c_M_needs 6 = .ok (.iload_n 1, 1) := by decide +kernel
theorem d_M_needs_7 : decode c_M_needs 7 = .ok (.invokevirtual 76, 3) := by decide +kernel
theorem d_M_needs_10 : decode c_M_needs 10 = .ok (.ifCond .eq 11, 3) := by decide +kernel
theorem d_M_needs_13 : decode c_M_needs 13 = .ok (.aload_n 0, 1) := by decide +kernel
theorem d_M_needs_14 : decode c_M_needs 14 = .ok (.iload_n 2, 1) := by decide +kernel
theorem d_M_needs_15 : decode c_M_needs 15 = .ok (.invokevirtual 76, 3) := by decide +kernel
theorem d_M_needs_18 : decode c_M_needs 18 = .ok (.ifCond .ne 5, 3) := by decide +kernel
theorem d_M_needs_21 : decode c_M_needs 21 = .ok (.iconst (-1), 1) := by decide +kernel
theorem d_M_needs_22 : decode c_M_needs 22 = .ok (.ireturn, 1) := by decide +kernel
theorem d_M_needs_23 : decode c_M_needs 23 = .ok (.iload_n 3, 1) := by decide +kernel
theorem d_M_needs_24 : decode c_M_needs 24 = .ok (.ifCond .eq 10, 3) := by decide +kernel
theorem d_M_needs_27 : decode c_M_needs 27 = .ok (.aload_n 0, 1) := by decide +kernel
theorem d_M_needs_28 : decode c_M_needs 28 = .ok (.iconst 0, 1) := by decide +kernel
theorem d_M_needs_29 : decode c_M_needs 29 = .ok (.putfield 69, 3) := by decide +kernel
theorem d_M_needs_32 : decode c_M_needs 32 = .ok (.iconst 1, 1) := by decide +kernel
theorem d_M_needs_33 : decode c_M_needs 33 = .ok (.ireturn, 1) := by decide +kernel
theorem d_M_needs_34 : decode c_M_needs 34 = .ok (.aload_n 0, 1) := by decide +kernel
theorem d_M_needs_35 : decode c_M_needs 35 = .ok (.iload_n 1, 1) := by decide +kernel
theorem d_M_needs_36 : decode c_M_needs 36 = .ok (.invokevirtual 80, 3) := by decide +kernel
theorem d_M_needs_39 : decode c_M_needs 39 = .ok (.aload_n 0, 1) := by decide +kernel
theorem d_M_needs_40 : decode c_M_needs 40 = .ok (.getfield 31, 3) := by decide +kernel
theorem d_M_needs_43 : decode c_M_needs 43 = .ok (.iload_n 2, 1) := by decide +kernel
theorem d_M_needs_44 : decode c_M_needs 44 = .ok (.iaload, 1) := by decide +kernel
theorem d_M_needs_45 : decode c_M_needs 45 = .ok (.bipush 99, 2) := by decide +kernel
theorem d_M_needs_47 : decode c_M_needs 47 = .ok (.if_icmp .ge 10, 3) := by decide +kernel
theorem d_M_needs_50 : decode c_M_needs 50 = .ok (.aload_n 0, 1) := by decide +kernel
theorem d_M_needs_51 : decode c_M_needs 51 = .ok (.iload_n 2, 1) := by decide +kernel
theorem d_M_needs_52 : decode c_M_needs 52 = .ok (.invokevirtual 84, 3) := by decide +kernel
theorem d_M_needs_55 : decode c_M_needs 55 = .ok (.iconst 0, 1) := by decide +kernel
theorem d_M_needs_56 : decode c_M_needs 56 = .ok (.ireturn, 1) := by decide +kernel
theorem d_M_needs_57 : decode c_M_needs 57 = .ok (.aload_n 0, 1) := by decide +kernel
theorem d_M_needs_58 : decode c_M_needs 58 = .ok (.iconst 0, 1) := by decide +kernel
theorem d_M_needs_59 : decode c_M_needs 59 = .ok (.putfield 69, 3) := by decide +kernel
theorem d_M_needs_62 : decode c_M_needs 62 = .ok (.aload_n 0, 1) := by decide +kernel
theorem d_M_needs_63 : decode c_M_needs 63 = .ok (.getfield 19, 3) := by decide +kernel
theorem d_M_needs_66 : decode c_M_needs 66 = .ok (.iload_n 2, 1) := by decide +kernel
theorem d_M_needs_67 : decode c_M_needs 67 = .ok (.dup2, 1) := by decide +kernel
theorem d_M_needs_68 : decode c_M_needs 68 = .ok (.iaload, 1) := by decide +kernel
theorem d_M_needs_69 : decode c_M_needs 69 = .ok (.iconst 1, 1) := by decide +kernel
theorem d_M_needs_70 : decode c_M_needs 70 = .ok (.iload_n 1, 1) := by decide +kernel
theorem d_M_needs_71 : decode c_M_needs 71 = .ok (.ishl, 1) := by decide +kernel
theorem d_M_needs_72 : decode c_M_needs 72 = .ok (.ior, 1) := by decide +kernel
theorem d_M_needs_73 : decode c_M_needs 73 = .ok (.iastore, 1) := by decide +kernel
theorem d_M_needs_74 : decode c_M_needs 74 = .ok (.iconst 1, 1) := by decide +kernel
theorem d_M_needs_75 : decode c_M_needs 75 = .ok (.ireturn, 1) := by decide +kernel
theorem d_M_ring_0 : decode c_M_ring 0 = .ok (.aload_n 0, 1) := by decide +kernel
theorem d_M_ring_1 : decode c_M_ring 1 = .ok (.iconst 0, 1) := by decide +kernel
theorem d_M_ring_2 : decode c_M_ring 2 = .ok (.putfield 52, 3) := by decide +kernel
theorem d_M_ring_5 : decode c_M_ring 5 = .ok (.iload_n 1, 1) := by decide +kernel
theorem d_M_ring_6 : decode c_M_ring 6 = .ok (.ifCond .lt 20, 3) := by decide +kernel
theorem d_M_ring_9 : decode c_M_ring 9 = .ok (.iload_n 1, 1) := by decide +kernel
theorem d_M_ring_10 : decode c_M_ring 10 = .ok (.aload_n 0, 1) := by decide +kernel
theorem d_M_ring_11 : decode c_M_ring 11 = .ok (.getfield 73, 3) := by decide +kernel
theorem d_M_ring_14 : decode c_M_ring 14 = .ok (.if_icmp .ge 12, 3) := by decide +kernel
theorem d_M_ring_17 : decode c_M_ring 17 = .ok (.aload_n 0, 1) := by decide +kernel
theorem d_M_ring_18 : decode c_M_ring 18 = .ok (.getfield 28, 3) := by decide +kernel
theorem d_M_ring_21 : decode c_M_ring 21 = .ok (.iload_n 1, 1) := by decide +kernel
theorem d_M_ring_22 : decode c_M_ring 22 = .ok (.iaload, 1) := by decide +kernel
theorem d_M_ring_23 : decode c_M_ring 23 = .ok (.goto 4, 3) := by decide +kernel
theorem d_M_ring_26 : decode c_M_ring 26 = .ok (.iconst 0, 1) := by decide +kernel
theorem d_M_ring_27 : decode c_M_ring 27 = .ok (.ireturn, 1) := by decide +kernel
theorem d_M_area_0 : decode c_M_area 0 = .ok (.aload_n 0, 1) := by decide +kernel
theorem d_M_area_1 : decode c_M_area 1 = .ok (.iconst 0, 1) := by decide +kernel
theorem d_M_area_2 : decode c_M_area 2 = .ok (.putfield 52, 3) := by decide +kernel
theorem d_M_area_5 : decode c_M_area 5 = .ok (.aload_n 0, 1) := by decide +kernel
theorem d_M_area_6 : decode c_M_area 6 = .ok (.iload_n 1, 1) := by decide +kernel
theorem d_M_area_7 : decode c_M_area 7 = .ok (.invokevirtual 76, 3) := by decide +kernel
theorem d_M_area_10 : decode c_M_area 10 = .ok (.ifCond .ne 5, 3) := by decide +kernel
theorem d_M_area_13 : decode c_M_area 13 = .ok (.iconst (-1), 1) := by decide +kernel
theorem d_M_area_14 : decode c_M_area 14 = .ok (.ireturn, 1) := by decide +kernel
theorem d_M_area_15 : decode c_M_area 15 = .ok (.iload_n 2, 1) := by decide +kernel
theorem d_M_area_16 : decode c_M_area 16 = .ok (.ifCond .ge 14, 3) := by decide +kernel
theorem d_M_area_19 : decode c_M_area 19 = .ok (.iload_n 2, 1) := by decide +kernel
theorem d_M_area_20 : decode c_M_area 20 = .ok (.bipush (-20), 2) := by decide +kernel
theorem d_M_area_22 : decode c_M_area 22 = .ok (.if_icmp .lt 8, 3) := by decide +kernel
theorem d_M_area_25 : decode c_M_area 25 = .ok (.iload_n 2, 1) := by decide +kernel
theorem d_M_area_26 : decode c_M_area 26 = .ok (.ineg, 1) := by decide +kernel
theorem d_M_area_27 : decode c_M_area 27 = .ok (.goto 4, 3) := by decide +kernel
theorem d_M_area_30 : decode c_M_area 30 = .ok (.iload_n 2, 1) := by decide +kernel
theorem d_M_area_31 : decode c_M_area 31 = .ok (.istore_n 3, 1) := by decide +kernel
theorem d_M_area_32 : decode c_M_area 32 = .ok (.iload_n 3, 1) := by decide +kernel
theorem d_M_area_33 : decode c_M_area 33 = .ok (.i2l, 1) := by decide +kernel
theorem d_M_area_34 : decode c_M_area 34 = .ok (.lconst 1, 1) := by decide +kernel
theorem d_M_area_35 : decode c_M_area 35 = .ok (.ldc2_w 87, 3) := by decide +kernel
theorem d_M_area_38 : decode c_M_area 38 = .ok (.invokestatic 59, 3) := by decide +kernel
theorem d_M_area_41 : decode c_M_area 41 = .ok (.ifCond .ne 6, 3) := by decide +kernel
theorem d_M_area_44 : decode c_M_area 44 = .ok (.bipush (-2), 2) := by decide +kernel
theorem d_M_area_46 : decode c_M_area 46 = .ok (.ireturn, 1) := by decide +kernel
theorem d_M_area_47 : decode c_M_area 47 = .ok (.iconst 1, 1) := by decide +kernel
theorem d_M_area_48 : decode c_M_area 48 = .ok (.iload_n 1, 1) := by decide +kernel
theorem d_M_area_49 : decode c_M_area 49 = .ok (.ishl, 1) := by decide +kernel
theorem d_M_area_50 : decode c_M_area 50 = .ok (.istore 4, 2) := by decide +kernel
theorem d_M_area_52 : decode c_M_area 52 = .ok (.aload_n 0, 1) := by decide +kernel
theorem d_M_area_53 : decode c_M_area 53 = .ok (.iconst 0, 1) := by decide +kernel
theorem d_M_area_54 : decode c_M_area 54 = .ok (.putfield 69, 3) := by decide +kernel
theorem d_M_area_57 : decode c_M_area 57 = .ok (.iload_n 2, 1) := by decide +kernel
theorem d_M_area_58 : decode c_M_area 58 = .ok (.ifCond .le 17, 3) := by decide +kernel
theorem d_M_area_61 : decode c_M_area 61 = .ok (.aload_n 0, 1) := by decide +kernel
theorem d_M_area_62 : decode c_M_area 62 = .ok (.getfield 22, 3) := by decide +kernel
theorem d_M_area_65 : decode c_M_area 65 = .ok (.iload_n 3, 1) := by decide +kernel
theorem d_M_area_66 : decode c_M_area 66 = .ok (.dup2, 1) := by decide +kernel
theorem d_M_area_67 : decode c_M_area 67 = .ok (.iaload, 1) := by decide +kernel
theorem d_M_area_68 : decode c_M_area 68 = .ok (.iload 4, 2) := by decide +kernel
theorem d_M_area_70 : decode c_M_area 70 = .ok (.ior, 1) := by decide +kernel
theorem d_M_area_71 : decode c_M_area 71 = .ok (.iastore, 1) := by decide +kernel
theorem d_M_area_72 : decode c_M_area 72 = .ok (.goto 14, 3) := by decide +kernel
theorem d_M_area_75 : decode c_M_area 75 = .ok (.aload_n 0, 1) := by decide +kernel
theorem d_M_area_76 : decode c_M_area 76 = .ok (.getfield 25, 3) := by decide +kernel
theorem d_M_area_79 : decode c_M_area 79 = .ok (.iload_n 3, 1) := by decide +kernel
theorem d_M_area_80 : decode c_M_area 80 = .ok (.dup2, 1) := by decide +kernel
theorem d_M_area_81 : decode c_M_area 81 = .ok (.iaload, 1) := by decide +kernel
theorem d_M_area_82 : decode c_M_area 82 = .ok (.iload 4, 2) := by decide +kernel
theorem d_M_area_84 : decode c_M_area 84 = .ok (.ior, 1) := by decide +kernel
theorem d_M_area_85 : decode c_M_area 85 = .ok (.iastore, 1) := by decide +kernel
theorem d_M_area_86 : decode c_M_area 86 = .ok (.iconst 0, 1) := by decide +kernel
theorem d_M_area_87 : decode c_M_area 87 = .ok (.istore 5, 2) := by decide +kernel
theorem d_M_area_89 : decode c_M_area 89 = .ok (.iconst 1, 1) := by decide +kernel
theorem d_M_area_90 : decode c_M_area 90 = .ok (.istore 6, 2) := by decide +kernel
theorem d_M_area_92 : decode c_M_area 92 = .ok (.iload 6, 2) := by decide +kernel
theorem d_M_area_94 : decode c_M_area 94 = .ok (.bipush 20, 2) := by decide +kernel
theorem d_M_area_96 : decode c_M_area 96 = .ok (.if_icmp .gt 40, 3) := by decide +kernel
theorem d_M_area_99 : decode c_M_area 99 = .ok (.iload 5, 2) := by decide +kernel
theorem d_M_area_101 : decode c_M_area 101 = .ok (.aload_n 0, 1) := by decide +kernel
theorem d_M_area_102 : decode c_M_area 102 = .ok (.getfield 22, 3) := by decide +kernel
theorem d_M_area_105 : decode c_M_area 105 = .ok (.iload 6, 2) := by decide +kernel
theorem d_M_area_107 : decode c_M_area 107 = .ok (.iaload, 1) := by decide +kernel
theorem d_M_area_108 : decode c_M_area 108 = .ok (.aload_n 0, 1) := by decide +kernel
theorem d_M_area_109 : decode c_M_area 109 = .ok (.getfield 25, 3) := by decide +kernel
theorem d_M_area_112 : decode c_M_area 112 = .ok (.iload 6, 2) := by decide +kernel
theorem d_M_area_114 : decode c_M_area 114 = .ok (.iaload, 1) := by decide +kernel
theorem d_M_area_115 : decode c_M_area 115 = .ok (.ior, 1) := by decide +kernel
theorem d_M_area_116 : decode c_M_area 116 = .ok (.iload 4, 2) := by decide +kernel
theorem d_M_area_118 : decode c_M_area 118 = .ok (.iand, 1) := by decide +kernel
theorem d_M_area_119 : decode c_M_area 119 = .ok (.ifCond .eq 7, 3) := by decide +kernel
theorem d_M_area_122 : decode c_M_area 122 = .ok (.iconst 1, 1) := by decide +kernel
theorem d_M_area_123 : decode c_M_area 123 = .ok (.goto 4, 3) := by decide +kernel
theorem d_M_area_126 : decode c_M_area 126 = .ok (.iconst 0, 1) := by decide +kernel
theorem d_M_area_127 : decode c_M_area 127 = .ok (.iadd, 1) := by decide +kernel
theorem d_M_area_128 : decode c_M_area 128 = .ok (.istore 5, 2) := by decide +kernel
theorem d_M_area_130 : decode c_M_area 130 = .ok (.iinc 6 1, 3) := by decide +kernel
theorem d_M_area_133 : decode c_M_area 133 = .ok (.goto (-41), 3) := by decide +kernel
theorem d_M_area_136 : decode c_M_area 136 = .ok (.iload 5, 2) := by decide +kernel
theorem d_M_area_138 : decode c_M_area 138 = .ok (.ireturn, 1) := by decide +kernel
theorem d_M_behind_0 : decode c_M_behind 0 = .ok (.aload_n 0, 1) := by decide +kernel
theorem d_M_behind_1 : decode c_M_behind 1 = .ok (.getfield 19, 3) := by decide +kernel
theorem d_M_behind_4 : decode c_M_behind 4 = .ok (.iload_n 1, 1) := by decide +kernel
theorem d_M_behind_5 : decode c_M_behind 5 = .ok (.iaload, 1) := by decide +kernel
theorem d_M_behind_6 : decode c_M_behind 6 = .ok (.istore_n 2, 1) := by decide +kernel
theorem d_M_behind_7 : decode c_M_behind 7 = .ok (.iconst 0, 1) := by decide +kernel
theorem d_M_behind_8 : decode c_M_behind 8 = .ok (.istore_n 3, 1) := by decide +kernel
theorem d_M_behind_9 : decode c_M_behind 9 = .ok (.iload_n 3, 1) := by decide +kernel
theorem d_M_behind_10 : decode c_M_behind 10 = .ok (.aload_n 0, 1) := by decide +kernel
theorem d_M_behind_11 : decode c_M_behind 11 = .ok (.getfield 56, 3) := by decide +kernel
theorem d_M_behind_14 : decode c_M_behind 14 = .ok (.if_icmp .ge 51, 3) := by decide +kernel
theorem d_M_behind_17 : decode c_M_behind 17 = .ok (.iconst 1, 1) := by decide +kernel
theorem d_M_behind_18 : decode c_M_behind 18 = .ok (.istore 4, 2) := by decide +kernel
theorem d_M_behind_20 : decode c_M_behind 20 = .ok (.iload 4, 2) := by decide +kernel
theorem d_M_behind_22 : decode c_M_behind 22 = .ok (.aload_n 0, 1) := by decide +kernel
theorem d_M_behind_23 : decode c_M_behind 23 = .ok (.getfield 56, 3) := by decide +kernel
theorem d_M_behind_26 : decode c_M_behind 26 = .ok (.if_icmp .gt 33, 3) := by decide +kernel
theorem d_M_behind_29 : decode c_M_behind 29 = .ok (.iload_n 2, 1) := by decide +kernel
theorem d_M_behind_30 : decode c_M_behind 30 = .ok (.iload_n 2, 1) := by decide +kernel
theorem d_M_behind_31 : decode c_M_behind 31 = .ok (.iload 4, 2) := by decide +kernel
theorem d_M_behind_33 : decode c_M_behind 33 = .ok (.ishr, 1) := by decide +kernel
theorem d_M_behind_34 : decode c_M_behind 34 = .ok (.iconst 1, 1) := by decide +kernel
theorem d_M_behind_35 : decode c_M_behind 35 = .ok (.iand, 1) := by decide +kernel
theorem d_M_behind_36 : decode c_M_behind 36 = .ok (.iconst 1, 1) := by decide +kernel
theorem d_M_behind_37 : decode c_M_behind 37 = .ok (.if_icmp .ne 13, 3) := by decide +kernel
theorem d_M_behind_40 : decode c_M_behind 40 = .ok (.aload_n 0, 1) := by decide +kernel
theorem d_M_behind_41 : decode c_M_behind 41 = .ok (.getfield 19, 3) := by decide +kernel
theorem d_M_behind_44 : decode c_M_behind 44 = .ok (.iload 4, 2) := by decide +kernel
theorem d_M_behind_46 : decode c_M_behind 46 = .ok (.iaload, 1) := by decide +kernel
theorem d_M_behind_47 : decode c_M_behind 47 = .ok (.goto 4, 3) := by decide +kernel
theorem d_M_behind_50 : decode c_M_behind 50 = .ok (.iconst 0, 1) := by decide +kernel
theorem d_M_behind_51 : decode c_M_behind 51 = .ok (.ior, 1) := by decide +kernel
theorem d_M_behind_52 : decode c_M_behind 52 = .ok (.istore_n 2, 1) := by decide +kernel
theorem d_M_behind_53 : decode c_M_behind 53 = .ok (.iinc 4 1, 3) := by decide +kernel
theorem d_M_behind_56 : decode c_M_behind 56 = .ok (.goto (-36), 3) := by decide +kernel
theorem d_M_behind_59 : decode c_M_behind 59 = .ok (.iinc 3 1, 3) := by decide +kernel
theorem d_M_behind_62 : decode c_M_behind 62 = .ok (.goto (-53), 3) := by decide +kernel
theorem d_M_behind_65 : decode c_M_behind 65 = .ok (.iload_n 2, 1) := by decide +kernel
theorem d_M_behind_66 : decode c_M_behind 66 = .ok (.ireturn, 1) := by decide +kernel
theorem d_M_addTask_0 : decode c_M_addTask 0 = .ok (.aload_n 0, 1) := by decide +kernel
theorem d_M_addTask_1 : decode c_M_addTask 1 = .ok (.getfield 34, 3) := by decide +kernel
theorem d_M_addTask_4 : decode c_M_addTask 4 = .ok (.iconst 0, 1) := by decide +kernel
theorem d_M_addTask_5 : decode c_M_addTask 5 = .ok (.iaload, 1) := by decide +kernel
theorem d_M_addTask_6 : decode c_M_addTask 6 = .ok (.istore 4, 2) := by decide +kernel
theorem d_M_addTask_8 : decode c_M_addTask 8 = .ok (.iload 4, 2) := by decide +kernel
theorem d_M_addTask_10 : decode c_M_addTask 10 = .ok (.ifCond .ne 7, 3) := by decide +kernel
theorem d_M_addTask_13 : decode c_M_addTask 13 = .ok (.iconst 0, 1) := by decide +kernel
theorem d_M_addTask_14 : decode c_M_addTask 14 = .ok (.goto 10, 3) := by decide +kernel
theorem d_M_addTask_17 : decode c_M_addTask 17 = .ok (.aload_n 0, 1) := by decide +kernel
theorem d_M_addTask_18 : decode c_M_addTask 18 = .ok (.getfield 43, 3) := by decide +kernel
theorem d_M_addTask_21 : decode c_M_addTask 21 = .ok (.iload 4, 2) := by decide +kernel
theorem d_M_addTask_23 : decode c_M_addTask 23 = .ok (.iaload, 1) := by decide +kernel
theorem d_M_addTask_24 : decode c_M_addTask 24 = .ok (.istore 5, 2) := by decide +kernel
theorem d_M_addTask_26 : decode c_M_addTask 26 = .ok (.iload_n 3, 1) := by decide +kernel
theorem d_M_addTask_27 : decode c_M_addTask 27 = .ok (.istore 6, 2) := by decide +kernel
theorem d_M_addTask_29 : decode c_M_addTask 29 = .ok (.iload 6, 2) := by decide +kernel
theorem d_M_addTask_31 : decode c_M_addTask 31 = .ok (.ifCond .eq 71, 3) := by decide +kernel
theorem d_M_addTask_34 : decode c_M_addTask 34 = .ok (.iconst 1, 1) := by decide +kernel
theorem d_M_addTask_35 : decode c_M_addTask 35 = .ok (.istore 7, 2) := by decide +kernel
theorem d_M_addTask_37 : decode c_M_addTask 37 = .ok (.iload 6, 2) := by decide +kernel
theorem d_M_addTask_39 : decode c_M_addTask 39 = .ok (.iload 7, 2) := by decide +kernel
theorem d_M_addTask_41 : decode c_M_addTask 41 = .ok (.ishr, 1) := by decide +kernel
theorem d_M_addTask_42 : decode c_M_addTask 42 = .ok (.iconst 1, 1) := by decide +kernel
theorem d_M_addTask_43 : decode c_M_addTask 43 = .ok (.iand, 1) := by decide +kernel
theorem d_M_addTask_44 : decode c_M_addTask 44 = .ok (.ifCond .eq 15, 3) := by decide +kernel
theorem d_M_addTask_47 : decode c_M_addTask 47 = .ok (.aload_n 0, 1) := by decide +kernel
theorem d_M_addTask_48 : decode c_M_addTask 48 = .ok (.iload 7, 2) := by decide +kernel
theorem d_M_addTask_50 : decode c_M_addTask 50 = .ok (.invokevirtual 89, 3) := by decide +kernel
theorem d_M_addTask_53 : decode c_M_addTask 53 = .ok (.iload 6, 2) := by decide +kernel
theorem d_M_addTask_55 : decode c_M_addTask 55 = .ok (.iand, 1) := by decide +kernel
theorem d_M_addTask_56 : decode c_M_addTask 56 = .ok (.ifCond .eq 9, 3) := by decide +kernel
theorem d_M_addTask_59 : decode c_M_addTask 59 = .ok (.iinc 7 1, 3) := by decide +kernel
theorem d_M_addTask_62 : decode c_M_addTask 62 = .ok (.goto (-25), 3) := by decide +kernel
theorem d_M_addTask_65 : decode c_M_addTask 65 = .ok (.aload_n 0, 1) := by decide +kernel
theorem d_M_addTask_66 : decode c_M_addTask 66 = .ok (.getfield 46, 3) := by decide +kernel
theorem d_M_addTask_69 : decode c_M_addTask 69 = .ok (.iload 5, 2) := by decide +kernel
theorem d_M_addTask_71 : decode c_M_addTask 71 = .ok (.iload 7, 2) := by decide +kernel
theorem d_M_addTask_73 : decode c_M_addTask 73 = .ok (.iastore, 1) := by decide +kernel
theorem d_M_addTask_74 : decode c_M_addTask 74 = .ok (.iinc 5 1, 3) := by decide +kernel
theorem d_M_addTask_77 : decode c_M_addTask 77 = .ok (.iload 6, 2) := by decide +kernel
theorem d_M_addTask_79 : decode c_M_addTask 79 = .ok (.iconst 1, 1) := by decide +kernel
theorem d_M_addTask_80 : decode c_M_addTask 80 = .ok (.iload 7, 2) := by decide +kernel
theorem d_M_addTask_82 : decode c_M_addTask 82 = .ok (.ishl, 1) := by decide +kernel
theorem d_M_addTask_83 : decode c_M_addTask 83 = .ok (.iconst (-1), 1) := by decide +kernel
theorem d_M_addTask_84 : decode c_M_addTask 84 = .ok (.ixor, 1) := by decide +kernel
theorem d_M_addTask_85 : decode c_M_addTask 85 = .ok (.iand, 1) := by decide +kernel
theorem d_M_addTask_86 : decode c_M_addTask 86 = .ok (.istore 6, 2) := by decide +kernel
theorem d_M_addTask_88 : decode c_M_addTask 88 = .ok (.aload_n 0, 1) := by decide +kernel
theorem d_M_addTask_89 : decode c_M_addTask 89 = .ok (.getfield 49, 3) := by decide +kernel
theorem d_M_addTask_92 : decode c_M_addTask 92 = .ok (.iload 7, 2) := by decide +kernel
theorem d_M_addTask_94 : decode c_M_addTask 94 = .ok (.iload 4, 2) := by decide +kernel
theorem d_M_addTask_96 : decode c_M_addTask 96 = .ok (.iconst 1, 1) := by decide +kernel
theorem d_M_addTask_97 : decode c_M_addTask 97 = .ok (.iadd, 1) := by decide +kernel
theorem d_M_addTask_98 : decode c_M_addTask 98 = .ok (.iastore, 1) := by decide +kernel
theorem d_M_addTask_99 : decode c_M_addTask 99 = .ok (.goto (-70), 3) := by decide +kernel
theorem d_M_addTask_102 : decode c_M_addTask 102 = .ok (.aload_n 0, 1) := by decide +kernel
theorem d_M_addTask_103 : decode c_M_addTask 103 = .ok (.getfield 37, 3) := by decide +kernel
theorem d_M_addTask_106 : decode c_M_addTask 106 = .ok (.iload 4, 2) := by decide +kernel
theorem d_M_addTask_108 : decode c_M_addTask 108 = .ok (.iload_n 1, 1) := by decide +kernel
theorem d_M_addTask_109 : decode c_M_addTask 109 = .ok (.iastore, 1) := by decide +kernel
theorem d_M_addTask_110 : decode c_M_addTask 110 = .ok (.aload_n 0, 1) := by decide +kernel
theorem d_M_addTask_111 : decode c_M_addTask 111 = .ok (.getfield 40, 3) := by decide +kernel
theorem d_M_addTask_114 : decode c_M_addTask 114 = .ok (.iload 4, 2) := by decide +kernel
theorem d_M_addTask_116 : decode c_M_addTask 116 = .ok (.iload_n 2, 1) := by decide +kernel
theorem d_M_addTask_117 : decode c_M_addTask 117 = .ok (.iastore, 1) := by decide +kernel
theorem d_M_addTask_118 : decode c_M_addTask 118 = .ok (.aload_n 0, 1) := by decide +kernel
theorem d_M_addTask_119 : decode c_M_addTask 119 = .ok (.getfield 43, 3) := by decide +kernel
theorem d_M_addTask_122 : decode c_M_addTask 122 = .ok (.iload 4, 2) := by decide +kernel
theorem d_M_addTask_124 : decode c_M_addTask 124 = .ok (.iconst 1, 1) := by decide +kernel
theorem d_M_addTask_125 : decode c_M_addTask 125 = .ok (.iadd, 1) := by decide +kernel
theorem d_M_addTask_126 : decode c_M_addTask 126 = .ok (.iload 5, 2) := by decide +kernel
theorem d_M_addTask_128 : decode c_M_addTask 128 = .ok (.iastore, 1) := by decide +kernel
theorem d_M_addTask_129 : decode c_M_addTask 129 = .ok (.aload_n 0, 1) := by decide +kernel
theorem d_M_addTask_130 : decode c_M_addTask 130 = .ok (.getfield 34, 3) := by decide +kernel
theorem d_M_addTask_133 : decode c_M_addTask 133 = .ok (.iconst 0, 1) := by decide +kernel
theorem d_M_addTask_134 : decode c_M_addTask 134 = .ok (.dup2, 1) := by decide +kernel
theorem d_M_addTask_135 : decode c_M_addTask 135 = .ok (.iaload, 1) := by decide +kernel
theorem d_M_addTask_136 : decode c_M_addTask 136 = .ok (.iconst 1, 1) := by decide +kernel
theorem d_M_addTask_137 : decode c_M_addTask 137 = .ok (.iadd, 1) := by decide +kernel
theorem d_M_addTask_138 : decode c_M_addTask 138 = .ok (.iastore, 1) := by decide +kernel
theorem d_M_addTask_139 : decode c_M_addTask 139 = .ok (.return_, 1) := by decide +kernel
theorem d_M_with_0 : decode c_M_with 0 = .ok (.iconst 0, 1) := by decide +kernel
theorem d_M_with_1 : decode c_M_with 1 = .ok (.istore_n 3, 1) := by decide +kernel
theorem d_M_with_2 : decode c_M_with 2 = .ok (.iconst 1, 1) := by decide +kernel
theorem d_M_with_3 : decode c_M_with 3 = .ok (.istore 4, 2) := by decide +kernel
theorem d_M_with_5 : decode c_M_with 5 = .ok (.iload 4, 2) := by decide +kernel
theorem d_M_with_7 : decode c_M_with 7 = .ok (.aload_n 0, 1) := by decide +kernel
theorem d_M_with_8 : decode c_M_with 8 = .ok (.getfield 56, 3) := by decide +kernel
theorem d_M_with_11 : decode c_M_with 11 = .ok (.if_icmp .gt 42, 3) := by decide +kernel
theorem d_M_with_14 : decode c_M_with 14 = .ok (.iload_n 3, 1) := by decide +kernel
theorem d_M_with_15 : decode c_M_with 15 = .ok (.aload_n 0, 1) := by decide +kernel
theorem d_M_with_16 : decode c_M_with 16 = .ok (.getfield 13, 3) := by decide +kernel
theorem d_M_with_19 : decode c_M_with 19 = .ok (.iload 4, 2) := by decide +kernel
theorem d_M_with_21 : decode c_M_with 21 = .ok (.iaload, 1) := by decide +kernel
theorem d_M_with_22 : decode c_M_with 22 = .ok (.iload_n 1, 1) := by decide +kernel
theorem d_M_with_23 : decode c_M_with 23 = .ok (.if_icmp .ne 21, 3) := by decide +kernel
theorem d_M_with_26 : decode c_M_with 26 = .ok (.aload_n 0, 1) := by decide +kernel
theorem d_M_with_27 : decode c_M_with 27 = .ok (.getfield 7, 3) := by decide +kernel
theorem d_M_with_30 : decode c_M_with 30 = .ok (.iload 4, 2) := by decide +kernel
theorem d_M_with_32 : decode c_M_with 32 = .ok (.iaload, 1) := by decide +kernel
theorem d_M_with_33 : decode c_M_with 33 = .ok (.iload_n 2, 1) := by decide +kernel
theorem d_M_with_34 : decode c_M_with 34 = .ok (.if_icmp .ne 10, 3) := by decide +kernel
theorem d_M_with_37 : decode c_M_with 37 = .ok (.iconst 1, 1) := by decide +kernel
theorem d_M_with_38 : decode c_M_with 38 = .ok (.iload 4, 2) := by decide +kernel
theorem d_M_with_40 : decode c_M_with 40 = .ok (.ishl, 1) := by decide +kernel
theorem d_M_with_41 : decode c_M_with 41 = .ok (.goto 4, 3) := by decide +kernel
theorem d_M_with_44 : decode c_M_with 44 = .ok (.iconst 0, 1) := by decide +kernel
theorem d_M_with_45 : decode c_M_with 45 = .ok (.ior, 1) := by decide +kernel
theorem d_M_with_46 : decode c_M_with 46 = .ok (.istore_n 3, 1) := by decide +kernel
theorem d_M_with_47 : decode c_M_with 47 = .ok (.iinc 4 1, 3) := by decide +kernel
theorem d_M_with_50 : decode c_M_with 50 = .ok (.goto (-45), 3) := by decide +kernel
theorem d_M_with_53 : decode c_M_with 53 = .ok (.iload_n 3, 1) := by decide +kernel
theorem d_M_with_54 : decode c_M_with 54 = .ok (.ireturn, 1) := by decide +kernel
theorem d_M_tasksOn_0 : decode c_M_tasksOn 0 = .ok (.iconst 0, 1) := by decide +kernel
theorem d_M_tasksOn_1 : decode c_M_tasksOn 1 = .ok (.istore_n 2, 1) := by decide +kernel
theorem d_M_tasksOn_2 : decode c_M_tasksOn 2 = .ok (.iconst 1, 1) := by decide +kernel
theorem d_M_tasksOn_3 : decode c_M_tasksOn 3 = .ok (.istore_n 3, 1) := by decide +kernel
theorem d_M_tasksOn_4 : decode c_M_tasksOn 4 = .ok (.iload_n 3, 1) := by decide +kernel
theorem d_M_tasksOn_5 : decode c_M_tasksOn 5 = .ok (.aload_n 0, 1) := by decide +kernel
theorem d_M_tasksOn_6 : decode c_M_tasksOn 6 = .ok (.getfield 56, 3) := by decide +kernel
theorem d_M_tasksOn_9 : decode c_M_tasksOn 9 = .ok (.if_icmp .gt 102, 3) := by decide +kernel
theorem d_M_tasksOn_12 : decode c_M_tasksOn 12 = .ok (.aload_n 0, 1) := by decide +kernel
theorem d_M_tasksOn_13 : decode c_M_tasksOn 13 = .ok (.getfield 13, 3) := by decide +kernel
theorem d_M_tasksOn_16 : decode c_M_tasksOn 16 = .ok (.iload_n 3, 1) := by decide +kernel
theorem d_M_tasksOn_17 : decode c_M_tasksOn 17 = .ok (.iaload, 1) := by decide +kernel
theorem d_M_tasksOn_18 : decode c_M_tasksOn 18 = .ok (.iload_n 1, 1) := by decide +kernel
theorem d_M_tasksOn_19 : decode c_M_tasksOn 19 = .ok (.if_icmp .ne 7, 3) := by decide +kernel
theorem d_M_tasksOn_22 : decode c_M_tasksOn 22 = .ok (.iconst 1, 1) := by decide +kernel
theorem d_M_tasksOn_23 : decode c_M_tasksOn 23 = .ok (.goto 4, 3) := by decide +kernel
theorem d_M_tasksOn_26 : decode c_M_tasksOn 26 = .ok (.iconst 0, 1) := by decide +kernel
theorem d_M_tasksOn_27 : decode c_M_tasksOn 27 = .ok (.istore 4, 2) := by decide +kernel
theorem d_M_tasksOn_29 : decode c_M_tasksOn 29 = .ok (.iconst 1, 1) := by decide +kernel
theorem d_M_tasksOn_30 : decode c_M_tasksOn 30 = .ok (.istore 5, 2) := by decide +kernel
theorem d_M_tasksOn_32 : decode c_M_tasksOn 32 = .ok (.iload 5, 2) := by decide +kernel
theorem d_M_tasksOn_34 : decode c_M_tasksOn 34 = .ok (.iload_n 3, 1) := by decide +kernel
theorem d_M_tasksOn_35 : decode c_M_tasksOn 35 = .ok (.if_icmp .ge 57, 3) := by decide +kernel
theorem d_M_tasksOn_38 : decode c_M_tasksOn 38 = .ok (.iload 4, 2) := by decide +kernel
theorem d_M_tasksOn_40 : decode c_M_tasksOn 40 = .ok (.ifCond .eq 43, 3) := by decide +kernel
theorem d_M_tasksOn_43 : decode c_M_tasksOn 43 = .ok (.aload_n 0, 1) := by decide +kernel
theorem d_M_tasksOn_44 : decode c_M_tasksOn 44 = .ok (.getfield 7, 3) := by decide +kernel
theorem d_M_tasksOn_47 : decode c_M_tasksOn 47 = .ok (.iload_n 3, 1) := by decide +kernel
theorem d_M_tasksOn_48 : decode c_M_tasksOn 48 = .ok (.iaload, 1) := by decide +kernel
theorem d_M_tasksOn_49 : decode c_M_tasksOn 49 = .ok (.ifCond .eq 30, 3) := by decide +kernel
theorem d_M_tasksOn_52 : decode c_M_tasksOn 52 = .ok (.aload_n 0, 1) := by decide +kernel
theorem d_M_tasksOn_53 : decode c_M_tasksOn 53 = .ok (.getfield 13, 3) := by decide +kernel
theorem d_M_tasksOn_56 : decode c_M_tasksOn 56 = .ok (.iload 5, 2) := by decide +kernel
theorem d_M_tasksOn_58 : decode c_M_tasksOn 58 = .ok (.iaload, 1) := by decide +kernel
theorem d_M_tasksOn_59 : decode c_M_tasksOn 59 = .ok (.iload_n 1, 1) := by decide +kernel
theorem d_M_tasksOn_60 : decode c_M_tasksOn 60 = .ok (.if_icmp .ne 19, 3) := by decide +kernel
theorem d_M_tasksOn_63 : decode c_M_tasksOn 63 = .ok (.aload_n 0, 1) := by decide +kernel
theorem d_M_tasksOn_64 : decode c_M_tasksOn 64 = .ok (.getfield 7, 3) := by decide +kernel
theorem d_M_tasksOn_67 : decode c_M_tasksOn 67 = .ok (.iload 5, 2) := by decide +kernel
theorem d_M_tasksOn_69 : decode c_M_tasksOn 69 = .ok (.iaload, 1) := by decide +kernel
theorem d_M_tasksOn_70 : decode c_M_tasksOn 70 = .ok (.aload_n 0, 1) := by decide +kernel
theorem d_M_tasksOn_71 : decode c_M_tasksOn 71 = .ok (.getfield 7, 3) := by decide +kernel
theorem d_M_tasksOn_74 : decode c_M_tasksOn 74 = .ok (.iload_n 3, 1) := by decide +kernel
theorem d_M_tasksOn_75 : decode c_M_tasksOn 75 = .ok (.iaload, 1) := by decide +kernel
theorem d_M_tasksOn_76 : decode c_M_tasksOn 76 = .ok (.if_icmp .eq 7, 3) := by decide +kernel
theorem d_M_tasksOn_79 : decode c_M_tasksOn 79 = .ok (.iconst 1, 1) := by decide +kernel
theorem d_M_tasksOn_80 : decode c_M_tasksOn 80 = .ok (.goto 4, 3) := by decide +kernel
theorem d_M_tasksOn_83 : decode c_M_tasksOn 83 = .ok (.iconst 0, 1) := by decide +kernel
theorem d_M_tasksOn_84 : decode c_M_tasksOn 84 = .ok (.istore 4, 2) := by decide +kernel
theorem d_M_tasksOn_86 : decode c_M_tasksOn 86 = .ok (.iinc 5 1, 3) := by decide +kernel
theorem d_M_tasksOn_89 : decode c_M_tasksOn 89 = .ok (.goto (-57), 3) := by decide +kernel
theorem d_M_tasksOn_92 : decode c_M_tasksOn 92 = .ok (.iload_n 2, 1) := by decide +kernel
theorem d_M_tasksOn_93 : decode c_M_tasksOn 93 = .ok (.iload 4, 2) := by decide +kernel
theorem d_M_tasksOn_95 : decode c_M_tasksOn 95 = .ok (.ifCond .eq 7, 3) := by decide +kernel
theorem d_M_tasksOn_98 : decode c_M_tasksOn 98 = .ok (.iconst 1, 1) := by decide +kernel
theorem d_M_tasksOn_99 : decode c_M_tasksOn 99 = .ok (.goto 4, 3) := by decide +kernel
theorem d_M_tasksOn_102 : decode c_M_tasksOn 102 = .ok (.iconst 0, 1) := by decide +kernel
theorem d_M_tasksOn_103 : decode c_M_tasksOn 103 = .ok (.iadd, 1) := by decide +kernel
theorem d_M_tasksOn_104 : decode c_M_tasksOn 104 = .ok (.istore_n 2, 1) := by decide +kernel
theorem d_M_tasksOn_105 : decode c_M_tasksOn 105 = .ok (.iinc 3 1, 3) := by decide +kernel
theorem d_M_tasksOn_108 : decode c_M_tasksOn 108 = .ok (.goto (-104), 3) := by decide +kernel
theorem d_M_tasksOn_111 : decode c_M_tasksOn 111 = .ok (.iload_n 2, 1) := by decide +kernel
theorem d_M_tasksOn_112 : decode c_M_tasksOn 112 = .ok (.ireturn, 1) := by decide +kernel
theorem d_M_makeTasks_0 : decode c_M_makeTasks 0 = .ok (.iconst 1, 1) := by decide +kernel
theorem d_M_makeTasks_1 : decode c_M_makeTasks 1 = .ok (.istore_n 2, 1) := by decide +kernel
theorem d_M_makeTasks_2 : decode c_M_makeTasks 2 = .ok (.iload_n 2, 1) := by decide +kernel
theorem d_M_makeTasks_3 : decode c_M_makeTasks 3 = .ok (.aload_n 0, 1) := by decide +kernel
theorem d_M_makeTasks_4 : decode c_M_makeTasks 4 = .ok (.getfield 56, 3) := by decide +kernel
theorem d_M_makeTasks_7 : decode c_M_makeTasks 7 = .ok (.if_icmp .gt 37, 3) := by decide +kernel
theorem d_M_makeTasks_10 : decode c_M_makeTasks 10 = .ok (.aload_n 0, 1) := by decide +kernel
theorem d_M_makeTasks_11 : decode c_M_makeTasks 11 = .ok (.getfield 13, 3) := by decide +kernel
theorem d_M_makeTasks_14 : decode c_M_makeTasks 14 = .ok (.iload_n 2, 1) := by decide +kernel
theorem d_M_makeTasks_15 : decode c_M_makeTasks 15 = .ok (.iaload, 1) := by decide +kernel
theorem d_M_makeTasks_16 : decode c_M_makeTasks 16 = .ok (.iload_n 1, 1) := by decide +kernel
theorem d_M_makeTasks_17 : decode c_M_makeTasks 17 = .ok (.if_icmp .ne 21, 3) := by decide +kernel
theorem d_M_makeTasks_20 : decode c_M_makeTasks 20 = .ok (.aload_n 0, 1) := by decide +kernel
theorem d_M_makeTasks_21 : decode c_M_makeTasks 21 = .ok (.getfield 7, 3) := by decide +kernel
theorem d_M_makeTasks_24 : decode c_M_makeTasks 24 = .ok (.iload_n 2, 1) := by decide +kernel
theorem d_M_makeTasks_25 : decode c_M_makeTasks 25 = .ok (.iaload, 1) := by decide +kernel
theorem d_M_makeTasks_26 : decode c_M_makeTasks 26 = .ok (.ifCond .ne 12, 3) := by decide +kernel
theorem d_M_makeTasks_29 : decode c_M_makeTasks 29 = .ok (.aload_n 0, 1) := by decide +kernel
theorem d_M_makeTasks_30 : decode c_M_makeTasks 30 = .ok (.iload_n 1, 1) := by decide +kernel
theorem d_M_makeTasks_31 : decode c_M_makeTasks 31 = .ok (.iconst 0, 1) := by decide +kernel
theorem d_M_makeTasks_32 : decode c_M_makeTasks 32 = .ok (.iconst 1, 1) := by decide +kernel
theorem d_M_makeTasks_33 : decode c_M_makeTasks 33 = .ok (.iload_n 2, 1) := by decide +kernel
theorem d_M_makeTasks_34 : decode c_M_makeTasks 34 = .ok (.ishl, 1) := by decide +kernel
theorem d_M_makeTasks_35 : decode c_M_makeTasks 35 = .ok (.invokevirtual 93, 3) := by decide +kernel
theorem d_M_makeTasks_38 : decode c_M_makeTasks 38 = .ok (.iinc 2 1, 3) := by decide +kernel
theorem d_M_makeTasks_41 : decode c_M_makeTasks 41 = .ok (.goto (-39), 3) := by decide +kernel
theorem d_M_makeTasks_44 : decode c_M_makeTasks 44 = .ok (.iconst 1, 1) := by decide +kernel
theorem d_M_makeTasks_45 : decode c_M_makeTasks 45 = .ok (.istore_n 2, 1) := by decide +kernel
theorem d_M_makeTasks_46 : decode c_M_makeTasks 46 = .ok (.iload_n 2, 1) := by decide +kernel
theorem d_M_makeTasks_47 : decode c_M_makeTasks 47 = .ok (.sipush 1000, 3) := by decide +kernel
theorem d_M_makeTasks_50 : decode c_M_makeTasks 50 = .ok (.if_icmp .gt 27, 3) := by decide +kernel
theorem d_M_makeTasks_53 : decode c_M_makeTasks 53 = .ok (.aload_n 0, 1) := by decide +kernel
theorem d_M_makeTasks_54 : decode c_M_makeTasks 54 = .ok (.iload_n 1, 1) := by decide +kernel
theorem d_M_makeTasks_55 : decode c_M_makeTasks 55 = .ok (.iload_n 2, 1) := by decide +kernel
theorem d_M_makeTasks_56 : decode c_M_makeTasks 56 = .ok (.invokevirtual 97, 3) := by decide +kernel
theorem d_M_makeTasks_59 : decode c_M_makeTasks 59 = .ok (.istore_n 3, 1) := by decide +kernel
theorem d_M_makeTasks_60 : decode c_M_makeTasks 60 = .ok (.iload_n 3, 1) := by decide +kernel
theorem d_M_makeTasks_61 : decode c_M_makeTasks 61 = .ok (.ifCond .eq 10, 3) := by decide +kernel
theorem d_M_makeTasks_64 : decode c_M_makeTasks 64 = .ok (.aload_n 0, 1) := by decide +kernel
theorem d_M_makeTasks_65 : decode c_M_makeTasks 65 = .ok (.iload_n 1, 1) := by decide +kernel
theorem d_M_makeTasks_66 : decode c_M_makeTasks 66 = .ok (.iload_n 2, 1) := by decide +kernel
theorem d_M_makeTasks_67 : decode c_M_makeTasks 67 = .ok (.iload_n 3, 1) := by decide +kernel
theorem d_M_makeTasks_68 : decode c_M_makeTasks 68 = .ok (.invokevirtual 93, 3) := by decide +kernel
theorem d_M_makeTasks_71 : decode c_M_makeTasks 71 = .ok (.iinc 2 1, 3) := by decide +kernel
theorem d_M_makeTasks_74 : decode c_M_makeTasks 74 = .ok (.goto (-28), 3) := by decide +kernel
theorem d_M_makeTasks_77 : decode c_M_makeTasks 77 = .ok (.return_, 1) := by decide +kernel
theorem d_M_keep_0 : decode c_M_keep 0 = .ok (.aload_n 0, 1) := by decide +kernel
theorem d_M_keep_1 : decode c_M_keep 1 = .ok (.getfield 34, 3) := by decide +kernel
theorem d_M_keep_4 : decode c_M_keep 4 = .ok (.iload_n 1, 1) := by decide +kernel
theorem d_M_keep_5 : decode c_M_keep 5 = .ok (.aload_n 0, 1) := by decide +kernel
theorem d_M_keep_6 : decode c_M_keep 6 = .ok (.getfield 34, 3) := by decide +kernel
theorem d_M_keep_9 : decode c_M_keep 9 = .ok (.iconst 0, 1) := by decide +kernel
theorem d_M_keep_10 : decode c_M_keep 10 = .ok (.iaload, 1) := by decide +kernel
theorem d_M_keep_11 : decode c_M_keep 11 = .ok (.iastore, 1) := by decide +kernel
theorem d_M_keep_12 : decode c_M_keep 12 = .ok (.iconst 0, 1) := by decide +kernel
theorem d_M_keep_13 : decode c_M_keep 13 = .ok (.istore_n 2, 1) := by decide +kernel
theorem d_M_keep_14 : decode c_M_keep 14 = .ok (.iload_n 2, 1) := by decide +kernel
theorem d_M_keep_15 : decode c_M_keep 15 = .ok (.bipush 24, 2) := by decide +kernel
theorem d_M_keep_17 : decode c_M_keep 17 = .ok (.if_icmp .ge 60, 3) := by decide +kernel
theorem d_M_keep_20 : decode c_M_keep 20 = .ok (.aload_n 0, 1) := by decide +kernel
theorem d_M_keep_21 : decode c_M_keep 21 = .ok (.getfield 37, 3) := by decide +kernel
theorem d_M_keep_24 : decode c_M_keep 24 = .ok (.bipush 24, 2) := by decide +kernel
theorem d_M_keep_26 : decode c_M_keep 26 = .ok (.iload_n 1, 1) := by decide +kernel
theorem d_M_keep_27 : decode c_M_keep 27 = .ok (.imul, 1) := by decide +kernel
theorem d_M_keep_28 : decode c_M_keep 28 = .ok (.iload_n 2, 1) := by decide +kernel
theorem d_M_keep_29 : decode c_M_keep 29 = .ok (.iadd, 1) := by decide +kernel
theorem d_M_keep_30 : decode c_M_keep 30 = .ok (.aload_n 0, 1) := by decide +kernel
theorem d_M_keep_31 : decode c_M_keep 31 = .ok (.getfield 37, 3) := by decide +kernel
end
section
theorem d_M_keep_34 : decode c_M_keep 34 = .ok (.iload_n 2, 1) := by decide +kernel
theorem d_M_keep_35 : decode c_M_keep 35 = .ok (.iaload, 1) := by decide +kernel
theorem d_M_keep_36 : decode c_M_keep 36 = .ok (.iastore, 1) := by decide +kernel
theorem d_M_keep_37 : decode c_M_keep 37 = .ok (.aload_n 0, 1) := by decide +kernel
theorem d_M_keep_38 : decode c_M_keep 38 = .ok (.getfield 40, 3) := by decide +kernel
theorem d_M_keep_41 : decode c_M_keep 41 = .ok (.bipush 24, 2) := by decide +kernel
theorem d_M_keep_43 : decode c_M_keep 43 = .ok (.iload_n 1, 1) := by decide +kernel
theorem d_M_keep_44 : decode c_M_keep 44 = .ok (.imul, 1) := by decide +kernel
theorem d_M_keep_45 : decode c_M_keep 45 = .ok (.iload_n 2, 1) := by decide +kernel
theorem d_M_keep_46 : decode c_M_keep 46 = .ok (.iadd, 1) := by decide +kernel
theorem d_M_keep_47 : decode c_M_keep 47 = .ok (.aload_n 0, 1) := by decide +kernel
theorem d_M_keep_48 : decode c_M_keep 48 = .ok (.getfield 40, 3) := by decide +kernel
theorem d_M_keep_51 : decode c_M_keep 51 = .ok (.iload_n 2, 1) := by decide +kernel
theorem d_M_keep_52 : decode c_M_keep 52 = .ok (.iaload, 1) := by decide +kernel
theorem d_M_keep_53 : decode c_M_keep 53 = .ok (.iastore, 1) := by decide +kernel
theorem d_M_keep_54 : decode c_M_keep 54 = .ok (.aload_n 0, 1) := by decide +kernel
theorem d_M_keep_55 : decode c_M_keep 55 = .ok (.getfield 46, 3) := by decide +kernel
theorem d_M_keep_58 : decode c_M_keep 58 = .ok (.bipush 24, 2) := by decide +kernel
theorem d_M_keep_60 : decode c_M_keep 60 = .ok (.iload_n 1, 1) := by decide +kernel
theorem d_M_keep_61 : decode c_M_keep 61 = .ok (.imul, 1) := by decide +kernel
theorem d_M_keep_62 : decode c_M_keep 62 = .ok (.iload_n 2, 1) := by decide +kernel
theorem d_M_keep_63 : decode c_M_keep 63 = .ok (.iadd, 1) := by decide +kernel
theorem d_M_keep_64 : decode c_M_keep 64 = .ok (.aload_n 0, 1) := by decide +kernel
theorem d_M_keep_65 : decode c_M_keep 65 = .ok (.getfield 46, 3) := by decide +kernel
theorem d_M_keep_68 : decode c_M_keep 68 = .ok (.iload_n 2, 1) := by decide +kernel
theorem d_M_keep_69 : decode c_M_keep 69 = .ok (.iaload, 1) := by decide +kernel
theorem d_M_keep_70 : decode c_M_keep 70 = .ok (.iastore, 1) := by decide +kernel
theorem d_M_keep_71 : decode c_M_keep 71 = .ok (.iinc 2 1, 3) := by decide +kernel
theorem d_M_keep_74 : decode c_M_keep 74 = .ok (.goto (-60), 3) := by decide +kernel
theorem d_M_keep_77 : decode c_M_keep 77 = .ok (.iconst 0, 1) := by decide +kernel
theorem d_M_keep_78 : decode c_M_keep 78 = .ok (.istore_n 2, 1) := by decide +kernel
theorem d_M_keep_79 : decode c_M_keep 79 = .ok (.iload_n 2, 1) := by decide +kernel
theorem d_M_keep_80 : decode c_M_keep 80 = .ok (.bipush 25, 2) := by decide +kernel
theorem d_M_keep_82 : decode c_M_keep 82 = .ok (.if_icmp .ge 26, 3) := by decide +kernel
theorem d_M_keep_85 : decode c_M_keep 85 = .ok (.aload_n 0, 1) := by decide +kernel
theorem d_M_keep_86 : decode c_M_keep 86 = .ok (.getfield 43, 3) := by decide +kernel
theorem d_M_keep_89 : decode c_M_keep 89 = .ok (.bipush 25, 2) := by decide +kernel
theorem d_M_keep_91 : decode c_M_keep 91 = .ok (.iload_n 1, 1) := by decide +kernel
theorem d_M_keep_92 : decode c_M_keep 92 = .ok (.imul, 1) := by decide +kernel
theorem d_M_keep_93 : decode c_M_keep 93 = .ok (.iload_n 2, 1) := by decide +kernel
theorem d_M_keep_94 : decode c_M_keep 94 = .ok (.iadd, 1) := by decide +kernel
theorem d_M_keep_95 : decode c_M_keep 95 = .ok (.aload_n 0, 1) := by decide +kernel
theorem d_M_keep_96 : decode c_M_keep 96 = .ok (.getfield 43, 3) := by decide +kernel
theorem d_M_keep_99 : decode c_M_keep 99 = .ok (.iload_n 2, 1) := by decide +kernel
theorem d_M_keep_100 : decode c_M_keep 100 = .ok (.iaload, 1) := by decide +kernel
theorem d_M_keep_101 : decode c_M_keep 101 = .ok (.iastore, 1) := by decide +kernel
theorem d_M_keep_102 : decode c_M_keep 102 = .ok (.iinc 2 1, 3) := by decide +kernel
theorem d_M_keep_105 : decode c_M_keep 105 = .ok (.goto (-26), 3) := by decide +kernel
theorem d_M_keep_108 : decode c_M_keep 108 = .ok (.return_, 1) := by decide +kernel
theorem d_M_build_0 : decode c_M_build 0 = .ok (.aload_n 0, 1) := by decide +kernel
theorem d_M_build_1 : decode c_M_build 1 = .ok (.iconst 0, 1) := by decide +kernel
theorem d_M_build_2 : decode c_M_build 2 = .ok (.putfield 52, 3) := by decide +kernel
theorem d_M_build_5 : decode c_M_build 5 = .ok (.aload_n 0, 1) := by decide +kernel
theorem d_M_build_6 : decode c_M_build 6 = .ok (.iconst 0, 1) := by decide +kernel
theorem d_M_build_7 : decode c_M_build 7 = .ok (.putfield 69, 3) := by decide +kernel
theorem d_M_build_10 : decode c_M_build 10 = .ok (.iconst 1, 1) := by decide +kernel
theorem d_M_build_11 : decode c_M_build 11 = .ok (.istore_n 1, 1) := by decide +kernel
theorem d_M_build_12 : decode c_M_build 12 = .ok (.iload_n 1, 1) := by decide +kernel
theorem d_M_build_13 : decode c_M_build 13 = .ok (.iconst 4, 1) := by decide +kernel
theorem d_M_build_14 : decode c_M_build 14 = .ok (.if_icmp .gt 22, 3) := by decide +kernel
theorem d_M_build_17 : decode c_M_build 17 = .ok (.aload_n 0, 1) := by decide +kernel
theorem d_M_build_18 : decode c_M_build 18 = .ok (.iload_n 1, 1) := by decide +kernel
theorem d_M_build_19 : decode c_M_build 19 = .ok (.invokevirtual 101, 3) := by decide +kernel
theorem d_M_build_22 : decode c_M_build 22 = .ok (.bipush 12, 2) := by decide +kernel
theorem d_M_build_24 : decode c_M_build 24 = .ok (.if_icmp .le 6, 3) := by decide +kernel
theorem d_M_build_27 : decode c_M_build 27 = .ok (.bipush (-4), 2) := by decide +kernel
theorem d_M_build_29 : decode c_M_build 29 = .ok (.ireturn, 1) := by decide +kernel
theorem d_M_build_30 : decode c_M_build 30 = .ok (.iinc 1 1, 3) := by decide +kernel
theorem d_M_build_33 : decode c_M_build 33 = .ok (.goto (-21), 3) := by decide +kernel
theorem d_M_build_36 : decode c_M_build 36 = .ok (.aload_n 0, 1) := by decide +kernel
theorem d_M_build_37 : decode c_M_build 37 = .ok (.getfield 34, 3) := by decide +kernel
theorem d_M_build_40 : decode c_M_build 40 = .ok (.iconst 0, 1) := by decide +kernel
theorem d_M_build_41 : decode c_M_build 41 = .ok (.iconst 0, 1) := by decide +kernel
theorem d_M_build_42 : decode c_M_build 42 = .ok (.iastore, 1) := by decide +kernel
theorem d_M_build_43 : decode c_M_build 43 = .ok (.iconst 1, 1) := by decide +kernel
theorem d_M_build_44 : decode c_M_build 44 = .ok (.istore_n 1, 1) := by decide +kernel
theorem d_M_build_45 : decode c_M_build 45 = .ok (.iload_n 1, 1) := by decide +kernel
theorem d_M_build_46 : decode c_M_build 46 = .ok (.iconst 4, 1) := by decide +kernel
theorem d_M_build_47 : decode c_M_build 47 = .ok (.if_icmp .gt 14, 3) := by decide +kernel
theorem d_M_build_50 : decode c_M_build 50 = .ok (.aload_n 0, 1) := by decide +kernel
theorem d_M_build_51 : decode c_M_build 51 = .ok (.iload_n 1, 1) := by decide +kernel
theorem d_M_build_52 : decode c_M_build 52 = .ok (.invokevirtual 104, 3) := by decide +kernel
theorem d_M_build_55 : decode c_M_build 55 = .ok (.iinc 1 1, 3) := by decide +kernel
theorem d_M_build_58 : decode c_M_build 58 = .ok (.goto (-13), 3) := by decide +kernel
theorem d_M_build_61 : decode c_M_build 61 = .ok (.aload_n 0, 1) := by decide +kernel
theorem d_M_build_62 : decode c_M_build 62 = .ok (.iconst 1, 1) := by decide +kernel
theorem d_M_build_63 : decode c_M_build 63 = .ok (.putfield 69, 3) := by decide +kernel
theorem d_M_build_66 : decode c_M_build 66 = .ok (.aload_n 0, 1) := by decide +kernel
theorem d_M_build_67 : decode c_M_build 67 = .ok (.dup, 1) := by decide +kernel
theorem d_M_build_68 : decode c_M_build 68 = .ok (.getfield 107, 3) := by decide +kernel
theorem d_M_build_71 : decode c_M_build 71 = .ok (.iconst 1, 1) := by decide +kernel
theorem d_M_build_72 : decode c_M_build 72 = .ok (.iadd, 1) := by decide +kernel
theorem d_M_build_73 : decode c_M_build 73 = .ok (.putfield 107, 3) := by decide +kernel
theorem d_M_build_76 : decode c_M_build 76 = .ok (.aload_n 0, 1) := by decide +kernel
theorem d_M_build_77 : decode c_M_build 77 = .ok (.getfield 107, 3) := by decide +kernel
theorem d_M_build_80 : decode c_M_build 80 = .ok (.bipush 40, 2) := by decide +kernel
theorem d_M_build_82 : decode c_M_build 82 = .ok (.if_icmp .gt 11, 3) := by decide +kernel
theorem d_M_build_85 : decode c_M_build 85 = .ok (.aload_n 0, 1) := by decide +kernel
theorem d_M_build_86 : decode c_M_build 86 = .ok (.aload_n 0, 1) := by decide +kernel
theorem d_M_build_87 : decode c_M_build 87 = .ok (.getfield 107, 3) := by decide +kernel
theorem d_M_build_90 : decode c_M_build 90 = .ok (.invokevirtual 110, 3) := by decide +kernel
theorem d_M_build_93 : decode c_M_build 93 = .ok (.aload_n 0, 1) := by decide +kernel
theorem d_M_build_94 : decode c_M_build 94 = .ok (.getfield 34, 3) := by decide +kernel
theorem d_M_build_97 : decode c_M_build 97 = .ok (.iconst 0, 1) := by decide +kernel
theorem d_M_build_98 : decode c_M_build 98 = .ok (.iaload, 1) := by decide +kernel
theorem d_M_build_99 : decode c_M_build 99 = .ok (.ireturn, 1) := by decide +kernel
theorem d_M_from_0 : decode c_M_from 0 = .ok (.iload_n 2, 1) := by decide +kernel
theorem d_M_from_1 : decode c_M_from 1 = .ok (.ifCond .ne 7, 3) := by decide +kernel
theorem d_M_from_4 : decode c_M_from 4 = .ok (.iconst 0, 1) := by decide +kernel
theorem d_M_from_5 : decode c_M_from 5 = .ok (.goto 14, 3) := by decide +kernel
theorem d_M_from_8 : decode c_M_from 8 = .ok (.aload_n 0, 1) := by decide +kernel
theorem d_M_from_9 : decode c_M_from 9 = .ok (.getfield 43, 3) := by decide +kernel
theorem d_M_from_12 : decode c_M_from 12 = .ok (.bipush 25, 2) := by decide +kernel
theorem d_M_from_14 : decode c_M_from 14 = .ok (.iload_n 1, 1) := by decide +kernel
theorem d_M_from_15 : decode c_M_from 15 = .ok (.imul, 1) := by decide +kernel
theorem d_M_from_16 : decode c_M_from 16 = .ok (.iload_n 2, 1) := by decide +kernel
theorem d_M_from_17 : decode c_M_from 17 = .ok (.iadd, 1) := by decide +kernel
theorem d_M_from_18 : decode c_M_from 18 = .ok (.iaload, 1) := by decide +kernel
theorem d_M_from_19 : decode c_M_from 19 = .ok (.ireturn, 1) := by decide +kernel
theorem d_M_isTask_0 : decode c_M_isTask 0 = .ok (.iload_n 1, 1) := by decide +kernel
theorem d_M_isTask_1 : decode c_M_isTask 1 = .ok (.i2l, 1) := by decide +kernel
theorem d_M_isTask_2 : decode c_M_isTask 2 = .ok (.lconst 1, 1) := by decide +kernel
theorem d_M_isTask_3 : decode c_M_isTask 3 = .ok (.aload_n 0, 1) := by decide +kernel
theorem d_M_isTask_4 : decode c_M_isTask 4 = .ok (.getfield 34, 3) := by decide +kernel
theorem d_M_isTask_7 : decode c_M_isTask 7 = .ok (.iconst 0, 1) := by decide +kernel
theorem d_M_isTask_8 : decode c_M_isTask 8 = .ok (.iaload, 1) := by decide +kernel
theorem d_M_isTask_9 : decode c_M_isTask 9 = .ok (.i2l, 1) := by decide +kernel
theorem d_M_isTask_10 : decode c_M_isTask 10 = .ok (.invokestatic 59, 3) := by decide +kernel
theorem d_M_isTask_13 : decode c_M_isTask 13 = .ok (.ireturn, 1) := by decide +kernel
theorem d_M_task_0 : decode c_M_task 0 = .ok (.aload_n 0, 1) := by decide +kernel
theorem d_M_task_1 : decode c_M_task 1 = .ok (.iconst 0, 1) := by decide +kernel
theorem d_M_task_2 : decode c_M_task 2 = .ok (.putfield 52, 3) := by decide +kernel
theorem d_M_task_5 : decode c_M_task 5 = .ok (.aload_n 0, 1) := by decide +kernel
theorem d_M_task_6 : decode c_M_task 6 = .ok (.iload_n 1, 1) := by decide +kernel
theorem d_M_task_7 : decode c_M_task 7 = .ok (.invokevirtual 76, 3) := by decide +kernel
theorem d_M_task_10 : decode c_M_task 10 = .ok (.ifCond .ne 7, 3) := by decide +kernel
theorem d_M_task_13 : decode c_M_task 13 = .ok (.iconst (-1), 1) := by decide +kernel
theorem d_M_task_14 : decode c_M_task 14 = .ok (.goto 21, 3) := by decide +kernel
theorem d_M_task_17 : decode c_M_task 17 = .ok (.aload_n 0, 1) := by decide +kernel
theorem d_M_task_18 : decode c_M_task 18 = .ok (.getfield 69, 3) := by decide +kernel
theorem d_M_task_21 : decode c_M_task 21 = .ok (.ifCond .ne 8, 3) := by decide +kernel
theorem d_M_task_24 : decode c_M_task 24 = .ok (.bipush (-3), 2) := by decide +kernel
theorem d_M_task_26 : decode c_M_task 26 = .ok (.goto 9, 3) := by decide +kernel
theorem d_M_task_29 : decode c_M_task 29 = .ok (.aload_n 0, 1) := by decide +kernel
theorem d_M_task_30 : decode c_M_task 30 = .ok (.getfield 49, 3) := by decide +kernel
theorem d_M_task_33 : decode c_M_task 33 = .ok (.iload_n 1, 1) := by decide +kernel
theorem d_M_task_34 : decode c_M_task 34 = .ok (.iaload, 1) := by decide +kernel
theorem d_M_task_35 : decode c_M_task 35 = .ok (.ireturn, 1) := by decide +kernel
theorem d_M_order_0 : decode c_M_order 0 = .ok (.aload_n 0, 1) := by decide +kernel
theorem d_M_order_1 : decode c_M_order 1 = .ok (.iconst 0, 1) := by decide +kernel
theorem d_M_order_2 : decode c_M_order 2 = .ok (.putfield 52, 3) := by decide +kernel
theorem d_M_order_5 : decode c_M_order 5 = .ok (.aload_n 0, 1) := by decide +kernel
theorem d_M_order_6 : decode c_M_order 6 = .ok (.getfield 69, 3) := by decide +kernel
theorem d_M_order_9 : decode c_M_order 9 = .ok (.ifCond .ne 6, 3) := by decide +kernel
theorem d_M_order_12 : decode c_M_order 12 = .ok (.bipush (-3), 2) := by decide +kernel
theorem d_M_order_14 : decode c_M_order 14 = .ok (.ireturn, 1) := by decide +kernel
theorem d_M_order_15 : decode c_M_order 15 = .ok (.aload_n 0, 1) := by decide +kernel
theorem d_M_order_16 : decode c_M_order 16 = .ok (.iload_n 1, 1) := by decide +kernel
theorem d_M_order_17 : decode c_M_order 17 = .ok (.invokevirtual 113, 3) := by decide +kernel
theorem d_M_order_20 : decode c_M_order 20 = .ok (.ifCond .ne 5, 3) := by decide +kernel
theorem d_M_order_23 : decode c_M_order 23 = .ok (.iconst (-1), 1) := by decide +kernel
theorem d_M_order_24 : decode c_M_order 24 = .ok (.ireturn, 1) := by decide +kernel
theorem d_M_order_25 : decode c_M_order 25 = .ok (.aload_n 0, 1) := by decide +kernel
theorem d_M_order_26 : decode c_M_order 26 = .ok (.getfield 43, 3) := by decide +kernel
theorem d_M_order_29 : decode c_M_order 29 = .ok (.iload_n 1, 1) := by decide +kernel
theorem d_M_order_30 : decode c_M_order 30 = .ok (.iaload, 1) := by decide +kernel
theorem d_M_order_31 : decode c_M_order 31 = .ok (.aload_n 0, 1) := by decide +kernel
theorem d_M_order_32 : decode c_M_order 32 = .ok (.iconst 0, 1) := by decide +kernel
theorem d_M_order_33 : decode c_M_order 33 = .ok (.iload_n 1, 1) := by decide +kernel
theorem d_M_order_34 : decode c_M_order 34 = .ok (.iconst 1, 1) := by decide +kernel
theorem d_M_order_35 : decode c_M_order 35 = .ok (.isub, 1) := by decide +kernel
theorem d_M_order_36 : decode c_M_order 36 = .ok (.invokevirtual 116, 3) := by decide +kernel
theorem d_M_order_39 : decode c_M_order 39 = .ok (.isub, 1) := by decide +kernel
theorem d_M_order_40 : decode c_M_order 40 = .ok (.istore_n 3, 1) := by decide +kernel
theorem d_M_order_41 : decode c_M_order 41 = .ok (.iload_n 2, 1) := by decide +kernel
theorem d_M_order_42 : decode c_M_order 42 = .ok (.ifCond .lt 26, 3) := by decide +kernel
theorem d_M_order_45 : decode c_M_order 45 = .ok (.iload_n 2, 1) := by decide +kernel
theorem d_M_order_46 : decode c_M_order 46 = .ok (.iload_n 3, 1) := by decide +kernel
theorem d_M_order_47 : decode c_M_order 47 = .ok (.if_icmp .ge 21, 3) := by decide +kernel
theorem d_M_order_50 : decode c_M_order 50 = .ok (.aload_n 0, 1) := by decide +kernel
theorem d_M_order_51 : decode c_M_order 51 = .ok (.getfield 46, 3) := by decide +kernel
theorem d_M_order_54 : decode c_M_order 54 = .ok (.aload_n 0, 1) := by decide +kernel
theorem d_M_order_55 : decode c_M_order 55 = .ok (.iconst 0, 1) := by decide +kernel
theorem d_M_order_56 : decode c_M_order 56 = .ok (.iload_n 1, 1) := by decide +kernel
theorem d_M_order_57 : decode c_M_order 57 = .ok (.iconst 1, 1) := by decide +kernel
theorem d_M_order_58 : decode c_M_order 58 = .ok (.isub, 1) := by decide +kernel
theorem d_M_order_59 : decode c_M_order 59 = .ok (.invokevirtual 116, 3) := by decide +kernel
theorem d_M_order_62 : decode c_M_order 62 = .ok (.iload_n 2, 1) := by decide +kernel
theorem d_M_order_63 : decode c_M_order 63 = .ok (.iadd, 1) := by decide +kernel
theorem d_M_order_64 : decode c_M_order 64 = .ok (.iaload, 1) := by decide +kernel
theorem d_M_order_65 : decode c_M_order 65 = .ok (.goto 4, 3) := by decide +kernel
theorem d_M_order_68 : decode c_M_order 68 = .ok (.iconst 0, 1) := by decide +kernel
theorem d_M_order_69 : decode c_M_order 69 = .ok (.ireturn, 1) := by decide +kernel
theorem d_M_rankOf_0 : decode c_M_rankOf 0 = .ok (.iconst 0, 1) := by decide +kernel
theorem d_M_rankOf_1 : decode c_M_rankOf 1 = .ok (.istore_n 2, 1) := by decide +kernel
theorem d_M_rankOf_2 : decode c_M_rankOf 2 = .ok (.iload_n 1, 1) := by decide +kernel
theorem d_M_rankOf_3 : decode c_M_rankOf 3 = .ok (.istore_n 3, 1) := by decide +kernel
theorem d_M_rankOf_4 : decode c_M_rankOf 4 = .ok (.iload_n 3, 1) := by decide +kernel
theorem d_M_rankOf_5 : decode c_M_rankOf 5 = .ok (.aload_n 0, 1) := by decide +kernel
theorem d_M_rankOf_6 : decode c_M_rankOf 6 = .ok (.getfield 34, 3) := by decide +kernel
theorem d_M_rankOf_9 : decode c_M_rankOf 9 = .ok (.iconst 0, 1) := by decide +kernel
theorem d_M_rankOf_10 : decode c_M_rankOf 10 = .ok (.iaload, 1) := by decide +kernel
theorem d_M_rankOf_11 : decode c_M_rankOf 11 = .ok (.if_icmp .gt 36, 3) := by decide +kernel
theorem d_M_rankOf_14 : decode c_M_rankOf 14 = .ok (.iload_n 2, 1) := by decide +kernel
theorem d_M_rankOf_15 : decode c_M_rankOf 15 = .ok (.aload_n 0, 1) := by decide +kernel
theorem d_M_rankOf_16 : decode c_M_rankOf 16 = .ok (.getfield 37, 3) := by decide +kernel
theorem d_M_rankOf_19 : decode c_M_rankOf 19 = .ok (.iload_n 3, 1) := by decide +kernel
theorem d_M_rankOf_20 : decode c_M_rankOf 20 = .ok (.iconst 1, 1) := by decide +kernel
theorem d_M_rankOf_21 : decode c_M_rankOf 21 = .ok (.isub, 1) := by decide +kernel
theorem d_M_rankOf_22 : decode c_M_rankOf 22 = .ok (.iaload, 1) := by decide +kernel
theorem d_M_rankOf_23 : decode c_M_rankOf 23 = .ok (.aload_n 0, 1) := by decide +kernel
theorem d_M_rankOf_24 : decode c_M_rankOf 24 = .ok (.getfield 37, 3) := by decide +kernel
theorem d_M_rankOf_27 : decode c_M_rankOf 27 = .ok (.iload_n 1, 1) := by decide +kernel
theorem d_M_rankOf_28 : decode c_M_rankOf 28 = .ok (.iconst 1, 1) := by decide +kernel
theorem d_M_rankOf_29 : decode c_M_rankOf 29 = .ok (.isub, 1) := by decide +kernel
theorem d_M_rankOf_30 : decode c_M_rankOf 30 = .ok (.iaload, 1) := by decide +kernel
theorem d_M_rankOf_31 : decode c_M_rankOf 31 = .ok (.if_icmp .ne 7, 3) := by decide +kernel
theorem d_M_rankOf_34 : decode c_M_rankOf 34 = .ok (.iconst 1, 1) := by decide +kernel
theorem d_M_rankOf_35 : decode c_M_rankOf 35 = .ok (.goto 4, 3) := by decide +kernel
theorem d_M_rankOf_38 : decode c_M_rankOf 38 = .ok (.iconst 0, 1) := by decide +kernel
theorem d_M_rankOf_39 : decode c_M_rankOf 39 = .ok (.iadd, 1) := by decide +kernel
theorem d_M_rankOf_40 : decode c_M_rankOf 40 = .ok (.istore_n 2, 1) := by decide +kernel
theorem d_M_rankOf_41 : decode c_M_rankOf 41 = .ok (.iinc 3 1, 3) := by decide +kernel
theorem d_M_rankOf_44 : decode c_M_rankOf 44 = .ok (.goto (-40), 3) := by decide +kernel
theorem d_M_rankOf_47 : decode c_M_rankOf 47 = .ok (.iload_n 2, 1) := by decide +kernel
theorem d_M_rankOf_48 : decode c_M_rankOf 48 = .ok (.ireturn, 1) := by decide +kernel
theorem d_M_rank_0 : decode c_M_rank 0 = .ok (.aload_n 0, 1) := by decide +kernel
theorem d_M_rank_1 : decode c_M_rank 1 = .ok (.iconst 0, 1) := by decide +kernel
theorem d_M_rank_2 : decode c_M_rank 2 = .ok (.putfield 52, 3) := by decide +kernel
theorem d_M_rank_5 : decode c_M_rank 5 = .ok (.aload_n 0, 1) := by decide +kernel
theorem d_M_rank_6 : decode c_M_rank 6 = .ok (.getfield 69, 3) := by decide +kernel
theorem d_M_rank_9 : decode c_M_rank 9 = .ok (.ifCond .ne 8, 3) := by decide +kernel
theorem d_M_rank_12 : decode c_M_rank 12 = .ok (.bipush (-3), 2) := by decide +kernel
theorem d_M_rank_14 : decode c_M_rank 14 = .ok (.goto 20, 3) := by decide +kernel
theorem d_M_rank_17 : decode c_M_rank 17 = .ok (.aload_n 0, 1) := by decide +kernel
theorem d_M_rank_18 : decode c_M_rank 18 = .ok (.iload_n 1, 1) := by decide +kernel
theorem d_M_rank_19 : decode c_M_rank 19 = .ok (.invokevirtual 113, 3) := by decide +kernel
theorem d_M_rank_22 : decode c_M_rank 22 = .ok (.ifCond .ne 7, 3) := by decide +kernel
theorem d_M_rank_25 : decode c_M_rank 25 = .ok (.iconst (-1), 1) := by decide +kernel
theorem d_M_rank_26 : decode c_M_rank 26 = .ok (.goto 8, 3) := by decide +kernel
theorem d_M_rank_29 : decode c_M_rank 29 = .ok (.aload_n 0, 1) := by decide +kernel
theorem d_M_rank_30 : decode c_M_rank 30 = .ok (.iload_n 1, 1) := by decide +kernel
theorem d_M_rank_31 : decode c_M_rank 31 = .ok (.invokevirtual 119, 3) := by decide +kernel
theorem d_M_rank_34 : decode c_M_rank 34 = .ok (.ireturn, 1) := by decide +kernel
theorem d_M_isCopied_0 : decode c_M_isCopied 0 = .ok (.iconst 0, 1) := by decide +kernel
theorem d_M_isCopied_1 : decode c_M_isCopied 1 = .ok (.istore_n 2, 1) := by decide +kernel
theorem d_M_isCopied_2 : decode c_M_isCopied 2 = .ok (.iconst 1, 1) := by decide +kernel
theorem d_M_isCopied_3 : decode c_M_isCopied 3 = .ok (.istore_n 3, 1) := by decide +kernel
theorem d_M_isCopied_4 : decode c_M_isCopied 4 = .ok (.iload_n 3, 1) := by decide +kernel
theorem d_M_isCopied_5 : decode c_M_isCopied 5 = .ok (.aload_n 0, 1) := by decide +kernel
theorem d_M_isCopied_6 : decode c_M_isCopied 6 = .ok (.getfield 56, 3) := by decide +kernel
theorem d_M_isCopied_9 : decode c_M_isCopied 9 = .ok (.if_icmp .gt 118, 3) := by decide +kernel
theorem d_M_isCopied_12 : decode c_M_isCopied 12 = .ok (.iconst 1, 1) := by decide +kernel
theorem d_M_isCopied_13 : decode c_M_isCopied 13 = .ok (.istore 4, 2) := by decide +kernel
theorem d_M_isCopied_15 : decode c_M_isCopied 15 = .ok (.iload 4, 2) := by decide +kernel
theorem d_M_isCopied_17 : decode c_M_isCopied 17 = .ok (.aload_n 0, 1) := by decide +kernel
theorem d_M_isCopied_18 : decode c_M_isCopied 18 = .ok (.getfield 56, 3) := by decide +kernel
theorem d_M_isCopied_21 : decode c_M_isCopied 21 = .ok (.if_icmp .gt 100, 3) := by decide +kernel
theorem d_M_isCopied_24 : decode c_M_isCopied 24 = .ok (.aload_n 0, 1) := by decide +kernel
theorem d_M_isCopied_25 : decode c_M_isCopied 25 = .ok (.getfield 22, 3) := by decide +kernel
theorem d_M_isCopied_28 : decode c_M_isCopied 28 = .ok (.iload_n 1, 1) := by decide +kernel
theorem d_M_isCopied_29 : decode c_M_isCopied 29 = .ok (.iaload, 1) := by decide +kernel
theorem d_M_isCopied_30 : decode c_M_isCopied 30 = .ok (.iload_n 3, 1) := by decide +kernel
theorem d_M_isCopied_31 : decode c_M_isCopied 31 = .ok (.ishr, 1) := by decide +kernel
theorem d_M_isCopied_32 : decode c_M_isCopied 32 = .ok (.iconst 1, 1) := by decide +kernel
theorem d_M_isCopied_33 : decode c_M_isCopied 33 = .ok (.iand, 1) := by decide +kernel
theorem d_M_isCopied_34 : decode c_M_isCopied 34 = .ok (.iconst 1, 1) := by decide +kernel
theorem d_M_isCopied_35 : decode c_M_isCopied 35 = .ok (.if_icmp .ne 38, 3) := by decide +kernel
theorem d_M_isCopied_38 : decode c_M_isCopied 38 = .ok (.aload_n 0, 1) := by decide +kernel
theorem d_M_isCopied_39 : decode c_M_isCopied 39 = .ok (.getfield 25, 3) := by decide +kernel
theorem d_M_isCopied_42 : decode c_M_isCopied 42 = .ok (.iload_n 1, 1) := by decide +kernel
theorem d_M_isCopied_43 : decode c_M_isCopied 43 = .ok (.iaload, 1) := by decide +kernel
theorem d_M_isCopied_44 : decode c_M_isCopied 44 = .ok (.iload 4, 2) := by decide +kernel
theorem d_M_isCopied_46 : decode c_M_isCopied 46 = .ok (.ishr, 1) := by decide +kernel
theorem d_M_isCopied_47 : decode c_M_isCopied 47 = .ok (.iconst 1, 1) := by decide +kernel
theorem d_M_isCopied_48 : decode c_M_isCopied 48 = .ok (.iand, 1) := by decide +kernel
theorem d_M_isCopied_49 : decode c_M_isCopied 49 = .ok (.iconst 1, 1) := by decide +kernel
theorem d_M_isCopied_50 : decode c_M_isCopied 50 = .ok (.if_icmp .ne 23, 3) := by decide +kernel
theorem d_M_isCopied_53 : decode c_M_isCopied 53 = .ok (.aload_n 0, 1) := by decide +kernel
theorem d_M_isCopied_54 : decode c_M_isCopied 54 = .ok (.getfield 13, 3) := by decide +kernel
theorem d_M_isCopied_57 : decode c_M_isCopied 57 = .ok (.iload_n 3, 1) := by decide +kernel
theorem d_M_isCopied_58 : decode c_M_isCopied 58 = .ok (.iaload, 1) := by decide +kernel
theorem d_M_isCopied_59 : decode c_M_isCopied 59 = .ok (.aload_n 0, 1) := by decide +kernel
theorem d_M_isCopied_60 : decode c_M_isCopied 60 = .ok (.getfield 13, 3) := by decide +kernel
theorem d_M_isCopied_63 : decode c_M_isCopied 63 = .ok (.iload 4, 2) := by decide +kernel
theorem d_M_isCopied_65 : decode c_M_isCopied 65 = .ok (.iaload, 1) := by decide +kernel
theorem d_M_isCopied_66 : decode c_M_isCopied 66 = .ok (.if_icmp .ne 7, 3) := by decide +kernel
theorem d_M_isCopied_69 : decode c_M_isCopied 69 = .ok (.iconst 1, 1) := by decide +kernel
theorem d_M_isCopied_70 : decode c_M_isCopied 70 = .ok (.goto 4, 3) := by decide +kernel
theorem d_M_isCopied_73 : decode c_M_isCopied 73 = .ok (.iconst 0, 1) := by decide +kernel
theorem d_M_isCopied_74 : decode c_M_isCopied 74 = .ok (.istore 5, 2) := by decide +kernel
theorem d_M_isCopied_76 : decode c_M_isCopied 76 = .ok (.iload_n 2, 1) := by decide +kernel
theorem d_M_isCopied_77 : decode c_M_isCopied 77 = .ok (.ifCond .ne 32, 3) := by decide +kernel
theorem d_M_isCopied_80 : decode c_M_isCopied 80 = .ok (.iload 5, 2) := by decide +kernel
theorem d_M_isCopied_82 : decode c_M_isCopied 82 = .ok (.ifCond .eq 31, 3) := by decide +kernel
theorem d_M_isCopied_85 : decode c_M_isCopied 85 = .ok (.aload_n 0, 1) := by decide +kernel
theorem d_M_isCopied_86 : decode c_M_isCopied 86 = .ok (.aload_n 0, 1) := by decide +kernel
theorem d_M_isCopied_87 : decode c_M_isCopied 87 = .ok (.getfield 49, 3) := by decide +kernel
theorem d_M_isCopied_90 : decode c_M_isCopied 90 = .ok (.iload 4, 2) := by decide +kernel
theorem d_M_isCopied_92 : decode c_M_isCopied 92 = .ok (.iaload, 1) := by decide +kernel
theorem d_M_isCopied_93 : decode c_M_isCopied 93 = .ok (.invokevirtual 119, 3) := by decide +kernel
theorem d_M_isCopied_96 : decode c_M_isCopied 96 = .ok (.aload_n 0, 1) := by decide +kernel
theorem d_M_isCopied_97 : decode c_M_isCopied 97 = .ok (.aload_n 0, 1) := by decide +kernel
theorem d_M_isCopied_98 : decode c_M_isCopied 98 = .ok (.getfield 49, 3) := by decide +kernel
theorem d_M_isCopied_101 : decode c_M_isCopied 101 = .ok (.iload_n 3, 1) := by decide +kernel
theorem d_M_isCopied_102 : decode c_M_isCopied 102 = .ok (.iaload, 1) := by decide +kernel
theorem d_M_isCopied_103 : decode c_M_isCopied 103 = .ok (.invokevirtual 119, 3) := by decide +kernel
theorem d_M_isCopied_106 : decode c_M_isCopied 106 = .ok (.if_icmp .le 7, 3) := by decide +kernel
theorem d_M_isCopied_109 : decode c_M_isCopied 109 = .ok (.iconst 1, 1) := by decide +kernel
theorem d_M_isCopied_110 : decode c_M_isCopied 110 = .ok (.goto 4, 3) := by decide +kernel
theorem d_M_isCopied_113 : decode c_M_isCopied 113 = .ok (.iconst 0, 1) := by decide +kernel
theorem d_M_isCopied_114 : decode c_M_isCopied 114 = .ok (.istore_n 2, 1) := by decide +kernel
theorem d_M_isCopied_115 : decode c_M_isCopied 115 = .ok (.iinc 4 1, 3) := by decide +kernel
theorem d_M_isCopied_118 : decode c_M_isCopied 118 = .ok (.goto (-103), 3) := by decide +kernel
theorem d_M_isCopied_121 : decode c_M_isCopied 121 = .ok (.iinc 3 1, 3) := by decide +kernel
theorem d_M_isCopied_124 : decode c_M_isCopied 124 = .ok (.goto (-120), 3) := by decide +kernel
theorem d_M_isCopied_127 : decode c_M_isCopied 127 = .ok (.iload_n 2, 1) := by decide +kernel
theorem d_M_isCopied_128 : decode c_M_isCopied 128 = .ok (.ireturn, 1) := by decide +kernel
theorem d_M_buffer_0 : decode c_M_buffer 0 = .ok (.aload_n 0, 1) := by decide +kernel
theorem d_M_buffer_1 : decode c_M_buffer 1 = .ok (.iconst 0, 1) := by decide +kernel
theorem d_M_buffer_2 : decode c_M_buffer 2 = .ok (.putfield 52, 3) := by decide +kernel
theorem d_M_buffer_5 : decode c_M_buffer 5 = .ok (.iload_n 1, 1) := by decide +kernel
theorem d_M_buffer_6 : decode c_M_buffer 6 = .ok (.i2l, 1) := by decide +kernel
theorem d_M_buffer_7 : decode c_M_buffer 7 = .ok (.lconst 1, 1) := by decide +kernel
theorem d_M_buffer_8 : decode c_M_buffer 8 = .ok (.ldc2_w 87, 3) := by decide +kernel
theorem d_M_buffer_11 : decode c_M_buffer 11 = .ok (.invokestatic 59, 3) := by decide +kernel
theorem d_M_buffer_14 : decode c_M_buffer 14 = .ok (.ifCond .ne 6, 3) := by decide +kernel
theorem d_M_buffer_17 : decode c_M_buffer 17 = .ok (.bipush (-2), 2) := by decide +kernel
theorem d_M_buffer_19 : decode c_M_buffer 19 = .ok (.ireturn, 1) := by decide +kernel
theorem d_M_buffer_20 : decode c_M_buffer 20 = .ok (.aload_n 0, 1) := by decide +kernel
theorem d_M_buffer_21 : decode c_M_buffer 21 = .ok (.getfield 69, 3) := by decide +kernel
theorem d_M_buffer_24 : decode c_M_buffer 24 = .ok (.ifCond .ne 8, 3) := by decide +kernel
theorem d_M_buffer_27 : decode c_M_buffer 27 = .ok (.bipush (-3), 2) := by decide +kernel
theorem d_M_buffer_29 : decode c_M_buffer 29 = .ok (.goto 16, 3) := by decide +kernel
theorem d_M_buffer_32 : decode c_M_buffer 32 = .ok (.aload_n 0, 1) := by decide +kernel
theorem d_M_buffer_33 : decode c_M_buffer 33 = .ok (.iload_n 1, 1) := by decide +kernel
theorem d_M_buffer_34 : decode c_M_buffer 34 = .ok (.invokevirtual 122, 3) := by decide +kernel
theorem d_M_buffer_37 : decode c_M_buffer 37 = .ok (.ifCond .eq 7, 3) := by decide +kernel
theorem d_M_buffer_40 : decode c_M_buffer 40 = .ok (.iconst 1, 1) := by decide +kernel
theorem d_M_buffer_41 : decode c_M_buffer 41 = .ok (.goto 4, 3) := by decide +kernel
theorem d_M_buffer_44 : decode c_M_buffer 44 = .ok (.iconst 0, 1) := by decide +kernel
theorem d_M_buffer_45 : decode c_M_buffer 45 = .ok (.ireturn, 1) := by decide +kernel
theorem d_M_table_0 : decode c_M_table 0 = .ok (.aload_n 0, 1) := by decide +kernel
theorem d_M_table_1 : decode c_M_table 1 = .ok (.iconst 0, 1) := by decide +kernel
theorem d_M_table_2 : decode c_M_table 2 = .ok (.putfield 52, 3) := by decide +kernel
theorem d_M_table_5 : decode c_M_table 5 = .ok (.iload_n 1, 1) := by decide +kernel
theorem d_M_table_6 : decode c_M_table 6 = .ok (.ifCond .ge 6, 3) := by decide +kernel
theorem d_M_table_9 : decode c_M_table 9 = .ok (.bipush (-2), 2) := by decide +kernel
theorem d_M_table_11 : decode c_M_table 11 = .ok (.ireturn, 1) := by decide +kernel
theorem d_M_table_12 : decode c_M_table 12 = .ok (.aload_n 0, 1) := by decide +kernel
theorem d_M_table_13 : decode c_M_table 13 = .ok (.getfield 69, 3) := by decide +kernel
theorem d_M_table_16 : decode c_M_table 16 = .ok (.ifCond .ne 6, 3) := by decide +kernel
theorem d_M_table_19 : decode c_M_table 19 = .ok (.bipush (-3), 2) := by decide +kernel
theorem d_M_table_21 : decode c_M_table 21 = .ok (.ireturn, 1) := by decide +kernel
theorem d_M_table_22 : decode c_M_table 22 = .ok (.iconst 0, 1) := by decide +kernel
theorem d_M_table_23 : decode c_M_table 23 = .ok (.istore_n 3, 1) := by decide +kernel
theorem d_M_table_24 : decode c_M_table 24 = .ok (.iconst 1, 1) := by decide +kernel
theorem d_M_table_25 : decode c_M_table 25 = .ok (.istore 4, 2) := by decide +kernel
theorem d_M_table_27 : decode c_M_table 27 = .ok (.iload 4, 2) := by decide +kernel
theorem d_M_table_29 : decode c_M_table 29 = .ok (.aload_n 0, 1) := by decide +kernel
theorem d_M_table_30 : decode c_M_table 30 = .ok (.getfield 34, 3) := by decide +kernel
theorem d_M_table_33 : decode c_M_table 33 = .ok (.iconst 0, 1) := by decide +kernel
theorem d_M_table_34 : decode c_M_table 34 = .ok (.iaload, 1) := by decide +kernel
theorem d_M_table_35 : decode c_M_table 35 = .ok (.if_icmp .gt 46, 3) := by decide +kernel
theorem d_M_table_38 : decode c_M_table 38 = .ok (.aload_n 0, 1) := by decide +kernel
theorem d_M_table_39 : decode c_M_table 39 = .ok (.getfield 40, 3) := by decide +kernel
theorem d_M_table_42 : decode c_M_table 42 = .ok (.iload 4, 2) := by decide +kernel
theorem d_M_table_44 : decode c_M_table 44 = .ok (.iconst 1, 1) := by decide +kernel
theorem d_M_table_45 : decode c_M_table 45 = .ok (.isub, 1) := by decide +kernel
theorem d_M_table_46 : decode c_M_table 46 = .ok (.iaload, 1) := by decide +kernel
theorem d_M_table_47 : decode c_M_table 47 = .ok (.ifCond .le 28, 3) := by decide +kernel
theorem d_M_table_50 : decode c_M_table 50 = .ok (.iload_n 1, 1) := by decide +kernel
theorem d_M_table_51 : decode c_M_table 51 = .ok (.aload_n 0, 1) := by decide +kernel
theorem d_M_table_52 : decode c_M_table 52 = .ok (.getfield 40, 3) := by decide +kernel
theorem d_M_table_55 : decode c_M_table 55 = .ok (.iload 4, 2) := by decide +kernel
theorem d_M_table_57 : decode c_M_table 57 = .ok (.iconst 1, 1) := by decide +kernel
theorem d_M_table_58 : decode c_M_table 58 = .ok (.isub, 1) := by decide +kernel
theorem d_M_table_59 : decode c_M_table 59 = .ok (.iaload, 1) := by decide +kernel
theorem d_M_table_60 : decode c_M_table 60 = .ok (.irem, 1) := by decide +kernel
theorem d_M_table_61 : decode c_M_table 61 = .ok (.ifCond .ne 14, 3) := by decide +kernel
theorem d_M_table_64 : decode c_M_table 64 = .ok (.iload_n 3, 1) := by decide +kernel
theorem d_M_table_65 : decode c_M_table 65 = .ok (.iload_n 2, 1) := by decide +kernel
theorem d_M_table_66 : decode c_M_table 66 = .ok (.if_icmp .ne 6, 3) := by decide +kernel
theorem d_M_table_69 : decode c_M_table 69 = .ok (.iload 4, 2) := by decide +kernel
theorem d_M_table_71 : decode c_M_table 71 = .ok (.ireturn, 1) := by decide +kernel
theorem d_M_table_72 : decode c_M_table 72 = .ok (.iinc 3 1, 3) := by decide +kernel
theorem d_M_table_75 : decode c_M_table 75 = .ok (.iinc 4 1, 3) := by decide +kernel
theorem d_M_table_78 : decode c_M_table 78 = .ok (.goto (-51), 3) := by decide +kernel
theorem d_M_table_81 : decode c_M_table 81 = .ok (.iconst 0, 1) := by decide +kernel
theorem d_M_table_82 : decode c_M_table 82 = .ok (.ireturn, 1) := by decide +kernel
theorem d_M_cross_0 : decode c_M_cross 0 = .ok (.aload_n 0, 1) := by decide +kernel
theorem d_M_cross_1 : decode c_M_cross 1 = .ok (.iconst 0, 1) := by decide +kernel
theorem d_M_cross_2 : decode c_M_cross 2 = .ok (.putfield 52, 3) := by decide +kernel
theorem d_M_cross_5 : decode c_M_cross 5 = .ok (.iload_n 1, 1) := by decide +kernel
theorem d_M_cross_6 : decode c_M_cross 6 = .ok (.i2l, 1) := by decide +kernel
theorem d_M_cross_7 : decode c_M_cross 7 = .ok (.lconst 1, 1) := by decide +kernel
theorem d_M_cross_8 : decode c_M_cross 8 = .ok (.ldc2_w 87, 3) := by decide +kernel
theorem d_M_cross_11 : decode c_M_cross 11 = .ok (.invokestatic 59, 3) := by decide +kernel
theorem d_M_cross_14 : decode c_M_cross 14 = .ok (.ifCond .ne 6, 3) := by decide +kernel
theorem d_M_cross_17 : decode c_M_cross 17 = .ok (.bipush (-2), 2) := by decide +kernel
theorem d_M_cross_19 : decode c_M_cross 19 = .ok (.ireturn, 1) := by decide +kernel
theorem d_M_cross_20 : decode c_M_cross 20 = .ok (.aload_n 0, 1) := by decide +kernel
theorem d_M_cross_21 : decode c_M_cross 21 = .ok (.getfield 69, 3) := by decide +kernel
theorem d_M_cross_24 : decode c_M_cross 24 = .ok (.ifCond .ne 6, 3) := by decide +kernel
theorem d_M_cross_27 : decode c_M_cross 27 = .ok (.bipush (-3), 2) := by decide +kernel
theorem d_M_cross_29 : decode c_M_cross 29 = .ok (.ireturn, 1) := by decide +kernel
theorem d_M_cross_30 : decode c_M_cross 30 = .ok (.iconst 0, 1) := by decide +kernel
theorem d_M_cross_31 : decode c_M_cross 31 = .ok (.istore_n 2, 1) := by decide +kernel
theorem d_M_cross_32 : decode c_M_cross 32 = .ok (.iconst 1, 1) := by decide +kernel
theorem d_M_cross_33 : decode c_M_cross 33 = .ok (.istore_n 3, 1) := by decide +kernel
theorem d_M_cross_34 : decode c_M_cross 34 = .ok (.iload_n 3, 1) := by decide +kernel
theorem d_M_cross_35 : decode c_M_cross 35 = .ok (.iconst 4, 1) := by decide +kernel
theorem d_M_cross_36 : decode c_M_cross 36 = .ok (.if_icmp .gt 127, 3) := by decide +kernel
theorem d_M_cross_39 : decode c_M_cross 39 = .ok (.iconst 0, 1) := by decide +kernel
theorem d_M_cross_40 : decode c_M_cross 40 = .ok (.istore 4, 2) := by decide +kernel
theorem d_M_cross_42 : decode c_M_cross 42 = .ok (.iconst 0, 1) := by decide +kernel
theorem d_M_cross_43 : decode c_M_cross 43 = .ok (.istore 5, 2) := by decide +kernel
theorem d_M_cross_45 : decode c_M_cross 45 = .ok (.iconst 1, 1) := by decide +kernel
theorem d_M_cross_46 : decode c_M_cross 46 = .ok (.istore 6, 2) := by decide +kernel
theorem d_M_cross_48 : decode c_M_cross 48 = .ok (.iload 6, 2) := by decide +kernel
theorem d_M_cross_50 : decode c_M_cross 50 = .ok (.aload_n 0, 1) := by decide +kernel
theorem d_M_cross_51 : decode c_M_cross 51 = .ok (.getfield 56, 3) := by decide +kernel
theorem d_M_cross_54 : decode c_M_cross 54 = .ok (.if_icmp .gt 85, 3) := by decide +kernel
theorem d_M_cross_57 : decode c_M_cross 57 = .ok (.iload 4, 2) := by decide +kernel
theorem d_M_cross_59 : decode c_M_cross 59 = .ok (.ifCond .ne 29, 3) := by decide +kernel
theorem d_M_cross_62 : decode c_M_cross 62 = .ok (.aload_n 0, 1) := by decide +kernel
theorem d_M_cross_63 : decode c_M_cross 63 = .ok (.getfield 13, 3) := by decide +kernel
theorem d_M_cross_66 : decode c_M_cross 66 = .ok (.iload 6, 2) := by decide +kernel
theorem d_M_cross_68 : decode c_M_cross 68 = .ok (.iaload, 1) := by decide +kernel
theorem d_M_cross_69 : decode c_M_cross 69 = .ok (.iload_n 3, 1) := by decide +kernel
theorem d_M_cross_70 : decode c_M_cross 70 = .ok (.if_icmp .ne 22, 3) := by decide +kernel
theorem d_M_cross_73 : decode c_M_cross 73 = .ok (.aload_n 0, 1) := by decide +kernel
theorem d_M_cross_74 : decode c_M_cross 74 = .ok (.getfield 22, 3) := by decide +kernel
theorem d_M_cross_77 : decode c_M_cross 77 = .ok (.iload_n 1, 1) := by decide +kernel
theorem d_M_cross_78 : decode c_M_cross 78 = .ok (.iaload, 1) := by decide +kernel
theorem d_M_cross_79 : decode c_M_cross 79 = .ok (.iload 6, 2) := by decide +kernel
theorem d_M_cross_81 : decode c_M_cross 81 = .ok (.ishr, 1) := by decide +kernel
theorem d_M_cross_82 : decode c_M_cross 82 = .ok (.iconst 1, 1) := by decide +kernel
theorem d_M_cross_83 : decode c_M_cross 83 = .ok (.iand, 1) := by decide +kernel
theorem d_M_cross_84 : decode c_M_cross 84 = .ok (.iconst 1, 1) := by decide +kernel
theorem d_M_cross_85 : decode c_M_cross 85 = .ok (.if_icmp .ne 7, 3) := by decide +kernel
theorem d_M_cross_88 : decode c_M_cross 88 = .ok (.iconst 1, 1) := by decide +kernel
theorem d_M_cross_89 : decode c_M_cross 89 = .ok (.goto 4, 3) := by decide +kernel
theorem d_M_cross_92 : decode c_M_cross 92 = .ok (.iconst 0, 1) := by decide +kernel
theorem d_M_cross_93 : decode c_M_cross 93 = .ok (.istore 4, 2) := by decide +kernel
theorem d_M_cross_95 : decode c_M_cross 95 = .ok (.iload 5, 2) := by decide +kernel
theorem d_M_cross_97 : decode c_M_cross 97 = .ok (.ifCond .ne 29, 3) := by decide +kernel
theorem d_M_cross_100 : decode c_M_cross 100 = .ok (.aload_n 0, 1) := by decide +kernel
theorem d_M_cross_101 : decode c_M_cross 101 = .ok (.getfield 13, 3) := by decide +kernel
theorem d_M_cross_104 : decode c_M_cross 104 = .ok (.iload 6, 2) := by decide +kernel
theorem d_M_cross_106 : decode c_M_cross 106 = .ok (.iaload, 1) := by decide +kernel
theorem d_M_cross_107 : decode c_M_cross 107 = .ok (.iload_n 3, 1) := by decide +kernel
theorem d_M_cross_108 : decode c_M_cross 108 = .ok (.if_icmp .eq 22, 3) := by decide +kernel
theorem d_M_cross_111 : decode c_M_cross 111 = .ok (.aload_n 0, 1) := by decide +kernel
theorem d_M_cross_112 : decode c_M_cross 112 = .ok (.getfield 25, 3) := by decide +kernel
theorem d_M_cross_115 : decode c_M_cross 115 = .ok (.iload_n 1, 1) := by decide +kernel
theorem d_M_cross_116 : decode c_M_cross 116 = .ok (.iaload, 1) := by decide +kernel
theorem d_M_cross_117 : decode c_M_cross 117 = .ok (.iload 6, 2) := by decide +kernel
theorem d_M_cross_119 : decode c_M_cross 119 = .ok (.ishr, 1) := by decide +kernel
theorem d_M_cross_120 : decode c_M_cross 120 = .ok (.iconst 1, 1) := by decide +kernel
theorem d_M_cross_121 : decode c_M_cross 121 = .ok (.iand, 1) := by decide +kernel
theorem d_M_cross_122 : decode c_M_cross 122 = .ok (.iconst 1, 1) := by decide +kernel
theorem d_M_cross_123 : decode c_M_cross 123 = .ok (.if_icmp .ne 7, 3) := by decide +kernel
theorem d_M_cross_126 : decode c_M_cross 126 = .ok (.iconst 1, 1) := by decide +kernel
theorem d_M_cross_127 : decode c_M_cross 127 = .ok (.goto 4, 3) := by decide +kernel
theorem d_M_cross_130 : decode c_M_cross 130 = .ok (.iconst 0, 1) := by decide +kernel
theorem d_M_cross_131 : decode c_M_cross 131 = .ok (.istore 5, 2) := by decide +kernel
theorem d_M_cross_133 : decode c_M_cross 133 = .ok (.iinc 6 1, 3) := by decide +kernel
theorem d_M_cross_136 : decode c_M_cross 136 = .ok (.goto (-88), 3) := by decide +kernel
theorem d_M_cross_139 : decode c_M_cross 139 = .ok (.iload_n 2, 1) := by decide +kernel
theorem d_M_cross_140 : decode c_M_cross 140 = .ok (.iload 4, 2) := by decide +kernel
theorem d_M_cross_142 : decode c_M_cross 142 = .ok (.ifCond .eq 12, 3) := by decide +kernel
theorem d_M_cross_145 : decode c_M_cross 145 = .ok (.iload 5, 2) := by decide +kernel
theorem d_M_cross_147 : decode c_M_cross 147 = .ok (.ifCond .eq 7, 3) := by decide +kernel
theorem d_M_cross_150 : decode c_M_cross 150 = .ok (.iconst 1, 1) := by decide +kernel
theorem d_M_cross_151 : decode c_M_cross 151 = .ok (.goto 4, 3) := by decide +kernel
theorem d_M_cross_154 : decode c_M_cross 154 = .ok (.iconst 0, 1) := by decide +kernel
theorem d_M_cross_155 : decode c_M_cross 155 = .ok (.iadd, 1) := by decide +kernel
theorem d_M_cross_156 : decode c_M_cross 156 = .ok (.istore_n 2, 1) := by decide +kernel
theorem d_M_cross_157 : decode c_M_cross 157 = .ok (.iinc 3 1, 3) := by decide +kernel
theorem d_M_cross_160 : decode c_M_cross 160 = .ok (.goto (-126), 3) := by decide +kernel
theorem d_M_cross_163 : decode c_M_cross 163 = .ok (.iload_n 2, 1) := by decide +kernel
theorem d_M_cross_164 : decode c_M_cross 164 = .ok (.ireturn, 1) := by decide +kernel
theorem d_M_budget_0 : decode c_M_budget 0 = .ok (.aload_n 0, 1) := by decide +kernel
theorem d_M_budget_1 : decode c_M_budget 1 = .ok (.iconst 0, 1) := by decide +kernel
theorem d_M_budget_2 : decode c_M_budget 2 = .ok (.putfield 52, 3) := by decide +kernel
theorem d_M_budget_5 : decode c_M_budget 5 = .ok (.aload_n 0, 1) := by decide +kernel
theorem d_M_budget_6 : decode c_M_budget 6 = .ok (.getfield 69, 3) := by decide +kernel
theorem d_M_budget_9 : decode c_M_budget 9 = .ok (.ifCond .ne 6, 3) := by decide +kernel
theorem d_M_budget_12 : decode c_M_budget 12 = .ok (.bipush (-3), 2) := by decide +kernel
theorem d_M_budget_14 : decode c_M_budget 14 = .ok (.ireturn, 1) := by decide +kernel
theorem d_M_budget_15 : decode c_M_budget 15 = .ok (.aload_n 0, 1) := by decide +kernel
theorem d_M_budget_16 : decode c_M_budget 16 = .ok (.iload_n 1, 1) := by decide +kernel
theorem d_M_budget_17 : decode c_M_budget 17 = .ok (.invokevirtual 113, 3) := by decide +kernel
theorem d_M_budget_20 : decode c_M_budget 20 = .ok (.ifCond .ne 5, 3) := by decide +kernel
theorem d_M_budget_23 : decode c_M_budget 23 = .ok (.iconst (-1), 1) := by decide +kernel
theorem d_M_budget_24 : decode c_M_budget 24 = .ok (.ireturn, 1) := by decide +kernel
theorem d_M_budget_25 : decode c_M_budget 25 = .ok (.lload_n 2, 1) := by decide +kernel
theorem d_M_budget_26 : decode c_M_budget 26 = .ok (.lconst 0, 1) := by decide +kernel
theorem d_M_budget_27 : decode c_M_budget 27 = .ok (.lcmp, 1) := by decide +kernel
theorem d_M_budget_28 : decode c_M_budget 28 = .ok (.ifCond .ge 6, 3) := by decide +kernel
theorem d_M_budget_31 : decode c_M_budget 31 = .ok (.bipush (-2), 2) := by decide +kernel
theorem d_M_budget_33 : decode c_M_budget 33 = .ok (.ireturn, 1) := by decide +kernel
theorem d_M_budget_34 : decode c_M_budget 34 = .ok (.lconst 0, 1) := by decide +kernel
theorem d_M_budget_35 : decode c_M_budget 35 = .ok (.lstore 4, 2) := by decide +kernel
theorem d_M_budget_37 : decode c_M_budget 37 = .ok (.aload_n 0, 1) := by decide +kernel
theorem d_M_budget_38 : decode c_M_budget 38 = .ok (.iconst 0, 1) := by decide +kernel
theorem d_M_budget_39 : decode c_M_budget 39 = .ok (.iload_n 1, 1) := by decide +kernel
theorem d_M_budget_40 : decode c_M_budget 40 = .ok (.iconst 1, 1) := by decide +kernel
theorem d_M_budget_41 : decode c_M_budget 41 = .ok (.isub, 1) := by decide +kernel
theorem d_M_budget_42 : decode c_M_budget 42 = .ok (.invokevirtual 116, 3) := by decide +kernel
theorem d_M_budget_45 : decode c_M_budget 45 = .ok (.istore 6, 2) := by decide +kernel
theorem d_M_budget_47 : decode c_M_budget 47 = .ok (.iload 6, 2) := by decide +kernel
theorem d_M_budget_49 : decode c_M_budget 49 = .ok (.aload_n 0, 1) := by decide +kernel
theorem d_M_budget_50 : decode c_M_budget 50 = .ok (.getfield 43, 3) := by decide +kernel
theorem d_M_budget_53 : decode c_M_budget 53 = .ok (.iload_n 1, 1) := by decide +kernel
theorem d_M_budget_54 : decode c_M_budget 54 = .ok (.iaload, 1) := by decide +kernel
theorem d_M_budget_55 : decode c_M_budget 55 = .ok (.if_icmp .ge 27, 3) := by decide +kernel
theorem d_M_budget_58 : decode c_M_budget 58 = .ok (.lload 4, 2) := by decide +kernel
theorem d_M_budget_60 : decode c_M_budget 60 = .ok (.aload_n 0, 1) := by decide +kernel
theorem d_M_budget_61 : decode c_M_budget 61 = .ok (.getfield 16, 3) := by decide +kernel
theorem d_M_budget_64 : decode c_M_budget 64 = .ok (.aload_n 0, 1) := by decide +kernel
theorem d_M_budget_65 : decode c_M_budget 65 = .ok (.getfield 46, 3) := by decide +kernel
theorem d_M_budget_68 : decode c_M_budget 68 = .ok (.iload 6, 2) := by decide +kernel
theorem d_M_budget_70 : decode c_M_budget 70 = .ok (.iaload, 1) := by decide +kernel
theorem d_M_budget_71 : decode c_M_budget 71 = .ok (.iaload, 1) := by decide +kernel
theorem d_M_budget_72 : decode c_M_budget 72 = .ok (.i2l, 1) := by decide +kernel
theorem d_M_budget_73 : decode c_M_budget 73 = .ok (.ladd, 1) := by decide +kernel
theorem d_M_budget_74 : decode c_M_budget 74 = .ok (.lstore 4, 2) := by decide +kernel
theorem d_M_budget_76 : decode c_M_budget 76 = .ok (.iinc 6 1, 3) := by decide +kernel
theorem d_M_budget_79 : decode c_M_budget 79 = .ok (.goto (-32), 3) := by decide +kernel
theorem d_M_budget_82 : decode c_M_budget 82 = .ok (.lload 4, 2) := by decide +kernel
theorem d_M_budget_84 : decode c_M_budget 84 = .ok (.lload_n 2, 1) := by decide +kernel
theorem d_M_budget_85 : decode c_M_budget 85 = .ok (.lcmp, 1) := by decide +kernel
theorem d_M_budget_86 : decode c_M_budget 86 = .ok (.ifCond .gt 7, 3) := by decide +kernel
theorem d_M_budget_89 : decode c_M_budget 89 = .ok (.iconst 1, 1) := by decide +kernel
theorem d_M_budget_90 : decode c_M_budget 90 = .ok (.goto 4, 3) := by decide +kernel
theorem d_M_budget_93 : decode c_M_budget 93 = .ok (.iconst 0, 1) := by decide +kernel
theorem d_M_budget_94 : decode c_M_budget 94 = .ok (.ireturn, 1) := by decide +kernel
theorem d_M_isSame_0 : decode c_M_isSame 0 = .ok (.aload_n 0, 1) := by decide +kernel
theorem d_M_isSame_1 : decode c_M_isSame 1 = .ok (.iconst 0, 1) := by decide +kernel
theorem d_M_isSame_2 : decode c_M_isSame 2 = .ok (.iload_n 1, 1) := by decide +kernel
theorem d_M_isSame_3 : decode c_M_isSame 3 = .ok (.invokevirtual 116, 3) := by decide +kernel
theorem d_M_isSame_6 : decode c_M_isSame 6 = .ok (.istore 4, 2) := by decide +kernel
theorem d_M_isSame_8 : decode c_M_isSame 8 = .ok (.aload_n 0, 1) := by decide +kernel
theorem d_M_isSame_9 : decode c_M_isSame 9 = .ok (.iload_n 2, 1) := by decide +kernel
theorem d_M_isSame_10 : decode c_M_isSame 10 = .ok (.iload_n 3, 1) := by decide +kernel
theorem d_M_isSame_11 : decode c_M_isSame 11 = .ok (.invokevirtual 116, 3) := by decide +kernel
theorem d_M_isSame_14 : decode c_M_isSame 14 = .ok (.istore 5, 2) := by decide +kernel
theorem d_M_isSame_16 : decode c_M_isSame 16 = .ok (.aload_n 0, 1) := by decide +kernel
theorem d_M_isSame_17 : decode c_M_isSame 17 = .ok (.getfield 43, 3) := by decide +kernel
theorem d_M_isSame_20 : decode c_M_isSame 20 = .ok (.iload_n 1, 1) := by decide +kernel
theorem d_M_isSame_21 : decode c_M_isSame 21 = .ok (.iconst 1, 1) := by decide +kernel
theorem d_M_isSame_22 : decode c_M_isSame 22 = .ok (.iadd, 1) := by decide +kernel
theorem d_M_isSame_23 : decode c_M_isSame 23 = .ok (.iaload, 1) := by decide +kernel
theorem d_M_isSame_24 : decode c_M_isSame 24 = .ok (.iload 4, 2) := by decide +kernel
theorem d_M_isSame_26 : decode c_M_isSame 26 = .ok (.isub, 1) := by decide +kernel
theorem d_M_isSame_27 : decode c_M_isSame 27 = .ok (.istore 6, 2) := by decide +kernel
theorem d_M_isSame_29 : decode c_M_isSame 29 = .ok (.aload_n 0, 1) := by decide +kernel
theorem d_M_isSame_30 : decode c_M_isSame 30 = .ok (.getfield 37, 3) := by decide +kernel
theorem d_M_isSame_33 : decode c_M_isSame 33 = .ok (.iload_n 1, 1) := by decide +kernel
theorem d_M_isSame_34 : decode c_M_isSame 34 = .ok (.iaload, 1) := by decide +kernel
theorem d_M_isSame_35 : decode c_M_isSame 35 = .ok (.aload_n 0, 1) := by decide +kernel
theorem d_M_isSame_36 : decode c_M_isSame 36 = .ok (.getfield 37, 3) := by decide +kernel
theorem d_M_isSame_39 : decode c_M_isSame 39 = .ok (.bipush 24, 2) := by decide +kernel
theorem d_M_isSame_41 : decode c_M_isSame 41 = .ok (.iload_n 2, 1) := by decide +kernel
theorem d_M_isSame_42 : decode c_M_isSame 42 = .ok (.imul, 1) := by decide +kernel
theorem d_M_isSame_43 : decode c_M_isSame 43 = .ok (.iload_n 3, 1) := by decide +kernel
theorem d_M_isSame_44 : decode c_M_isSame 44 = .ok (.iadd, 1) := by decide +kernel
theorem d_M_isSame_45 : decode c_M_isSame 45 = .ok (.iaload, 1) := by decide +kernel
theorem d_M_isSame_46 : decode c_M_isSame 46 = .ok (.if_icmp .ne 48, 3) := by decide +kernel
theorem d_M_isSame_49 : decode c_M_isSame 49 = .ok (.aload_n 0, 1) := by decide +kernel
theorem d_M_isSame_50 : decode c_M_isSame 50 = .ok (.getfield 40, 3) := by decide +kernel
theorem d_M_isSame_53 : decode c_M_isSame 53 = .ok (.iload_n 1, 1) := by decide +kernel
theorem d_M_isSame_54 : decode c_M_isSame 54 = .ok (.iaload, 1) := by decide +kernel
theorem d_M_isSame_55 : decode c_M_isSame 55 = .ok (.aload_n 0, 1) := by decide +kernel
theorem d_M_isSame_56 : decode c_M_isSame 56 = .ok (.getfield 40, 3) := by decide +kernel
theorem d_M_isSame_59 : decode c_M_isSame 59 = .ok (.bipush 24, 2) := by decide +kernel
theorem d_M_isSame_61 : decode c_M_isSame 61 = .ok (.iload_n 2, 1) := by decide +kernel
theorem d_M_isSame_62 : decode c_M_isSame 62 = .ok (.imul, 1) := by decide +kernel
theorem d_M_isSame_63 : decode c_M_isSame 63 = .ok (.iload_n 3, 1) := by decide +kernel
theorem d_M_isSame_64 : decode c_M_isSame 64 = .ok (.iadd, 1) := by decide +kernel
theorem d_M_isSame_65 : decode c_M_isSame 65 = .ok (.iaload, 1) := by decide +kernel
theorem d_M_isSame_66 : decode c_M_isSame 66 = .ok (.if_icmp .ne 28, 3) := by decide +kernel
theorem d_M_isSame_69 : decode c_M_isSame 69 = .ok (.aload_n 0, 1) := by decide +kernel
theorem d_M_isSame_70 : decode c_M_isSame 70 = .ok (.getfield 43, 3) := by decide +kernel
theorem d_M_isSame_73 : decode c_M_isSame 73 = .ok (.bipush 25, 2) := by decide +kernel
theorem d_M_isSame_75 : decode c_M_isSame 75 = .ok (.iload_n 2, 1) := by decide +kernel
theorem d_M_isSame_76 : decode c_M_isSame 76 = .ok (.imul, 1) := by decide +kernel
theorem d_M_isSame_77 : decode c_M_isSame 77 = .ok (.iload_n 3, 1) := by decide +kernel
theorem d_M_isSame_78 : decode c_M_isSame 78 = .ok (.iadd, 1) := by decide +kernel
theorem d_M_isSame_79 : decode c_M_isSame 79 = .ok (.iconst 1, 1) := by decide +kernel
theorem d_M_isSame_80 : decode c_M_isSame 80 = .ok (.iadd, 1) := by decide +kernel
theorem d_M_isSame_81 : decode c_M_isSame 81 = .ok (.iaload, 1) := by decide +kernel
theorem d_M_isSame_82 : decode c_M_isSame 82 = .ok (.iload 5, 2) := by decide +kernel
theorem d_M_isSame_84 : decode c_M_isSame 84 = .ok (.isub, 1) := by decide +kernel
theorem d_M_isSame_85 : decode c_M_isSame 85 = .ok (.iload 6, 2) := by decide +kernel
theorem d_M_isSame_87 : decode c_M_isSame 87 = .ok (.if_icmp .ne 7, 3) := by decide +kernel
theorem d_M_isSame_90 : decode c_M_isSame 90 = .ok (.iconst 1, 1) := by decide +kernel
theorem d_M_isSame_91 : decode c_M_isSame 91 = .ok (.goto 4, 3) := by decide +kernel
theorem d_M_isSame_94 : decode c_M_isSame 94 = .ok (.iconst 0, 1) := by decide +kernel
theorem d_M_isSame_95 : decode c_M_isSame 95 = .ok (.istore 7, 2) := by decide +kernel
theorem d_M_isSame_97 : decode c_M_isSame 97 = .ok (.iconst 0, 1) := by decide +kernel
theorem d_M_isSame_98 : decode c_M_isSame 98 = .ok (.istore 8, 2) := by decide +kernel
theorem d_M_isSame_100 : decode c_M_isSame 100 = .ok (.iload 8, 2) := by decide +kernel
theorem d_M_isSame_102 : decode c_M_isSame 102 = .ok (.iload 6, 2) := by decide +kernel
theorem d_M_isSame_104 : decode c_M_isSame 104 = .ok (.if_icmp .ge 49, 3) := by decide +kernel
theorem d_M_isSame_107 : decode c_M_isSame 107 = .ok (.iload 7, 2) := by decide +kernel
theorem d_M_isSame_109 : decode c_M_isSame 109 = .ok (.ifCond .eq 44, 3) := by decide +kernel
theorem d_M_isSame_112 : decode c_M_isSame 112 = .ok (.aload_n 0, 1) := by decide +kernel
theorem d_M_isSame_113 : decode c_M_isSame 113 = .ok (.getfield 46, 3) := by decide +kernel
theorem d_M_isSame_116 : decode c_M_isSame 116 = .ok (.iload 4, 2) := by decide +kernel
theorem d_M_isSame_118 : decode c_M_isSame 118 = .ok (.iload 8, 2) := by decide +kernel
theorem d_M_isSame_120 : decode c_M_isSame 120 = .ok (.iadd, 1) := by decide +kernel
theorem d_M_isSame_121 : decode c_M_isSame 121 = .ok (.iaload, 1) := by decide +kernel
theorem d_M_isSame_122 : decode c_M_isSame 122 = .ok (.aload_n 0, 1) := by decide +kernel
theorem d_M_isSame_123 : decode c_M_isSame 123 = .ok (.getfield 46, 3) := by decide +kernel
theorem d_M_isSame_126 : decode c_M_isSame 126 = .ok (.bipush 24, 2) := by decide +kernel
theorem d_M_isSame_128 : decode c_M_isSame 128 = .ok (.iload_n 2, 1) := by decide +kernel
theorem d_M_isSame_129 : decode c_M_isSame 129 = .ok (.imul, 1) := by decide +kernel
theorem d_M_isSame_130 : decode c_M_isSame 130 = .ok (.iload 5, 2) := by decide +kernel
theorem d_M_isSame_132 : decode c_M_isSame 132 = .ok (.iadd, 1) := by decide +kernel
theorem d_M_isSame_133 : decode c_M_isSame 133 = .ok (.iload 8, 2) := by decide +kernel
theorem d_M_isSame_135 : decode c_M_isSame 135 = .ok (.iadd, 1) := by decide +kernel
theorem d_M_isSame_136 : decode c_M_isSame 136 = .ok (.iaload, 1) := by decide +kernel
theorem d_M_isSame_137 : decode c_M_isSame 137 = .ok (.if_icmp .ne 7, 3) := by decide +kernel
theorem d_M_isSame_140 : decode c_M_isSame 140 = .ok (.iconst 1, 1) := by decide +kernel
theorem d_M_isSame_141 : decode c_M_isSame 141 = .ok (.goto 4, 3) := by decide +kernel
theorem d_M_isSame_144 : decode c_M_isSame 144 = .ok (.iconst 0, 1) := by decide +kernel
theorem d_M_isSame_145 : decode c_M_isSame 145 = .ok (.istore 7, 2) := by decide +kernel
theorem d_M_isSame_147 : decode c_M_isSame 147 = .ok (.iinc 8 1, 3) := by decide +kernel
theorem d_M_isSame_150 : decode c_M_isSame 150 = .ok (.goto (-50), 3) := by decide +kernel
theorem d_M_isSame_153 : decode c_M_isSame 153 = .ok (.iload 7, 2) := by decide +kernel
theorem d_M_isSame_155 : decode c_M_isSame 155 = .ok (.ireturn, 1) := by decide +kernel
theorem d_M_differ_0 : decode c_M_differ 0 = .ok (.aload_n 0, 1) := by decide +kernel
theorem d_M_differ_1 : decode c_M_differ 1 = .ok (.iconst 0, 1) := by decide +kernel
theorem d_M_differ_2 : decode c_M_differ 2 = .ok (.putfield 52, 3) := by decide +kernel
theorem d_M_differ_5 : decode c_M_differ 5 = .ok (.aload_n 0, 1) := by decide +kernel
theorem d_M_differ_6 : decode c_M_differ 6 = .ok (.getfield 69, 3) := by decide +kernel
theorem d_M_differ_9 : decode c_M_differ 9 = .ok (.ifCond .ne 6, 3) := by decide +kernel
theorem d_M_differ_12 : decode c_M_differ 12 = .ok (.bipush (-3), 2) := by decide +kernel
theorem d_M_differ_14 : decode c_M_differ 14 = .ok (.ireturn, 1) := by decide +kernel
theorem d_M_differ_15 : decode c_M_differ 15 = .ok (.iload_n 1, 1) := by decide +kernel
theorem d_M_differ_16 : decode c_M_differ 16 = .ok (.i2l, 1) := by decide +kernel
theorem d_M_differ_17 : decode c_M_differ 17 = .ok (.lconst 1, 1) := by decide +kernel
theorem d_M_differ_18 : decode c_M_differ 18 = .ok (.aload_n 0, 1) := by decide +kernel
theorem d_M_differ_19 : decode c_M_differ 19 = .ok (.getfield 107, 3) := by decide +kernel
theorem d_M_differ_22 : decode c_M_differ 22 = .ok (.i2l, 1) := by decide +kernel
theorem d_M_differ_23 : decode c_M_differ 23 = .ok (.invokestatic 59, 3) := by decide +kernel
theorem d_M_differ_26 : decode c_M_differ 26 = .ok (.ifCond .eq 9, 3) := by decide +kernel
theorem d_M_differ_29 : decode c_M_differ 29 = .ok (.iload_n 1, 1) := by decide +kernel
theorem d_M_differ_30 : decode c_M_differ 30 = .ok (.bipush 40, 2) := by decide +kernel
theorem d_M_differ_32 : decode c_M_differ 32 = .ok (.if_icmp .le 5, 3) := by decide +kernel
theorem d_M_differ_35 : decode c_M_differ 35 = .ok (.iconst (-1), 1) := by decide +kernel
theorem d_M_differ_36 : decode c_M_differ 36 = .ok (.ireturn, 1) := by decide +kernel
theorem d_M_differ_37 : decode c_M_differ 37 = .ok (.iconst 0, 1) := by decide +kernel
theorem d_M_differ_38 : decode c_M_differ 38 = .ok (.istore_n 2, 1) := by decide +kernel
theorem d_M_differ_39 : decode c_M_differ 39 = .ok (.iconst 0, 1) := by decide +kernel
theorem d_M_differ_40 : decode c_M_differ 40 = .ok (.istore_n 3, 1) := by decide +kernel
theorem d_M_differ_41 : decode c_M_differ 41 = .ok (.iload_n 3, 1) := by decide +kernel
theorem d_M_differ_42 : decode c_M_differ 42 = .ok (.aload_n 0, 1) := by decide +kernel
theorem d_M_differ_43 : decode c_M_differ 43 = .ok (.getfield 34, 3) := by decide +kernel
theorem d_M_differ_46 : decode c_M_differ 46 = .ok (.iconst 0, 1) := by decide +kernel
theorem d_M_differ_47 : decode c_M_differ 47 = .ok (.iaload, 1) := by decide +kernel
theorem d_M_differ_48 : decode c_M_differ 48 = .ok (.if_icmp .ge 68, 3) := by decide +kernel
theorem d_M_differ_51 : decode c_M_differ 51 = .ok (.iconst 0, 1) := by decide +kernel
theorem d_M_differ_52 : decode c_M_differ 52 = .ok (.istore 4, 2) := by decide +kernel
theorem d_M_differ_54 : decode c_M_differ 54 = .ok (.iconst 0, 1) := by decide +kernel
theorem d_M_differ_55 : decode c_M_differ 55 = .ok (.istore 5, 2) := by decide +kernel
theorem d_M_differ_57 : decode c_M_differ 57 = .ok (.iload 5, 2) := by decide +kernel
theorem d_M_differ_59 : decode c_M_differ 59 = .ok (.aload_n 0, 1) := by decide +kernel
theorem d_M_differ_60 : decode c_M_differ 60 = .ok (.getfield 34, 3) := by decide +kernel
theorem d_M_differ_63 : decode c_M_differ 63 = .ok (.iload_n 1, 1) := by decide +kernel
theorem d_M_differ_64 : decode c_M_differ 64 = .ok (.iaload, 1) := by decide +kernel
theorem d_M_differ_65 : decode c_M_differ 65 = .ok (.if_icmp .ge 32, 3) := by decide +kernel
theorem d_M_differ_68 : decode c_M_differ 68 = .ok (.iload 4, 2) := by decide +kernel
theorem d_M_differ_70 : decode c_M_differ 70 = .ok (.ifCond .ne 14, 3) := by decide +kernel
theorem d_M_differ_73 : decode c_M_differ 73 = .ok (.aload_n 0, 1) := by decide +kernel
theorem d_M_differ_74 : decode c_M_differ 74 = .ok (.iload_n 3, 1) := by decide +kernel
theorem d_M_differ_75 : decode c_M_differ 75 = .ok (.iload_n 1, 1) := by decide +kernel
theorem d_M_differ_76 : decode c_M_differ 76 = .ok (.iload 5, 2) := by decide +kernel
theorem d_M_differ_78 : decode c_M_differ 78 = .ok (.invokevirtual 125, 3) := by decide +kernel
theorem d_M_differ_81 : decode c_M_differ 81 = .ok (.ifCond .eq 7, 3) := by decide +kernel
theorem d_M_differ_84 : decode c_M_differ 84 = .ok (.iconst 1, 1) := by decide +kernel
theorem d_M_differ_85 : decode c_M_differ 85 = .ok (.goto 4, 3) := by decide +kernel
theorem d_M_differ_88 : decode c_M_differ 88 = .ok (.iconst 0, 1) := by decide +kernel
theorem d_M_differ_89 : decode c_M_differ 89 = .ok (.istore 4, 2) := by decide +kernel
theorem d_M_differ_91 : decode c_M_differ 91 = .ok (.iinc 5 1, 3) := by decide +kernel
theorem d_M_differ_94 : decode c_M_differ 94 = .ok (.goto (-37), 3) := by decide +kernel
theorem d_M_differ_97 : decode c_M_differ 97 = .ok (.iload_n 2, 1) := by decide +kernel
theorem d_M_differ_98 : decode c_M_differ 98 = .ok (.iload 4, 2) := by decide +kernel
theorem d_M_differ_100 : decode c_M_differ 100 = .ok (.ifCond .eq 7, 3) := by decide +kernel
theorem d_M_differ_103 : decode c_M_differ 103 = .ok (.iconst 0, 1) := by decide +kernel
theorem d_M_differ_104 : decode c_M_differ 104 = .ok (.goto 4, 3) := by decide +kernel
theorem d_M_differ_107 : decode c_M_differ 107 = .ok (.iconst 1, 1) := by decide +kernel
theorem d_M_differ_108 : decode c_M_differ 108 = .ok (.iadd, 1) := by decide +kernel
theorem d_M_differ_109 : decode c_M_differ 109 = .ok (.istore_n 2, 1) := by decide +kernel
theorem d_M_differ_110 : decode c_M_differ 110 = .ok (.iinc 3 1, 3) := by decide +kernel
theorem d_M_differ_113 : decode c_M_differ 113 = .ok (.goto (-72), 3) := by decide +kernel
theorem d_M_differ_116 : decode c_M_differ 116 = .ok (.iload_n 2, 1) := by decide +kernel
theorem d_M_differ_117 : decode c_M_differ 117 = .ok (.ireturn, 1) := by decide +kernel
end
section
theorem d_law_0 : decode code 0 = .ok (.new 7, 3) := by decide +kernel
theorem d_law_3 : decode code 3 = .ok (.dup, 1) := by decide +kernel
theorem d_law_4 : decode code 4 = .ok (.invokespecial 9, 3) := by decide +kernel
theorem d_law_7 : decode code 7 = .ok (.astore_n 1, 1) := by decide +kernel
theorem d_law_8 : decode code 8 = .ok (.new 10, 3) := by decide +kernel
theorem d_law_11 : decode code 11 = .ok (.dup, 1) := by decide +kernel
theorem d_law_12 : decode code 12 = .ok (.invokespecial 12, 3) := by decide +kernel
theorem d_law_15 : decode code 15 = .ok (.astore_n 2, 1) := by decide +kernel
theorem d_law_16 : decode code 16 = .ok (.iconst 0, 1) := by decide +kernel
theorem d_law_17 : decode code 17 = .ok (.istore_n 3, 1) := by decide +kernel
theorem d_law_18 : decode code 18 = .ok (.iload_n 3, 1) := by decide +kernel
theorem d_law_19 : decode code 19 = .ok (.aload_n 0, 1) := by decide +kernel
theorem d_law_20 : decode code 20 = .ok (.arraylength, 1) := by decide +kernel
theorem d_law_21 : decode code 21 = .ok (.iconst 4, 1) := by decide +kernel
theorem d_law_22 : decode code 22 = .ok (.isub, 1) := by decide +kernel
theorem d_law_23 : decode code 23 = .ok (.if_icmp .gt 498, 3) := by decide +kernel
theorem d_law_26 : decode code 26 = .ok (.aload_n 0, 1) := by decide +kernel
theorem d_law_27 : decode code 27 = .ok (.iload_n 3, 1) := by decide +kernel
theorem d_law_28 : decode code 28 = .ok (.iaload, 1) := by decide +kernel
theorem d_law_29 : decode code 29 = .ok (.bipush 15, 2) := by decide +kernel
theorem d_law_31 : decode code 31 = .ok (.iand, 1) := by decide +kernel
theorem d_law_32 : decode code 32 = .ok (.tableswitch 483 0 12 #[68, 111, 170, 203, 216, 239, 272, 295, 318, 351, 374, 397, 460], 68) := by decide +kernel
theorem d_law_100 : decode code 100 = .ok (.aload_n 1, 1) := by decide +kernel
theorem d_law_101 : decode code 101 = .ok (.aload_n 0, 1) := by decide +kernel
theorem d_law_102 : decode code 102 = .ok (.iload_n 3, 1) := by decide +kernel
theorem d_law_103 : decode code 103 = .ok (.iconst 1, 1) := by decide +kernel
theorem d_law_104 : decode code 104 = .ok (.iadd, 1) := by decide +kernel
theorem d_law_105 : decode code 105 = .ok (.iaload, 1) := by decide +kernel
theorem d_law_106 : decode code 106 = .ok (.aload_n 0, 1) := by decide +kernel
theorem d_law_107 : decode code 107 = .ok (.iload_n 3, 1) := by decide +kernel
theorem d_law_108 : decode code 108 = .ok (.iconst 2, 1) := by decide +kernel
theorem d_law_109 : decode code 109 = .ok (.iadd, 1) := by decide +kernel
theorem d_law_110 : decode code 110 = .ok (.iaload, 1) := by decide +kernel
theorem d_law_111 : decode code 111 = .ok (.aload_n 0, 1) := by decide +kernel
theorem d_law_112 : decode code 112 = .ok (.iload_n 3, 1) := by decide +kernel
theorem d_law_113 : decode code 113 = .ok (.iconst 3, 1) := by decide +kernel
theorem d_law_114 : decode code 114 = .ok (.iadd, 1) := by decide +kernel
theorem d_law_115 : decode code 115 = .ok (.iaload, 1) := by decide +kernel
theorem d_law_116 : decode code 116 = .ok (.invokevirtual 13, 3) := by decide +kernel
theorem d_law_119 : decode code 119 = .ok (.aload_n 2, 1) := by decide +kernel
theorem d_law_120 : decode code 120 = .ok (.aload_n 0, 1) := by decide +kernel
theorem d_law_121 : decode code 121 = .ok (.iload_n 3, 1) := by decide +kernel
theorem d_law_122 : decode code 122 = .ok (.iconst 1, 1) := by decide +kernel
theorem d_law_123 : decode code 123 = .ok (.iadd, 1) := by decide +kernel
theorem d_law_124 : decode code 124 = .ok (.iaload, 1) := by decide +kernel
theorem d_law_125 : decode code 125 = .ok (.aload_n 0, 1) := by decide +kernel
theorem d_law_126 : decode code 126 = .ok (.iload_n 3, 1) := by decide +kernel
theorem d_law_127 : decode code 127 = .ok (.iconst 2, 1) := by decide +kernel
theorem d_law_128 : decode code 128 = .ok (.iadd, 1) := by decide +kernel
theorem d_law_129 : decode code 129 = .ok (.iaload, 1) := by decide +kernel
theorem d_law_130 : decode code 130 = .ok (.aload_n 0, 1) := by decide +kernel
theorem d_law_131 : decode code 131 = .ok (.iload_n 3, 1) := by decide +kernel
theorem d_law_132 : decode code 132 = .ok (.iconst 3, 1) := by decide +kernel
theorem d_law_133 : decode code 133 = .ok (.iadd, 1) := by decide +kernel
theorem d_law_134 : decode code 134 = .ok (.iaload, 1) := by decide +kernel
theorem d_law_135 : decode code 135 = .ok (.invokevirtual 17, 3) := by decide +kernel
theorem d_law_138 : decode code 138 = .ok (.if_icmp .eq 377, 3) := by decide +kernel
theorem d_law_141 : decode code 141 = .ok (.iconst 0, 1) := by decide +kernel
theorem d_law_142 : decode code 142 = .ok (.ireturn, 1) := by decide +kernel
theorem d_law_143 : decode code 143 = .ok (.aload_n 1, 1) := by decide +kernel
theorem d_law_144 : decode code 144 = .ok (.aload_n 0, 1) := by decide +kernel
theorem d_law_145 : decode code 145 = .ok (.iload_n 3, 1) := by decide +kernel
theorem d_law_146 : decode code 146 = .ok (.iconst 1, 1) := by decide +kernel
theorem d_law_147 : decode code 147 = .ok (.iadd, 1) := by decide +kernel
theorem d_law_148 : decode code 148 = .ok (.iaload, 1) := by decide +kernel
theorem d_law_149 : decode code 149 = .ok (.aload_n 0, 1) := by decide +kernel
theorem d_law_150 : decode code 150 = .ok (.iload_n 3, 1) := by decide +kernel
theorem d_law_151 : decode code 151 = .ok (.iconst 2, 1) := by decide +kernel
theorem d_law_152 : decode code 152 = .ok (.iadd, 1) := by decide +kernel
theorem d_law_153 : decode code 153 = .ok (.iaload, 1) := by decide +kernel
theorem d_law_154 : decode code 154 = .ok (.aload_n 0, 1) := by decide +kernel
theorem d_law_155 : decode code 155 = .ok (.iload_n 3, 1) := by decide +kernel
theorem d_law_156 : decode code 156 = .ok (.iconst 3, 1) := by decide +kernel
theorem d_law_157 : decode code 157 = .ok (.iadd, 1) := by decide +kernel
theorem d_law_158 : decode code 158 = .ok (.iaload, 1) := by decide +kernel
theorem d_law_159 : decode code 159 = .ok (.ifCond .eq 7, 3) := by decide +kernel
theorem d_law_162 : decode code 162 = .ok (.iconst 1, 1) := by decide +kernel
theorem d_law_163 : decode code 163 = .ok (.goto 4, 3) := by decide +kernel
theorem d_law_166 : decode code 166 = .ok (.iconst 0, 1) := by decide +kernel
theorem d_law_167 : decode code 167 = .ok (.invokevirtual 18, 3) := by decide +kernel
theorem d_law_170 : decode code 170 = .ok (.aload_n 2, 1) := by decide +kernel
theorem d_law_171 : decode code 171 = .ok (.aload_n 0, 1) := by decide +kernel
theorem d_law_172 : decode code 172 = .ok (.iload_n 3, 1) := by decide +kernel
theorem d_law_173 : decode code 173 = .ok (.iconst 1, 1) := by decide +kernel
theorem d_law_174 : decode code 174 = .ok (.iadd, 1) := by decide +kernel
theorem d_law_175 : decode code 175 = .ok (.iaload, 1) := by decide +kernel
theorem d_law_176 : decode code 176 = .ok (.aload_n 0, 1) := by decide +kernel
theorem d_law_177 : decode code 177 = .ok (.iload_n 3, 1) := by decide +kernel
theorem d_law_178 : decode code 178 = .ok (.iconst 2, 1) := by decide +kernel
theorem d_law_179 : decode code 179 = .ok (.iadd, 1) := by decide +kernel
theorem d_law_180 : decode code 180 = .ok (.iaload, 1) := by decide +kernel
theorem d_law_181 : decode code 181 = .ok (.aload_n 0, 1) := by decide +kernel
theorem d_law_182 : decode code 182 = .ok (.iload_n 3, 1) := by decide +kernel
theorem d_law_183 : decode code 183 = .ok (.iconst 3, 1) := by decide +kernel
theorem d_law_184 : decode code 184 = .ok (.iadd, 1) := by decide +kernel
theorem d_law_185 : decode code 185 = .ok (.iaload, 1) := by decide +kernel
theorem d_law_186 : decode code 186 = .ok (.ifCond .eq 7, 3) := by decide +kernel
theorem d_law_189 : decode code 189 = .ok (.iconst 1, 1) := by decide +kernel
theorem d_law_190 : decode code 190 = .ok (.goto 4, 3) := by decide +kernel
theorem d_law_193 : decode code 193 = .ok (.iconst 0, 1) := by decide +kernel
theorem d_law_194 : decode code 194 = .ok (.invokevirtual 22, 3) := by decide +kernel
theorem d_law_197 : decode code 197 = .ok (.if_icmp .eq 318, 3) := by decide +kernel
theorem d_law_200 : decode code 200 = .ok (.iconst 0, 1) := by decide +kernel
theorem d_law_201 : decode code 201 = .ok (.ireturn, 1) := by decide +kernel
theorem d_law_202 : decode code 202 = .ok (.aload_n 1, 1) := by decide +kernel
theorem d_law_203 : decode code 203 = .ok (.aload_n 0, 1) := by decide +kernel
theorem d_law_204 : decode code 204 = .ok (.iload_n 3, 1) := by decide +kernel
theorem d_law_205 : decode code 205 = .ok (.iconst 1, 1) := by decide +kernel
theorem d_law_206 : decode code 206 = .ok (.iadd, 1) := by decide +kernel
theorem d_law_207 : decode code 207 = .ok (.iaload, 1) := by decide +kernel
theorem d_law_208 : decode code 208 = .ok (.aload_n 0, 1) := by decide +kernel
theorem d_law_209 : decode code 209 = .ok (.iload_n 3, 1) := by decide +kernel
theorem d_law_210 : decode code 210 = .ok (.iconst 2, 1) := by decide +kernel
theorem d_law_211 : decode code 211 = .ok (.iadd, 1) := by decide +kernel
theorem d_law_212 : decode code 212 = .ok (.iaload, 1) := by decide +kernel
theorem d_law_213 : decode code 213 = .ok (.invokevirtual 23, 3) := by decide +kernel
theorem d_law_216 : decode code 216 = .ok (.aload_n 2, 1) := by decide +kernel
theorem d_law_217 : decode code 217 = .ok (.aload_n 0, 1) := by decide +kernel
theorem d_law_218 : decode code 218 = .ok (.iload_n 3, 1) := by decide +kernel
theorem d_law_219 : decode code 219 = .ok (.iconst 1, 1) := by decide +kernel
theorem d_law_220 : decode code 220 = .ok (.iadd, 1) := by decide +kernel
theorem d_law_221 : decode code 221 = .ok (.iaload, 1) := by decide +kernel
theorem d_law_222 : decode code 222 = .ok (.aload_n 0, 1) := by decide +kernel
theorem d_law_223 : decode code 223 = .ok (.iload_n 3, 1) := by decide +kernel
theorem d_law_224 : decode code 224 = .ok (.iconst 2, 1) := by decide +kernel
theorem d_law_225 : decode code 225 = .ok (.iadd, 1) := by decide +kernel
theorem d_law_226 : decode code 226 = .ok (.iaload, 1) := by decide +kernel
theorem d_law_227 : decode code 227 = .ok (.invokevirtual 27, 3) := by decide +kernel
theorem d_law_230 : decode code 230 = .ok (.if_icmp .eq 285, 3) := by decide +kernel
theorem d_law_233 : decode code 233 = .ok (.iconst 0, 1) := by decide +kernel
theorem d_law_234 : decode code 234 = .ok (.ireturn, 1) := by decide +kernel
theorem d_law_235 : decode code 235 = .ok (.aload_n 1, 1) := by decide +kernel
theorem d_law_236 : decode code 236 = .ok (.invokevirtual 28, 3) := by decide +kernel
theorem d_law_239 : decode code 239 = .ok (.aload_n 2, 1) := by decide +kernel
theorem d_law_240 : decode code 240 = .ok (.invokevirtual 32, 3) := by decide +kernel
theorem d_law_243 : decode code 243 = .ok (.if_icmp .eq 272, 3) := by decide +kernel
theorem d_law_246 : decode code 246 = .ok (.iconst 0, 1) := by decide +kernel
theorem d_law_247 : decode code 247 = .ok (.ireturn, 1) := by decide +kernel
theorem d_law_248 : decode code 248 = .ok (.aload_n 1, 1) := by decide +kernel
theorem d_law_249 : decode code 249 = .ok (.aload_n 0, 1) := by decide +kernel
theorem d_law_250 : decode code 250 = .ok (.iload_n 3, 1) := by decide +kernel
theorem d_law_251 : decode code 251 = .ok (.iconst 1, 1) := by decide +kernel
theorem d_law_252 : decode code 252 = .ok (.iadd, 1) := by decide +kernel
theorem d_law_253 : decode code 253 = .ok (.iaload, 1) := by decide +kernel
theorem d_law_254 : decode code 254 = .ok (.invokevirtual 33, 3) := by decide +kernel
theorem d_law_257 : decode code 257 = .ok (.aload_n 2, 1) := by decide +kernel
theorem d_law_258 : decode code 258 = .ok (.aload_n 0, 1) := by decide +kernel
theorem d_law_259 : decode code 259 = .ok (.iload_n 3, 1) := by decide +kernel
theorem d_law_260 : decode code 260 = .ok (.iconst 1, 1) := by decide +kernel
theorem d_law_261 : decode code 261 = .ok (.iadd, 1) := by decide +kernel
theorem d_law_262 : decode code 262 = .ok (.iaload, 1) := by decide +kernel
theorem d_law_263 : decode code 263 = .ok (.invokevirtual 37, 3) := by decide +kernel
theorem d_law_266 : decode code 266 = .ok (.if_icmp .eq 249, 3) := by decide +kernel
theorem d_law_269 : decode code 269 = .ok (.iconst 0, 1) := by decide +kernel
theorem d_law_270 : decode code 270 = .ok (.ireturn, 1) := by decide +kernel
theorem d_law_271 : decode code 271 = .ok (.aload_n 1, 1) := by decide +kernel
theorem d_law_272 : decode code 272 = .ok (.aload_n 0, 1) := by decide +kernel
theorem d_law_273 : decode code 273 = .ok (.iload_n 3, 1) := by decide +kernel
theorem d_law_274 : decode code 274 = .ok (.iconst 1, 1) := by decide +kernel
theorem d_law_275 : decode code 275 = .ok (.iadd, 1) := by decide +kernel
theorem d_law_276 : decode code 276 = .ok (.iaload, 1) := by decide +kernel
theorem d_law_277 : decode code 277 = .ok (.aload_n 0, 1) := by decide +kernel
theorem d_law_278 : decode code 278 = .ok (.iload_n 3, 1) := by decide +kernel
theorem d_law_279 : decode code 279 = .ok (.iconst 2, 1) := by decide +kernel
theorem d_law_280 : decode code 280 = .ok (.iadd, 1) := by decide +kernel
theorem d_law_281 : decode code 281 = .ok (.iaload, 1) := by decide +kernel
theorem d_law_282 : decode code 282 = .ok (.invokevirtual 38, 3) := by decide +kernel
theorem d_law_285 : decode code 285 = .ok (.aload_n 2, 1) := by decide +kernel
theorem d_law_286 : decode code 286 = .ok (.aload_n 0, 1) := by decide +kernel
theorem d_law_287 : decode code 287 = .ok (.iload_n 3, 1) := by decide +kernel
theorem d_law_288 : decode code 288 = .ok (.iconst 1, 1) := by decide +kernel
theorem d_law_289 : decode code 289 = .ok (.iadd, 1) := by decide +kernel
theorem d_law_290 : decode code 290 = .ok (.iaload, 1) := by decide +kernel
theorem d_law_291 : decode code 291 = .ok (.aload_n 0, 1) := by decide +kernel
end
section
theorem d_law_292 : decode code 292 = .ok (.iload_n 3, 1) := by decide +kernel
theorem d_law_293 : decode code 293 = .ok (.iconst 2, 1) := by decide +kernel
theorem d_law_294 : decode code 294 = .ok (.iadd, 1) := by decide +kernel
theorem d_law_295 : decode code 295 = .ok (.iaload, 1) := by decide +kernel
theorem d_law_296 : decode code 296 = .ok (.invokevirtual 41, 3) := by decide +kernel
theorem d_law_299 : decode code 299 = .ok (.if_icmp .eq 216, 3) := by decide +kernel
theorem d_law_302 : decode code 302 = .ok (.iconst 0, 1) := by decide +kernel
theorem d_law_303 : decode code 303 = .ok (.ireturn, 1) := by decide +kernel
theorem d_law_304 : decode code 304 = .ok (.aload_n 1, 1) := by decide +kernel
theorem d_law_305 : decode code 305 = .ok (.aload_n 0, 1) := by decide +kernel
theorem d_law_306 : decode code 306 = .ok (.iload_n 3, 1) := by decide +kernel
theorem d_law_307 : decode code 307 = .ok (.iconst 1, 1) := by decide +kernel
theorem d_law_308 : decode code 308 = .ok (.iadd, 1) := by decide +kernel
theorem d_law_309 : decode code 309 = .ok (.iaload, 1) := by decide +kernel
theorem d_law_310 : decode code 310 = .ok (.invokevirtual 42, 3) := by decide +kernel
theorem d_law_313 : decode code 313 = .ok (.aload_n 2, 1) := by decide +kernel
theorem d_law_314 : decode code 314 = .ok (.aload_n 0, 1) := by decide +kernel
theorem d_law_315 : decode code 315 = .ok (.iload_n 3, 1) := by decide +kernel
theorem d_law_316 : decode code 316 = .ok (.iconst 1, 1) := by decide +kernel
theorem d_law_317 : decode code 317 = .ok (.iadd, 1) := by decide +kernel
theorem d_law_318 : decode code 318 = .ok (.iaload, 1) := by decide +kernel
theorem d_law_319 : decode code 319 = .ok (.invokevirtual 45, 3) := by decide +kernel
theorem d_law_322 : decode code 322 = .ok (.if_icmp .eq 193, 3) := by decide +kernel
theorem d_law_325 : decode code 325 = .ok (.iconst 0, 1) := by decide +kernel
theorem d_law_326 : decode code 326 = .ok (.ireturn, 1) := by decide +kernel
theorem d_law_327 : decode code 327 = .ok (.aload_n 1, 1) := by decide +kernel
theorem d_law_328 : decode code 328 = .ok (.aload_n 0, 1) := by decide +kernel
theorem d_law_329 : decode code 329 = .ok (.iload_n 3, 1) := by decide +kernel
theorem d_law_330 : decode code 330 = .ok (.iconst 1, 1) := by decide +kernel
theorem d_law_331 : decode code 331 = .ok (.iadd, 1) := by decide +kernel
theorem d_law_332 : decode code 332 = .ok (.iaload, 1) := by decide +kernel
theorem d_law_333 : decode code 333 = .ok (.invokevirtual 46, 3) := by decide +kernel
theorem d_law_336 : decode code 336 = .ok (.aload_n 2, 1) := by decide +kernel
theorem d_law_337 : decode code 337 = .ok (.aload_n 0, 1) := by decide +kernel
theorem d_law_338 : decode code 338 = .ok (.iload_n 3, 1) := by decide +kernel
theorem d_law_339 : decode code 339 = .ok (.iconst 1, 1) := by decide +kernel
theorem d_law_340 : decode code 340 = .ok (.iadd, 1) := by decide +kernel
theorem d_law_341 : decode code 341 = .ok (.iaload, 1) := by decide +kernel
theorem d_law_342 : decode code 342 = .ok (.invokevirtual 49, 3) := by decide +kernel
theorem d_law_345 : decode code 345 = .ok (.if_icmp .eq 170, 3) := by decide +kernel
theorem d_law_348 : decode code 348 = .ok (.iconst 0, 1) := by decide +kernel
theorem d_law_349 : decode code 349 = .ok (.ireturn, 1) := by decide +kernel
theorem d_law_350 : decode code 350 = .ok (.aload_n 1, 1) := by decide +kernel
theorem d_law_351 : decode code 351 = .ok (.aload_n 0, 1) := by decide +kernel
theorem d_law_352 : decode code 352 = .ok (.iload_n 3, 1) := by decide +kernel
theorem d_law_353 : decode code 353 = .ok (.iconst 1, 1) := by decide +kernel
theorem d_law_354 : decode code 354 = .ok (.iadd, 1) := by decide +kernel
theorem d_law_355 : decode code 355 = .ok (.iaload, 1) := by decide +kernel
theorem d_law_356 : decode code 356 = .ok (.aload_n 0, 1) := by decide +kernel
theorem d_law_357 : decode code 357 = .ok (.iload_n 3, 1) := by decide +kernel
theorem d_law_358 : decode code 358 = .ok (.iconst 2, 1) := by decide +kernel
theorem d_law_359 : decode code 359 = .ok (.iadd, 1) := by decide +kernel
theorem d_law_360 : decode code 360 = .ok (.iaload, 1) := by decide +kernel
theorem d_law_361 : decode code 361 = .ok (.invokevirtual 50, 3) := by decide +kernel
theorem d_law_364 : decode code 364 = .ok (.aload_n 2, 1) := by decide +kernel
theorem d_law_365 : decode code 365 = .ok (.aload_n 0, 1) := by decide +kernel
theorem d_law_366 : decode code 366 = .ok (.iload_n 3, 1) := by decide +kernel
theorem d_law_367 : decode code 367 = .ok (.iconst 1, 1) := by decide +kernel
theorem d_law_368 : decode code 368 = .ok (.iadd, 1) := by decide +kernel
theorem d_law_369 : decode code 369 = .ok (.iaload, 1) := by decide +kernel
theorem d_law_370 : decode code 370 = .ok (.aload_n 0, 1) := by decide +kernel
theorem d_law_371 : decode code 371 = .ok (.iload_n 3, 1) := by decide +kernel
theorem d_law_372 : decode code 372 = .ok (.iconst 2, 1) := by decide +kernel
theorem d_law_373 : decode code 373 = .ok (.iadd, 1) := by decide +kernel
theorem d_law_374 : decode code 374 = .ok (.iaload, 1) := by decide +kernel
theorem d_law_375 : decode code 375 = .ok (.invokevirtual 53, 3) := by decide +kernel
theorem d_law_378 : decode code 378 = .ok (.if_icmp .eq 137, 3) := by decide +kernel
theorem d_law_381 : decode code 381 = .ok (.iconst 0, 1) := by decide +kernel
theorem d_law_382 : decode code 382 = .ok (.ireturn, 1) := by decide +kernel
theorem d_law_383 : decode code 383 = .ok (.aload_n 1, 1) := by decide +kernel
theorem d_law_384 : decode code 384 = .ok (.aload_n 0, 1) := by decide +kernel
theorem d_law_385 : decode code 385 = .ok (.iload_n 3, 1) := by decide +kernel
theorem d_law_386 : decode code 386 = .ok (.iconst 1, 1) := by decide +kernel
theorem d_law_387 : decode code 387 = .ok (.iadd, 1) := by decide +kernel
theorem d_law_388 : decode code 388 = .ok (.iaload, 1) := by decide +kernel
theorem d_law_389 : decode code 389 = .ok (.invokevirtual 54, 3) := by decide +kernel
theorem d_law_392 : decode code 392 = .ok (.aload_n 2, 1) := by decide +kernel
theorem d_law_393 : decode code 393 = .ok (.aload_n 0, 1) := by decide +kernel
theorem d_law_394 : decode code 394 = .ok (.iload_n 3, 1) := by decide +kernel
theorem d_law_395 : decode code 395 = .ok (.iconst 1, 1) := by decide +kernel
theorem d_law_396 : decode code 396 = .ok (.iadd, 1) := by decide +kernel
theorem d_law_397 : decode code 397 = .ok (.iaload, 1) := by decide +kernel
theorem d_law_398 : decode code 398 = .ok (.invokevirtual 57, 3) := by decide +kernel
theorem d_law_401 : decode code 401 = .ok (.if_icmp .eq 114, 3) := by decide +kernel
theorem d_law_404 : decode code 404 = .ok (.iconst 0, 1) := by decide +kernel
theorem d_law_405 : decode code 405 = .ok (.ireturn, 1) := by decide +kernel
theorem d_law_406 : decode code 406 = .ok (.aload_n 1, 1) := by decide +kernel
theorem d_law_407 : decode code 407 = .ok (.aload_n 0, 1) := by decide +kernel
theorem d_law_408 : decode code 408 = .ok (.iload_n 3, 1) := by decide +kernel
theorem d_law_409 : decode code 409 = .ok (.iconst 1, 1) := by decide +kernel
theorem d_law_410 : decode code 410 = .ok (.iadd, 1) := by decide +kernel
theorem d_law_411 : decode code 411 = .ok (.iaload, 1) := by decide +kernel
theorem d_law_412 : decode code 412 = .ok (.invokevirtual 58, 3) := by decide +kernel
theorem d_law_415 : decode code 415 = .ok (.aload_n 2, 1) := by decide +kernel
theorem d_law_416 : decode code 416 = .ok (.aload_n 0, 1) := by decide +kernel
theorem d_law_417 : decode code 417 = .ok (.iload_n 3, 1) := by decide +kernel
theorem d_law_418 : decode code 418 = .ok (.iconst 1, 1) := by decide +kernel
theorem d_law_419 : decode code 419 = .ok (.iadd, 1) := by decide +kernel
theorem d_law_420 : decode code 420 = .ok (.iaload, 1) := by decide +kernel
theorem d_law_421 : decode code 421 = .ok (.invokevirtual 61, 3) := by decide +kernel
theorem d_law_424 : decode code 424 = .ok (.if_icmp .eq 91, 3) := by decide +kernel
theorem d_law_427 : decode code 427 = .ok (.iconst 0, 1) := by decide +kernel
theorem d_law_428 : decode code 428 = .ok (.ireturn, 1) := by decide +kernel
theorem d_law_429 : decode code 429 = .ok (.aload_n 1, 1) := by decide +kernel
theorem d_law_430 : decode code 430 = .ok (.aload_n 0, 1) := by decide +kernel
theorem d_law_431 : decode code 431 = .ok (.iload_n 3, 1) := by decide +kernel
theorem d_law_432 : decode code 432 = .ok (.iconst 1, 1) := by decide +kernel
theorem d_law_433 : decode code 433 = .ok (.iadd, 1) := by decide +kernel
theorem d_law_434 : decode code 434 = .ok (.iaload, 1) := by decide +kernel
theorem d_law_435 : decode code 435 = .ok (.aload_n 0, 1) := by decide +kernel
theorem d_law_436 : decode code 436 = .ok (.iload_n 3, 1) := by decide +kernel
theorem d_law_437 : decode code 437 = .ok (.iconst 2, 1) := by decide +kernel
theorem d_law_438 : decode code 438 = .ok (.iadd, 1) := by decide +kernel
theorem d_law_439 : decode code 439 = .ok (.iaload, 1) := by decide +kernel
theorem d_law_440 : decode code 440 = .ok (.i2l, 1) := by decide +kernel
theorem d_law_441 : decode code 441 = .ok (.bipush 32, 2) := by decide +kernel
theorem d_law_443 : decode code 443 = .ok (.lshl, 1) := by decide +kernel
theorem d_law_444 : decode code 444 = .ok (.aload_n 0, 1) := by decide +kernel
theorem d_law_445 : decode code 445 = .ok (.iload_n 3, 1) := by decide +kernel
theorem d_law_446 : decode code 446 = .ok (.iconst 3, 1) := by decide +kernel
theorem d_law_447 : decode code 447 = .ok (.iadd, 1) := by decide +kernel
theorem d_law_448 : decode code 448 = .ok (.iaload, 1) := by decide +kernel
theorem d_law_449 : decode code 449 = .ok (.i2l, 1) := by decide +kernel
theorem d_law_450 : decode code 450 = .ok (.ldc2_w 62, 3) := by decide +kernel
theorem d_law_453 : decode code 453 = .ok (.land, 1) := by decide +kernel
theorem d_law_454 : decode code 454 = .ok (.lor, 1) := by decide +kernel
theorem d_law_455 : decode code 455 = .ok (.invokevirtual 64, 3) := by decide +kernel
theorem d_law_458 : decode code 458 = .ok (.aload_n 2, 1) := by decide +kernel
theorem d_law_459 : decode code 459 = .ok (.aload_n 0, 1) := by decide +kernel
theorem d_law_460 : decode code 460 = .ok (.iload_n 3, 1) := by decide +kernel
theorem d_law_461 : decode code 461 = .ok (.iconst 1, 1) := by decide +kernel
theorem d_law_462 : decode code 462 = .ok (.iadd, 1) := by decide +kernel
theorem d_law_463 : decode code 463 = .ok (.iaload, 1) := by decide +kernel
theorem d_law_464 : decode code 464 = .ok (.aload_n 0, 1) := by decide +kernel
theorem d_law_465 : decode code 465 = .ok (.iload_n 3, 1) := by decide +kernel
theorem d_law_466 : decode code 466 = .ok (.iconst 2, 1) := by decide +kernel
theorem d_law_467 : decode code 467 = .ok (.iadd, 1) := by decide +kernel
theorem d_law_468 : decode code 468 = .ok (.iaload, 1) := by decide +kernel
theorem d_law_469 : decode code 469 = .ok (.i2l, 1) := by decide +kernel
theorem d_law_470 : decode code 470 = .ok (.bipush 32, 2) := by decide +kernel
theorem d_law_472 : decode code 472 = .ok (.lshl, 1) := by decide +kernel
theorem d_law_473 : decode code 473 = .ok (.aload_n 0, 1) := by decide +kernel
theorem d_law_474 : decode code 474 = .ok (.iload_n 3, 1) := by decide +kernel
theorem d_law_475 : decode code 475 = .ok (.iconst 3, 1) := by decide +kernel
theorem d_law_476 : decode code 476 = .ok (.iadd, 1) := by decide +kernel
theorem d_law_477 : decode code 477 = .ok (.iaload, 1) := by decide +kernel
theorem d_law_478 : decode code 478 = .ok (.i2l, 1) := by decide +kernel
theorem d_law_479 : decode code 479 = .ok (.ldc2_w 62, 3) := by decide +kernel
theorem d_law_482 : decode code 482 = .ok (.land, 1) := by decide +kernel
theorem d_law_483 : decode code 483 = .ok (.lor, 1) := by decide +kernel
theorem d_law_484 : decode code 484 = .ok (.invokevirtual 68, 3) := by decide +kernel
theorem d_law_487 : decode code 487 = .ok (.if_icmp .eq 28, 3) := by decide +kernel
theorem d_law_490 : decode code 490 = .ok (.iconst 0, 1) := by decide +kernel
theorem d_law_491 : decode code 491 = .ok (.ireturn, 1) := by decide +kernel
theorem d_law_492 : decode code 492 = .ok (.aload_n 1, 1) := by decide +kernel
theorem d_law_493 : decode code 493 = .ok (.aload_n 0, 1) := by decide +kernel
theorem d_law_494 : decode code 494 = .ok (.iload_n 3, 1) := by decide +kernel
theorem d_law_495 : decode code 495 = .ok (.iconst 1, 1) := by decide +kernel
theorem d_law_496 : decode code 496 = .ok (.iadd, 1) := by decide +kernel
theorem d_law_497 : decode code 497 = .ok (.iaload, 1) := by decide +kernel
theorem d_law_498 : decode code 498 = .ok (.invokevirtual 69, 3) := by decide +kernel
theorem d_law_501 : decode code 501 = .ok (.aload_n 2, 1) := by decide +kernel
theorem d_law_502 : decode code 502 = .ok (.aload_n 0, 1) := by decide +kernel
theorem d_law_503 : decode code 503 = .ok (.iload_n 3, 1) := by decide +kernel
theorem d_law_504 : decode code 504 = .ok (.iconst 1, 1) := by decide +kernel
theorem d_law_505 : decode code 505 = .ok (.iadd, 1) := by decide +kernel
theorem d_law_506 : decode code 506 = .ok (.iaload, 1) := by decide +kernel
theorem d_law_507 : decode code 507 = .ok (.invokevirtual 72, 3) := by decide +kernel
theorem d_law_510 : decode code 510 = .ok (.if_icmp .eq 5, 3) := by decide +kernel
theorem d_law_513 : decode code 513 = .ok (.iconst 0, 1) := by decide +kernel
theorem d_law_514 : decode code 514 = .ok (.ireturn, 1) := by decide +kernel
theorem d_law_515 : decode code 515 = .ok (.iinc 3 4, 3) := by decide +kernel
theorem d_law_518 : decode code 518 = .ok (.goto (-500), 3) := by decide +kernel
theorem d_law_521 : decode code 521 = .ok (.iconst 1, 1) := by decide +kernel
theorem d_law_522 : decode code 522 = .ok (.ireturn, 1) := by decide +kernel
end
section
/-! A HEAP BY NUMBERS: cells are numbered from 1 on in the order of their making; 'ad' says where a numbered cell lies, 'ca' which array class it has. -/
abbrev XE : Type := (FieldType × vp_A) ⊕ (Nat × List Value)
abbrev XH : Type := Nat → XE
def xN : XE := .inr (999, [])
def xv (ad : Nat → Nat) (v : Value) : Value := match v with
  | .ref k => .ref (ad k)
  | .int x => .int x
  | .long x => .long x
  | .float x => .float x
  | .double x => .double x
  | .null => .null
  | .retAddr x => .retAddr x
theorem xv_cat (ad : Nat → Nat) (v : Value) : (xv ad v).category = v.category := by cases v <;> rfl
def xa (ad : Nat → Nat) (a : vp_A) : vp_A := match a with
  | (n, .inl f) => (n, .inl f)
  | (n, .inr (.inl f)) => (n, .inr (.inl f))
  | (n, .inr (.inr (.inl f))) => (n, .inr (.inr (.inl f)))
  | (n, .inr (.inr (.inr (.inl f)))) => (n, .inr (.inr (.inr (.inl f))))
  | (n, .inr (.inr (.inr (.inr f)))) => (n, .inr (.inr (.inr (.inr (fun j => (f j).map ad)))))
def xe (ad : Nat → Nat) (cA : ClassId) (z : XE) : va_E := match z with
  | .inl (_, a) => .inl (cA, xa ad a)
  | .inr (ci, fs) => .inr (ci, fs.map (xv ad))
def xw (ad : Nat → Nat) (ca : Nat → ClassId) (n : Nat) (h : XH) : va_W := (List.range n).map (fun k => (ad (k + 1), xe ad (ca (k + 1)) (h (k + 1))))
theorem xw_len (ad : Nat → Nat) (ca : Nat → ClassId) (n : Nat) (h : XH) : (xw ad ca n h).length = n := by simp [xw]
theorem xw_at {ad : Nat → Nat} {ca : Nat → ClassId} {n : Nat} {h : XH} {j : Nat} (hj : j < n) : (xw ad ca n h)[j]? = some (ad (j + 1), xe ad (ca (j + 1)) (h (j + 1))) := by
  simp [xw, List.getElem?_map, List.getElem?_range hj]
theorem xw_at1 {ad : Nat → Nat} {ca : Nat → ClassId} {n : Nat} {h : XH} {k : Nat} (h1 : 1 ≤ k) (h2 : k ≤ n) : (xw ad ca n h)[k - 1]? = some (ad k, xe ad (ca k) (h k)) := by
  obtain ⟨j, rfl⟩ : ∃ j, k = j + 1 := ⟨k - 1, by omega⟩
  exact xw_at (by omega)
theorem xw_no {ad : Nat → Nat} {ca : Nat → ClassId} {n : Nat} {h : XH} {j : Nat} (hj : n ≤ j) : (xw ad ca n h)[j]? = none := by
  apply List.getElem?_eq_none
  rw [xw_len]; exact hj
theorem xw_some {ad : Nat → Nat} {ca : Nat → ClassId} {n : Nat} {h : XH} {j : Nat} {q : Nat × va_E} (hq : (xw ad ca n h)[j]? = some q) : j < n ∧ q = (ad (j + 1), xe ad (ca (j + 1)) (h (j + 1))) := by
  rcases Nat.lt_or_ge j n with hj | hj
  · rw [xw_at hj] at hq
    exact ⟨hj, (Option.some.inj hq).symm⟩
  · rw [xw_no hj] at hq
    cases hq
theorem xw_set {ad : Nat → Nat} {ca : Nat → ClassId} {n : Nat} {h : XH} {k : Nat} {z : XE} (h1 : 1 ≤ k) (h2 : k ≤ n) : (xw ad ca n h).set (k - 1) (ad k, xe ad (ca k) z) = xw ad ca n (va_up h k z) := by
  apply List.ext_getElem?
  intro i
  rw [List.getElem?_set, xw_len]
  rcases Nat.lt_or_ge i n with hi | hi
  · by_cases hik : k - 1 = i
    · have e1 : i + 1 = k := by omega
      rw [if_pos hik, if_pos (by omega), xw_at hi, e1, va_up_self]
    · have e1 : i + 1 ≠ k := by omega
      rw [if_neg hik, xw_at hi, xw_at hi, va_up_ne _ _ e1]
  · rw [if_neg (by omega), xw_no hi, xw_no hi]
/-- references of a cell, of a value: not beyond n -/
def vok (n : Nat) (v : Value) : Prop := match v with
  | .ref r => r ≤ n
  | _ => True
def xl (n : Nat) (vs : List Value) : Prop := ∀ v ∈ vs, vok n v
def xlv (n : Nat) (lv : List (Nat × Value)) : Prop := ∀ q ∈ lv, vok n q.2
def xf (n : Nat) (z : XE) : Prop := match z with
  | .inl (_, (_, .inr (.inr (.inr (.inr f))))) => ∀ j r, f j = some r → r ≤ n
  | .inl _ => True
  | .inr (_, fs) => xl n fs
theorem vok_mono {n n' : Nat} {v : Value} (h : vok n v) (hn : n ≤ n') : vok n' v := by
  cases v <;> first | trivial | exact Nat.le_trans h hn
theorem xl_mono {n n' : Nat} {vs : List Value} (h : xl n vs) (hn : n ≤ n') : xl n' vs := fun v hv => vok_mono (h v hv) hn
theorem xlv_mono {n n' : Nat} {lv : List (Nat × Value)} (h : xlv n lv) (hn : n ≤ n') : xlv n' lv := fun q hq => vok_mono (h q hq) hn
theorem xl_nil {n : Nat} : xl n [] := fun v h => by cases h
theorem xl_cons {n : Nat} {v : Value} {vs : List Value} (h1 : vok n v) (h2 : xl n vs) : xl n (v :: vs) := by
  intro w hw
  rcases List.mem_cons.mp hw with h | h
  · rw [h]; exact h1
  · exact h2 w h
theorem xl_hd {n : Nat} {v : Value} {vs : List Value} (h : xl n (v :: vs)) : vok n v := h v List.mem_cons_self
theorem xl_tl {n : Nat} {v : Value} {vs : List Value} (h : xl n (v :: vs)) : xl n vs := fun w hw => h w (List.mem_cons_of_mem _ hw)
theorem xl_app {n : Nat} {a b : List Value} (h : xl n (a ++ b)) : xl n b := fun w hw => h w (List.mem_append_right _ hw)
theorem xf_mono {n n' : Nat} {z : XE} (h : xf n z) (hn : n ≤ n') : xf n' z := by
  rcases z with ⟨ty, m, f | f | f | f | f⟩ | ⟨ci, fs⟩
  · trivial
  · trivial
  · trivial
  · trivial
  · exact fun j r hr => Nat.le_trans (h j r hr) hn
  · exact xl_mono h hn
theorem xv_ext {n : Nat} {ad ad' : Nat → Nat} (ha : ∀ k, k ≤ n → ad' k = ad k) {v : Value} (h : vok n v) : xv ad' v = xv ad v := by
  cases v <;> first | rfl | exact congrArg Value.ref (ha _ h)
theorem xl_ext {n : Nat} {ad ad' : Nat → Nat} (ha : ∀ k, k ≤ n → ad' k = ad k) {vs : List Value} (h : xl n vs) : vs.map (xv ad') = vs.map (xv ad) := List.map_congr_left fun v hv => xv_ext ha (h v hv)
theorem xe_ext {n : Nat} {ad ad' : Nat → Nat} (ha : ∀ k, k ≤ n → ad' k = ad k) {z : XE} (cA : ClassId) (h : xf n z) : xe ad' cA z = xe ad cA z := by
  rcases z with ⟨ty, m, f | f | f | f | f⟩ | ⟨ci, fs⟩
  · rfl
  · rfl
  · rfl
  · rfl
  · have e1 : (fun j => (f j).map ad') = (fun j => (f j).map ad) := by
      funext j
      cases hf : f j with
      | none => rfl
      | some r => simp [ha r (h j r hf)]
    simp only [xe, xa, e1]
  · have e1 := xl_ext ha (vs := fs) h
    simp only [xe, e1]
def xm (ad : Nat → Nat) (lv : List (Nat × Value)) : List (Nat × Value) := lv.map (fun q => (q.1, xv ad q.2))
theorem xm_ext {n : Nat} {ad ad' : Nat → Nat} (ha : ∀ k, k ≤ n → ad' k = ad k) {lv : List (Nat × Value)} (h : xlv n lv) : xm ad' lv = xm ad lv := List.map_congr_left fun q hq => by rw [xv_ext ha (h q hq)]
theorem xm_at {ad : Nat → Nat} {lv : List (Nat × Value)} {k i : Nat} {v : Value} (h : lv[k]? = some (i, v)) : (xm ad lv)[k]? = some (i, xv ad v) := by simp [xm, h]
theorem xm_st (ad : Nat → Nat) (i : Nat) (lv : List (Nat × Value)) : (xm ad lv).filter (fun q => !(q.1 == i) && !(q.1 + 1 == i && q.2.category == 2)) = xm ad (lv.filter (fun q => !(q.1 == i) && !(q.1 + 1 == i && q.2.category == 2))) := by
  simp only [xm, List.filter_map]
  congr 1
  apply List.filter_congr
  intro q _
  simp [Function.comp, xv_cat]
theorem xm_st2 (ad : Nat → Nat) (i : Nat) (lv : List (Nat × Value)) : (xm ad lv).filter (fun q => !(q.1 == i) && (!(q.1 == i + 1) && !(q.1 + 1 == i && q.2.category == 2))) = xm ad (lv.filter (fun q => !(q.1 == i) && (!(q.1 == i + 1) && !(q.1 + 1 == i && q.2.category == 2)))) := by
  simp only [xm, List.filter_map]
  congr 1
  apply List.filter_congr
  intro q _
  simp [Function.comp, xv_cat]
theorem xlv_st {n i : Nat} {v : Value} {lv : List (Nat × Value)} (P : Nat × Value → Bool) (h1 : vok n v) (h2 : xlv n lv) : xlv n ((i, v) :: lv.filter P) := by
  intro q hq
  rcases List.mem_cons.mp hq with h | h
  · rw [h]; exact h1
  · exact h2 q (List.mem_filter.mp h).1
theorem xlv_at {n k i : Nat} {v : Value} {lv : List (Nat × Value)} (h : xlv n lv) (hk : lv[k]? = some (i, v)) : vok n v := h (i, v) (List.mem_of_getElem? hk)
theorem xlv_pick {n : Nat} {lv lv' : List (Nat × Value)} {ks : List Nat} (h : xlv n lv) (hk : lv_pick lv ks = lv') : xlv n lv' := by
  intro q hq
  rw [← hk] at hq
  obtain ⟨k, -, e⟩ := List.mem_filterMap.mp hq
  exact h q (List.mem_of_getElem? e)
theorem xm_pick (ad : Nat → Nat) (lv : List (Nat × Value)) (ks : List Nat) : lv_pick (xm ad lv) ks = xm ad (lv_pick lv ks) := by
  simp only [lv_pick, xm, List.map_filterMap]
  congr 1
  funext k
  simp
/-- the relation between the numbered heap and the machine's -/
def xR (D : va_G) (cl : List vw_C) (A : Nat → Prop) (s : State) (n : Nat) (h : XH) (ad : Nat → Nat) (ca : Nat → ClassId) (H : Heap) : Prop :=
  va_P D cl (xw ad ca n h) H ∧ va_D A (xw ad ca n h) ∧ (∀ k, xf n (h k)) ∧ (∀ (k : Nat) (ty : FieldType) (a : vp_A), h k = .inl (ty, a) → ArrOfT s (ca k) ty ∧ va_RA s (ca k) ty) ∧ ∀ k, ¬ (1 ≤ k ∧ k ≤ n) → h k = xN
theorem xR.cell {D : va_G} {cl : List vw_C} {A : Nat → Prop} {s : State} {n : Nat} {h : XH} {ad : Nat → Nat} {ca : Nat → ClassId} {H : Heap} (hR : xR D cl A s n h ad ca H) {k : Nat} {z : XE} (hz : h k = z) (hn : z ≠ xN) : 1 ≤ k ∧ k ≤ n ∧ (xw ad ca n h)[k - 1]? = some (ad k, xe ad (ca k) z) := by
  have hk : 1 ≤ k ∧ k ≤ n := Classical.byContradiction fun q => hn (hz.symm.trans (hR.2.2.2.2 k q))
  refine ⟨hk.1, hk.2, ?_⟩
  rw [xw_at1 hk.1 hk.2, hz]
theorem xR.set {D : va_G} {cl : List vw_C} {A : Nat → Prop} {s : State} {n : Nat} {h : XH} {ad : Nat → Nat} {ca : Nat → ClassId} {H H1 : Heap} (hR : xR D cl A s n h ad ca H) {k : Nat} {z : XE} (h1 : 1 ≤ k) (h2 : k ≤ n) (hP : va_P D cl ((xw ad ca n h).set (k - 1) (ad k, xe ad (ca k) z)) H1) (hD : va_D A ((xw ad ca n h).set (k - 1) (ad k, xe ad (ca k) z))) (hz : xf n z) (ht : ∀ (ty : FieldType) (a : vp_A), z = .inl (ty, a) → ∃ a0, h k = .inl (ty, a0)) : xR D cl A s n (va_up h k z) ad ca H1 := by
  rw [xw_set h1 h2] at hP hD
  refine ⟨hP, hD, fun j => ?_, fun j ty a e => ?_, fun j hj => ?_⟩
  · by_cases hjk : j = k
    · subst hjk; rw [va_up_self]; exact hz
    · rw [va_up_ne _ _ hjk]; exact hR.2.2.1 j
  · by_cases hjk : j = k
    · subst hjk
      rw [va_up_self] at e
      obtain ⟨a0, e0⟩ := ht ty a e
      exact hR.2.2.2.1 j ty a0 e0
    · rw [va_up_ne _ _ hjk] at e
      exact hR.2.2.2.1 j ty a e
  · rw [va_up_ne _ _ (fun q => hj (by rw [q]; exact ⟨h1, h2⟩))]
    exact hR.2.2.2.2 j hj
/-- a new cell -/
theorem xw_push {n : Nat} {h : XH} {ad : Nat → Nat} {ca : Nat → ClassId} {q : Nat} {cA : ClassId} {z : XE} (hf : ∀ k, xf n (h k)) : xw ad ca n h ++ [(q, xe (va_up ad (n + 1) q) cA z)] = xw (va_up ad (n + 1) q) (va_up ca (n + 1) cA) (n + 1) (va_up h (n + 1) z) := by
  apply List.ext_getElem?
  intro i
  rcases Nat.lt_trichotomy i n with hi | hi | hi
  · have hne : i + 1 ≠ n + 1 := by omega
    have e1 : xe (va_up ad (n + 1) q) (ca (i + 1)) (h (i + 1)) = xe ad (ca (i + 1)) (h (i + 1)) := xe_ext (n := n) (fun k hk => va_up_ne _ _ (by omega)) _ (hf (i + 1))
    rw [List.getElem?_append_left (by rw [xw_len]; exact hi), xw_at hi, xw_at (Nat.lt_succ_of_lt hi), va_up_ne ad _ hne, va_up_ne ca _ hne, va_up_ne h _ hne, e1]
  · subst hi
    rw [List.getElem?_append_right (by rw [xw_len]; exact Nat.le_refl i), xw_len, xw_at (by omega), va_up_self, va_up_self, va_up_self]
    simp
  · rw [xw_no (by omega)]
    apply List.getElem?_eq_none
    simp [xw_len]; omega
theorem xR.push {D : va_G} {cl : List vw_C} {A : Nat → Prop} {s : State} {n : Nat} {h : XH} {ad : Nat → Nat} {ca : Nat → ClassId} {H H1 : Heap} (hR : xR D cl A s n h ad ca H) {q : Nat} {cA : ClassId} {z : XE} {z' : va_E} (e0 : xe (va_up ad (n + 1) q) cA z = z') (hP : va_P D cl (xw ad ca n h ++ [(q, z')]) H1) (hD : va_D A (xw ad ca n h ++ [(q, z')])) (hz : xf (n + 1) z) (ht : ∀ (ty : FieldType) (a : vp_A), z = .inl (ty, a) → ArrOfT s cA ty ∧ va_RA s cA ty) : xR D cl A s (n + 1) (va_up h (n + 1) z) (va_up ad (n + 1) q) (va_up ca (n + 1) cA) H1 := by
  subst e0
  rw [xw_push hR.2.2.1] at hP hD
  refine ⟨hP, hD, fun j => ?_, fun j ty a e => ?_, fun j hj => ?_⟩
  · by_cases hjk : j = n + 1
    · subst hjk; rw [va_up_self]; exact hz
    · rw [va_up_ne _ _ hjk]; exact xf_mono (hR.2.2.1 j) (Nat.le_succ n)
  · by_cases hjk : j = n + 1
    · subst hjk
      rw [va_up_self] at e
      rw [va_up_self]
      exact ht ty a e
    · rw [va_up_ne _ _ hjk] at e
      rw [va_up_ne _ _ hjk]
      exact hR.2.2.2.1 j ty a e
  · rw [va_up_ne _ _ (by omega)]
    exact hR.2.2.2.2 j (by omega)
theorem xR.moved {D : va_G} {cl : List vw_C} {A B : Nat → Prop} {s t : State} {n : Nat} {h : XH} {ad : Nat → Nat} {ca : Nat → ClassId} {H : Heap} (hR : xR D cl A s n h ad ca H) (hvm : s.vm.Alike t.vm) (hAB : ∀ k, 1 ≤ k → k ≤ n → A (ad k) → B (ad k)) : xR D cl B t n h ad ca H := by
  refine ⟨hR.1, hR.2.1.weaken fun k q hk hq => ?_, hR.2.2.1, fun k ty a e => ?_, hR.2.2.2.2⟩
  · obtain ⟨h1, h2⟩ := xw_some hk
    subst h2
    exact hAB (k + 1) (by omega) (by omega) hq
  · obtain ⟨a1, a2⟩ := hR.2.2.2.1 k ty a e
    exact ⟨arrOfT_moved hvm a1, a2.moved hvm⟩
/-- which cells a method may change -/
def xA (n : Nat) (ad : Nat → Nat) (sz : Nat) : Nat → Prop := fun q => (∃ k, 1 ≤ k ∧ k ≤ n ∧ ad k = q) ∨ sz ≤ q
/-- a method's start and end -/
def xPre (D : va_G) (cl : List vw_C) (NW : List Cond) (AL : List String) (n : Nat) (h : XH) (ad : Nat → Nat) (ca : Nat → ClassId) (U : State) : Prop :=
  xR D cl (fun _ => True) U n h ad ca U.heap ∧ va_K D cl [] U ∧ (∀ w ∈ NW, va_Nw w U) ∧ ∀ C ∈ AL, va_AO C U
def xQc (D : va_G) (cl : List vw_C) (n : Nat) (ad : Nat → Nat) (A : Nat → Prop) (r : Option Value) (n' : Nat) (h' : XH) : Array Value → State → Outcome → State → Prop := fun _ st oc t =>
  (∃ (ad' : Nat → Nat) (ca' : Nat → ClassId), oc = .returned (r.map (xv ad')) ∧ (∀ k, k ≤ n → ad' k = ad k) ∧ n ≤ n' ∧ xl n' r.toList ∧ xR D cl A t n' h' ad' ca' t.heap) ∧ va_F A st t
def XMet (l : Launch) (y : MethodName) (cc : ByteArray) (maxL : Nat) (ret : Option FieldType) (Ts : List Cond) (cl : List vw_C) (NW : List Cond) (AL : List String) (D : va_G) (rm : Room) (mc ms : Nat) (av : List Value) (n : Nat) (h : XH) (r : Option Value) (n' : Nat) (h' : XH) : Prop :=
  ∀ (ad : Nat → Nat) (ca : Nat → ClassId) (sz : Nat), xl n av → Met l y (Cond.code y cc maxL ret :: Ts) rm (va_Pc (av.map (xv ad)) (fun U => U.heap.size = sz ∧ xPre D cl NW AL n h ad ca U)) (xQc D cl n ad (xA n ad sz) r n' h') mc ms (xA n ad sz)
def xGood (NW : List Cond) : Prop := ∀ w ∈ NW, (∃ (a : String) (i : Nat) (b n d g : String), w = .fieldLinkNest a i b n d g) ∨ (∃ (a : String) (i : Nat) (x : MethodName) (g : String), w = .methodLinkNest a i x g)
theorem xNw_warm {NW : List Cond} (hg : xGood NW) {s U : State} (hW : s.WarmedH U.vm) (h : ∀ w ∈ NW, va_Nw w s) : ∀ w ∈ NW, va_Nw w U := by
  intro w hw
  rcases hg w hw with ⟨a, i, b, n, d, g, rfl⟩ | ⟨a, i, x, g, rfl⟩
  · exact va_Nw.warmF hW (h _ hw)
  · exact va_Nw.warmM hW (h _ hw)
theorem xNw_same {NW : List Cond} (hg : xGood NW) {s U : State} (e : s.vm = U.vm) (h : ∀ w ∈ NW, va_Nw w s) : ∀ w ∈ NW, va_Nw w U := by
  intro w hw
  rcases hg w hw with ⟨a, i, b, n, d, g, rfl⟩ | ⟨a, i, x, g, rfl⟩
  · exact va_Nw.same rfl e (h _ hw)
  · exact va_Nw.same rfl e (h _ hw)
/-- what stands fast in a method's body -/
def XC (p : Program) (s : State) (m : MethodId) (args : Array Value) (c : Code) (cc : ByteArray) (nL : Nat) (own : String) (Ts : List Cond) (cl : List vw_C) (NW : List Cond) (AL : List String) (D : va_G) (A : Nat → Prop) : Prop :=
  CallFix p m c cc nL s args Ts own ∧ va_K D cl [] s ∧ (∀ q, s.heap.size ≤ q → A q) ∧ (∀ w ∈ NW, va_Nw w s) ∧ (∀ C ∈ AL, va_AO C s) ∧ xGood NW ∧ ∀ w ∈ Ts, goodWord w = true
/-- the machine stands at pc, locals lv, stack st, the numbered heap h of n cells -/
def XW (p : Program) (l : Launch) (e : Env) (R : Room) (s : State) (m : MethodId) (args : Array Value) (below : List Frame) (meth : Method) (c : Code) (nL : Nat) (cl : List vw_C) (D : va_G) (A : Nat → Prop) (ad0 : Nat → Nat) (n0 : Nat) (cells slots : Nat) (Q : State → Prop) (n : Nat) (h : XH) (pc : Nat) (lv : List (Nat × Value)) (st : List Value) : Prop :=
  ∀ (ad : Nat → Nat) (ca : Nat → ClassId) (H : Heap) (locs : List Loc) (ls : Array Slot), (∀ k, k ≤ n0 → ad k = ad0 k) → n0 ≤ n → xR D cl A s n h ad ca H → va_S A s.heap H locs → xlv n lv → xl n st → lv_has ls nL (xm ad lv) →
    W p l e R s m args below meth c H locs cells slots Q (F0 m pc ls (st.map (xv ad)))
end
section
section XS
variable {p : Program} {l : Launch} {e : Env} {R : Room} {s : State} {m : MethodId} {args : Array Value} {below : List Frame} {meth : Method} {c : Code} {Q : State → Prop}
variable {cc : ByteArray} {nL : Nat} {own : String} {Ts : List Cond} {cl : List vw_C} {NW : List Cond} {AL : List String} {D : va_G} {A : Nat → Prop} {ad0 : Nat → Nat} {n0 : Nat}
variable {n : Nat} {h : XH} {cells slots pc : Nat} {lv : List (Nat × Value)} {st : List Value}
theorem xi_iconst (hC : XC p s m args c cc nL own Ts cl NW AL D A) {z : Int} {v : Int32} (hd : decode cc pc = .ok (.iconst z, 1)) (hv : Int32.ofInt z = v) (k : XW p l e R s m args below meth c nL cl D A ad0 n0 cells slots Q n h (pc + 1) lv (.int v :: st)) : XW p l e R s m args below meth c nL cl D A ad0 n0 cells slots Q n h pc lv st := fun ad ca H locs ls a1 a2 a3 a4 a5 a6 a7 => lv_iconst hC.1.1 hC.1.2.1 hd hv (k ad ca H locs ls a1 a2 a3 a4 a5 (xl_cons trivial a6) a7)
theorem xi_bipush (hC : XC p s m args c cc nL own Ts cl NW AL D A) {z : Int} {v : Int32} (hd : decode cc pc = .ok (.bipush z, 2)) (hv : (Int8.ofInt z).toInt32 = v) (k : XW p l e R s m args below meth c nL cl D A ad0 n0 cells slots Q n h (pc + 2) lv (.int v :: st)) : XW p l e R s m args below meth c nL cl D A ad0 n0 cells slots Q n h pc lv st := fun ad ca H locs ls a1 a2 a3 a4 a5 a6 a7 => lv_bipush hC.1.1 hC.1.2.1 hd hv (k ad ca H locs ls a1 a2 a3 a4 a5 (xl_cons trivial a6) a7)
theorem xi_sipush (hC : XC p s m args c cc nL own Ts cl NW AL D A) {z : Int} {v : Int32} (hd : decode cc pc = .ok (.sipush z, 3)) (hv : (Int16.ofInt z).toInt32 = v) (k : XW p l e R s m args below meth c nL cl D A ad0 n0 cells slots Q n h (pc + 3) lv (.int v :: st)) : XW p l e R s m args below meth c nL cl D A ad0 n0 cells slots Q n h pc lv st := fun ad ca H locs ls a1 a2 a3 a4 a5 a6 a7 => lv_sipush hC.1.1 hC.1.2.1 hd hv (k ad ca H locs ls a1 a2 a3 a4 a5 (xl_cons trivial a6) a7)
theorem xi_lconst (hC : XC p s m args c cc nL own Ts cl NW AL D A) {z : Fin 2} {v : Int64} (hd : decode cc pc = .ok (.lconst z, 1)) (hv : Int64.ofNat (z : Nat) = v) (k : XW p l e R s m args below meth c nL cl D A ad0 n0 cells slots Q n h (pc + 1) lv (.long v :: st)) : XW p l e R s m args below meth c nL cl D A ad0 n0 cells slots Q n h pc lv st := fun ad ca H locs ls a1 a2 a3 a4 a5 a6 a7 => lv_lconst hC.1.1 hC.1.2.1 hd hv (k ad ca H locs ls a1 a2 a3 a4 a5 (xl_cons trivial a6) a7)
theorem xi_null (hC : XC p s m args c cc nL own Ts cl NW AL D A) (hd : decode cc pc = .ok (.aconst_null, 1)) (k : XW p l e R s m args below meth c nL cl D A ad0 n0 cells slots Q n h (pc + 1) lv (.null :: st)) : XW p l e R s m args below meth c nL cl D A ad0 n0 cells slots Q n h pc lv st := fun ad ca H locs ls a1 a2 a3 a4 a5 a6 a7 => lv_null hC.1.1 hC.1.2.1 hd (k ad ca H locs ls a1 a2 a3 a4 a5 (xl_cons trivial a6) a7)
theorem xi_ldc (hC : XC p s m args c cc nL own Ts cl NW AL D A) {i : Nat} {v : Int32} (hd : decode cc pc = .ok (.ldc i, 2)) (hv : Cond.constant own i v ∈ Ts) (k : XW p l e R s m args below meth c nL cl D A ad0 n0 cells slots Q n h (pc + 2) lv (.int v :: st)) : XW p l e R s m args below meth c nL cl D A ad0 n0 cells slots Q n h pc lv st := fun ad ca H locs ls a1 a2 a3 a4 a5 a6 a7 => lv_ldc hC.1.1 hC.1.2.1 hC.1.2.2.2.1 (hC.1.2.2.2.2 _ hv) hd (k ad ca H locs ls a1 a2 a3 a4 a5 (xl_cons trivial a6) a7)
theorem xi_ldc_w (hC : XC p s m args c cc nL own Ts cl NW AL D A) {i : Nat} {v : Int32} (hd : decode cc pc = .ok (.ldc_w i, 3)) (hv : Cond.constant own i v ∈ Ts) (k : XW p l e R s m args below meth c nL cl D A ad0 n0 cells slots Q n h (pc + 3) lv (.int v :: st)) : XW p l e R s m args below meth c nL cl D A ad0 n0 cells slots Q n h pc lv st := fun ad ca H locs ls a1 a2 a3 a4 a5 a6 a7 => lv_ldcw hC.1.1 hC.1.2.1 hC.1.2.2.2.1 (hC.1.2.2.2.2 _ hv) hd (k ad ca H locs ls a1 a2 a3 a4 a5 (xl_cons trivial a6) a7)
theorem xi_ldc2 (hC : XC p s m args c cc nL own Ts cl NW AL D A) {i : Nat} {v : Int64} (hd : decode cc pc = .ok (.ldc2_w i, 3)) (hv : Cond.constantLong own i v ∈ Ts) (k : XW p l e R s m args below meth c nL cl D A ad0 n0 cells slots Q n h (pc + 3) lv (.long v :: st)) : XW p l e R s m args below meth c nL cl D A ad0 n0 cells slots Q n h pc lv st := fun ad ca H locs ls a1 a2 a3 a4 a5 a6 a7 => lv_ldc2 hC.1.1 hC.1.2.1 hC.1.2.2.2.1 (hC.1.2.2.2.2 _ hv) hd (k ad ca H locs ls a1 a2 a3 a4 a5 (xl_cons trivial a6) a7)
theorem xi_iload_n (hC : XC p s m args c cc nL own Ts cl NW AL D A) {z : Fin 4} {i : Nat} {x : Int32} (hd : decode cc pc = .ok (.iload_n z, 1)) (hi : (z : Nat) = i) (j : Nat) (hj : lv[j]? = some (i, .int x)) (k : XW p l e R s m args below meth c nL cl D A ad0 n0 cells slots Q n h (pc + 1) lv (.int x :: st)) : XW p l e R s m args below meth c nL cl D A ad0 n0 cells slots Q n h pc lv st := fun ad ca H locs ls a1 a2 a3 a4 a5 a6 a7 => lv_iload_n hC.1.1 hC.1.2.1 hd hi (lv_at a7 j (xm_at hj)) (k ad ca H locs ls a1 a2 a3 a4 a5 (xl_cons (xlv_at a5 hj) a6) a7)
theorem xi_iload (hC : XC p s m args c cc nL own Ts cl NW AL D A) {i : Nat} {x : Int32} (hd : decode cc pc = .ok (.iload i, 2)) (j : Nat) (hj : lv[j]? = some (i, .int x)) (k : XW p l e R s m args below meth c nL cl D A ad0 n0 cells slots Q n h (pc + 2) lv (.int x :: st)) : XW p l e R s m args below meth c nL cl D A ad0 n0 cells slots Q n h pc lv st := fun ad ca H locs ls a1 a2 a3 a4 a5 a6 a7 => lv_iload hC.1.1 hC.1.2.1 hd (lv_at a7 j (xm_at hj)) (k ad ca H locs ls a1 a2 a3 a4 a5 (xl_cons (xlv_at a5 hj) a6) a7)
theorem xi_lload_n (hC : XC p s m args c cc nL own Ts cl NW AL D A) {z : Fin 4} {i : Nat} {x : Int64} (hd : decode cc pc = .ok (.lload_n z, 1)) (hi : (z : Nat) = i) (j : Nat) (hj : lv[j]? = some (i, .long x)) (k : XW p l e R s m args below meth c nL cl D A ad0 n0 cells slots Q n h (pc + 1) lv (.long x :: st)) : XW p l e R s m args below meth c nL cl D A ad0 n0 cells slots Q n h pc lv st := fun ad ca H locs ls a1 a2 a3 a4 a5 a6 a7 => lv_lload_n hC.1.1 hC.1.2.1 hd hi (lv_at a7 j (xm_at hj)) (k ad ca H locs ls a1 a2 a3 a4 a5 (xl_cons (xlv_at a5 hj) a6) a7)
theorem xi_lload (hC : XC p s m args c cc nL own Ts cl NW AL D A) {i : Nat} {x : Int64} (hd : decode cc pc = .ok (.lload i, 2)) (j : Nat) (hj : lv[j]? = some (i, .long x)) (k : XW p l e R s m args below meth c nL cl D A ad0 n0 cells slots Q n h (pc + 2) lv (.long x :: st)) : XW p l e R s m args below meth c nL cl D A ad0 n0 cells slots Q n h pc lv st := fun ad ca H locs ls a1 a2 a3 a4 a5 a6 a7 => lv_lload hC.1.1 hC.1.2.1 hd (lv_at a7 j (xm_at hj)) (k ad ca H locs ls a1 a2 a3 a4 a5 (xl_cons (xlv_at a5 hj) a6) a7)
theorem xi_aload_n (hC : XC p s m args c cc nL own Ts cl NW AL D A) {z : Fin 4} {i : Nat} {x : Nat} (hd : decode cc pc = .ok (.aload_n z, 1)) (hi : (z : Nat) = i) (j : Nat) (hj : lv[j]? = some (i, .ref x)) (k : XW p l e R s m args below meth c nL cl D A ad0 n0 cells slots Q n h (pc + 1) lv (.ref x :: st)) : XW p l e R s m args below meth c nL cl D A ad0 n0 cells slots Q n h pc lv st := fun ad ca H locs ls a1 a2 a3 a4 a5 a6 a7 => lv_aload_n hC.1.1 hC.1.2.1 hd hi (lv_at a7 j (xm_at hj)) (k ad ca H locs ls a1 a2 a3 a4 a5 (xl_cons (xlv_at a5 hj) a6) a7)
theorem xi_aload (hC : XC p s m args c cc nL own Ts cl NW AL D A) {i : Nat} {x : Nat} (hd : decode cc pc = .ok (.aload i, 2)) (j : Nat) (hj : lv[j]? = some (i, .ref x)) (k : XW p l e R s m args below meth c nL cl D A ad0 n0 cells slots Q n h (pc + 2) lv (.ref x :: st)) : XW p l e R s m args below meth c nL cl D A ad0 n0 cells slots Q n h pc lv st := fun ad ca H locs ls a1 a2 a3 a4 a5 a6 a7 => lv_aload hC.1.1 hC.1.2.1 hd (lv_at a7 j (xm_at hj)) (k ad ca H locs ls a1 a2 a3 a4 a5 (xl_cons (xlv_at a5 hj) a6) a7)
theorem xi_aload_nN (hC : XC p s m args c cc nL own Ts cl NW AL D A) {z : Fin 4} {i : Nat} (hd : decode cc pc = .ok (.aload_n z, 1)) (hi : (z : Nat) = i) (j : Nat) (hj : lv[j]? = some (i, .null)) (k : XW p l e R s m args below meth c nL cl D A ad0 n0 cells slots Q n h (pc + 1) lv (.null :: st)) : XW p l e R s m args below meth c nL cl D A ad0 n0 cells slots Q n h pc lv st := fun ad ca H locs ls a1 a2 a3 a4 a5 a6 a7 => lv_aload_nN hC.1.1 hC.1.2.1 hd hi (lv_at a7 j (xm_at hj)) (k ad ca H locs ls a1 a2 a3 a4 a5 (xl_cons trivial a6) a7)
theorem xi_aloadN (hC : XC p s m args c cc nL own Ts cl NW AL D A) {i : Nat} (hd : decode cc pc = .ok (.aload i, 2)) (j : Nat) (hj : lv[j]? = some (i, .null)) (k : XW p l e R s m args below meth c nL cl D A ad0 n0 cells slots Q n h (pc + 2) lv (.null :: st)) : XW p l e R s m args below meth c nL cl D A ad0 n0 cells slots Q n h pc lv st := fun ad ca H locs ls a1 a2 a3 a4 a5 a6 a7 => lv_aloadN hC.1.1 hC.1.2.1 hd (lv_at a7 j (xm_at hj)) (k ad ca H locs ls a1 a2 a3 a4 a5 (xl_cons trivial a6) a7)
theorem xi_istore_n (hC : XC p s m args c cc nL own Ts cl NW AL D A) {z : Fin 4} {i : Nat} {x : Int32} {lv' : List (Nat × Value)} (hd : decode cc pc = .ok (.istore_n z, 1)) (hi : (z : Nat) = i) (hn : i < nL) (hl : (i, Value.int x) :: lv.filter (fun q => !(q.1 == i) && !(q.1 + 1 == i && q.2.category == 2)) = lv') (k : XW p l e R s m args below meth c nL cl D A ad0 n0 cells slots Q n h (pc + 1) lv' st) : XW p l e R s m args below meth c nL cl D A ad0 n0 cells slots Q n h pc lv (.int x :: st) := fun ad ca H locs ls a1 a2 a3 a4 a5 a6 a7 => lv_istore_n hC.1.1 hC.1.2.1 hd hi a7 hn (lv' := xm ad lv') (by rw [xm_st, ← hl]; rfl) (fun ls' hl' => k ad ca H locs ls' a1 a2 a3 a4 (by rw [← hl]; exact xlv_st _ (xl_hd a6) a5) (xl_tl a6) hl')
theorem xi_istore (hC : XC p s m args c cc nL own Ts cl NW AL D A) {i : Nat} {x : Int32} {lv' : List (Nat × Value)} (hd : decode cc pc = .ok (.istore i, 2)) (hn : i < nL) (hl : (i, Value.int x) :: lv.filter (fun q => !(q.1 == i) && !(q.1 + 1 == i && q.2.category == 2)) = lv') (k : XW p l e R s m args below meth c nL cl D A ad0 n0 cells slots Q n h (pc + 2) lv' st) : XW p l e R s m args below meth c nL cl D A ad0 n0 cells slots Q n h pc lv (.int x :: st) := fun ad ca H locs ls a1 a2 a3 a4 a5 a6 a7 => lv_istore hC.1.1 hC.1.2.1 hd a7 hn (lv' := xm ad lv') (by rw [xm_st, ← hl]; rfl) (fun ls' hl' => k ad ca H locs ls' a1 a2 a3 a4 (by rw [← hl]; exact xlv_st _ (xl_hd a6) a5) (xl_tl a6) hl')
theorem xi_astore_n (hC : XC p s m args c cc nL own Ts cl NW AL D A) {z : Fin 4} {i : Nat} {x : Nat} {lv' : List (Nat × Value)} (hd : decode cc pc = .ok (.astore_n z, 1)) (hi : (z : Nat) = i) (hn : i < nL) (hl : (i, Value.ref x) :: lv.filter (fun q => !(q.1 == i) && !(q.1 + 1 == i && q.2.category == 2)) = lv') (k : XW p l e R s m args below meth c nL cl D A ad0 n0 cells slots Q n h (pc + 1) lv' st) : XW p l e R s m args below meth c nL cl D A ad0 n0 cells slots Q n h pc lv (.ref x :: st) := fun ad ca H locs ls a1 a2 a3 a4 a5 a6 a7 => lv_astore_n hC.1.1 hC.1.2.1 hd hi a7 hn (lv' := xm ad lv') (by rw [xm_st, ← hl]; rfl) (fun ls' hl' => k ad ca H locs ls' a1 a2 a3 a4 (by rw [← hl]; exact xlv_st _ (xl_hd a6) a5) (xl_tl a6) hl')
theorem xi_astore (hC : XC p s m args c cc nL own Ts cl NW AL D A) {i : Nat} {x : Nat} {lv' : List (Nat × Value)} (hd : decode cc pc = .ok (.astore i, 2)) (hn : i < nL) (hl : (i, Value.ref x) :: lv.filter (fun q => !(q.1 == i) && !(q.1 + 1 == i && q.2.category == 2)) = lv') (k : XW p l e R s m args below meth c nL cl D A ad0 n0 cells slots Q n h (pc + 2) lv' st) : XW p l e R s m args below meth c nL cl D A ad0 n0 cells slots Q n h pc lv (.ref x :: st) := fun ad ca H locs ls a1 a2 a3 a4 a5 a6 a7 => lv_astore hC.1.1 hC.1.2.1 hd a7 hn (lv' := xm ad lv') (by rw [xm_st, ← hl]; rfl) (fun ls' hl' => k ad ca H locs ls' a1 a2 a3 a4 (by rw [← hl]; exact xlv_st _ (xl_hd a6) a5) (xl_tl a6) hl')
theorem xi_astore_nN (hC : XC p s m args c cc nL own Ts cl NW AL D A) {z : Fin 4} {i : Nat} {lv' : List (Nat × Value)} (hd : decode cc pc = .ok (.astore_n z, 1)) (hi : (z : Nat) = i) (hn : i < nL) (hl : (i, Value.null) :: lv.filter (fun q => !(q.1 == i) && !(q.1 + 1 == i && q.2.category == 2)) = lv') (k : XW p l e R s m args below meth c nL cl D A ad0 n0 cells slots Q n h (pc + 1) lv' st) : XW p l e R s m args below meth c nL cl D A ad0 n0 cells slots Q n h pc lv (.null :: st) := fun ad ca H locs ls a1 a2 a3 a4 a5 a6 a7 => lv_astore_nN hC.1.1 hC.1.2.1 hd hi a7 hn (lv' := xm ad lv') (by rw [xm_st, ← hl]; rfl) (fun ls' hl' => k ad ca H locs ls' a1 a2 a3 a4 (by rw [← hl]; exact xlv_st _ trivial a5) (xl_tl a6) hl')
theorem xi_astoreN (hC : XC p s m args c cc nL own Ts cl NW AL D A) {i : Nat} {lv' : List (Nat × Value)} (hd : decode cc pc = .ok (.astore i, 2)) (hn : i < nL) (hl : (i, Value.null) :: lv.filter (fun q => !(q.1 == i) && !(q.1 + 1 == i && q.2.category == 2)) = lv') (k : XW p l e R s m args below meth c nL cl D A ad0 n0 cells slots Q n h (pc + 2) lv' st) : XW p l e R s m args below meth c nL cl D A ad0 n0 cells slots Q n h pc lv (.null :: st) := fun ad ca H locs ls a1 a2 a3 a4 a5 a6 a7 => lv_astoreN hC.1.1 hC.1.2.1 hd a7 hn (lv' := xm ad lv') (by rw [xm_st, ← hl]; rfl) (fun ls' hl' => k ad ca H locs ls' a1 a2 a3 a4 (by rw [← hl]; exact xlv_st _ trivial a5) (xl_tl a6) hl')
theorem xi_iinc (hC : XC p s m args c cc nL own Ts cl NW AL D A) {i : Nat} {z : Int} {x v : Int32} {lv' : List (Nat × Value)} (hd : decode cc pc = .ok (.iinc i z, 3)) (j : Nat) (hj : lv[j]? = some (i, .int x)) (hv : x + Int32.ofInt z = v) (hn : i < nL) (hl : (i, Value.int v) :: lv.filter (fun q => !(q.1 == i) && !(q.1 + 1 == i && q.2.category == 2)) = lv') (k : XW p l e R s m args below meth c nL cl D A ad0 n0 cells slots Q n h (pc + 3) lv' st) : XW p l e R s m args below meth c nL cl D A ad0 n0 cells slots Q n h pc lv st := fun ad ca H locs ls a1 a2 a3 a4 a5 a6 a7 => lv_iinc hC.1.1 hC.1.2.1 hd a7 (k := j) (xm_at hj) hv hn (lv' := xm ad lv') (by rw [xm_st, ← hl]; rfl) (fun ls' hl' => k ad ca H locs ls' a1 a2 a3 a4 (by rw [← hl]; exact xlv_st _ trivial a5) a6 hl')
theorem xi_lstore (hC : XC p s m args c cc nL own Ts cl NW AL D A) {i : Nat} {x : Int64} {lv' : List (Nat × Value)} (hd : decode cc pc = .ok (.lstore i, 2)) (hn : i + 1 < nL) (hl : (i, Value.long x) :: lv.filter (fun q => !(q.1 == i) && (!(q.1 == i + 1) && !(q.1 + 1 == i && q.2.category == 2))) = lv') (k : XW p l e R s m args below meth c nL cl D A ad0 n0 cells slots Q n h (pc + 2) lv' st) : XW p l e R s m args below meth c nL cl D A ad0 n0 cells slots Q n h pc lv (.long x :: st) := fun ad ca H locs ls a1 a2 a3 a4 a5 a6 a7 => lv_lstore hC.1.1 hC.1.2.1 hd a7 hn (lv' := xm ad lv') (by rw [xm_st2, ← hl]; rfl) (fun ls' hl' => k ad ca H locs ls' a1 a2 a3 a4 (by rw [← hl]; exact xlv_st _ trivial a5) (xl_tl a6) hl')
theorem xi_lstore_n (hC : XC p s m args c cc nL own Ts cl NW AL D A) {z : Fin 4} {i : Nat} {x : Int64} {lv' : List (Nat × Value)} (hd : decode cc pc = .ok (.lstore_n z, 1)) (hi : (z : Nat) = i) (hn : i + 1 < nL) (hl : (i, Value.long x) :: lv.filter (fun q => !(q.1 == i) && (!(q.1 == i + 1) && !(q.1 + 1 == i && q.2.category == 2))) = lv') (k : XW p l e R s m args below meth c nL cl D A ad0 n0 cells slots Q n h (pc + 1) lv' st) : XW p l e R s m args below meth c nL cl D A ad0 n0 cells slots Q n h pc lv (.long x :: st) := fun ad ca H locs ls a1 a2 a3 a4 a5 a6 a7 => lv_lstore_n hC.1.1 hC.1.2.1 hd hi a7 hn (lv' := xm ad lv') (by rw [xm_st2, ← hl]; rfl) (fun ls' hl' => k ad ca H locs ls' a1 a2 a3 a4 (by rw [← hl]; exact xlv_st _ trivial a5) (xl_tl a6) hl')
theorem xi_iadd (hC : XC p s m args c cc nL own Ts cl NW AL D A) {x y : Int32} (hd : decode cc pc = .ok (.iadd, 1)) (k : XW p l e R s m args below meth c nL cl D A ad0 n0 cells slots Q n h (pc + 1) lv (.int (x + y) :: st)) : XW p l e R s m args below meth c nL cl D A ad0 n0 cells slots Q n h pc lv (.int y :: .int x :: st) := fun ad ca H locs ls a1 a2 a3 a4 a5 a6 a7 => lv_iadd hC.1.1 hC.1.2.1 hd (k ad ca H locs ls a1 a2 a3 a4 a5 (xl_cons trivial (xl_tl (xl_tl a6))) a7)
theorem xi_isub (hC : XC p s m args c cc nL own Ts cl NW AL D A) {x y : Int32} (hd : decode cc pc = .ok (.isub, 1)) (k : XW p l e R s m args below meth c nL cl D A ad0 n0 cells slots Q n h (pc + 1) lv (.int (x - y) :: st)) : XW p l e R s m args below meth c nL cl D A ad0 n0 cells slots Q n h pc lv (.int y :: .int x :: st) := fun ad ca H locs ls a1 a2 a3 a4 a5 a6 a7 => lv_isub hC.1.1 hC.1.2.1 hd (k ad ca H locs ls a1 a2 a3 a4 a5 (xl_cons trivial (xl_tl (xl_tl a6))) a7)
theorem xi_imul (hC : XC p s m args c cc nL own Ts cl NW AL D A) {x y : Int32} (hd : decode cc pc = .ok (.imul, 1)) (k : XW p l e R s m args below meth c nL cl D A ad0 n0 cells slots Q n h (pc + 1) lv (.int (x * y) :: st)) : XW p l e R s m args below meth c nL cl D A ad0 n0 cells slots Q n h pc lv (.int y :: .int x :: st) := fun ad ca H locs ls a1 a2 a3 a4 a5 a6 a7 => lv_imul hC.1.1 hC.1.2.1 hd (k ad ca H locs ls a1 a2 a3 a4 a5 (xl_cons trivial (xl_tl (xl_tl a6))) a7)
theorem xi_iand (hC : XC p s m args c cc nL own Ts cl NW AL D A) {x y : Int32} (hd : decode cc pc = .ok (.iand, 1)) (k : XW p l e R s m args below meth c nL cl D A ad0 n0 cells slots Q n h (pc + 1) lv (.int (x &&& y) :: st)) : XW p l e R s m args below meth c nL cl D A ad0 n0 cells slots Q n h pc lv (.int y :: .int x :: st) := fun ad ca H locs ls a1 a2 a3 a4 a5 a6 a7 => lv_iand hC.1.1 hC.1.2.1 hd (k ad ca H locs ls a1 a2 a3 a4 a5 (xl_cons trivial (xl_tl (xl_tl a6))) a7)
theorem xi_ior (hC : XC p s m args c cc nL own Ts cl NW AL D A) {x y : Int32} (hd : decode cc pc = .ok (.ior, 1)) (k : XW p l e R s m args below meth c nL cl D A ad0 n0 cells slots Q n h (pc + 1) lv (.int (x ||| y) :: st)) : XW p l e R s m args below meth c nL cl D A ad0 n0 cells slots Q n h pc lv (.int y :: .int x :: st) := fun ad ca H locs ls a1 a2 a3 a4 a5 a6 a7 => lv_ior hC.1.1 hC.1.2.1 hd (k ad ca H locs ls a1 a2 a3 a4 a5 (xl_cons trivial (xl_tl (xl_tl a6))) a7)
theorem xi_ixor (hC : XC p s m args c cc nL own Ts cl NW AL D A) {x y : Int32} (hd : decode cc pc = .ok (.ixor, 1)) (k : XW p l e R s m args below meth c nL cl D A ad0 n0 cells slots Q n h (pc + 1) lv (.int (x ^^^ y) :: st)) : XW p l e R s m args below meth c nL cl D A ad0 n0 cells slots Q n h pc lv (.int y :: .int x :: st) := fun ad ca H locs ls a1 a2 a3 a4 a5 a6 a7 => lv_ixor hC.1.1 hC.1.2.1 hd (k ad ca H locs ls a1 a2 a3 a4 a5 (xl_cons trivial (xl_tl (xl_tl a6))) a7)
theorem xi_ishl (hC : XC p s m args c cc nL own Ts cl NW AL D A) {x y : Int32} (hd : decode cc pc = .ok (.ishl, 1)) (k : XW p l e R s m args below meth c nL cl D A ad0 n0 cells slots Q n h (pc + 1) lv (.int (x <<< (y &&& 31)) :: st)) : XW p l e R s m args below meth c nL cl D A ad0 n0 cells slots Q n h pc lv (.int y :: .int x :: st) := fun ad ca H locs ls a1 a2 a3 a4 a5 a6 a7 => lv_ishl hC.1.1 hC.1.2.1 hd (k ad ca H locs ls a1 a2 a3 a4 a5 (xl_cons trivial (xl_tl (xl_tl a6))) a7)
theorem xi_ishr (hC : XC p s m args c cc nL own Ts cl NW AL D A) {x y : Int32} (hd : decode cc pc = .ok (.ishr, 1)) (k : XW p l e R s m args below meth c nL cl D A ad0 n0 cells slots Q n h (pc + 1) lv (.int (x >>> (y &&& 31)) :: st)) : XW p l e R s m args below meth c nL cl D A ad0 n0 cells slots Q n h pc lv (.int y :: .int x :: st) := fun ad ca H locs ls a1 a2 a3 a4 a5 a6 a7 => lv_ishr hC.1.1 hC.1.2.1 hd (k ad ca H locs ls a1 a2 a3 a4 a5 (xl_cons trivial (xl_tl (xl_tl a6))) a7)
theorem xi_iushr (hC : XC p s m args c cc nL own Ts cl NW AL D A) {x y : Int32} (hd : decode cc pc = .ok (.iushr, 1)) (k : XW p l e R s m args below meth c nL cl D A ad0 n0 cells slots Q n h (pc + 1) lv (.int ((x.toUInt32 >>> (y.toUInt32 &&& Int32.toUInt32 31)).toInt32) :: st)) : XW p l e R s m args below meth c nL cl D A ad0 n0 cells slots Q n h pc lv (.int y :: .int x :: st) := fun ad ca H locs ls a1 a2 a3 a4 a5 a6 a7 => lv_iushr hC.1.1 hC.1.2.1 hd rfl (k ad ca H locs ls a1 a2 a3 a4 a5 (xl_cons trivial (xl_tl (xl_tl a6))) a7)
theorem xi_idiv (hC : XC p s m args c cc nL own Ts cl NW AL D A) {x y : Int32} (hd : decode cc pc = .ok (.idiv, 1)) (hy : ¬ y = 0) (k : XW p l e R s m args below meth c nL cl D A ad0 n0 cells slots Q n h (pc + 1) lv (.int (x / y) :: st)) : XW p l e R s m args below meth c nL cl D A ad0 n0 cells slots Q n h pc lv (.int y :: .int x :: st) := fun ad ca H locs ls a1 a2 a3 a4 a5 a6 a7 => lv_idiv hC.1.1 hC.1.2.1 hd hy (k ad ca H locs ls a1 a2 a3 a4 a5 (xl_cons trivial (xl_tl (xl_tl a6))) a7)
theorem xi_irem (hC : XC p s m args c cc nL own Ts cl NW AL D A) {x y : Int32} (hd : decode cc pc = .ok (.irem, 1)) (hy : ¬ y = 0) (k : XW p l e R s m args below meth c nL cl D A ad0 n0 cells slots Q n h (pc + 1) lv (.int (x - x / y * y) :: st)) : XW p l e R s m args below meth c nL cl D A ad0 n0 cells slots Q n h pc lv (.int y :: .int x :: st) := fun ad ca H locs ls a1 a2 a3 a4 a5 a6 a7 => lv_irem hC.1.1 hC.1.2.1 hd hy (k ad ca H locs ls a1 a2 a3 a4 a5 (xl_cons trivial (xl_tl (xl_tl a6))) a7)
theorem xi_ladd (hC : XC p s m args c cc nL own Ts cl NW AL D A) {x y : Int64} (hd : decode cc pc = .ok (.ladd, 1)) (k : XW p l e R s m args below meth c nL cl D A ad0 n0 cells slots Q n h (pc + 1) lv (.long (x + y) :: st)) : XW p l e R s m args below meth c nL cl D A ad0 n0 cells slots Q n h pc lv (.long y :: .long x :: st) := fun ad ca H locs ls a1 a2 a3 a4 a5 a6 a7 => lv_ladd hC.1.1 hC.1.2.1 hd (k ad ca H locs ls a1 a2 a3 a4 a5 (xl_cons trivial (xl_tl (xl_tl a6))) a7)
theorem xi_lsub (hC : XC p s m args c cc nL own Ts cl NW AL D A) {x y : Int64} (hd : decode cc pc = .ok (.lsub, 1)) (k : XW p l e R s m args below meth c nL cl D A ad0 n0 cells slots Q n h (pc + 1) lv (.long (x - y) :: st)) : XW p l e R s m args below meth c nL cl D A ad0 n0 cells slots Q n h pc lv (.long y :: .long x :: st) := fun ad ca H locs ls a1 a2 a3 a4 a5 a6 a7 => lv_lsub hC.1.1 hC.1.2.1 hd (k ad ca H locs ls a1 a2 a3 a4 a5 (xl_cons trivial (xl_tl (xl_tl a6))) a7)
theorem xi_lmul (hC : XC p s m args c cc nL own Ts cl NW AL D A) {x y : Int64} (hd : decode cc pc = .ok (.lmul, 1)) (k : XW p l e R s m args below meth c nL cl D A ad0 n0 cells slots Q n h (pc + 1) lv (.long (x * y) :: st)) : XW p l e R s m args below meth c nL cl D A ad0 n0 cells slots Q n h pc lv (.long y :: .long x :: st) := fun ad ca H locs ls a1 a2 a3 a4 a5 a6 a7 => lv_lmul hC.1.1 hC.1.2.1 hd (k ad ca H locs ls a1 a2 a3 a4 a5 (xl_cons trivial (xl_tl (xl_tl a6))) a7)
theorem xi_land (hC : XC p s m args c cc nL own Ts cl NW AL D A) {x y : Int64} (hd : decode cc pc = .ok (.land, 1)) (k : XW p l e R s m args below meth c nL cl D A ad0 n0 cells slots Q n h (pc + 1) lv (.long (x &&& y) :: st)) : XW p l e R s m args below meth c nL cl D A ad0 n0 cells slots Q n h pc lv (.long y :: .long x :: st) := fun ad ca H locs ls a1 a2 a3 a4 a5 a6 a7 => lv_land hC.1.1 hC.1.2.1 hd (k ad ca H locs ls a1 a2 a3 a4 a5 (xl_cons trivial (xl_tl (xl_tl a6))) a7)
theorem xi_lor (hC : XC p s m args c cc nL own Ts cl NW AL D A) {x y : Int64} (hd : decode cc pc = .ok (.lor, 1)) (k : XW p l e R s m args below meth c nL cl D A ad0 n0 cells slots Q n h (pc + 1) lv (.long (x ||| y) :: st)) : XW p l e R s m args below meth c nL cl D A ad0 n0 cells slots Q n h pc lv (.long y :: .long x :: st) := fun ad ca H locs ls a1 a2 a3 a4 a5 a6 a7 => lv_lor hC.1.1 hC.1.2.1 hd (k ad ca H locs ls a1 a2 a3 a4 a5 (xl_cons trivial (xl_tl (xl_tl a6))) a7)
theorem xi_lcmp (hC : XC p s m args c cc nL own Ts cl NW AL D A) {x y : Int64} (hd : decode cc pc = .ok (.lcmp, 1)) (k : XW p l e R s m args below meth c nL cl D A ad0 n0 cells slots Q n h (pc + 1) lv (.int (lg_cmp x y) :: st)) : XW p l e R s m args below meth c nL cl D A ad0 n0 cells slots Q n h pc lv (.long y :: .long x :: st) := fun ad ca H locs ls a1 a2 a3 a4 a5 a6 a7 => W.lcmp hC.1.1 hC.1.2.1 hd (k ad ca H locs ls a1 a2 a3 a4 a5 (xl_cons trivial (xl_tl (xl_tl a6))) a7)
theorem xi_lshl (hC : XC p s m args c cc nL own Ts cl NW AL D A) {x : Int64} {y : Int32} (hd : decode cc pc = .ok (.lshl, 1)) (k : XW p l e R s m args below meth c nL cl D A ad0 n0 cells slots Q n h (pc + 1) lv (.long (x <<< (y.toInt64 &&& 63)) :: st)) : XW p l e R s m args below meth c nL cl D A ad0 n0 cells slots Q n h pc lv (.int y :: .long x :: st) := fun ad ca H locs ls a1 a2 a3 a4 a5 a6 a7 => lv_lshl hC.1.1 hC.1.2.1 hd rfl (k ad ca H locs ls a1 a2 a3 a4 a5 (xl_cons trivial (xl_tl (xl_tl a6))) a7)
theorem xi_ineg (hC : XC p s m args c cc nL own Ts cl NW AL D A) {x : Int32} (hd : decode cc pc = .ok (.ineg, 1)) (k : XW p l e R s m args below meth c nL cl D A ad0 n0 cells slots Q n h (pc + 1) lv (.int (-x) :: st)) : XW p l e R s m args below meth c nL cl D A ad0 n0 cells slots Q n h pc lv (.int x :: st) := fun ad ca H locs ls a1 a2 a3 a4 a5 a6 a7 => lv_ineg hC.1.1 hC.1.2.1 hd (k ad ca H locs ls a1 a2 a3 a4 a5 (xl_cons trivial (xl_tl a6)) a7)
theorem xi_i2l (hC : XC p s m args c cc nL own Ts cl NW AL D A) {x : Int32} (hd : decode cc pc = .ok (.i2l, 1)) (k : XW p l e R s m args below meth c nL cl D A ad0 n0 cells slots Q n h (pc + 1) lv (.long x.toInt64 :: st)) : XW p l e R s m args below meth c nL cl D A ad0 n0 cells slots Q n h pc lv (.int x :: st) := fun ad ca H locs ls a1 a2 a3 a4 a5 a6 a7 => lv_i2l hC.1.1 hC.1.2.1 hd rfl (k ad ca H locs ls a1 a2 a3 a4 a5 (xl_cons trivial (xl_tl a6)) a7)
theorem xi_l2i (hC : XC p s m args c cc nL own Ts cl NW AL D A) {x : Int64} (hd : decode cc pc = .ok (.l2i, 1)) (k : XW p l e R s m args below meth c nL cl D A ad0 n0 cells slots Q n h (pc + 1) lv (.int x.toInt32 :: st)) : XW p l e R s m args below meth c nL cl D A ad0 n0 cells slots Q n h pc lv (.long x :: st) := fun ad ca H locs ls a1 a2 a3 a4 a5 a6 a7 => lv_l2i hC.1.1 hC.1.2.1 hd rfl (k ad ca H locs ls a1 a2 a3 a4 a5 (xl_cons trivial (xl_tl a6)) a7)
theorem xi_dup (hC : XC p s m args c cc nL own Ts cl NW AL D A) {v : Value} (hd : decode cc pc = .ok (.dup, 1)) (hv : v.category = 1) (k : XW p l e R s m args below meth c nL cl D A ad0 n0 cells slots Q n h (pc + 1) lv (v :: v :: st)) : XW p l e R s m args below meth c nL cl D A ad0 n0 cells slots Q n h pc lv (v :: st) := fun ad ca H locs ls a1 a2 a3 a4 a5 a6 a7 => lv_dup hC.1.1 hC.1.2.1 hd ((xv_cat ad v).trans hv) (k ad ca H locs ls a1 a2 a3 a4 a5 (xl_cons (xl_hd a6) a6) a7)
theorem xi_pop (hC : XC p s m args c cc nL own Ts cl NW AL D A) {v : Value} (hd : decode cc pc = .ok (.pop, 1)) (hv : v.category = 1) (k : XW p l e R s m args below meth c nL cl D A ad0 n0 cells slots Q n h (pc + 1) lv st) : XW p l e R s m args below meth c nL cl D A ad0 n0 cells slots Q n h pc lv (v :: st) := fun ad ca H locs ls a1 a2 a3 a4 a5 a6 a7 => lv_pop hC.1.1 hC.1.2.1 hd ((xv_cat ad v).trans hv) (k ad ca H locs ls a1 a2 a3 a4 a5 (xl_tl a6) a7)
theorem xi_dup_x1 (hC : XC p s m args c cc nL own Ts cl NW AL D A) {v w : Value} (hd : decode cc pc = .ok (.dup_x1, 1)) (hv : v.category = 1) (hw : w.category = 1) (k : XW p l e R s m args below meth c nL cl D A ad0 n0 cells slots Q n h (pc + 1) lv (v :: w :: v :: st)) : XW p l e R s m args below meth c nL cl D A ad0 n0 cells slots Q n h pc lv (v :: w :: st) := fun ad ca H locs ls a1 a2 a3 a4 a5 a6 a7 => lv_dup_x1 hC.1.1 hC.1.2.1 hd ((xv_cat ad v).trans hv) ((xv_cat ad w).trans hw) (k ad ca H locs ls a1 a2 a3 a4 a5 (xl_cons (xl_hd a6) (xl_cons (xl_hd (xl_tl a6)) (xl_cons (xl_hd a6) (xl_tl (xl_tl a6))))) a7)
theorem xi_dup_x2 (hC : XC p s m args c cc nL own Ts cl NW AL D A) {v w u : Value} (hd : decode cc pc = .ok (.dup_x2, 1)) (hv : v.category = 1) (hw : w.category = 1) (hu : u.category = 1) (k : XW p l e R s m args below meth c nL cl D A ad0 n0 cells slots Q n h (pc + 1) lv (v :: w :: u :: v :: st)) : XW p l e R s m args below meth c nL cl D A ad0 n0 cells slots Q n h pc lv (v :: w :: u :: st) := fun ad ca H locs ls a1 a2 a3 a4 a5 a6 a7 => lv_dup_x2 hC.1.1 hC.1.2.1 hd ((xv_cat ad v).trans hv) ((xv_cat ad w).trans hw) ((xv_cat ad u).trans hu) (k ad ca H locs ls a1 a2 a3 a4 a5 (xl_cons (xl_hd a6) (xl_cons (xl_hd (xl_tl a6)) (xl_cons (xl_hd (xl_tl (xl_tl a6))) (xl_cons (xl_hd a6) (xl_tl (xl_tl (xl_tl a6))))))) a7)
theorem xi_dup2 (hC : XC p s m args c cc nL own Ts cl NW AL D A) {v w : Value} (hd : decode cc pc = .ok (.dup2, 1)) (hv : v.category = 1) (hw : w.category = 1) (k : XW p l e R s m args below meth c nL cl D A ad0 n0 cells slots Q n h (pc + 1) lv (v :: w :: v :: w :: st)) : XW p l e R s m args below meth c nL cl D A ad0 n0 cells slots Q n h pc lv (v :: w :: st) := fun ad ca H locs ls a1 a2 a3 a4 a5 a6 a7 => lv_dup2_11 hC.1.1 hC.1.2.1 hd ((xv_cat ad v).trans hv) ((xv_cat ad w).trans hw) (k ad ca H locs ls a1 a2 a3 a4 a5 (xl_cons (xl_hd a6) (xl_cons (xl_hd (xl_tl a6)) a6)) a7)
theorem xi_if_eq (hC : XC p s m args c cc nL own Ts cl NW AL D A) {x : Int32} {off : Int} {tgt : Nat} (hd : decode cc pc = .ok (.ifCond .eq off, 3)) (ht : (pc : Int) + off = (tgt : Int)) (kt : x = 0 → XW p l e R s m args below meth c nL cl D A ad0 n0 cells slots Q n h tgt lv st) (kf : ¬ x = 0 → XW p l e R s m args below meth c nL cl D A ad0 n0 cells slots Q n h (pc + 3) lv st) : XW p l e R s m args below meth c nL cl D A ad0 n0 cells slots Q n h pc lv (.int x :: st) := fun ad ca H locs ls a1 a2 a3 a4 a5 a6 a7 => lv_if_eq hC.1.1 hC.1.2.1 hd ht (fun z => kt z ad ca H locs ls a1 a2 a3 a4 a5 (xl_tl a6) a7) (fun z => kf z ad ca H locs ls a1 a2 a3 a4 a5 (xl_tl a6) a7)
theorem xi_if_ne (hC : XC p s m args c cc nL own Ts cl NW AL D A) {x : Int32} {off : Int} {tgt : Nat} (hd : decode cc pc = .ok (.ifCond .ne off, 3)) (ht : (pc : Int) + off = (tgt : Int)) (kt : ¬ x = 0 → XW p l e R s m args below meth c nL cl D A ad0 n0 cells slots Q n h tgt lv st) (kf : x = 0 → XW p l e R s m args below meth c nL cl D A ad0 n0 cells slots Q n h (pc + 3) lv st) : XW p l e R s m args below meth c nL cl D A ad0 n0 cells slots Q n h pc lv (.int x :: st) := fun ad ca H locs ls a1 a2 a3 a4 a5 a6 a7 => lv_if_ne hC.1.1 hC.1.2.1 hd ht (fun z => kt z ad ca H locs ls a1 a2 a3 a4 a5 (xl_tl a6) a7) (fun z => kf z ad ca H locs ls a1 a2 a3 a4 a5 (xl_tl a6) a7)
theorem xi_if_lt (hC : XC p s m args c cc nL own Ts cl NW AL D A) {x : Int32} {off : Int} {tgt : Nat} (hd : decode cc pc = .ok (.ifCond .lt off, 3)) (ht : (pc : Int) + off = (tgt : Int)) (kt : x < 0 → XW p l e R s m args below meth c nL cl D A ad0 n0 cells slots Q n h tgt lv st) (kf : ¬ x < 0 → XW p l e R s m args below meth c nL cl D A ad0 n0 cells slots Q n h (pc + 3) lv st) : XW p l e R s m args below meth c nL cl D A ad0 n0 cells slots Q n h pc lv (.int x :: st) := fun ad ca H locs ls a1 a2 a3 a4 a5 a6 a7 => lv_if_lt hC.1.1 hC.1.2.1 hd ht (fun z => kt z ad ca H locs ls a1 a2 a3 a4 a5 (xl_tl a6) a7) (fun z => kf z ad ca H locs ls a1 a2 a3 a4 a5 (xl_tl a6) a7)
theorem xi_if_ge (hC : XC p s m args c cc nL own Ts cl NW AL D A) {x : Int32} {off : Int} {tgt : Nat} (hd : decode cc pc = .ok (.ifCond .ge off, 3)) (ht : (pc : Int) + off = (tgt : Int)) (kt : 0 ≤ x → XW p l e R s m args below meth c nL cl D A ad0 n0 cells slots Q n h tgt lv st) (kf : ¬ 0 ≤ x → XW p l e R s m args below meth c nL cl D A ad0 n0 cells slots Q n h (pc + 3) lv st) : XW p l e R s m args below meth c nL cl D A ad0 n0 cells slots Q n h pc lv (.int x :: st) := fun ad ca H locs ls a1 a2 a3 a4 a5 a6 a7 => lv_if_ge hC.1.1 hC.1.2.1 hd ht (fun z => kt z ad ca H locs ls a1 a2 a3 a4 a5 (xl_tl a6) a7) (fun z => kf z ad ca H locs ls a1 a2 a3 a4 a5 (xl_tl a6) a7)
theorem xi_if_gt (hC : XC p s m args c cc nL own Ts cl NW AL D A) {x : Int32} {off : Int} {tgt : Nat} (hd : decode cc pc = .ok (.ifCond .gt off, 3)) (ht : (pc : Int) + off = (tgt : Int)) (kt : 0 < x → XW p l e R s m args below meth c nL cl D A ad0 n0 cells slots Q n h tgt lv st) (kf : ¬ 0 < x → XW p l e R s m args below meth c nL cl D A ad0 n0 cells slots Q n h (pc + 3) lv st) : XW p l e R s m args below meth c nL cl D A ad0 n0 cells slots Q n h pc lv (.int x :: st) := fun ad ca H locs ls a1 a2 a3 a4 a5 a6 a7 => lv_if_gt hC.1.1 hC.1.2.1 hd ht (fun z => kt z ad ca H locs ls a1 a2 a3 a4 a5 (xl_tl a6) a7) (fun z => kf z ad ca H locs ls a1 a2 a3 a4 a5 (xl_tl a6) a7)
theorem xi_if_le (hC : XC p s m args c cc nL own Ts cl NW AL D A) {x : Int32} {off : Int} {tgt : Nat} (hd : decode cc pc = .ok (.ifCond .le off, 3)) (ht : (pc : Int) + off = (tgt : Int)) (kt : x ≤ 0 → XW p l e R s m args below meth c nL cl D A ad0 n0 cells slots Q n h tgt lv st) (kf : ¬ x ≤ 0 → XW p l e R s m args below meth c nL cl D A ad0 n0 cells slots Q n h (pc + 3) lv st) : XW p l e R s m args below meth c nL cl D A ad0 n0 cells slots Q n h pc lv (.int x :: st) := fun ad ca H locs ls a1 a2 a3 a4 a5 a6 a7 => lv_if_le hC.1.1 hC.1.2.1 hd ht (fun z => kt z ad ca H locs ls a1 a2 a3 a4 a5 (xl_tl a6) a7) (fun z => kf z ad ca H locs ls a1 a2 a3 a4 a5 (xl_tl a6) a7)
theorem xi_icmp_eq (hC : XC p s m args c cc nL own Ts cl NW AL D A) {x y : Int32} {off : Int} {tgt : Nat} (hd : decode cc pc = .ok (.if_icmp .eq off, 3)) (ht : (pc : Int) + off = (tgt : Int)) (kt : x = y → XW p l e R s m args below meth c nL cl D A ad0 n0 cells slots Q n h tgt lv st) (kf : ¬ x = y → XW p l e R s m args below meth c nL cl D A ad0 n0 cells slots Q n h (pc + 3) lv st) : XW p l e R s m args below meth c nL cl D A ad0 n0 cells slots Q n h pc lv (.int y :: .int x :: st) := fun ad ca H locs ls a1 a2 a3 a4 a5 a6 a7 => lv_icmp_eq hC.1.1 hC.1.2.1 hd ht (fun z => kt z ad ca H locs ls a1 a2 a3 a4 a5 (xl_tl (xl_tl a6)) a7) (fun z => kf z ad ca H locs ls a1 a2 a3 a4 a5 (xl_tl (xl_tl a6)) a7)
theorem xi_icmp_ne (hC : XC p s m args c cc nL own Ts cl NW AL D A) {x y : Int32} {off : Int} {tgt : Nat} (hd : decode cc pc = .ok (.if_icmp .ne off, 3)) (ht : (pc : Int) + off = (tgt : Int)) (kt : ¬ x = y → XW p l e R s m args below meth c nL cl D A ad0 n0 cells slots Q n h tgt lv st) (kf : x = y → XW p l e R s m args below meth c nL cl D A ad0 n0 cells slots Q n h (pc + 3) lv st) : XW p l e R s m args below meth c nL cl D A ad0 n0 cells slots Q n h pc lv (.int y :: .int x :: st) := fun ad ca H locs ls a1 a2 a3 a4 a5 a6 a7 => lv_icmp_ne hC.1.1 hC.1.2.1 hd ht (fun z => kt z ad ca H locs ls a1 a2 a3 a4 a5 (xl_tl (xl_tl a6)) a7) (fun z => kf z ad ca H locs ls a1 a2 a3 a4 a5 (xl_tl (xl_tl a6)) a7)
theorem xi_icmp_lt (hC : XC p s m args c cc nL own Ts cl NW AL D A) {x y : Int32} {off : Int} {tgt : Nat} (hd : decode cc pc = .ok (.if_icmp .lt off, 3)) (ht : (pc : Int) + off = (tgt : Int)) (kt : x < y → XW p l e R s m args below meth c nL cl D A ad0 n0 cells slots Q n h tgt lv st) (kf : ¬ x < y → XW p l e R s m args below meth c nL cl D A ad0 n0 cells slots Q n h (pc + 3) lv st) : XW p l e R s m args below meth c nL cl D A ad0 n0 cells slots Q n h pc lv (.int y :: .int x :: st) := fun ad ca H locs ls a1 a2 a3 a4 a5 a6 a7 => lv_icmp_lt hC.1.1 hC.1.2.1 hd ht (fun z => kt z ad ca H locs ls a1 a2 a3 a4 a5 (xl_tl (xl_tl a6)) a7) (fun z => kf z ad ca H locs ls a1 a2 a3 a4 a5 (xl_tl (xl_tl a6)) a7)
theorem xi_icmp_ge (hC : XC p s m args c cc nL own Ts cl NW AL D A) {x y : Int32} {off : Int} {tgt : Nat} (hd : decode cc pc = .ok (.if_icmp .ge off, 3)) (ht : (pc : Int) + off = (tgt : Int)) (kt : y ≤ x → XW p l e R s m args below meth c nL cl D A ad0 n0 cells slots Q n h tgt lv st) (kf : ¬ y ≤ x → XW p l e R s m args below meth c nL cl D A ad0 n0 cells slots Q n h (pc + 3) lv st) : XW p l e R s m args below meth c nL cl D A ad0 n0 cells slots Q n h pc lv (.int y :: .int x :: st) := fun ad ca H locs ls a1 a2 a3 a4 a5 a6 a7 => lv_icmp_ge hC.1.1 hC.1.2.1 hd ht (fun z => kt z ad ca H locs ls a1 a2 a3 a4 a5 (xl_tl (xl_tl a6)) a7) (fun z => kf z ad ca H locs ls a1 a2 a3 a4 a5 (xl_tl (xl_tl a6)) a7)
theorem xi_icmp_gt (hC : XC p s m args c cc nL own Ts cl NW AL D A) {x y : Int32} {off : Int} {tgt : Nat} (hd : decode cc pc = .ok (.if_icmp .gt off, 3)) (ht : (pc : Int) + off = (tgt : Int)) (kt : y < x → XW p l e R s m args below meth c nL cl D A ad0 n0 cells slots Q n h tgt lv st) (kf : ¬ y < x → XW p l e R s m args below meth c nL cl D A ad0 n0 cells slots Q n h (pc + 3) lv st) : XW p l e R s m args below meth c nL cl D A ad0 n0 cells slots Q n h pc lv (.int y :: .int x :: st) := fun ad ca H locs ls a1 a2 a3 a4 a5 a6 a7 => lv_icmp_gt hC.1.1 hC.1.2.1 hd ht (fun z => kt z ad ca H locs ls a1 a2 a3 a4 a5 (xl_tl (xl_tl a6)) a7) (fun z => kf z ad ca H locs ls a1 a2 a3 a4 a5 (xl_tl (xl_tl a6)) a7)
theorem xi_icmp_le (hC : XC p s m args c cc nL own Ts cl NW AL D A) {x y : Int32} {off : Int} {tgt : Nat} (hd : decode cc pc = .ok (.if_icmp .le off, 3)) (ht : (pc : Int) + off = (tgt : Int)) (kt : x ≤ y → XW p l e R s m args below meth c nL cl D A ad0 n0 cells slots Q n h tgt lv st) (kf : ¬ x ≤ y → XW p l e R s m args below meth c nL cl D A ad0 n0 cells slots Q n h (pc + 3) lv st) : XW p l e R s m args below meth c nL cl D A ad0 n0 cells slots Q n h pc lv (.int y :: .int x :: st) := fun ad ca H locs ls a1 a2 a3 a4 a5 a6 a7 => lv_icmp_le hC.1.1 hC.1.2.1 hd ht (fun z => kt z ad ca H locs ls a1 a2 a3 a4 a5 (xl_tl (xl_tl a6)) a7) (fun z => kf z ad ca H locs ls a1 a2 a3 a4 a5 (xl_tl (xl_tl a6)) a7)
theorem xi_goto (hC : XC p s m args c cc nL own Ts cl NW AL D A) {off : Int} {tgt : Nat} (hd : decode cc pc = .ok (.goto off, 3)) (ht : (pc : Int) + off = (tgt : Int)) (k : XW p l e R s m args below meth c nL cl D A ad0 n0 cells slots Q n h tgt lv st) : XW p l e R s m args below meth c nL cl D A ad0 n0 cells slots Q n h pc lv st := fun ad ca H locs ls a1 a2 a3 a4 a5 a6 a7 => lv_goto hC.1.1 hC.1.2.1 hd ht (k ad ca H locs ls a1 a2 a3 a4 a5 a6 a7)
theorem xi_ifnull (hC : XC p s m args c cc nL own Ts cl NW AL D A) {r : Nat} {off : Int} (hd : decode cc pc = .ok (.ifnull off, 3)) (k : XW p l e R s m args below meth c nL cl D A ad0 n0 cells slots Q n h (pc + 3) lv st) : XW p l e R s m args below meth c nL cl D A ad0 n0 cells slots Q n h pc lv (.ref r :: st) := fun ad ca H locs ls a1 a2 a3 a4 a5 a6 a7 => lv_ifnull hC.1.1 hC.1.2.1 hd (k ad ca H locs ls a1 a2 a3 a4 a5 (xl_tl a6) a7)
theorem xi_ifnullN (hC : XC p s m args c cc nL own Ts cl NW AL D A) {off : Int} {tgt : Nat} (hd : decode cc pc = .ok (.ifnull off, 3)) (ht : (pc : Int) + off = (tgt : Int)) (k : XW p l e R s m args below meth c nL cl D A ad0 n0 cells slots Q n h tgt lv st) : XW p l e R s m args below meth c nL cl D A ad0 n0 cells slots Q n h pc lv (.null :: st) := fun ad ca H locs ls a1 a2 a3 a4 a5 a6 a7 => lv_ifnullN hC.1.1 hC.1.2.1 hd ht (k ad ca H locs ls a1 a2 a3 a4 a5 (xl_tl a6) a7)
theorem xi_ifnonnull (hC : XC p s m args c cc nL own Ts cl NW AL D A) {r : Nat} {off : Int} {tgt : Nat} (hd : decode cc pc = .ok (.ifnonnull off, 3)) (ht : (pc : Int) + off = (tgt : Int)) (k : XW p l e R s m args below meth c nL cl D A ad0 n0 cells slots Q n h tgt lv st) : XW p l e R s m args below meth c nL cl D A ad0 n0 cells slots Q n h pc lv (.ref r :: st) := fun ad ca H locs ls a1 a2 a3 a4 a5 a6 a7 => lv_ifnonnull hC.1.1 hC.1.2.1 hd ht (k ad ca H locs ls a1 a2 a3 a4 a5 (xl_tl a6) a7)
theorem xi_ifnonnullN (hC : XC p s m args c cc nL own Ts cl NW AL D A) {off : Int} (hd : decode cc pc = .ok (.ifnonnull off, 3)) (k : XW p l e R s m args below meth c nL cl D A ad0 n0 cells slots Q n h (pc + 3) lv st) : XW p l e R s m args below meth c nL cl D A ad0 n0 cells slots Q n h pc lv (.null :: st) := fun ad ca H locs ls a1 a2 a3 a4 a5 a6 a7 => lv_ifnonnullN hC.1.1 hC.1.2.1 hd (k ad ca H locs ls a1 a2 a3 a4 a5 (xl_tl a6) a7)
theorem xi_locs (ks : List Nat) {lv' : List (Nat × Value)} (hk : lv_pick lv ks = lv') (k : XW p l e R s m args below meth c nL cl D A ad0 n0 cells slots Q n h pc lv' st) : XW p l e R s m args below meth c nL cl D A ad0 n0 cells slots Q n h pc lv st := fun ad ca H locs ls a1 a2 a3 a4 a5 a6 a7 => k ad ca H locs ls a1 a2 a3 a4 (xlv_pick a5 hk) a6 (lv_sub a7 ks (by rw [xm_pick, hk]))
theorem xi_widen {k1 k2 : Nat} (h1 : cells ≤ k1) (h2 : slots ≤ k2) (k : XW p l e R s m args below meth c nL cl D A ad0 n0 k1 k2 Q n h pc lv st) : XW p l e R s m args below meth c nL cl D A ad0 n0 cells slots Q n h pc lv st := fun ad ca H locs ls a1 a2 a3 a4 a5 a6 a7 => W.widen h1 h2 (k ad ca H locs ls a1 a2 a3 a4 a5 a6 a7)
theorem xi_pc {pc' : Nat} (hp : pc' = pc) (k : XW p l e R s m args below meth c nL cl D A ad0 n0 cells slots Q n h pc lv st) : XW p l e R s m args below meth c nL cl D A ad0 n0 cells slots Q n h pc' lv st := by rw [hp]; exact k
end XS
end
section
/-! fields and arrays of the numbered heap -/
def xg (h : XH) (ci k r : Nat) : Option Value := match h r with
  | .inr (c, fs) => if c = ci then fs[k]? else none
  | .inl _ => none
def xgI (h : XH) (ci k r : Nat) : Option Int32 := match xg h ci k r with
  | some (.int x) => some x
  | _ => none
def xgR (h : XH) (ci k r : Nat) : Option Nat := match xg h ci k r with
  | some (.ref q) => some q
  | _ => none
def xgQ (h : XH) (ci k r : Nat) : Option (Option Nat) := match xg h ci k r with
  | some (.ref q) => some (some q)
  | some .null => some none
  | _ => none
def xp (h : XH) (ci k r : Nat) (v : Value) : Option XH := match h r with
  | .inr (c, fs) => if c = ci ∧ k < fs.length then some (va_up h r (.inr (ci, fs.set k v))) else none
  | .inl _ => none
def xis (h : XH) (ci r : Nat) : Bool := match h r with
  | .inr (c, _) => c == ci
  | .inl _ => false
abbrev xin (i : Int32) (n : Nat) : Prop := ¬ i < 0 ∧ i.toNatClampNeg < n
def xaI (h : XH) (r : Nat) (i : Int32) : Option Int32 := match h r with
  | .inl (.int, (n, .inl f)) => if xin i n then some (f i.toNatClampNeg) else none
  | _ => none
def xaS (h : XH) (r : Nat) (i x : Int32) : Option XH := match h r with
  | .inl (.int, (n, .inl f)) => if xin i n then some (va_up h r (.inl (.int, (n, .inl (upd f i.toNatClampNeg x))))) else none
  | _ => none
def xaN (h : XH) (r : Nat) : Option Int32 := match h r with
  | .inl (_, (n, _)) => some (Int32.ofNat n)
  | .inr _ => none
def xaR (h : XH) (C : String) (r : Nat) (i : Int32) : Option (Option Nat) := match h r with
  | .inl (.object C', (n, .inr (.inr (.inr (.inr f))))) => if C' = C ∧ xin i n then some (f i.toNatClampNeg) else none
  | _ => none
def xaQ (h : XH) (C : String) (ci r : Nat) (i : Int32) (q : Nat) : Option XH := match h r with
  | .inl (.object C', (n, .inr (.inr (.inr (.inr f))))) => if C' = C ∧ xis h ci q = true ∧ xin i n then some (va_up h r (.inl (.object C, (n, .inr (.inr (.inr (.inr (va_up f i.toNatClampNeg (some q))))))))) else none
  | _ => none
theorem xg_inv {h : XH} {ci k r : Nat} {v : Value} (hg : xg h ci k r = some v) : ∃ fs, h r = .inr (ci, fs) ∧ fs[k]? = some v := by
  unfold xg at hg
  split at hg
  · rename_i c fs e
    split at hg
    · rename_i hc
      subst hc
      exact ⟨fs, e, hg⟩
    · cases hg
  · cases hg
theorem xgI_inv {h : XH} {ci k r : Nat} {x : Int32} (hg : xgI h ci k r = some x) : xg h ci k r = some (.int x) := by
  unfold xgI at hg
  split at hg
  · rename_i y e
    cases hg
    exact e
  · cases hg
theorem xgR_inv {h : XH} {ci k r q : Nat} (hg : xgR h ci k r = some q) : xg h ci k r = some (.ref q) := by
  unfold xgR at hg
  split at hg
  · rename_i y e
    cases hg
    exact e
  · cases hg
theorem xgQ_inv {h : XH} {ci k r : Nat} {o : Option Nat} (hg : xgQ h ci k r = some o) : xg h ci k r = some (va_rf o) := by
  unfold xgQ at hg
  split at hg
  · rename_i y e
    cases hg
    exact e
  · rename_i e
    cases hg
    exact e
  · cases hg
theorem xp_inv {h h' : XH} {ci k r : Nat} {v : Value} (hg : xp h ci k r v = some h') : ∃ fs, h r = .inr (ci, fs) ∧ k < fs.length ∧ h' = va_up h r (.inr (ci, fs.set k v)) := by
  unfold xp at hg
  split at hg
  · rename_i c fs e
    split at hg
    · rename_i hc
      obtain ⟨hc, hl⟩ := hc
      subst hc
      exact ⟨fs, e, hl, (Option.some.inj hg).symm⟩
    · cases hg
  · cases hg
theorem xis_inv {h : XH} {ci r : Nat} (hg : xis h ci r = true) : ∃ fs, h r = .inr (ci, fs) := by
  unfold xis at hg
  split at hg
  · rename_i c fs e
    exact ⟨fs, by rw [e, beq_iff_eq.mp hg]⟩
  · cases hg
theorem xaI_inv {h : XH} {r : Nat} {i x : Int32} (hg : xaI h r i = some x) : ∃ n f, h r = .inl (.int, (n, .inl f)) ∧ xin i n ∧ x = f i.toNatClampNeg := by
  unfold xaI at hg
  split at hg
  · rename_i n f e
    split at hg
    · rename_i hi
      exact ⟨n, f, e, hi, (Option.some.inj hg).symm⟩
    · cases hg
  · cases hg
theorem xaS_inv {h h' : XH} {r : Nat} {i x : Int32} (hg : xaS h r i x = some h') : ∃ n f, h r = .inl (.int, (n, .inl f)) ∧ xin i n ∧ h' = va_up h r (.inl (.int, (n, .inl (upd f i.toNatClampNeg x)))) := by
  unfold xaS at hg
  split at hg
  · rename_i n f e
    split at hg
    · rename_i hi
      exact ⟨n, f, e, hi, (Option.some.inj hg).symm⟩
    · cases hg
  · cases hg
theorem xaN_inv {h : XH} {r : Nat} {x : Int32} (hg : xaN h r = some x) : ∃ ty n f, h r = .inl (ty, (n, f)) ∧ x = Int32.ofNat n := by
  unfold xaN at hg
  split at hg
  · rename_i ty n f e
    exact ⟨ty, n, f, e, (Option.some.inj hg).symm⟩
  · cases hg
theorem xaR_inv {h : XH} {C : String} {r : Nat} {i : Int32} {o : Option Nat} (hg : xaR h C r i = some o) : ∃ n f, h r = .inl (.object C, (n, .inr (.inr (.inr (.inr f))))) ∧ xin i n ∧ o = f i.toNatClampNeg := by
  unfold xaR at hg
  split at hg
  · rename_i C' n f e
    split at hg
    · rename_i hi
      obtain ⟨hc, hi⟩ := hi
      subst hc
      exact ⟨n, f, e, hi, (Option.some.inj hg).symm⟩
    · cases hg
  · cases hg
theorem xaQ_inv {h h' : XH} {C : String} {ci r q : Nat} {i : Int32} (hg : xaQ h C ci r i q = some h') : ∃ n f fs, h r = .inl (.object C, (n, .inr (.inr (.inr (.inr f))))) ∧ h q = .inr (ci, fs) ∧ xin i n ∧ h' = va_up h r (.inl (.object C, (n, .inr (.inr (.inr (.inr (va_up f i.toNatClampNeg (some q)))))))) := by
  unfold xaQ at hg
  split at hg
  · rename_i C' n f e
    split at hg
    · rename_i hi
      obtain ⟨hc, hq, hi⟩ := hi
      subst hc
      obtain ⟨fs, e2⟩ := xis_inv hq
      exact ⟨n, f, fs, e, e2, hi, (Option.some.inj hg).symm⟩
    · cases hg
  · cases hg
theorem xin_vp {i : Int32} {n : Nat} (h : xin i n) : vp_in i n := fun q => q.elim h.1 (fun z => absurd h.2 (Nat.not_lt.mpr z))
theorem xN_inl (a : FieldType × vp_A) : (Sum.inl a : XE) ≠ xN := by
  intro z
  unfold xN at z
  cases z
theorem xN_inr {ci : Nat} {fs : List Value} (h : ¬ ci = 999) : (Sum.inr (ci, fs) : XE) ≠ xN := by
  intro z
  unfold xN at z
  injection z with z
  injection z with z1 z2
  exact h z1
theorem xK1 {D : va_G} {cl : List vw_C} {s : State} {cA : ClassId} {ty : FieldType} (hK : va_K D cl [] s) (h1 : ArrOfT s cA ty ∧ va_RA s cA ty) : va_K D cl [(cA, ty)] s := by
  refine ⟨hK.1, fun k q hq => ?_⟩
  match k, hq with
  | 0, hq => cases hq; exact h1
  | k + 1, hq => simp at hq
theorem xgood {Ts : List Cond} (hg : ∀ w ∈ Ts, goodWord w = true) {ws : List Cond} (h : ∀ w ∈ ws, w ∈ Ts) : GoodIn Ts ws := fun w hw => ⟨h w hw, good_of_word (hg w (h w hw))⟩
theorem xgood1 {Ts : List Cond} (hg : ∀ w ∈ Ts, goodWord w = true) {w0 : Cond} (h : w0 ∈ Ts) : GoodIn Ts (w0 :: Ts) := xgood hg fun w hw => by
  rcases List.mem_cons.mp hw with q | q
  · rw [q]; exact h
  · exact q
theorem xcat (ad : Nat → Nat) (st : List Value) : ((st.map (xv ad)).map fun v => v.category) = st.map fun v => v.category := by
  rw [List.map_map]
  exact List.map_congr_left fun v _ => xv_cat ad v
section XS
variable {p : Program} {l : Launch} {e : Env} {R : Room} {s : State} {m : MethodId} {args : Array Value} {below : List Frame} {meth : Method} {c : Code} {Q : State → Prop}
variable {cc : ByteArray} {nL : Nat} {own : String} {Ts : List Cond} {cl : List vw_C} {NW : List Cond} {AL : List String} {D : va_G} {A : Nat → Prop} {ad0 : Nat → Nat} {n0 : Nat}
variable {n : Nat} {h : XH} {cells slots pc : Nat} {lv : List (Nat × Value)} {st : List Value}
theorem xi_get (hC : XC p s m args c cc nL own Ts cl NW AL D A) {C : String} {T : u_T} {N ci index k r : Nat} {v : Value} (hcl : cl[ci]? = some (C, T, N)) (hin : ∀ w ∈ u_ws C T N, w ∈ Ts) (hk : k < N) (hlk : Cond.fieldLink own index (T k).1 (T k).2.1 (T k).2.2.1 ∈ Ts) (hci : ¬ ci = 999) (hg : xg h ci k r = some v) (hd : decode cc pc = .ok (.getfield index, 3))
    (kk : XW p l e R s m args below meth c nL cl D A ad0 n0 cells slots Q n h (pc + 3) lv (v :: st)) : XW p l e R s m args below meth c nL cl D A ad0 n0 cells slots Q n h pc lv (.ref r :: st) := by
  intro ad ca H locs ls a1 a2 a3 a4 a5 a6 a7
  obtain ⟨fs, e1, hv⟩ := xg_inv hg
  obtain ⟨g1, g2, g3⟩ := a3.cell e1 (xN_inr hci)
  have hok : vok n v := by
    have z := a3.2.2.1 r
    rw [e1] at z
    exact z v (List.mem_of_getElem? hv)
  exact va_get (v := xv ad v) (fs := fs.map (xv ad)) hC.1.1 hC.1.2.1 hC.1.2.2.2.2 hin hC.1.2.2.2.1 hC.2.1 a3.1 (r - 1) g3 hcl k hk (hC.1.2.2.2.2 _ hlk) (fun _ z => z) (by simp [hv]) hd (kk ad ca H locs ls a1 a2 a3 a4 a5 (xl_cons hok (xl_tl a6)) a7)
theorem xi_getN (hC : XC p s m args c cc nL own Ts cl NW AL D A) {C host : String} {T : u_T} {N ci index k r : Nat} {v : Value} (hcl : cl[ci]? = some (C, T, N)) (hin : ∀ w ∈ u_ws C T N, w ∈ Ts) (hk : k < N) (hlk : Cond.fieldLinkNest own index (T k).1 (T k).2.1 (T k).2.2.1 host ∈ NW) (hci : ¬ ci = 999) (hg : xg h ci k r = some v) (hd : decode cc pc = .ok (.getfield index, 3))
    (kk : XW p l e R s m args below meth c nL cl D A ad0 n0 cells slots Q n h (pc + 3) lv (v :: st)) : XW p l e R s m args below meth c nL cl D A ad0 n0 cells slots Q n h pc lv (.ref r :: st) := by
  intro ad ca H locs ls a1 a2 a3 a4 a5 a6 a7
  obtain ⟨fs, e1, hv⟩ := xg_inv hg
  obtain ⟨g1, g2, g3⟩ := a3.cell e1 (xN_inr hci)
  have hok : vok n v := by
    have z := a3.2.2.1 r
    rw [e1] at z
    exact z v (List.mem_of_getElem? hv)
  exact va_getN (v := xv ad v) (fs := fs.map (xv ad)) hC.1.1 hC.1.2.1 hC.1.2.2.2.2 hin hC.1.2.2.2.1 hC.2.1 a3.1 (r - 1) g3 hcl k hk (va_Nw.use rfl (hC.2.2.2.1 _ hlk)) (fun _ z => z) (by simp [hv]) hd (kk ad ca H locs ls a1 a2 a3 a4 a5 (xl_cons hok (xl_tl a6)) a7)
theorem xl_set {n k : Nat} {v : Value} {fs : List Value} (h1 : xl n fs) (h2 : vok n v) : xl n (fs.set k v) := by
  intro w hw
  rcases List.mem_or_eq_of_mem_set hw with q | q
  · exact h1 w q
  · rw [q]; exact h2
theorem xi_put (hC : XC p s m args c cc nL own Ts cl NW AL D A) {C : String} {T : u_T} {N ci index k r : Nat} {v : Value} {h' : XH} (ty0 : Nat → FieldType) (hcl : cl[ci]? = some (C, T, N)) (hin : ∀ w ∈ u_ws C T N, w ∈ Ts) (hty : ∀ k, k < N → parseFieldDescriptor (T k).2.2.1 = some (ty0 k)) (hnm : ∀ a, a < N → ∀ b, b < N → a ≠ b → (T a).2.1 ≠ (T b).2.1) (hk : k < N) (hlk : Cond.fieldLink own index (T k).1 (T k).2.1 (T k).2.2.1 ∈ Ts) (hci : ¬ ci = 999) (hfin : (T k).2.2.2 = false) (hn : ∀ ad, narrow (ty0 k) (xv ad v) = xv ad v) (hfit : ∀ ad, fits (ty0 k) (xv ad v) = true) (hg : xp h ci k r v = some h') (hd : decode cc pc = .ok (.putfield index, 3))
    (kk : XW p l e R s m args below meth c nL cl D A ad0 n0 cells slots Q n h' (pc + 3) lv st) : XW p l e R s m args below meth c nL cl D A ad0 n0 cells slots Q n h pc lv (v :: .ref r :: st) := by
  intro ad ca H locs ls a1 a2 a3 a4 a5 a6 a7
  obtain ⟨fs, e1, hl, rfl⟩ := xp_inv hg
  obtain ⟨g1, g2, g3⟩ := a3.cell e1 (xN_inr hci)
  have hok : xl n fs := by
    have z := a3.2.2.1 r
    rw [e1] at z
    exact z
  refine va_put (v := xv ad v) (fs := fs.map (xv ad)) hC.1.1 hC.1.2.1 hC.1.2.2.2.2 hin ty0 hty hnm hC.1.2.2.2.1 hC.2.1 a3.1 a3.2.1 a4 (r - 1) g3 hcl k hk (hC.1.2.2.2.2 _ hlk) (fun _ z => z) hfin (hty k hk) (hn ad) (hfit ad) (by simpa using hl) hd (fun H1 locs1 q1 q2 q3 => ?_)
  have e9 : (fs.map (xv ad)).set k (xv ad v) = (fs.set k v).map (xv ad) := by rw [List.map_set]
  rw [e9] at q1 q2
  exact kk ad ca H1 locs1 ls a1 a2 (a3.set g1 g2 (z := .inr (ci, fs.set k v)) q1 q2 (xl_set hok (xl_hd a6)) (fun ty a z => by cases z)) q3 a5 (xl_tl (xl_tl a6)) a7
theorem xi_putF (hC : XC p s m args c cc nL own Ts cl NW AL D A) {C : String} {T : u_T} {N ci index k r : Nat} {v : Value} {h' : XH} (ty0 : Nat → FieldType) (hcl : cl[ci]? = some (C, T, N)) (hin : ∀ w ∈ u_ws C T N, w ∈ Ts) (hty : ∀ k, k < N → parseFieldDescriptor (T k).2.2.1 = some (ty0 k)) (hnm : ∀ a, a < N → ∀ b, b < N → a ≠ b → (T a).2.1 ≠ (T b).2.1) (hk : k < N) (hlk : Cond.fieldLink own index (T k).1 (T k).2.1 (T k).2.2.1 ∈ Ts) (hci : ¬ ci = 999) (hfin : (T k).2.2.2 = true) (hin2 : meth.name = "<init>") (hdecl : (T k).1 = own) (hn : ∀ ad, narrow (ty0 k) (xv ad v) = xv ad v) (hfit : ∀ ad, fits (ty0 k) (xv ad v) = true) (hg : xp h ci k r v = some h') (hd : decode cc pc = .ok (.putfield index, 3))
    (kk : XW p l e R s m args below meth c nL cl D A ad0 n0 cells slots Q n h' (pc + 3) lv st) : XW p l e R s m args below meth c nL cl D A ad0 n0 cells slots Q n h pc lv (v :: .ref r :: st) := by
  intro ad ca H locs ls a1 a2 a3 a4 a5 a6 a7
  obtain ⟨fs, e1, hl, rfl⟩ := xp_inv hg
  obtain ⟨g1, g2, g3⟩ := a3.cell e1 (xN_inr hci)
  have hok : xl n fs := by
    have z := a3.2.2.1 r
    rw [e1] at z
    exact z
  refine va_putF (v := xv ad v) (fs := fs.map (xv ad)) hC.1.1 hC.1.2.1 hC.1.2.2.2.2 hin ty0 hty hnm hC.1.2.2.2.1 hC.2.1 a3.1 a3.2.1 a4 (r - 1) g3 hcl k hk (hC.1.2.2.2.2 _ hlk) (fun _ z => z) hfin hin2 hdecl (hty k hk) (hn ad) (hfit ad) (by simpa using hl) hd (fun H1 locs1 q1 q2 q3 => ?_)
  have e9 : (fs.map (xv ad)).set k (xv ad v) = (fs.set k v).map (xv ad) := by rw [List.map_set]
  rw [e9] at q1 q2
  exact kk ad ca H1 locs1 ls a1 a2 (a3.set g1 g2 (z := .inr (ci, fs.set k v)) q1 q2 (xl_set hok (xl_hd a6)) (fun ty a z => by cases z)) q3 a5 (xl_tl (xl_tl a6)) a7
theorem xi_iald (hC : XC p s m args c cc nL own Ts cl NW AL D A) {r : Nat} {i x : Int32} (hg : xaI h r i = some x) (hd : decode cc pc = .ok (.iaload, 1))
    (kk : XW p l e R s m args below meth c nL cl D A ad0 n0 cells slots Q n h (pc + 1) lv (.int x :: st)) : XW p l e R s m args below meth c nL cl D A ad0 n0 cells slots Q n h pc lv (.int i :: .ref r :: st) := by
  intro ad ca H locs ls a1 a2 a3 a4 a5 a6 a7
  obtain ⟨N, f, e1, hi, rfl⟩ := xaI_inv hg
  obtain ⟨g1, g2, g3⟩ := a3.cell e1 (xN_inl _)
  exact va_iald hC.1.1 hC.1.2.1 (xK1 hC.2.1 (a3.2.2.2.1 r _ _ e1)) a3.1 (r - 1) 0 g3 rfl (xin_vp hi) hd (kk ad ca H locs ls a1 a2 a3 a4 a5 (xl_cons trivial (xl_tl (xl_tl a6))) a7)
theorem xi_iast (hC : XC p s m args c cc nL own Ts cl NW AL D A) {r : Nat} {i x : Int32} {h' : XH} (hg : xaS h r i x = some h') (hd : decode cc pc = .ok (.iastore, 1))
    (kk : XW p l e R s m args below meth c nL cl D A ad0 n0 cells slots Q n h' (pc + 1) lv st) : XW p l e R s m args below meth c nL cl D A ad0 n0 cells slots Q n h pc lv (.int x :: .int i :: .ref r :: st) := by
  intro ad ca H locs ls a1 a2 a3 a4 a5 a6 a7
  obtain ⟨N, f, e1, hi, rfl⟩ := xaS_inv hg
  obtain ⟨g1, g2, g3⟩ := a3.cell e1 (xN_inl _)
  exact va_iast hC.1.1 hC.1.2.1 (xK1 hC.2.1 (a3.2.2.2.1 r _ _ e1)) a3.1 a3.2.1 a4 (r - 1) 0 g3 rfl (xin_vp hi) hd (fun H1 locs1 q1 q2 q3 => kk ad ca H1 locs1 ls a1 a2 (a3.set g1 g2 (z := .inl (.int, (N, .inl (upd f i.toNatClampNeg x)))) q1 q2 trivial (fun ty a z => by cases z; exact ⟨_, e1⟩)) q3 a5 (xl_tl (xl_tl (xl_tl a6))) a7)
theorem xa_fst (ad : Nat → Nat) (a : vp_A) : (xa ad a).1 = a.1 := by
  rcases a with ⟨m, f | f | f | f | f⟩ <;> rfl
theorem xi_alen (hC : XC p s m args c cc nL own Ts cl NW AL D A) {r : Nat} {x : Int32} (hg : xaN h r = some x) (hd : decode cc pc = .ok (.arraylength, 1))
    (kk : XW p l e R s m args below meth c nL cl D A ad0 n0 cells slots Q n h (pc + 1) lv (.int x :: st)) : XW p l e R s m args below meth c nL cl D A ad0 n0 cells slots Q n h pc lv (.ref r :: st) := by
  intro ad ca H locs ls a1 a2 a3 a4 a5 a6 a7
  obtain ⟨ty, N, f, e1, rfl⟩ := xaN_inv hg
  obtain ⟨g1, g2, g3⟩ := a3.cell e1 (xN_inl _)
  exact va_alen (x := xa ad (N, f)) hC.1.1 hC.1.2.1 (xK1 hC.2.1 (a3.2.2.2.1 r _ _ e1)) a3.1 (r - 1) 0 g3 rfl (by rw [xa_fst]) hd (kk ad ca H locs ls a1 a2 a3 a4 a5 (xl_cons trivial (xl_tl a6)) a7)
theorem xv_rf (ad : Nat → Nat) (o : Option Nat) : xv ad (va_rf o) = va_rf (o.map ad) := by cases o <;> rfl
theorem xi_aald (hC : XC p s m args c cc nL own Ts cl NW AL D A) {C : String} {r : Nat} {i : Int32} {o : Option Nat} (hg : xaR h C r i = some o) (hd : decode cc pc = .ok (.aaload, 1))
    (kk : XW p l e R s m args below meth c nL cl D A ad0 n0 cells slots Q n h (pc + 1) lv (va_rf o :: st)) : XW p l e R s m args below meth c nL cl D A ad0 n0 cells slots Q n h pc lv (.int i :: .ref r :: st) := by
  intro ad ca H locs ls a1 a2 a3 a4 a5 a6 a7
  obtain ⟨N, f, e1, hi, rfl⟩ := xaR_inv hg
  obtain ⟨g1, g2, g3⟩ := a3.cell e1 (xN_inl _)
  have hok : vok n (va_rf (f i.toNatClampNeg)) := by
    have z := a3.2.2.1 r
    rw [e1] at z
    cases hf : f i.toNatClampNeg with
    | none => trivial
    | some q => exact z _ q hf
  have K := kk ad ca H locs ls a1 a2 a3 a4 a5 (xl_cons hok (xl_tl (xl_tl a6))) a7
  rw [List.map_cons, xv_rf] at K
  exact va_aldq (f := fun j => (f j).map ad) hC.1.1 hC.1.2.1 (xK1 hC.2.1 (a3.2.2.2.1 r _ _ e1)) a3.1 (r - 1) 0 g3 rfl (xin_vp hi) hd K
theorem xi_aast (hC : XC p s m args c cc nL own Ts cl NW AL D A) {C : String} {T : u_T} {N0 ci r q : Nat} {i : Int32} {h' : XH} (hcl : cl[ci]? = some (C, T, N0)) (hci : ¬ ci = 999) (hg : xaQ h C ci r i q = some h') (hd : decode cc pc = .ok (.aastore, 1))
    (kk : XW p l e R s m args below meth c nL cl D A ad0 n0 cells slots Q n h' (pc + 1) lv st) : XW p l e R s m args below meth c nL cl D A ad0 n0 cells slots Q n h pc lv (.ref q :: .int i :: .ref r :: st) := by
  intro ad ca H locs ls a1 a2 a3 a4 a5 a6 a7
  obtain ⟨N, f, fs, e1, e2, hi, rfl⟩ := xaQ_inv hg
  obtain ⟨g1, g2, g3⟩ := a3.cell e1 (xN_inl _)
  obtain ⟨k1, k2, k3⟩ := a3.cell e2 (xN_inr hci)
  have hf0 : ∀ j r, f j = some r → r ≤ n := by
    have z := a3.2.2.1 r
    rw [e1] at z
    exact z
  refine va_astq (f := fun j => (f j).map ad) (r := (C, T, N0)) hC.1.1 hC.1.2.1 (xK1 hC.2.1 (a3.2.2.2.1 r _ _ e1)) a3.1 a3.2.1 a4 (r - 1) 0 (q - 1) ci g3 rfl k3 hcl (xin_vp hi) hd (fun H1 locs1 q1 q2 q3 => ?_)
  have e9 : va_up (fun j => (f j).map ad) i.toNatClampNeg (some (ad q)) = fun j => (va_up f i.toNatClampNeg (some q) j).map ad := by
    funext j
    by_cases hj : j = i.toNatClampNeg
    · subst hj; rw [va_up_self, va_up_self]; rfl
    · rw [va_up_ne _ _ hj, va_up_ne _ _ hj]
  rw [e9] at q1 q2
  refine kk ad ca H1 locs1 ls a1 a2 (a3.set g1 g2 (z := .inl (.object C, (N, .inr (.inr (.inr (.inr (va_up f i.toNatClampNeg (some q)))))))) q1 q2 (fun j r' hr => ?_) (fun ty a z => by cases z; exact ⟨_, e1⟩)) q3 a5 (xl_tl (xl_tl (xl_tl a6))) a7
  by_cases hj : j = i.toNatClampNeg
  · subst hj
    rw [va_up_self] at hr
    cases hr
    exact k2
  · rw [va_up_ne _ _ hj] at hr
    exact hf0 j r' hr
theorem xi_fresh {z : XE} {z' : va_E} {cA : ClassId} {c1 c2 q dp : Nat} {ad : Nat → Nat} {ca : Nat → ClassId} {H H1 : Heap} {locs : List Loc} {ls : Array Slot}
    (kk : XW p l e R s m args below meth c nL cl D A ad0 n0 (cells + c1) (slots + c2) Q (n + 1) (va_up h (n + 1) z) (pc + dp) lv (.ref (n + 1) :: st))
    (a1 : ∀ k, k ≤ n0 → ad k = ad0 k) (a2 : n0 ≤ n) (a3 : xR D cl A s n h ad ca H) (a5 : xlv n lv) (a6 : xl n st) (a7 : lv_has ls nL (xm ad lv)) (e0 : xe (va_up ad (n + 1) q) cA z = z') (hP : va_P D cl (xw ad ca n h ++ [(q, z')]) H1) (hD : va_D A (xw ad ca n h ++ [(q, z')])) (hz : xf (n + 1) z) (ht : ∀ (ty : FieldType) (a : vp_A), z = .inl (ty, a) → ArrOfT s cA ty ∧ va_RA s cA ty) (hS : va_S A s.heap H1 locs) :
    W p l e R s m args below meth c H1 locs (cells + c1) (slots + c2) Q (F0 m (pc + dp) ls (.ref q :: st.map (xv ad))) := by
  have hag : ∀ k, k ≤ n → va_up ad (n + 1) q k = ad k := fun k hk => va_up_ne _ _ (by omega)
  have K := kk (va_up ad (n + 1) q) (va_up ca (n + 1) cA) H1 locs ls (fun k hk => (hag k (by omega)).trans (a1 k hk)) (by omega) (a3.push e0 hP hD hz ht) hS (xlv_mono a5 (by omega)) (xl_cons (show n + 1 ≤ n + 1 from Nat.le_refl _) (xl_mono a6 (by omega))) (by rw [xm_ext hag a5]; exact a7)
  have e3 : xv (va_up ad (n + 1) q) (.ref (n + 1)) = .ref q := congrArg Value.ref (va_up_self _ _ _)
  rw [List.map_cons, xl_ext hag a6, e3] at K
  exact K
theorem xi_new (hC : XC p s m args c cc nL own Ts cl NW AL D A) {C : String} {T : u_T} {N ci index : Nat} {fs : List Value} (ty : Nat → FieldType) (hcl : cl[ci]? = some (C, T, N)) (hin : ∀ w ∈ u_ws C T N, w ∈ Ts) (hty : ∀ k, k < N → parseFieldDescriptor (T k).2.2.1 = some (ty k)) (hlk : Cond.classLink own index C ∈ Ts) (hinst : Cond.instantiable C N ∈ Ts) (hini : Cond.initialized C ∈ Ts) (hfs : ∀ j, j < N → defaultValue (ty j) = vp_V fs j) (hnr : ∀ ad, fs.map (xv ad) = fs) (hx0 : xl 0 fs) (hc1 : cells + 1 ≤ R.cells) (hc2 : slots + N ≤ R.slots) (hd : decode cc pc = .ok (.new index, 3))
    (kk : XW p l e R s m args below meth c nL cl D A ad0 n0 (cells + 1) (slots + N) Q (n + 1) (va_up h (n + 1) (.inr (ci, fs))) (pc + 3) lv (.ref (n + 1) :: st)) : XW p l e R s m args below meth c nL cl D A ad0 n0 cells slots Q n h pc lv st := by
  intro ad ca H locs ls a1 a2 a3 a4 a5 a6 a7
  refine va_new (fs := fs) hC.1.1 hC.1.2.1 hC.1.2.2.2.2 hin ty hty hC.1.2.2.2.1 (hC.1.2.2.2.2 _ hlk) (hC.1.2.2.2.2 _ hinst) (hC.1.2.2.2.2 _ hini) hC.2.1 a3.1 a3.2.1 a4 hC.2.2.1 hcl hfs hc1 hc2 hd (fun q H1 q1 q2 q3 => ?_)
  exact xi_fresh (cA := 0) kk a1 a2 a3 a5 a6 a7 (by simp only [xe, hnr]) q1 q2 (xl_mono hx0 (Nat.zero_le _)) (fun ty a z => by cases z) q3
theorem xi_newI (hC : XC p s m args c cc nL own Ts cl NW AL D A) {atype : ArrayType} {x : Int32} {N : Nat} (hat : newarray.typeOf atype = .int) (harr : Cond.arrayClass (newarray.typeOf atype) ∈ Ts) (hn : ¬ x < 0) (hN : x.toNatClampNeg = N) (hbt : N * componentBytes .int ≤ 536870912) (hc1 : cells + 1 ≤ R.cells) (hc2 : slots + N ≤ R.slots) (hd : decode cc pc = .ok (.newarray atype, 2))
    (kk : XW p l e R s m args below meth c nL cl D A ad0 n0 (cells + 1) (slots + N) Q (n + 1) (va_up h (n + 1) (.inl (.int, (N, .inl (fun _ => 0))))) (pc + 2) lv (.ref (n + 1) :: st)) : XW p l e R s m args below meth c nL cl D A ad0 n0 cells slots Q n h pc lv (.int x :: st) := by
  intro ad ca H locs ls a1 a2 a3 a4 a5 a6 a7
  refine va_newa (a0 := (N, .inl (fun _ => 0))) hC.1.1 hC.1.2.1 (hC.1.2.2.2.2 _ harr) hat hC.2.1 a3.1 a3.2.1 a4 hC.2.2.1 (fun cA => rfl) hn hN hbt hc1 hc2 hd (fun q cA H1 q0 q1 q2 q3 => ?_)
  exact xi_fresh (cA := cA) kk a1 a2 a3 a5 (xl_tl a6) a7 rfl q1 q2 trivial (fun ty a z => by cases z; exact q0.2 0 _ rfl) q3
theorem xi_newQ (hC : XC p s m args c cc nL own Ts cl NW AL D A) {C : String} {index : Nat} {x : Int32} {N : Nat} (hlk : Cond.classLink own index C ∈ Ts) (hao : C ∈ AL) (hn : ¬ x < 0) (hN : x.toNatClampNeg = N) (hbt : N * 4 ≤ 536870912) (hc1 : cells + 1 ≤ R.cells) (hc2 : slots + N ≤ R.slots) (hd : decode cc pc = .ok (.anewarray index, 3))
    (kk : XW p l e R s m args below meth c nL cl D A ad0 n0 (cells + 1) (slots + N) Q (n + 1) (va_up h (n + 1) (.inl (.object C, (N, .inr (.inr (.inr (.inr (fun _ => none)))))))) (pc + 3) lv (.ref (n + 1) :: st)) : XW p l e R s m args below meth c nL cl D A ad0 n0 cells slots Q n h pc lv (.int x :: st) := by
  intro ad ca H locs ls a1 a2 a3 a4 a5 a6 a7
  refine va_newq hC.1.1 hC.1.2.1 hC.1.2.2.2.1 (hC.1.2.2.2.2 _ hlk) (hC.2.2.2.2.1 _ hao) hC.2.1 a3.1 a3.2.1 a4 hC.2.2.1 hn hN hbt hc1 hc2 hd (fun q cA H1 q0 q1 q2 q3 => ?_)
  exact xi_fresh (cA := cA) kk a1 a2 a3 a5 (xl_tl a6) a7 rfl q1 q2 (fun j r hr => by cases hr) (fun ty a z => by cases z; exact q0.2 0 _ rfl) q3
theorem xi_objInit (hC : XC p s m args c cc nL own Ts cl NW AL D A) {idx r : Nat} (h1 : Cond.methodLink own idx Lib.objectInit ∈ Ts) (h2 : Cond.instanceMethod Lib.objectInit ∈ Ts) (h3 : Cond.code Lib.objectInit ⟨#[0xb1]⟩ 1 none ∈ Ts) (hd : decode cc pc = .ok (.invokespecial idx, 3)) (hf : 1 ≤ R.frames) (hl : 20 ≤ R.locals) (hst : (st.map fun v => v.category).sum ≤ 8)
    (kk : XW p l e R s m args below meth c nL cl D A ad0 n0 cells slots Q n h (pc + 3) lv st) : XW p l e R s m args below meth c nL cl D A ad0 n0 cells slots Q n h pc lv (.ref r :: st) := by
  intro ad ca H locs ls a1 a2 a3 a4 a5 a6 a7
  have hroom : 2 * (F0 m pc ls (.ref (ad r) :: st.map (xv ad))).monitorRoom + ((st.map (xv ad)).map fun v => v.category).sum ≤ 8 := lv_room (by rw [xcat]; exact hst)
  exact W.objInit hC.1.1 hC.1.2.1 hC.1.2.2.2.1 (hC.1.2.2.2.2 _ h1) (hC.1.2.2.2.2 _ h2) (hC.1.2.2.2.2 _ h3) (g := F0 m pc ls (.ref (ad r) :: st.map (xv ad))) (rest := st.map (xv ad)) rfl (by rw [hC.1.2.2.1]; exact a7.1) rfl hd hf (by omega) (kk ad ca H locs ls a1 a2 a3 a4 a5 (xl_tl a6) a7)
end XS
end
section
/-! calls and ends over the numbered heap -/
theorem xPre_blind {D : va_G} {cl : List vw_C} {NW : List Cond} {AL : List String} {n sz : Nat} {h : XH} {ad : Nat → Nat} {ca : Nat → ClassId} {av : List Value} (hg : xGood NW) : FrameBlind (va_Pc av (fun U => U.heap.size = sz ∧ xPre D cl NW AL n h ad ca U)) := by
  intro a U g mk q
  obtain ⟨q0, q1, qR, qK, qN, qA⟩ := q
  exact ⟨q0, q1, xR.moved (t := U.calling g mk a) qR (Vm.Alike.refl U.vm) (fun _ _ _ z => z), va_K.moved (u := U) (U := U.calling g mk a) (Vm.Alike.refl U.vm) qK, xNw_same (s := U) (U := U.calling g mk a) hg rfl qN, fun C hC => va_AO.moved (u := U) (U := U.calling g mk a) (Vm.Alike.refl U.vm) (qA C hC)⟩
section XS
variable {p : Program} {l : Launch} {e : Env} {R : Room} {s : State} {m : MethodId} {args : Array Value} {below : List Frame} {meth : Method} {c : Code} {Q : State → Prop}
variable {cc : ByteArray} {nL : Nat} {own : String} {Ts : List Cond} {cl : List vw_C} {NW : List Cond} {AL : List String} {D : va_G} {A : Nat → Prop} {ad0 : Nat → Nat} {n0 : Nat}
variable {n : Nat} {h : XH} {cells slots pc : Nat} {lv : List (Nat × Value)} {st : List Value}
theorem xPre_here (hC : XC p s m args c cc nL own Ts cl NW AL D A) {ad : Nat → Nat} {ca : Nat → ClassId} {H : Heap} (a3 : xR D cl A s n h ad ca H) {U : State} (hU : U.heap = H) (hW : s.WarmedH U.vm) : U.heap.size = H.size ∧ xPre D cl NW AL n h ad ca U := by
  refine ⟨by rw [hU], ?_, va_K.moved hW.alike hC.2.1, xNw_warm hC.2.2.2.2.2.1 hW hC.2.2.2.1, fun C h1 => va_AO.moved hW.alike (hC.2.2.2.2.1 C h1)⟩
  rw [hU]
  exact a3.moved hW.alike (fun _ _ _ _ => trivial)
theorem xi_run (hC : XC p s m args c cc nL own Ts cl NW AL D A) {mc ms n' : Nat} {h' : XH} {r : Option Value} {stk : List Value} (hsub : xl n stk → xl n st) (arr : (Nat → Nat) → Array Value)
    (hrun : ∀ (ad : Nat → Nat) (ca : Nat → ClassId) (H : Heap) (locs : List Loc) (ls : Array Slot), xR D cl A s n h ad ca H → va_S A s.heap H locs → xl n stk → lv_has ls nL (xm ad lv) → va_Run p l e R s m args below meth c H locs cells slots mc ms (F0 m pc ls (stk.map (xv ad))) (st.map (xv ad)) (xQc D cl n ad (xA n ad H.size) r n' h' (arr ad)) (xA n ad H.size))
    (kk : XW p l e R s m args below meth c nL cl D A ad0 n0 (cells + mc) (slots + ms) Q n' h' (pc + 3) lv (r.toList ++ st)) : XW p l e R s m args below meth c nL cl D A ad0 n0 cells slots Q n h pc lv stk := by
  intro ad ca H locs ls a1 a2 a3 a4 a5 a6 a7 T hT X
  obtain ⟨v, st₀, t, T', L, h0, X', hL, e1, e2, ⟨⟨ad', ca', hv, hag, hnn, hrl, hR'⟩, hz, hk⟩, stp⟩ := hrun ad ca H locs ls a3 a4 a6 a7 T hT X
  have hv' : v = r.map (xv ad') := Outcome.returned.inj hv
  subst hv'
  rw [h0] at hz hk
  have hAA : ∀ q, xA n ad H.size q → A q := by
    rintro q (⟨k, k1, k2, rfl⟩ | hq)
    · exact a3.2.1.2 (k - 1) _ (xw_at1 k1 k2)
    · exact hC.2.2.1 q (Nat.le_trans a4.1 hq)
  have hvm : s.vm.Alike t.vm := by rw [← e2]; exact X'.warmed.alike
  have hR2 : xR D cl A s n' h' ad' ca' T'.heap := by
    rw [e1]
    exact hR'.moved hvm.symm (fun k _ _ z => hAA _ z)
  have hS2 : va_S A s.heap T'.heap (locs ++ L) := ⟨Nat.le_trans a4.1 (by rw [e1]; exact hz), fun q h1 h2 => by
      rw [e1, hk q (Nat.lt_of_lt_of_le h1 a4.1) (fun z => h2 (hAA q z))]; exact a4.2.1 q h1 h2, fun q hq => by
      rcases List.mem_append.mp hq with h | h
      · exact a4.2.2 q h
      · exact hAA _ (hL q h)⟩
  have hst : xl n st := hsub a6
  have hxl : xl n' (r.toList ++ st) := by
    intro w hw
    rcases List.mem_append.mp hw with q | q
    · exact hrl w q
    · exact vok_mono (hst w q) hnn
  obtain ⟨t2, b1, b2⟩ := kk ad' ca' T'.heap (locs ++ L) ls (fun k hk' => (hag k (by omega)).trans (a1 k hk')) (by omega) hR2 hS2 (xlv_mono a5 hnn) hxl (by rw [xm_ext hag a5]; exact a7) T' rfl X'
  have e5 : (r.toList ++ st).map (xv ad') = (r.map (xv ad')).toList ++ st.map (xv ad) := by
    rw [List.map_append, xl_ext hag hst]
    cases r <;> rfl
  rw [e5] at b1
  exact ⟨t2, stp t2 b1, b2⟩
theorem xi_callV (hC : XC p s m args c cc nL own Ts cl NW AL D A) {y : MethodName} {bytes : ByteArray} {maxL mc ms index r0 ci N n' : Nat} {ret : Option FieldType} {rm : Room} {as stk : List Value} {C : String} {T : u_T} {h' : XH} {r : Option Value} (hM : XMet l y bytes maxL ret Ts cl NW AL D rm mc ms (.ref r0 :: as) n h r n' h')
    (hcl : cl[ci]? = some (C, T, N)) (hci : ¬ ci = 999) (his : xis h ci r0 = true) (hw1 : Cond.methodLink own index y ∈ Ts) (hw2 : Cond.instanceMethod y ∈ Ts) (hw3 : Cond.selects C y y ∈ Ts) (hw4 : Cond.initialized y.cls ∈ Ts) (hw5 : Cond.code y bytes maxL ret ∈ Ts) (hy : y.cls ≠ "java/lang/invoke/MethodHandle" ∧ y.cls ≠ "java/lang/invoke/VarHandle" ∧ (parseMethodDescriptor y.desc).map (fun d => d.parameters.length) = some as.length)
    (hrc : rm.cells = mc) (hrs : rm.slots = ms) (hR : rm.frames + 1 ≤ R.frames ∧ 8 + (maxL + 11) + rm.locals ≤ R.locals) (hf : cells + mc ≤ R.cells ∧ slots + ms ≤ R.slots) (hst : (st.map fun v => v.category).sum ≤ 8) (hstk : stk = as.reverse ++ .ref r0 :: st) (hd : decode cc pc = .ok (.invokevirtual index, 3))
    (kk : XW p l e R s m args below meth c nL cl D A ad0 n0 (cells + mc) (slots + ms) Q n' h' (pc + 3) lv (r.toList ++ st)) : XW p l e R s m args below meth c nL cl D A ad0 n0 cells slots Q n h pc lv stk := by
  subst hstk
  refine xi_run hC (fun q => xl_tl (xl_app q)) (fun ad => (Value.ref (ad r0) :: as.map (xv ad)).toArray) (fun ad ca H locs ls a3 a4 a6 a7 => ?_) kk
  obtain ⟨fs, e1⟩ := xis_inv his
  obtain ⟨g1, g2, g3⟩ := a3.cell e1 (xN_inr hci)
  have hav : xl n (.ref r0 :: as) := fun v hv => by
    rcases List.mem_cons.mp hv with q | q
    · rw [q]; exact a6 _ (List.mem_append_right _ List.mem_cons_self)
    · exact a6 _ (List.mem_append_left _ (List.mem_reverse.mpr q))
  exact va_runV (C := C) (b := ad r0) (As := as.map (xv ad)) (rest := st.map (xv ad)) (g := F0 m pc ls ((as.reverse ++ .ref r0 :: st).map (xv ad))) hC.1 (hM ad ca H.size hav) ⟨callB_of as.length hC.1.2.2.2.2 (xgood1 hC.2.2.2.2.2.2 hw5) rfl hrc hrs (hC.1.2.2.2.2 _ hw4) (hC.1.2.2.2.2 _ hw1) hy hR, hC.1.2.2.2.2 _ hw2, hC.1.2.2.2.2 _ hw3⟩ ⟨xPre_blind hC.2.2.2.2.2.1, va_recv hC.2.1 a3.1 hcl g3, fun U hU hW => ⟨rfl, xPre_here hC a3 hU hW⟩⟩ rfl (by simp) a7.1 (by show (as.reverse ++ Value.ref r0 :: st).map (xv ad) = _; rw [List.map_append, List.map_reverse, List.map_cons]; rfl) (lv_room (by rw [xcat]; exact hst)) hd hf
theorem xi_callVN (hC : XC p s m args c cc nL own Ts cl NW AL D A) {y : MethodName} {bytes : ByteArray} {maxL mc ms index r0 ci N n' : Nat} {ret : Option FieldType} {rm : Room} {as stk : List Value} {C host : String} {T : u_T} {h' : XH} {r : Option Value} (hM : XMet l y bytes maxL ret Ts cl NW AL D rm mc ms (.ref r0 :: as) n h r n' h')
    (hcl : cl[ci]? = some (C, T, N)) (hci : ¬ ci = 999) (his : xis h ci r0 = true) (hw1 : Cond.methodLinkNest own index y host ∈ NW) (hw2 : Cond.instanceMethod y ∈ Ts) (hw3 : Cond.selects C y y ∈ Ts) (hw4 : Cond.initialized y.cls ∈ Ts) (hw5 : Cond.code y bytes maxL ret ∈ Ts) (hy : y.cls ≠ "java/lang/invoke/MethodHandle" ∧ y.cls ≠ "java/lang/invoke/VarHandle" ∧ (parseMethodDescriptor y.desc).map (fun d => d.parameters.length) = some as.length)
    (hrc : rm.cells = mc) (hrs : rm.slots = ms) (hR : rm.frames + 1 ≤ R.frames ∧ 8 + (maxL + 11) + rm.locals ≤ R.locals) (hf : cells + mc ≤ R.cells ∧ slots + ms ≤ R.slots) (hst : (st.map fun v => v.category).sum ≤ 8) (hstk : stk = as.reverse ++ .ref r0 :: st) (hd : decode cc pc = .ok (.invokevirtual index, 3))
    (kk : XW p l e R s m args below meth c nL cl D A ad0 n0 (cells + mc) (slots + ms) Q n' h' (pc + 3) lv (r.toList ++ st)) : XW p l e R s m args below meth c nL cl D A ad0 n0 cells slots Q n h pc lv stk := by
  subst hstk
  refine xi_run hC (fun q => xl_tl (xl_app q)) (fun ad => (Value.ref (ad r0) :: as.map (xv ad)).toArray) (fun ad ca H locs ls a3 a4 a6 a7 => ?_) kk
  obtain ⟨fs, e1⟩ := xis_inv his
  obtain ⟨g1, g2, g3⟩ := a3.cell e1 (xN_inr hci)
  have hav : xl n (.ref r0 :: as) := fun v hv => by
    rcases List.mem_cons.mp hv with q | q
    · rw [q]; exact a6 _ (List.mem_append_right _ List.mem_cons_self)
    · exact a6 _ (List.mem_append_left _ (List.mem_reverse.mpr q))
  exact va_runVN (C := C) (b := ad r0) (As := as.map (xv ad)) (rest := st.map (xv ad)) (g := F0 m pc ls ((as.reverse ++ .ref r0 :: st).map (xv ad))) hC.1 (hM ad ca H.size hav) ⟨va_cnB as.length hC.1.2.2.2.2 (xgood1 hC.2.2.2.2.2.2 hw5) rfl hrc hrs (hC.2.2.2.1 _ hw1) (hC.1.2.2.2.2 _ hw4) hy hR, hC.1.2.2.2.2 _ hw2, hC.1.2.2.2.2 _ hw3⟩ ⟨xPre_blind hC.2.2.2.2.2.1, va_recv hC.2.1 a3.1 hcl g3, fun U hU hW => ⟨rfl, xPre_here hC a3 hU hW⟩⟩ rfl (by simp) a7.1 (by show (as.reverse ++ Value.ref r0 :: st).map (xv ad) = _; rw [List.map_append, List.map_reverse, List.map_cons]; rfl) (lv_room (by rw [xcat]; exact hst)) hd hf
theorem xi_callS (hC : XC p s m args c cc nL own Ts cl NW AL D A) {y : MethodName} {bytes : ByteArray} {maxL mc ms index n' : Nat} {ret : Option FieldType} {rm : Room} {as stk : List Value} {h' : XH} {r : Option Value} (hM : XMet l y bytes maxL ret Ts cl NW AL D rm mc ms as n h r n' h')
    (hw1 : Cond.methodLink own index y ∈ Ts) (hw2 : Cond.static y ∈ Ts) (hw4 : Cond.initialized y.cls ∈ Ts) (hw5 : Cond.code y bytes maxL ret ∈ Ts) (hy : y.cls ≠ "java/lang/invoke/MethodHandle" ∧ y.cls ≠ "java/lang/invoke/VarHandle" ∧ (parseMethodDescriptor y.desc).map (fun d => d.parameters.length) = some as.length)
    (hrc : rm.cells = mc) (hrs : rm.slots = ms) (hR : rm.frames + 1 ≤ R.frames ∧ 8 + (maxL + 11) + rm.locals ≤ R.locals) (hf : cells + mc ≤ R.cells ∧ slots + ms ≤ R.slots) (hst : (st.map fun v => v.category).sum ≤ 8) (hstk : stk = as.reverse ++ st) (hd : decode cc pc = .ok (.invokestatic index, 3))
    (kk : XW p l e R s m args below meth c nL cl D A ad0 n0 (cells + mc) (slots + ms) Q n' h' (pc + 3) lv (r.toList ++ st)) : XW p l e R s m args below meth c nL cl D A ad0 n0 cells slots Q n h pc lv stk := by
  subst hstk
  refine xi_run hC (fun q => xl_app q) (fun ad => (as.map (xv ad)).toArray) (fun ad ca H locs ls a3 a4 a6 a7 => ?_) kk
  have hav : xl n as := fun v hv => a6 _ (List.mem_append_left _ (List.mem_reverse.mpr hv))
  exact va_runS (As := as.map (xv ad)) (rest := st.map (xv ad)) (g := F0 m pc ls ((as.reverse ++ st).map (xv ad))) hC.1 (hM ad ca H.size hav) ⟨callB_of as.length hC.1.2.2.2.2 (xgood1 hC.2.2.2.2.2.2 hw5) rfl hrc hrs (hC.1.2.2.2.2 _ hw4) (hC.1.2.2.2.2 _ hw1) hy hR, hC.1.2.2.2.2 _ hw2⟩ ⟨xPre_blind hC.2.2.2.2.2.1, fun U hU hW => ⟨rfl, xPre_here hC a3 hU hW⟩⟩ rfl (by simp) a7.1 (by show (as.reverse ++ st).map (xv ad) = _; rw [List.map_append, List.map_reverse]) (lv_room (by rw [xcat]; exact hst)) hd hf
theorem xi_callSN (hC : XC p s m args c cc nL own Ts cl NW AL D A) {y : MethodName} {bytes : ByteArray} {maxL mc ms index n' : Nat} {ret : Option FieldType} {rm : Room} {as stk : List Value} {host : String} {h' : XH} {r : Option Value} (hM : XMet l y bytes maxL ret Ts cl NW AL D rm mc ms as n h r n' h')
    (hw1 : Cond.methodLinkNest own index y host ∈ NW) (hw2 : Cond.static y ∈ Ts) (hw4 : Cond.initialized y.cls ∈ Ts) (hw5 : Cond.code y bytes maxL ret ∈ Ts) (hy : y.cls ≠ "java/lang/invoke/MethodHandle" ∧ y.cls ≠ "java/lang/invoke/VarHandle" ∧ (parseMethodDescriptor y.desc).map (fun d => d.parameters.length) = some as.length)
    (hrc : rm.cells = mc) (hrs : rm.slots = ms) (hR : rm.frames + 1 ≤ R.frames ∧ 8 + (maxL + 11) + rm.locals ≤ R.locals) (hf : cells + mc ≤ R.cells ∧ slots + ms ≤ R.slots) (hst : (st.map fun v => v.category).sum ≤ 8) (hstk : stk = as.reverse ++ st) (hd : decode cc pc = .ok (.invokestatic index, 3))
    (kk : XW p l e R s m args below meth c nL cl D A ad0 n0 (cells + mc) (slots + ms) Q n' h' (pc + 3) lv (r.toList ++ st)) : XW p l e R s m args below meth c nL cl D A ad0 n0 cells slots Q n h pc lv stk := by
  subst hstk
  refine xi_run hC (fun q => xl_app q) (fun ad => (as.map (xv ad)).toArray) (fun ad ca H locs ls a3 a4 a6 a7 => ?_) kk
  have hav : xl n as := fun v hv => a6 _ (List.mem_append_left _ (List.mem_reverse.mpr hv))
  exact va_runSN (As := as.map (xv ad)) (rest := st.map (xv ad)) (g := F0 m pc ls ((as.reverse ++ st).map (xv ad))) hC.1 (hM ad ca H.size hav) ⟨va_cnB as.length hC.1.2.2.2.2 (xgood1 hC.2.2.2.2.2.2 hw5) rfl hrc hrs (hC.2.2.2.1 _ hw1) (hC.1.2.2.2.2 _ hw4) hy hR, hC.1.2.2.2.2 _ hw2, trivial⟩ ⟨xPre_blind hC.2.2.2.2.2.1, fun U hU hW => ⟨rfl, xPre_here hC a3 hU hW⟩⟩ rfl (by simp) a7.1 (by show (as.reverse ++ st).map (xv ad) = _; rw [List.map_append, List.map_reverse]) (lv_room (by rw [xcat]; exact hst)) hd hf
theorem xi_callI (hC : XC p s m args c cc nL own Ts cl NW AL D A) {y : MethodName} {bytes : ByteArray} {maxL mc ms index r0 n' : Nat} {rm : Room} {as stk : List Value} {h' : XH} (hM : XMet l y bytes maxL none Ts cl NW AL D rm mc ms (.ref r0 :: as) n h none n' h')
    (hw1 : Cond.methodLink own index y ∈ Ts) (hw2 : Cond.instanceMethod y ∈ Ts) (hw4 : Cond.initialized y.cls ∈ Ts) (hw5 : Cond.code y bytes maxL none ∈ Ts) (hin : y.name = "<init>") (hy : y.cls ≠ "java/lang/invoke/MethodHandle" ∧ y.cls ≠ "java/lang/invoke/VarHandle" ∧ (parseMethodDescriptor y.desc).map (fun d => d.parameters.length) = some as.length)
    (hrc : rm.cells = mc) (hrs : rm.slots = ms) (hR : rm.frames + 1 ≤ R.frames ∧ 8 + (maxL + 11) + rm.locals ≤ R.locals) (hf : cells + mc ≤ R.cells ∧ slots + ms ≤ R.slots) (hst : (st.map fun v => v.category).sum ≤ 8) (hstk : stk = as.reverse ++ .ref r0 :: st) (hd : decode cc pc = .ok (.invokespecial index, 3))
    (kk : XW p l e R s m args below meth c nL cl D A ad0 n0 (cells + mc) (slots + ms) Q n' h' (pc + 3) lv st) : XW p l e R s m args below meth c nL cl D A ad0 n0 cells slots Q n h pc lv stk := by
  subst hstk
  refine xi_run hC (r := none) (fun q => xl_tl (xl_app q)) (fun ad => (Value.ref (ad r0) :: as.map (xv ad)).toArray) (fun ad ca H locs ls a3 a4 a6 a7 => ?_) kk
  have hav : xl n (.ref r0 :: as) := fun v hv => by
    rcases List.mem_cons.mp hv with q | q
    · rw [q]; exact a6 _ (List.mem_append_right _ List.mem_cons_self)
    · exact a6 _ (List.mem_append_left _ (List.mem_reverse.mpr q))
  exact va_runI (b := ad r0) (As := as.map (xv ad)) (rest := st.map (xv ad)) (g := F0 m pc ls ((as.reverse ++ .ref r0 :: st).map (xv ad))) hC.1 (hM ad ca H.size hav) ⟨callB_of as.length hC.1.2.2.2.2 (xgood1 hC.2.2.2.2.2.2 hw5) rfl hrc hrs (hC.1.2.2.2.2 _ hw4) (hC.1.2.2.2.2 _ hw1) hy hR, hin, hC.1.2.2.2.2 _ hw2⟩ ⟨xPre_blind hC.2.2.2.2.2.1, fun U hU hW => ⟨rfl, xPre_here hC a3 hU hW⟩⟩ rfl (by simp) a7.1 (by show (as.reverse ++ Value.ref r0 :: st).map (xv ad) = _; rw [List.map_append, List.map_reverse, List.map_cons]; rfl) (lv_room (by rw [xcat]; exact hst)) hd hf
theorem xi_iret (hC : XC p s m args c cc nL own Ts cl NW AL D A) {v : Int32} (hr : meth.sig.returnType = some .int) (hlk : meth.locks = false) (hd : decode cc pc = .ok (.ireturn, 1)) : XW p l e R s m args below meth c nL cl D A ad0 n0 cells slots (MQ below (xQc D cl n0 ad0 A (some (.int v)) n h) args s cells slots A) n h pc lv [.int v] := by
  intro ad ca H locs ls a1 a2 a3 a4 a5 a6 a7
  exact W.iret (v := v) hC.1.1 hC.1.2.1 hr (fun t ht hW => ⟨⟨ad, ca, rfl, a1, a2, a6, by rw [ht]; exact a3.moved hW.alike (fun _ _ _ z => z)⟩, a4.F ht⟩) a4.2.2 hd hlk
theorem xi_zret (hC : XC p s m args c cc nL own Ts cl NW AL D A) {v : Int32} {ty : FieldType} (hr : meth.sig.returnType = some ty) (hn : narrow ty (.int v) = .int v) (hlk : meth.locks = false) (hd : decode cc pc = .ok (.ireturn, 1)) : XW p l e R s m args below meth c nL cl D A ad0 n0 cells slots (MQ below (xQc D cl n0 ad0 A (some (.int v)) n h) args s cells slots A) n h pc lv [.int v] := by
  intro ad ca H locs ls a1 a2 a3 a4 a5 a6 a7
  exact W.zret (v := v) hC.1.1 hC.1.2.1 hr hn (fun t ht hW => ⟨⟨ad, ca, rfl, a1, a2, a6, by rw [ht]; exact a3.moved hW.alike (fun _ _ _ z => z)⟩, a4.F ht⟩) a4.2.2 hd hlk
theorem xi_vret (hC : XC p s m args c cc nL own Ts cl NW AL D A) (hr : meth.sig.returnType = none) (hlk : meth.locks = false) (hd : decode cc pc = .ok (.return_, 1)) : XW p l e R s m args below meth c nL cl D A ad0 n0 cells slots (MQ below (xQc D cl n0 ad0 A none n h) args s cells slots A) n h pc lv [] := by
  intro ad ca H locs ls a1 a2 a3 a4 a5 a6 a7
  exact W.vret hC.1.1 hC.1.2.1 hr (fun t ht hW => ⟨⟨ad, ca, rfl, a1, a2, xl_nil, by rw [ht]; exact a3.moved hW.alike (fun _ _ _ z => z)⟩, a4.F ht⟩) a4.2.2 hd hlk
theorem xi_aret (hC : XC p s m args c cc nL own Ts cl NW AL D A) {q : Nat} {C : String} (hr : meth.sig.returnType = some (.object C)) (hlk : meth.locks = false) (hd : decode cc pc = .ok (.areturn, 1)) : XW p l e R s m args below meth c nL cl D A ad0 n0 cells slots (MQ below (xQc D cl n0 ad0 A (some (.ref q)) n h) args s cells slots A) n h pc lv [.ref q] := by
  intro ad ca H locs ls a1 a2 a3 a4 a5 a6 a7
  exact W.aret (v := .ref (ad q)) hC.1.1 hC.1.2.1 hr (Or.inl ⟨C, rfl⟩) (Or.inr ⟨_, rfl⟩) (fun t ht hW => ⟨⟨ad, ca, rfl, a1, a2, a6, by rw [ht]; exact a3.moved hW.alike (fun _ _ _ z => z)⟩, a4.F ht⟩) a4.2.2 hd hlk
end XS
theorem xm_args (ad : Nat → Nat) (vs : List Value) : ∀ i, xm ad (lv_args i vs) = lv_args i (vs.map (xv ad)) := by
  induction vs with
  | nil => intro i; rfl
  | cons v vs ih =>
    intro i
    have e1 := ih (if v.category = 2 then i + 2 else i + 1)
    simp only [List.map_cons, lv_args, xv_cat]
    rw [← e1]
    rfl
theorem xlv_args {n : Nat} (vs : List Value) : ∀ i, xl n vs → xlv n (lv_args i vs) := by
  induction vs with
  | nil => intro i _ q hq; cases hq
  | cons v vs ih =>
    intro i hv q hq
    rcases List.mem_cons.mp hq with z | z
    · rw [z]; exact xl_hd hv
    · exact ih _ (xl_tl hv) q z
theorem xsl_len (ad : Nat → Nat) (vs : List Value) : (lg_sl (vs.map (xv ad))).length = (lg_sl vs).length := by
  induction vs with
  | nil => rfl
  | cons v vs ih =>
    simp only [lg_sl, List.map_cons, List.flatMap_cons, List.length_append, xv_cat] at ih ⊢
    rw [ih]
    congr 1
    split <;> rfl
/-- a contract out of a walk -/
theorem XMet.mk {l : Launch} {y : MethodName} {cc : ByteArray} {maxL : Nat} {ret : Option FieldType} {Ts : List Cond} {cl : List vw_C} {NW : List Cond} {AL : List String} {D : va_G} {rm : Room} {mc ms : Nat} {av : List Value} {n : Nat} {h : XH} {r : Option Value} {n' : Nat} {h' : XH} (hy : plainName y.cls = true) (hg : xGood NW) (hgd : ∀ w ∈ Ts, goodWord w = true) (hlen : (lg_sl av).length ≤ maxL)
    (body : ∀ (p : Program) (e : Env) (s : State) (m : MethodId) (args : Array Value) (below : List Frame) (meth : Method) (c : Code) (A : Nat → Prop) (ad0 : Nat → Nat), XC p s m args c cc maxL y.cls Ts cl NW AL D A → meth.sig.returnType = ret → meth.locks = false → meth.name = y.name → XW p l e rm s m args below meth c maxL cl D A ad0 n 0 0 (MQ below (xQc D cl n ad0 A r n' h') args s mc ms A) n h 0 (lv_args 0 av) []) : XMet l y cc maxL ret Ts cl NW AL D rm mc ms av n h r n' h' := by
  intro ad ca sz hav
  refine Met.ofW (cc := cc) (maxL := maxL) (ret := ret) hy rfl ?_
  intro p e s m args below meth c s₁ B hml hv
  obtain ⟨rfl, hsz, hR, hK, hN, hAO⟩ := hv
  subst hsz
  have hts0 := atoms_spec (ws := Cond.code y cc maxL ret :: Ts) B.pre
  have hown : s.vm.findClass y.cls = some m.cls := findClass_of_methodNamed B.named
  have hXC : XC p s m (av.map (xv ad)).toArray c cc maxL y.cls Ts cl NW AL D (xA n ad s.heap.size) := ⟨⟨B.exec, B.bytes, hml, hown, fun w hw => hts0 w (List.mem_cons_of_mem _ hw)⟩, hK, fun q hq => Or.inr hq, hN, hAO, hg, hgd⟩
  have K := body p e s m _ below meth c _ ad hXC B.returns B.notSynchronized (name_of_methodNamed B.named B.method).1
  have hl := lv_entry (av.map (xv ad)) (n := maxL) (by rw [xsl_len]; exact hlen)
  rw [lg_entry_eq]
  exact K ad ca s.heap [] _ (fun _ _ => rfl) (Nat.le_refl n) (hR.moved (Vm.Alike.refl _) (fun k k1 k2 _ => Or.inl ⟨k, k1, k2, rfl⟩)) va_S.rf (xlv_args av 0 hav) xl_nil (by rw [xm_args]; exact hl)
end
section
/-! the steps of the printed functions: each may fail -/
def xb1 {α β : Type} (o : Option α) (k : α → Option β) : Option β := match o with
  | some a => k a
  | none => none
def xb2 {α β γ : Type} (o : Option (α × β)) (k : α → β → Option γ) : Option γ := match o with
  | some (a, b) => k a b
  | none => none
def xb3 {α β γ δ : Type} (o : Option (α × β × γ)) (k : α → β → γ → Option δ) : Option δ := match o with
  | some (a, b, c) => k a b c
  | none => none
def xchk {β : Type} (b : Bool) (k : Option β) : Option β := match b with
  | true => k
  | false => none
def xq {β : Type} (o : Option Nat) (a : Option β) (k : Nat → Option β) : Option β := match o with
  | none => a
  | some q => k q
def xzb (v : Int32) : Bool := decide (v = 0) || decide (v = 1)
theorem xb1_some {α β : Type} (a : α) (k : α → Option β) : xb1 (some a) k = k a := rfl
theorem xb2_some {α β γ : Type} (a : α) (b : β) (k : α → β → Option γ) : xb2 (some (a, b)) k = k a b := rfl
theorem xb3_some {α β γ δ : Type} (a : α) (b : β) (c : γ) (k : α → β → γ → Option δ) : xb3 (some (a, b, c)) k = k a b c := rfl
theorem xq_none {β : Type} (a : Option β) (k : Nat → Option β) : xq none a k = a := rfl
theorem xq_some {β : Type} (a : Option β) (k : Nat → Option β) (q : Nat) : xq (some q) a k = k q := rfl
theorem xchk_true {β : Type} (k : Option β) : xchk true k = k := rfl
theorem xb1_inv {α β : Type} {o : Option α} {k : α → Option β} {z : β} (h : xb1 o k = some z) : ∃ a, o = some a ∧ k a = some z := by
  cases o with
  | none => cases h
  | some a => exact ⟨a, rfl, h⟩
theorem xb2_inv {α β γ : Type} {o : Option (α × β)} {k : α → β → Option γ} {z : γ} (h : xb2 o k = some z) : ∃ a b, o = some (a, b) ∧ k a b = some z := by
  cases o with
  | none => cases h
  | some a => exact ⟨a.1, a.2, rfl, h⟩
theorem xb3_inv {α β γ δ : Type} {o : Option (α × β × γ)} {k : α → β → γ → Option δ} {z : δ} (h : xb3 o k = some z) : ∃ a b c, o = some (a, b, c) ∧ k a b c = some z := by
  cases o with
  | none => cases h
  | some a => exact ⟨a.1, a.2.1, a.2.2, rfl, h⟩
theorem xchk_inv {β : Type} {b : Bool} {k : Option β} {z : β} (h : xchk b k = some z) : b = true ∧ k = some z := by
  cases b with
  | false => cases h
  | true => exact ⟨rfl, h⟩
theorem xzb_nar {v : Int32} (h : xzb v = true) : narrow .boolean (.int v) = .int v := by
  simp only [xzb, Bool.or_eq_true, decide_eq_true_eq] at h
  rcases h with h | h <;> (rw [h]; decide)
section XS
variable {p : Program} {l : Launch} {e : Env} {R : Room} {s : State} {m : MethodId} {args : Array Value} {below : List Frame} {meth : Method} {c : Code} {Q : State → Prop}
variable {nL : Nat} {cl : List vw_C} {D : va_G} {A : Nat → Prop} {ad0 : Nat → Nat} {n0 : Nat}
variable {n : Nat} {h : XH} {cells slots pc : Nat} {lv : List (Nat × Value)} {st : List Value}
theorem xi_stk {st' : List Value} (hs : st = st') (k : XW p l e R s m args below meth c nL cl D A ad0 n0 cells slots Q n h pc lv st') : XW p l e R s m args below meth c nL cl D A ad0 n0 cells slots Q n h pc lv st := by rw [hs]; exact k
end XS
end
section
def XT0 : List Cond := [Cond.laysFinal R_T "TaskBuild" "all" "LTaskBuild$Runnables;", Cond.laysFinal R_T "TaskBuild" "graph" "LTaskBuild$Graph;", Cond.laysFinal R_T "TaskBuild" "kept" "[LTaskBuild$Plan;", Cond.lays R_T "TaskBuild" "keptCount" "I", Cond.laysFinal R_T "TaskBuild" "unkept" "LTaskBuild$Plan;", Cond.lays R_T "TaskBuild" "built" "LTaskBuild$Plan;", Cond.lays R_U "TaskBuild$Runnables" "count" "I", Cond.laysFinal R_U "TaskBuild$Runnables" "period" "[I", Cond.laysFinal R_U "TaskBuild$Runnables" "core" "[I", Cond.laysFinal R_U "TaskBuild$Runnables" "steps" "[I", Cond.laysFinal R_U "TaskBuild$Runnables" "reads" "[I", Cond.laysFinal R_U "TaskBuild$Runnables" "writes" "[I", Cond.laysFinal R_G "TaskBuild$Graph" "toldBefore" "[I", Cond.laysFinal R_G "TaskBuild$Graph" "allBefore" "[I", Cond.laysFinal R_G "TaskBuild$Graph" "layer" "[I", Cond.laysFinal R_G "TaskBuild$Graph" "told" "[I", Cond.lays R_G "TaskBuild$Graph" "toldCount" "I", Cond.lays R_P "TaskBuild$Plan" "taskCount" "I", Cond.laysFinal R_P "TaskBuild$Plan" "taskOf" "[I", Cond.laysFinal R_P "TaskBuild$Plan" "periodOf" "[I", Cond.laysFinal R_P "TaskBuild$Plan" "rankOf" "[I", Cond.laysFinal R_P "TaskBuild$Plan" "row" "[I", Cond.laysFinal R_P "TaskBuild$Plan" "startOf" "[I", Cond.lays R_M "TaskBuildModel" "code" "I", Cond.lays R_M "TaskBuildModel" "runnables" "I", Cond.laysFinal R_M "TaskBuildModel" "period" "[I", Cond.laysFinal R_M "TaskBuildModel" "core" "[I", Cond.laysFinal R_M "TaskBuildModel" "steps" "[I", Cond.laysFinal R_M "TaskBuildModel" "before" "[I", Cond.laysFinal R_M "TaskBuildModel" "reads" "[I", Cond.laysFinal R_M "TaskBuildModel" "writes" "[I", Cond.lays R_M "TaskBuildModel" "ringSize" "I", Cond.laysFinal R_M "TaskBuildModel" "ring" "[I", Cond.laysFinal R_M "TaskBuildModel" "far" "[I", Cond.lays R_M "TaskBuildModel" "built" "Z", Cond.lays R_M "TaskBuildModel" "builds" "I", Cond.laysFinal R_M "TaskBuildModel" "tasks" "[I", Cond.laysFinal R_M "TaskBuildModel" "coreOf" "[I", Cond.laysFinal R_M "TaskBuildModel" "periodOf" "[I", Cond.laysFinal R_M "TaskBuildModel" "ends" "[I"]
def XT1 : List Cond := [Cond.laysFinal R_M "TaskBuildModel" "rows" "[I", Cond.laysFinal R_M "TaskBuildModel" "taskOf" "[I", Cond.methodLink R_U 3 Lib.objectInit, Cond.instanceMethod Lib.objectInit, Cond.code Lib.objectInit ⟨#[0xb1]⟩ 1 none, Cond.arrayClass .int, Cond.fieldLink R_U 9 "TaskBuild$Runnables" "period" "[I", Cond.fieldLink R_U 15 "TaskBuild$Runnables" "core" "[I", Cond.fieldLink R_U 18 "TaskBuild$Runnables" "steps" "[I", Cond.fieldLink R_U 21 "TaskBuild$Runnables" "reads" "[I", Cond.fieldLink R_U 24 "TaskBuild$Runnables" "writes" "[I", Cond.methodLink R_G 3 Lib.objectInit, Cond.fieldLink R_G 9 "TaskBuild$Graph" "toldBefore" "[I", Cond.fieldLink R_G 15 "TaskBuild$Graph" "allBefore" "[I", Cond.fieldLink R_G 18 "TaskBuild$Graph" "layer" "[I", Cond.fieldLink R_G 21 "TaskBuild$Graph" "told" "[I", Cond.methodLink R_P 3 Lib.objectInit, Cond.fieldLink R_P 9 "TaskBuild$Plan" "taskOf" "[I", Cond.fieldLink R_P 15 "TaskBuild$Plan" "periodOf" "[I", Cond.fieldLink R_P 18 "TaskBuild$Plan" "rankOf" "[I", Cond.fieldLink R_P 21 "TaskBuild$Plan" "row" "[I", Cond.fieldLink R_P 24 "TaskBuild$Plan" "startOf" "[I", Cond.methodLink R_T 1 Lib.objectInit, Cond.classLink R_T 7 R_U, Cond.instantiable R_U 6, Cond.initialized R_U, Cond.code y_U_init c_U_init 1 none, Cond.methodLink R_T 9 y_U_init, Cond.instanceMethod y_U_init, Cond.fieldLink R_T 10 "TaskBuild" "all" "LTaskBuild$Runnables;", Cond.classLink R_T 16 R_G, Cond.instantiable R_G 5, Cond.initialized R_G, Cond.code y_G_init c_G_init 1 none, Cond.methodLink R_T 18 y_G_init, Cond.instanceMethod y_G_init, Cond.fieldLink R_T 19 "TaskBuild" "graph" "LTaskBuild$Graph;", Cond.classLink R_T 23 R_P, Cond.fieldLink R_T 25 "TaskBuild" "kept" "[LTaskBuild$Plan;", Cond.instantiable R_P 6]
def XT2 : List Cond := [Cond.initialized R_P, Cond.code y_P_init c_P_init 1 none, Cond.methodLink R_T 29 y_P_init, Cond.instanceMethod y_P_init, Cond.fieldLink R_T 30 "TaskBuild" "unkept" "LTaskBuild$Plan;", Cond.fieldLink R_U 27 "TaskBuild$Runnables" "count" "I", Cond.code y_T_isWithin c_T_isWithin 3 (some .boolean), Cond.methodLink R_T 34 y_T_isWithin, Cond.static y_T_isWithin, Cond.initialized R_T, Cond.constant R_T 38 (100000 : Int32), Cond.code y_U_isFull c_U_isFull 1 (some .boolean), Cond.methodLink R_T 39 y_U_isFull, Cond.instanceMethod y_U_isFull, Cond.selects R_U y_U_isFull y_U_isFull, Cond.fieldLink R_T 43 "TaskBuild" "built" "LTaskBuild$Plan;", Cond.code y_U_add c_U_add 4 (some .int), Cond.methodLink R_T 46 y_U_add, Cond.instanceMethod y_U_add, Cond.selects R_U y_U_add y_U_add, Cond.code y_T_isIn c_T_isIn 2 (some .boolean), Cond.static y_T_isIn, Cond.code y_G_toldBeforeAny c_G_toldBeforeAny 4 (some .int), Cond.methodLink R_G 39 y_G_toldBeforeAny, Cond.instanceMethod y_G_toldBeforeAny, Cond.selects R_G y_G_toldBeforeAny y_G_toldBeforeAny, Cond.fieldLink R_G 35 "TaskBuild$Graph" "toldCount" "I", Cond.code y_G_leastBehind c_G_leastBehind 4 (some .int), Cond.methodLink R_G 32 y_G_leastBehind, Cond.instanceMethod y_G_leastBehind, Cond.selects R_G y_G_leastBehind y_G_leastBehind, Cond.code y_G_layersFrom c_G_layersFrom 4 (some .int), Cond.methodLink R_G 28 y_G_layersFrom, Cond.instanceMethod y_G_layersFrom, Cond.selects R_G y_G_layersFrom y_G_layersFrom, Cond.code y_U_has c_U_has 2 (some .boolean), Cond.methodLink R_T 50 y_U_has, Cond.instanceMethod y_U_has, Cond.selects R_U y_U_has y_U_has, Cond.code y_G_wouldCloseRing c_G_wouldCloseRing 3 (some .boolean)]
def XT3 : List Cond := [Cond.methodLink R_T 54 y_G_wouldCloseRing, Cond.instanceMethod y_G_wouldCloseRing, Cond.selects R_G y_G_wouldCloseRing y_G_wouldCloseRing, Cond.code y_G_add c_G_add 5 none, Cond.methodLink R_T 62 y_G_add, Cond.instanceMethod y_G_add, Cond.selects R_G y_G_add y_G_add, Cond.code y_G_tellRing c_G_tellRing 5 none, Cond.methodLink R_T 58 y_G_tellRing, Cond.instanceMethod y_G_tellRing, Cond.selects R_G y_G_tellRing y_G_tellRing, Cond.constant R_J 265 (1431655765 : Int32), Cond.constant R_J 266 (858993459 : Int32), Cond.constant R_J 267 (252645135 : Int32), Cond.code y_J_bitCount c_J_bitCount 1 (some .int), Cond.methodLink R_U 35 y_J_bitCount, Cond.static y_J_bitCount, Cond.initialized R_J, Cond.code y_U_dataUsedBy c_U_dataUsedBy 2 (some .int), Cond.methodLink R_T 73 y_U_dataUsedBy, Cond.instanceMethod y_U_dataUsedBy, Cond.selects R_U y_U_dataUsedBy y_U_dataUsedBy, Cond.code y_T_isDatum c_T_isDatum 1 (some .boolean), Cond.methodLink R_T 64 y_T_isDatum, Cond.static y_T_isDatum, Cond.code y_U_addRead c_U_addRead 3 none, Cond.methodLink R_T 70 y_U_addRead, Cond.instanceMethod y_U_addRead, Cond.selects R_U y_U_addRead y_U_addRead, Cond.code y_U_addWrite c_U_addWrite 3 none, Cond.methodLink R_T 67 y_U_addWrite, Cond.instanceMethod y_U_addWrite, Cond.selects R_U y_U_addWrite y_U_addWrite, Cond.code y_U_opensTask c_U_opensTask 3 (some .boolean), Cond.methodLink R_U 41 y_U_opensTask, Cond.instanceMethod y_U_opensTask, Cond.selects R_U y_U_opensTask y_U_opensTask, Cond.fieldLink R_T 123 "TaskBuild" "keptCount" "I", Cond.fieldLink R_P 27 "TaskBuild$Plan" "taskCount" "I", Cond.code y_G_leastFree c_G_leastFree 3 (some .int)]
def XT4 : List Cond := [Cond.methodLink R_P 55 y_G_leastFree, Cond.instanceMethod y_G_leastFree, Cond.selects R_G y_G_leastFree y_G_leastFree, Cond.code y_P_addTask c_P_addTask 7 none, Cond.methodLink R_P 48 y_P_addTask, Cond.instanceMethod y_P_addTask, Cond.selects R_P y_P_addTask y_P_addTask, Cond.code y_U_group c_U_group 5 (some .int), Cond.methodLink R_P 38 y_U_group, Cond.instanceMethod y_U_group, Cond.selects R_U y_U_group y_U_group, Cond.code y_U_periodAbove c_U_periodAbove 5 (some .int), Cond.methodLink R_P 52 y_U_periodAbove, Cond.instanceMethod y_U_periodAbove, Cond.selects R_U y_U_periodAbove y_U_periodAbove, Cond.code y_P_addEventTasks c_P_addEventTasks 6 none, Cond.methodLink R_P 31 y_P_addEventTasks, Cond.instanceMethod y_P_addEventTasks, Cond.selects R_P y_P_addEventTasks y_P_addEventTasks, Cond.code y_P_addPeriodTasks c_P_addPeriodTasks 6 none, Cond.methodLink R_P 35 y_P_addPeriodTasks, Cond.instanceMethod y_P_addPeriodTasks, Cond.selects R_P y_P_addPeriodTasks y_P_addPeriodTasks, Cond.code y_T_nextPlan c_T_nextPlan 2 (some (.object "TaskBuild$Plan")), Cond.methodLink R_T 80 y_T_nextPlan, Cond.instanceMethod y_T_nextPlan, Cond.selects R_T y_T_nextPlan y_T_nextPlan, Cond.code y_P_layOut c_P_layOut 6 none, Cond.methodLink R_T 84 y_P_layOut, Cond.instanceMethod y_P_layOut, Cond.selects R_P y_P_layOut y_P_layOut, Cond.code y_U_tasksOn c_U_tasksOn 4 (some .int), Cond.methodLink R_T 77 y_U_tasksOn, Cond.instanceMethod y_U_tasksOn, Cond.selects R_U y_U_tasksOn y_U_tasksOn, Cond.code y_P_sizeOf c_P_sizeOf 2 (some .int), Cond.methodLink R_P 65 y_P_sizeOf, Cond.instanceMethod y_P_sizeOf, Cond.selects R_P y_P_sizeOf y_P_sizeOf, Cond.code y_P_hasTask c_P_hasTask 2 (some .boolean)]
def XT5 : List Cond := [Cond.methodLink R_T 96 y_P_hasTask, Cond.instanceMethod y_P_hasTask, Cond.selects R_P y_P_hasTask y_P_hasTask, Cond.code y_P_runnableAt c_P_runnableAt 3 (some .int), Cond.methodLink R_T 99 y_P_runnableAt, Cond.instanceMethod y_P_runnableAt, Cond.selects R_P y_P_runnableAt y_P_runnableAt, Cond.code y_P_isWrittenAbove c_P_isWrittenAbove 7 (some .boolean), Cond.methodLink R_P 77 y_P_isWrittenAbove, Cond.instanceMethod y_P_isWrittenAbove, Cond.selects R_P y_P_isWrittenAbove y_P_isWrittenAbove, Cond.code y_P_isCopied c_P_isCopied 4 (some .boolean), Cond.methodLink R_T 106 y_P_isCopied, Cond.instanceMethod y_P_isCopied, Cond.selects R_P y_P_isCopied y_P_isCopied, Cond.code y_P_startAt c_P_startAt 5 (some .int), Cond.methodLink R_T 110 y_P_startAt, Cond.instanceMethod y_P_startAt, Cond.selects R_P y_P_startAt y_P_startAt, Cond.code y_G_toldAt c_G_toldAt 2 (some .int), Cond.methodLink R_T 113 y_G_toldAt, Cond.instanceMethod y_G_toldAt, Cond.selects R_G y_G_toldAt y_G_toldAt, Cond.code y_U_copiesAcross c_U_copiesAcross 7 (some .int), Cond.methodLink R_T 116 y_U_copiesAcross, Cond.instanceMethod y_U_copiesAcross, Cond.selects R_U y_U_copiesAcross y_U_copiesAcross, Cond.code y_P_stepsOf c_P_stepsOf 5 (some .int), Cond.methodLink R_T 119 y_P_stepsOf, Cond.instanceMethod y_P_stepsOf, Cond.selects R_P y_P_stepsOf y_P_stepsOf, Cond.methodLink R_P 91 y_P_runnableAt, Cond.methodLink R_P 94 y_P_hasTask, Cond.code y_P_standsIn c_P_standsIn 5 (some .boolean), Cond.methodLink R_P 87 y_P_standsIn, Cond.instanceMethod y_P_standsIn, Cond.selects R_P y_P_standsIn y_P_standsIn, Cond.code y_P_tasksNotIn c_P_tasksNotIn 4 (some .int), Cond.methodLink R_T 126 y_P_tasksNotIn, Cond.instanceMethod y_P_tasksNotIn]
def XT6 : List Cond := [Cond.selects R_P y_P_tasksNotIn y_P_tasksNotIn, Cond.methodLink R_M 1 Lib.objectInit, Cond.fieldLink R_M 7 "TaskBuildModel" "period" "[I", Cond.fieldLink R_M 13 "TaskBuildModel" "core" "[I", Cond.fieldLink R_M 16 "TaskBuildModel" "steps" "[I", Cond.fieldLink R_M 19 "TaskBuildModel" "before" "[I", Cond.fieldLink R_M 22 "TaskBuildModel" "reads" "[I", Cond.fieldLink R_M 25 "TaskBuildModel" "writes" "[I", Cond.fieldLink R_M 28 "TaskBuildModel" "ring" "[I", Cond.fieldLink R_M 31 "TaskBuildModel" "far" "[I", Cond.fieldLink R_M 34 "TaskBuildModel" "tasks" "[I", Cond.fieldLink R_M 37 "TaskBuildModel" "coreOf" "[I", Cond.fieldLink R_M 40 "TaskBuildModel" "periodOf" "[I", Cond.fieldLink R_M 43 "TaskBuildModel" "ends" "[I", Cond.fieldLink R_M 46 "TaskBuildModel" "rows" "[I", Cond.fieldLink R_M 49 "TaskBuildModel" "taskOf" "[I", Cond.fieldLink R_M 56 "TaskBuildModel" "runnables" "I", Cond.code y_M_isIn c_M_isIn 6 (some .boolean), Cond.methodLink R_M 59 y_M_isIn, Cond.static y_M_isIn, Cond.initialized R_M, Cond.fieldLink R_M 52 "TaskBuildModel" "code" "I", Cond.constantLong R_M 63 (1000 : Int64), Cond.constantLong R_M 65 (4 : Int64), Cond.constantLong R_M 67 (100000 : Int64), Cond.fieldLink R_M 69 "TaskBuildModel" "built" "Z", Cond.fieldLink R_M 73 "TaskBuildModel" "ringSize" "I", Cond.code y_M_isRunnable c_M_isRunnable 2 (some .boolean), Cond.methodLink R_M 76 y_M_isRunnable, Cond.instanceMethod y_M_isRunnable, Cond.selects R_M y_M_isRunnable y_M_isRunnable, Cond.code y_M_measure c_M_measure 5 none, Cond.methodLink R_M 80 y_M_measure, Cond.instanceMethod y_M_measure, Cond.selects R_M y_M_measure y_M_measure, Cond.code y_M_tellRing c_M_tellRing 4 none, Cond.methodLink R_M 84 y_M_tellRing, Cond.instanceMethod y_M_tellRing, Cond.selects R_M y_M_tellRing y_M_tellRing, Cond.constantLong R_M 87 (20 : Int64)]
def XT7 : List Cond := [Cond.code y_M_behind c_M_behind 5 (some .int), Cond.methodLink R_M 89 y_M_behind, Cond.instanceMethod y_M_behind, Cond.selects R_M y_M_behind y_M_behind, Cond.code y_M_with c_M_with 5 (some .int), Cond.methodLink R_M 97 y_M_with, Cond.instanceMethod y_M_with, Cond.selects R_M y_M_with y_M_with, Cond.code y_M_addTask c_M_addTask 8 none, Cond.methodLink R_M 93 y_M_addTask, Cond.instanceMethod y_M_addTask, Cond.selects R_M y_M_addTask y_M_addTask, Cond.fieldLink R_M 107 "TaskBuildModel" "builds" "I", Cond.code y_M_keep c_M_keep 3 none, Cond.methodLink R_M 110 y_M_keep, Cond.instanceMethod y_M_keep, Cond.selects R_M y_M_keep y_M_keep, Cond.code y_M_makeTasks c_M_makeTasks 4 none, Cond.methodLink R_M 104 y_M_makeTasks, Cond.instanceMethod y_M_makeTasks, Cond.selects R_M y_M_makeTasks y_M_makeTasks, Cond.code y_M_tasksOn c_M_tasksOn 6 (some .int), Cond.methodLink R_M 101 y_M_tasksOn, Cond.instanceMethod y_M_tasksOn, Cond.selects R_M y_M_tasksOn y_M_tasksOn, Cond.code y_M_isTask c_M_isTask 2 (some .boolean), Cond.methodLink R_M 113 y_M_isTask, Cond.instanceMethod y_M_isTask, Cond.selects R_M y_M_isTask y_M_isTask, Cond.code y_M_from c_M_from 3 (some .int), Cond.methodLink R_M 116 y_M_from, Cond.instanceMethod y_M_from, Cond.selects R_M y_M_from y_M_from, Cond.code y_M_rankOf c_M_rankOf 4 (some .int), Cond.methodLink R_M 119 y_M_rankOf, Cond.instanceMethod y_M_rankOf, Cond.selects R_M y_M_rankOf y_M_rankOf, Cond.code y_M_isCopied c_M_isCopied 6 (some .boolean), Cond.methodLink R_M 122 y_M_isCopied, Cond.instanceMethod y_M_isCopied]
def XT8 : List Cond := [Cond.selects R_M y_M_isCopied y_M_isCopied, Cond.code y_M_isSame c_M_isSame 9 (some .boolean), Cond.methodLink R_M 125 y_M_isSame, Cond.instanceMethod y_M_isSame, Cond.selects R_M y_M_isSame y_M_isSame, Cond.classLink R_L 7 R_T, Cond.instantiable R_T 6, Cond.methodLink R_L 9 y_T_init, Cond.instanceMethod y_T_init, Cond.code y_T_init c_T_init 1 none, Cond.classLink R_L 10 R_M, Cond.instantiable R_M 19, Cond.methodLink R_L 12 y_M_init, Cond.instanceMethod y_M_init, Cond.code y_M_init c_M_init 1 none, Cond.methodLink R_L 13 y_T_runnable, Cond.instanceMethod y_T_runnable, Cond.code y_T_runnable c_T_runnable 4 (some .int), Cond.selects R_T y_T_runnable y_T_runnable, Cond.methodLink R_L 17 y_M_runnable, Cond.instanceMethod y_M_runnable, Cond.code y_M_runnable c_M_runnable 4 (some .int), Cond.selects R_M y_M_runnable y_M_runnable, Cond.methodLink R_L 18 y_T_needs, Cond.instanceMethod y_T_needs, Cond.code y_T_needs c_T_needs 4 (some .int), Cond.selects R_T y_T_needs y_T_needs, Cond.methodLink R_L 22 y_M_needs, Cond.instanceMethod y_M_needs, Cond.code y_M_needs c_M_needs 4 (some .int), Cond.selects R_M y_M_needs y_M_needs, Cond.methodLink R_L 23 y_T_area, Cond.instanceMethod y_T_area, Cond.code y_T_area c_T_area 5 (some .int), Cond.selects R_T y_T_area y_T_area, Cond.methodLink R_L 27 y_M_area, Cond.instanceMethod y_M_area, Cond.code y_M_area c_M_area 7 (some .int), Cond.selects R_M y_M_area y_M_area, Cond.methodLink R_L 28 y_T_build]
def XT9 : List Cond := [Cond.instanceMethod y_T_build, Cond.code y_T_build c_T_build 2 (some .int), Cond.selects R_T y_T_build y_T_build, Cond.methodLink R_L 32 y_M_build, Cond.instanceMethod y_M_build, Cond.code y_M_build c_M_build 2 (some .int), Cond.selects R_M y_M_build y_M_build, Cond.methodLink R_L 33 y_T_task, Cond.instanceMethod y_T_task, Cond.code y_T_task c_T_task 2 (some .int), Cond.selects R_T y_T_task y_T_task, Cond.methodLink R_L 37 y_M_task, Cond.instanceMethod y_M_task, Cond.code y_M_task c_M_task 2 (some .int), Cond.selects R_M y_M_task y_M_task, Cond.methodLink R_L 38 y_T_order, Cond.instanceMethod y_T_order, Cond.code y_T_order c_T_order 3 (some .int), Cond.selects R_T y_T_order y_T_order, Cond.methodLink R_L 41 y_M_order, Cond.instanceMethod y_M_order, Cond.code y_M_order c_M_order 4 (some .int), Cond.selects R_M y_M_order y_M_order, Cond.methodLink R_L 42 y_T_rank, Cond.instanceMethod y_T_rank, Cond.code y_T_rank c_T_rank 2 (some .int), Cond.selects R_T y_T_rank y_T_rank, Cond.methodLink R_L 45 y_M_rank, Cond.instanceMethod y_M_rank, Cond.code y_M_rank c_M_rank 2 (some .int), Cond.selects R_M y_M_rank y_M_rank, Cond.methodLink R_L 46 y_T_buffer, Cond.instanceMethod y_T_buffer, Cond.code y_T_buffer c_T_buffer 2 (some .int), Cond.selects R_T y_T_buffer y_T_buffer, Cond.methodLink R_L 49 y_M_buffer, Cond.instanceMethod y_M_buffer, Cond.code y_M_buffer c_M_buffer 2 (some .int), Cond.selects R_M y_M_buffer y_M_buffer, Cond.methodLink R_L 50 y_T_table]
def XT10 : List Cond := [Cond.instanceMethod y_T_table, Cond.code y_T_table c_T_table 3 (some .int), Cond.selects R_T y_T_table y_T_table, Cond.methodLink R_L 53 y_M_table, Cond.instanceMethod y_M_table, Cond.code y_M_table c_M_table 5 (some .int), Cond.selects R_M y_M_table y_M_table, Cond.methodLink R_L 54 y_T_ring, Cond.instanceMethod y_T_ring, Cond.code y_T_ring c_T_ring 2 (some .int), Cond.selects R_T y_T_ring y_T_ring, Cond.methodLink R_L 57 y_M_ring, Cond.instanceMethod y_M_ring, Cond.code y_M_ring c_M_ring 2 (some .int), Cond.selects R_M y_M_ring y_M_ring, Cond.methodLink R_L 58 y_T_cross, Cond.instanceMethod y_T_cross, Cond.code y_T_cross c_T_cross 2 (some .int), Cond.selects R_T y_T_cross y_T_cross, Cond.methodLink R_L 61 y_M_cross, Cond.instanceMethod y_M_cross, Cond.code y_M_cross c_M_cross 7 (some .int), Cond.selects R_M y_M_cross y_M_cross, Cond.constantLong R_L 62 (4294967295 : Int64), Cond.methodLink R_L 64 y_T_budget, Cond.instanceMethod y_T_budget, Cond.code y_T_budget c_T_budget 4 (some .int), Cond.selects R_T y_T_budget y_T_budget, Cond.methodLink R_L 68 y_M_budget, Cond.instanceMethod y_M_budget, Cond.code y_M_budget c_M_budget 7 (some .int), Cond.selects R_M y_M_budget y_M_budget, Cond.methodLink R_L 69 y_T_differ, Cond.instanceMethod y_T_differ, Cond.code y_T_differ c_T_differ 3 (some .int), Cond.selects R_T y_T_differ y_T_differ, Cond.methodLink R_L 72 y_M_differ, Cond.instanceMethod y_M_differ, Cond.code y_M_differ c_M_differ 6 (some .int), Cond.selects R_M y_M_differ y_M_differ]
def XTs : List Cond := XT0 ++ (XT1 ++ (XT2 ++ (XT3 ++ (XT4 ++ (XT5 ++ (XT6 ++ (XT7 ++ (XT8 ++ (XT9 ++ (XT10))))))))))
set_option maxRecDepth 100000 in
theorem xT0_good : XT0.all goodWord = true := by decide +kernel
set_option maxRecDepth 100000 in
theorem xT0_tbl : XT0 = [128, 130, 132, 134, 136, 138, 57, 59, 61, 63, 65, 67, 82, 84, 86, 88, 90, 109, 111, 113, 115, 117, 119, 372, 374, 376, 378, 380, 382, 384, 386, 388, 390, 392, 394, 396, 398, 400, 402, 404].filterMap (fun i => lw_tbl[i]?) := by rfl
set_option maxRecDepth 100000 in
theorem xT1_good : XT1.all goodWord = true := by decide +kernel
set_option maxRecDepth 100000 in
theorem xT1_tbl : XT1 = [406, 408, 45, 38, 39, 70, 48, 49, 51, 53, 55, 76, 77, 78, 79, 80, 99, 102, 104, 105, 107, 108, 37, 40, 41, 27, 44, 42, 43, 122, 71, 72, 28, 75, 73, 74, 123, 93, 124, 95].filterMap (fun i => lw_tbl[i]?) := by rfl
set_option maxRecDepth 100000 in
theorem xT2_good : XT2.all goodWord = true := by decide +kernel
set_option maxRecDepth 100000 in
theorem xT2_tbl : XT2 = [29, 98, 96, 97, 126, 46, 147, 145, 146, 26, 148, 152, 149, 150, 151, 127, 156, 153, 154, 155, 172, 171, 184, 181, 183, 1, 81, 188, 185, 187, 2, 180, 177, 179, 0, 164, 161, 162, 163, 169].filterMap (fun i => lw_tbl[i]?) := by rfl
set_option maxRecDepth 100000 in
theorem xT3_good : XT3.all goodWord = true := by decide +kernel
set_option maxRecDepth 100000 in
theorem xT3_tbl : XT3 = [166, 167, 168, 192, 189, 190, 191, 176, 173, 174, 175, 215, 216, 217, 214, 212, 213, 31, 211, 208, 209, 210, 199, 197, 198, 207, 204, 205, 206, 203, 200, 201, 202, 229, 226, 228, 3, 125, 100, 254].filterMap (fun i => lw_tbl[i]?) := by rfl
set_option maxRecDepth 100000 in
theorem xT4_good : XT4.all goodWord = true := by decide +kernel
set_option maxRecDepth 100000 in
theorem xT4_tbl : XT4 = [251, 252, 253, 250, 247, 249, 6, 245, 242, 243, 244, 262, 259, 260, 261, 241, 238, 240, 5, 258, 255, 257, 7, 233, 230, 232, 4, 237, 234, 235, 236, 225, 222, 223, 224, 283, 280, 282, 8, 274].filterMap (fun i => lw_tbl[i]?) := by rfl
set_option maxRecDepth 100000 in
theorem xT5_good : XT5.all goodWord = true := by decide +kernel
set_option maxRecDepth 100000 in
theorem xT5_tbl : XT5 = [271, 272, 273, 279, 276, 277, 278, 299, 296, 298, 9, 295, 292, 293, 294, 307, 304, 305, 306, 315, 312, 313, 314, 323, 320, 321, 322, 332, 329, 330, 331, 345, 346, 344, 341, 343, 10, 340, 337, 338].filterMap (fun i => lw_tbl[i]?) := by rfl
set_option maxRecDepth 100000 in
theorem xT6_good : XT6.all goodWord = true := by decide +kernel
set_option maxRecDepth 100000 in
theorem xT6_tbl : XT6 = [339, 352, 355, 356, 357, 358, 359, 360, 362, 363, 366, 367, 368, 369, 370, 371, 354, 418, 416, 417, 30, 353, 415, 419, 420, 364, 361, 428, 425, 427, 11, 432, 429, 431, 12, 436, 433, 435, 13, 445].filterMap (fun i => lw_tbl[i]?) := by rfl
set_option maxRecDepth 100000 in
theorem xT7_good : XT7.all goodWord = true := by decide +kernel
set_option maxRecDepth 100000 in
theorem xT7_tbl : XT7 = [465, 462, 464, 17, 469, 466, 468, 18, 461, 458, 460, 16, 365, 473, 470, 472, 19, 457, 454, 456, 15, 453, 450, 452, 14, 485, 482, 484, 20, 489, 486, 488, 21, 497, 494, 496, 22, 505, 502, 504].filterMap (fun i => lw_tbl[i]?) := by rfl
set_option maxRecDepth 100000 in
theorem xT8_good : XT8.all goodWord = true := by decide +kernel
set_option maxRecDepth 100000 in
theorem xT8_tbl : XT8 = [23, 525, 522, 524, 24, 32, 33, 34, 35, 36, 347, 348, 349, 350, 351, 141, 142, 144, 143, 411, 412, 414, 413, 157, 158, 160, 159, 421, 422, 424, 423, 193, 194, 196, 195, 441, 442, 444, 443, 218].filterMap (fun i => lw_tbl[i]?) := by rfl
set_option maxRecDepth 100000 in
theorem xT9_good : XT9.all goodWord = true := by decide +kernel
set_option maxRecDepth 100000 in
theorem xT9_tbl : XT9 = [219, 221, 220, 446, 447, 449, 448, 263, 264, 266, 265, 474, 475, 477, 476, 267, 268, 270, 269, 478, 479, 481, 480, 284, 285, 287, 286, 490, 491, 493, 492, 288, 289, 291, 290, 498, 499, 501, 500, 300].filterMap (fun i => lw_tbl[i]?) := by rfl
set_option maxRecDepth 100000 in
theorem xT10_good : XT10.all goodWord = true := by decide +kernel
set_option maxRecDepth 100000 in
theorem xT10_tbl : XT10 = [301, 303, 302, 506, 507, 509, 508, 308, 309, 311, 310, 437, 438, 440, 439, 316, 317, 319, 318, 510, 511, 513, 512, 526, 325, 326, 328, 327, 514, 515, 517, 516, 333, 334, 336, 335, 518, 519, 521, 520].filterMap (fun i => lw_tbl[i]?) := by rfl
theorem xT0_in {w : Cond} (z : w ∈ XT0) : w ∈ XTs := (List.mem_append_left _ z)
theorem xT1_in {w : Cond} (z : w ∈ XT1) : w ∈ XTs := (List.mem_append_right _ (List.mem_append_left _ z))
theorem xT2_in {w : Cond} (z : w ∈ XT2) : w ∈ XTs := (List.mem_append_right _ (List.mem_append_right _ (List.mem_append_left _ z)))
theorem xT3_in {w : Cond} (z : w ∈ XT3) : w ∈ XTs := (List.mem_append_right _ (List.mem_append_right _ (List.mem_append_right _ (List.mem_append_left _ z))))
theorem xT4_in {w : Cond} (z : w ∈ XT4) : w ∈ XTs := (List.mem_append_right _ (List.mem_append_right _ (List.mem_append_right _ (List.mem_append_right _ (List.mem_append_left _ z)))))
theorem xT5_in {w : Cond} (z : w ∈ XT5) : w ∈ XTs := (List.mem_append_right _ (List.mem_append_right _ (List.mem_append_right _ (List.mem_append_right _ (List.mem_append_right _ (List.mem_append_left _ z))))))
theorem xT6_in {w : Cond} (z : w ∈ XT6) : w ∈ XTs := (List.mem_append_right _ (List.mem_append_right _ (List.mem_append_right _ (List.mem_append_right _ (List.mem_append_right _ (List.mem_append_right _ (List.mem_append_left _ z)))))))
theorem xT7_in {w : Cond} (z : w ∈ XT7) : w ∈ XTs := (List.mem_append_right _ (List.mem_append_right _ (List.mem_append_right _ (List.mem_append_right _ (List.mem_append_right _ (List.mem_append_right _ (List.mem_append_right _ (List.mem_append_left _ z))))))))
theorem xT8_in {w : Cond} (z : w ∈ XT8) : w ∈ XTs := (List.mem_append_right _ (List.mem_append_right _ (List.mem_append_right _ (List.mem_append_right _ (List.mem_append_right _ (List.mem_append_right _ (List.mem_append_right _ (List.mem_append_right _ (List.mem_append_left _ z)))))))))
theorem xT9_in {w : Cond} (z : w ∈ XT9) : w ∈ XTs := (List.mem_append_right _ (List.mem_append_right _ (List.mem_append_right _ (List.mem_append_right _ (List.mem_append_right _ (List.mem_append_right _ (List.mem_append_right _ (List.mem_append_right _ (List.mem_append_right _ (List.mem_append_left _ z))))))))))
theorem xT10_in {w : Cond} (z : w ∈ XT10) : w ∈ XTs := (List.mem_append_right _ (List.mem_append_right _ (List.mem_append_right _ (List.mem_append_right _ (List.mem_append_right _ (List.mem_append_right _ (List.mem_append_right _ (List.mem_append_right _ (List.mem_append_right _ (List.mem_append_right _ z))))))))))
theorem xTs_good : ∀ w ∈ XTs, goodWord w = true := by
  intro w hw
  rcases List.mem_append.mp hw with q0 | t0
  · exact List.all_eq_true.mp xT0_good w q0
  rcases List.mem_append.mp t0 with q1 | t1
  · exact List.all_eq_true.mp xT1_good w q1
  rcases List.mem_append.mp t1 with q2 | t2
  · exact List.all_eq_true.mp xT2_good w q2
  rcases List.mem_append.mp t2 with q3 | t3
  · exact List.all_eq_true.mp xT3_good w q3
  rcases List.mem_append.mp t3 with q4 | t4
  · exact List.all_eq_true.mp xT4_good w q4
  rcases List.mem_append.mp t4 with q5 | t5
  · exact List.all_eq_true.mp xT5_good w q5
  rcases List.mem_append.mp t5 with q6 | t6
  · exact List.all_eq_true.mp xT6_good w q6
  rcases List.mem_append.mp t6 with q7 | t7
  · exact List.all_eq_true.mp xT7_good w q7
  rcases List.mem_append.mp t7 with q8 | t8
  · exact List.all_eq_true.mp xT8_good w q8
  rcases List.mem_append.mp t8 with q9 | t9
  · exact List.all_eq_true.mp xT9_good w q9
  exact List.all_eq_true.mp xT10_good w t9
theorem xT_tbl {X : List Cond} {ps : List Nat} (h : X = ps.filterMap (fun i => lw_tbl[i]?)) {w : Cond} (hw : w ∈ X) : w ∈ lw_tbl := by
  rw [h] at hw
  obtain ⟨i, -, hi⟩ := List.mem_filterMap.mp hw
  exact List.mem_of_getElem? hi
theorem xTs_tbl : ∀ w ∈ XTs, w ∈ lw_tbl := by
  intro w hw
  rcases List.mem_append.mp hw with q0 | t0
  · exact xT_tbl xT0_tbl q0
  rcases List.mem_append.mp t0 with q1 | t1
  · exact xT_tbl xT1_tbl q1
  rcases List.mem_append.mp t1 with q2 | t2
  · exact xT_tbl xT2_tbl q2
  rcases List.mem_append.mp t2 with q3 | t3
  · exact xT_tbl xT3_tbl q3
  rcases List.mem_append.mp t3 with q4 | t4
  · exact xT_tbl xT4_tbl q4
  rcases List.mem_append.mp t4 with q5 | t5
  · exact xT_tbl xT5_tbl q5
  rcases List.mem_append.mp t5 with q6 | t6
  · exact xT_tbl xT6_tbl q6
  rcases List.mem_append.mp t6 with q7 | t7
  · exact xT_tbl xT7_tbl q7
  rcases List.mem_append.mp t7 with q8 | t8
  · exact xT_tbl xT8_tbl q8
  rcases List.mem_append.mp t8 with q9 | t9
  · exact xT_tbl xT9_tbl q9
  exact xT_tbl xT10_tbl t9
theorem xt_0 : Cond.methodLink R_U 3 Lib.objectInit ∈ XTs := xT1_in (List.mem_of_getElem? (i := 2) rfl)
theorem xt_1 : Cond.instanceMethod Lib.objectInit ∈ XTs := xT1_in (List.mem_of_getElem? (i := 3) rfl)
theorem xt_2 : Cond.code Lib.objectInit ⟨#[0xb1]⟩ 1 none ∈ XTs := xT1_in (List.mem_of_getElem? (i := 4) rfl)
theorem xt_3 : Cond.arrayClass .int ∈ XTs := xT1_in (List.mem_of_getElem? (i := 5) rfl)
theorem xt_4 : Cond.fieldLink R_U 9 "TaskBuild$Runnables" "period" "[I" ∈ XTs := xT1_in (List.mem_of_getElem? (i := 6) rfl)
theorem xt_5 : Cond.fieldLink R_U 15 "TaskBuild$Runnables" "core" "[I" ∈ XTs := xT1_in (List.mem_of_getElem? (i := 7) rfl)
theorem xt_6 : Cond.fieldLink R_U 18 "TaskBuild$Runnables" "steps" "[I" ∈ XTs := xT1_in (List.mem_of_getElem? (i := 8) rfl)
theorem xt_7 : Cond.fieldLink R_U 21 "TaskBuild$Runnables" "reads" "[I" ∈ XTs := xT1_in (List.mem_of_getElem? (i := 9) rfl)
theorem xt_8 : Cond.fieldLink R_U 24 "TaskBuild$Runnables" "writes" "[I" ∈ XTs := xT1_in (List.mem_of_getElem? (i := 10) rfl)
theorem xt_9 : Cond.methodLink R_G 3 Lib.objectInit ∈ XTs := xT1_in (List.mem_of_getElem? (i := 11) rfl)
theorem xt_10 : Cond.fieldLink R_G 9 "TaskBuild$Graph" "toldBefore" "[I" ∈ XTs := xT1_in (List.mem_of_getElem? (i := 12) rfl)
theorem xt_11 : Cond.fieldLink R_G 15 "TaskBuild$Graph" "allBefore" "[I" ∈ XTs := xT1_in (List.mem_of_getElem? (i := 13) rfl)
theorem xt_12 : Cond.fieldLink R_G 18 "TaskBuild$Graph" "layer" "[I" ∈ XTs := xT1_in (List.mem_of_getElem? (i := 14) rfl)
theorem xt_13 : Cond.fieldLink R_G 21 "TaskBuild$Graph" "told" "[I" ∈ XTs := xT1_in (List.mem_of_getElem? (i := 15) rfl)
theorem xt_14 : Cond.methodLink R_P 3 Lib.objectInit ∈ XTs := xT1_in (List.mem_of_getElem? (i := 16) rfl)
theorem xt_15 : Cond.fieldLink R_P 9 "TaskBuild$Plan" "taskOf" "[I" ∈ XTs := xT1_in (List.mem_of_getElem? (i := 17) rfl)
theorem xt_16 : Cond.fieldLink R_P 15 "TaskBuild$Plan" "periodOf" "[I" ∈ XTs := xT1_in (List.mem_of_getElem? (i := 18) rfl)
theorem xt_17 : Cond.fieldLink R_P 18 "TaskBuild$Plan" "rankOf" "[I" ∈ XTs := xT1_in (List.mem_of_getElem? (i := 19) rfl)
theorem xt_18 : Cond.fieldLink R_P 21 "TaskBuild$Plan" "row" "[I" ∈ XTs := xT1_in (List.mem_of_getElem? (i := 20) rfl)
theorem xt_19 : Cond.fieldLink R_P 24 "TaskBuild$Plan" "startOf" "[I" ∈ XTs := xT1_in (List.mem_of_getElem? (i := 21) rfl)
theorem xt_20 : Cond.methodLink R_T 1 Lib.objectInit ∈ XTs := xT1_in (List.mem_of_getElem? (i := 22) rfl)
theorem xt_21 : Cond.classLink R_T 7 R_U ∈ XTs := xT1_in (List.mem_of_getElem? (i := 23) rfl)
theorem xt_22 : Cond.instantiable R_U 6 ∈ XTs := xT1_in (List.mem_of_getElem? (i := 24) rfl)
theorem xt_23 : Cond.initialized R_U ∈ XTs := xT1_in (List.mem_of_getElem? (i := 25) rfl)
theorem xt_24 : Cond.code y_U_init c_U_init 1 none ∈ XTs := xT1_in (List.mem_of_getElem? (i := 26) rfl)
theorem xt_25 : Cond.methodLink R_T 9 y_U_init ∈ XTs := xT1_in (List.mem_of_getElem? (i := 27) rfl)
theorem xt_26 : Cond.instanceMethod y_U_init ∈ XTs := xT1_in (List.mem_of_getElem? (i := 28) rfl)
theorem xt_27 : Cond.fieldLink R_T 10 "TaskBuild" "all" "LTaskBuild$Runnables;" ∈ XTs := xT1_in (List.mem_of_getElem? (i := 29) rfl)
theorem xt_28 : Cond.classLink R_T 16 R_G ∈ XTs := xT1_in (List.mem_of_getElem? (i := 30) rfl)
theorem xt_29 : Cond.instantiable R_G 5 ∈ XTs := xT1_in (List.mem_of_getElem? (i := 31) rfl)
theorem xt_30 : Cond.initialized R_G ∈ XTs := xT1_in (List.mem_of_getElem? (i := 32) rfl)
theorem xt_31 : Cond.code y_G_init c_G_init 1 none ∈ XTs := xT1_in (List.mem_of_getElem? (i := 33) rfl)
theorem xt_32 : Cond.methodLink R_T 18 y_G_init ∈ XTs := xT1_in (List.mem_of_getElem? (i := 34) rfl)
theorem xt_33 : Cond.instanceMethod y_G_init ∈ XTs := xT1_in (List.mem_of_getElem? (i := 35) rfl)
theorem xt_34 : Cond.fieldLink R_T 19 "TaskBuild" "graph" "LTaskBuild$Graph;" ∈ XTs := xT1_in (List.mem_of_getElem? (i := 36) rfl)
theorem xt_35 : Cond.classLink R_T 23 R_P ∈ XTs := xT1_in (List.mem_of_getElem? (i := 37) rfl)
theorem xt_36 : Cond.fieldLink R_T 25 "TaskBuild" "kept" "[LTaskBuild$Plan;" ∈ XTs := xT1_in (List.mem_of_getElem? (i := 38) rfl)
theorem xt_37 : Cond.instantiable R_P 6 ∈ XTs := xT1_in (List.mem_of_getElem? (i := 39) rfl)
theorem xt_38 : Cond.initialized R_P ∈ XTs := xT2_in (List.mem_of_getElem? (i := 0) rfl)
theorem xt_39 : Cond.code y_P_init c_P_init 1 none ∈ XTs := xT2_in (List.mem_of_getElem? (i := 1) rfl)
theorem xt_40 : Cond.methodLink R_T 29 y_P_init ∈ XTs := xT2_in (List.mem_of_getElem? (i := 2) rfl)
theorem xt_41 : Cond.instanceMethod y_P_init ∈ XTs := xT2_in (List.mem_of_getElem? (i := 3) rfl)
theorem xt_42 : Cond.fieldLink R_T 30 "TaskBuild" "unkept" "LTaskBuild$Plan;" ∈ XTs := xT2_in (List.mem_of_getElem? (i := 4) rfl)
theorem xt_43 : Cond.fieldLink R_U 27 "TaskBuild$Runnables" "count" "I" ∈ XTs := xT2_in (List.mem_of_getElem? (i := 5) rfl)
theorem xt_44 : Cond.code y_T_isWithin c_T_isWithin 3 (some .boolean) ∈ XTs := xT2_in (List.mem_of_getElem? (i := 6) rfl)
theorem xt_45 : Cond.methodLink R_T 34 y_T_isWithin ∈ XTs := xT2_in (List.mem_of_getElem? (i := 7) rfl)
theorem xt_46 : Cond.static y_T_isWithin ∈ XTs := xT2_in (List.mem_of_getElem? (i := 8) rfl)
theorem xt_47 : Cond.initialized R_T ∈ XTs := xT2_in (List.mem_of_getElem? (i := 9) rfl)
theorem xt_48 : Cond.constant R_T 38 (100000 : Int32) ∈ XTs := xT2_in (List.mem_of_getElem? (i := 10) rfl)
theorem xt_49 : Cond.code y_U_isFull c_U_isFull 1 (some .boolean) ∈ XTs := xT2_in (List.mem_of_getElem? (i := 11) rfl)
theorem xt_50 : Cond.methodLink R_T 39 y_U_isFull ∈ XTs := xT2_in (List.mem_of_getElem? (i := 12) rfl)
theorem xt_51 : Cond.instanceMethod y_U_isFull ∈ XTs := xT2_in (List.mem_of_getElem? (i := 13) rfl)
theorem xt_52 : Cond.selects R_U y_U_isFull y_U_isFull ∈ XTs := xT2_in (List.mem_of_getElem? (i := 14) rfl)
theorem xt_53 : Cond.fieldLink R_T 43 "TaskBuild" "built" "LTaskBuild$Plan;" ∈ XTs := xT2_in (List.mem_of_getElem? (i := 15) rfl)
theorem xt_54 : Cond.code y_U_add c_U_add 4 (some .int) ∈ XTs := xT2_in (List.mem_of_getElem? (i := 16) rfl)
theorem xt_55 : Cond.methodLink R_T 46 y_U_add ∈ XTs := xT2_in (List.mem_of_getElem? (i := 17) rfl)
theorem xt_56 : Cond.instanceMethod y_U_add ∈ XTs := xT2_in (List.mem_of_getElem? (i := 18) rfl)
theorem xt_57 : Cond.selects R_U y_U_add y_U_add ∈ XTs := xT2_in (List.mem_of_getElem? (i := 19) rfl)
theorem xt_58 : Cond.code y_T_isIn c_T_isIn 2 (some .boolean) ∈ XTs := xT2_in (List.mem_of_getElem? (i := 20) rfl)
theorem xt_59 : Cond.static y_T_isIn ∈ XTs := xT2_in (List.mem_of_getElem? (i := 21) rfl)
theorem xt_60 : Cond.code y_G_toldBeforeAny c_G_toldBeforeAny 4 (some .int) ∈ XTs := xT2_in (List.mem_of_getElem? (i := 22) rfl)
theorem xt_61 : Cond.methodLink R_G 39 y_G_toldBeforeAny ∈ XTs := xT2_in (List.mem_of_getElem? (i := 23) rfl)
theorem xt_62 : Cond.instanceMethod y_G_toldBeforeAny ∈ XTs := xT2_in (List.mem_of_getElem? (i := 24) rfl)
theorem xt_63 : Cond.selects R_G y_G_toldBeforeAny y_G_toldBeforeAny ∈ XTs := xT2_in (List.mem_of_getElem? (i := 25) rfl)
theorem xt_64 : Cond.fieldLink R_G 35 "TaskBuild$Graph" "toldCount" "I" ∈ XTs := xT2_in (List.mem_of_getElem? (i := 26) rfl)
theorem xt_65 : Cond.code y_G_leastBehind c_G_leastBehind 4 (some .int) ∈ XTs := xT2_in (List.mem_of_getElem? (i := 27) rfl)
theorem xt_66 : Cond.methodLink R_G 32 y_G_leastBehind ∈ XTs := xT2_in (List.mem_of_getElem? (i := 28) rfl)
theorem xt_67 : Cond.instanceMethod y_G_leastBehind ∈ XTs := xT2_in (List.mem_of_getElem? (i := 29) rfl)
theorem xt_68 : Cond.selects R_G y_G_leastBehind y_G_leastBehind ∈ XTs := xT2_in (List.mem_of_getElem? (i := 30) rfl)
theorem xt_69 : Cond.code y_G_layersFrom c_G_layersFrom 4 (some .int) ∈ XTs := xT2_in (List.mem_of_getElem? (i := 31) rfl)
theorem xt_70 : Cond.methodLink R_G 28 y_G_layersFrom ∈ XTs := xT2_in (List.mem_of_getElem? (i := 32) rfl)
theorem xt_71 : Cond.instanceMethod y_G_layersFrom ∈ XTs := xT2_in (List.mem_of_getElem? (i := 33) rfl)
theorem xt_72 : Cond.selects R_G y_G_layersFrom y_G_layersFrom ∈ XTs := xT2_in (List.mem_of_getElem? (i := 34) rfl)
theorem xt_73 : Cond.code y_U_has c_U_has 2 (some .boolean) ∈ XTs := xT2_in (List.mem_of_getElem? (i := 35) rfl)
theorem xt_74 : Cond.methodLink R_T 50 y_U_has ∈ XTs := xT2_in (List.mem_of_getElem? (i := 36) rfl)
theorem xt_75 : Cond.instanceMethod y_U_has ∈ XTs := xT2_in (List.mem_of_getElem? (i := 37) rfl)
theorem xt_76 : Cond.selects R_U y_U_has y_U_has ∈ XTs := xT2_in (List.mem_of_getElem? (i := 38) rfl)
theorem xt_77 : Cond.code y_G_wouldCloseRing c_G_wouldCloseRing 3 (some .boolean) ∈ XTs := xT2_in (List.mem_of_getElem? (i := 39) rfl)
theorem xt_78 : Cond.methodLink R_T 54 y_G_wouldCloseRing ∈ XTs := xT3_in (List.mem_of_getElem? (i := 0) rfl)
theorem xt_79 : Cond.instanceMethod y_G_wouldCloseRing ∈ XTs := xT3_in (List.mem_of_getElem? (i := 1) rfl)
theorem xt_80 : Cond.selects R_G y_G_wouldCloseRing y_G_wouldCloseRing ∈ XTs := xT3_in (List.mem_of_getElem? (i := 2) rfl)
theorem xt_81 : Cond.code y_G_add c_G_add 5 none ∈ XTs := xT3_in (List.mem_of_getElem? (i := 3) rfl)
theorem xt_82 : Cond.methodLink R_T 62 y_G_add ∈ XTs := xT3_in (List.mem_of_getElem? (i := 4) rfl)
theorem xt_83 : Cond.instanceMethod y_G_add ∈ XTs := xT3_in (List.mem_of_getElem? (i := 5) rfl)
theorem xt_84 : Cond.selects R_G y_G_add y_G_add ∈ XTs := xT3_in (List.mem_of_getElem? (i := 6) rfl)
theorem xt_85 : Cond.code y_G_tellRing c_G_tellRing 5 none ∈ XTs := xT3_in (List.mem_of_getElem? (i := 7) rfl)
theorem xt_86 : Cond.methodLink R_T 58 y_G_tellRing ∈ XTs := xT3_in (List.mem_of_getElem? (i := 8) rfl)
theorem xt_87 : Cond.instanceMethod y_G_tellRing ∈ XTs := xT3_in (List.mem_of_getElem? (i := 9) rfl)
theorem xt_88 : Cond.selects R_G y_G_tellRing y_G_tellRing ∈ XTs := xT3_in (List.mem_of_getElem? (i := 10) rfl)
theorem xt_89 : Cond.constant R_J 265 (1431655765 : Int32) ∈ XTs := xT3_in (List.mem_of_getElem? (i := 11) rfl)
theorem xt_90 : Cond.constant R_J 266 (858993459 : Int32) ∈ XTs := xT3_in (List.mem_of_getElem? (i := 12) rfl)
theorem xt_91 : Cond.constant R_J 267 (252645135 : Int32) ∈ XTs := xT3_in (List.mem_of_getElem? (i := 13) rfl)
theorem xt_92 : Cond.code y_J_bitCount c_J_bitCount 1 (some .int) ∈ XTs := xT3_in (List.mem_of_getElem? (i := 14) rfl)
theorem xt_93 : Cond.methodLink R_U 35 y_J_bitCount ∈ XTs := xT3_in (List.mem_of_getElem? (i := 15) rfl)
theorem xt_94 : Cond.static y_J_bitCount ∈ XTs := xT3_in (List.mem_of_getElem? (i := 16) rfl)
theorem xt_95 : Cond.initialized R_J ∈ XTs := xT3_in (List.mem_of_getElem? (i := 17) rfl)
theorem xt_96 : Cond.code y_U_dataUsedBy c_U_dataUsedBy 2 (some .int) ∈ XTs := xT3_in (List.mem_of_getElem? (i := 18) rfl)
theorem xt_97 : Cond.methodLink R_T 73 y_U_dataUsedBy ∈ XTs := xT3_in (List.mem_of_getElem? (i := 19) rfl)
theorem xt_98 : Cond.instanceMethod y_U_dataUsedBy ∈ XTs := xT3_in (List.mem_of_getElem? (i := 20) rfl)
theorem xt_99 : Cond.selects R_U y_U_dataUsedBy y_U_dataUsedBy ∈ XTs := xT3_in (List.mem_of_getElem? (i := 21) rfl)
theorem xt_100 : Cond.code y_T_isDatum c_T_isDatum 1 (some .boolean) ∈ XTs := xT3_in (List.mem_of_getElem? (i := 22) rfl)
theorem xt_101 : Cond.methodLink R_T 64 y_T_isDatum ∈ XTs := xT3_in (List.mem_of_getElem? (i := 23) rfl)
theorem xt_102 : Cond.static y_T_isDatum ∈ XTs := xT3_in (List.mem_of_getElem? (i := 24) rfl)
theorem xt_103 : Cond.code y_U_addRead c_U_addRead 3 none ∈ XTs := xT3_in (List.mem_of_getElem? (i := 25) rfl)
theorem xt_104 : Cond.methodLink R_T 70 y_U_addRead ∈ XTs := xT3_in (List.mem_of_getElem? (i := 26) rfl)
theorem xt_105 : Cond.instanceMethod y_U_addRead ∈ XTs := xT3_in (List.mem_of_getElem? (i := 27) rfl)
theorem xt_106 : Cond.selects R_U y_U_addRead y_U_addRead ∈ XTs := xT3_in (List.mem_of_getElem? (i := 28) rfl)
theorem xt_107 : Cond.code y_U_addWrite c_U_addWrite 3 none ∈ XTs := xT3_in (List.mem_of_getElem? (i := 29) rfl)
theorem xt_108 : Cond.methodLink R_T 67 y_U_addWrite ∈ XTs := xT3_in (List.mem_of_getElem? (i := 30) rfl)
theorem xt_109 : Cond.instanceMethod y_U_addWrite ∈ XTs := xT3_in (List.mem_of_getElem? (i := 31) rfl)
theorem xt_110 : Cond.selects R_U y_U_addWrite y_U_addWrite ∈ XTs := xT3_in (List.mem_of_getElem? (i := 32) rfl)
theorem xt_111 : Cond.code y_U_opensTask c_U_opensTask 3 (some .boolean) ∈ XTs := xT3_in (List.mem_of_getElem? (i := 33) rfl)
theorem xt_112 : Cond.methodLink R_U 41 y_U_opensTask ∈ XTs := xT3_in (List.mem_of_getElem? (i := 34) rfl)
theorem xt_113 : Cond.instanceMethod y_U_opensTask ∈ XTs := xT3_in (List.mem_of_getElem? (i := 35) rfl)
theorem xt_114 : Cond.selects R_U y_U_opensTask y_U_opensTask ∈ XTs := xT3_in (List.mem_of_getElem? (i := 36) rfl)
theorem xt_115 : Cond.fieldLink R_T 123 "TaskBuild" "keptCount" "I" ∈ XTs := xT3_in (List.mem_of_getElem? (i := 37) rfl)
theorem xt_116 : Cond.fieldLink R_P 27 "TaskBuild$Plan" "taskCount" "I" ∈ XTs := xT3_in (List.mem_of_getElem? (i := 38) rfl)
theorem xt_117 : Cond.code y_G_leastFree c_G_leastFree 3 (some .int) ∈ XTs := xT3_in (List.mem_of_getElem? (i := 39) rfl)
theorem xt_118 : Cond.methodLink R_P 55 y_G_leastFree ∈ XTs := xT4_in (List.mem_of_getElem? (i := 0) rfl)
theorem xt_119 : Cond.instanceMethod y_G_leastFree ∈ XTs := xT4_in (List.mem_of_getElem? (i := 1) rfl)
theorem xt_120 : Cond.selects R_G y_G_leastFree y_G_leastFree ∈ XTs := xT4_in (List.mem_of_getElem? (i := 2) rfl)
theorem xt_121 : Cond.code y_P_addTask c_P_addTask 7 none ∈ XTs := xT4_in (List.mem_of_getElem? (i := 3) rfl)
theorem xt_122 : Cond.methodLink R_P 48 y_P_addTask ∈ XTs := xT4_in (List.mem_of_getElem? (i := 4) rfl)
theorem xt_123 : Cond.instanceMethod y_P_addTask ∈ XTs := xT4_in (List.mem_of_getElem? (i := 5) rfl)
theorem xt_124 : Cond.selects R_P y_P_addTask y_P_addTask ∈ XTs := xT4_in (List.mem_of_getElem? (i := 6) rfl)
theorem xt_125 : Cond.code y_U_group c_U_group 5 (some .int) ∈ XTs := xT4_in (List.mem_of_getElem? (i := 7) rfl)
theorem xt_126 : Cond.methodLink R_P 38 y_U_group ∈ XTs := xT4_in (List.mem_of_getElem? (i := 8) rfl)
theorem xt_127 : Cond.instanceMethod y_U_group ∈ XTs := xT4_in (List.mem_of_getElem? (i := 9) rfl)
theorem xt_128 : Cond.selects R_U y_U_group y_U_group ∈ XTs := xT4_in (List.mem_of_getElem? (i := 10) rfl)
theorem xt_129 : Cond.code y_U_periodAbove c_U_periodAbove 5 (some .int) ∈ XTs := xT4_in (List.mem_of_getElem? (i := 11) rfl)
theorem xt_130 : Cond.methodLink R_P 52 y_U_periodAbove ∈ XTs := xT4_in (List.mem_of_getElem? (i := 12) rfl)
theorem xt_131 : Cond.instanceMethod y_U_periodAbove ∈ XTs := xT4_in (List.mem_of_getElem? (i := 13) rfl)
theorem xt_132 : Cond.selects R_U y_U_periodAbove y_U_periodAbove ∈ XTs := xT4_in (List.mem_of_getElem? (i := 14) rfl)
theorem xt_133 : Cond.code y_P_addEventTasks c_P_addEventTasks 6 none ∈ XTs := xT4_in (List.mem_of_getElem? (i := 15) rfl)
theorem xt_134 : Cond.methodLink R_P 31 y_P_addEventTasks ∈ XTs := xT4_in (List.mem_of_getElem? (i := 16) rfl)
theorem xt_135 : Cond.instanceMethod y_P_addEventTasks ∈ XTs := xT4_in (List.mem_of_getElem? (i := 17) rfl)
theorem xt_136 : Cond.selects R_P y_P_addEventTasks y_P_addEventTasks ∈ XTs := xT4_in (List.mem_of_getElem? (i := 18) rfl)
theorem xt_137 : Cond.code y_P_addPeriodTasks c_P_addPeriodTasks 6 none ∈ XTs := xT4_in (List.mem_of_getElem? (i := 19) rfl)
theorem xt_138 : Cond.methodLink R_P 35 y_P_addPeriodTasks ∈ XTs := xT4_in (List.mem_of_getElem? (i := 20) rfl)
theorem xt_139 : Cond.instanceMethod y_P_addPeriodTasks ∈ XTs := xT4_in (List.mem_of_getElem? (i := 21) rfl)
theorem xt_140 : Cond.selects R_P y_P_addPeriodTasks y_P_addPeriodTasks ∈ XTs := xT4_in (List.mem_of_getElem? (i := 22) rfl)
theorem xt_141 : Cond.code y_T_nextPlan c_T_nextPlan 2 (some (.object "TaskBuild$Plan")) ∈ XTs := xT4_in (List.mem_of_getElem? (i := 23) rfl)
theorem xt_142 : Cond.methodLink R_T 80 y_T_nextPlan ∈ XTs := xT4_in (List.mem_of_getElem? (i := 24) rfl)
theorem xt_143 : Cond.instanceMethod y_T_nextPlan ∈ XTs := xT4_in (List.mem_of_getElem? (i := 25) rfl)
theorem xt_144 : Cond.selects R_T y_T_nextPlan y_T_nextPlan ∈ XTs := xT4_in (List.mem_of_getElem? (i := 26) rfl)
theorem xt_145 : Cond.code y_P_layOut c_P_layOut 6 none ∈ XTs := xT4_in (List.mem_of_getElem? (i := 27) rfl)
theorem xt_146 : Cond.methodLink R_T 84 y_P_layOut ∈ XTs := xT4_in (List.mem_of_getElem? (i := 28) rfl)
theorem xt_147 : Cond.instanceMethod y_P_layOut ∈ XTs := xT4_in (List.mem_of_getElem? (i := 29) rfl)
theorem xt_148 : Cond.selects R_P y_P_layOut y_P_layOut ∈ XTs := xT4_in (List.mem_of_getElem? (i := 30) rfl)
theorem xt_149 : Cond.code y_U_tasksOn c_U_tasksOn 4 (some .int) ∈ XTs := xT4_in (List.mem_of_getElem? (i := 31) rfl)
theorem xt_150 : Cond.methodLink R_T 77 y_U_tasksOn ∈ XTs := xT4_in (List.mem_of_getElem? (i := 32) rfl)
theorem xt_151 : Cond.instanceMethod y_U_tasksOn ∈ XTs := xT4_in (List.mem_of_getElem? (i := 33) rfl)
theorem xt_152 : Cond.selects R_U y_U_tasksOn y_U_tasksOn ∈ XTs := xT4_in (List.mem_of_getElem? (i := 34) rfl)
theorem xt_153 : Cond.code y_P_sizeOf c_P_sizeOf 2 (some .int) ∈ XTs := xT4_in (List.mem_of_getElem? (i := 35) rfl)
theorem xt_154 : Cond.methodLink R_P 65 y_P_sizeOf ∈ XTs := xT4_in (List.mem_of_getElem? (i := 36) rfl)
theorem xt_155 : Cond.instanceMethod y_P_sizeOf ∈ XTs := xT4_in (List.mem_of_getElem? (i := 37) rfl)
theorem xt_156 : Cond.selects R_P y_P_sizeOf y_P_sizeOf ∈ XTs := xT4_in (List.mem_of_getElem? (i := 38) rfl)
theorem xt_157 : Cond.code y_P_hasTask c_P_hasTask 2 (some .boolean) ∈ XTs := xT4_in (List.mem_of_getElem? (i := 39) rfl)
theorem xt_158 : Cond.methodLink R_T 96 y_P_hasTask ∈ XTs := xT5_in (List.mem_of_getElem? (i := 0) rfl)
theorem xt_159 : Cond.instanceMethod y_P_hasTask ∈ XTs := xT5_in (List.mem_of_getElem? (i := 1) rfl)
theorem xt_160 : Cond.selects R_P y_P_hasTask y_P_hasTask ∈ XTs := xT5_in (List.mem_of_getElem? (i := 2) rfl)
theorem xt_161 : Cond.code y_P_runnableAt c_P_runnableAt 3 (some .int) ∈ XTs := xT5_in (List.mem_of_getElem? (i := 3) rfl)
theorem xt_162 : Cond.methodLink R_T 99 y_P_runnableAt ∈ XTs := xT5_in (List.mem_of_getElem? (i := 4) rfl)
theorem xt_163 : Cond.instanceMethod y_P_runnableAt ∈ XTs := xT5_in (List.mem_of_getElem? (i := 5) rfl)
theorem xt_164 : Cond.selects R_P y_P_runnableAt y_P_runnableAt ∈ XTs := xT5_in (List.mem_of_getElem? (i := 6) rfl)
theorem xt_165 : Cond.code y_P_isWrittenAbove c_P_isWrittenAbove 7 (some .boolean) ∈ XTs := xT5_in (List.mem_of_getElem? (i := 7) rfl)
theorem xt_166 : Cond.methodLink R_P 77 y_P_isWrittenAbove ∈ XTs := xT5_in (List.mem_of_getElem? (i := 8) rfl)
theorem xt_167 : Cond.instanceMethod y_P_isWrittenAbove ∈ XTs := xT5_in (List.mem_of_getElem? (i := 9) rfl)
theorem xt_168 : Cond.selects R_P y_P_isWrittenAbove y_P_isWrittenAbove ∈ XTs := xT5_in (List.mem_of_getElem? (i := 10) rfl)
theorem xt_169 : Cond.code y_P_isCopied c_P_isCopied 4 (some .boolean) ∈ XTs := xT5_in (List.mem_of_getElem? (i := 11) rfl)
theorem xt_170 : Cond.methodLink R_T 106 y_P_isCopied ∈ XTs := xT5_in (List.mem_of_getElem? (i := 12) rfl)
theorem xt_171 : Cond.instanceMethod y_P_isCopied ∈ XTs := xT5_in (List.mem_of_getElem? (i := 13) rfl)
theorem xt_172 : Cond.selects R_P y_P_isCopied y_P_isCopied ∈ XTs := xT5_in (List.mem_of_getElem? (i := 14) rfl)
theorem xt_173 : Cond.code y_P_startAt c_P_startAt 5 (some .int) ∈ XTs := xT5_in (List.mem_of_getElem? (i := 15) rfl)
theorem xt_174 : Cond.methodLink R_T 110 y_P_startAt ∈ XTs := xT5_in (List.mem_of_getElem? (i := 16) rfl)
theorem xt_175 : Cond.instanceMethod y_P_startAt ∈ XTs := xT5_in (List.mem_of_getElem? (i := 17) rfl)
theorem xt_176 : Cond.selects R_P y_P_startAt y_P_startAt ∈ XTs := xT5_in (List.mem_of_getElem? (i := 18) rfl)
theorem xt_177 : Cond.code y_G_toldAt c_G_toldAt 2 (some .int) ∈ XTs := xT5_in (List.mem_of_getElem? (i := 19) rfl)
theorem xt_178 : Cond.methodLink R_T 113 y_G_toldAt ∈ XTs := xT5_in (List.mem_of_getElem? (i := 20) rfl)
theorem xt_179 : Cond.instanceMethod y_G_toldAt ∈ XTs := xT5_in (List.mem_of_getElem? (i := 21) rfl)
theorem xt_180 : Cond.selects R_G y_G_toldAt y_G_toldAt ∈ XTs := xT5_in (List.mem_of_getElem? (i := 22) rfl)
theorem xt_181 : Cond.code y_U_copiesAcross c_U_copiesAcross 7 (some .int) ∈ XTs := xT5_in (List.mem_of_getElem? (i := 23) rfl)
theorem xt_182 : Cond.methodLink R_T 116 y_U_copiesAcross ∈ XTs := xT5_in (List.mem_of_getElem? (i := 24) rfl)
theorem xt_183 : Cond.instanceMethod y_U_copiesAcross ∈ XTs := xT5_in (List.mem_of_getElem? (i := 25) rfl)
theorem xt_184 : Cond.selects R_U y_U_copiesAcross y_U_copiesAcross ∈ XTs := xT5_in (List.mem_of_getElem? (i := 26) rfl)
theorem xt_185 : Cond.code y_P_stepsOf c_P_stepsOf 5 (some .int) ∈ XTs := xT5_in (List.mem_of_getElem? (i := 27) rfl)
theorem xt_186 : Cond.methodLink R_T 119 y_P_stepsOf ∈ XTs := xT5_in (List.mem_of_getElem? (i := 28) rfl)
theorem xt_187 : Cond.instanceMethod y_P_stepsOf ∈ XTs := xT5_in (List.mem_of_getElem? (i := 29) rfl)
theorem xt_188 : Cond.selects R_P y_P_stepsOf y_P_stepsOf ∈ XTs := xT5_in (List.mem_of_getElem? (i := 30) rfl)
theorem xt_189 : Cond.methodLink R_P 91 y_P_runnableAt ∈ XTs := xT5_in (List.mem_of_getElem? (i := 31) rfl)
theorem xt_190 : Cond.methodLink R_P 94 y_P_hasTask ∈ XTs := xT5_in (List.mem_of_getElem? (i := 32) rfl)
theorem xt_191 : Cond.code y_P_standsIn c_P_standsIn 5 (some .boolean) ∈ XTs := xT5_in (List.mem_of_getElem? (i := 33) rfl)
theorem xt_192 : Cond.methodLink R_P 87 y_P_standsIn ∈ XTs := xT5_in (List.mem_of_getElem? (i := 34) rfl)
theorem xt_193 : Cond.instanceMethod y_P_standsIn ∈ XTs := xT5_in (List.mem_of_getElem? (i := 35) rfl)
theorem xt_194 : Cond.selects R_P y_P_standsIn y_P_standsIn ∈ XTs := xT5_in (List.mem_of_getElem? (i := 36) rfl)
theorem xt_195 : Cond.code y_P_tasksNotIn c_P_tasksNotIn 4 (some .int) ∈ XTs := xT5_in (List.mem_of_getElem? (i := 37) rfl)
theorem xt_196 : Cond.methodLink R_T 126 y_P_tasksNotIn ∈ XTs := xT5_in (List.mem_of_getElem? (i := 38) rfl)
theorem xt_197 : Cond.instanceMethod y_P_tasksNotIn ∈ XTs := xT5_in (List.mem_of_getElem? (i := 39) rfl)
theorem xt_198 : Cond.selects R_P y_P_tasksNotIn y_P_tasksNotIn ∈ XTs := xT6_in (List.mem_of_getElem? (i := 0) rfl)
theorem xt_199 : Cond.methodLink R_M 1 Lib.objectInit ∈ XTs := xT6_in (List.mem_of_getElem? (i := 1) rfl)
theorem xt_200 : Cond.fieldLink R_M 7 "TaskBuildModel" "period" "[I" ∈ XTs := xT6_in (List.mem_of_getElem? (i := 2) rfl)
theorem xt_201 : Cond.fieldLink R_M 13 "TaskBuildModel" "core" "[I" ∈ XTs := xT6_in (List.mem_of_getElem? (i := 3) rfl)
theorem xt_202 : Cond.fieldLink R_M 16 "TaskBuildModel" "steps" "[I" ∈ XTs := xT6_in (List.mem_of_getElem? (i := 4) rfl)
theorem xt_203 : Cond.fieldLink R_M 19 "TaskBuildModel" "before" "[I" ∈ XTs := xT6_in (List.mem_of_getElem? (i := 5) rfl)
theorem xt_204 : Cond.fieldLink R_M 22 "TaskBuildModel" "reads" "[I" ∈ XTs := xT6_in (List.mem_of_getElem? (i := 6) rfl)
theorem xt_205 : Cond.fieldLink R_M 25 "TaskBuildModel" "writes" "[I" ∈ XTs := xT6_in (List.mem_of_getElem? (i := 7) rfl)
theorem xt_206 : Cond.fieldLink R_M 28 "TaskBuildModel" "ring" "[I" ∈ XTs := xT6_in (List.mem_of_getElem? (i := 8) rfl)
theorem xt_207 : Cond.fieldLink R_M 31 "TaskBuildModel" "far" "[I" ∈ XTs := xT6_in (List.mem_of_getElem? (i := 9) rfl)
theorem xt_208 : Cond.fieldLink R_M 34 "TaskBuildModel" "tasks" "[I" ∈ XTs := xT6_in (List.mem_of_getElem? (i := 10) rfl)
theorem xt_209 : Cond.fieldLink R_M 37 "TaskBuildModel" "coreOf" "[I" ∈ XTs := xT6_in (List.mem_of_getElem? (i := 11) rfl)
theorem xt_210 : Cond.fieldLink R_M 40 "TaskBuildModel" "periodOf" "[I" ∈ XTs := xT6_in (List.mem_of_getElem? (i := 12) rfl)
theorem xt_211 : Cond.fieldLink R_M 43 "TaskBuildModel" "ends" "[I" ∈ XTs := xT6_in (List.mem_of_getElem? (i := 13) rfl)
theorem xt_212 : Cond.fieldLink R_M 46 "TaskBuildModel" "rows" "[I" ∈ XTs := xT6_in (List.mem_of_getElem? (i := 14) rfl)
theorem xt_213 : Cond.fieldLink R_M 49 "TaskBuildModel" "taskOf" "[I" ∈ XTs := xT6_in (List.mem_of_getElem? (i := 15) rfl)
theorem xt_214 : Cond.fieldLink R_M 56 "TaskBuildModel" "runnables" "I" ∈ XTs := xT6_in (List.mem_of_getElem? (i := 16) rfl)
theorem xt_215 : Cond.code y_M_isIn c_M_isIn 6 (some .boolean) ∈ XTs := xT6_in (List.mem_of_getElem? (i := 17) rfl)
theorem xt_216 : Cond.methodLink R_M 59 y_M_isIn ∈ XTs := xT6_in (List.mem_of_getElem? (i := 18) rfl)
theorem xt_217 : Cond.static y_M_isIn ∈ XTs := xT6_in (List.mem_of_getElem? (i := 19) rfl)
theorem xt_218 : Cond.initialized R_M ∈ XTs := xT6_in (List.mem_of_getElem? (i := 20) rfl)
theorem xt_219 : Cond.fieldLink R_M 52 "TaskBuildModel" "code" "I" ∈ XTs := xT6_in (List.mem_of_getElem? (i := 21) rfl)
theorem xt_220 : Cond.constantLong R_M 63 (1000 : Int64) ∈ XTs := xT6_in (List.mem_of_getElem? (i := 22) rfl)
theorem xt_221 : Cond.constantLong R_M 65 (4 : Int64) ∈ XTs := xT6_in (List.mem_of_getElem? (i := 23) rfl)
theorem xt_222 : Cond.constantLong R_M 67 (100000 : Int64) ∈ XTs := xT6_in (List.mem_of_getElem? (i := 24) rfl)
theorem xt_223 : Cond.fieldLink R_M 69 "TaskBuildModel" "built" "Z" ∈ XTs := xT6_in (List.mem_of_getElem? (i := 25) rfl)
theorem xt_224 : Cond.fieldLink R_M 73 "TaskBuildModel" "ringSize" "I" ∈ XTs := xT6_in (List.mem_of_getElem? (i := 26) rfl)
theorem xt_225 : Cond.code y_M_isRunnable c_M_isRunnable 2 (some .boolean) ∈ XTs := xT6_in (List.mem_of_getElem? (i := 27) rfl)
theorem xt_226 : Cond.methodLink R_M 76 y_M_isRunnable ∈ XTs := xT6_in (List.mem_of_getElem? (i := 28) rfl)
theorem xt_227 : Cond.instanceMethod y_M_isRunnable ∈ XTs := xT6_in (List.mem_of_getElem? (i := 29) rfl)
theorem xt_228 : Cond.selects R_M y_M_isRunnable y_M_isRunnable ∈ XTs := xT6_in (List.mem_of_getElem? (i := 30) rfl)
theorem xt_229 : Cond.code y_M_measure c_M_measure 5 none ∈ XTs := xT6_in (List.mem_of_getElem? (i := 31) rfl)
theorem xt_230 : Cond.methodLink R_M 80 y_M_measure ∈ XTs := xT6_in (List.mem_of_getElem? (i := 32) rfl)
theorem xt_231 : Cond.instanceMethod y_M_measure ∈ XTs := xT6_in (List.mem_of_getElem? (i := 33) rfl)
theorem xt_232 : Cond.selects R_M y_M_measure y_M_measure ∈ XTs := xT6_in (List.mem_of_getElem? (i := 34) rfl)
theorem xt_233 : Cond.code y_M_tellRing c_M_tellRing 4 none ∈ XTs := xT6_in (List.mem_of_getElem? (i := 35) rfl)
theorem xt_234 : Cond.methodLink R_M 84 y_M_tellRing ∈ XTs := xT6_in (List.mem_of_getElem? (i := 36) rfl)
theorem xt_235 : Cond.instanceMethod y_M_tellRing ∈ XTs := xT6_in (List.mem_of_getElem? (i := 37) rfl)
theorem xt_236 : Cond.selects R_M y_M_tellRing y_M_tellRing ∈ XTs := xT6_in (List.mem_of_getElem? (i := 38) rfl)
theorem xt_237 : Cond.constantLong R_M 87 (20 : Int64) ∈ XTs := xT6_in (List.mem_of_getElem? (i := 39) rfl)
theorem xt_238 : Cond.code y_M_behind c_M_behind 5 (some .int) ∈ XTs := xT7_in (List.mem_of_getElem? (i := 0) rfl)
theorem xt_239 : Cond.methodLink R_M 89 y_M_behind ∈ XTs := xT7_in (List.mem_of_getElem? (i := 1) rfl)
theorem xt_240 : Cond.instanceMethod y_M_behind ∈ XTs := xT7_in (List.mem_of_getElem? (i := 2) rfl)
theorem xt_241 : Cond.selects R_M y_M_behind y_M_behind ∈ XTs := xT7_in (List.mem_of_getElem? (i := 3) rfl)
theorem xt_242 : Cond.code y_M_with c_M_with 5 (some .int) ∈ XTs := xT7_in (List.mem_of_getElem? (i := 4) rfl)
theorem xt_243 : Cond.methodLink R_M 97 y_M_with ∈ XTs := xT7_in (List.mem_of_getElem? (i := 5) rfl)
theorem xt_244 : Cond.instanceMethod y_M_with ∈ XTs := xT7_in (List.mem_of_getElem? (i := 6) rfl)
theorem xt_245 : Cond.selects R_M y_M_with y_M_with ∈ XTs := xT7_in (List.mem_of_getElem? (i := 7) rfl)
theorem xt_246 : Cond.code y_M_addTask c_M_addTask 8 none ∈ XTs := xT7_in (List.mem_of_getElem? (i := 8) rfl)
theorem xt_247 : Cond.methodLink R_M 93 y_M_addTask ∈ XTs := xT7_in (List.mem_of_getElem? (i := 9) rfl)
theorem xt_248 : Cond.instanceMethod y_M_addTask ∈ XTs := xT7_in (List.mem_of_getElem? (i := 10) rfl)
theorem xt_249 : Cond.selects R_M y_M_addTask y_M_addTask ∈ XTs := xT7_in (List.mem_of_getElem? (i := 11) rfl)
theorem xt_250 : Cond.fieldLink R_M 107 "TaskBuildModel" "builds" "I" ∈ XTs := xT7_in (List.mem_of_getElem? (i := 12) rfl)
theorem xt_251 : Cond.code y_M_keep c_M_keep 3 none ∈ XTs := xT7_in (List.mem_of_getElem? (i := 13) rfl)
theorem xt_252 : Cond.methodLink R_M 110 y_M_keep ∈ XTs := xT7_in (List.mem_of_getElem? (i := 14) rfl)
theorem xt_253 : Cond.instanceMethod y_M_keep ∈ XTs := xT7_in (List.mem_of_getElem? (i := 15) rfl)
theorem xt_254 : Cond.selects R_M y_M_keep y_M_keep ∈ XTs := xT7_in (List.mem_of_getElem? (i := 16) rfl)
theorem xt_255 : Cond.code y_M_makeTasks c_M_makeTasks 4 none ∈ XTs := xT7_in (List.mem_of_getElem? (i := 17) rfl)
theorem xt_256 : Cond.methodLink R_M 104 y_M_makeTasks ∈ XTs := xT7_in (List.mem_of_getElem? (i := 18) rfl)
theorem xt_257 : Cond.instanceMethod y_M_makeTasks ∈ XTs := xT7_in (List.mem_of_getElem? (i := 19) rfl)
theorem xt_258 : Cond.selects R_M y_M_makeTasks y_M_makeTasks ∈ XTs := xT7_in (List.mem_of_getElem? (i := 20) rfl)
theorem xt_259 : Cond.code y_M_tasksOn c_M_tasksOn 6 (some .int) ∈ XTs := xT7_in (List.mem_of_getElem? (i := 21) rfl)
theorem xt_260 : Cond.methodLink R_M 101 y_M_tasksOn ∈ XTs := xT7_in (List.mem_of_getElem? (i := 22) rfl)
theorem xt_261 : Cond.instanceMethod y_M_tasksOn ∈ XTs := xT7_in (List.mem_of_getElem? (i := 23) rfl)
theorem xt_262 : Cond.selects R_M y_M_tasksOn y_M_tasksOn ∈ XTs := xT7_in (List.mem_of_getElem? (i := 24) rfl)
theorem xt_263 : Cond.code y_M_isTask c_M_isTask 2 (some .boolean) ∈ XTs := xT7_in (List.mem_of_getElem? (i := 25) rfl)
theorem xt_264 : Cond.methodLink R_M 113 y_M_isTask ∈ XTs := xT7_in (List.mem_of_getElem? (i := 26) rfl)
theorem xt_265 : Cond.instanceMethod y_M_isTask ∈ XTs := xT7_in (List.mem_of_getElem? (i := 27) rfl)
theorem xt_266 : Cond.selects R_M y_M_isTask y_M_isTask ∈ XTs := xT7_in (List.mem_of_getElem? (i := 28) rfl)
theorem xt_267 : Cond.code y_M_from c_M_from 3 (some .int) ∈ XTs := xT7_in (List.mem_of_getElem? (i := 29) rfl)
theorem xt_268 : Cond.methodLink R_M 116 y_M_from ∈ XTs := xT7_in (List.mem_of_getElem? (i := 30) rfl)
theorem xt_269 : Cond.instanceMethod y_M_from ∈ XTs := xT7_in (List.mem_of_getElem? (i := 31) rfl)
theorem xt_270 : Cond.selects R_M y_M_from y_M_from ∈ XTs := xT7_in (List.mem_of_getElem? (i := 32) rfl)
theorem xt_271 : Cond.code y_M_rankOf c_M_rankOf 4 (some .int) ∈ XTs := xT7_in (List.mem_of_getElem? (i := 33) rfl)
theorem xt_272 : Cond.methodLink R_M 119 y_M_rankOf ∈ XTs := xT7_in (List.mem_of_getElem? (i := 34) rfl)
theorem xt_273 : Cond.instanceMethod y_M_rankOf ∈ XTs := xT7_in (List.mem_of_getElem? (i := 35) rfl)
theorem xt_274 : Cond.selects R_M y_M_rankOf y_M_rankOf ∈ XTs := xT7_in (List.mem_of_getElem? (i := 36) rfl)
theorem xt_275 : Cond.code y_M_isCopied c_M_isCopied 6 (some .boolean) ∈ XTs := xT7_in (List.mem_of_getElem? (i := 37) rfl)
theorem xt_276 : Cond.methodLink R_M 122 y_M_isCopied ∈ XTs := xT7_in (List.mem_of_getElem? (i := 38) rfl)
theorem xt_277 : Cond.instanceMethod y_M_isCopied ∈ XTs := xT7_in (List.mem_of_getElem? (i := 39) rfl)
theorem xt_278 : Cond.selects R_M y_M_isCopied y_M_isCopied ∈ XTs := xT8_in (List.mem_of_getElem? (i := 0) rfl)
theorem xt_279 : Cond.code y_M_isSame c_M_isSame 9 (some .boolean) ∈ XTs := xT8_in (List.mem_of_getElem? (i := 1) rfl)
theorem xt_280 : Cond.methodLink R_M 125 y_M_isSame ∈ XTs := xT8_in (List.mem_of_getElem? (i := 2) rfl)
theorem xt_281 : Cond.instanceMethod y_M_isSame ∈ XTs := xT8_in (List.mem_of_getElem? (i := 3) rfl)
theorem xt_282 : Cond.selects R_M y_M_isSame y_M_isSame ∈ XTs := xT8_in (List.mem_of_getElem? (i := 4) rfl)
theorem xt_283 : Cond.classLink R_L 7 R_T ∈ XTs := xT8_in (List.mem_of_getElem? (i := 5) rfl)
theorem xt_284 : Cond.instantiable R_T 6 ∈ XTs := xT8_in (List.mem_of_getElem? (i := 6) rfl)
theorem xt_285 : Cond.methodLink R_L 9 y_T_init ∈ XTs := xT8_in (List.mem_of_getElem? (i := 7) rfl)
theorem xt_286 : Cond.instanceMethod y_T_init ∈ XTs := xT8_in (List.mem_of_getElem? (i := 8) rfl)
theorem xt_287 : Cond.code y_T_init c_T_init 1 none ∈ XTs := xT8_in (List.mem_of_getElem? (i := 9) rfl)
theorem xt_288 : Cond.classLink R_L 10 R_M ∈ XTs := xT8_in (List.mem_of_getElem? (i := 10) rfl)
theorem xt_289 : Cond.instantiable R_M 19 ∈ XTs := xT8_in (List.mem_of_getElem? (i := 11) rfl)
theorem xt_290 : Cond.methodLink R_L 12 y_M_init ∈ XTs := xT8_in (List.mem_of_getElem? (i := 12) rfl)
theorem xt_291 : Cond.instanceMethod y_M_init ∈ XTs := xT8_in (List.mem_of_getElem? (i := 13) rfl)
theorem xt_292 : Cond.code y_M_init c_M_init 1 none ∈ XTs := xT8_in (List.mem_of_getElem? (i := 14) rfl)
theorem xt_293 : Cond.methodLink R_L 13 y_T_runnable ∈ XTs := xT8_in (List.mem_of_getElem? (i := 15) rfl)
theorem xt_294 : Cond.instanceMethod y_T_runnable ∈ XTs := xT8_in (List.mem_of_getElem? (i := 16) rfl)
theorem xt_295 : Cond.code y_T_runnable c_T_runnable 4 (some .int) ∈ XTs := xT8_in (List.mem_of_getElem? (i := 17) rfl)
theorem xt_296 : Cond.selects R_T y_T_runnable y_T_runnable ∈ XTs := xT8_in (List.mem_of_getElem? (i := 18) rfl)
theorem xt_297 : Cond.methodLink R_L 17 y_M_runnable ∈ XTs := xT8_in (List.mem_of_getElem? (i := 19) rfl)
theorem xt_298 : Cond.instanceMethod y_M_runnable ∈ XTs := xT8_in (List.mem_of_getElem? (i := 20) rfl)
theorem xt_299 : Cond.code y_M_runnable c_M_runnable 4 (some .int) ∈ XTs := xT8_in (List.mem_of_getElem? (i := 21) rfl)
theorem xt_300 : Cond.selects R_M y_M_runnable y_M_runnable ∈ XTs := xT8_in (List.mem_of_getElem? (i := 22) rfl)
theorem xt_301 : Cond.methodLink R_L 18 y_T_needs ∈ XTs := xT8_in (List.mem_of_getElem? (i := 23) rfl)
theorem xt_302 : Cond.instanceMethod y_T_needs ∈ XTs := xT8_in (List.mem_of_getElem? (i := 24) rfl)
theorem xt_303 : Cond.code y_T_needs c_T_needs 4 (some .int) ∈ XTs := xT8_in (List.mem_of_getElem? (i := 25) rfl)
theorem xt_304 : Cond.selects R_T y_T_needs y_T_needs ∈ XTs := xT8_in (List.mem_of_getElem? (i := 26) rfl)
theorem xt_305 : Cond.methodLink R_L 22 y_M_needs ∈ XTs := xT8_in (List.mem_of_getElem? (i := 27) rfl)
theorem xt_306 : Cond.instanceMethod y_M_needs ∈ XTs := xT8_in (List.mem_of_getElem? (i := 28) rfl)
theorem xt_307 : Cond.code y_M_needs c_M_needs 4 (some .int) ∈ XTs := xT8_in (List.mem_of_getElem? (i := 29) rfl)
theorem xt_308 : Cond.selects R_M y_M_needs y_M_needs ∈ XTs := xT8_in (List.mem_of_getElem? (i := 30) rfl)
theorem xt_309 : Cond.methodLink R_L 23 y_T_area ∈ XTs := xT8_in (List.mem_of_getElem? (i := 31) rfl)
theorem xt_310 : Cond.instanceMethod y_T_area ∈ XTs := xT8_in (List.mem_of_getElem? (i := 32) rfl)
theorem xt_311 : Cond.code y_T_area c_T_area 5 (some .int) ∈ XTs := xT8_in (List.mem_of_getElem? (i := 33) rfl)
theorem xt_312 : Cond.selects R_T y_T_area y_T_area ∈ XTs := xT8_in (List.mem_of_getElem? (i := 34) rfl)
theorem xt_313 : Cond.methodLink R_L 27 y_M_area ∈ XTs := xT8_in (List.mem_of_getElem? (i := 35) rfl)
theorem xt_314 : Cond.instanceMethod y_M_area ∈ XTs := xT8_in (List.mem_of_getElem? (i := 36) rfl)
theorem xt_315 : Cond.code y_M_area c_M_area 7 (some .int) ∈ XTs := xT8_in (List.mem_of_getElem? (i := 37) rfl)
theorem xt_316 : Cond.selects R_M y_M_area y_M_area ∈ XTs := xT8_in (List.mem_of_getElem? (i := 38) rfl)
theorem xt_317 : Cond.methodLink R_L 28 y_T_build ∈ XTs := xT8_in (List.mem_of_getElem? (i := 39) rfl)
theorem xt_318 : Cond.instanceMethod y_T_build ∈ XTs := xT9_in (List.mem_of_getElem? (i := 0) rfl)
theorem xt_319 : Cond.code y_T_build c_T_build 2 (some .int) ∈ XTs := xT9_in (List.mem_of_getElem? (i := 1) rfl)
theorem xt_320 : Cond.selects R_T y_T_build y_T_build ∈ XTs := xT9_in (List.mem_of_getElem? (i := 2) rfl)
theorem xt_321 : Cond.methodLink R_L 32 y_M_build ∈ XTs := xT9_in (List.mem_of_getElem? (i := 3) rfl)
theorem xt_322 : Cond.instanceMethod y_M_build ∈ XTs := xT9_in (List.mem_of_getElem? (i := 4) rfl)
theorem xt_323 : Cond.code y_M_build c_M_build 2 (some .int) ∈ XTs := xT9_in (List.mem_of_getElem? (i := 5) rfl)
theorem xt_324 : Cond.selects R_M y_M_build y_M_build ∈ XTs := xT9_in (List.mem_of_getElem? (i := 6) rfl)
theorem xt_325 : Cond.methodLink R_L 33 y_T_task ∈ XTs := xT9_in (List.mem_of_getElem? (i := 7) rfl)
theorem xt_326 : Cond.instanceMethod y_T_task ∈ XTs := xT9_in (List.mem_of_getElem? (i := 8) rfl)
theorem xt_327 : Cond.code y_T_task c_T_task 2 (some .int) ∈ XTs := xT9_in (List.mem_of_getElem? (i := 9) rfl)
theorem xt_328 : Cond.selects R_T y_T_task y_T_task ∈ XTs := xT9_in (List.mem_of_getElem? (i := 10) rfl)
theorem xt_329 : Cond.methodLink R_L 37 y_M_task ∈ XTs := xT9_in (List.mem_of_getElem? (i := 11) rfl)
theorem xt_330 : Cond.instanceMethod y_M_task ∈ XTs := xT9_in (List.mem_of_getElem? (i := 12) rfl)
theorem xt_331 : Cond.code y_M_task c_M_task 2 (some .int) ∈ XTs := xT9_in (List.mem_of_getElem? (i := 13) rfl)
theorem xt_332 : Cond.selects R_M y_M_task y_M_task ∈ XTs := xT9_in (List.mem_of_getElem? (i := 14) rfl)
theorem xt_333 : Cond.methodLink R_L 38 y_T_order ∈ XTs := xT9_in (List.mem_of_getElem? (i := 15) rfl)
theorem xt_334 : Cond.instanceMethod y_T_order ∈ XTs := xT9_in (List.mem_of_getElem? (i := 16) rfl)
theorem xt_335 : Cond.code y_T_order c_T_order 3 (some .int) ∈ XTs := xT9_in (List.mem_of_getElem? (i := 17) rfl)
theorem xt_336 : Cond.selects R_T y_T_order y_T_order ∈ XTs := xT9_in (List.mem_of_getElem? (i := 18) rfl)
theorem xt_337 : Cond.methodLink R_L 41 y_M_order ∈ XTs := xT9_in (List.mem_of_getElem? (i := 19) rfl)
theorem xt_338 : Cond.instanceMethod y_M_order ∈ XTs := xT9_in (List.mem_of_getElem? (i := 20) rfl)
theorem xt_339 : Cond.code y_M_order c_M_order 4 (some .int) ∈ XTs := xT9_in (List.mem_of_getElem? (i := 21) rfl)
theorem xt_340 : Cond.selects R_M y_M_order y_M_order ∈ XTs := xT9_in (List.mem_of_getElem? (i := 22) rfl)
theorem xt_341 : Cond.methodLink R_L 42 y_T_rank ∈ XTs := xT9_in (List.mem_of_getElem? (i := 23) rfl)
theorem xt_342 : Cond.instanceMethod y_T_rank ∈ XTs := xT9_in (List.mem_of_getElem? (i := 24) rfl)
theorem xt_343 : Cond.code y_T_rank c_T_rank 2 (some .int) ∈ XTs := xT9_in (List.mem_of_getElem? (i := 25) rfl)
theorem xt_344 : Cond.selects R_T y_T_rank y_T_rank ∈ XTs := xT9_in (List.mem_of_getElem? (i := 26) rfl)
theorem xt_345 : Cond.methodLink R_L 45 y_M_rank ∈ XTs := xT9_in (List.mem_of_getElem? (i := 27) rfl)
theorem xt_346 : Cond.instanceMethod y_M_rank ∈ XTs := xT9_in (List.mem_of_getElem? (i := 28) rfl)
theorem xt_347 : Cond.code y_M_rank c_M_rank 2 (some .int) ∈ XTs := xT9_in (List.mem_of_getElem? (i := 29) rfl)
theorem xt_348 : Cond.selects R_M y_M_rank y_M_rank ∈ XTs := xT9_in (List.mem_of_getElem? (i := 30) rfl)
theorem xt_349 : Cond.methodLink R_L 46 y_T_buffer ∈ XTs := xT9_in (List.mem_of_getElem? (i := 31) rfl)
theorem xt_350 : Cond.instanceMethod y_T_buffer ∈ XTs := xT9_in (List.mem_of_getElem? (i := 32) rfl)
theorem xt_351 : Cond.code y_T_buffer c_T_buffer 2 (some .int) ∈ XTs := xT9_in (List.mem_of_getElem? (i := 33) rfl)
theorem xt_352 : Cond.selects R_T y_T_buffer y_T_buffer ∈ XTs := xT9_in (List.mem_of_getElem? (i := 34) rfl)
theorem xt_353 : Cond.methodLink R_L 49 y_M_buffer ∈ XTs := xT9_in (List.mem_of_getElem? (i := 35) rfl)
theorem xt_354 : Cond.instanceMethod y_M_buffer ∈ XTs := xT9_in (List.mem_of_getElem? (i := 36) rfl)
theorem xt_355 : Cond.code y_M_buffer c_M_buffer 2 (some .int) ∈ XTs := xT9_in (List.mem_of_getElem? (i := 37) rfl)
theorem xt_356 : Cond.selects R_M y_M_buffer y_M_buffer ∈ XTs := xT9_in (List.mem_of_getElem? (i := 38) rfl)
theorem xt_357 : Cond.methodLink R_L 50 y_T_table ∈ XTs := xT9_in (List.mem_of_getElem? (i := 39) rfl)
theorem xt_358 : Cond.instanceMethod y_T_table ∈ XTs := xT10_in (List.mem_of_getElem? (i := 0) rfl)
theorem xt_359 : Cond.code y_T_table c_T_table 3 (some .int) ∈ XTs := xT10_in (List.mem_of_getElem? (i := 1) rfl)
theorem xt_360 : Cond.selects R_T y_T_table y_T_table ∈ XTs := xT10_in (List.mem_of_getElem? (i := 2) rfl)
theorem xt_361 : Cond.methodLink R_L 53 y_M_table ∈ XTs := xT10_in (List.mem_of_getElem? (i := 3) rfl)
theorem xt_362 : Cond.instanceMethod y_M_table ∈ XTs := xT10_in (List.mem_of_getElem? (i := 4) rfl)
theorem xt_363 : Cond.code y_M_table c_M_table 5 (some .int) ∈ XTs := xT10_in (List.mem_of_getElem? (i := 5) rfl)
theorem xt_364 : Cond.selects R_M y_M_table y_M_table ∈ XTs := xT10_in (List.mem_of_getElem? (i := 6) rfl)
theorem xt_365 : Cond.methodLink R_L 54 y_T_ring ∈ XTs := xT10_in (List.mem_of_getElem? (i := 7) rfl)
theorem xt_366 : Cond.instanceMethod y_T_ring ∈ XTs := xT10_in (List.mem_of_getElem? (i := 8) rfl)
theorem xt_367 : Cond.code y_T_ring c_T_ring 2 (some .int) ∈ XTs := xT10_in (List.mem_of_getElem? (i := 9) rfl)
theorem xt_368 : Cond.selects R_T y_T_ring y_T_ring ∈ XTs := xT10_in (List.mem_of_getElem? (i := 10) rfl)
theorem xt_369 : Cond.methodLink R_L 57 y_M_ring ∈ XTs := xT10_in (List.mem_of_getElem? (i := 11) rfl)
theorem xt_370 : Cond.instanceMethod y_M_ring ∈ XTs := xT10_in (List.mem_of_getElem? (i := 12) rfl)
theorem xt_371 : Cond.code y_M_ring c_M_ring 2 (some .int) ∈ XTs := xT10_in (List.mem_of_getElem? (i := 13) rfl)
theorem xt_372 : Cond.selects R_M y_M_ring y_M_ring ∈ XTs := xT10_in (List.mem_of_getElem? (i := 14) rfl)
theorem xt_373 : Cond.methodLink R_L 58 y_T_cross ∈ XTs := xT10_in (List.mem_of_getElem? (i := 15) rfl)
theorem xt_374 : Cond.instanceMethod y_T_cross ∈ XTs := xT10_in (List.mem_of_getElem? (i := 16) rfl)
theorem xt_375 : Cond.code y_T_cross c_T_cross 2 (some .int) ∈ XTs := xT10_in (List.mem_of_getElem? (i := 17) rfl)
theorem xt_376 : Cond.selects R_T y_T_cross y_T_cross ∈ XTs := xT10_in (List.mem_of_getElem? (i := 18) rfl)
theorem xt_377 : Cond.methodLink R_L 61 y_M_cross ∈ XTs := xT10_in (List.mem_of_getElem? (i := 19) rfl)
theorem xt_378 : Cond.instanceMethod y_M_cross ∈ XTs := xT10_in (List.mem_of_getElem? (i := 20) rfl)
theorem xt_379 : Cond.code y_M_cross c_M_cross 7 (some .int) ∈ XTs := xT10_in (List.mem_of_getElem? (i := 21) rfl)
theorem xt_380 : Cond.selects R_M y_M_cross y_M_cross ∈ XTs := xT10_in (List.mem_of_getElem? (i := 22) rfl)
theorem xt_381 : Cond.constantLong R_L 62 (4294967295 : Int64) ∈ XTs := xT10_in (List.mem_of_getElem? (i := 23) rfl)
theorem xt_382 : Cond.methodLink R_L 64 y_T_budget ∈ XTs := xT10_in (List.mem_of_getElem? (i := 24) rfl)
theorem xt_383 : Cond.instanceMethod y_T_budget ∈ XTs := xT10_in (List.mem_of_getElem? (i := 25) rfl)
theorem xt_384 : Cond.code y_T_budget c_T_budget 4 (some .int) ∈ XTs := xT10_in (List.mem_of_getElem? (i := 26) rfl)
theorem xt_385 : Cond.selects R_T y_T_budget y_T_budget ∈ XTs := xT10_in (List.mem_of_getElem? (i := 27) rfl)
theorem xt_386 : Cond.methodLink R_L 68 y_M_budget ∈ XTs := xT10_in (List.mem_of_getElem? (i := 28) rfl)
theorem xt_387 : Cond.instanceMethod y_M_budget ∈ XTs := xT10_in (List.mem_of_getElem? (i := 29) rfl)
theorem xt_388 : Cond.code y_M_budget c_M_budget 7 (some .int) ∈ XTs := xT10_in (List.mem_of_getElem? (i := 30) rfl)
theorem xt_389 : Cond.selects R_M y_M_budget y_M_budget ∈ XTs := xT10_in (List.mem_of_getElem? (i := 31) rfl)
theorem xt_390 : Cond.methodLink R_L 69 y_T_differ ∈ XTs := xT10_in (List.mem_of_getElem? (i := 32) rfl)
theorem xt_391 : Cond.instanceMethod y_T_differ ∈ XTs := xT10_in (List.mem_of_getElem? (i := 33) rfl)
theorem xt_392 : Cond.code y_T_differ c_T_differ 3 (some .int) ∈ XTs := xT10_in (List.mem_of_getElem? (i := 34) rfl)
theorem xt_393 : Cond.selects R_T y_T_differ y_T_differ ∈ XTs := xT10_in (List.mem_of_getElem? (i := 35) rfl)
theorem xt_394 : Cond.methodLink R_L 72 y_M_differ ∈ XTs := xT10_in (List.mem_of_getElem? (i := 36) rfl)
theorem xt_395 : Cond.instanceMethod y_M_differ ∈ XTs := xT10_in (List.mem_of_getElem? (i := 37) rfl)
theorem xt_396 : Cond.code y_M_differ c_M_differ 6 (some .int) ∈ XTs := xT10_in (List.mem_of_getElem? (i := 38) rfl)
theorem xt_397 : Cond.selects R_M y_M_differ y_M_differ ∈ XTs := xT10_in (List.mem_of_getElem? (i := 39) rfl)
theorem iws_T : ∀ w ∈ u_ws R_T T_T 6, w ∈ XTs := by
  intro w hw
  obtain ⟨k, hk, e⟩ := List.mem_map.mp hw
  have hk := List.mem_range.mp hk
  subst e
  match k, hk with
  | 0, _ => exact xT0_in (List.mem_of_getElem? (i := 0) rfl)
  | 1, _ => exact xT0_in (List.mem_of_getElem? (i := 1) rfl)
  | 2, _ => exact xT0_in (List.mem_of_getElem? (i := 2) rfl)
  | 3, _ => exact xT0_in (List.mem_of_getElem? (i := 3) rfl)
  | 4, _ => exact xT0_in (List.mem_of_getElem? (i := 4) rfl)
  | 5, _ => exact xT0_in (List.mem_of_getElem? (i := 5) rfl)
  | k + 6, hk => omega
theorem iws_U : ∀ w ∈ u_ws R_U T_U 6, w ∈ XTs := by
  intro w hw
  obtain ⟨k, hk, e⟩ := List.mem_map.mp hw
  have hk := List.mem_range.mp hk
  subst e
  match k, hk with
  | 0, _ => exact xT0_in (List.mem_of_getElem? (i := 6) rfl)
  | 1, _ => exact xT0_in (List.mem_of_getElem? (i := 7) rfl)
  | 2, _ => exact xT0_in (List.mem_of_getElem? (i := 8) rfl)
  | 3, _ => exact xT0_in (List.mem_of_getElem? (i := 9) rfl)
  | 4, _ => exact xT0_in (List.mem_of_getElem? (i := 10) rfl)
  | 5, _ => exact xT0_in (List.mem_of_getElem? (i := 11) rfl)
  | k + 6, hk => omega
theorem iws_G : ∀ w ∈ u_ws R_G T_G 5, w ∈ XTs := by
  intro w hw
  obtain ⟨k, hk, e⟩ := List.mem_map.mp hw
  have hk := List.mem_range.mp hk
  subst e
  match k, hk with
  | 0, _ => exact xT0_in (List.mem_of_getElem? (i := 12) rfl)
  | 1, _ => exact xT0_in (List.mem_of_getElem? (i := 13) rfl)
  | 2, _ => exact xT0_in (List.mem_of_getElem? (i := 14) rfl)
  | 3, _ => exact xT0_in (List.mem_of_getElem? (i := 15) rfl)
  | 4, _ => exact xT0_in (List.mem_of_getElem? (i := 16) rfl)
  | k + 5, hk => omega
theorem iws_P : ∀ w ∈ u_ws R_P T_P 6, w ∈ XTs := by
  intro w hw
  obtain ⟨k, hk, e⟩ := List.mem_map.mp hw
  have hk := List.mem_range.mp hk
  subst e
  match k, hk with
  | 0, _ => exact xT0_in (List.mem_of_getElem? (i := 17) rfl)
  | 1, _ => exact xT0_in (List.mem_of_getElem? (i := 18) rfl)
  | 2, _ => exact xT0_in (List.mem_of_getElem? (i := 19) rfl)
  | 3, _ => exact xT0_in (List.mem_of_getElem? (i := 20) rfl)
  | 4, _ => exact xT0_in (List.mem_of_getElem? (i := 21) rfl)
  | 5, _ => exact xT0_in (List.mem_of_getElem? (i := 22) rfl)
  | k + 6, hk => omega
theorem iws_M : ∀ w ∈ u_ws R_M T_M 19, w ∈ XTs := by
  intro w hw
  obtain ⟨k, hk, e⟩ := List.mem_map.mp hw
  have hk := List.mem_range.mp hk
  subst e
  match k, hk with
  | 0, _ => exact xT0_in (List.mem_of_getElem? (i := 23) rfl)
  | 1, _ => exact xT0_in (List.mem_of_getElem? (i := 24) rfl)
  | 2, _ => exact xT0_in (List.mem_of_getElem? (i := 25) rfl)
  | 3, _ => exact xT0_in (List.mem_of_getElem? (i := 26) rfl)
  | 4, _ => exact xT0_in (List.mem_of_getElem? (i := 27) rfl)
  | 5, _ => exact xT0_in (List.mem_of_getElem? (i := 28) rfl)
  | 6, _ => exact xT0_in (List.mem_of_getElem? (i := 29) rfl)
  | 7, _ => exact xT0_in (List.mem_of_getElem? (i := 30) rfl)
  | 8, _ => exact xT0_in (List.mem_of_getElem? (i := 31) rfl)
  | 9, _ => exact xT0_in (List.mem_of_getElem? (i := 32) rfl)
  | 10, _ => exact xT0_in (List.mem_of_getElem? (i := 33) rfl)
  | 11, _ => exact xT0_in (List.mem_of_getElem? (i := 34) rfl)
  | 12, _ => exact xT0_in (List.mem_of_getElem? (i := 35) rfl)
  | 13, _ => exact xT0_in (List.mem_of_getElem? (i := 36) rfl)
  | 14, _ => exact xT0_in (List.mem_of_getElem? (i := 37) rfl)
  | 15, _ => exact xT0_in (List.mem_of_getElem? (i := 38) rfl)
  | 16, _ => exact xT0_in (List.mem_of_getElem? (i := 39) rfl)
  | 17, _ => exact xT1_in (List.mem_of_getElem? (i := 0) rfl)
  | 18, _ => exact xT1_in (List.mem_of_getElem? (i := 1) rfl)
  | k + 19, hk => omega
def XNW : List Cond := [Cond.methodLinkNest R_U 31 y_T_isWithin R_T, Cond.methodLinkNest R_G 24 y_T_isIn R_T, Cond.methodLinkNest R_P 44 y_T_isIn R_T, Cond.fieldLinkNest R_T 88 "TaskBuild$Plan" "taskCount" "I" R_T, Cond.fieldLinkNest R_T 92 "TaskBuild$Plan" "taskOf" "[I" R_T, Cond.methodLinkNest R_P 61 y_T_isWithin R_T, Cond.fieldLinkNest R_T 103 "TaskBuild$Plan" "rankOf" "[I" R_T, Cond.fieldLinkNest R_P 71 "TaskBuild$Runnables" "count" "I" R_T, Cond.fieldLinkNest R_P 81 "TaskBuild$Runnables" "writes" "[I" R_T, Cond.fieldLinkNest R_P 84 "TaskBuild$Runnables" "core" "[I" R_T, Cond.fieldLinkNest R_P 74 "TaskBuild$Runnables" "reads" "[I" R_T, Cond.methodLinkNest R_U 45 y_T_isIn R_T, Cond.fieldLinkNest R_P 68 "TaskBuild$Runnables" "steps" "[I" R_T]
theorem xn_0 : Cond.methodLinkNest R_U 31 y_T_isWithin R_T ∈ XNW := List.mem_of_getElem? (i := 0) rfl
theorem xn_1 : Cond.methodLinkNest R_G 24 y_T_isIn R_T ∈ XNW := List.mem_of_getElem? (i := 1) rfl
theorem xn_2 : Cond.methodLinkNest R_P 44 y_T_isIn R_T ∈ XNW := List.mem_of_getElem? (i := 2) rfl
theorem xn_3 : Cond.fieldLinkNest R_T 88 "TaskBuild$Plan" "taskCount" "I" R_T ∈ XNW := List.mem_of_getElem? (i := 3) rfl
theorem xn_4 : Cond.fieldLinkNest R_T 92 "TaskBuild$Plan" "taskOf" "[I" R_T ∈ XNW := List.mem_of_getElem? (i := 4) rfl
theorem xn_5 : Cond.methodLinkNest R_P 61 y_T_isWithin R_T ∈ XNW := List.mem_of_getElem? (i := 5) rfl
theorem xn_6 : Cond.fieldLinkNest R_T 103 "TaskBuild$Plan" "rankOf" "[I" R_T ∈ XNW := List.mem_of_getElem? (i := 6) rfl
theorem xn_7 : Cond.fieldLinkNest R_P 71 "TaskBuild$Runnables" "count" "I" R_T ∈ XNW := List.mem_of_getElem? (i := 7) rfl
theorem xn_8 : Cond.fieldLinkNest R_P 81 "TaskBuild$Runnables" "writes" "[I" R_T ∈ XNW := List.mem_of_getElem? (i := 8) rfl
theorem xn_9 : Cond.fieldLinkNest R_P 84 "TaskBuild$Runnables" "core" "[I" R_T ∈ XNW := List.mem_of_getElem? (i := 9) rfl
theorem xn_10 : Cond.fieldLinkNest R_P 74 "TaskBuild$Runnables" "reads" "[I" R_T ∈ XNW := List.mem_of_getElem? (i := 10) rfl
theorem xn_11 : Cond.methodLinkNest R_U 45 y_T_isIn R_T ∈ XNW := List.mem_of_getElem? (i := 11) rfl
theorem xn_12 : Cond.fieldLinkNest R_P 68 "TaskBuild$Runnables" "steps" "[I" R_T ∈ XNW := List.mem_of_getElem? (i := 12) rfl
theorem xNW_tbl0 : XNW = [165, 170, 246, 101, 103, 275, 106, 47, 56, 50, 54, 324, 52].filterMap (fun i => lw_tbl[i]?) := by rfl
theorem xNW_good : xGood XNW := by
  intro w hw
  simp only [XNW, List.mem_cons, List.not_mem_nil, or_false] at hw
  rcases hw with rfl | rfl | rfl | rfl | rfl | rfl | rfl | rfl | rfl | rfl | rfl | rfl | rfl <;> first | exact Or.inl ⟨_, _, _, _, _, _, rfl⟩ | exact Or.inr ⟨_, _, _, _, rfl⟩
def XAL : List String := ["TaskBuild$Plan"]
abbrev XCL : List vw_C := [(R_T, T_T, 6), (R_U, T_U, 6), (R_G, T_G, 5), (R_P, T_P, 6), (R_M, T_M, 19)]
theorem xl0_T : xl 0 [.null, .null, .null, .int 0, .null, .null] := by
  intro v hv
  simp only [List.mem_cons, List.not_mem_nil, or_false] at hv
  rcases hv with rfl | rfl | rfl | rfl | rfl | rfl <;> trivial
theorem xl0_U : xl 0 [.int 0, .null, .null, .null, .null, .null] := by
  intro v hv
  simp only [List.mem_cons, List.not_mem_nil, or_false] at hv
  rcases hv with rfl | rfl | rfl | rfl | rfl | rfl <;> trivial
theorem xl0_G : xl 0 [.null, .null, .null, .null, .int 0] := by
  intro v hv
  simp only [List.mem_cons, List.not_mem_nil, or_false] at hv
  rcases hv with rfl | rfl | rfl | rfl | rfl <;> trivial
theorem xl0_P : xl 0 [.int 0, .null, .null, .null, .null, .null] := by
  intro v hv
  simp only [List.mem_cons, List.not_mem_nil, or_false] at hv
  rcases hv with rfl | rfl | rfl | rfl | rfl | rfl <;> trivial
theorem xl0_M : xl 0 [.int 0, .int 0, .null, .null, .null, .null, .null, .null, .int 0, .null, .null, .int 0, .int 0, .null, .null, .null, .null, .null, .null] := by
  intro v hv
  simp only [List.mem_cons, List.not_mem_nil, or_false] at hv
  rcases hv with rfl | rfl | rfl | rfl | rfl | rfl | rfl | rfl | rfl | rfl | rfl | rfl | rfl | rfl | rfl | rfl | rfl | rfl | rfl <;> trivial
end
