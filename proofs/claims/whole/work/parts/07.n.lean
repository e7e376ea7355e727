def kT_J : u_T := fun k => match k with
  | 0 => ("JobRuntime", "programs", "[LJobRuntime$Program;", true)
  | 1 => ("JobRuntime", "jobs", "[LJobRuntime$Job;", true)
  | 2 => ("JobRuntime", "ready", "LJobRuntime$ReadyRow;", true)
  | 3 => ("JobRuntime", "notes", "[I", true)
  | 4 => ("JobRuntime", "begunJobs", "I", false)
  | 5 => ("JobRuntime", "finishedJobs", "I", false)
  | 6 => ("JobRuntime", "intsNoted", "I", false)
  | 7 => ("JobRuntime", "clock", "I", false)
  | 8 => ("JobRuntime", "resumings", "I", false)
  | 9 => ("JobRuntime", "actionsDone", "I", false)
  | _ => ("JobRuntime", "timersBegun", "I", false)
def kt_J : Nat → FieldType := fun k => match k with
  | 0 => .array (.object "JobRuntime$Program")
  | 1 => .array (.object "JobRuntime$Job")
  | 2 => .object "JobRuntime$ReadyRow"
  | 3 => .array .int
  | 4 => .int
  | 5 => .int
  | 6 => .int
  | 7 => .int
  | 8 => .int
  | 9 => .int
  | _ => .int
def kT_P : u_T := fun k => match k with
  | 0 => ("JobRuntime$Program", "kinds", "[I", true)
  | 1 => ("JobRuntime$Program", "as", "[I", true)
  | 2 => ("JobRuntime$Program", "bs", "[I", true)
  | _ => ("JobRuntime$Program", "length", "I", false)
def kt_P : Nat → FieldType := fun k => match k with
  | 0 => .array .int
  | 1 => .array .int
  | 2 => .array .int
  | _ => .int
def kT_Q : u_T := fun k => match k with
  | 0 => ("JobRuntime$ReadyRow", "row", "[LJobRuntime$Job;", true)
  | 1 => ("JobRuntime$ReadyRow", "first", "I", false)
  | _ => ("JobRuntime$ReadyRow", "size", "I", false)
def kt_Q : Nat → FieldType := fun k => match k with
  | 0 => .array (.object "JobRuntime$Job")
  | 1 => .int
  | _ => .int
def kT_B : u_T := fun k => match k with
  | 0 => ("JobRuntime$Job", "number", "I", true)
  | 1 => ("JobRuntime$Job", "parent", "LJobRuntime$Job;", true)
  | 2 => ("JobRuntime$Job", "sort", "I", true)
  | 3 => ("JobRuntime$Job", "slots", "[LJobRuntime$Job;", true)
  | 4 => ("JobRuntime$Job", "frames", "[LJobRuntime$Frame;", true)
  | 5 => ("JobRuntime$Job", "delay", "LJobRuntime$Timer;", true)
  | 6 => ("JobRuntime$Job", "limit", "LJobRuntime$Timer;", true)
  | 7 => ("JobRuntime$Job", "depth", "I", false)
  | 8 => ("JobRuntime$Job", "sum", "I", false)
  | 9 => ("JobRuntime$Job", "cause", "I", false)
  | 10 => ("JobRuntime$Job", "suppressed", "I", false)
  | 11 => ("JobRuntime$Job", "openChildren", "I", false)
  | 12 => ("JobRuntime$Job", "finished", "Z", false)
  | 13 => ("JobRuntime$Job", "waitsIn", "I", false)
  | 14 => ("JobRuntime$Job", "awaited", "LJobRuntime$Job;", false)
  | _ => ("JobRuntime$Job", "resumedWith", "I", false)
def kt_B : Nat → FieldType := fun k => match k with
  | 0 => .int
  | 1 => .object "JobRuntime$Job"
  | 2 => .int
  | 3 => .array (.object "JobRuntime$Job")
  | 4 => .array (.object "JobRuntime$Frame")
  | 5 => .object "JobRuntime$Timer"
  | 6 => .object "JobRuntime$Timer"
  | 7 => .int
  | 8 => .int
  | 9 => .int
  | 10 => .int
  | 11 => .int
  | 12 => .boolean
  | 13 => .int
  | 14 => .object "JobRuntime$Job"
  | _ => .int
def kT_F : u_T := fun k => match k with
  | 0 => ("JobRuntime$Frame", "sort", "I", false)
  | 1 => ("JobRuntime$Frame", "program", "LJobRuntime$Program;", false)
  | 2 => ("JobRuntime$Frame", "position", "I", false)
  | 3 => ("JobRuntime$Frame", "second", "LJobRuntime$Program;", false)
  | _ => ("JobRuntime$Frame", "kept", "I", false)
def kt_F : Nat → FieldType := fun k => match k with
  | 0 => .int
  | 1 => .object "JobRuntime$Program"
  | 2 => .int
  | 3 => .object "JobRuntime$Program"
  | _ => .int
def kT_T : u_T := fun k => match k with
  | 0 => ("JobRuntime$Timer", "due", "I", false)
  | _ => ("JobRuntime$Timer", "turn", "I", false)
def kt_T : Nat → FieldType := fun k => match k with
  | 0 => .int
  | _ => .int
def kT_R : u_T := fun k => match k with
  | 0 => ("JobRuntimeModel", "code", "I", false)
  | 1 => ("JobRuntimeModel", "jobs", "I", false)
  | 2 => ("JobRuntimeModel", "clock", "I", false)
  | 3 => ("JobRuntimeModel", "notes", "I", false)
  | 4 => ("JobRuntimeModel", "resumings", "I", false)
  | 5 => ("JobRuntimeModel", "acts", "I", false)
  | 6 => ("JobRuntimeModel", "began", "I", false)
  | 7 => ("JobRuntimeModel", "ready", "I", false)
  | 8 => ("JobRuntimeModel", "thrown", "I", false)
  | 9 => ("JobRuntimeModel", "done", "I", false)
  | 10 => ("JobRuntimeModel", "stopped", "Z", false)
  | 11 => ("JobRuntimeModel", "size", "[I", true)
  | 12 => ("JobRuntimeModel", "action", "[I", true)
  | 13 => ("JobRuntimeModel", "actA", "[I", true)
  | 14 => ("JobRuntimeModel", "actB", "[I", true)
  | 15 => ("JobRuntimeModel", "note", "[I", true)
  | 16 => ("JobRuntimeModel", "parent", "[I", true)
  | 17 => ("JobRuntimeModel", "sort", "[I", true)
  | 18 => ("JobRuntimeModel", "sum", "[I", true)
  | 19 => ("JobRuntimeModel", "cause", "[I", true)
  | 20 => ("JobRuntimeModel", "extra", "[I", true)
  | 21 => ("JobRuntimeModel", "frames", "[I", true)
  | 22 => ("JobRuntimeModel", "slot", "[I", true)
  | 23 => ("JobRuntimeModel", "with", "[I", true)
  | 24 => ("JobRuntimeModel", "ended", "[Z", true)
  | 25 => ("JobRuntimeModel", "finished", "[Z", true)
  | 26 => ("JobRuntimeModel", "waits", "[I", true)
  | 27 => ("JobRuntimeModel", "waitsFor", "[I", true)
  | 28 => ("JobRuntimeModel", "waitsSince", "[I", true)
  | 29 => ("JobRuntimeModel", "delay", "[I", true)
  | 30 => ("JobRuntimeModel", "delaySince", "[I", true)
  | 31 => ("JobRuntimeModel", "limit", "[I", true)
  | 32 => ("JobRuntimeModel", "limitSince", "[I", true)
  | 33 => ("JobRuntimeModel", "program", "[I", true)
  | 34 => ("JobRuntimeModel", "at", "[I", true)
  | 35 => ("JobRuntimeModel", "frameSort", "[I", true)
  | 36 => ("JobRuntimeModel", "other", "[I", true)
  | 37 => ("JobRuntimeModel", "kept", "[I", true)
  | 38 => ("JobRuntimeModel", "row", "[I", true)
  | 39 => ("JobRuntimeModel", "under", "[I", true)
  | _ => ("JobRuntimeModel", "next", "[I", true)
def kt_R : Nat → FieldType := fun k => match k with
  | 0 => .int
  | 1 => .int
  | 2 => .int
  | 3 => .int
  | 4 => .int
  | 5 => .int
  | 6 => .int
  | 7 => .int
  | 8 => .int
  | 9 => .int
  | 10 => .boolean
  | 11 => .array .int
  | 12 => .array .int
  | 13 => .array .int
  | 14 => .array .int
  | 15 => .array .int
  | 16 => .array .int
  | 17 => .array .int
  | 18 => .array .int
  | 19 => .array .int
  | 20 => .array .int
  | 21 => .array .int
  | 22 => .array .int
  | 23 => .array .int
  | 24 => .array .boolean
  | 25 => .array .boolean
  | 26 => .array .int
  | 27 => .array .int
  | 28 => .array .int
  | 29 => .array .int
  | 30 => .array .int
  | 31 => .array .int
  | 32 => .array .int
  | 33 => .array .int
  | 34 => .array .int
  | 35 => .array .int
  | 36 => .array .int
  | 37 => .array .int
  | 38 => .array .int
  | 39 => .array .int
  | _ => .array .int
def jcl : List vw_C := [("JobRuntime", kT_J, 11), ("JobRuntime$Program", kT_P, 4), ("JobRuntime$ReadyRow", kT_Q, 3), ("JobRuntime$Job", kT_B, 16), ("JobRuntime$Frame", kT_F, 5), ("JobRuntime$Timer", kT_T, 2), ("JobRuntimeModel", kT_R, 41)]
theorem nok_J : ∀ a, a < 11 → ∀ b, b < 11 → a ≠ b → (kT_J a).2.1 ≠ (kT_J b).2.1 := by decide +kernel
theorem tok_J : ∀ k, k < 11 → parseFieldDescriptor (kT_J k).2.2.1 = some (kt_J k) := by decide +kernel
theorem in_J : ∀ x ∈ u_ws "JobRuntime" kT_J 11, x ∈ lw_tbl ∧ goodWord x = true := by decide +kernel
theorem nok_P : ∀ a, a < 4 → ∀ b, b < 4 → a ≠ b → (kT_P a).2.1 ≠ (kT_P b).2.1 := by decide +kernel
theorem tok_P : ∀ k, k < 4 → parseFieldDescriptor (kT_P k).2.2.1 = some (kt_P k) := by decide +kernel
theorem in_P : ∀ x ∈ u_ws "JobRuntime$Program" kT_P 4, x ∈ lw_tbl ∧ goodWord x = true := by decide +kernel
theorem nok_Q : ∀ a, a < 3 → ∀ b, b < 3 → a ≠ b → (kT_Q a).2.1 ≠ (kT_Q b).2.1 := by decide +kernel
theorem tok_Q : ∀ k, k < 3 → parseFieldDescriptor (kT_Q k).2.2.1 = some (kt_Q k) := by decide +kernel
theorem in_Q : ∀ x ∈ u_ws "JobRuntime$ReadyRow" kT_Q 3, x ∈ lw_tbl ∧ goodWord x = true := by decide +kernel
theorem nok_B : ∀ a, a < 16 → ∀ b, b < 16 → a ≠ b → (kT_B a).2.1 ≠ (kT_B b).2.1 := by decide +kernel
theorem tok_B : ∀ k, k < 16 → parseFieldDescriptor (kT_B k).2.2.1 = some (kt_B k) := by decide +kernel
theorem in_B : ∀ x ∈ u_ws "JobRuntime$Job" kT_B 16, x ∈ lw_tbl ∧ goodWord x = true := by decide +kernel
theorem nok_F : ∀ a, a < 5 → ∀ b, b < 5 → a ≠ b → (kT_F a).2.1 ≠ (kT_F b).2.1 := by decide +kernel
theorem tok_F : ∀ k, k < 5 → parseFieldDescriptor (kT_F k).2.2.1 = some (kt_F k) := by decide +kernel
theorem in_F : ∀ x ∈ u_ws "JobRuntime$Frame" kT_F 5, x ∈ lw_tbl ∧ goodWord x = true := by decide +kernel
theorem nok_T : ∀ a, a < 2 → ∀ b, b < 2 → a ≠ b → (kT_T a).2.1 ≠ (kT_T b).2.1 := by decide +kernel
theorem tok_T : ∀ k, k < 2 → parseFieldDescriptor (kT_T k).2.2.1 = some (kt_T k) := by decide +kernel
theorem in_T : ∀ x ∈ u_ws "JobRuntime$Timer" kT_T 2, x ∈ lw_tbl ∧ goodWord x = true := by decide +kernel
theorem nok_R : ∀ a, a < 41 → ∀ b, b < 41 → a ≠ b → (kT_R a).2.1 ≠ (kT_R b).2.1 := by decide +kernel
theorem tok_R : ∀ k, k < 41 → parseFieldDescriptor (kT_R k).2.2.1 = some (kt_R k) := by decide +kernel
theorem in_R : ∀ x ∈ u_ws "JobRuntimeModel" kT_R 41, x ∈ lw_tbl ∧ goodWord x = true := by decide +kernel
abbrev c_J_init : ByteArray := prog_1_method_1_code
def y_J_init : MethodName := ⟨"JobRuntime", "<init>", "()V"⟩
abbrev m_J_init : jm := ("JobRuntime", "<init>", c_J_init, 2, none, [])
set_option maxRecDepth 100000 in
theorem Y_J_init : jY y_J_init m_J_init 0 := ⟨⟨rfl, rfl, by decide +kernel, Or.inl ⟨rfl, (List.mem_of_getElem? (i := 69) rfl)⟩⟩, by decide +kernel, by decide +kernel, by decide +kernel⟩
set_option maxRecDepth 100000 in
theorem I_J_init : y_J_init.name = "<init>" ∧ m_J_init.2.2.2.2.1 = none ∧ Cond.code y_J_init m_J_init.2.2.1 m_J_init.2.2.2.1 none ∈ lw_tbl := ⟨rfl, rfl, (List.mem_of_getElem? (i := 69) rfl)⟩
theorem wi_J_init : Cond.instanceMethod y_J_init ∈ lw_tbl := (List.mem_of_getElem? (i := 68) (by decide +kernel))
abbrev c_P_init : ByteArray := prog_5_method_1_code
def y_P_init : MethodName := ⟨"JobRuntime$Program", "<init>", "()V"⟩
abbrev m_P_init : jm := ("JobRuntime$Program", "<init>", c_P_init, 1, none, [])
set_option maxRecDepth 100000 in
theorem Y_P_init : jY y_P_init m_P_init 0 := ⟨⟨rfl, rfl, by decide +kernel, Or.inl ⟨rfl, (List.mem_of_getElem? (i := 78) rfl)⟩⟩, by decide +kernel, by decide +kernel, by decide +kernel⟩
set_option maxRecDepth 100000 in
theorem I_P_init : y_P_init.name = "<init>" ∧ m_P_init.2.2.2.2.1 = none ∧ Cond.code y_P_init m_P_init.2.2.1 m_P_init.2.2.2.1 none ∈ lw_tbl := ⟨rfl, rfl, (List.mem_of_getElem? (i := 78) rfl)⟩
theorem wi_P_init : Cond.instanceMethod y_P_init ∈ lw_tbl := (List.mem_of_getElem? (i := 77) (by decide +kernel))
abbrev c_Q_init : ByteArray := prog_6_method_1_code
def y_Q_init : MethodName := ⟨"JobRuntime$ReadyRow", "<init>", "()V"⟩
abbrev m_Q_init : jm := ("JobRuntime$ReadyRow", "<init>", c_Q_init, 1, none, [])
set_option maxRecDepth 100000 in
theorem Y_Q_init : jY y_Q_init m_Q_init 0 := ⟨⟨rfl, rfl, by decide +kernel, Or.inl ⟨rfl, (List.mem_of_getElem? (i := 104) rfl)⟩⟩, by decide +kernel, by decide +kernel, by decide +kernel⟩
set_option maxRecDepth 100000 in
theorem I_Q_init : y_Q_init.name = "<init>" ∧ m_Q_init.2.2.2.2.1 = none ∧ Cond.code y_Q_init m_Q_init.2.2.1 m_Q_init.2.2.2.1 none ∈ lw_tbl := ⟨rfl, rfl, (List.mem_of_getElem? (i := 104) rfl)⟩
theorem wi_Q_init : Cond.instanceMethod y_Q_init ∈ lw_tbl := (List.mem_of_getElem? (i := 103) (by decide +kernel))
abbrev c_J_count : ByteArray := prog_1_method_11_code
def y_J_count : MethodName := ⟨"JobRuntime", "count", "(I)I"⟩
abbrev m_J_count : jm := ("JobRuntime", "count", c_J_count, 2, (some .int), [])
set_option maxRecDepth 100000 in
theorem Y_J_count : jY y_J_count m_J_count 1 := ⟨⟨rfl, rfl, by decide +kernel, Or.inl ⟨rfl, (List.mem_of_getElem? (i := 155) rfl)⟩⟩, by decide +kernel, by decide +kernel, by decide +kernel⟩
theorem wi_J_count : Cond.instanceMethod y_J_count ∈ lw_tbl := (List.mem_of_getElem? (i := 153) (by decide +kernel))
theorem wv_J_count : Cond.selects y_J_count.cls y_J_count y_J_count ∈ lw_tbl := (List.mem_of_getElem? (i := 154) (by decide +kernel))
abbrev c_J_runningTimers : ByteArray := prog_1_method_38_code
def y_J_runningTimers : MethodName := ⟨"JobRuntime", "runningTimers", "()I"⟩
abbrev m_J_runningTimers : jm := ("JobRuntime", "runningTimers", c_J_runningTimers, 3, (some .int), [])
set_option maxRecDepth 100000 in
theorem Y_J_runningTimers : jY y_J_runningTimers m_J_runningTimers 0 := ⟨⟨rfl, rfl, by decide +kernel, Or.inl ⟨rfl, (List.mem_of_getElem? (i := 159) rfl)⟩⟩, by decide +kernel, by decide +kernel, by decide +kernel⟩
theorem wi_J_runningTimers : Cond.instanceMethod y_J_runningTimers ∈ lw_tbl := (List.mem_of_getElem? (i := 158) (by decide +kernel))
theorem wv_J_runningTimers : Cond.selects y_J_runningTimers.cls y_J_runningTimers y_J_runningTimers ∈ lw_tbl := (List.mem_of_getElem? (i := 0) (by decide +kernel))
abbrev c_T_isRunning : ByteArray := prog_7_method_2_code
def y_T_isRunning : MethodName := ⟨"JobRuntime$Timer", "isRunning", "()Z"⟩
abbrev m_T_isRunning : jm := ("JobRuntime$Timer", "isRunning", c_T_isRunning, 1, (some .boolean), [])
set_option maxRecDepth 100000 in
theorem Y_T_isRunning : jY y_T_isRunning m_T_isRunning 0 := ⟨⟨rfl, rfl, by decide +kernel, Or.inl ⟨rfl, (List.mem_of_getElem? (i := 163) rfl)⟩⟩, by decide +kernel, by decide +kernel, by decide +kernel⟩
theorem wi_T_isRunning : Cond.instanceMethod y_T_isRunning ∈ lw_tbl := (List.mem_of_getElem? (i := 161) (by decide +kernel))
theorem wv_T_isRunning : Cond.selects y_T_isRunning.cls y_T_isRunning y_T_isRunning ∈ lw_tbl := (List.mem_of_getElem? (i := 162) (by decide +kernel))
abbrev c_L_act : ByteArray := method_3_code
def y_L_act : MethodName := ⟨"JobRuntimeLaw", "act", "(LJobRuntime;IIII[J)I"⟩
abbrev m_L_act : jm := ("JobRuntimeLaw", "act", c_L_act, 7, (some .int), [(0, 14, 17, 13), (0, 14, 21, 15)])
set_option maxRecDepth 100000 in
theorem Y_L_act : jY y_L_act m_L_act 6 := ⟨⟨rfl, rfl, by decide +kernel, Or.inr (List.mem_of_getElem? (i := 167) rfl)⟩, by decide +kernel, by decide +kernel, by decide +kernel⟩
theorem ws_L_act : Cond.static y_L_act ∈ lw_tbl := (List.mem_of_getElem? (i := 166) (by decide +kernel))
theorem wn_L_act : Cond.initialized y_L_act.cls ∈ lw_tbl := (List.mem_of_getElem? (i := 49) (by decide +kernel))
abbrev c_J_act : ByteArray := prog_1_method_2_code
def y_J_act : MethodName := ⟨"JobRuntime", "act", "(IIII)I"⟩
abbrev m_J_act : jm := ("JobRuntime", "act", c_J_act, 6, (some .int), [])
set_option maxRecDepth 100000 in
theorem Y_J_act : jY y_J_act m_J_act 4 := ⟨⟨rfl, rfl, by decide +kernel, Or.inl ⟨rfl, (List.mem_of_getElem? (i := 173) rfl)⟩⟩, by decide +kernel, by decide +kernel, by decide +kernel⟩
theorem wi_J_act : Cond.instanceMethod y_J_act ∈ lw_tbl := (List.mem_of_getElem? (i := 171) (by decide +kernel))
theorem wv_J_act : Cond.selects y_J_act.cls y_J_act y_J_act ∈ lw_tbl := (List.mem_of_getElem? (i := 172) (by decide +kernel))
abbrev c_J_isProgram : ByteArray := prog_1_method_13_code
def y_J_isProgram : MethodName := ⟨"JobRuntime", "isProgram", "(I)Z"⟩
abbrev m_J_isProgram : jm := ("JobRuntime", "isProgram", c_J_isProgram, 1, (some .boolean), [])
set_option maxRecDepth 100000 in
theorem Y_J_isProgram : jY y_J_isProgram m_J_isProgram 1 := ⟨⟨rfl, rfl, by decide +kernel, Or.inl ⟨rfl, (List.mem_of_getElem? (i := 176) rfl)⟩⟩, by decide +kernel, by decide +kernel, by decide +kernel⟩
theorem ws_J_isProgram : Cond.static y_J_isProgram ∈ lw_tbl := (List.mem_of_getElem? (i := 175) (by decide +kernel))
theorem wn_J_isProgram : Cond.initialized y_J_isProgram.cls ∈ lw_tbl := (List.mem_of_getElem? (i := 50) (by decide +kernel))
abbrev c_J_isWithin : ByteArray := prog_1_method_12_code
def y_J_isWithin : MethodName := ⟨"JobRuntime", "isWithin", "(III)Z"⟩
abbrev m_J_isWithin : jm := ("JobRuntime", "isWithin", c_J_isWithin, 3, (some .boolean), [])
set_option maxRecDepth 100000 in
theorem Y_J_isWithin : jY y_J_isWithin m_J_isWithin 3 := ⟨⟨rfl, rfl, by decide +kernel, Or.inl ⟨rfl, (List.mem_of_getElem? (i := 179) rfl)⟩⟩, by decide +kernel, by decide +kernel, by decide +kernel⟩
theorem ws_J_isWithin : Cond.static y_J_isWithin ∈ lw_tbl := (List.mem_of_getElem? (i := 178) (by decide +kernel))
theorem wn_J_isWithin : Cond.initialized y_J_isWithin.cls ∈ lw_tbl := (List.mem_of_getElem? (i := 50) (by decide +kernel))
abbrev c_A_isOne : ByteArray := prog_2_method_2_code
def y_A_isOne : MethodName := ⟨"JobRuntime$Action", "isOne", "(III)Z"⟩
abbrev m_A_isOne : jm := ("JobRuntime$Action", "isOne", c_A_isOne, 3, (some .boolean), [])
set_option maxRecDepth 100000 in
theorem Y_A_isOne : jY y_A_isOne m_A_isOne 3 := ⟨⟨rfl, rfl, by decide +kernel, Or.inl ⟨rfl, (List.mem_of_getElem? (i := 182) rfl)⟩⟩, by decide +kernel, by decide +kernel, by decide +kernel⟩
theorem ws_A_isOne : Cond.static y_A_isOne ∈ lw_tbl := (List.mem_of_getElem? (i := 181) (by decide +kernel))
theorem wn_A_isOne : Cond.initialized y_A_isOne.cls ∈ lw_tbl := (List.mem_of_getElem? (i := 54) (by decide +kernel))
abbrev c_J_isSlot : ByteArray := prog_1_method_14_code
def y_J_isSlot : MethodName := ⟨"JobRuntime", "isSlot", "(I)Z"⟩
abbrev m_J_isSlot : jm := ("JobRuntime", "isSlot", c_J_isSlot, 1, (some .boolean), [])
set_option maxRecDepth 100000 in
theorem Y_J_isSlot : jY y_J_isSlot m_J_isSlot 1 := ⟨⟨rfl, rfl, by decide +kernel, Or.inl ⟨rfl, (List.mem_of_getElem? (i := 187) rfl)⟩⟩, by decide +kernel, by decide +kernel, by decide +kernel⟩
theorem ws_J_isSlot : Cond.static y_J_isSlot ∈ lw_tbl := (List.mem_of_getElem? (i := 186) (by decide +kernel))
theorem wn_J_isSlot : Cond.initialized y_J_isSlot.cls ∈ lw_tbl := (List.mem_of_getElem? (i := 50) (by decide +kernel))
abbrev c_P_add : ByteArray := prog_5_method_2_code
def y_P_add : MethodName := ⟨"JobRuntime$Program", "add", "(III)V"⟩
abbrev m_P_add : jm := ("JobRuntime$Program", "add", c_P_add, 4, none, [])
set_option maxRecDepth 100000 in
theorem Y_P_add : jY y_P_add m_P_add 3 := ⟨⟨rfl, rfl, by decide +kernel, Or.inl ⟨rfl, (List.mem_of_getElem? (i := 270) rfl)⟩⟩, by decide +kernel, by decide +kernel, by decide +kernel⟩
theorem wi_P_add : Cond.instanceMethod y_P_add ∈ lw_tbl := (List.mem_of_getElem? (i := 268) (by decide +kernel))
theorem wv_P_add : Cond.selects y_P_add.cls y_P_add y_P_add ∈ lw_tbl := (List.mem_of_getElem? (i := 269) (by decide +kernel))
abbrev c_L_start : ByteArray := method_4_code
def y_L_start : MethodName := ⟨"JobRuntimeLaw", "start", "(LJobRuntime;I[J)I"⟩
abbrev m_L_start : jm := ("JobRuntimeLaw", "start", c_L_start, 4, (some .int), [(0, 9, 12, 13), (0, 9, 15, 15)])
set_option maxRecDepth 100000 in
theorem Y_L_start : jY y_L_start m_L_start 3 := ⟨⟨rfl, rfl, by decide +kernel, Or.inr (List.mem_of_getElem? (i := 273) rfl)⟩, by decide +kernel, by decide +kernel, by decide +kernel⟩
theorem ws_L_start : Cond.static y_L_start ∈ lw_tbl := (List.mem_of_getElem? (i := 272) (by decide +kernel))
theorem wn_L_start : Cond.initialized y_L_start.cls ∈ lw_tbl := (List.mem_of_getElem? (i := 49) (by decide +kernel))
abbrev c_J_start : ByteArray := prog_1_method_3_code
def y_J_start : MethodName := ⟨"JobRuntime", "start", "(I)I"⟩
abbrev m_J_start : jm := ("JobRuntime", "start", c_J_start, 2, (some .int), [])
set_option maxRecDepth 100000 in
theorem Y_J_start : jY y_J_start m_J_start 1 := ⟨⟨rfl, rfl, by decide +kernel, Or.inl ⟨rfl, (List.mem_of_getElem? (i := 277) rfl)⟩⟩, by decide +kernel, by decide +kernel, by decide +kernel⟩
theorem wi_J_start : Cond.instanceMethod y_J_start ∈ lw_tbl := (List.mem_of_getElem? (i := 275) (by decide +kernel))
theorem wv_J_start : Cond.selects y_J_start.cls y_J_start y_J_start ∈ lw_tbl := (List.mem_of_getElem? (i := 276) (by decide +kernel))
abbrev c_J_begin : ByteArray := prog_1_method_17_code
def y_J_begin : MethodName := ⟨"JobRuntime", "begin", "(LJobRuntime$Job;ILJobRuntime$Program;)LJobRuntime$Job;"⟩
abbrev m_J_begin : jm := ("JobRuntime", "begin", c_J_begin, 5, (some (.object "JobRuntime$Job")), [])
set_option maxRecDepth 100000 in
theorem Y_J_begin : jY y_J_begin m_J_begin 3 := ⟨⟨rfl, rfl, by decide +kernel, Or.inl ⟨rfl, (List.mem_of_getElem? (i := 281) rfl)⟩⟩, by decide +kernel, by decide +kernel, by decide +kernel⟩
theorem wi_J_begin : Cond.instanceMethod y_J_begin ∈ lw_tbl := (List.mem_of_getElem? (i := 280) (by decide +kernel))
theorem wv_J_begin : Cond.selects y_J_begin.cls y_J_begin y_J_begin ∈ lw_tbl := (List.mem_of_getElem? (i := 2) (by decide +kernel))
abbrev c_B_init : ByteArray := prog_4_method_1_code
def y_B_init : MethodName := ⟨"JobRuntime$Job", "<init>", "(ILJobRuntime$Job;ILJobRuntime$Program;)V"⟩
abbrev m_B_init : jm := ("JobRuntime$Job", "<init>", c_B_init, 6, none, [])
set_option maxRecDepth 100000 in
theorem Y_B_init : jY y_B_init m_B_init 4 := ⟨⟨rfl, rfl, by decide +kernel, Or.inl ⟨rfl, (List.mem_of_getElem? (i := 285) rfl)⟩⟩, by decide +kernel, by decide +kernel, by decide +kernel⟩
set_option maxRecDepth 100000 in
theorem I_B_init : y_B_init.name = "<init>" ∧ m_B_init.2.2.2.2.1 = none ∧ Cond.code y_B_init m_B_init.2.2.1 m_B_init.2.2.2.1 none ∈ lw_tbl := ⟨rfl, rfl, (List.mem_of_getElem? (i := 285) rfl)⟩
theorem wi_B_init : Cond.instanceMethod y_B_init ∈ lw_tbl := (List.mem_of_getElem? (i := 284) (by decide +kernel))
abbrev c_F_init : ByteArray := prog_3_method_1_code
def y_F_init : MethodName := ⟨"JobRuntime$Frame", "<init>", "(LJobRuntime$Program;)V"⟩
abbrev m_F_init : jm := ("JobRuntime$Frame", "<init>", c_F_init, 2, none, [])
set_option maxRecDepth 100000 in
theorem Y_F_init : jY y_F_init m_F_init 1 := ⟨⟨rfl, rfl, by decide +kernel, Or.inl ⟨rfl, (List.mem_of_getElem? (i := 293) rfl)⟩⟩, by decide +kernel, by decide +kernel, by decide +kernel⟩
set_option maxRecDepth 100000 in
theorem I_F_init : y_F_init.name = "<init>" ∧ m_F_init.2.2.2.2.1 = none ∧ Cond.code y_F_init m_F_init.2.2.1 m_F_init.2.2.2.1 none ∈ lw_tbl := ⟨rfl, rfl, (List.mem_of_getElem? (i := 293) rfl)⟩
theorem wi_F_init : Cond.instanceMethod y_F_init ∈ lw_tbl := (List.mem_of_getElem? (i := 292) (by decide +kernel))
abbrev c_T_init : ByteArray := prog_7_method_1_code
def y_T_init : MethodName := ⟨"JobRuntime$Timer", "<init>", "()V"⟩
abbrev m_T_init : jm := ("JobRuntime$Timer", "<init>", c_T_init, 1, none, [])
set_option maxRecDepth 100000 in
theorem Y_T_init : jY y_T_init m_T_init 0 := ⟨⟨rfl, rfl, by decide +kernel, Or.inl ⟨rfl, (List.mem_of_getElem? (i := 323) rfl)⟩⟩, by decide +kernel, by decide +kernel, by decide +kernel⟩
set_option maxRecDepth 100000 in
theorem I_T_init : y_T_init.name = "<init>" ∧ m_T_init.2.2.2.2.1 = none ∧ Cond.code y_T_init m_T_init.2.2.1 m_T_init.2.2.2.1 none ∈ lw_tbl := ⟨rfl, rfl, (List.mem_of_getElem? (i := 323) rfl)⟩
theorem wi_T_init : Cond.instanceMethod y_T_init ∈ lw_tbl := (List.mem_of_getElem? (i := 322) (by decide +kernel))
abbrev c_J_makeReady : ByteArray := prog_1_method_18_code
def y_J_makeReady : MethodName := ⟨"JobRuntime", "makeReady", "(LJobRuntime$Job;I)V"⟩
abbrev m_J_makeReady : jm := ("JobRuntime", "makeReady", c_J_makeReady, 3, none, [])
set_option maxRecDepth 100000 in
theorem Y_J_makeReady : jY y_J_makeReady m_J_makeReady 2 := ⟨⟨rfl, rfl, by decide +kernel, Or.inl ⟨rfl, (List.mem_of_getElem? (i := 399) rfl)⟩⟩, by decide +kernel, by decide +kernel, by decide +kernel⟩
theorem wi_J_makeReady : Cond.instanceMethod y_J_makeReady ∈ lw_tbl := (List.mem_of_getElem? (i := 398) (by decide +kernel))
theorem wv_J_makeReady : Cond.selects y_J_makeReady.cls y_J_makeReady y_J_makeReady ∈ lw_tbl := (List.mem_of_getElem? (i := 3) (by decide +kernel))
abbrev c_T_stop : ByteArray := prog_7_method_3_code
def y_T_stop : MethodName := ⟨"JobRuntime$Timer", "stop", "()V"⟩
abbrev m_T_stop : jm := ("JobRuntime$Timer", "stop", c_T_stop, 1, none, [])
set_option maxRecDepth 100000 in
theorem Y_T_stop : jY y_T_stop m_T_stop 0 := ⟨⟨rfl, rfl, by decide +kernel, Or.inl ⟨rfl, (List.mem_of_getElem? (i := 403) rfl)⟩⟩, by decide +kernel, by decide +kernel, by decide +kernel⟩
theorem wi_T_stop : Cond.instanceMethod y_T_stop ∈ lw_tbl := (List.mem_of_getElem? (i := 401) (by decide +kernel))
theorem wv_T_stop : Cond.selects y_T_stop.cls y_T_stop y_T_stop ∈ lw_tbl := (List.mem_of_getElem? (i := 402) (by decide +kernel))
abbrev c_Q_add : ByteArray := prog_6_method_2_code
def y_Q_add : MethodName := ⟨"JobRuntime$ReadyRow", "add", "(LJobRuntime$Job;)V"⟩
abbrev m_Q_add : jm := ("JobRuntime$ReadyRow", "add", c_Q_add, 2, none, [])
set_option maxRecDepth 100000 in
theorem Y_Q_add : jY y_Q_add m_Q_add 1 := ⟨⟨rfl, rfl, by decide +kernel, Or.inl ⟨rfl, (List.mem_of_getElem? (i := 407) rfl)⟩⟩, by decide +kernel, by decide +kernel, by decide +kernel⟩
theorem wi_Q_add : Cond.instanceMethod y_Q_add ∈ lw_tbl := (List.mem_of_getElem? (i := 405) (by decide +kernel))
theorem wv_Q_add : Cond.selects y_Q_add.cls y_Q_add y_Q_add ∈ lw_tbl := (List.mem_of_getElem? (i := 406) (by decide +kernel))
abbrev c_L_cancel : ByteArray := method_5_code
def y_L_cancel : MethodName := ⟨"JobRuntimeLaw", "cancel", "(LJobRuntime;I[J)I"⟩
abbrev m_L_cancel : jm := ("JobRuntimeLaw", "cancel", c_L_cancel, 4, (some .int), [(0, 9, 12, 13)])
set_option maxRecDepth 100000 in
theorem Y_L_cancel : jY y_L_cancel m_L_cancel 3 := ⟨⟨rfl, rfl, by decide +kernel, Or.inr (List.mem_of_getElem? (i := 410) rfl)⟩, by decide +kernel, by decide +kernel, by decide +kernel⟩
theorem ws_L_cancel : Cond.static y_L_cancel ∈ lw_tbl := (List.mem_of_getElem? (i := 409) (by decide +kernel))
theorem wn_L_cancel : Cond.initialized y_L_cancel.cls ∈ lw_tbl := (List.mem_of_getElem? (i := 49) (by decide +kernel))
abbrev c_J_cancel : ByteArray := prog_1_method_4_code
def y_J_cancel : MethodName := ⟨"JobRuntime", "cancel", "(I)I"⟩
abbrev m_J_cancel : jm := ("JobRuntime", "cancel", c_J_cancel, 3, (some .int), [])
set_option maxRecDepth 100000 in
theorem Y_J_cancel : jY y_J_cancel m_J_cancel 1 := ⟨⟨rfl, rfl, by decide +kernel, Or.inl ⟨rfl, (List.mem_of_getElem? (i := 414) rfl)⟩⟩, by decide +kernel, by decide +kernel, by decide +kernel⟩
theorem wi_J_cancel : Cond.instanceMethod y_J_cancel ∈ lw_tbl := (List.mem_of_getElem? (i := 412) (by decide +kernel))
theorem wv_J_cancel : Cond.selects y_J_cancel.cls y_J_cancel y_J_cancel ∈ lw_tbl := (List.mem_of_getElem? (i := 413) (by decide +kernel))
abbrev c_J_jobOfNumber : ByteArray := prog_1_method_16_code
def y_J_jobOfNumber : MethodName := ⟨"JobRuntime", "jobOfNumber", "(I)LJobRuntime$Job;"⟩
abbrev m_J_jobOfNumber : jm := ("JobRuntime", "jobOfNumber", c_J_jobOfNumber, 2, (some (.object "JobRuntime$Job")), [])
set_option maxRecDepth 100000 in
theorem Y_J_jobOfNumber : jY y_J_jobOfNumber m_J_jobOfNumber 1 := ⟨⟨rfl, rfl, by decide +kernel, Or.inl ⟨rfl, (List.mem_of_getElem? (i := 418) rfl)⟩⟩, by decide +kernel, by decide +kernel, by decide +kernel⟩
theorem wi_J_jobOfNumber : Cond.instanceMethod y_J_jobOfNumber ∈ lw_tbl := (List.mem_of_getElem? (i := 417) (by decide +kernel))
theorem wv_J_jobOfNumber : Cond.selects y_J_jobOfNumber.cls y_J_jobOfNumber y_J_jobOfNumber ∈ lw_tbl := (List.mem_of_getElem? (i := 4) (by decide +kernel))
abbrev c_J_give : ByteArray := prog_1_method_23_code
def y_J_give : MethodName := ⟨"JobRuntime", "give", "(LJobRuntime$Job;II)V"⟩
abbrev m_J_give : jm := ("JobRuntime", "give", c_J_give, 5, none, [])
set_option maxRecDepth 100000 in
theorem Y_J_give : jY y_J_give m_J_give 3 := ⟨⟨rfl, rfl, by decide +kernel, Or.inl ⟨rfl, (List.mem_of_getElem? (i := 422) rfl)⟩⟩, by decide +kernel, by decide +kernel, by decide +kernel⟩
theorem wi_J_give : Cond.instanceMethod y_J_give ∈ lw_tbl := (List.mem_of_getElem? (i := 421) (by decide +kernel))
theorem wv_J_give : Cond.selects y_J_give.cls y_J_give y_J_give ∈ lw_tbl := (List.mem_of_getElem? (i := 5) (by decide +kernel))
abbrev c_B_canBeWoken : ByteArray := prog_4_method_6_code
def y_B_canBeWoken : MethodName := ⟨"JobRuntime$Job", "canBeWoken", "()Z"⟩
abbrev m_B_canBeWoken : jm := ("JobRuntime$Job", "canBeWoken", c_B_canBeWoken, 2, (some .boolean), [])
set_option maxRecDepth 100000 in
theorem Y_B_canBeWoken : jY y_B_canBeWoken m_B_canBeWoken 0 := ⟨⟨rfl, rfl, by decide +kernel, Or.inl ⟨rfl, (List.mem_of_getElem? (i := 426) rfl)⟩⟩, by decide +kernel, by decide +kernel, by decide +kernel⟩
theorem wi_B_canBeWoken : Cond.instanceMethod y_B_canBeWoken ∈ lw_tbl := (List.mem_of_getElem? (i := 424) (by decide +kernel))
theorem wv_B_canBeWoken : Cond.selects y_B_canBeWoken.cls y_B_canBeWoken y_B_canBeWoken ∈ lw_tbl := (List.mem_of_getElem? (i := 425) (by decide +kernel))
abbrev c_B_isShielded : ByteArray := prog_4_method_4_code
def y_B_isShielded : MethodName := ⟨"JobRuntime$Job", "isShielded", "()Z"⟩
abbrev m_B_isShielded : jm := ("JobRuntime$Job", "isShielded", c_B_isShielded, 2, (some .boolean), [])
set_option maxRecDepth 100000 in
theorem Y_B_isShielded : jY y_B_isShielded m_B_isShielded 0 := ⟨⟨rfl, rfl, by decide +kernel, Or.inl ⟨rfl, (List.mem_of_getElem? (i := 430) rfl)⟩⟩, by decide +kernel, by decide +kernel, by decide +kernel⟩
theorem wi_B_isShielded : Cond.instanceMethod y_B_isShielded ∈ lw_tbl := (List.mem_of_getElem? (i := 428) (by decide +kernel))
theorem wv_B_isShielded : Cond.selects y_B_isShielded.cls y_B_isShielded y_B_isShielded ∈ lw_tbl := (List.mem_of_getElem? (i := 429) (by decide +kernel))
abbrev c_L_run : ByteArray := method_6_code
def y_L_run : MethodName := ⟨"JobRuntimeLaw", "run", "(LJobRuntime;I[J)I"⟩
abbrev m_L_run : jm := ("JobRuntimeLaw", "run", c_L_run, 4, (some .int), [(0, 9, 12, 13)])
set_option maxRecDepth 100000 in
theorem Y_L_run : jY y_L_run m_L_run 3 := ⟨⟨rfl, rfl, by decide +kernel, Or.inr (List.mem_of_getElem? (i := 433) rfl)⟩, by decide +kernel, by decide +kernel, by decide +kernel⟩
theorem ws_L_run : Cond.static y_L_run ∈ lw_tbl := (List.mem_of_getElem? (i := 432) (by decide +kernel))
theorem wn_L_run : Cond.initialized y_L_run.cls ∈ lw_tbl := (List.mem_of_getElem? (i := 49) (by decide +kernel))
abbrev c_J_run : ByteArray := prog_1_method_5_code
def y_J_run : MethodName := ⟨"JobRuntime", "run", "(I)I"⟩
abbrev m_J_run : jm := ("JobRuntime", "run", c_J_run, 5, (some .int), [])
set_option maxRecDepth 100000 in
theorem Y_J_run : jY y_J_run m_J_run 1 := ⟨⟨rfl, rfl, by decide +kernel, Or.inl ⟨rfl, (List.mem_of_getElem? (i := 437) rfl)⟩⟩, by decide +kernel, by decide +kernel, by decide +kernel⟩
theorem wi_J_run : Cond.instanceMethod y_J_run ∈ lw_tbl := (List.mem_of_getElem? (i := 435) (by decide +kernel))
theorem wv_J_run : Cond.selects y_J_run.cls y_J_run y_J_run ∈ lw_tbl := (List.mem_of_getElem? (i := 436) (by decide +kernel))
abbrev c_Q_takeFirst : ByteArray := prog_6_method_3_code
def y_Q_takeFirst : MethodName := ⟨"JobRuntime$ReadyRow", "takeFirst", "()LJobRuntime$Job;"⟩
abbrev m_Q_takeFirst : jm := ("JobRuntime$ReadyRow", "takeFirst", c_Q_takeFirst, 2, (some (.object "JobRuntime$Job")), [])
set_option maxRecDepth 100000 in
theorem Y_Q_takeFirst : jY y_Q_takeFirst m_Q_takeFirst 0 := ⟨⟨rfl, rfl, by decide +kernel, Or.inl ⟨rfl, (List.mem_of_getElem? (i := 441) rfl)⟩⟩, by decide +kernel, by decide +kernel, by decide +kernel⟩
theorem wi_Q_takeFirst : Cond.instanceMethod y_Q_takeFirst ∈ lw_tbl := (List.mem_of_getElem? (i := 439) (by decide +kernel))
theorem wv_Q_takeFirst : Cond.selects y_Q_takeFirst.cls y_Q_takeFirst y_Q_takeFirst ∈ lw_tbl := (List.mem_of_getElem? (i := 440) (by decide +kernel))
abbrev c_J_resume : ByteArray := prog_1_method_20_code
def y_J_resume : MethodName := ⟨"JobRuntime", "resume", "(LJobRuntime$Job;)V"⟩
abbrev m_J_resume : jm := ("JobRuntime", "resume", c_J_resume, 4, none, [])
set_option maxRecDepth 100000 in
theorem Y_J_resume : jY y_J_resume m_J_resume 1 := ⟨⟨rfl, rfl, by decide +kernel, Or.inl ⟨rfl, (List.mem_of_getElem? (i := 445) rfl)⟩⟩, by decide +kernel, by decide +kernel, by decide +kernel⟩
theorem wi_J_resume : Cond.instanceMethod y_J_resume ∈ lw_tbl := (List.mem_of_getElem? (i := 444) (by decide +kernel))
theorem wv_J_resume : Cond.selects y_J_resume.cls y_J_resume y_J_resume ∈ lw_tbl := (List.mem_of_getElem? (i := 6) (by decide +kernel))
abbrev c_J_throwAtLastFrame : ByteArray := prog_1_method_22_code
def y_J_throwAtLastFrame : MethodName := ⟨"JobRuntime", "throwAtLastFrame", "(LJobRuntime$Job;I)V"⟩
abbrev m_J_throwAtLastFrame : jm := ("JobRuntime", "throwAtLastFrame", c_J_throwAtLastFrame, 5, none, [])
set_option maxRecDepth 100000 in
theorem Y_J_throwAtLastFrame : jY y_J_throwAtLastFrame m_J_throwAtLastFrame 2 := ⟨⟨rfl, rfl, by decide +kernel, Or.inl ⟨rfl, (List.mem_of_getElem? (i := 449) rfl)⟩⟩, by decide +kernel, by decide +kernel, by decide +kernel⟩
theorem wi_J_throwAtLastFrame : Cond.instanceMethod y_J_throwAtLastFrame ∈ lw_tbl := (List.mem_of_getElem? (i := 448) (by decide +kernel))
theorem wv_J_throwAtLastFrame : Cond.selects y_J_throwAtLastFrame.cls y_J_throwAtLastFrame y_J_throwAtLastFrame ∈ lw_tbl := (List.mem_of_getElem? (i := 7) (by decide +kernel))
abbrev c_J_note : ByteArray := prog_1_method_19_code
def y_J_note : MethodName := ⟨"JobRuntime", "note", "(I)V"⟩
abbrev m_J_note : jm := ("JobRuntime", "note", c_J_note, 2, none, [])
set_option maxRecDepth 100000 in
theorem Y_J_note : jY y_J_note m_J_note 1 := ⟨⟨rfl, rfl, by decide +kernel, Or.inl ⟨rfl, (List.mem_of_getElem? (i := 453) rfl)⟩⟩, by decide +kernel, by decide +kernel, by decide +kernel⟩
theorem wi_J_note : Cond.instanceMethod y_J_note ∈ lw_tbl := (List.mem_of_getElem? (i := 452) (by decide +kernel))
theorem wv_J_note : Cond.selects y_J_note.cls y_J_note y_J_note ∈ lw_tbl := (List.mem_of_getElem? (i := 8) (by decide +kernel))
abbrev c_B_pushFrame : ByteArray := prog_4_method_3_code
def y_B_pushFrame : MethodName := ⟨"JobRuntime$Job", "pushFrame", "(ILJobRuntime$Program;LJobRuntime$Program;I)V"⟩
abbrev m_B_pushFrame : jm := ("JobRuntime$Job", "pushFrame", c_B_pushFrame, 6, none, [])
set_option maxRecDepth 100000 in
theorem Y_B_pushFrame : jY y_B_pushFrame m_B_pushFrame 4 := ⟨⟨rfl, rfl, by decide +kernel, Or.inl ⟨rfl, (List.mem_of_getElem? (i := 457) rfl)⟩⟩, by decide +kernel, by decide +kernel, by decide +kernel⟩
theorem wi_B_pushFrame : Cond.instanceMethod y_B_pushFrame ∈ lw_tbl := (List.mem_of_getElem? (i := 455) (by decide +kernel))
theorem wv_B_pushFrame : Cond.selects y_B_pushFrame.cls y_B_pushFrame y_B_pushFrame ∈ lw_tbl := (List.mem_of_getElem? (i := 456) (by decide +kernel))
abbrev c_J_leaveFramesAtTheirEnd : ByteArray := prog_1_method_21_code
def y_J_leaveFramesAtTheirEnd : MethodName := ⟨"JobRuntime", "leaveFramesAtTheirEnd", "(LJobRuntime$Job;)V"⟩
abbrev m_J_leaveFramesAtTheirEnd : jm := ("JobRuntime", "leaveFramesAtTheirEnd", c_J_leaveFramesAtTheirEnd, 4, none, [])
set_option maxRecDepth 100000 in
theorem Y_J_leaveFramesAtTheirEnd : jY y_J_leaveFramesAtTheirEnd m_J_leaveFramesAtTheirEnd 1 := ⟨⟨rfl, rfl, by decide +kernel, Or.inl ⟨rfl, (List.mem_of_getElem? (i := 461) rfl)⟩⟩, by decide +kernel, by decide +kernel, by decide +kernel⟩
theorem wi_J_leaveFramesAtTheirEnd : Cond.instanceMethod y_J_leaveFramesAtTheirEnd ∈ lw_tbl := (List.mem_of_getElem? (i := 460) (by decide +kernel))
theorem wv_J_leaveFramesAtTheirEnd : Cond.selects y_J_leaveFramesAtTheirEnd.cls y_J_leaveFramesAtTheirEnd y_J_leaveFramesAtTheirEnd ∈ lw_tbl := (List.mem_of_getElem? (i := 9) (by decide +kernel))
abbrev c_B_lastFrame : ByteArray := prog_4_method_2_code
def y_B_lastFrame : MethodName := ⟨"JobRuntime$Job", "lastFrame", "()LJobRuntime$Frame;"⟩
abbrev m_B_lastFrame : jm := ("JobRuntime$Job", "lastFrame", c_B_lastFrame, 1, (some (.object "JobRuntime$Frame")), [])
set_option maxRecDepth 100000 in
theorem Y_B_lastFrame : jY y_B_lastFrame m_B_lastFrame 0 := ⟨⟨rfl, rfl, by decide +kernel, Or.inl ⟨rfl, (List.mem_of_getElem? (i := 465) rfl)⟩⟩, by decide +kernel, by decide +kernel, by decide +kernel⟩
theorem wi_B_lastFrame : Cond.instanceMethod y_B_lastFrame ∈ lw_tbl := (List.mem_of_getElem? (i := 463) (by decide +kernel))
theorem wv_B_lastFrame : Cond.selects y_B_lastFrame.cls y_B_lastFrame y_B_lastFrame ∈ lw_tbl := (List.mem_of_getElem? (i := 464) (by decide +kernel))
abbrev c_J_finishUpwards : ByteArray := prog_1_method_24_code
def y_J_finishUpwards : MethodName := ⟨"JobRuntime", "finishUpwards", "(LJobRuntime$Job;)V"⟩
abbrev m_J_finishUpwards : jm := ("JobRuntime", "finishUpwards", c_J_finishUpwards, 4, none, [])
set_option maxRecDepth 100000 in
theorem Y_J_finishUpwards : jY y_J_finishUpwards m_J_finishUpwards 1 := ⟨⟨rfl, rfl, by decide +kernel, Or.inl ⟨rfl, (List.mem_of_getElem? (i := 469) rfl)⟩⟩, by decide +kernel, by decide +kernel, by decide +kernel⟩
theorem wi_J_finishUpwards : Cond.instanceMethod y_J_finishUpwards ∈ lw_tbl := (List.mem_of_getElem? (i := 468) (by decide +kernel))
theorem wv_J_finishUpwards : Cond.selects y_J_finishUpwards.cls y_J_finishUpwards y_J_finishUpwards ∈ lw_tbl := (List.mem_of_getElem? (i := 10) (by decide +kernel))
abbrev c_B_isAtItsEnd : ByteArray := prog_4_method_5_code
def y_B_isAtItsEnd : MethodName := ⟨"JobRuntime$Job", "isAtItsEnd", "()Z"⟩
abbrev m_B_isAtItsEnd : jm := ("JobRuntime$Job", "isAtItsEnd", c_B_isAtItsEnd, 1, (some .boolean), [])
set_option maxRecDepth 100000 in
theorem Y_B_isAtItsEnd : jY y_B_isAtItsEnd m_B_isAtItsEnd 0 := ⟨⟨rfl, rfl, by decide +kernel, Or.inl ⟨rfl, (List.mem_of_getElem? (i := 473) rfl)⟩⟩, by decide +kernel, by decide +kernel, by decide +kernel⟩
theorem wi_B_isAtItsEnd : Cond.instanceMethod y_B_isAtItsEnd ∈ lw_tbl := (List.mem_of_getElem? (i := 471) (by decide +kernel))
theorem wv_B_isAtItsEnd : Cond.selects y_B_isAtItsEnd.cls y_B_isAtItsEnd y_B_isAtItsEnd ∈ lw_tbl := (List.mem_of_getElem? (i := 472) (by decide +kernel))
abbrev c_J_finish : ByteArray := prog_1_method_25_code
def y_J_finish : MethodName := ⟨"JobRuntime", "finish", "(LJobRuntime$Job;)V"⟩
abbrev m_J_finish : jm := ("JobRuntime", "finish", c_J_finish, 3, none, [])
set_option maxRecDepth 100000 in
theorem Y_J_finish : jY y_J_finish m_J_finish 1 := ⟨⟨rfl, rfl, by decide +kernel, Or.inl ⟨rfl, (List.mem_of_getElem? (i := 477) rfl)⟩⟩, by decide +kernel, by decide +kernel, by decide +kernel⟩
theorem wi_J_finish : Cond.instanceMethod y_J_finish ∈ lw_tbl := (List.mem_of_getElem? (i := 476) (by decide +kernel))
theorem wv_J_finish : Cond.selects y_J_finish.cls y_J_finish y_J_finish ∈ lw_tbl := (List.mem_of_getElem? (i := 11) (by decide +kernel))
abbrev c_J_takeOutcome : ByteArray := prog_1_method_27_code
def y_J_takeOutcome : MethodName := ⟨"JobRuntime", "takeOutcome", "(LJobRuntime$Job;LJobRuntime$Job;)I"⟩
abbrev m_J_takeOutcome : jm := ("JobRuntime", "takeOutcome", c_J_takeOutcome, 2, (some .int), [])
set_option maxRecDepth 100000 in
theorem Y_J_takeOutcome : jY y_J_takeOutcome m_J_takeOutcome 2 := ⟨⟨rfl, rfl, by decide +kernel, Or.inl ⟨rfl, (List.mem_of_getElem? (i := 480) rfl)⟩⟩, by decide +kernel, by decide +kernel, by decide +kernel⟩
theorem ws_J_takeOutcome : Cond.static y_J_takeOutcome ∈ lw_tbl := (List.mem_of_getElem? (i := 479) (by decide +kernel))
theorem wn_J_takeOutcome : Cond.initialized y_J_takeOutcome.cls ∈ lw_tbl := (List.mem_of_getElem? (i := 50) (by decide +kernel))
abbrev c_J_passFailureOn : ByteArray := prog_1_method_26_code
def y_J_passFailureOn : MethodName := ⟨"JobRuntime", "passFailureOn", "(LJobRuntime$Job;LJobRuntime$Job;)V"⟩
abbrev m_J_passFailureOn : jm := ("JobRuntime", "passFailureOn", c_J_passFailureOn, 3, none, [])
set_option maxRecDepth 100000 in
theorem Y_J_passFailureOn : jY y_J_passFailureOn m_J_passFailureOn 2 := ⟨⟨rfl, rfl, by decide +kernel, Or.inl ⟨rfl, (List.mem_of_getElem? (i := 484) rfl)⟩⟩, by decide +kernel, by decide +kernel, by decide +kernel⟩
theorem wi_J_passFailureOn : Cond.instanceMethod y_J_passFailureOn ∈ lw_tbl := (List.mem_of_getElem? (i := 483) (by decide +kernel))
theorem wv_J_passFailureOn : Cond.selects y_J_passFailureOn.cls y_J_passFailureOn y_J_passFailureOn ∈ lw_tbl := (List.mem_of_getElem? (i := 12) (by decide +kernel))
abbrev c_J_perform : ByteArray := prog_1_method_28_code
def y_J_perform : MethodName := ⟨"JobRuntime", "perform", "(LJobRuntime$Job;LJobRuntime$Frame;)I"⟩
abbrev m_J_perform : jm := ("JobRuntime", "perform", c_J_perform, 8, (some .int), [])
set_option maxRecDepth 100000 in
theorem Y_J_perform : jY y_J_perform m_J_perform 2 := ⟨⟨rfl, rfl, by decide +kernel, Or.inl ⟨rfl, (List.mem_of_getElem? (i := 488) rfl)⟩⟩, by decide +kernel, by decide +kernel, by decide +kernel⟩
theorem wi_J_perform : Cond.instanceMethod y_J_perform ∈ lw_tbl := (List.mem_of_getElem? (i := 487) (by decide +kernel))
theorem wv_J_perform : Cond.selects y_J_perform.cls y_J_perform y_J_perform ∈ lw_tbl := (List.mem_of_getElem? (i := 13) (by decide +kernel))
abbrev c_A_canWait : ByteArray := prog_2_method_3_code
def y_A_canWait : MethodName := ⟨"JobRuntime$Action", "canWait", "(I)Z"⟩
abbrev m_A_canWait : jm := ("JobRuntime$Action", "canWait", c_A_canWait, 1, (some .boolean), [])
set_option maxRecDepth 100000 in
theorem Y_A_canWait : jY y_A_canWait m_A_canWait 1 := ⟨⟨rfl, rfl, by decide +kernel, Or.inl ⟨rfl, (List.mem_of_getElem? (i := 491) rfl)⟩⟩, by decide +kernel, by decide +kernel, by decide +kernel⟩
theorem ws_A_canWait : Cond.static y_A_canWait ∈ lw_tbl := (List.mem_of_getElem? (i := 490) (by decide +kernel))
theorem wn_A_canWait : Cond.initialized y_A_canWait.cls ∈ lw_tbl := (List.mem_of_getElem? (i := 54) (by decide +kernel))
abbrev c_J_beginTimer : ByteArray := prog_1_method_34_code
def y_J_beginTimer : MethodName := ⟨"JobRuntime", "beginTimer", "(LJobRuntime$Timer;I)V"⟩
abbrev m_J_beginTimer : jm := ("JobRuntime", "beginTimer", c_J_beginTimer, 3, none, [])
set_option maxRecDepth 100000 in
theorem Y_J_beginTimer : jY y_J_beginTimer m_J_beginTimer 2 := ⟨⟨rfl, rfl, by decide +kernel, Or.inl ⟨rfl, (List.mem_of_getElem? (i := 496) rfl)⟩⟩, by decide +kernel, by decide +kernel, by decide +kernel⟩
theorem wi_J_beginTimer : Cond.instanceMethod y_J_beginTimer ∈ lw_tbl := (List.mem_of_getElem? (i := 495) (by decide +kernel))
theorem wv_J_beginTimer : Cond.selects y_J_beginTimer.cls y_J_beginTimer y_J_beginTimer ∈ lw_tbl := (List.mem_of_getElem? (i := 14) (by decide +kernel))
abbrev c_J_launch : ByteArray := prog_1_method_29_code
def y_J_launch : MethodName := ⟨"JobRuntime", "launch", "(LJobRuntime$Job;LJobRuntime$Program;I)I"⟩
abbrev m_J_launch : jm := ("JobRuntime", "launch", c_J_launch, 4, (some .int), [])
set_option maxRecDepth 100000 in
theorem Y_J_launch : jY y_J_launch m_J_launch 3 := ⟨⟨rfl, rfl, by decide +kernel, Or.inl ⟨rfl, (List.mem_of_getElem? (i := 500) rfl)⟩⟩, by decide +kernel, by decide +kernel, by decide +kernel⟩
theorem wi_J_launch : Cond.instanceMethod y_J_launch ∈ lw_tbl := (List.mem_of_getElem? (i := 499) (by decide +kernel))
theorem wv_J_launch : Cond.selects y_J_launch.cls y_J_launch y_J_launch ∈ lw_tbl := (List.mem_of_getElem? (i := 15) (by decide +kernel))
abbrev c_J_waitForSlot : ByteArray := prog_1_method_30_code
def y_J_waitForSlot : MethodName := ⟨"JobRuntime", "waitForSlot", "(LJobRuntime$Job;ILJobRuntime$Job;)I"⟩
abbrev m_J_waitForSlot : jm := ("JobRuntime", "waitForSlot", c_J_waitForSlot, 3, (some .int), [])
set_option maxRecDepth 100000 in
theorem Y_J_waitForSlot : jY y_J_waitForSlot m_J_waitForSlot 3 := ⟨⟨rfl, rfl, by decide +kernel, Or.inl ⟨rfl, (List.mem_of_getElem? (i := 503) rfl)⟩⟩, by decide +kernel, by decide +kernel, by decide +kernel⟩
theorem ws_J_waitForSlot : Cond.static y_J_waitForSlot ∈ lw_tbl := (List.mem_of_getElem? (i := 502) (by decide +kernel))
theorem wn_J_waitForSlot : Cond.initialized y_J_waitForSlot.cls ∈ lw_tbl := (List.mem_of_getElem? (i := 50) (by decide +kernel))
abbrev c_J_cancelFrom : ByteArray := prog_1_method_32_code
def y_J_cancelFrom : MethodName := ⟨"JobRuntime", "cancelFrom", "(LJobRuntime$Job;I)V"⟩
abbrev m_J_cancelFrom : jm := ("JobRuntime", "cancelFrom", c_J_cancelFrom, 4, none, [])
set_option maxRecDepth 100000 in
theorem Y_J_cancelFrom : jY y_J_cancelFrom m_J_cancelFrom 2 := ⟨⟨rfl, rfl, by decide +kernel, Or.inl ⟨rfl, (List.mem_of_getElem? (i := 507) rfl)⟩⟩, by decide +kernel, by decide +kernel, by decide +kernel⟩
theorem wi_J_cancelFrom : Cond.instanceMethod y_J_cancelFrom ∈ lw_tbl := (List.mem_of_getElem? (i := 506) (by decide +kernel))
theorem wv_J_cancelFrom : Cond.selects y_J_cancelFrom.cls y_J_cancelFrom y_J_cancelFrom ∈ lw_tbl := (List.mem_of_getElem? (i := 16) (by decide +kernel))
abbrev c_J_waitForNew : ByteArray := prog_1_method_31_code
def y_J_waitForNew : MethodName := ⟨"JobRuntime", "waitForNew", "(LJobRuntime$Job;IILJobRuntime$Program;I)I"⟩
abbrev m_J_waitForNew : jm := ("JobRuntime", "waitForNew", c_J_waitForNew, 7, (some .int), [])
set_option maxRecDepth 100000 in
theorem Y_J_waitForNew : jY y_J_waitForNew m_J_waitForNew 5 := ⟨⟨rfl, rfl, by decide +kernel, Or.inl ⟨rfl, (List.mem_of_getElem? (i := 512) rfl)⟩⟩, by decide +kernel, by decide +kernel, by decide +kernel⟩
theorem wi_J_waitForNew : Cond.instanceMethod y_J_waitForNew ∈ lw_tbl := (List.mem_of_getElem? (i := 511) (by decide +kernel))
theorem wv_J_waitForNew : Cond.selects y_J_waitForNew.cls y_J_waitForNew y_J_waitForNew ∈ lw_tbl := (List.mem_of_getElem? (i := 17) (by decide +kernel))
abbrev c_J_enterFrame : ByteArray := prog_1_method_33_code
def y_J_enterFrame : MethodName := ⟨"JobRuntime", "enterFrame", "(LJobRuntime$Job;ILJobRuntime$Program;LJobRuntime$Program;)I"⟩
abbrev m_J_enterFrame : jm := ("JobRuntime", "enterFrame", c_J_enterFrame, 4, (some .int), [])
set_option maxRecDepth 100000 in
theorem Y_J_enterFrame : jY y_J_enterFrame m_J_enterFrame 4 := ⟨⟨rfl, rfl, by decide +kernel, Or.inl ⟨rfl, (List.mem_of_getElem? (i := 515) rfl)⟩⟩, by decide +kernel, by decide +kernel, by decide +kernel⟩
theorem ws_J_enterFrame : Cond.static y_J_enterFrame ∈ lw_tbl := (List.mem_of_getElem? (i := 514) (by decide +kernel))
theorem wn_J_enterFrame : Cond.initialized y_J_enterFrame.cls ∈ lw_tbl := (List.mem_of_getElem? (i := 50) (by decide +kernel))
abbrev c_J_letTimePass : ByteArray := prog_1_method_35_code
def y_J_letTimePass : MethodName := ⟨"JobRuntime", "letTimePass", "()Z"⟩
abbrev m_J_letTimePass : jm := ("JobRuntime", "letTimePass", c_J_letTimePass, 3, (some .boolean), [])
set_option maxRecDepth 100000 in
theorem Y_J_letTimePass : jY y_J_letTimePass m_J_letTimePass 0 := ⟨⟨rfl, rfl, by decide +kernel, Or.inl ⟨rfl, (List.mem_of_getElem? (i := 519) rfl)⟩⟩, by decide +kernel, by decide +kernel, by decide +kernel⟩
theorem wi_J_letTimePass : Cond.instanceMethod y_J_letTimePass ∈ lw_tbl := (List.mem_of_getElem? (i := 518) (by decide +kernel))
theorem wv_J_letTimePass : Cond.selects y_J_letTimePass.cls y_J_letTimePass y_J_letTimePass ∈ lw_tbl := (List.mem_of_getElem? (i := 18) (by decide +kernel))
abbrev c_J_nextDueJob : ByteArray := prog_1_method_36_code
def y_J_nextDueJob : MethodName := ⟨"JobRuntime", "nextDueJob", "()I"⟩
abbrev m_J_nextDueJob : jm := ("JobRuntime", "nextDueJob", c_J_nextDueJob, 4, (some .int), [])
set_option maxRecDepth 100000 in
theorem Y_J_nextDueJob : jY y_J_nextDueJob m_J_nextDueJob 0 := ⟨⟨rfl, rfl, by decide +kernel, Or.inl ⟨rfl, (List.mem_of_getElem? (i := 523) rfl)⟩⟩, by decide +kernel, by decide +kernel, by decide +kernel⟩
theorem wi_J_nextDueJob : Cond.instanceMethod y_J_nextDueJob ∈ lw_tbl := (List.mem_of_getElem? (i := 522) (by decide +kernel))
theorem wv_J_nextDueJob : Cond.selects y_J_nextDueJob.cls y_J_nextDueJob y_J_nextDueJob ∈ lw_tbl := (List.mem_of_getElem? (i := 19) (by decide +kernel))
abbrev c_B_nextTimer : ByteArray := prog_4_method_7_code
def y_B_nextTimer : MethodName := ⟨"JobRuntime$Job", "nextTimer", "()LJobRuntime$Timer;"⟩
abbrev m_B_nextTimer : jm := ("JobRuntime$Job", "nextTimer", c_B_nextTimer, 1, (some (.object "JobRuntime$Timer")), [])
set_option maxRecDepth 100000 in
theorem Y_B_nextTimer : jY y_B_nextTimer m_B_nextTimer 0 := ⟨⟨rfl, rfl, by decide +kernel, Or.inl ⟨rfl, (List.mem_of_getElem? (i := 527) rfl)⟩⟩, by decide +kernel, by decide +kernel, by decide +kernel⟩
theorem wi_B_nextTimer : Cond.instanceMethod y_B_nextTimer ∈ lw_tbl := (List.mem_of_getElem? (i := 525) (by decide +kernel))
theorem wv_B_nextTimer : Cond.selects y_B_nextTimer.cls y_B_nextTimer y_B_nextTimer ∈ lw_tbl := (List.mem_of_getElem? (i := 526) (by decide +kernel))
abbrev c_T_comesBefore : ByteArray := prog_7_method_4_code
def y_T_comesBefore : MethodName := ⟨"JobRuntime$Timer", "comesBefore", "(LJobRuntime$Timer;)Z"⟩
abbrev m_T_comesBefore : jm := ("JobRuntime$Timer", "comesBefore", c_T_comesBefore, 2, (some .boolean), [])
set_option maxRecDepth 100000 in
theorem Y_T_comesBefore : jY y_T_comesBefore m_T_comesBefore 1 := ⟨⟨rfl, rfl, by decide +kernel, Or.inl ⟨rfl, (List.mem_of_getElem? (i := 531) rfl)⟩⟩, by decide +kernel, by decide +kernel, by decide +kernel⟩
theorem wi_T_comesBefore : Cond.instanceMethod y_T_comesBefore ∈ lw_tbl := (List.mem_of_getElem? (i := 529) (by decide +kernel))
theorem wv_T_comesBefore : Cond.selects y_T_comesBefore.cls y_T_comesBefore y_T_comesBefore ∈ lw_tbl := (List.mem_of_getElem? (i := 530) (by decide +kernel))
abbrev c_J_comeDue : ByteArray := prog_1_method_37_code
def y_J_comeDue : MethodName := ⟨"JobRuntime", "comeDue", "(LJobRuntime$Job;)V"⟩
abbrev m_J_comeDue : jm := ("JobRuntime", "comeDue", c_J_comeDue, 2, none, [])
set_option maxRecDepth 100000 in
theorem Y_J_comeDue : jY y_J_comeDue m_J_comeDue 1 := ⟨⟨rfl, rfl, by decide +kernel, Or.inl ⟨rfl, (List.mem_of_getElem? (i := 536) rfl)⟩⟩, by decide +kernel, by decide +kernel, by decide +kernel⟩
theorem wi_J_comeDue : Cond.instanceMethod y_J_comeDue ∈ lw_tbl := (List.mem_of_getElem? (i := 535) (by decide +kernel))
theorem wv_J_comeDue : Cond.selects y_J_comeDue.cls y_J_comeDue y_J_comeDue ∈ lw_tbl := (List.mem_of_getElem? (i := 20) (by decide +kernel))
abbrev c_L_result : ByteArray := method_7_code
def y_L_result : MethodName := ⟨"JobRuntimeLaw", "result", "(LJobRuntime;I[J)I"⟩
abbrev m_L_result : jm := ("JobRuntimeLaw", "result", c_L_result, 4, (some .int), [(0, 9, 12, 13), (0, 9, 15, 15), (0, 9, 18, 30), (0, 9, 21, 32)])
set_option maxRecDepth 100000 in
theorem Y_L_result : jY y_L_result m_L_result 3 := ⟨⟨rfl, rfl, by decide +kernel, Or.inr (List.mem_of_getElem? (i := 539) rfl)⟩, by decide +kernel, by decide +kernel, by decide +kernel⟩
theorem ws_L_result : Cond.static y_L_result ∈ lw_tbl := (List.mem_of_getElem? (i := 538) (by decide +kernel))
theorem wn_L_result : Cond.initialized y_L_result.cls ∈ lw_tbl := (List.mem_of_getElem? (i := 49) (by decide +kernel))
abbrev c_J_result : ByteArray := prog_1_method_6_code
def y_J_result : MethodName := ⟨"JobRuntime", "result", "(I)I"⟩
abbrev m_J_result : jm := ("JobRuntime", "result", c_J_result, 3, (some .int), [])
set_option maxRecDepth 100000 in
theorem Y_J_result : jY y_J_result m_J_result 1 := ⟨⟨rfl, rfl, by decide +kernel, Or.inl ⟨rfl, (List.mem_of_getElem? (i := 545) rfl)⟩⟩, by decide +kernel, by decide +kernel, by decide +kernel⟩
theorem wi_J_result : Cond.instanceMethod y_J_result ∈ lw_tbl := (List.mem_of_getElem? (i := 543) (by decide +kernel))
theorem wv_J_result : Cond.selects y_J_result.cls y_J_result y_J_result ∈ lw_tbl := (List.mem_of_getElem? (i := 544) (by decide +kernel))
abbrev c_L_state : ByteArray := method_8_code
def y_L_state : MethodName := ⟨"JobRuntimeLaw", "state", "(LJobRuntime;I[J)I"⟩
abbrev m_L_state : jm := ("JobRuntimeLaw", "state", c_L_state, 4, (some .int), [(0, 9, 12, 13)])
set_option maxRecDepth 100000 in
theorem Y_L_state : jY y_L_state m_L_state 3 := ⟨⟨rfl, rfl, by decide +kernel, Or.inr (List.mem_of_getElem? (i := 578) rfl)⟩, by decide +kernel, by decide +kernel, by decide +kernel⟩
theorem ws_L_state : Cond.static y_L_state ∈ lw_tbl := (List.mem_of_getElem? (i := 577) (by decide +kernel))
theorem wn_L_state : Cond.initialized y_L_state.cls ∈ lw_tbl := (List.mem_of_getElem? (i := 49) (by decide +kernel))
abbrev c_J_state : ByteArray := prog_1_method_7_code
def y_J_state : MethodName := ⟨"JobRuntime", "state", "(I)I"⟩
abbrev m_J_state : jm := ("JobRuntime", "state", c_J_state, 4, (some .int), [])
set_option maxRecDepth 100000 in
theorem Y_J_state : jY y_J_state m_J_state 1 := ⟨⟨rfl, rfl, by decide +kernel, Or.inl ⟨rfl, (List.mem_of_getElem? (i := 582) rfl)⟩⟩, by decide +kernel, by decide +kernel, by decide +kernel⟩
theorem wi_J_state : Cond.instanceMethod y_J_state ∈ lw_tbl := (List.mem_of_getElem? (i := 580) (by decide +kernel))
theorem wv_J_state : Cond.selects y_J_state.cls y_J_state y_J_state ∈ lw_tbl := (List.mem_of_getElem? (i := 581) (by decide +kernel))
abbrev c_L_cause : ByteArray := method_9_code
def y_L_cause : MethodName := ⟨"JobRuntimeLaw", "cause", "(LJobRuntime;I[J)I"⟩
abbrev m_L_cause : jm := ("JobRuntimeLaw", "cause", c_L_cause, 4, (some .int), [(0, 9, 12, 13), (0, 9, 15, 32)])
set_option maxRecDepth 100000 in
theorem Y_L_cause : jY y_L_cause m_L_cause 3 := ⟨⟨rfl, rfl, by decide +kernel, Or.inr (List.mem_of_getElem? (i := 585) rfl)⟩, by decide +kernel, by decide +kernel, by decide +kernel⟩
theorem ws_L_cause : Cond.static y_L_cause ∈ lw_tbl := (List.mem_of_getElem? (i := 584) (by decide +kernel))
theorem wn_L_cause : Cond.initialized y_L_cause.cls ∈ lw_tbl := (List.mem_of_getElem? (i := 49) (by decide +kernel))
abbrev c_J_cause : ByteArray := prog_1_method_8_code
def y_J_cause : MethodName := ⟨"JobRuntime", "cause", "(I)I"⟩
abbrev m_J_cause : jm := ("JobRuntime", "cause", c_J_cause, 3, (some .int), [])
set_option maxRecDepth 100000 in
theorem Y_J_cause : jY y_J_cause m_J_cause 1 := ⟨⟨rfl, rfl, by decide +kernel, Or.inl ⟨rfl, (List.mem_of_getElem? (i := 589) rfl)⟩⟩, by decide +kernel, by decide +kernel, by decide +kernel⟩
theorem wi_J_cause : Cond.instanceMethod y_J_cause ∈ lw_tbl := (List.mem_of_getElem? (i := 587) (by decide +kernel))
theorem wv_J_cause : Cond.selects y_J_cause.cls y_J_cause y_J_cause ∈ lw_tbl := (List.mem_of_getElem? (i := 588) (by decide +kernel))
abbrev c_L_about : ByteArray := method_10_code
def y_L_about : MethodName := ⟨"JobRuntimeLaw", "about", "(LJobRuntime;II[J)I"⟩
abbrev m_L_about : jm := ("JobRuntimeLaw", "about", c_L_about, 5, (some .int), [(0, 10, 13, 13)])
set_option maxRecDepth 100000 in
theorem Y_L_about : jY y_L_about m_L_about 4 := ⟨⟨rfl, rfl, by decide +kernel, Or.inr (List.mem_of_getElem? (i := 592) rfl)⟩, by decide +kernel, by decide +kernel, by decide +kernel⟩
theorem ws_L_about : Cond.static y_L_about ∈ lw_tbl := (List.mem_of_getElem? (i := 591) (by decide +kernel))
theorem wn_L_about : Cond.initialized y_L_about.cls ∈ lw_tbl := (List.mem_of_getElem? (i := 49) (by decide +kernel))
abbrev c_J_about : ByteArray := prog_1_method_9_code
def y_J_about : MethodName := ⟨"JobRuntime", "about", "(II)I"⟩
abbrev m_J_about : jm := ("JobRuntime", "about", c_J_about, 4, (some .int), [])
set_option maxRecDepth 100000 in
theorem Y_J_about : jY y_J_about m_J_about 2 := ⟨⟨rfl, rfl, by decide +kernel, Or.inl ⟨rfl, (List.mem_of_getElem? (i := 596) rfl)⟩⟩, by decide +kernel, by decide +kernel, by decide +kernel⟩
theorem wi_J_about : Cond.instanceMethod y_J_about ∈ lw_tbl := (List.mem_of_getElem? (i := 594) (by decide +kernel))
theorem wv_J_about : Cond.selects y_J_about.cls y_J_about y_J_about ∈ lw_tbl := (List.mem_of_getElem? (i := 595) (by decide +kernel))
abbrev c_J_numberOf : ByteArray := prog_1_method_15_code
def y_J_numberOf : MethodName := ⟨"JobRuntime", "numberOf", "(LJobRuntime$Job;)I"⟩
abbrev m_J_numberOf : jm := ("JobRuntime", "numberOf", c_J_numberOf, 1, (some .int), [])
set_option maxRecDepth 100000 in
theorem Y_J_numberOf : jY y_J_numberOf m_J_numberOf 1 := ⟨⟨rfl, rfl, by decide +kernel, Or.inl ⟨rfl, (List.mem_of_getElem? (i := 599) rfl)⟩⟩, by decide +kernel, by decide +kernel, by decide +kernel⟩
theorem ws_J_numberOf : Cond.static y_J_numberOf ∈ lw_tbl := (List.mem_of_getElem? (i := 598) (by decide +kernel))
theorem wn_J_numberOf : Cond.initialized y_J_numberOf.cls ∈ lw_tbl := (List.mem_of_getElem? (i := 50) (by decide +kernel))
abbrev c_L_noted : ByteArray := method_11_code
def y_L_noted : MethodName := ⟨"JobRuntimeLaw", "noted", "(LJobRuntime;I[J)I"⟩
abbrev m_L_noted : jm := ("JobRuntimeLaw", "noted", c_L_noted, 4, (some .int), [(0, 9, 12, 32)])
set_option maxRecDepth 100000 in
theorem Y_L_noted : jY y_L_noted m_L_noted 3 := ⟨⟨rfl, rfl, by decide +kernel, Or.inr (List.mem_of_getElem? (i := 602) rfl)⟩, by decide +kernel, by decide +kernel, by decide +kernel⟩
theorem ws_L_noted : Cond.static y_L_noted ∈ lw_tbl := (List.mem_of_getElem? (i := 601) (by decide +kernel))
theorem wn_L_noted : Cond.initialized y_L_noted.cls ∈ lw_tbl := (List.mem_of_getElem? (i := 49) (by decide +kernel))
abbrev c_J_noted : ByteArray := prog_1_method_10_code
def y_J_noted : MethodName := ⟨"JobRuntime", "noted", "(I)I"⟩
abbrev m_J_noted : jm := ("JobRuntime", "noted", c_J_noted, 2, (some .int), [])
set_option maxRecDepth 100000 in
theorem Y_J_noted : jY y_J_noted m_J_noted 1 := ⟨⟨rfl, rfl, by decide +kernel, Or.inl ⟨rfl, (List.mem_of_getElem? (i := 606) rfl)⟩⟩, by decide +kernel, by decide +kernel, by decide +kernel⟩
theorem wi_J_noted : Cond.instanceMethod y_J_noted ∈ lw_tbl := (List.mem_of_getElem? (i := 604) (by decide +kernel))
theorem wv_J_noted : Cond.selects y_J_noted.cls y_J_noted y_J_noted ∈ lw_tbl := (List.mem_of_getElem? (i := 605) (by decide +kernel))
abbrev c_R_init : ByteArray := prog_9_method_1_code
def y_R_init : MethodName := ⟨"JobRuntimeModel", "<init>", "()V"⟩
abbrev m_R_init : jm := ("JobRuntimeModel", "<init>", c_R_init, 1, none, [])
set_option maxRecDepth 100000 in
theorem Y_R_init : jY y_R_init m_R_init 0 := ⟨⟨rfl, rfl, by decide +kernel, Or.inl ⟨rfl, (List.mem_of_getElem? (i := 611) rfl)⟩⟩, by decide +kernel, by decide +kernel, by decide +kernel⟩
set_option maxRecDepth 100000 in
theorem I_R_init : y_R_init.name = "<init>" ∧ m_R_init.2.2.2.2.1 = none ∧ Cond.code y_R_init m_R_init.2.2.1 m_R_init.2.2.2.1 none ∈ lw_tbl := ⟨rfl, rfl, (List.mem_of_getElem? (i := 611) rfl)⟩
theorem wi_R_init : Cond.instanceMethod y_R_init ∈ lw_tbl := (List.mem_of_getElem? (i := 610) (by decide +kernel))
abbrev c_R_thrown : ByteArray := prog_9_method_2_code
def y_R_thrown : MethodName := ⟨"JobRuntimeModel", "thrown", "()I"⟩
abbrev m_R_thrown : jm := ("JobRuntimeModel", "thrown", c_R_thrown, 1, (some .int), [])
set_option maxRecDepth 100000 in
theorem Y_R_thrown : jY y_R_thrown m_R_thrown 0 := ⟨⟨rfl, rfl, by decide +kernel, Or.inl ⟨rfl, (List.mem_of_getElem? (i := 741) rfl)⟩⟩, by decide +kernel, by decide +kernel, by decide +kernel⟩
theorem wi_R_thrown : Cond.instanceMethod y_R_thrown ∈ lw_tbl := (List.mem_of_getElem? (i := 739) (by decide +kernel))
theorem wv_R_thrown : Cond.selects y_R_thrown.cls y_R_thrown y_R_thrown ∈ lw_tbl := (List.mem_of_getElem? (i := 740) (by decide +kernel))
abbrev c_R_act : ByteArray := prog_9_method_7_code
def y_R_act : MethodName := ⟨"JobRuntimeModel", "act", "(IIII)I"⟩
abbrev m_R_act : jm := ("JobRuntimeModel", "act", c_R_act, 6, (some .int), [])
set_option maxRecDepth 100000 in
theorem Y_R_act : jY y_R_act m_R_act 4 := ⟨⟨rfl, rfl, by decide +kernel, Or.inl ⟨rfl, (List.mem_of_getElem? (i := 745) rfl)⟩⟩, by decide +kernel, by decide +kernel, by decide +kernel⟩
theorem wi_R_act : Cond.instanceMethod y_R_act ∈ lw_tbl := (List.mem_of_getElem? (i := 743) (by decide +kernel))
theorem wv_R_act : Cond.selects y_R_act.cls y_R_act y_R_act ∈ lw_tbl := (List.mem_of_getElem? (i := 744) (by decide +kernel))
abbrev c_R_out : ByteArray := prog_9_method_5_code
def y_R_out : MethodName := ⟨"JobRuntimeModel", "out", "(III)Z"⟩
abbrev m_R_out : jm := ("JobRuntimeModel", "out", c_R_out, 4, (some .boolean), [])
set_option maxRecDepth 100000 in
theorem Y_R_out : jY y_R_out m_R_out 3 := ⟨⟨rfl, rfl, by decide +kernel, Or.inl ⟨rfl, (List.mem_of_getElem? (i := 749) rfl)⟩⟩, by decide +kernel, by decide +kernel, by decide +kernel⟩
theorem wi_R_out : Cond.instanceMethod y_R_out ∈ lw_tbl := (List.mem_of_getElem? (i := 748) (by decide +kernel))
theorem wv_R_out : Cond.selects y_R_out.cls y_R_out y_R_out ∈ lw_tbl := (List.mem_of_getElem? (i := 21) (by decide +kernel))
abbrev c_R_wrong : ByteArray := prog_9_method_6_code
def y_R_wrong : MethodName := ⟨"JobRuntimeModel", "wrong", "(III)Z"⟩
abbrev m_R_wrong : jm := ("JobRuntimeModel", "wrong", c_R_wrong, 4, (some .boolean), [])
set_option maxRecDepth 100000 in
theorem Y_R_wrong : jY y_R_wrong m_R_wrong 3 := ⟨⟨rfl, rfl, by decide +kernel, Or.inl ⟨rfl, (List.mem_of_getElem? (i := 753) rfl)⟩⟩, by decide +kernel, by decide +kernel, by decide +kernel⟩
theorem wi_R_wrong : Cond.instanceMethod y_R_wrong ∈ lw_tbl := (List.mem_of_getElem? (i := 752) (by decide +kernel))
theorem wv_R_wrong : Cond.selects y_R_wrong.cls y_R_wrong y_R_wrong ∈ lw_tbl := (List.mem_of_getElem? (i := 22) (by decide +kernel))
abbrev c_R_refuse : ByteArray := prog_9_method_3_code
def y_R_refuse : MethodName := ⟨"JobRuntimeModel", "refuse", "(I)I"⟩
abbrev m_R_refuse : jm := ("JobRuntimeModel", "refuse", c_R_refuse, 2, (some .int), [])
set_option maxRecDepth 100000 in
theorem Y_R_refuse : jY y_R_refuse m_R_refuse 1 := ⟨⟨rfl, rfl, by decide +kernel, Or.inl ⟨rfl, (List.mem_of_getElem? (i := 757) rfl)⟩⟩, by decide +kernel, by decide +kernel, by decide +kernel⟩
theorem wi_R_refuse : Cond.instanceMethod y_R_refuse ∈ lw_tbl := (List.mem_of_getElem? (i := 756) (by decide +kernel))
theorem wv_R_refuse : Cond.selects y_R_refuse.cls y_R_refuse y_R_refuse ∈ lw_tbl := (List.mem_of_getElem? (i := 23) (by decide +kernel))
abbrev c_R_fine : ByteArray := prog_9_method_4_code
def y_R_fine : MethodName := ⟨"JobRuntimeModel", "fine", "(I)I"⟩
abbrev m_R_fine : jm := ("JobRuntimeModel", "fine", c_R_fine, 2, (some .int), [])
set_option maxRecDepth 100000 in
theorem Y_R_fine : jY y_R_fine m_R_fine 1 := ⟨⟨rfl, rfl, by decide +kernel, Or.inl ⟨rfl, (List.mem_of_getElem? (i := 761) rfl)⟩⟩, by decide +kernel, by decide +kernel, by decide +kernel⟩
theorem wi_R_fine : Cond.instanceMethod y_R_fine ∈ lw_tbl := (List.mem_of_getElem? (i := 760) (by decide +kernel))
theorem wv_R_fine : Cond.selects y_R_fine.cls y_R_fine y_R_fine ∈ lw_tbl := (List.mem_of_getElem? (i := 24) (by decide +kernel))
abbrev c_R_start : ByteArray := prog_9_method_11_code
def y_R_start : MethodName := ⟨"JobRuntimeModel", "start", "(I)I"⟩
abbrev m_R_start : jm := ("JobRuntimeModel", "start", c_R_start, 2, (some .int), [])
set_option maxRecDepth 100000 in
theorem Y_R_start : jY y_R_start m_R_start 1 := ⟨⟨rfl, rfl, by decide +kernel, Or.inl ⟨rfl, (List.mem_of_getElem? (i := 765) rfl)⟩⟩, by decide +kernel, by decide +kernel, by decide +kernel⟩
theorem wi_R_start : Cond.instanceMethod y_R_start ∈ lw_tbl := (List.mem_of_getElem? (i := 763) (by decide +kernel))
theorem wv_R_start : Cond.selects y_R_start.cls y_R_start y_R_start ∈ lw_tbl := (List.mem_of_getElem? (i := 764) (by decide +kernel))
abbrev c_R_begin : ByteArray := prog_9_method_9_code
def y_R_begin : MethodName := ⟨"JobRuntimeModel", "begin", "(III)I"⟩
abbrev m_R_begin : jm := ("JobRuntimeModel", "begin", c_R_begin, 6, (some .int), [])
set_option maxRecDepth 100000 in
theorem Y_R_begin : jY y_R_begin m_R_begin 3 := ⟨⟨rfl, rfl, by decide +kernel, Or.inl ⟨rfl, (List.mem_of_getElem? (i := 769) rfl)⟩⟩, by decide +kernel, by decide +kernel, by decide +kernel⟩
theorem wi_R_begin : Cond.instanceMethod y_R_begin ∈ lw_tbl := (List.mem_of_getElem? (i := 768) (by decide +kernel))
theorem wv_R_begin : Cond.selects y_R_begin.cls y_R_begin y_R_begin ∈ lw_tbl := (List.mem_of_getElem? (i := 25) (by decide +kernel))
abbrev c_R_pushFrame : ByteArray := prog_9_method_10_code
def y_R_pushFrame : MethodName := ⟨"JobRuntimeModel", "pushFrame", "(IIIII)V"⟩
abbrev m_R_pushFrame : jm := ("JobRuntimeModel", "pushFrame", c_R_pushFrame, 7, none, [])
set_option maxRecDepth 100000 in
theorem Y_R_pushFrame : jY y_R_pushFrame m_R_pushFrame 5 := ⟨⟨rfl, rfl, by decide +kernel, Or.inl ⟨rfl, (List.mem_of_getElem? (i := 773) rfl)⟩⟩, by decide +kernel, by decide +kernel, by decide +kernel⟩
theorem wi_R_pushFrame : Cond.instanceMethod y_R_pushFrame ∈ lw_tbl := (List.mem_of_getElem? (i := 772) (by decide +kernel))
theorem wv_R_pushFrame : Cond.selects y_R_pushFrame.cls y_R_pushFrame y_R_pushFrame ∈ lw_tbl := (List.mem_of_getElem? (i := 26) (by decide +kernel))
abbrev c_R_putReady : ByteArray := prog_9_method_8_code
def y_R_putReady : MethodName := ⟨"JobRuntimeModel", "putReady", "(II)V"⟩
abbrev m_R_putReady : jm := ("JobRuntimeModel", "putReady", c_R_putReady, 3, none, [])
set_option maxRecDepth 100000 in
theorem Y_R_putReady : jY y_R_putReady m_R_putReady 2 := ⟨⟨rfl, rfl, by decide +kernel, Or.inl ⟨rfl, (List.mem_of_getElem? (i := 777) rfl)⟩⟩, by decide +kernel, by decide +kernel, by decide +kernel⟩
theorem wi_R_putReady : Cond.instanceMethod y_R_putReady ∈ lw_tbl := (List.mem_of_getElem? (i := 776) (by decide +kernel))
theorem wv_R_putReady : Cond.selects y_R_putReady.cls y_R_putReady y_R_putReady ∈ lw_tbl := (List.mem_of_getElem? (i := 27) (by decide +kernel))
abbrev c_R_cancel : ByteArray := prog_9_method_16_code
def y_R_cancel : MethodName := ⟨"JobRuntimeModel", "cancel", "(I)I"⟩
abbrev m_R_cancel : jm := ("JobRuntimeModel", "cancel", c_R_cancel, 2, (some .int), [])
set_option maxRecDepth 100000 in
theorem Y_R_cancel : jY y_R_cancel m_R_cancel 1 := ⟨⟨rfl, rfl, by decide +kernel, Or.inl ⟨rfl, (List.mem_of_getElem? (i := 781) rfl)⟩⟩, by decide +kernel, by decide +kernel, by decide +kernel⟩
theorem wi_R_cancel : Cond.instanceMethod y_R_cancel ∈ lw_tbl := (List.mem_of_getElem? (i := 779) (by decide +kernel))
theorem wv_R_cancel : Cond.selects y_R_cancel.cls y_R_cancel y_R_cancel ∈ lw_tbl := (List.mem_of_getElem? (i := 780) (by decide +kernel))
abbrev c_R_give : ByteArray := prog_9_method_15_code
def y_R_give : MethodName := ⟨"JobRuntimeModel", "give", "(II)Z"⟩
abbrev m_R_give : jm := ("JobRuntimeModel", "give", c_R_give, 6, (some .boolean), [])
set_option maxRecDepth 100000 in
theorem Y_R_give : jY y_R_give m_R_give 2 := ⟨⟨rfl, rfl, by decide +kernel, Or.inl ⟨rfl, (List.mem_of_getElem? (i := 785) rfl)⟩⟩, by decide +kernel, by decide +kernel, by decide +kernel⟩
theorem wi_R_give : Cond.instanceMethod y_R_give ∈ lw_tbl := (List.mem_of_getElem? (i := 784) (by decide +kernel))
theorem wv_R_give : Cond.selects y_R_give.cls y_R_give y_R_give ∈ lw_tbl := (List.mem_of_getElem? (i := 28) (by decide +kernel))
abbrev c_R_nextChild : ByteArray := prog_9_method_14_code
def y_R_nextChild : MethodName := ⟨"JobRuntimeModel", "nextChild", "(II)I"⟩
abbrev m_R_nextChild : jm := ("JobRuntimeModel", "nextChild", c_R_nextChild, 4, (some .int), [])
set_option maxRecDepth 100000 in
theorem Y_R_nextChild : jY y_R_nextChild m_R_nextChild 2 := ⟨⟨rfl, rfl, by decide +kernel, Or.inl ⟨rfl, (List.mem_of_getElem? (i := 789) rfl)⟩⟩, by decide +kernel, by decide +kernel, by decide +kernel⟩
theorem wi_R_nextChild : Cond.instanceMethod y_R_nextChild ∈ lw_tbl := (List.mem_of_getElem? (i := 788) (by decide +kernel))
theorem wv_R_nextChild : Cond.selects y_R_nextChild.cls y_R_nextChild y_R_nextChild ∈ lw_tbl := (List.mem_of_getElem? (i := 29) (by decide +kernel))
abbrev c_R_shielded : ByteArray := prog_9_method_12_code
def y_R_shielded : MethodName := ⟨"JobRuntimeModel", "shielded", "(I)Z"⟩
abbrev m_R_shielded : jm := ("JobRuntimeModel", "shielded", c_R_shielded, 3, (some .boolean), [])
set_option maxRecDepth 100000 in
theorem Y_R_shielded : jY y_R_shielded m_R_shielded 1 := ⟨⟨rfl, rfl, by decide +kernel, Or.inl ⟨rfl, (List.mem_of_getElem? (i := 793) rfl)⟩⟩, by decide +kernel, by decide +kernel, by decide +kernel⟩
theorem wi_R_shielded : Cond.instanceMethod y_R_shielded ∈ lw_tbl := (List.mem_of_getElem? (i := 792) (by decide +kernel))
theorem wv_R_shielded : Cond.selects y_R_shielded.cls y_R_shielded y_R_shielded ∈ lw_tbl := (List.mem_of_getElem? (i := 30) (by decide +kernel))
abbrev c_R_run : ByteArray := prog_9_method_32_code
def y_R_run : MethodName := ⟨"JobRuntimeModel", "run", "(I)I"⟩
abbrev m_R_run : jm := ("JobRuntimeModel", "run", c_R_run, 6, (some .int), [])
set_option maxRecDepth 100000 in
theorem Y_R_run : jY y_R_run m_R_run 1 := ⟨⟨rfl, rfl, by decide +kernel, Or.inl ⟨rfl, (List.mem_of_getElem? (i := 797) rfl)⟩⟩, by decide +kernel, by decide +kernel, by decide +kernel⟩
theorem wi_R_run : Cond.instanceMethod y_R_run ∈ lw_tbl := (List.mem_of_getElem? (i := 795) (by decide +kernel))
theorem wv_R_run : Cond.selects y_R_run.cls y_R_run y_R_run ∈ lw_tbl := (List.mem_of_getElem? (i := 796) (by decide +kernel))
abbrev c_R_timeGoesOn : ByteArray := prog_9_method_31_code
def y_R_timeGoesOn : MethodName := ⟨"JobRuntimeModel", "timeGoesOn", "()Z"⟩
abbrev m_R_timeGoesOn : jm := ("JobRuntimeModel", "timeGoesOn", c_R_timeGoesOn, 3, (some .boolean), [])
set_option maxRecDepth 100000 in
theorem Y_R_timeGoesOn : jY y_R_timeGoesOn m_R_timeGoesOn 0 := ⟨⟨rfl, rfl, by decide +kernel, Or.inl ⟨rfl, (List.mem_of_getElem? (i := 801) rfl)⟩⟩, by decide +kernel, by decide +kernel, by decide +kernel⟩
theorem wi_R_timeGoesOn : Cond.instanceMethod y_R_timeGoesOn ∈ lw_tbl := (List.mem_of_getElem? (i := 800) (by decide +kernel))
theorem wv_R_timeGoesOn : Cond.selects y_R_timeGoesOn.cls y_R_timeGoesOn y_R_timeGoesOn ∈ lw_tbl := (List.mem_of_getElem? (i := 31) (by decide +kernel))
abbrev c_R_earliest : ByteArray := prog_9_method_29_code
def y_R_earliest : MethodName := ⟨"JobRuntimeModel", "earliest", "()I"⟩
abbrev m_R_earliest : jm := ("JobRuntimeModel", "earliest", c_R_earliest, 3, (some .int), [])
set_option maxRecDepth 100000 in
theorem Y_R_earliest : jY y_R_earliest m_R_earliest 0 := ⟨⟨rfl, rfl, by decide +kernel, Or.inl ⟨rfl, (List.mem_of_getElem? (i := 805) rfl)⟩⟩, by decide +kernel, by decide +kernel, by decide +kernel⟩
theorem wi_R_earliest : Cond.instanceMethod y_R_earliest ∈ lw_tbl := (List.mem_of_getElem? (i := 804) (by decide +kernel))
theorem wv_R_earliest : Cond.selects y_R_earliest.cls y_R_earliest y_R_earliest ∈ lw_tbl := (List.mem_of_getElem? (i := 32) (by decide +kernel))
abbrev c_R_oneDue : ByteArray := prog_9_method_30_code
def y_R_oneDue : MethodName := ⟨"JobRuntimeModel", "oneDue", "()Z"⟩
abbrev m_R_oneDue : jm := ("JobRuntimeModel", "oneDue", c_R_oneDue, 5, (some .boolean), [])
set_option maxRecDepth 100000 in
theorem Y_R_oneDue : jY y_R_oneDue m_R_oneDue 0 := ⟨⟨rfl, rfl, by decide +kernel, Or.inl ⟨rfl, (List.mem_of_getElem? (i := 809) rfl)⟩⟩, by decide +kernel, by decide +kernel, by decide +kernel⟩
theorem wi_R_oneDue : Cond.instanceMethod y_R_oneDue ∈ lw_tbl := (List.mem_of_getElem? (i := 808) (by decide +kernel))
theorem wv_R_oneDue : Cond.selects y_R_oneDue.cls y_R_oneDue y_R_oneDue ∈ lw_tbl := (List.mem_of_getElem? (i := 33) (by decide +kernel))
abbrev c_R_resume : ByteArray := prog_9_method_28_code
def y_R_resume : MethodName := ⟨"JobRuntimeModel", "resume", "(I)V"⟩
abbrev m_R_resume : jm := ("JobRuntimeModel", "resume", c_R_resume, 3, none, [])
set_option maxRecDepth 100000 in
theorem Y_R_resume : jY y_R_resume m_R_resume 1 := ⟨⟨rfl, rfl, by decide +kernel, Or.inl ⟨rfl, (List.mem_of_getElem? (i := 813) rfl)⟩⟩, by decide +kernel, by decide +kernel, by decide +kernel⟩
theorem wi_R_resume : Cond.instanceMethod y_R_resume ∈ lw_tbl := (List.mem_of_getElem? (i := 812) (by decide +kernel))
theorem wv_R_resume : Cond.selects y_R_resume.cls y_R_resume y_R_resume ∈ lw_tbl := (List.mem_of_getElem? (i := 34) (by decide +kernel))
abbrev c_R_throwAt : ByteArray := prog_9_method_21_code
def y_R_throwAt : MethodName := ⟨"JobRuntimeModel", "throwAt", "(II)V"⟩
abbrev m_R_throwAt : jm := ("JobRuntimeModel", "throwAt", c_R_throwAt, 5, none, [])
set_option maxRecDepth 100000 in
theorem Y_R_throwAt : jY y_R_throwAt m_R_throwAt 2 := ⟨⟨rfl, rfl, by decide +kernel, Or.inl ⟨rfl, (List.mem_of_getElem? (i := 817) rfl)⟩⟩, by decide +kernel, by decide +kernel, by decide +kernel⟩
theorem wi_R_throwAt : Cond.instanceMethod y_R_throwAt ∈ lw_tbl := (List.mem_of_getElem? (i := 816) (by decide +kernel))
theorem wv_R_throwAt : Cond.selects y_R_throwAt.cls y_R_throwAt y_R_throwAt ∈ lw_tbl := (List.mem_of_getElem? (i := 35) (by decide +kernel))
abbrev c_R_bodyEnds : ByteArray := prog_9_method_20_code
def y_R_bodyEnds : MethodName := ⟨"JobRuntimeModel", "bodyEnds", "(I)V"⟩
abbrev m_R_bodyEnds : jm := ("JobRuntimeModel", "bodyEnds", c_R_bodyEnds, 2, none, [])
set_option maxRecDepth 100000 in
theorem Y_R_bodyEnds : jY y_R_bodyEnds m_R_bodyEnds 1 := ⟨⟨rfl, rfl, by decide +kernel, Or.inl ⟨rfl, (List.mem_of_getElem? (i := 821) rfl)⟩⟩, by decide +kernel, by decide +kernel, by decide +kernel⟩
theorem wi_R_bodyEnds : Cond.instanceMethod y_R_bodyEnds ∈ lw_tbl := (List.mem_of_getElem? (i := 820) (by decide +kernel))
theorem wv_R_bodyEnds : Cond.selects y_R_bodyEnds.cls y_R_bodyEnds y_R_bodyEnds ∈ lw_tbl := (List.mem_of_getElem? (i := 36) (by decide +kernel))
abbrev c_R_finish : ByteArray := prog_9_method_19_code
def y_R_finish : MethodName := ⟨"JobRuntimeModel", "finish", "(I)V"⟩
abbrev m_R_finish : jm := ("JobRuntimeModel", "finish", c_R_finish, 5, none, [])
set_option maxRecDepth 100000 in
theorem Y_R_finish : jY y_R_finish m_R_finish 1 := ⟨⟨rfl, rfl, by decide +kernel, Or.inl ⟨rfl, (List.mem_of_getElem? (i := 825) rfl)⟩⟩, by decide +kernel, by decide +kernel, by decide +kernel⟩
theorem wi_R_finish : Cond.instanceMethod y_R_finish ∈ lw_tbl := (List.mem_of_getElem? (i := 824) (by decide +kernel))
theorem wv_R_finish : Cond.selects y_R_finish.cls y_R_finish y_R_finish ∈ lw_tbl := (List.mem_of_getElem? (i := 37) (by decide +kernel))
abbrev c_R_firstWaiter : ByteArray := prog_9_method_18_code
def y_R_firstWaiter : MethodName := ⟨"JobRuntimeModel", "firstWaiter", "(I)I"⟩
abbrev m_R_firstWaiter : jm := ("JobRuntimeModel", "firstWaiter", c_R_firstWaiter, 4, (some .int), [])
set_option maxRecDepth 100000 in
theorem Y_R_firstWaiter : jY y_R_firstWaiter m_R_firstWaiter 1 := ⟨⟨rfl, rfl, by decide +kernel, Or.inl ⟨rfl, (List.mem_of_getElem? (i := 829) rfl)⟩⟩, by decide +kernel, by decide +kernel, by decide +kernel⟩
theorem wi_R_firstWaiter : Cond.instanceMethod y_R_firstWaiter ∈ lw_tbl := (List.mem_of_getElem? (i := 828) (by decide +kernel))
theorem wv_R_firstWaiter : Cond.selects y_R_firstWaiter.cls y_R_firstWaiter y_R_firstWaiter ∈ lw_tbl := (List.mem_of_getElem? (i := 38) (by decide +kernel))
abbrev c_R_wake : ByteArray := prog_9_method_17_code
def y_R_wake : MethodName := ⟨"JobRuntimeModel", "wake", "(II)V"⟩
abbrev m_R_wake : jm := ("JobRuntimeModel", "wake", c_R_wake, 3, none, [])
set_option maxRecDepth 100000 in
theorem Y_R_wake : jY y_R_wake m_R_wake 2 := ⟨⟨rfl, rfl, by decide +kernel, Or.inl ⟨rfl, (List.mem_of_getElem? (i := 833) rfl)⟩⟩, by decide +kernel, by decide +kernel, by decide +kernel⟩
theorem wi_R_wake : Cond.instanceMethod y_R_wake ∈ lw_tbl := (List.mem_of_getElem? (i := 832) (by decide +kernel))
theorem wv_R_wake : Cond.selects y_R_wake.cls y_R_wake y_R_wake ∈ lw_tbl := (List.mem_of_getElem? (i := 39) (by decide +kernel))
abbrev c_R_write : ByteArray := prog_9_method_13_code
def y_R_write : MethodName := ⟨"JobRuntimeModel", "write", "(I)V"⟩
abbrev m_R_write : jm := ("JobRuntimeModel", "write", c_R_write, 2, none, [])
set_option maxRecDepth 100000 in
theorem Y_R_write : jY y_R_write m_R_write 1 := ⟨⟨rfl, rfl, by decide +kernel, Or.inl ⟨rfl, (List.mem_of_getElem? (i := 837) rfl)⟩⟩, by decide +kernel, by decide +kernel, by decide +kernel⟩
theorem wi_R_write : Cond.instanceMethod y_R_write ∈ lw_tbl := (List.mem_of_getElem? (i := 836) (by decide +kernel))
theorem wv_R_write : Cond.selects y_R_write.cls y_R_write y_R_write ∈ lw_tbl := (List.mem_of_getElem? (i := 40) (by decide +kernel))
abbrev c_R_frameEnds : ByteArray := prog_9_method_22_code
def y_R_frameEnds : MethodName := ⟨"JobRuntimeModel", "frameEnds", "(I)V"⟩
abbrev m_R_frameEnds : jm := ("JobRuntimeModel", "frameEnds", c_R_frameEnds, 4, none, [])
set_option maxRecDepth 100000 in
theorem Y_R_frameEnds : jY y_R_frameEnds m_R_frameEnds 1 := ⟨⟨rfl, rfl, by decide +kernel, Or.inl ⟨rfl, (List.mem_of_getElem? (i := 841) rfl)⟩⟩, by decide +kernel, by decide +kernel, by decide +kernel⟩
theorem wi_R_frameEnds : Cond.instanceMethod y_R_frameEnds ∈ lw_tbl := (List.mem_of_getElem? (i := 840) (by decide +kernel))
theorem wv_R_frameEnds : Cond.selects y_R_frameEnds.cls y_R_frameEnds y_R_frameEnds ∈ lw_tbl := (List.mem_of_getElem? (i := 41) (by decide +kernel))
abbrev c_R_doAction : ByteArray := prog_9_method_27_code
def y_R_doAction : MethodName := ⟨"JobRuntimeModel", "doAction", "(I)V"⟩
abbrev m_R_doAction : jm := ("JobRuntimeModel", "doAction", c_R_doAction, 10, none, [])
set_option maxRecDepth 100000 in
theorem Y_R_doAction : jY y_R_doAction m_R_doAction 1 := ⟨⟨rfl, rfl, by decide +kernel, Or.inl ⟨rfl, (List.mem_of_getElem? (i := 845) rfl)⟩⟩, by decide +kernel, by decide +kernel, by decide +kernel⟩
theorem wi_R_doAction : Cond.instanceMethod y_R_doAction ∈ lw_tbl := (List.mem_of_getElem? (i := 844) (by decide +kernel))
theorem wv_R_doAction : Cond.selects y_R_doAction.cls y_R_doAction y_R_doAction ∈ lw_tbl := (List.mem_of_getElem? (i := 42) (by decide +kernel))
abbrev c_R_waitIn : ByteArray := prog_9_method_23_code
def y_R_waitIn : MethodName := ⟨"JobRuntimeModel", "waitIn", "(III)V"⟩
abbrev m_R_waitIn : jm := ("JobRuntimeModel", "waitIn", c_R_waitIn, 4, none, [])
set_option maxRecDepth 100000 in
theorem Y_R_waitIn : jY y_R_waitIn m_R_waitIn 3 := ⟨⟨rfl, rfl, by decide +kernel, Or.inl ⟨rfl, (List.mem_of_getElem? (i := 849) rfl)⟩⟩, by decide +kernel, by decide +kernel, by decide +kernel⟩
theorem wi_R_waitIn : Cond.instanceMethod y_R_waitIn ∈ lw_tbl := (List.mem_of_getElem? (i := 848) (by decide +kernel))
theorem wv_R_waitIn : Cond.selects y_R_waitIn.cls y_R_waitIn y_R_waitIn ∈ lw_tbl := (List.mem_of_getElem? (i := 43) (by decide +kernel))
abbrev c_R_awaits : ByteArray := prog_9_method_24_code
def y_R_awaits : MethodName := ⟨"JobRuntimeModel", "awaits", "(III)V"⟩
abbrev m_R_awaits : jm := ("JobRuntimeModel", "awaits", c_R_awaits, 4, none, [])
set_option maxRecDepth 100000 in
theorem Y_R_awaits : jY y_R_awaits m_R_awaits 3 := ⟨⟨rfl, rfl, by decide +kernel, Or.inl ⟨rfl, (List.mem_of_getElem? (i := 853) rfl)⟩⟩, by decide +kernel, by decide +kernel, by decide +kernel⟩
theorem wi_R_awaits : Cond.instanceMethod y_R_awaits ∈ lw_tbl := (List.mem_of_getElem? (i := 852) (by decide +kernel))
theorem wv_R_awaits : Cond.selects y_R_awaits.cls y_R_awaits y_R_awaits ∈ lw_tbl := (List.mem_of_getElem? (i := 44) (by decide +kernel))
abbrev c_R_scope : ByteArray := prog_9_method_25_code
def y_R_scope : MethodName := ⟨"JobRuntimeModel", "scope", "(IIII)V"⟩
abbrev m_R_scope : jm := ("JobRuntimeModel", "scope", c_R_scope, 6, none, [])
set_option maxRecDepth 100000 in
theorem Y_R_scope : jY y_R_scope m_R_scope 4 := ⟨⟨rfl, rfl, by decide +kernel, Or.inl ⟨rfl, (List.mem_of_getElem? (i := 857) rfl)⟩⟩, by decide +kernel, by decide +kernel, by decide +kernel⟩
theorem wi_R_scope : Cond.instanceMethod y_R_scope ∈ lw_tbl := (List.mem_of_getElem? (i := 856) (by decide +kernel))
theorem wv_R_scope : Cond.selects y_R_scope.cls y_R_scope y_R_scope ∈ lw_tbl := (List.mem_of_getElem? (i := 45) (by decide +kernel))
abbrev c_R_frame : ByteArray := prog_9_method_26_code
def y_R_frame : MethodName := ⟨"JobRuntimeModel", "frame", "(IIII)V"⟩
abbrev m_R_frame : jm := ("JobRuntimeModel", "frame", c_R_frame, 5, none, [])
set_option maxRecDepth 100000 in
theorem Y_R_frame : jY y_R_frame m_R_frame 4 := ⟨⟨rfl, rfl, by decide +kernel, Or.inl ⟨rfl, (List.mem_of_getElem? (i := 861) rfl)⟩⟩, by decide +kernel, by decide +kernel, by decide +kernel⟩
theorem wi_R_frame : Cond.instanceMethod y_R_frame ∈ lw_tbl := (List.mem_of_getElem? (i := 860) (by decide +kernel))
theorem wv_R_frame : Cond.selects y_R_frame.cls y_R_frame y_R_frame ∈ lw_tbl := (List.mem_of_getElem? (i := 46) (by decide +kernel))
abbrev c_R_result : ByteArray := prog_9_method_34_code
def y_R_result : MethodName := ⟨"JobRuntimeModel", "result", "(I)I"⟩
abbrev m_R_result : jm := ("JobRuntimeModel", "result", c_R_result, 2, (some .int), [])
set_option maxRecDepth 100000 in
theorem Y_R_result : jY y_R_result m_R_result 1 := ⟨⟨rfl, rfl, by decide +kernel, Or.inl ⟨rfl, (List.mem_of_getElem? (i := 865) rfl)⟩⟩, by decide +kernel, by decide +kernel, by decide +kernel⟩
theorem wi_R_result : Cond.instanceMethod y_R_result ∈ lw_tbl := (List.mem_of_getElem? (i := 863) (by decide +kernel))
theorem wv_R_result : Cond.selects y_R_result.cls y_R_result y_R_result ∈ lw_tbl := (List.mem_of_getElem? (i := 864) (by decide +kernel))
abbrev c_R_no : ByteArray := prog_9_method_33_code
def y_R_no : MethodName := ⟨"JobRuntimeModel", "no", "(I)Z"⟩
abbrev m_R_no : jm := ("JobRuntimeModel", "no", c_R_no, 2, (some .boolean), [])
set_option maxRecDepth 100000 in
theorem Y_R_no : jY y_R_no m_R_no 1 := ⟨⟨rfl, rfl, by decide +kernel, Or.inl ⟨rfl, (List.mem_of_getElem? (i := 869) rfl)⟩⟩, by decide +kernel, by decide +kernel, by decide +kernel⟩
theorem wi_R_no : Cond.instanceMethod y_R_no ∈ lw_tbl := (List.mem_of_getElem? (i := 868) (by decide +kernel))
theorem wv_R_no : Cond.selects y_R_no.cls y_R_no y_R_no ∈ lw_tbl := (List.mem_of_getElem? (i := 47) (by decide +kernel))
abbrev c_R_state : ByteArray := prog_9_method_35_code
def y_R_state : MethodName := ⟨"JobRuntimeModel", "state", "(I)I"⟩
abbrev m_R_state : jm := ("JobRuntimeModel", "state", c_R_state, 2, (some .int), [])
set_option maxRecDepth 100000 in
theorem Y_R_state : jY y_R_state m_R_state 1 := ⟨⟨rfl, rfl, by decide +kernel, Or.inl ⟨rfl, (List.mem_of_getElem? (i := 873) rfl)⟩⟩, by decide +kernel, by decide +kernel, by decide +kernel⟩
theorem wi_R_state : Cond.instanceMethod y_R_state ∈ lw_tbl := (List.mem_of_getElem? (i := 871) (by decide +kernel))
theorem wv_R_state : Cond.selects y_R_state.cls y_R_state y_R_state ∈ lw_tbl := (List.mem_of_getElem? (i := 872) (by decide +kernel))
abbrev c_R_cause : ByteArray := prog_9_method_36_code
def y_R_cause : MethodName := ⟨"JobRuntimeModel", "cause", "(I)I"⟩
abbrev m_R_cause : jm := ("JobRuntimeModel", "cause", c_R_cause, 2, (some .int), [])
set_option maxRecDepth 100000 in
theorem Y_R_cause : jY y_R_cause m_R_cause 1 := ⟨⟨rfl, rfl, by decide +kernel, Or.inl ⟨rfl, (List.mem_of_getElem? (i := 877) rfl)⟩⟩, by decide +kernel, by decide +kernel, by decide +kernel⟩
theorem wi_R_cause : Cond.instanceMethod y_R_cause ∈ lw_tbl := (List.mem_of_getElem? (i := 875) (by decide +kernel))
theorem wv_R_cause : Cond.selects y_R_cause.cls y_R_cause y_R_cause ∈ lw_tbl := (List.mem_of_getElem? (i := 876) (by decide +kernel))
abbrev c_R_about : ByteArray := prog_9_method_38_code
def y_R_about : MethodName := ⟨"JobRuntimeModel", "about", "(II)I"⟩
abbrev m_R_about : jm := ("JobRuntimeModel", "about", c_R_about, 3, (some .int), [])
set_option maxRecDepth 100000 in
theorem Y_R_about : jY y_R_about m_R_about 2 := ⟨⟨rfl, rfl, by decide +kernel, Or.inl ⟨rfl, (List.mem_of_getElem? (i := 881) rfl)⟩⟩, by decide +kernel, by decide +kernel, by decide +kernel⟩
theorem wi_R_about : Cond.instanceMethod y_R_about ∈ lw_tbl := (List.mem_of_getElem? (i := 879) (by decide +kernel))
theorem wv_R_about : Cond.selects y_R_about.cls y_R_about y_R_about ∈ lw_tbl := (List.mem_of_getElem? (i := 880) (by decide +kernel))
abbrev c_R_open : ByteArray := prog_9_method_37_code
def y_R_open : MethodName := ⟨"JobRuntimeModel", "open", "(I)I"⟩
abbrev m_R_open : jm := ("JobRuntimeModel", "open", c_R_open, 4, (some .int), [])
set_option maxRecDepth 100000 in
theorem Y_R_open : jY y_R_open m_R_open 1 := ⟨⟨rfl, rfl, by decide +kernel, Or.inl ⟨rfl, (List.mem_of_getElem? (i := 885) rfl)⟩⟩, by decide +kernel, by decide +kernel, by decide +kernel⟩
theorem wi_R_open : Cond.instanceMethod y_R_open ∈ lw_tbl := (List.mem_of_getElem? (i := 884) (by decide +kernel))
theorem wv_R_open : Cond.selects y_R_open.cls y_R_open y_R_open ∈ lw_tbl := (List.mem_of_getElem? (i := 48) (by decide +kernel))
abbrev c_R_noted : ByteArray := prog_9_method_39_code
def y_R_noted : MethodName := ⟨"JobRuntimeModel", "noted", "(I)I"⟩
abbrev m_R_noted : jm := ("JobRuntimeModel", "noted", c_R_noted, 2, (some .int), [])
set_option maxRecDepth 100000 in
theorem Y_R_noted : jY y_R_noted m_R_noted 1 := ⟨⟨rfl, rfl, by decide +kernel, Or.inl ⟨rfl, (List.mem_of_getElem? (i := 889) rfl)⟩⟩, by decide +kernel, by decide +kernel, by decide +kernel⟩
theorem wi_R_noted : Cond.instanceMethod y_R_noted ∈ lw_tbl := (List.mem_of_getElem? (i := 887) (by decide +kernel))
theorem wv_R_noted : Cond.selects y_R_noted.cls y_R_noted y_R_noted ∈ lw_tbl := (List.mem_of_getElem? (i := 888) (by decide +kernel))
abbrev c_R_count : ByteArray := prog_9_method_40_code
def y_R_count : MethodName := ⟨"JobRuntimeModel", "count", "(I)I"⟩
abbrev m_R_count : jm := ("JobRuntimeModel", "count", c_R_count, 5, (some .int), [])
set_option maxRecDepth 100000 in
theorem Y_R_count : jY y_R_count m_R_count 1 := ⟨⟨rfl, rfl, by decide +kernel, Or.inl ⟨rfl, (List.mem_of_getElem? (i := 893) rfl)⟩⟩, by decide +kernel, by decide +kernel, by decide +kernel⟩
theorem wi_R_count : Cond.instanceMethod y_R_count ∈ lw_tbl := (List.mem_of_getElem? (i := 891) (by decide +kernel))
theorem wv_R_count : Cond.selects y_R_count.cls y_R_count y_R_count ∈ lw_tbl := (List.mem_of_getElem? (i := 892) (by decide +kernel))
abbrev c_L_law : ByteArray := code
def y_L_law : MethodName := ⟨"JobRuntimeLaw", "law", "([I)Z"⟩
abbrev m_L_law : jm := ("JobRuntimeLaw", "law", c_L_law, 7, (some .boolean), [])
theorem l_J_1 : Cond.methodLink "JobRuntime" 1 Lib.objectInit ∈ lw_tbl := (List.mem_of_getElem? (i := 70) (by decide +kernel))
theorem k_J_9 : Cond.classLink "JobRuntime" 9 "JobRuntime$Program" ∈ lw_tbl := (List.mem_of_getElem? (i := 73) (by decide +kernel))
theorem f_J_11 : jF jcl "JobRuntime" 11 0 0 true (kt_J 0) := ⟨_, kT_J, 11, kt_J, rfl, by decide, in_J, (List.mem_of_getElem? (i := 118) (by decide +kernel)), tok_J, nok_J, rfl, rfl, fun _ => rfl⟩
theorem g_J_11 : jFg jcl "JobRuntime" 11 0 0 := f_J_11.g
theorem l_J_15 : Cond.methodLink "JobRuntime" 15 y_P_init ∈ lw_tbl := (List.mem_of_getElem? (i := 76) (by decide +kernel))
theorem k_J_16 : Cond.classLink "JobRuntime" 16 "JobRuntime$Job" ∈ lw_tbl := (List.mem_of_getElem? (i := 98) (by decide +kernel))
theorem f_J_18 : jF jcl "JobRuntime" 18 0 1 true (kt_J 1) := ⟨_, kT_J, 11, kt_J, rfl, by decide, in_J, (List.mem_of_getElem? (i := 119) (by decide +kernel)), tok_J, nok_J, rfl, rfl, fun _ => rfl⟩
theorem g_J_18 : jFg jcl "JobRuntime" 18 0 1 := f_J_18.g
theorem k_J_22 : Cond.classLink "JobRuntime" 22 "JobRuntime$ReadyRow" ∈ lw_tbl := (List.mem_of_getElem? (i := 100) (by decide +kernel))
theorem l_J_24 : Cond.methodLink "JobRuntime" 24 y_Q_init ∈ lw_tbl := (List.mem_of_getElem? (i := 102) (by decide +kernel))
theorem f_J_25 : jF jcl "JobRuntime" 25 0 2 true (kt_J 2) := ⟨_, kT_J, 11, kt_J, rfl, by decide, in_J, (List.mem_of_getElem? (i := 120) (by decide +kernel)), tok_J, nok_J, rfl, rfl, fun _ => rfl⟩
theorem g_J_25 : jFg jcl "JobRuntime" 25 0 2 := f_J_25.g
theorem f_J_29 : jF jcl "JobRuntime" 29 0 3 true (kt_J 3) := ⟨_, kT_J, 11, kt_J, rfl, by decide, in_J, (List.mem_of_getElem? (i := 121) (by decide +kernel)), tok_J, nok_J, rfl, rfl, fun _ => rfl⟩
theorem g_J_29 : jFg jcl "JobRuntime" 29 0 3 := f_J_29.g
theorem l_P_3 : Cond.methodLink "JobRuntime$Program" 3 Lib.objectInit ∈ lw_tbl := (List.mem_of_getElem? (i := 79) (by decide +kernel))
theorem f_P_9 : jF jcl "JobRuntime$Program" 9 1 0 true (kt_P 0) := ⟨_, kT_P, 4, kt_P, rfl, by decide, in_P, (List.mem_of_getElem? (i := 80) (by decide +kernel)), tok_P, nok_P, rfl, rfl, fun _ => rfl⟩
theorem g_P_9 : jFg jcl "JobRuntime$Program" 9 1 0 := f_P_9.g
theorem f_P_15 : jF jcl "JobRuntime$Program" 15 1 1 true (kt_P 1) := ⟨_, kT_P, 4, kt_P, rfl, by decide, in_P, (List.mem_of_getElem? (i := 82) (by decide +kernel)), tok_P, nok_P, rfl, rfl, fun _ => rfl⟩
theorem g_P_15 : jFg jcl "JobRuntime$Program" 15 1 1 := f_P_15.g
theorem f_P_18 : jF jcl "JobRuntime$Program" 18 1 2 true (kt_P 2) := ⟨_, kT_P, 4, kt_P, rfl, by decide, in_P, (List.mem_of_getElem? (i := 84) (by decide +kernel)), tok_P, nok_P, rfl, rfl, fun _ => rfl⟩
theorem g_P_18 : jFg jcl "JobRuntime$Program" 18 1 2 := f_P_18.g
theorem l_Q_3 : Cond.methodLink "JobRuntime$ReadyRow" 3 Lib.objectInit ∈ lw_tbl := (List.mem_of_getElem? (i := 105) (by decide +kernel))
theorem k_Q_9 : Cond.classLink "JobRuntime$ReadyRow" 9 "JobRuntime$Job" ∈ lw_tbl := (List.mem_of_getElem? (i := 106) (by decide +kernel))
theorem f_Q_11 : jF jcl "JobRuntime$ReadyRow" 11 2 0 true (kt_Q 0) := ⟨_, kT_Q, 3, kt_Q, rfl, by decide, in_Q, (List.mem_of_getElem? (i := 107) (by decide +kernel)), tok_Q, nok_Q, rfl, rfl, fun _ => rfl⟩
theorem g_Q_11 : jFg jcl "JobRuntime$ReadyRow" 11 2 0 := f_Q_11.g
theorem f_J_57 : jF jcl "JobRuntime" 57 0 4 false (kt_J 4) := ⟨_, kT_J, 11, kt_J, rfl, by decide, in_J, (List.mem_of_getElem? (i := 122) (by decide +kernel)), tok_J, nok_J, rfl, rfl, fun h => by cases h⟩
theorem g_J_57 : jFg jcl "JobRuntime" 57 0 4 := f_J_57.g
theorem f_J_132 : jF jcl "JobRuntime" 132 0 5 false (kt_J 5) := ⟨_, kT_J, 11, kt_J, rfl, by decide, in_J, (List.mem_of_getElem? (i := 123) (by decide +kernel)), tok_J, nok_J, rfl, rfl, fun h => by cases h⟩
theorem g_J_132 : jFg jcl "JobRuntime" 132 0 5 := f_J_132.g
theorem f_J_129 : jF jcl "JobRuntime" 129 0 6 false (kt_J 6) := ⟨_, kT_J, 11, kt_J, rfl, by decide, in_J, (List.mem_of_getElem? (i := 124) (by decide +kernel)), tok_J, nok_J, rfl, rfl, fun h => by cases h⟩
theorem g_J_129 : jFg jcl "JobRuntime" 129 0 6 := f_J_129.g
theorem f_J_135 : jF jcl "JobRuntime" 135 0 7 false (kt_J 7) := ⟨_, kT_J, 11, kt_J, rfl, by decide, in_J, (List.mem_of_getElem? (i := 125) (by decide +kernel)), tok_J, nok_J, rfl, rfl, fun h => by cases h⟩
theorem g_J_135 : jFg jcl "JobRuntime" 135 0 7 := f_J_135.g
theorem f_J_138 : jF jcl "JobRuntime" 138 2 2 false (kt_Q 2) := ⟨_, kT_Q, 3, kt_Q, rfl, by decide, in_Q, (List.mem_of_getElem? (i := 110) (by decide +kernel)), tok_Q, nok_Q, rfl, rfl, fun h => by cases h⟩
theorem g_J_138 : jFg jcl "JobRuntime" 138 2 2 := f_J_138.g
theorem f_J_141 : jF jcl "JobRuntime" 141 0 8 false (kt_J 8) := ⟨_, kT_J, 11, kt_J, rfl, by decide, in_J, (List.mem_of_getElem? (i := 126) (by decide +kernel)), tok_J, nok_J, rfl, rfl, fun h => by cases h⟩
theorem g_J_141 : jFg jcl "JobRuntime" 141 0 8 := f_J_141.g
theorem l_J_144 : Cond.methodLink "JobRuntime" 144 y_J_runningTimers ∈ lw_tbl := (List.mem_of_getElem? (i := 156) (by decide +kernel))
theorem f_J_148 : jF jcl "JobRuntime" 148 0 9 false (kt_J 9) := ⟨_, kT_J, 11, kt_J, rfl, by decide, in_J, (List.mem_of_getElem? (i := 127) (by decide +kernel)), tok_J, nok_J, rfl, rfl, fun h => by cases h⟩
theorem g_J_148 : jFg jcl "JobRuntime" 148 0 9 := f_J_148.g
theorem f_J_164 : jF jcl "JobRuntime" 164 3 5 true (kt_B 5) ∨ True := Or.inr trivial
theorem g_J_164 : jFg jcl "JobRuntime" 164 3 5 := ⟨_, kT_B, 16, rfl, by decide, in_B, (List.mem_of_getElem? (i := 345) (by decide +kernel))⟩
theorem l_J_301 : Cond.methodLink "JobRuntime" 301 y_T_isRunning ∈ lw_tbl := (List.mem_of_getElem? (i := 160) (by decide +kernel))
theorem f_J_236 : jF jcl "JobRuntime" 236 3 6 true (kt_B 6) ∨ True := Or.inr trivial
theorem g_J_236 : jFg jcl "JobRuntime" 236 3 6 := ⟨_, kT_B, 16, rfl, by decide, in_B, (List.mem_of_getElem? (i := 347) (by decide +kernel))⟩
theorem f_T_10 : jF jcl "JobRuntime$Timer" 10 5 0 false (kt_T 0) := ⟨_, kT_T, 2, kt_T, rfl, by decide, in_T, (List.mem_of_getElem? (i := 325) (by decide +kernel)), tok_T, nok_T, rfl, rfl, fun h => by cases h⟩
theorem g_T_10 : jFg jcl "JobRuntime$Timer" 10 5 0 := f_T_10.g
theorem n_T_9 : Cond.constant "JobRuntime$Timer" 9 2147483647 ∈ lw_tbl := (List.mem_of_getElem? (i := 164) (by decide +kernel))
theorem l_L_7 : Cond.methodLink "JobRuntimeLaw" 7 y_J_act ∈ lw_tbl := (List.mem_of_getElem? (i := 170) (by decide +kernel))
theorem l_J_33 : Cond.methodLink "JobRuntime" 33 y_J_isProgram ∈ lw_tbl := (List.mem_of_getElem? (i := 174) (by decide +kernel))
theorem l_J_37 : Cond.methodLink "JobRuntime" 37 y_A_isOne ∈ lw_tbl := (List.mem_of_getElem? (i := 180) (by decide +kernel))
theorem k_J_43 : Cond.classLink "JobRuntime" 43 "java/lang/IllegalArgumentException" ∈ lw_tbl := (List.mem_of_getElem? (i := 188) (by decide +kernel))
theorem f_J_46 : jF jcl "JobRuntime" 46 1 3 false (kt_P 3) := ⟨_, kT_P, 4, kt_P, rfl, by decide, in_P, (List.mem_of_getElem? (i := 87) (by decide +kernel)), tok_P, nok_P, rfl, rfl, fun h => by cases h⟩
theorem g_J_46 : jFg jcl "JobRuntime" 46 1 3 := f_J_46.g
theorem k_J_50 : Cond.classLink "JobRuntime" 50 "java/lang/IllegalStateException" ∈ lw_tbl := (List.mem_of_getElem? (i := 252) (by decide +kernel))
theorem l_J_53 : Cond.methodLink "JobRuntime" 53 y_P_add ∈ lw_tbl := (List.mem_of_getElem? (i := 267) (by decide +kernel))
theorem l_J_82 : Cond.methodLink "JobRuntime" 82 y_J_isWithin ∈ lw_tbl := (List.mem_of_getElem? (i := 177) (by decide +kernel))
theorem l_A_9 : Cond.methodLinkNest "JobRuntime$Action" 9 y_J_isWithin "JobRuntime" ∈ lw_tbl := (List.mem_of_getElem? (i := 183) (by decide +kernel))
theorem l_A_13 : Cond.methodLinkNest "JobRuntime$Action" 13 y_J_isProgram "JobRuntime" ∈ lw_tbl := (List.mem_of_getElem? (i := 184) (by decide +kernel))
theorem l_A_17 : Cond.methodLinkNest "JobRuntime$Action" 17 y_J_isSlot "JobRuntime" ∈ lw_tbl := (List.mem_of_getElem? (i := 185) (by decide +kernel))
theorem f_P_21 : jF jcl "JobRuntime$Program" 21 1 3 false (kt_P 3) := ⟨_, kT_P, 4, kt_P, rfl, by decide, in_P, (List.mem_of_getElem? (i := 86) (by decide +kernel)), tok_P, nok_P, rfl, rfl, fun h => by cases h⟩
theorem g_P_21 : jFg jcl "JobRuntime$Program" 21 1 3 := f_P_21.g
theorem l_L_17 : Cond.methodLink "JobRuntimeLaw" 17 y_J_start ∈ lw_tbl := (List.mem_of_getElem? (i := 274) (by decide +kernel))
theorem l_J_60 : Cond.methodLink "JobRuntime" 60 y_J_begin ∈ lw_tbl := (List.mem_of_getElem? (i := 278) (by decide +kernel))
theorem f_J_64 : jF jcl "JobRuntime" 64 3 0 true (kt_B 0) ∨ True := Or.inr trivial
theorem g_J_64 : jFg jcl "JobRuntime" 64 3 0 := ⟨_, kT_B, 16, rfl, by decide, in_B, (List.mem_of_getElem? (i := 335) (by decide +kernel))⟩
theorem l_J_151 : Cond.methodLink "JobRuntime" 151 y_B_init ∈ lw_tbl := (List.mem_of_getElem? (i := 283) (by decide +kernel))
theorem f_J_126 : jF jcl "JobRuntime" 126 3 11 false (kt_B 11) := ⟨_, kT_B, 16, kt_B, rfl, by decide, in_B, (List.mem_of_getElem? (i := 355) (by decide +kernel)), tok_B, nok_B, rfl, rfl, fun h => by cases h⟩
theorem g_J_126 : jFg jcl "JobRuntime" 126 3 11 := f_J_126.g
theorem l_J_154 : Cond.methodLink "JobRuntime" 154 y_J_makeReady ∈ lw_tbl := (List.mem_of_getElem? (i := 396) (by decide +kernel))
theorem l_B_3 : Cond.methodLink "JobRuntime$Job" 3 Lib.objectInit ∈ lw_tbl := (List.mem_of_getElem? (i := 286) (by decide +kernel))
theorem f_B_9 : jF jcl "JobRuntime$Job" 9 3 0 true (kt_B 0) := ⟨_, kT_B, 16, kt_B, rfl, by decide, in_B, (List.mem_of_getElem? (i := 334) (by decide +kernel)), tok_B, nok_B, rfl, rfl, fun _ => rfl⟩
theorem g_B_9 : jFg jcl "JobRuntime$Job" 9 3 0 := f_B_9.g
theorem f_B_15 : jF jcl "JobRuntime$Job" 15 3 1 true (kt_B 1) := ⟨_, kT_B, 16, kt_B, rfl, by decide, in_B, (List.mem_of_getElem? (i := 336) (by decide +kernel)), tok_B, nok_B, rfl, rfl, fun _ => rfl⟩
theorem g_B_15 : jFg jcl "JobRuntime$Job" 15 3 1 := f_B_15.g
theorem f_B_19 : jF jcl "JobRuntime$Job" 19 3 2 true (kt_B 2) := ⟨_, kT_B, 16, kt_B, rfl, by decide, in_B, (List.mem_of_getElem? (i := 338) (by decide +kernel)), tok_B, nok_B, rfl, rfl, fun _ => rfl⟩
theorem g_B_19 : jFg jcl "JobRuntime$Job" 19 3 2 := f_B_19.g
theorem k_B_10 : Cond.classLink "JobRuntime$Job" 10 "JobRuntime$Job" ∈ lw_tbl := (List.mem_of_getElem? (i := 287) (by decide +kernel))
theorem f_B_22 : jF jcl "JobRuntime$Job" 22 3 3 true (kt_B 3) := ⟨_, kT_B, 16, kt_B, rfl, by decide, in_B, (List.mem_of_getElem? (i := 340) (by decide +kernel)), tok_B, nok_B, rfl, rfl, fun _ => rfl⟩
theorem g_B_22 : jFg jcl "JobRuntime$Job" 22 3 3 := f_B_22.g
theorem k_B_26 : Cond.classLink "JobRuntime$Job" 26 "JobRuntime$Frame" ∈ lw_tbl := (List.mem_of_getElem? (i := 288) (by decide +kernel))
theorem f_B_28 : jF jcl "JobRuntime$Job" 28 3 4 true (kt_B 4) := ⟨_, kT_B, 16, kt_B, rfl, by decide, in_B, (List.mem_of_getElem? (i := 342) (by decide +kernel)), tok_B, nok_B, rfl, rfl, fun _ => rfl⟩
theorem g_B_28 : jFg jcl "JobRuntime$Job" 28 3 4 := f_B_28.g
theorem l_B_32 : Cond.methodLink "JobRuntime$Job" 32 y_F_init ∈ lw_tbl := (List.mem_of_getElem? (i := 291) (by decide +kernel))
theorem k_B_35 : Cond.classLink "JobRuntime$Job" 35 "JobRuntime$Timer" ∈ lw_tbl := (List.mem_of_getElem? (i := 319) (by decide +kernel))
theorem l_B_37 : Cond.methodLink "JobRuntime$Job" 37 y_T_init ∈ lw_tbl := (List.mem_of_getElem? (i := 321) (by decide +kernel))
theorem f_B_38 : jF jcl "JobRuntime$Job" 38 3 5 true (kt_B 5) := ⟨_, kT_B, 16, kt_B, rfl, by decide, in_B, (List.mem_of_getElem? (i := 344) (by decide +kernel)), tok_B, nok_B, rfl, rfl, fun _ => rfl⟩
theorem g_B_38 : jFg jcl "JobRuntime$Job" 38 3 5 := f_B_38.g
theorem f_B_42 : jF jcl "JobRuntime$Job" 42 3 6 true (kt_B 6) := ⟨_, kT_B, 16, kt_B, rfl, by decide, in_B, (List.mem_of_getElem? (i := 346) (by decide +kernel)), tok_B, nok_B, rfl, rfl, fun _ => rfl⟩
theorem g_B_42 : jFg jcl "JobRuntime$Job" 42 3 6 := f_B_42.g
theorem f_B_45 : jF jcl "JobRuntime$Job" 45 3 7 false (kt_B 7) := ⟨_, kT_B, 16, kt_B, rfl, by decide, in_B, (List.mem_of_getElem? (i := 348) (by decide +kernel)), tok_B, nok_B, rfl, rfl, fun h => by cases h⟩
theorem g_B_45 : jFg jcl "JobRuntime$Job" 45 3 7 := f_B_45.g
theorem f_B_48 : jF jcl "JobRuntime$Job" 48 3 9 false (kt_B 9) := ⟨_, kT_B, 16, kt_B, rfl, by decide, in_B, (List.mem_of_getElem? (i := 351) (by decide +kernel)), tok_B, nok_B, rfl, rfl, fun h => by cases h⟩
theorem g_B_48 : jFg jcl "JobRuntime$Job" 48 3 9 := f_B_48.g
theorem f_B_51 : jF jcl "JobRuntime$Job" 51 3 13 false (kt_B 13) := ⟨_, kT_B, 16, kt_B, rfl, by decide, in_B, (List.mem_of_getElem? (i := 358) (by decide +kernel)), tok_B, nok_B, rfl, rfl, fun h => by cases h⟩
theorem g_B_51 : jFg jcl "JobRuntime$Job" 51 3 13 := f_B_51.g
theorem f_B_54 : jF jcl "JobRuntime$Job" 54 3 15 false (kt_B 15) := ⟨_, kT_B, 16, kt_B, rfl, by decide, in_B, (List.mem_of_getElem? (i := 361) (by decide +kernel)), tok_B, nok_B, rfl, rfl, fun h => by cases h⟩
theorem g_B_54 : jFg jcl "JobRuntime$Job" 54 3 15 := f_B_54.g
theorem l_F_3 : Cond.methodLink "JobRuntime$Frame" 3 Lib.objectInit ∈ lw_tbl := (List.mem_of_getElem? (i := 294) (by decide +kernel))
theorem f_F_9 : jF jcl "JobRuntime$Frame" 9 4 1 false (kt_F 1) := ⟨_, kT_F, 5, kt_F, rfl, by decide, in_F, (List.mem_of_getElem? (i := 297) (by decide +kernel)), tok_F, nok_F, rfl, rfl, fun h => by cases h⟩
theorem g_F_9 : jFg jcl "JobRuntime$Frame" 9 4 1 := f_F_9.g
theorem f_F_15 : jF jcl "JobRuntime$Frame" 15 4 3 false (kt_F 3) := ⟨_, kT_F, 5, kt_F, rfl, by decide, in_F, (List.mem_of_getElem? (i := 302) (by decide +kernel)), tok_F, nok_F, rfl, rfl, fun h => by cases h⟩
theorem g_F_15 : jFg jcl "JobRuntime$Frame" 15 4 3 := f_F_15.g
theorem f_F_18 : jF jcl "JobRuntime$Frame" 18 4 4 false (kt_F 4) := ⟨_, kT_F, 5, kt_F, rfl, by decide, in_F, (List.mem_of_getElem? (i := 305) (by decide +kernel)), tok_F, nok_F, rfl, rfl, fun h => by cases h⟩
theorem g_F_18 : jFg jcl "JobRuntime$Frame" 18 4 4 := f_F_18.g
theorem l_T_3 : Cond.methodLink "JobRuntime$Timer" 3 Lib.objectInit ∈ lw_tbl := (List.mem_of_getElem? (i := 324) (by decide +kernel))
theorem f_J_158 : jF jcl "JobRuntime" 158 3 13 false (kt_B 13) := ⟨_, kT_B, 16, kt_B, rfl, by decide, in_B, (List.mem_of_getElem? (i := 359) (by decide +kernel)), tok_B, nok_B, rfl, rfl, fun h => by cases h⟩
theorem g_J_158 : jFg jcl "JobRuntime" 158 3 13 := f_J_158.g
theorem f_J_161 : jF jcl "JobRuntime" 161 3 14 false (kt_B 14) := ⟨_, kT_B, 16, kt_B, rfl, by decide, in_B, (List.mem_of_getElem? (i := 360) (by decide +kernel)), tok_B, nok_B, rfl, rfl, fun h => by cases h⟩
theorem g_J_161 : jFg jcl "JobRuntime" 161 3 14 := f_J_161.g
theorem l_J_168 : Cond.methodLink "JobRuntime" 168 y_T_stop ∈ lw_tbl := (List.mem_of_getElem? (i := 400) (by decide +kernel))
theorem f_J_173 : jF jcl "JobRuntime" 173 3 15 false (kt_B 15) := ⟨_, kT_B, 16, kt_B, rfl, by decide, in_B, (List.mem_of_getElem? (i := 362) (by decide +kernel)), tok_B, nok_B, rfl, rfl, fun h => by cases h⟩
theorem g_J_173 : jFg jcl "JobRuntime" 173 3 15 := f_J_173.g
theorem l_J_176 : Cond.methodLink "JobRuntime" 176 y_Q_add ∈ lw_tbl := (List.mem_of_getElem? (i := 404) (by decide +kernel))
theorem f_Q_17 : jF jcl "JobRuntime$ReadyRow" 17 2 2 false (kt_Q 2) := ⟨_, kT_Q, 3, kt_Q, rfl, by decide, in_Q, (List.mem_of_getElem? (i := 109) (by decide +kernel)), tok_Q, nok_Q, rfl, rfl, fun h => by cases h⟩
theorem g_Q_17 : jFg jcl "JobRuntime$ReadyRow" 17 2 2 := f_Q_17.g
theorem f_Q_21 : jF jcl "JobRuntime$ReadyRow" 21 2 1 false (kt_Q 1) := ⟨_, kT_Q, 3, kt_Q, rfl, by decide, in_Q, (List.mem_of_getElem? (i := 108) (by decide +kernel)), tok_Q, nok_Q, rfl, rfl, fun h => by cases h⟩
theorem g_Q_21 : jFg jcl "JobRuntime$ReadyRow" 21 2 1 := f_Q_21.g
theorem l_L_21 : Cond.methodLink "JobRuntimeLaw" 21 y_J_cancel ∈ lw_tbl := (List.mem_of_getElem? (i := 411) (by decide +kernel))
theorem l_J_67 : Cond.methodLink "JobRuntime" 67 y_J_jobOfNumber ∈ lw_tbl := (List.mem_of_getElem? (i := 415) (by decide +kernel))
theorem f_J_71 : jF jcl "JobRuntime" 71 3 12 false (kt_B 12) := ⟨_, kT_B, 16, kt_B, rfl, by decide, in_B, (List.mem_of_getElem? (i := 356) (by decide +kernel)), tok_B, nok_B, rfl, rfl, fun h => by cases h⟩
theorem g_J_71 : jFg jcl "JobRuntime" 71 3 12 := f_J_71.g
theorem f_J_75 : jF jcl "JobRuntime" 75 3 9 false (kt_B 9) := ⟨_, kT_B, 16, kt_B, rfl, by decide, in_B, (List.mem_of_getElem? (i := 352) (by decide +kernel)), tok_B, nok_B, rfl, rfl, fun h => by cases h⟩
theorem g_J_75 : jFg jcl "JobRuntime" 75 3 9 := f_J_75.g
theorem l_J_78 : Cond.methodLink "JobRuntime" 78 y_J_give ∈ lw_tbl := (List.mem_of_getElem? (i := 419) (by decide +kernel))
theorem f_J_120 : jF jcl "JobRuntime" 120 3 10 false (kt_B 10) := ⟨_, kT_B, 16, kt_B, rfl, by decide, in_B, (List.mem_of_getElem? (i := 353) (by decide +kernel)), tok_B, nok_B, rfl, rfl, fun h => by cases h⟩
theorem g_J_120 : jFg jcl "JobRuntime" 120 3 10 := f_J_120.g
theorem f_J_109 : jF jcl "JobRuntime" 109 3 1 true (kt_B 1) ∨ True := Or.inr trivial
theorem g_J_109 : jFg jcl "JobRuntime" 109 3 1 := ⟨_, kT_B, 16, rfl, by decide, in_B, (List.mem_of_getElem? (i := 337) (by decide +kernel))⟩
theorem l_J_223 : Cond.methodLink "JobRuntime" 223 y_B_canBeWoken ∈ lw_tbl := (List.mem_of_getElem? (i := 423) (by decide +kernel))
theorem l_B_80 : Cond.methodLink "JobRuntime$Job" 80 y_B_isShielded ∈ lw_tbl := (List.mem_of_getElem? (i := 427) (by decide +kernel))
theorem f_B_57 : jF jcl "JobRuntime$Job" 57 4 0 false (kt_F 0) := ⟨_, kT_F, 5, kt_F, rfl, by decide, in_F, (List.mem_of_getElem? (i := 295) (by decide +kernel)), tok_F, nok_F, rfl, rfl, fun h => by cases h⟩
theorem g_B_57 : jFg jcl "JobRuntime$Job" 57 4 0 := f_B_57.g
theorem l_L_24 : Cond.methodLink "JobRuntimeLaw" 24 y_J_run ∈ lw_tbl := (List.mem_of_getElem? (i := 434) (by decide +kernel))
theorem l_J_85 : Cond.methodLink "JobRuntime" 85 y_Q_takeFirst ∈ lw_tbl := (List.mem_of_getElem? (i := 438) (by decide +kernel))
theorem l_J_89 : Cond.methodLink "JobRuntime" 89 y_J_resume ∈ lw_tbl := (List.mem_of_getElem? (i := 442) (by decide +kernel))
theorem l_J_93 : Cond.methodLink "JobRuntime" 93 y_J_letTimePass ∈ lw_tbl := (List.mem_of_getElem? (i := 516) (by decide +kernel))
theorem l_J_178 : Cond.methodLink "JobRuntime" 178 y_J_throwAtLastFrame ∈ lw_tbl := (List.mem_of_getElem? (i := 446) (by decide +kernel))
theorem l_J_181 : Cond.methodLink "JobRuntime" 181 y_J_leaveFramesAtTheirEnd ∈ lw_tbl := (List.mem_of_getElem? (i := 458) (by decide +kernel))
theorem f_J_106 : jF jcl "JobRuntime" 106 3 7 false (kt_B 7) := ⟨_, kT_B, 16, kt_B, rfl, by decide, in_B, (List.mem_of_getElem? (i := 349) (by decide +kernel)), tok_B, nok_B, rfl, rfl, fun h => by cases h⟩
theorem g_J_106 : jFg jcl "JobRuntime" 106 3 7 := f_J_106.g
theorem l_J_184 : Cond.methodLink "JobRuntime" 184 y_J_finishUpwards ∈ lw_tbl := (List.mem_of_getElem? (i := 466) (by decide +kernel))
theorem l_J_187 : Cond.methodLink "JobRuntime" 187 y_B_lastFrame ∈ lw_tbl := (List.mem_of_getElem? (i := 462) (by decide +kernel))
theorem l_J_191 : Cond.methodLink "JobRuntime" 191 y_J_perform ∈ lw_tbl := (List.mem_of_getElem? (i := 485) (by decide +kernel))
theorem f_J_215 : jF jcl "JobRuntime" 215 3 4 true (kt_B 4) ∨ True := Or.inr trivial
theorem g_J_215 : jFg jcl "JobRuntime" 215 3 4 := ⟨_, kT_B, 16, rfl, by decide, in_B, (List.mem_of_getElem? (i := 343) (by decide +kernel))⟩
theorem f_J_204 : jF jcl "JobRuntime" 204 4 0 false (kt_F 0) := ⟨_, kT_F, 5, kt_F, rfl, by decide, in_F, (List.mem_of_getElem? (i := 296) (by decide +kernel)), tok_F, nok_F, rfl, rfl, fun h => by cases h⟩
theorem g_J_204 : jFg jcl "JobRuntime" 204 4 0 := f_J_204.g
theorem l_J_219 : Cond.methodLink "JobRuntime" 219 y_J_note ∈ lw_tbl := (List.mem_of_getElem? (i := 450) (by decide +kernel))
theorem f_J_205 : jF jcl "JobRuntime" 205 4 3 false (kt_F 3) := ⟨_, kT_F, 5, kt_F, rfl, by decide, in_F, (List.mem_of_getElem? (i := 304) (by decide +kernel)), tok_F, nok_F, rfl, rfl, fun h => by cases h⟩
theorem g_J_205 : jFg jcl "JobRuntime" 205 4 3 := f_J_205.g
theorem l_J_208 : Cond.methodLink "JobRuntime" 208 y_B_pushFrame ∈ lw_tbl := (List.mem_of_getElem? (i := 454) (by decide +kernel))
theorem f_B_58 : jF jcl "JobRuntime$Job" 58 4 1 false (kt_F 1) := ⟨_, kT_F, 5, kt_F, rfl, by decide, in_F, (List.mem_of_getElem? (i := 298) (by decide +kernel)), tok_F, nok_F, rfl, rfl, fun h => by cases h⟩
theorem g_B_58 : jFg jcl "JobRuntime$Job" 58 4 1 := f_B_58.g
theorem f_B_62 : jF jcl "JobRuntime$Job" 62 4 2 false (kt_F 2) := ⟨_, kT_F, 5, kt_F, rfl, by decide, in_F, (List.mem_of_getElem? (i := 300) (by decide +kernel)), tok_F, nok_F, rfl, rfl, fun h => by cases h⟩
theorem g_B_62 : jFg jcl "JobRuntime$Job" 62 4 2 := f_B_62.g
theorem f_B_65 : jF jcl "JobRuntime$Job" 65 4 3 false (kt_F 3) := ⟨_, kT_F, 5, kt_F, rfl, by decide, in_F, (List.mem_of_getElem? (i := 303) (by decide +kernel)), tok_F, nok_F, rfl, rfl, fun h => by cases h⟩
theorem g_B_65 : jFg jcl "JobRuntime$Job" 65 4 3 := f_B_65.g
theorem f_B_68 : jF jcl "JobRuntime$Job" 68 4 4 false (kt_F 4) := ⟨_, kT_F, 5, kt_F, rfl, by decide, in_F, (List.mem_of_getElem? (i := 306) (by decide +kernel)), tok_F, nok_F, rfl, rfl, fun h => by cases h⟩
theorem g_B_68 : jFg jcl "JobRuntime$Job" 68 4 4 := f_B_68.g
theorem f_J_195 : jF jcl "JobRuntime" 195 4 2 false (kt_F 2) := ⟨_, kT_F, 5, kt_F, rfl, by decide, in_F, (List.mem_of_getElem? (i := 301) (by decide +kernel)), tok_F, nok_F, rfl, rfl, fun h => by cases h⟩
theorem g_J_195 : jFg jcl "JobRuntime" 195 4 2 := f_J_195.g
theorem f_J_200 : jF jcl "JobRuntime" 200 4 1 false (kt_F 1) := ⟨_, kT_F, 5, kt_F, rfl, by decide, in_F, (List.mem_of_getElem? (i := 299) (by decide +kernel)), tok_F, nok_F, rfl, rfl, fun h => by cases h⟩
theorem g_J_200 : jFg jcl "JobRuntime" 200 4 1 := f_J_200.g
theorem f_J_212 : jF jcl "JobRuntime" 212 4 4 false (kt_F 4) := ⟨_, kT_F, 5, kt_F, rfl, by decide, in_F, (List.mem_of_getElem? (i := 307) (by decide +kernel)), tok_F, nok_F, rfl, rfl, fun h => by cases h⟩
theorem g_J_212 : jFg jcl "JobRuntime" 212 4 4 := f_J_212.g
theorem l_J_226 : Cond.methodLink "JobRuntime" 226 y_B_isAtItsEnd ∈ lw_tbl := (List.mem_of_getElem? (i := 470) (by decide +kernel))
theorem l_J_229 : Cond.methodLink "JobRuntime" 229 y_J_finish ∈ lw_tbl := (List.mem_of_getElem? (i := 474) (by decide +kernel))
theorem l_J_232 : Cond.methodLink "JobRuntime" 232 y_J_passFailureOn ∈ lw_tbl := (List.mem_of_getElem? (i := 481) (by decide +kernel))
theorem f_B_71 : jF jcl "JobRuntime$Job" 71 3 12 false (kt_B 12) := ⟨_, kT_B, 16, kt_B, rfl, by decide, in_B, (List.mem_of_getElem? (i := 357) (by decide +kernel)), tok_B, nok_B, rfl, rfl, fun h => by cases h⟩
theorem g_B_71 : jFg jcl "JobRuntime$Job" 71 3 12 := f_B_71.g
theorem f_B_75 : jF jcl "JobRuntime$Job" 75 3 11 false (kt_B 11) := ⟨_, kT_B, 16, kt_B, rfl, by decide, in_B, (List.mem_of_getElem? (i := 354) (by decide +kernel)), tok_B, nok_B, rfl, rfl, fun h => by cases h⟩
theorem g_B_75 : jFg jcl "JobRuntime$Job" 75 3 11 := f_B_75.g
theorem l_J_239 : Cond.methodLink "JobRuntime" 239 y_J_takeOutcome ∈ lw_tbl := (List.mem_of_getElem? (i := 478) (by decide +kernel))
theorem f_J_103 : jF jcl "JobRuntime" 103 3 8 false (kt_B 8) := ⟨_, kT_B, 16, kt_B, rfl, by decide, in_B, (List.mem_of_getElem? (i := 350) (by decide +kernel)), tok_B, nok_B, rfl, rfl, fun h => by cases h⟩
theorem g_J_103 : jFg jcl "JobRuntime" 103 3 8 := f_J_103.g
theorem f_J_117 : jF jcl "JobRuntime" 117 3 2 true (kt_B 2) ∨ True := Or.inr trivial
theorem g_J_117 : jFg jcl "JobRuntime" 117 3 2 := ⟨_, kT_B, 16, rfl, by decide, in_B, (List.mem_of_getElem? (i := 339) (by decide +kernel))⟩
theorem f_J_243 : jF jcl "JobRuntime" 243 1 0 true (kt_P 0) ∨ True := Or.inr trivial
theorem g_J_243 : jFg jcl "JobRuntime" 243 1 0 := ⟨_, kT_P, 4, rfl, by decide, in_P, (List.mem_of_getElem? (i := 81) (by decide +kernel))⟩
theorem f_J_246 : jF jcl "JobRuntime" 246 1 1 true (kt_P 1) ∨ True := Or.inr trivial
theorem g_J_246 : jFg jcl "JobRuntime" 246 1 1 := ⟨_, kT_P, 4, rfl, by decide, in_P, (List.mem_of_getElem? (i := 83) (by decide +kernel))⟩
theorem f_J_249 : jF jcl "JobRuntime" 249 1 2 true (kt_P 2) ∨ True := Or.inr trivial
theorem g_J_249 : jFg jcl "JobRuntime" 249 1 2 := ⟨_, kT_P, 4, rfl, by decide, in_P, (List.mem_of_getElem? (i := 85) (by decide +kernel))⟩
theorem l_J_252 : Cond.methodLink "JobRuntime" 252 y_A_canWait ∈ lw_tbl := (List.mem_of_getElem? (i := 489) (by decide +kernel))
theorem l_J_255 : Cond.methodLink "JobRuntime" 255 y_B_isShielded ∈ lw_tbl := (List.mem_of_getElem? (i := 492) (by decide +kernel))
theorem l_J_258 : Cond.methodLink "JobRuntime" 258 y_J_beginTimer ∈ lw_tbl := (List.mem_of_getElem? (i := 493) (by decide +kernel))
theorem l_J_262 : Cond.methodLink "JobRuntime" 262 y_J_launch ∈ lw_tbl := (List.mem_of_getElem? (i := 497) (by decide +kernel))
theorem f_J_123 : jF jcl "JobRuntime" 123 3 3 true (kt_B 3) ∨ True := Or.inr trivial
theorem g_J_123 : jFg jcl "JobRuntime" 123 3 3 := ⟨_, kT_B, 16, rfl, by decide, in_B, (List.mem_of_getElem? (i := 341) (by decide +kernel))⟩
theorem l_J_266 : Cond.methodLink "JobRuntime" 266 y_J_waitForSlot ∈ lw_tbl := (List.mem_of_getElem? (i := 501) (by decide +kernel))
theorem l_J_270 : Cond.methodLink "JobRuntime" 270 y_J_cancelFrom ∈ lw_tbl := (List.mem_of_getElem? (i := 504) (by decide +kernel))
theorem n_J_273 : Cond.constant "JobRuntime" 273 2147483647 ∈ lw_tbl := (List.mem_of_getElem? (i := 508) (by decide +kernel))
theorem l_J_274 : Cond.methodLink "JobRuntime" 274 y_J_waitForNew ∈ lw_tbl := (List.mem_of_getElem? (i := 509) (by decide +kernel))
theorem l_J_278 : Cond.methodLink "JobRuntime" 278 y_J_enterFrame ∈ lw_tbl := (List.mem_of_getElem? (i := 513) (by decide +kernel))
theorem f_J_282 : jF jcl "JobRuntime" 282 5 0 false (kt_T 0) := ⟨_, kT_T, 2, kt_T, rfl, by decide, in_T, (List.mem_of_getElem? (i := 326) (by decide +kernel)), tok_T, nok_T, rfl, rfl, fun h => by cases h⟩
theorem g_J_282 : jFg jcl "JobRuntime" 282 5 0 := f_J_282.g
theorem f_J_285 : jF jcl "JobRuntime" 285 0 10 false (kt_J 10) := ⟨_, kT_J, 11, kt_J, rfl, by decide, in_J, (List.mem_of_getElem? (i := 128) (by decide +kernel)), tok_J, nok_J, rfl, rfl, fun h => by cases h⟩
theorem g_J_285 : jFg jcl "JobRuntime" 285 0 10 := f_J_285.g
theorem f_J_288 : jF jcl "JobRuntime" 288 5 1 false (kt_T 1) := ⟨_, kT_T, 2, kt_T, rfl, by decide, in_T, (List.mem_of_getElem? (i := 328) (by decide +kernel)), tok_T, nok_T, rfl, rfl, fun h => by cases h⟩
theorem g_J_288 : jFg jcl "JobRuntime" 288 5 1 := f_J_288.g
theorem l_J_291 : Cond.methodLink "JobRuntime" 291 y_J_nextDueJob ∈ lw_tbl := (List.mem_of_getElem? (i := 520) (by decide +kernel))
theorem l_J_294 : Cond.methodLink "JobRuntime" 294 y_B_nextTimer ∈ lw_tbl := (List.mem_of_getElem? (i := 524) (by decide +kernel))
theorem l_J_298 : Cond.methodLink "JobRuntime" 298 y_J_comeDue ∈ lw_tbl := (List.mem_of_getElem? (i := 533) (by decide +kernel))
theorem l_J_304 : Cond.methodLink "JobRuntime" 304 y_T_comesBefore ∈ lw_tbl := (List.mem_of_getElem? (i := 532) (by decide +kernel))
theorem l_B_84 : Cond.methodLink "JobRuntime$Job" 84 y_T_comesBefore ∈ lw_tbl := (List.mem_of_getElem? (i := 528) (by decide +kernel))
theorem f_T_16 : jF jcl "JobRuntime$Timer" 16 5 1 false (kt_T 1) := ⟨_, kT_T, 2, kt_T, rfl, by decide, in_T, (List.mem_of_getElem? (i := 327) (by decide +kernel)), tok_T, nok_T, rfl, rfl, fun h => by cases h⟩
theorem g_T_16 : jFg jcl "JobRuntime$Timer" 16 5 1 := f_T_16.g
theorem l_L_27 : Cond.methodLink "JobRuntimeLaw" 27 y_J_result ∈ lw_tbl := (List.mem_of_getElem? (i := 542) (by decide +kernel))
theorem k_J_97 : Cond.classLink "JobRuntime" 97 "java/lang/ArithmeticException" ∈ lw_tbl := (List.mem_of_getElem? (i := 546) (by decide +kernel))
theorem k_J_100 : Cond.classLink "JobRuntime" 100 "java/util/NoSuchElementException" ∈ lw_tbl := (List.mem_of_getElem? (i := 561) (by decide +kernel))
theorem l_L_34 : Cond.methodLink "JobRuntimeLaw" 34 y_J_state ∈ lw_tbl := (List.mem_of_getElem? (i := 579) (by decide +kernel))
theorem l_L_37 : Cond.methodLink "JobRuntimeLaw" 37 y_J_cause ∈ lw_tbl := (List.mem_of_getElem? (i := 586) (by decide +kernel))
theorem l_L_40 : Cond.methodLink "JobRuntimeLaw" 40 y_J_about ∈ lw_tbl := (List.mem_of_getElem? (i := 593) (by decide +kernel))
theorem l_J_113 : Cond.methodLink "JobRuntime" 113 y_J_numberOf ∈ lw_tbl := (List.mem_of_getElem? (i := 597) (by decide +kernel))
theorem l_L_44 : Cond.methodLink "JobRuntimeLaw" 44 y_J_noted ∈ lw_tbl := (List.mem_of_getElem? (i := 603) (by decide +kernel))
theorem l_R_1 : Cond.methodLink "JobRuntimeModel" 1 Lib.objectInit ∈ lw_tbl := (List.mem_of_getElem? (i := 612) (by decide +kernel))
theorem f_R_7 : jF jcl "JobRuntimeModel" 7 6 0 false (kt_R 0) := ⟨_, kT_R, 41, kt_R, rfl, by decide, in_R, (List.mem_of_getElem? (i := 613) (by decide +kernel)), tok_R, nok_R, rfl, rfl, fun h => by cases h⟩
theorem g_R_7 : jFg jcl "JobRuntimeModel" 7 6 0 := f_R_7.g
theorem f_R_13 : jF jcl "JobRuntimeModel" 13 6 1 false (kt_R 1) := ⟨_, kT_R, 41, kt_R, rfl, by decide, in_R, (List.mem_of_getElem? (i := 614) (by decide +kernel)), tok_R, nok_R, rfl, rfl, fun h => by cases h⟩
theorem g_R_13 : jFg jcl "JobRuntimeModel" 13 6 1 := f_R_13.g
theorem f_R_16 : jF jcl "JobRuntimeModel" 16 6 2 false (kt_R 2) := ⟨_, kT_R, 41, kt_R, rfl, by decide, in_R, (List.mem_of_getElem? (i := 615) (by decide +kernel)), tok_R, nok_R, rfl, rfl, fun h => by cases h⟩
theorem g_R_16 : jFg jcl "JobRuntimeModel" 16 6 2 := f_R_16.g
theorem f_R_19 : jF jcl "JobRuntimeModel" 19 6 3 false (kt_R 3) := ⟨_, kT_R, 41, kt_R, rfl, by decide, in_R, (List.mem_of_getElem? (i := 616) (by decide +kernel)), tok_R, nok_R, rfl, rfl, fun h => by cases h⟩
theorem g_R_19 : jFg jcl "JobRuntimeModel" 19 6 3 := f_R_19.g
theorem f_R_22 : jF jcl "JobRuntimeModel" 22 6 4 false (kt_R 4) := ⟨_, kT_R, 41, kt_R, rfl, by decide, in_R, (List.mem_of_getElem? (i := 617) (by decide +kernel)), tok_R, nok_R, rfl, rfl, fun h => by cases h⟩
theorem g_R_22 : jFg jcl "JobRuntimeModel" 22 6 4 := f_R_22.g
theorem f_R_25 : jF jcl "JobRuntimeModel" 25 6 5 false (kt_R 5) := ⟨_, kT_R, 41, kt_R, rfl, by decide, in_R, (List.mem_of_getElem? (i := 618) (by decide +kernel)), tok_R, nok_R, rfl, rfl, fun h => by cases h⟩
theorem g_R_25 : jFg jcl "JobRuntimeModel" 25 6 5 := f_R_25.g
theorem f_R_28 : jF jcl "JobRuntimeModel" 28 6 6 false (kt_R 6) := ⟨_, kT_R, 41, kt_R, rfl, by decide, in_R, (List.mem_of_getElem? (i := 619) (by decide +kernel)), tok_R, nok_R, rfl, rfl, fun h => by cases h⟩
theorem g_R_28 : jFg jcl "JobRuntimeModel" 28 6 6 := f_R_28.g
theorem f_R_31 : jF jcl "JobRuntimeModel" 31 6 7 false (kt_R 7) := ⟨_, kT_R, 41, kt_R, rfl, by decide, in_R, (List.mem_of_getElem? (i := 620) (by decide +kernel)), tok_R, nok_R, rfl, rfl, fun h => by cases h⟩
theorem g_R_31 : jFg jcl "JobRuntimeModel" 31 6 7 := f_R_31.g
theorem f_R_34 : jF jcl "JobRuntimeModel" 34 6 8 false (kt_R 8) := ⟨_, kT_R, 41, kt_R, rfl, by decide, in_R, (List.mem_of_getElem? (i := 621) (by decide +kernel)), tok_R, nok_R, rfl, rfl, fun h => by cases h⟩
theorem g_R_34 : jFg jcl "JobRuntimeModel" 34 6 8 := f_R_34.g
theorem f_R_37 : jF jcl "JobRuntimeModel" 37 6 9 false (kt_R 9) := ⟨_, kT_R, 41, kt_R, rfl, by decide, in_R, (List.mem_of_getElem? (i := 622) (by decide +kernel)), tok_R, nok_R, rfl, rfl, fun h => by cases h⟩
theorem g_R_37 : jFg jcl "JobRuntimeModel" 37 6 9 := f_R_37.g
theorem f_R_40 : jF jcl "JobRuntimeModel" 40 6 10 false (kt_R 10) := ⟨_, kT_R, 41, kt_R, rfl, by decide, in_R, (List.mem_of_getElem? (i := 623) (by decide +kernel)), tok_R, nok_R, rfl, rfl, fun h => by cases h⟩
theorem g_R_40 : jFg jcl "JobRuntimeModel" 40 6 10 := f_R_40.g
theorem f_R_44 : jF jcl "JobRuntimeModel" 44 6 11 true (kt_R 11) := ⟨_, kT_R, 41, kt_R, rfl, by decide, in_R, (List.mem_of_getElem? (i := 624) (by decide +kernel)), tok_R, nok_R, rfl, rfl, fun _ => rfl⟩
theorem g_R_44 : jFg jcl "JobRuntimeModel" 44 6 11 := f_R_44.g
theorem f_R_48 : jF jcl "JobRuntimeModel" 48 6 12 true (kt_R 12) := ⟨_, kT_R, 41, kt_R, rfl, by decide, in_R, (List.mem_of_getElem? (i := 625) (by decide +kernel)), tok_R, nok_R, rfl, rfl, fun _ => rfl⟩
theorem g_R_48 : jFg jcl "JobRuntimeModel" 48 6 12 := f_R_48.g
theorem f_R_51 : jF jcl "JobRuntimeModel" 51 6 13 true (kt_R 13) := ⟨_, kT_R, 41, kt_R, rfl, by decide, in_R, (List.mem_of_getElem? (i := 626) (by decide +kernel)), tok_R, nok_R, rfl, rfl, fun _ => rfl⟩
theorem g_R_51 : jFg jcl "JobRuntimeModel" 51 6 13 := f_R_51.g
theorem f_R_54 : jF jcl "JobRuntimeModel" 54 6 14 true (kt_R 14) := ⟨_, kT_R, 41, kt_R, rfl, by decide, in_R, (List.mem_of_getElem? (i := 627) (by decide +kernel)), tok_R, nok_R, rfl, rfl, fun _ => rfl⟩
theorem g_R_54 : jFg jcl "JobRuntimeModel" 54 6 14 := f_R_54.g
theorem f_R_57 : jF jcl "JobRuntimeModel" 57 6 15 true (kt_R 15) := ⟨_, kT_R, 41, kt_R, rfl, by decide, in_R, (List.mem_of_getElem? (i := 628) (by decide +kernel)), tok_R, nok_R, rfl, rfl, fun _ => rfl⟩
theorem g_R_57 : jFg jcl "JobRuntimeModel" 57 6 15 := f_R_57.g
theorem f_R_60 : jF jcl "JobRuntimeModel" 60 6 16 true (kt_R 16) := ⟨_, kT_R, 41, kt_R, rfl, by decide, in_R, (List.mem_of_getElem? (i := 629) (by decide +kernel)), tok_R, nok_R, rfl, rfl, fun _ => rfl⟩
theorem g_R_60 : jFg jcl "JobRuntimeModel" 60 6 16 := f_R_60.g
theorem f_R_63 : jF jcl "JobRuntimeModel" 63 6 17 true (kt_R 17) := ⟨_, kT_R, 41, kt_R, rfl, by decide, in_R, (List.mem_of_getElem? (i := 630) (by decide +kernel)), tok_R, nok_R, rfl, rfl, fun _ => rfl⟩
theorem g_R_63 : jFg jcl "JobRuntimeModel" 63 6 17 := f_R_63.g
theorem f_R_66 : jF jcl "JobRuntimeModel" 66 6 18 true (kt_R 18) := ⟨_, kT_R, 41, kt_R, rfl, by decide, in_R, (List.mem_of_getElem? (i := 631) (by decide +kernel)), tok_R, nok_R, rfl, rfl, fun _ => rfl⟩
theorem g_R_66 : jFg jcl "JobRuntimeModel" 66 6 18 := f_R_66.g
theorem f_R_69 : jF jcl "JobRuntimeModel" 69 6 19 true (kt_R 19) := ⟨_, kT_R, 41, kt_R, rfl, by decide, in_R, (List.mem_of_getElem? (i := 632) (by decide +kernel)), tok_R, nok_R, rfl, rfl, fun _ => rfl⟩
theorem g_R_69 : jFg jcl "JobRuntimeModel" 69 6 19 := f_R_69.g
theorem f_R_72 : jF jcl "JobRuntimeModel" 72 6 20 true (kt_R 20) := ⟨_, kT_R, 41, kt_R, rfl, by decide, in_R, (List.mem_of_getElem? (i := 633) (by decide +kernel)), tok_R, nok_R, rfl, rfl, fun _ => rfl⟩
theorem g_R_72 : jFg jcl "JobRuntimeModel" 72 6 20 := f_R_72.g
theorem f_R_75 : jF jcl "JobRuntimeModel" 75 6 21 true (kt_R 21) := ⟨_, kT_R, 41, kt_R, rfl, by decide, in_R, (List.mem_of_getElem? (i := 634) (by decide +kernel)), tok_R, nok_R, rfl, rfl, fun _ => rfl⟩
theorem g_R_75 : jFg jcl "JobRuntimeModel" 75 6 21 := f_R_75.g
theorem f_R_78 : jF jcl "JobRuntimeModel" 78 6 22 true (kt_R 22) := ⟨_, kT_R, 41, kt_R, rfl, by decide, in_R, (List.mem_of_getElem? (i := 635) (by decide +kernel)), tok_R, nok_R, rfl, rfl, fun _ => rfl⟩
theorem g_R_78 : jFg jcl "JobRuntimeModel" 78 6 22 := f_R_78.g
theorem f_R_81 : jF jcl "JobRuntimeModel" 81 6 23 true (kt_R 23) := ⟨_, kT_R, 41, kt_R, rfl, by decide, in_R, (List.mem_of_getElem? (i := 636) (by decide +kernel)), tok_R, nok_R, rfl, rfl, fun _ => rfl⟩
theorem g_R_81 : jFg jcl "JobRuntimeModel" 81 6 23 := f_R_81.g
theorem f_R_84 : jF jcl "JobRuntimeModel" 84 6 24 true (kt_R 24) := ⟨_, kT_R, 41, kt_R, rfl, by decide, in_R, (List.mem_of_getElem? (i := 637) (by decide +kernel)), tok_R, nok_R, rfl, rfl, fun _ => rfl⟩
theorem g_R_84 : jFg jcl "JobRuntimeModel" 84 6 24 := f_R_84.g
theorem f_R_88 : jF jcl "JobRuntimeModel" 88 6 25 true (kt_R 25) := ⟨_, kT_R, 41, kt_R, rfl, by decide, in_R, (List.mem_of_getElem? (i := 638) (by decide +kernel)), tok_R, nok_R, rfl, rfl, fun _ => rfl⟩
theorem g_R_88 : jFg jcl "JobRuntimeModel" 88 6 25 := f_R_88.g
theorem f_R_91 : jF jcl "JobRuntimeModel" 91 6 26 true (kt_R 26) := ⟨_, kT_R, 41, kt_R, rfl, by decide, in_R, (List.mem_of_getElem? (i := 639) (by decide +kernel)), tok_R, nok_R, rfl, rfl, fun _ => rfl⟩
theorem g_R_91 : jFg jcl "JobRuntimeModel" 91 6 26 := f_R_91.g
theorem f_R_94 : jF jcl "JobRuntimeModel" 94 6 27 true (kt_R 27) := ⟨_, kT_R, 41, kt_R, rfl, by decide, in_R, (List.mem_of_getElem? (i := 640) (by decide +kernel)), tok_R, nok_R, rfl, rfl, fun _ => rfl⟩
theorem g_R_94 : jFg jcl "JobRuntimeModel" 94 6 27 := f_R_94.g
theorem f_R_97 : jF jcl "JobRuntimeModel" 97 6 28 true (kt_R 28) := ⟨_, kT_R, 41, kt_R, rfl, by decide, in_R, (List.mem_of_getElem? (i := 641) (by decide +kernel)), tok_R, nok_R, rfl, rfl, fun _ => rfl⟩
theorem g_R_97 : jFg jcl "JobRuntimeModel" 97 6 28 := f_R_97.g
theorem f_R_100 : jF jcl "JobRuntimeModel" 100 6 29 true (kt_R 29) := ⟨_, kT_R, 41, kt_R, rfl, by decide, in_R, (List.mem_of_getElem? (i := 642) (by decide +kernel)), tok_R, nok_R, rfl, rfl, fun _ => rfl⟩
theorem g_R_100 : jFg jcl "JobRuntimeModel" 100 6 29 := f_R_100.g
theorem f_R_103 : jF jcl "JobRuntimeModel" 103 6 30 true (kt_R 30) := ⟨_, kT_R, 41, kt_R, rfl, by decide, in_R, (List.mem_of_getElem? (i := 643) (by decide +kernel)), tok_R, nok_R, rfl, rfl, fun _ => rfl⟩
theorem g_R_103 : jFg jcl "JobRuntimeModel" 103 6 30 := f_R_103.g
theorem f_R_106 : jF jcl "JobRuntimeModel" 106 6 31 true (kt_R 31) := ⟨_, kT_R, 41, kt_R, rfl, by decide, in_R, (List.mem_of_getElem? (i := 644) (by decide +kernel)), tok_R, nok_R, rfl, rfl, fun _ => rfl⟩
theorem g_R_106 : jFg jcl "JobRuntimeModel" 106 6 31 := f_R_106.g
theorem f_R_109 : jF jcl "JobRuntimeModel" 109 6 32 true (kt_R 32) := ⟨_, kT_R, 41, kt_R, rfl, by decide, in_R, (List.mem_of_getElem? (i := 645) (by decide +kernel)), tok_R, nok_R, rfl, rfl, fun _ => rfl⟩
theorem g_R_109 : jFg jcl "JobRuntimeModel" 109 6 32 := f_R_109.g
theorem f_R_112 : jF jcl "JobRuntimeModel" 112 6 33 true (kt_R 33) := ⟨_, kT_R, 41, kt_R, rfl, by decide, in_R, (List.mem_of_getElem? (i := 646) (by decide +kernel)), tok_R, nok_R, rfl, rfl, fun _ => rfl⟩
theorem g_R_112 : jFg jcl "JobRuntimeModel" 112 6 33 := f_R_112.g
theorem f_R_115 : jF jcl "JobRuntimeModel" 115 6 34 true (kt_R 34) := ⟨_, kT_R, 41, kt_R, rfl, by decide, in_R, (List.mem_of_getElem? (i := 647) (by decide +kernel)), tok_R, nok_R, rfl, rfl, fun _ => rfl⟩
theorem g_R_115 : jFg jcl "JobRuntimeModel" 115 6 34 := f_R_115.g
theorem f_R_118 : jF jcl "JobRuntimeModel" 118 6 35 true (kt_R 35) := ⟨_, kT_R, 41, kt_R, rfl, by decide, in_R, (List.mem_of_getElem? (i := 648) (by decide +kernel)), tok_R, nok_R, rfl, rfl, fun _ => rfl⟩
theorem g_R_118 : jFg jcl "JobRuntimeModel" 118 6 35 := f_R_118.g
theorem f_R_121 : jF jcl "JobRuntimeModel" 121 6 36 true (kt_R 36) := ⟨_, kT_R, 41, kt_R, rfl, by decide, in_R, (List.mem_of_getElem? (i := 649) (by decide +kernel)), tok_R, nok_R, rfl, rfl, fun _ => rfl⟩
theorem g_R_121 : jFg jcl "JobRuntimeModel" 121 6 36 := f_R_121.g
theorem f_R_124 : jF jcl "JobRuntimeModel" 124 6 37 true (kt_R 37) := ⟨_, kT_R, 41, kt_R, rfl, by decide, in_R, (List.mem_of_getElem? (i := 650) (by decide +kernel)), tok_R, nok_R, rfl, rfl, fun _ => rfl⟩
theorem g_R_124 : jFg jcl "JobRuntimeModel" 124 6 37 := f_R_124.g
theorem f_R_127 : jF jcl "JobRuntimeModel" 127 6 38 true (kt_R 38) := ⟨_, kT_R, 41, kt_R, rfl, by decide, in_R, (List.mem_of_getElem? (i := 651) (by decide +kernel)), tok_R, nok_R, rfl, rfl, fun _ => rfl⟩
theorem g_R_127 : jFg jcl "JobRuntimeModel" 127 6 38 := f_R_127.g
theorem f_R_130 : jF jcl "JobRuntimeModel" 130 6 39 true (kt_R 39) := ⟨_, kT_R, 41, kt_R, rfl, by decide, in_R, (List.mem_of_getElem? (i := 652) (by decide +kernel)), tok_R, nok_R, rfl, rfl, fun _ => rfl⟩
theorem g_R_130 : jFg jcl "JobRuntimeModel" 130 6 39 := f_R_130.g
theorem f_R_133 : jF jcl "JobRuntimeModel" 133 6 40 true (kt_R 40) := ⟨_, kT_R, 41, kt_R, rfl, by decide, in_R, (List.mem_of_getElem? (i := 653) (by decide +kernel)), tok_R, nok_R, rfl, rfl, fun _ => rfl⟩
theorem g_R_133 : jFg jcl "JobRuntimeModel" 133 6 40 := f_R_133.g
theorem l_R_136 : Cond.methodLink "JobRuntimeModel" 136 y_R_out ∈ lw_tbl := (List.mem_of_getElem? (i := 746) (by decide +kernel))
theorem l_R_140 : Cond.methodLink "JobRuntimeModel" 140 y_R_wrong ∈ lw_tbl := (List.mem_of_getElem? (i := 750) (by decide +kernel))
theorem l_R_143 : Cond.methodLink "JobRuntimeModel" 143 y_R_refuse ∈ lw_tbl := (List.mem_of_getElem? (i := 754) (by decide +kernel))
theorem l_R_147 : Cond.methodLink "JobRuntimeModel" 147 y_R_fine ∈ lw_tbl := (List.mem_of_getElem? (i := 758) (by decide +kernel))
theorem l_R_158 : Cond.methodLink "JobRuntimeModel" 158 y_R_begin ∈ lw_tbl := (List.mem_of_getElem? (i := 766) (by decide +kernel))
theorem l_R_150 : Cond.methodLink "JobRuntimeModel" 150 y_R_pushFrame ∈ lw_tbl := (List.mem_of_getElem? (i := 770) (by decide +kernel))
theorem l_R_154 : Cond.methodLink "JobRuntimeModel" 154 y_R_putReady ∈ lw_tbl := (List.mem_of_getElem? (i := 774) (by decide +kernel))
theorem l_R_170 : Cond.methodLink "JobRuntimeModel" 170 y_R_give ∈ lw_tbl := (List.mem_of_getElem? (i := 782) (by decide +kernel))
theorem l_R_162 : Cond.methodLink "JobRuntimeModel" 162 y_R_nextChild ∈ lw_tbl := (List.mem_of_getElem? (i := 786) (by decide +kernel))
theorem l_R_166 : Cond.methodLink "JobRuntimeModel" 166 y_R_shielded ∈ lw_tbl := (List.mem_of_getElem? (i := 790) (by decide +kernel))
theorem l_R_221 : Cond.methodLink "JobRuntimeModel" 221 y_R_timeGoesOn ∈ lw_tbl := (List.mem_of_getElem? (i := 798) (by decide +kernel))
theorem l_R_224 : Cond.methodLink "JobRuntimeModel" 224 y_R_resume ∈ lw_tbl := (List.mem_of_getElem? (i := 810) (by decide +kernel))
theorem l_R_213 : Cond.methodLink "JobRuntimeModel" 213 y_R_earliest ∈ lw_tbl := (List.mem_of_getElem? (i := 802) (by decide +kernel))
theorem l_R_217 : Cond.methodLink "JobRuntimeModel" 217 y_R_oneDue ∈ lw_tbl := (List.mem_of_getElem? (i := 806) (by decide +kernel))
theorem l_R_204 : Cond.methodLink "JobRuntimeModel" 204 y_R_throwAt ∈ lw_tbl := (List.mem_of_getElem? (i := 814) (by decide +kernel))
theorem l_R_207 : Cond.methodLink "JobRuntimeModel" 207 y_R_frameEnds ∈ lw_tbl := (List.mem_of_getElem? (i := 838) (by decide +kernel))
theorem l_R_210 : Cond.methodLink "JobRuntimeModel" 210 y_R_doAction ∈ lw_tbl := (List.mem_of_getElem? (i := 842) (by decide +kernel))
theorem l_R_187 : Cond.methodLink "JobRuntimeModel" 187 y_R_bodyEnds ∈ lw_tbl := (List.mem_of_getElem? (i := 818) (by decide +kernel))
theorem l_R_180 : Cond.methodLink "JobRuntimeModel" 180 y_R_write ∈ lw_tbl := (List.mem_of_getElem? (i := 834) (by decide +kernel))
theorem l_R_184 : Cond.methodLink "JobRuntimeModel" 184 y_R_finish ∈ lw_tbl := (List.mem_of_getElem? (i := 822) (by decide +kernel))
theorem l_R_174 : Cond.methodLink "JobRuntimeModel" 174 y_R_firstWaiter ∈ lw_tbl := (List.mem_of_getElem? (i := 826) (by decide +kernel))
theorem l_R_177 : Cond.methodLink "JobRuntimeModel" 177 y_R_wake ∈ lw_tbl := (List.mem_of_getElem? (i := 830) (by decide +kernel))
theorem l_R_190 : Cond.methodLink "JobRuntimeModel" 190 y_R_waitIn ∈ lw_tbl := (List.mem_of_getElem? (i := 846) (by decide +kernel))
theorem l_R_194 : Cond.methodLink "JobRuntimeModel" 194 y_R_awaits ∈ lw_tbl := (List.mem_of_getElem? (i := 850) (by decide +kernel))
theorem l_R_197 : Cond.methodLink "JobRuntimeModel" 197 y_R_scope ∈ lw_tbl := (List.mem_of_getElem? (i := 854) (by decide +kernel))
theorem l_R_201 : Cond.methodLink "JobRuntimeModel" 201 y_R_frame ∈ lw_tbl := (List.mem_of_getElem? (i := 858) (by decide +kernel))
theorem l_R_227 : Cond.methodLink "JobRuntimeModel" 227 y_R_no ∈ lw_tbl := (List.mem_of_getElem? (i := 866) (by decide +kernel))
theorem l_R_230 : Cond.methodLink "JobRuntimeModel" 230 y_R_open ∈ lw_tbl := (List.mem_of_getElem? (i := 882) (by decide +kernel))
theorem k_L_8 : Cond.classLink "JobRuntimeLaw" 8 "JobRuntime" ∈ lw_tbl := (List.mem_of_getElem? (i := 65) (by decide +kernel))
theorem l_L_47 : Cond.methodLink "JobRuntimeLaw" 47 y_J_init ∈ lw_tbl := (List.mem_of_getElem? (i := 67) (by decide +kernel))
theorem k_L_48 : Cond.classLink "JobRuntimeLaw" 48 "JobRuntimeModel" ∈ lw_tbl := (List.mem_of_getElem? (i := 607) (by decide +kernel))
theorem l_L_50 : Cond.methodLink "JobRuntimeLaw" 50 y_R_init ∈ lw_tbl := (List.mem_of_getElem? (i := 609) (by decide +kernel))
theorem l_L_51 : Cond.methodLink "JobRuntimeLaw" 51 y_L_act ∈ lw_tbl := (List.mem_of_getElem? (i := 165) (by decide +kernel))
theorem l_L_56 : Cond.methodLink "JobRuntimeLaw" 56 y_R_act ∈ lw_tbl := (List.mem_of_getElem? (i := 742) (by decide +kernel))
theorem l_L_57 : Cond.methodLink "JobRuntimeLaw" 57 y_R_thrown ∈ lw_tbl := (List.mem_of_getElem? (i := 738) (by decide +kernel))
theorem l_L_61 : Cond.methodLink "JobRuntimeLaw" 61 y_L_start ∈ lw_tbl := (List.mem_of_getElem? (i := 271) (by decide +kernel))
theorem l_L_64 : Cond.methodLink "JobRuntimeLaw" 64 y_R_start ∈ lw_tbl := (List.mem_of_getElem? (i := 762) (by decide +kernel))
theorem l_L_65 : Cond.methodLink "JobRuntimeLaw" 65 y_L_cancel ∈ lw_tbl := (List.mem_of_getElem? (i := 408) (by decide +kernel))
theorem l_L_67 : Cond.methodLink "JobRuntimeLaw" 67 y_R_cancel ∈ lw_tbl := (List.mem_of_getElem? (i := 778) (by decide +kernel))
theorem l_L_68 : Cond.methodLink "JobRuntimeLaw" 68 y_L_run ∈ lw_tbl := (List.mem_of_getElem? (i := 431) (by decide +kernel))
theorem l_L_70 : Cond.methodLink "JobRuntimeLaw" 70 y_R_run ∈ lw_tbl := (List.mem_of_getElem? (i := 794) (by decide +kernel))
theorem l_L_71 : Cond.methodLink "JobRuntimeLaw" 71 y_L_result ∈ lw_tbl := (List.mem_of_getElem? (i := 537) (by decide +kernel))
theorem l_L_73 : Cond.methodLink "JobRuntimeLaw" 73 y_R_result ∈ lw_tbl := (List.mem_of_getElem? (i := 862) (by decide +kernel))
theorem l_L_74 : Cond.methodLink "JobRuntimeLaw" 74 y_L_state ∈ lw_tbl := (List.mem_of_getElem? (i := 576) (by decide +kernel))
theorem l_L_76 : Cond.methodLink "JobRuntimeLaw" 76 y_R_state ∈ lw_tbl := (List.mem_of_getElem? (i := 870) (by decide +kernel))
theorem l_L_77 : Cond.methodLink "JobRuntimeLaw" 77 y_L_cause ∈ lw_tbl := (List.mem_of_getElem? (i := 583) (by decide +kernel))
theorem l_L_79 : Cond.methodLink "JobRuntimeLaw" 79 y_R_cause ∈ lw_tbl := (List.mem_of_getElem? (i := 874) (by decide +kernel))
theorem l_L_80 : Cond.methodLink "JobRuntimeLaw" 80 y_L_about ∈ lw_tbl := (List.mem_of_getElem? (i := 590) (by decide +kernel))
theorem l_L_83 : Cond.methodLink "JobRuntimeLaw" 83 y_R_about ∈ lw_tbl := (List.mem_of_getElem? (i := 878) (by decide +kernel))
theorem l_L_84 : Cond.methodLink "JobRuntimeLaw" 84 y_L_noted ∈ lw_tbl := (List.mem_of_getElem? (i := 600) (by decide +kernel))
theorem l_L_86 : Cond.methodLink "JobRuntimeLaw" 86 y_R_noted ∈ lw_tbl := (List.mem_of_getElem? (i := 886) (by decide +kernel))
theorem l_L_87 : Cond.methodLink "JobRuntimeLaw" 87 y_J_count ∈ lw_tbl := (List.mem_of_getElem? (i := 152) (by decide +kernel))
theorem l_L_90 : Cond.methodLink "JobRuntimeLaw" 90 y_R_count ∈ lw_tbl := (List.mem_of_getElem? (i := 890) (by decide +kernel))
theorem wk_J : Cond.instantiable "JobRuntime" 11 ∈ lw_tbl ∧ Cond.initialized "JobRuntime" ∈ lw_tbl := ⟨(List.mem_of_getElem? (i := 66) (by decide +kernel)), (List.mem_of_getElem? (i := 50) (by decide +kernel))⟩
theorem wk_P : Cond.instantiable "JobRuntime$Program" 4 ∈ lw_tbl ∧ Cond.initialized "JobRuntime$Program" ∈ lw_tbl := ⟨(List.mem_of_getElem? (i := 75) (by decide +kernel)), (List.mem_of_getElem? (i := 51) (by decide +kernel))⟩
theorem wk_Q : Cond.instantiable "JobRuntime$ReadyRow" 3 ∈ lw_tbl ∧ Cond.initialized "JobRuntime$ReadyRow" ∈ lw_tbl := ⟨(List.mem_of_getElem? (i := 101) (by decide +kernel)), (List.mem_of_getElem? (i := 52) (by decide +kernel))⟩
theorem wk_B : Cond.instantiable "JobRuntime$Job" 16 ∈ lw_tbl ∧ Cond.initialized "JobRuntime$Job" ∈ lw_tbl := ⟨(List.mem_of_getElem? (i := 282) (by decide +kernel)), (List.mem_of_getElem? (i := 60) (by decide +kernel))⟩
theorem wk_F : Cond.instantiable "JobRuntime$Frame" 5 ∈ lw_tbl ∧ Cond.initialized "JobRuntime$Frame" ∈ lw_tbl := ⟨(List.mem_of_getElem? (i := 290) (by decide +kernel)), (List.mem_of_getElem? (i := 61) (by decide +kernel))⟩
theorem wk_T : Cond.instantiable "JobRuntime$Timer" 2 ∈ lw_tbl ∧ Cond.initialized "JobRuntime$Timer" ∈ lw_tbl := ⟨(List.mem_of_getElem? (i := 320) (by decide +kernel)), (List.mem_of_getElem? (i := 62) (by decide +kernel))⟩
theorem wk_R : Cond.instantiable "JobRuntimeModel" 41 ∈ lw_tbl ∧ Cond.initialized "JobRuntimeModel" ∈ lw_tbl := ⟨(List.mem_of_getElem? (i := 608) (by decide +kernel)), (List.mem_of_getElem? (i := 53) (by decide +kernel))⟩
set_option maxRecDepth 100000 in
theorem w_oi : Cond.instanceMethod Lib.objectInit ∈ lw_tbl ∧ Cond.code Lib.objectInit ⟨#[0xb1]⟩ 1 none ∈ lw_tbl := ⟨(List.mem_of_getElem? (i := 71) (by decide +kernel)), (List.mem_of_getElem? (i := 72) rfl)⟩
theorem w_a_int : Cond.arrayClass .int ∈ lw_tbl := (List.mem_of_getElem? (i := 97) (by decide +kernel))
theorem w_a_boolean : Cond.arrayClass .boolean ∈ lw_tbl := (List.mem_of_getElem? (i := 737) (by decide +kernel))
theorem w_a_long : Cond.arrayClass .long ∈ lw_tbl := (List.mem_of_getElem? (i := 894) (by decide +kernel))
theorem w_o_P : Cond.arrayOver (.object "JobRuntime$Program") ∈ lw_tbl := (List.mem_of_getElem? (i := 74) (by decide +kernel))
theorem w_o_B : Cond.arrayOver (.object "JobRuntime$Job") ∈ lw_tbl := (List.mem_of_getElem? (i := 99) (by decide +kernel))
theorem w_o_F : Cond.arrayOver (.object "JobRuntime$Frame") ∈ lw_tbl := (List.mem_of_getElem? (i := 289) (by decide +kernel))
theorem x_J_43 : Bundle.fit "java/lang/IllegalArgumentException" = true ∧ (Cond.classLink "JobRuntime" 43 "java/lang/IllegalArgumentException" ∈ lw_tbl ∧ Cond.initialized "java/lang/IllegalArgumentException" ∈ lw_tbl) ∧ (∀ x ∈ vx_at0 "JobRuntime" 45 "java/lang/IllegalArgumentException" ["java/lang/RuntimeException", "java/lang/Exception"], x ∈ lw_tbl ∧ vx_ot x = true ∧ (goodWord x = true ∨ jx x = true)) := ⟨by decide +kernel, ⟨(List.mem_of_getElem? (i := 188) (by decide +kernel)), (List.mem_of_getElem? (i := 58) (by decide +kernel))⟩, by decide +kernel⟩
theorem x_J_50 : Bundle.fit "java/lang/IllegalStateException" = true ∧ (Cond.classLink "JobRuntime" 50 "java/lang/IllegalStateException" ∈ lw_tbl ∧ Cond.initialized "java/lang/IllegalStateException" ∈ lw_tbl) ∧ (∀ x ∈ vx_at0 "JobRuntime" 52 "java/lang/IllegalStateException" ["java/lang/RuntimeException", "java/lang/Exception"], x ∈ lw_tbl ∧ vx_ot x = true ∧ (goodWord x = true ∨ jx x = true)) := ⟨by decide +kernel, ⟨(List.mem_of_getElem? (i := 252) (by decide +kernel)), (List.mem_of_getElem? (i := 59) (by decide +kernel))⟩, by decide +kernel⟩
theorem x_J_97 : Bundle.fit "java/lang/ArithmeticException" = true ∧ (Cond.classLink "JobRuntime" 97 "java/lang/ArithmeticException" ∈ lw_tbl ∧ Cond.initialized "java/lang/ArithmeticException" ∈ lw_tbl) ∧ (∀ x ∈ vx_at0 "JobRuntime" 99 "java/lang/ArithmeticException" ["java/lang/RuntimeException", "java/lang/Exception"], x ∈ lw_tbl ∧ vx_ot x = true ∧ (goodWord x = true ∨ jx x = true)) := ⟨by decide +kernel, ⟨(List.mem_of_getElem? (i := 546) (by decide +kernel)), (List.mem_of_getElem? (i := 63) (by decide +kernel))⟩, by decide +kernel⟩
theorem x_J_100 : Bundle.fit "java/util/NoSuchElementException" = true ∧ (Cond.classLink "JobRuntime" 100 "java/util/NoSuchElementException" ∈ lw_tbl ∧ Cond.initialized "java/util/NoSuchElementException" ∈ lw_tbl) ∧ (∀ x ∈ vx_at0 "JobRuntime" 102 "java/util/NoSuchElementException" ["java/lang/RuntimeException", "java/lang/Exception"], x ∈ lw_tbl ∧ vx_ot x = true ∧ (goodWord x = true ∨ jx x = true)) := ⟨by decide +kernel, ⟨(List.mem_of_getElem? (i := 561) (by decide +kernel)), (List.mem_of_getElem? (i := 64) (by decide +kernel))⟩, by decide +kernel⟩
theorem xc_IllegalArgumentException : Cond.castable "java/lang/IllegalArgumentException" "java/lang/IllegalArgumentException" ∈ lw_tbl := (List.mem_of_getElem? (i := 190) (by decide +kernel))
theorem xc_IllegalStateException : Cond.castable "java/lang/IllegalStateException" "java/lang/IllegalStateException" ∈ lw_tbl := (List.mem_of_getElem? (i := 254) (by decide +kernel))
theorem xc_ArithmeticException : Cond.castable "java/lang/ArithmeticException" "java/lang/ArithmeticException" ∈ lw_tbl := (List.mem_of_getElem? (i := 548) (by decide +kernel))
theorem xc_NoSuchElementException : Cond.castable "java/util/NoSuchElementException" "java/util/NoSuchElementException" ∈ lw_tbl := (List.mem_of_getElem? (i := 563) (by decide +kernel))
theorem xl_13 : Cond.classLink "JobRuntimeLaw" 13 "java/lang/IllegalArgumentException" ∈ lw_tbl := (List.mem_of_getElem? (i := 168) (by decide +kernel))
theorem xl_15 : Cond.classLink "JobRuntimeLaw" 15 "java/lang/IllegalStateException" ∈ lw_tbl := (List.mem_of_getElem? (i := 169) (by decide +kernel))
theorem xl_30 : Cond.classLink "JobRuntimeLaw" 30 "java/lang/ArithmeticException" ∈ lw_tbl := (List.mem_of_getElem? (i := 540) (by decide +kernel))
theorem xl_32 : Cond.classLink "JobRuntimeLaw" 32 "java/util/NoSuchElementException" ∈ lw_tbl := (List.mem_of_getElem? (i := 541) (by decide +kernel))
