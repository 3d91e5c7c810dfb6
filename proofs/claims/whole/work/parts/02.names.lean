/-! Names and links (printed by wip/gen/names.py). -/
def R_T : String := "TurnHost$Term"
def F_T : u_T := fun k => match k with
  | 0 => ("TurnHost$Term", "sort", "I", true)
  | 1 => ("TurnHost$Term", "number", "I", true)
  | 2 => ("TurnHost$Term", "first", "LTurnHost$Term;", true)
  | 3 => ("TurnHost$Term", "second", "LTurnHost$Term;", true)
  | _ => ("TurnHost$Term", "weight", "I", true)
def ty_T : Nat → FieldType := fun k => match k with
  | 0 => .int
  | 1 => .int
  | 2 => .object "TurnHost$Term"
  | 3 => .object "TurnHost$Term"
  | _ => .int
theorem n_T : ∀ a, a < 5 → ∀ b, b < 5 → a ≠ b → (F_T a).2.1 ≠ (F_T b).2.1 := by decide +kernel
theorem ty_T_ok : ∀ k, k < 5 → parseFieldDescriptor (F_T k).2.2.1 = some (ty_T k) := by decide +kernel
def R_B : String := "TurnHost$Mailbox"
def F_B : u_T := fun k => match k with
  | 0 => ("TurnHost$Mailbox", "messages", "[LTurnHost$Term;", true)
  | 1 => ("TurnHost$Mailbox", "count", "I", false)
  | _ => ("TurnHost$Mailbox", "mark", "I", false)
def ty_B : Nat → FieldType := fun k => match k with
  | 0 => .array (.object "TurnHost$Term")
  | 1 => .int
  | _ => .int
theorem n_B : ∀ a, a < 3 → ∀ b, b < 3 → a ≠ b → (F_B a).2.1 ≠ (F_B b).2.1 := by decide +kernel
theorem ty_B_ok : ∀ k, k < 3 → parseFieldDescriptor (F_B k).2.2.1 = some (ty_B k) := by decide +kernel
def R_P : String := "TurnHost$HostProcess"
def F_P : u_T := fun k => match k with
  | 0 => ("TurnHost$HostProcess", "number", "I", true)
  | 1 => ("TurnHost$HostProcess", "pid", "LTurnHost$Term;", true)
  | 2 => ("TurnHost$HostProcess", "registers", "[LTurnHost$Term;", true)
  | 3 => ("TurnHost$HostProcess", "returns", "[I", true)
  | 4 => ("TurnHost$HostProcess", "mailbox", "LTurnHost$Mailbox;", true)
  | 5 => ("TurnHost$HostProcess", "returnCount", "I", false)
  | 6 => ("TurnHost$HostProcess", "place", "I", false)
  | 7 => ("TurnHost$HostProcess", "links", "I", false)
  | 8 => ("TurnHost$HostProcess", "traps", "Z", false)
  | 9 => ("TurnHost$HostProcess", "state", "I", false)
  | 10 => ("TurnHost$HostProcess", "reason", "LTurnHost$Term;", false)
  | _ => ("TurnHost$HostProcess", "reductions", "I", false)
def ty_P : Nat → FieldType := fun k => match k with
  | 0 => .int
  | 1 => .object "TurnHost$Term"
  | 2 => .array (.object "TurnHost$Term")
  | 3 => .array .int
  | 4 => .object "TurnHost$Mailbox"
  | 5 => .int
  | 6 => .int
  | 7 => .int
  | 8 => .boolean
  | 9 => .int
  | 10 => .object "TurnHost$Term"
  | _ => .int
theorem n_P : ∀ a, a < 12 → ∀ b, b < 12 → a ≠ b → (F_P a).2.1 ≠ (F_P b).2.1 := by decide +kernel
theorem ty_P_ok : ∀ k, k < 12 → parseFieldDescriptor (F_P k).2.2.1 = some (ty_P k) := by decide +kernel
def R_L : String := "TurnHost$Line"
def F_L : u_T := fun k => match k with
  | 0 => ("TurnHost$Line", "numbers", "[I", true)
  | _ => ("TurnHost$Line", "count", "I", false)
def ty_L : Nat → FieldType := fun k => match k with
  | 0 => .array .int
  | _ => .int
theorem n_L : ∀ a, a < 2 → ∀ b, b < 2 → a ≠ b → (F_L a).2.1 ≠ (F_L b).2.1 := by decide +kernel
theorem ty_L_ok : ∀ k, k < 2 → parseFieldDescriptor (F_L k).2.2.1 = some (ty_L k) := by decide +kernel
def R_S : String := "TurnHost$Society"
def F_S : u_T := fun k => match k with
  | 0 => ("TurnHost$Society", "table", "[LTurnHost$HostProcess;", true)
  | 1 => ("TurnHost$Society", "line", "LTurnHost$Line;", true)
  | 2 => ("TurnHost$Society", "nil", "LTurnHost$Term;", true)
  | 3 => ("TurnHost$Society", "atoms", "[LTurnHost$Term;", true)
  | _ => ("TurnHost$Society", "count", "I", false)
def ty_S : Nat → FieldType := fun k => match k with
  | 0 => .array (.object "TurnHost$HostProcess")
  | 1 => .object "TurnHost$Line"
  | 2 => .object "TurnHost$Term"
  | 3 => .array (.object "TurnHost$Term")
  | _ => .int
theorem n_S : ∀ a, a < 5 → ∀ b, b < 5 → a ≠ b → (F_S a).2.1 ≠ (F_S b).2.1 := by decide +kernel
theorem ty_S_ok : ∀ k, k < 5 → parseFieldDescriptor (F_S k).2.2.1 = some (ty_S k) := by decide +kernel
def R_G : String := "TurnHost$Program"
def F_G : u_T := fun k => match k with
  | 0 => ("TurnHost$Program", "cells", "[I", true)
  | _ => ("TurnHost$Program", "count", "I", false)
def ty_G : Nat → FieldType := fun k => match k with
  | 0 => .array .int
  | _ => .int
theorem n_G : ∀ a, a < 2 → ∀ b, b < 2 → a ≠ b → (F_G a).2.1 ≠ (F_G b).2.1 := by decide +kernel
theorem ty_G_ok : ∀ k, k < 2 → parseFieldDescriptor (F_G k).2.2.1 = some (ty_G k) := by decide +kernel
def R_M : String := "TurnHost$Machine"
def F_M : u_T := fun k => match k with
  | 0 => ("TurnHost$Machine", "program", "LTurnHost$Program;", true)
  | _ => ("TurnHost$Machine", "society", "LTurnHost$Society;", true)
def ty_M : Nat → FieldType := fun k => match k with
  | 0 => .object "TurnHost$Program"
  | _ => .object "TurnHost$Society"
theorem n_M : ∀ a, a < 2 → ∀ b, b < 2 → a ≠ b → (F_M a).2.1 ≠ (F_M b).2.1 := by decide +kernel
theorem ty_M_ok : ∀ k, k < 2 → parseFieldDescriptor (F_M k).2.2.1 = some (ty_M k) := by decide +kernel
def R_H : String := "TurnHost"
def F_H : u_T := fun k => match k with
  | 0 => ("TurnHost", "quota", "I", true)
  | 1 => ("TurnHost", "machine", "LTurnHost$Machine;", true)
  | 2 => ("TurnHost", "program", "LTurnHost$Program;", true)
  | 3 => ("TurnHost", "society", "LTurnHost$Society;", true)
  | _ => ("TurnHost", "spent", "I", false)
def ty_H : Nat → FieldType := fun k => match k with
  | 0 => .int
  | 1 => .object "TurnHost$Machine"
  | 2 => .object "TurnHost$Program"
  | 3 => .object "TurnHost$Society"
  | _ => .int
theorem n_H : ∀ a, a < 5 → ∀ b, b < 5 → a ≠ b → (F_H a).2.1 ≠ (F_H b).2.1 := by decide +kernel
theorem ty_H_ok : ∀ k, k < 5 → parseFieldDescriptor (F_H k).2.2.1 = some (ty_H k) := by decide +kernel
def R_N : String := "TurnHostModel"
def F_N : u_T := fun k => match k with
  | 0 => ("TurnHostModel", "quota", "I", true)
  | 1 => ("TurnHostModel", "size", "I", false)
  | 2 => ("TurnHostModel", "op", "[I", true)
  | 3 => ("TurnHostModel", "one", "[I", true)
  | 4 => ("TurnHostModel", "two", "[I", true)
  | 5 => ("TurnHostModel", "three", "[I", true)
  | 6 => ("TurnHostModel", "table", "[I", true)
  | 7 => ("TurnHostModel", "count", "I", false)
  | 8 => ("TurnHostModel", "state", "[I", true)
  | 9 => ("TurnHostModel", "place", "[I", true)
  | 10 => ("TurnHostModel", "mark", "[I", true)
  | 11 => ("TurnHostModel", "messages", "[I", true)
  | 12 => ("TurnHostModel", "calls", "[I", true)
  | 13 => ("TurnHostModel", "returns", "[I", true)
  | 14 => ("TurnHostModel", "links", "[I", true)
  | 15 => ("TurnHostModel", "traps", "[Z", true)
  | 16 => ("TurnHostModel", "done", "[I", true)
  | 17 => ("TurnHostModel", "waiting", "I", false)
  | 18 => ("TurnHostModel", "row", "[I", true)
  | 19 => ("TurnHostModel", "used", "I", false)
  | 20 => ("TurnHostModel", "telling", "[I", true)
  | _ => ("TurnHostModel", "next", "[I", true)
def ty_N : Nat → FieldType := fun k => match k with
  | 0 => .int
  | 1 => .int
  | 2 => .array .int
  | 3 => .array .int
  | 4 => .array .int
  | 5 => .array .int
  | 6 => .array .int
  | 7 => .int
  | 8 => .array .int
  | 9 => .array .int
  | 10 => .array .int
  | 11 => .array .int
  | 12 => .array .int
  | 13 => .array .int
  | 14 => .array .int
  | 15 => .array .boolean
  | 16 => .array .int
  | 17 => .int
  | 18 => .array .int
  | 19 => .int
  | 20 => .array .int
  | _ => .array .int
theorem n_N : ∀ a, a < 22 → ∀ b, b < 22 → a ≠ b → (F_N a).2.1 ≠ (F_N b).2.1 := by decide +kernel
theorem ty_N_ok : ∀ k, k < 22 → parseFieldDescriptor (F_N k).2.2.1 = some (ty_N k) := by decide +kernel
abbrev classes : List vw_C := [(R_T, F_T, 5), (R_B, F_B, 3), (R_P, F_P, 12), (R_L, F_L, 2), (R_S, F_S, 5), (R_G, F_G, 2), (R_M, F_M, 2), (R_H, F_H, 5), (R_N, F_N, 22)]
def th_tys : List FieldType := [.int, .int, .object "TurnHost$Term", .object "TurnHost$HostProcess", .boolean]
def th_sts : List (String × String × String) := [("TurnHost", "LIMITS", "[I")]
abbrev th_M : Type := MethodName × ByteArray × Nat × Option FieldType
def m_H_init : th_M := (⟨"TurnHost", "<init>", "(I)V"⟩, prog_1_method_1_code, 2, none)
def m_M_init : th_M := (⟨"TurnHost$Machine", "<init>", "()V"⟩, prog_4_method_1_code, 1, none)
def m_G_init : th_M := (⟨"TurnHost$Program", "<init>", "()V"⟩, prog_6_method_1_code, 1, none)
def m_S_init : th_M := (⟨"TurnHost$Society", "<init>", "()V"⟩, prog_7_method_1_code, 2, none)
def m_P_init : th_M := (⟨"TurnHost$HostProcess", "<init>", "(I)V"⟩, prog_2_method_1_code, 2, none)
def m_T_init : th_M := (⟨"TurnHost$Term", "<init>", "(II)V"⟩, prog_8_method_1_code, 3, none)
def m_B_init : th_M := (⟨"TurnHost$Mailbox", "<init>", "()V"⟩, prog_5_method_1_code, 1, none)
def m_L_init : th_M := (⟨"TurnHost$Line", "<init>", "()V"⟩, prog_3_method_1_code, 1, none)
def m_H_add : th_M := (⟨"TurnHost", "add", "(IIII)I"⟩, prog_1_method_2_code, 5, (some FieldType.int))
def m_G_append : th_M := (⟨"TurnHost$Program", "append", "(IIII)I"⟩, prog_6_method_2_code, 7, (some FieldType.int))
def m_G_fits : th_M := (⟨"TurnHost$Program", "fits", "(II)Z"⟩, prog_6_method_3_code, 2, (some FieldType.boolean))
def m_H_begin : th_M := (⟨"TurnHost", "begin", "(II)I"⟩, prog_1_method_3_code, 4, (some FieldType.int))
def m_S_start : th_M := (⟨"TurnHost$Society", "start", "(ILTurnHost$Term;)LTurnHost$HostProcess;"⟩, prog_7_method_5_code, 4, (some (FieldType.object "TurnHost$HostProcess")))
def m_P_renew : th_M := (⟨"TurnHost$HostProcess", "renew", "(ILTurnHost$Term;LTurnHost$Term;)V"⟩, prog_2_method_2_code, 5, none)
def m_B_empty : th_M := (⟨"TurnHost$Mailbox", "empty", "()V"⟩, prog_5_method_2_code, 1, none)
def m_L_append : th_M := (⟨"TurnHost$Line", "append", "(I)V"⟩, prog_3_method_4_code, 2, none)
def m_H_tell : th_M := (⟨"TurnHost", "tell", "(II)Z"⟩, prog_1_method_4_code, 4, (some FieldType.boolean))
def m_S_numbered : th_M := (⟨"TurnHost$Society", "numbered", "(I)LTurnHost$HostProcess;"⟩, prog_7_method_3_code, 2, (some (FieldType.object "TurnHost$HostProcess")))
def m_S_deliver : th_M := (⟨"TurnHost$Society", "deliver", "(LTurnHost$HostProcess;LTurnHost$Term;)V"⟩, prog_7_method_6_code, 3, none)
def m_B_put : th_M := (⟨"TurnHost$Mailbox", "put", "(LTurnHost$Term;)Z"⟩, prog_5_method_5_code, 2, (some FieldType.boolean))
def m_H_run : th_M := (⟨"TurnHost", "run", "(I)I"⟩, prog_1_method_5_code, 4, (some FieldType.int))
def m_L_at : th_M := (⟨"TurnHost$Line", "at", "(I)I"⟩, prog_3_method_3_code, 2, (some FieldType.int))
def m_M_reduce : th_M := (⟨"TurnHost$Machine", "reduce", "(LTurnHost$HostProcess;)V"⟩, prog_4_method_2_code, 4, none)
def m_G_reaches : th_M := (⟨"TurnHost$Program", "reaches", "(I)Z"⟩, prog_6_method_4_code, 2, (some FieldType.boolean))
def m_S_end : th_M := (⟨"TurnHost$Society", "end", "(LTurnHost$HostProcess;LTurnHost$Term;)V"⟩, prog_7_method_10_code, 4, none)
def m_L_leave : th_M := (⟨"TurnHost$Line", "leave", "(I)V"⟩, prog_3_method_5_code, 4, none)
def m_S_untie : th_M := (⟨"TurnHost$Society", "untie", "(LTurnHost$HostProcess;LTurnHost$HostProcess;)V"⟩, prog_7_method_9_code, 3, none)
def m_S_signal : th_M := (⟨"TurnHost$Society", "signal", "(LTurnHost$HostProcess;LTurnHost$HostProcess;LTurnHost$Term;)V"⟩, prog_7_method_11_code, 4, none)
def m_S_exitNotice : th_M := (⟨"TurnHost$Society", "exitNotice", "(LTurnHost$HostProcess;LTurnHost$Term;)LTurnHost$Term;"⟩, prog_7_method_12_code, 4, (some (FieldType.object "TurnHost$Term")))
def m_T_init2 : th_M := (⟨"TurnHost$Term", "<init>", "(ILTurnHost$Term;LTurnHost$Term;)V"⟩, prog_8_method_2_code, 4, none)
def m_T_alike : th_M := (⟨"TurnHost$Term", "alike", "(LTurnHost$Term;LTurnHost$Term;)Z"⟩, prog_8_method_7_code, 2, (some FieldType.boolean))
def m_T_hasParts : th_M := (⟨"TurnHost$Term", "hasParts", "()Z"⟩, prog_8_method_4_code, 1, (some FieldType.boolean))
def m_M_perform : th_M := (⟨"TurnHost$Machine", "perform", "(LTurnHost$HostProcess;IIII)Z"⟩, prog_4_method_3_code, 7, (some FieldType.boolean))
def m_P_set : th_M := (⟨"TurnHost$HostProcess", "set", "(ILTurnHost$Term;)Z"⟩, prog_2_method_3_code, 3, (some FieldType.boolean))
def m_T_joined : th_M := (⟨"TurnHost$Term", "joined", "(ILTurnHost$Term;LTurnHost$Term;)LTurnHost$Term;"⟩, prog_8_method_3_code, 3, (some (FieldType.object "TurnHost$Term")))
def m_M_areInts : th_M := (⟨"TurnHost$Machine", "areInts", "(LTurnHost$Term;LTurnHost$Term;)Z"⟩, prog_4_method_4_code, 2, (some FieldType.boolean))
def m_M_goUnless : th_M := (⟨"TurnHost$Machine", "goUnless", "(LTurnHost$HostProcess;ZI)Z"⟩, prog_4_method_5_code, 3, (some FieldType.boolean))
def m_P_goTo : th_M := (⟨"TurnHost$HostProcess", "goTo", "(I)Z"⟩, prog_2_method_4_code, 2, (some FieldType.boolean))
def m_P_pushReturn : th_M := (⟨"TurnHost$HostProcess", "pushReturn", "()Z"⟩, prog_2_method_5_code, 1, (some FieldType.boolean))
def m_M_goBack : th_M := (⟨"TurnHost$Machine", "goBack", "(LTurnHost$HostProcess;)Z"⟩, prog_4_method_6_code, 2, (some FieldType.boolean))
def m_S_bearing : th_M := (⟨"TurnHost$Society", "bearing", "(LTurnHost$Term;)LTurnHost$HostProcess;"⟩, prog_7_method_4_code, 2, (some (FieldType.object "TurnHost$HostProcess")))
def m_M_send : th_M := (⟨"TurnHost$Machine", "send", "(LTurnHost$HostProcess;LTurnHost$Term;)Z"⟩, prog_4_method_7_code, 3, (some FieldType.boolean))
def m_B_marked : th_M := (⟨"TurnHost$Mailbox", "marked", "()LTurnHost$Term;"⟩, prog_5_method_4_code, 1, (some (FieldType.object "TurnHost$Term")))
def m_B_at : th_M := (⟨"TurnHost$Mailbox", "at", "(I)LTurnHost$Term;"⟩, prog_5_method_3_code, 2, (some (FieldType.object "TurnHost$Term")))
def m_B_take : th_M := (⟨"TurnHost$Mailbox", "take", "()Z"⟩, prog_5_method_6_code, 2, (some FieldType.boolean))
def m_M_passOver : th_M := (⟨"TurnHost$Machine", "passOver", "(LTurnHost$HostProcess;I)Z"⟩, prog_4_method_8_code, 2, (some FieldType.boolean))
def m_M_waitOrGoOn : th_M := (⟨"TurnHost$Machine", "waitOrGoOn", "(LTurnHost$HostProcess;I)Z"⟩, prog_4_method_9_code, 3, (some FieldType.boolean))
def m_S_suspend : th_M := (⟨"TurnHost$Society", "suspend", "(LTurnHost$HostProcess;)V"⟩, prog_7_method_7_code, 2, none)
def m_M_spawn : th_M := (⟨"TurnHost$Machine", "spawn", "(LTurnHost$HostProcess;IILTurnHost$Term;)Z"⟩, prog_4_method_10_code, 6, (some FieldType.boolean))
def m_M_link : th_M := (⟨"TurnHost$Machine", "link", "(LTurnHost$HostProcess;LTurnHost$HostProcess;)Z"⟩, prog_4_method_11_code, 3, (some FieldType.boolean))
def m_S_tie : th_M := (⟨"TurnHost$Society", "tie", "(LTurnHost$HostProcess;LTurnHost$HostProcess;)V"⟩, prog_7_method_8_code, 3, none)
def m_M_trap : th_M := (⟨"TurnHost$Machine", "trap", "(LTurnHost$HostProcess;Z)Z"⟩, prog_4_method_12_code, 2, (some FieldType.boolean))
def m_M_finish : th_M := (⟨"TurnHost$Machine", "finish", "(LTurnHost$HostProcess;LTurnHost$Term;)Z"⟩, prog_4_method_13_code, 3, (some FieldType.boolean))
def m_M_stop : th_M := (⟨"TurnHost$Machine", "stop", "(LTurnHost$HostProcess;LTurnHost$HostProcess;)Z"⟩, prog_4_method_14_code, 3, (some FieldType.boolean))
def m_H_countInTurn : th_M := (⟨"TurnHost", "countInTurn", "(LTurnHost$HostProcess;)V"⟩, prog_1_method_13_code, 2, none)
def m_H_clear : th_M := (⟨"TurnHost", "clear", "(Z)I"⟩, prog_1_method_6_code, 3, (some FieldType.int))
def m_S_dissolve : th_M := (⟨"TurnHost$Society", "dissolve", "()V"⟩, prog_7_method_2_code, 1, none)
def m_L_empty : th_M := (⟨"TurnHost$Line", "empty", "()V"⟩, prog_3_method_2_code, 1, none)
def m_G_wipe : th_M := (⟨"TurnHost$Program", "wipe", "()V"⟩, prog_6_method_5_code, 1, none)
def m_H_process : th_M := (⟨"TurnHost", "process", "(II)I"⟩, prog_1_method_7_code, 4, (some FieldType.int))
def m_P_answer : th_M := (⟨"TurnHost$HostProcess", "answer", "(I)I"⟩, prog_2_method_6_code, 2, (some FieldType.int))
def m_H_queue : th_M := (⟨"TurnHost", "queue", "(I)I"⟩, prog_1_method_8_code, 2, (some FieldType.int))
def m_H_processes : th_M := (⟨"TurnHost", "processes", "()I"⟩, prog_1_method_9_code, 1, (some FieldType.int))
def m_H_term : th_M := (⟨"TurnHost", "term", "(II)I"⟩, prog_1_method_10_code, 4, (some FieldType.int))
def m_H_termOf : th_M := (⟨"TurnHost", "termOf", "(II)LTurnHost$Term;"⟩, prog_1_method_12_code, 4, (some (FieldType.object "TurnHost$Term")))
def m_P_termAt : th_M := (⟨"TurnHost$HostProcess", "termAt", "(I)LTurnHost$Term;"⟩, prog_2_method_7_code, 2, (some (FieldType.object "TurnHost$Term")))
def m_T_summary : th_M := (⟨"TurnHost$Term", "summary", "()I"⟩, prog_8_method_6_code, 2, (some FieldType.int))
def m_T_hasNumber : th_M := (⟨"TurnHost$Term", "hasNumber", "()Z"⟩, prog_8_method_5_code, 1, (some FieldType.boolean))
def m_J_floorMod : th_M := (⟨"java/lang/Math", "floorMod", "(II)I"⟩, prog_11_method_50_code, 3, (some FieldType.int))
def m_H_digest : th_M := (⟨"TurnHost", "digest", "(II)I"⟩, prog_1_method_11_code, 4, (some FieldType.int))
def m_T_mixed : th_M := (⟨"TurnHost$Term", "mixed", "(ILTurnHost$Term;)I"⟩, prog_8_method_8_code, 3, (some FieldType.int))
def m_W_cell : th_M := (⟨"TurnHostLaw", "cell", "([II)I"⟩, method_2_code, 2, (some FieldType.int))
def m_N_init : th_M := (⟨"TurnHostModel", "<init>", "(I)V"⟩, prog_10_method_1_code, 2, none)
def m_N_add : th_M := (⟨"TurnHostModel", "add", "(IIII)I"⟩, prog_10_method_16_code, 6, (some FieldType.int))
def m_N_in : th_M := (⟨"TurnHostModel", "in", "(III)Z"⟩, prog_10_method_2_code, 3, (some FieldType.boolean))
def m_N_firstNeeds : th_M := (⟨"TurnHostModel", "firstNeeds", "(I)I"⟩, prog_10_method_13_code, 1, (some FieldType.int))
def m_N_isRight : th_M := (⟨"TurnHostModel", "isRight", "(II)Z"⟩, prog_10_method_12_code, 2, (some FieldType.boolean))
def m_N_secondNeeds : th_M := (⟨"TurnHostModel", "secondNeeds", "(I)I"⟩, prog_10_method_14_code, 1, (some FieldType.int))
def m_N_thirdNeeds : th_M := (⟨"TurnHostModel", "thirdNeeds", "(I)I"⟩, prog_10_method_15_code, 1, (some FieldType.int))
def m_N_begin : th_M := (⟨"TurnHostModel", "begin", "(II)I"⟩, prog_10_method_31_code, 3, (some FieldType.int))
def m_N_put : th_M := (⟨"TurnHostModel", "put", "(III)V"⟩, prog_10_method_4_code, 4, none)
def m_N_start : th_M := (⟨"TurnHostModel", "start", "(II)I"⟩, prog_10_method_24_code, 5, (some FieldType.int))
def m_N_copy : th_M := (⟨"TurnHostModel", "copy", "(II)V"⟩, prog_10_method_3_code, 4, none)
def m_N_come : th_M := (⟨"TurnHostModel", "come", "(I)V"⟩, prog_10_method_17_code, 2, none)
def m_N_tell : th_M := (⟨"TurnHostModel", "tell", "(II)Z"⟩, prog_10_method_32_code, 3, (some FieldType.boolean))
def m_N_deliver : th_M := (⟨"TurnHostModel", "deliver", "(II)V"⟩, prog_10_method_19_code, 3, none)
def m_N_run : th_M := (⟨"TurnHostModel", "run", "(I)I"⟩, prog_10_method_33_code, 5, (some FieldType.int))
def m_N_step : th_M := (⟨"TurnHostModel", "step", "(I)V"⟩, prog_10_method_30_code, 5, none)
def m_N_make : th_M := (⟨"TurnHostModel", "make", "(IIIII)Z"⟩, prog_10_method_25_code, 9, (some FieldType.boolean))
def m_N_weight : th_M := (⟨"TurnHostModel", "weight", "(I)I"⟩, prog_10_method_7_code, 2, (some FieldType.int))
def m_N_addParts : th_M := (⟨"TurnHostModel", "addParts", "(IIII)V"⟩, prog_10_method_6_code, 6, none)
def m_N_sortOf : th_M := (⟨"TurnHostModel", "sortOf", "(II)I"⟩, prog_10_method_8_code, 3, (some FieldType.int))
def m_N_numberOf : th_M := (⟨"TurnHostModel", "numberOf", "(II)I"⟩, prog_10_method_9_code, 3, (some FieldType.int))
def m_N_append : th_M := (⟨"TurnHostModel", "append", "(III)V"⟩, prog_10_method_5_code, 5, none)
def m_N_behind : th_M := (⟨"TurnHostModel", "behind", "(II)I"⟩, prog_10_method_10_code, 5, (some FieldType.int))
def m_N_branch : th_M := (⟨"TurnHostModel", "branch", "(IIIII)Z"⟩, prog_10_method_26_code, 8, (some FieldType.boolean))
def m_N_isSame : th_M := (⟨"TurnHostModel", "isSame", "(II)Z"⟩, prog_10_method_11_code, 5, (some FieldType.boolean))
def m_N_endBy : th_M := (⟨"TurnHostModel", "endBy", "(II)V"⟩, prog_10_method_23_code, 3, none)
def m_N_end : th_M := (⟨"TurnHostModel", "end", "(II)V"⟩, prog_10_method_22_code, 6, none)
def m_N_stop : th_M := (⟨"TurnHostModel", "stop", "(II)V"⟩, prog_10_method_21_code, 3, none)
def m_N_leave : th_M := (⟨"TurnHostModel", "leave", "(I)V"⟩, prog_10_method_18_code, 4, none)
def m_N_signal : th_M := (⟨"TurnHostModel", "signal", "(III)Z"⟩, prog_10_method_20_code, 4, (some FieldType.boolean))
def m_N_mail : th_M := (⟨"TurnHostModel", "mail", "(IIII)Z"⟩, prog_10_method_28_code, 8, (some FieldType.boolean))
def m_N_named : th_M := (⟨"TurnHostModel", "named", "(I)I"⟩, prog_10_method_27_code, 2, (some FieldType.int))
def m_N_life : th_M := (⟨"TurnHostModel", "life", "(IIIII)Z"⟩, prog_10_method_29_code, 8, (some FieldType.boolean))
def m_N_clear : th_M := (⟨"TurnHostModel", "clear", "(Z)I"⟩, prog_10_method_34_code, 3, (some FieldType.int))
def m_N_process : th_M := (⟨"TurnHostModel", "process", "(II)I"⟩, prog_10_method_35_code, 3, (some FieldType.int))
def m_N_queue : th_M := (⟨"TurnHostModel", "queue", "(I)I"⟩, prog_10_method_36_code, 2, (some FieldType.int))
def m_N_processes : th_M := (⟨"TurnHostModel", "processes", "()I"⟩, prog_10_method_37_code, 1, (some FieldType.int))
def m_N_term : th_M := (⟨"TurnHostModel", "term", "(II)I"⟩, prog_10_method_39_code, 5, (some FieldType.int))
def m_N_isTerm : th_M := (⟨"TurnHostModel", "isTerm", "(II)Z"⟩, prog_10_method_38_code, 3, (some FieldType.boolean))
def m_N_digest : th_M := (⟨"TurnHostModel", "digest", "(II)I"⟩, prog_10_method_40_code, 6, (some FieldType.int))
def m_W_law : th_M := (⟨"TurnHostLaw", "law", "([I)Z"⟩, code, 4, some FieldType.boolean)
