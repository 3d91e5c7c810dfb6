section
-- ===== PART A: goes FIRST, ahead of the names: the tables' words, and 'selects' of the private methods out of them =====
/-- a private method of a class that the tables say can be made, by its rows of tables_1 -/
def lw_okq (q : MethodName × Nat) : Prop := (q.1.cls ≠ "java/lang/invoke/MethodHandle" ∧ q.1.cls ≠ "java/lang/invoke/VarHandle") ∧ Cond.instantiable q.1.cls q.2 ∈ tables_1 ∧ Cond.privateMethod q.1 ∈ tables_1 ∧ Cond.instanceMethod q.1 ∈ tables_1
theorem lw_p0 : lw_okq (⟨"TurnHost$Society", "end", "(LTurnHost$HostProcess;LTurnHost$Term;)V"⟩, 5) := ⟨⟨by decide +kernel, by decide +kernel⟩, List.mem_of_getElem? (i := 41) (by decide +kernel), List.mem_of_getElem? (i := 286) (by decide +kernel), List.mem_of_getElem? (i := 287) (by decide +kernel)⟩
theorem lw_p1 : lw_okq (⟨"TurnHost$Society", "untie", "(LTurnHost$HostProcess;LTurnHost$HostProcess;)V"⟩, 5) := ⟨⟨by decide +kernel, by decide +kernel⟩, List.mem_of_getElem? (i := 41) (by decide +kernel), List.mem_of_getElem? (i := 294) (by decide +kernel), List.mem_of_getElem? (i := 295) (by decide +kernel)⟩
theorem lw_p2 : lw_okq (⟨"TurnHost$Society", "signal", "(LTurnHost$HostProcess;LTurnHost$HostProcess;LTurnHost$Term;)V"⟩, 5) := ⟨⟨by decide +kernel, by decide +kernel⟩, List.mem_of_getElem? (i := 41) (by decide +kernel), List.mem_of_getElem? (i := 298) (by decide +kernel), List.mem_of_getElem? (i := 299) (by decide +kernel)⟩
theorem lw_p3 : lw_okq (⟨"TurnHost$Society", "exitNotice", "(LTurnHost$HostProcess;LTurnHost$Term;)LTurnHost$Term;"⟩, 5) := ⟨⟨by decide +kernel, by decide +kernel⟩, List.mem_of_getElem? (i := 41) (by decide +kernel), List.mem_of_getElem? (i := 302) (by decide +kernel), List.mem_of_getElem? (i := 303) (by decide +kernel)⟩
theorem lw_p4 : lw_okq (⟨"TurnHost$Machine", "perform", "(LTurnHost$HostProcess;IIII)Z"⟩, 2) := ⟨⟨by decide +kernel, by decide +kernel⟩, List.mem_of_getElem? (i := 20) (by decide +kernel), List.mem_of_getElem? (i := 319) (by decide +kernel), List.mem_of_getElem? (i := 320) (by decide +kernel)⟩
theorem lw_p5 : lw_okq (⟨"TurnHost$Machine", "goBack", "(LTurnHost$HostProcess;)Z"⟩, 2) := ⟨⟨by decide +kernel, by decide +kernel⟩, List.mem_of_getElem? (i := 20) (by decide +kernel), List.mem_of_getElem? (i := 349) (by decide +kernel), List.mem_of_getElem? (i := 350) (by decide +kernel)⟩
theorem lw_p6 : lw_okq (⟨"TurnHost$Machine", "send", "(LTurnHost$HostProcess;LTurnHost$Term;)Z"⟩, 2) := ⟨⟨by decide +kernel, by decide +kernel⟩, List.mem_of_getElem? (i := 20) (by decide +kernel), List.mem_of_getElem? (i := 358) (by decide +kernel), List.mem_of_getElem? (i := 359) (by decide +kernel)⟩
theorem lw_p7 : lw_okq (⟨"TurnHost$Machine", "waitOrGoOn", "(LTurnHost$HostProcess;I)Z"⟩, 2) := ⟨⟨by decide +kernel, by decide +kernel⟩, List.mem_of_getElem? (i := 20) (by decide +kernel), List.mem_of_getElem? (i := 379) (by decide +kernel), List.mem_of_getElem? (i := 380) (by decide +kernel)⟩
theorem lw_p8 : lw_okq (⟨"TurnHost$Machine", "spawn", "(LTurnHost$HostProcess;IILTurnHost$Term;)Z"⟩, 2) := ⟨⟨by decide +kernel, by decide +kernel⟩, List.mem_of_getElem? (i := 20) (by decide +kernel), List.mem_of_getElem? (i := 387) (by decide +kernel), List.mem_of_getElem? (i := 388) (by decide +kernel)⟩
theorem lw_p9 : lw_okq (⟨"TurnHost$Machine", "link", "(LTurnHost$HostProcess;LTurnHost$HostProcess;)Z"⟩, 2) := ⟨⟨by decide +kernel, by decide +kernel⟩, List.mem_of_getElem? (i := 20) (by decide +kernel), List.mem_of_getElem? (i := 392) (by decide +kernel), List.mem_of_getElem? (i := 393) (by decide +kernel)⟩
theorem lw_p10 : lw_okq (⟨"TurnHost$Machine", "finish", "(LTurnHost$HostProcess;LTurnHost$Term;)Z"⟩, 2) := ⟨⟨by decide +kernel, by decide +kernel⟩, List.mem_of_getElem? (i := 20) (by decide +kernel), List.mem_of_getElem? (i := 404) (by decide +kernel), List.mem_of_getElem? (i := 405) (by decide +kernel)⟩
theorem lw_p11 : lw_okq (⟨"TurnHost$Machine", "stop", "(LTurnHost$HostProcess;LTurnHost$HostProcess;)Z"⟩, 2) := ⟨⟨by decide +kernel, by decide +kernel⟩, List.mem_of_getElem? (i := 20) (by decide +kernel), List.mem_of_getElem? (i := 408) (by decide +kernel), List.mem_of_getElem? (i := 409) (by decide +kernel)⟩
theorem lw_p12 : lw_okq (⟨"TurnHost", "countInTurn", "(LTurnHost$HostProcess;)V"⟩, 5) := ⟨⟨by decide +kernel, by decide +kernel⟩, List.mem_of_getElem? (i := 12) (by decide +kernel), List.mem_of_getElem? (i := 412) (by decide +kernel), List.mem_of_getElem? (i := 413) (by decide +kernel)⟩
theorem lw_p13 : lw_okq (⟨"TurnHost", "termOf", "(II)LTurnHost$Term;"⟩, 5) := ⟨⟨by decide +kernel, by decide +kernel⟩, List.mem_of_getElem? (i := 12) (by decide +kernel), List.mem_of_getElem? (i := 454) (by decide +kernel), List.mem_of_getElem? (i := 455) (by decide +kernel)⟩
theorem lw_p14 : lw_okq (⟨"TurnHostModel", "put", "(III)V"⟩, 22) := ⟨⟨by decide +kernel, by decide +kernel⟩, List.mem_of_getElem? (i := 486) (by decide +kernel), List.mem_of_getElem? (i := 583) (by decide +kernel), List.mem_of_getElem? (i := 584) (by decide +kernel)⟩
theorem lw_p15 : lw_okq (⟨"TurnHostModel", "start", "(II)I"⟩, 22) := ⟨⟨by decide +kernel, by decide +kernel⟩, List.mem_of_getElem? (i := 486) (by decide +kernel), List.mem_of_getElem? (i := 587) (by decide +kernel), List.mem_of_getElem? (i := 588) (by decide +kernel)⟩
def lw_privs_1 : List (MethodName × Nat) := [(⟨"TurnHost$Society", "end", "(LTurnHost$HostProcess;LTurnHost$Term;)V"⟩, 5), (⟨"TurnHost$Society", "untie", "(LTurnHost$HostProcess;LTurnHost$HostProcess;)V"⟩, 5), (⟨"TurnHost$Society", "signal", "(LTurnHost$HostProcess;LTurnHost$HostProcess;LTurnHost$Term;)V"⟩, 5), (⟨"TurnHost$Society", "exitNotice", "(LTurnHost$HostProcess;LTurnHost$Term;)LTurnHost$Term;"⟩, 5), (⟨"TurnHost$Machine", "perform", "(LTurnHost$HostProcess;IIII)Z"⟩, 2), (⟨"TurnHost$Machine", "goBack", "(LTurnHost$HostProcess;)Z"⟩, 2), (⟨"TurnHost$Machine", "send", "(LTurnHost$HostProcess;LTurnHost$Term;)Z"⟩, 2), (⟨"TurnHost$Machine", "waitOrGoOn", "(LTurnHost$HostProcess;I)Z"⟩, 2), (⟨"TurnHost$Machine", "spawn", "(LTurnHost$HostProcess;IILTurnHost$Term;)Z"⟩, 2), (⟨"TurnHost$Machine", "link", "(LTurnHost$HostProcess;LTurnHost$HostProcess;)Z"⟩, 2), (⟨"TurnHost$Machine", "finish", "(LTurnHost$HostProcess;LTurnHost$Term;)Z"⟩, 2), (⟨"TurnHost$Machine", "stop", "(LTurnHost$HostProcess;LTurnHost$HostProcess;)Z"⟩, 2), (⟨"TurnHost", "countInTurn", "(LTurnHost$HostProcess;)V"⟩, 5), (⟨"TurnHost", "termOf", "(II)LTurnHost$Term;"⟩, 5), (⟨"TurnHostModel", "put", "(III)V"⟩, 22), (⟨"TurnHostModel", "start", "(II)I"⟩, 22)]
theorem lw_r1 : ∀ q ∈ lw_privs_1, lw_okq q := List.forall_mem_cons.mpr ⟨lw_p0, List.forall_mem_cons.mpr ⟨lw_p1, List.forall_mem_cons.mpr ⟨lw_p2, List.forall_mem_cons.mpr ⟨lw_p3, List.forall_mem_cons.mpr ⟨lw_p4, List.forall_mem_cons.mpr ⟨lw_p5, List.forall_mem_cons.mpr ⟨lw_p6, List.forall_mem_cons.mpr ⟨lw_p7, List.forall_mem_cons.mpr ⟨lw_p8, List.forall_mem_cons.mpr ⟨lw_p9, List.forall_mem_cons.mpr ⟨lw_p10, List.forall_mem_cons.mpr ⟨lw_p11, List.forall_mem_cons.mpr ⟨lw_p12, List.forall_mem_cons.mpr ⟨lw_p13, List.forall_mem_cons.mpr ⟨lw_p14, List.forall_mem_cons.mpr ⟨lw_p15, fun _ h => absurd h List.not_mem_nil⟩⟩⟩⟩⟩⟩⟩⟩⟩⟩⟩⟩⟩⟩⟩⟩
theorem lw_p16 : lw_okq (⟨"TurnHostModel", "copy", "(II)V"⟩, 22) := ⟨⟨by decide +kernel, by decide +kernel⟩, List.mem_of_getElem? (i := 486) (by decide +kernel), List.mem_of_getElem? (i := 591) (by decide +kernel), List.mem_of_getElem? (i := 592) (by decide +kernel)⟩
theorem lw_p17 : lw_okq (⟨"TurnHostModel", "come", "(I)V"⟩, 22) := ⟨⟨by decide +kernel, by decide +kernel⟩, List.mem_of_getElem? (i := 486) (by decide +kernel), List.mem_of_getElem? (i := 595) (by decide +kernel), List.mem_of_getElem? (i := 596) (by decide +kernel)⟩
theorem lw_p18 : lw_okq (⟨"TurnHostModel", "deliver", "(II)V"⟩, 22) := ⟨⟨by decide +kernel, by decide +kernel⟩, List.mem_of_getElem? (i := 486) (by decide +kernel), List.mem_of_getElem? (i := 603) (by decide +kernel), List.mem_of_getElem? (i := 604) (by decide +kernel)⟩
theorem lw_p19 : lw_okq (⟨"TurnHostModel", "step", "(I)V"⟩, 22) := ⟨⟨by decide +kernel, by decide +kernel⟩, List.mem_of_getElem? (i := 486) (by decide +kernel), List.mem_of_getElem? (i := 611) (by decide +kernel), List.mem_of_getElem? (i := 612) (by decide +kernel)⟩
theorem lw_p20 : lw_okq (⟨"TurnHostModel", "make", "(IIIII)Z"⟩, 22) := ⟨⟨by decide +kernel, by decide +kernel⟩, List.mem_of_getElem? (i := 486) (by decide +kernel), List.mem_of_getElem? (i := 615) (by decide +kernel), List.mem_of_getElem? (i := 616) (by decide +kernel)⟩
theorem lw_p21 : lw_okq (⟨"TurnHostModel", "weight", "(I)I"⟩, 22) := ⟨⟨by decide +kernel, by decide +kernel⟩, List.mem_of_getElem? (i := 486) (by decide +kernel), List.mem_of_getElem? (i := 619) (by decide +kernel), List.mem_of_getElem? (i := 620) (by decide +kernel)⟩
theorem lw_p22 : lw_okq (⟨"TurnHostModel", "addParts", "(IIII)V"⟩, 22) := ⟨⟨by decide +kernel, by decide +kernel⟩, List.mem_of_getElem? (i := 486) (by decide +kernel), List.mem_of_getElem? (i := 623) (by decide +kernel), List.mem_of_getElem? (i := 624) (by decide +kernel)⟩
theorem lw_p23 : lw_okq (⟨"TurnHostModel", "sortOf", "(II)I"⟩, 22) := ⟨⟨by decide +kernel, by decide +kernel⟩, List.mem_of_getElem? (i := 486) (by decide +kernel), List.mem_of_getElem? (i := 627) (by decide +kernel), List.mem_of_getElem? (i := 628) (by decide +kernel)⟩
theorem lw_p24 : lw_okq (⟨"TurnHostModel", "numberOf", "(II)I"⟩, 22) := ⟨⟨by decide +kernel, by decide +kernel⟩, List.mem_of_getElem? (i := 486) (by decide +kernel), List.mem_of_getElem? (i := 631) (by decide +kernel), List.mem_of_getElem? (i := 632) (by decide +kernel)⟩
theorem lw_p25 : lw_okq (⟨"TurnHostModel", "append", "(III)V"⟩, 22) := ⟨⟨by decide +kernel, by decide +kernel⟩, List.mem_of_getElem? (i := 486) (by decide +kernel), List.mem_of_getElem? (i := 635) (by decide +kernel), List.mem_of_getElem? (i := 636) (by decide +kernel)⟩
theorem lw_p26 : lw_okq (⟨"TurnHostModel", "behind", "(II)I"⟩, 22) := ⟨⟨by decide +kernel, by decide +kernel⟩, List.mem_of_getElem? (i := 486) (by decide +kernel), List.mem_of_getElem? (i := 639) (by decide +kernel), List.mem_of_getElem? (i := 640) (by decide +kernel)⟩
theorem lw_p27 : lw_okq (⟨"TurnHostModel", "branch", "(IIIII)Z"⟩, 22) := ⟨⟨by decide +kernel, by decide +kernel⟩, List.mem_of_getElem? (i := 486) (by decide +kernel), List.mem_of_getElem? (i := 643) (by decide +kernel), List.mem_of_getElem? (i := 644) (by decide +kernel)⟩
theorem lw_p28 : lw_okq (⟨"TurnHostModel", "isSame", "(II)Z"⟩, 22) := ⟨⟨by decide +kernel, by decide +kernel⟩, List.mem_of_getElem? (i := 486) (by decide +kernel), List.mem_of_getElem? (i := 647) (by decide +kernel), List.mem_of_getElem? (i := 648) (by decide +kernel)⟩
theorem lw_p29 : lw_okq (⟨"TurnHostModel", "endBy", "(II)V"⟩, 22) := ⟨⟨by decide +kernel, by decide +kernel⟩, List.mem_of_getElem? (i := 486) (by decide +kernel), List.mem_of_getElem? (i := 651) (by decide +kernel), List.mem_of_getElem? (i := 652) (by decide +kernel)⟩
theorem lw_p30 : lw_okq (⟨"TurnHostModel", "end", "(II)V"⟩, 22) := ⟨⟨by decide +kernel, by decide +kernel⟩, List.mem_of_getElem? (i := 486) (by decide +kernel), List.mem_of_getElem? (i := 655) (by decide +kernel), List.mem_of_getElem? (i := 656) (by decide +kernel)⟩
theorem lw_p31 : lw_okq (⟨"TurnHostModel", "stop", "(II)V"⟩, 22) := ⟨⟨by decide +kernel, by decide +kernel⟩, List.mem_of_getElem? (i := 486) (by decide +kernel), List.mem_of_getElem? (i := 659) (by decide +kernel), List.mem_of_getElem? (i := 660) (by decide +kernel)⟩
def lw_privs_2 : List (MethodName × Nat) := [(⟨"TurnHostModel", "copy", "(II)V"⟩, 22), (⟨"TurnHostModel", "come", "(I)V"⟩, 22), (⟨"TurnHostModel", "deliver", "(II)V"⟩, 22), (⟨"TurnHostModel", "step", "(I)V"⟩, 22), (⟨"TurnHostModel", "make", "(IIIII)Z"⟩, 22), (⟨"TurnHostModel", "weight", "(I)I"⟩, 22), (⟨"TurnHostModel", "addParts", "(IIII)V"⟩, 22), (⟨"TurnHostModel", "sortOf", "(II)I"⟩, 22), (⟨"TurnHostModel", "numberOf", "(II)I"⟩, 22), (⟨"TurnHostModel", "append", "(III)V"⟩, 22), (⟨"TurnHostModel", "behind", "(II)I"⟩, 22), (⟨"TurnHostModel", "branch", "(IIIII)Z"⟩, 22), (⟨"TurnHostModel", "isSame", "(II)Z"⟩, 22), (⟨"TurnHostModel", "endBy", "(II)V"⟩, 22), (⟨"TurnHostModel", "end", "(II)V"⟩, 22), (⟨"TurnHostModel", "stop", "(II)V"⟩, 22)]
theorem lw_r2 : ∀ q ∈ lw_privs_2, lw_okq q := List.forall_mem_cons.mpr ⟨lw_p16, List.forall_mem_cons.mpr ⟨lw_p17, List.forall_mem_cons.mpr ⟨lw_p18, List.forall_mem_cons.mpr ⟨lw_p19, List.forall_mem_cons.mpr ⟨lw_p20, List.forall_mem_cons.mpr ⟨lw_p21, List.forall_mem_cons.mpr ⟨lw_p22, List.forall_mem_cons.mpr ⟨lw_p23, List.forall_mem_cons.mpr ⟨lw_p24, List.forall_mem_cons.mpr ⟨lw_p25, List.forall_mem_cons.mpr ⟨lw_p26, List.forall_mem_cons.mpr ⟨lw_p27, List.forall_mem_cons.mpr ⟨lw_p28, List.forall_mem_cons.mpr ⟨lw_p29, List.forall_mem_cons.mpr ⟨lw_p30, List.forall_mem_cons.mpr ⟨lw_p31, fun _ h => absurd h List.not_mem_nil⟩⟩⟩⟩⟩⟩⟩⟩⟩⟩⟩⟩⟩⟩⟩⟩
theorem lw_p32 : lw_okq (⟨"TurnHostModel", "leave", "(I)V"⟩, 22) := ⟨⟨by decide +kernel, by decide +kernel⟩, List.mem_of_getElem? (i := 486) (by decide +kernel), List.mem_of_getElem? (i := 663) (by decide +kernel), List.mem_of_getElem? (i := 664) (by decide +kernel)⟩
theorem lw_p33 : lw_okq (⟨"TurnHostModel", "signal", "(III)Z"⟩, 22) := ⟨⟨by decide +kernel, by decide +kernel⟩, List.mem_of_getElem? (i := 486) (by decide +kernel), List.mem_of_getElem? (i := 667) (by decide +kernel), List.mem_of_getElem? (i := 668) (by decide +kernel)⟩
theorem lw_p34 : lw_okq (⟨"TurnHostModel", "mail", "(IIII)Z"⟩, 22) := ⟨⟨by decide +kernel, by decide +kernel⟩, List.mem_of_getElem? (i := 486) (by decide +kernel), List.mem_of_getElem? (i := 671) (by decide +kernel), List.mem_of_getElem? (i := 672) (by decide +kernel)⟩
theorem lw_p35 : lw_okq (⟨"TurnHostModel", "named", "(I)I"⟩, 22) := ⟨⟨by decide +kernel, by decide +kernel⟩, List.mem_of_getElem? (i := 486) (by decide +kernel), List.mem_of_getElem? (i := 675) (by decide +kernel), List.mem_of_getElem? (i := 676) (by decide +kernel)⟩
theorem lw_p36 : lw_okq (⟨"TurnHostModel", "life", "(IIIII)Z"⟩, 22) := ⟨⟨by decide +kernel, by decide +kernel⟩, List.mem_of_getElem? (i := 486) (by decide +kernel), List.mem_of_getElem? (i := 679) (by decide +kernel), List.mem_of_getElem? (i := 680) (by decide +kernel)⟩
theorem lw_p37 : lw_okq (⟨"TurnHostModel", "isTerm", "(II)Z"⟩, 22) := ⟨⟨by decide +kernel, by decide +kernel⟩, List.mem_of_getElem? (i := 486) (by decide +kernel), List.mem_of_getElem? (i := 703) (by decide +kernel), List.mem_of_getElem? (i := 704) (by decide +kernel)⟩
def lw_privs_3 : List (MethodName × Nat) := [(⟨"TurnHostModel", "leave", "(I)V"⟩, 22), (⟨"TurnHostModel", "signal", "(III)Z"⟩, 22), (⟨"TurnHostModel", "mail", "(IIII)Z"⟩, 22), (⟨"TurnHostModel", "named", "(I)I"⟩, 22), (⟨"TurnHostModel", "life", "(IIIII)Z"⟩, 22), (⟨"TurnHostModel", "isTerm", "(II)Z"⟩, 22)]
theorem lw_r3 : ∀ q ∈ lw_privs_3, lw_okq q := List.forall_mem_cons.mpr ⟨lw_p32, List.forall_mem_cons.mpr ⟨lw_p33, List.forall_mem_cons.mpr ⟨lw_p34, List.forall_mem_cons.mpr ⟨lw_p35, List.forall_mem_cons.mpr ⟨lw_p36, List.forall_mem_cons.mpr ⟨lw_p37, fun _ h => absurd h List.not_mem_nil⟩⟩⟩⟩⟩⟩
def lw_privs : List (MethodName × Nat) := lw_privs_1 ++ (lw_privs_2 ++ (lw_privs_3))
def lw_tbl : List Cond := k2_sels lw_privs ++ tables_1
theorem lw_privs_ok : ∀ q ∈ lw_privs, lw_okq q := by
  show ∀ q ∈ lw_privs_1 ++ (lw_privs_2 ++ (lw_privs_3)), lw_okq q
  exact List.forall_mem_append.mpr ⟨lw_r1, List.forall_mem_append.mpr ⟨lw_r2, lw_r3⟩⟩
end
section
/-! Names and links (printed by wip/gen/names.py). -/
def R_T : String := "TurnHost$Term"
def F_T : u_T := fun k => match k with
  | 0 => ("TurnHost$Term", "sort", "I", true)
  | 1 => ("TurnHost$Term", "number", "I", true)
  | 2 => ("TurnHost$Term", "first", "LTurnHost$Term;", true)
  | 3 => ("TurnHost$Term", "second", "LTurnHost$Term;", true)
  | _ => ("TurnHost$Term", "weight", "I", true)
def ty_T : Nat → FieldType := fun k => match k with
  | 0 => .int
  | 1 => .int
  | 2 => .object "TurnHost$Term"
  | 3 => .object "TurnHost$Term"
  | _ => .int
theorem n_T : ∀ a, a < 5 → ∀ b, b < 5 → a ≠ b → (F_T a).2.1 ≠ (F_T b).2.1 := by decide +kernel
theorem ty_T_ok : ∀ k, k < 5 → parseFieldDescriptor (F_T k).2.2.1 = some (ty_T k) := by decide +kernel
def R_B : String := "TurnHost$Mailbox"
def F_B : u_T := fun k => match k with
  | 0 => ("TurnHost$Mailbox", "messages", "[LTurnHost$Term;", true)
  | 1 => ("TurnHost$Mailbox", "count", "I", false)
  | _ => ("TurnHost$Mailbox", "mark", "I", false)
def ty_B : Nat → FieldType := fun k => match k with
  | 0 => .array (.object "TurnHost$Term")
  | 1 => .int
  | _ => .int
theorem n_B : ∀ a, a < 3 → ∀ b, b < 3 → a ≠ b → (F_B a).2.1 ≠ (F_B b).2.1 := by decide +kernel
theorem ty_B_ok : ∀ k, k < 3 → parseFieldDescriptor (F_B k).2.2.1 = some (ty_B k) := by decide +kernel
def R_P : String := "TurnHost$HostProcess"
def F_P : u_T := fun k => match k with
  | 0 => ("TurnHost$HostProcess", "number", "I", true)
  | 1 => ("TurnHost$HostProcess", "pid", "LTurnHost$Term;", true)
  | 2 => ("TurnHost$HostProcess", "registers", "[LTurnHost$Term;", true)
  | 3 => ("TurnHost$HostProcess", "returns", "[I", true)
  | 4 => ("TurnHost$HostProcess", "mailbox", "LTurnHost$Mailbox;", true)
  | 5 => ("TurnHost$HostProcess", "returnCount", "I", false)
  | 6 => ("TurnHost$HostProcess", "place", "I", false)
  | 7 => ("TurnHost$HostProcess", "links", "I", false)
  | 8 => ("TurnHost$HostProcess", "traps", "Z", false)
  | 9 => ("TurnHost$HostProcess", "state", "I", false)
  | 10 => ("TurnHost$HostProcess", "reason", "LTurnHost$Term;", false)
  | _ => ("TurnHost$HostProcess", "reductions", "I", false)
def ty_P : Nat → FieldType := fun k => match k with
  | 0 => .int
  | 1 => .object "TurnHost$Term"
  | 2 => .array (.object "TurnHost$Term")
  | 3 => .array .int
  | 4 => .object "TurnHost$Mailbox"
  | 5 => .int
  | 6 => .int
  | 7 => .int
  | 8 => .boolean
  | 9 => .int
  | 10 => .object "TurnHost$Term"
  | _ => .int
theorem n_P : ∀ a, a < 12 → ∀ b, b < 12 → a ≠ b → (F_P a).2.1 ≠ (F_P b).2.1 := by decide +kernel
theorem ty_P_ok : ∀ k, k < 12 → parseFieldDescriptor (F_P k).2.2.1 = some (ty_P k) := by decide +kernel
def R_L : String := "TurnHost$Line"
def F_L : u_T := fun k => match k with
  | 0 => ("TurnHost$Line", "numbers", "[I", true)
  | _ => ("TurnHost$Line", "count", "I", false)
def ty_L : Nat → FieldType := fun k => match k with
  | 0 => .array .int
  | _ => .int
theorem n_L : ∀ a, a < 2 → ∀ b, b < 2 → a ≠ b → (F_L a).2.1 ≠ (F_L b).2.1 := by decide +kernel
theorem ty_L_ok : ∀ k, k < 2 → parseFieldDescriptor (F_L k).2.2.1 = some (ty_L k) := by decide +kernel
def R_S : String := "TurnHost$Society"
def F_S : u_T := fun k => match k with
  | 0 => ("TurnHost$Society", "table", "[LTurnHost$HostProcess;", true)
  | 1 => ("TurnHost$Society", "line", "LTurnHost$Line;", true)
  | 2 => ("TurnHost$Society", "nil", "LTurnHost$Term;", true)
  | 3 => ("TurnHost$Society", "atoms", "[LTurnHost$Term;", true)
  | _ => ("TurnHost$Society", "count", "I", false)
def ty_S : Nat → FieldType := fun k => match k with
  | 0 => .array (.object "TurnHost$HostProcess")
  | 1 => .object "TurnHost$Line"
  | 2 => .object "TurnHost$Term"
  | 3 => .array (.object "TurnHost$Term")
  | _ => .int
theorem n_S : ∀ a, a < 5 → ∀ b, b < 5 → a ≠ b → (F_S a).2.1 ≠ (F_S b).2.1 := by decide +kernel
theorem ty_S_ok : ∀ k, k < 5 → parseFieldDescriptor (F_S k).2.2.1 = some (ty_S k) := by decide +kernel
def R_G : String := "TurnHost$Program"
def F_G : u_T := fun k => match k with
  | 0 => ("TurnHost$Program", "cells", "[I", true)
  | _ => ("TurnHost$Program", "count", "I", false)
def ty_G : Nat → FieldType := fun k => match k with
  | 0 => .array .int
  | _ => .int
theorem n_G : ∀ a, a < 2 → ∀ b, b < 2 → a ≠ b → (F_G a).2.1 ≠ (F_G b).2.1 := by decide +kernel
theorem ty_G_ok : ∀ k, k < 2 → parseFieldDescriptor (F_G k).2.2.1 = some (ty_G k) := by decide +kernel
def R_M : String := "TurnHost$Machine"
def F_M : u_T := fun k => match k with
  | 0 => ("TurnHost$Machine", "program", "LTurnHost$Program;", true)
  | _ => ("TurnHost$Machine", "society", "LTurnHost$Society;", true)
def ty_M : Nat → FieldType := fun k => match k with
  | 0 => .object "TurnHost$Program"
  | _ => .object "TurnHost$Society"
theorem n_M : ∀ a, a < 2 → ∀ b, b < 2 → a ≠ b → (F_M a).2.1 ≠ (F_M b).2.1 := by decide +kernel
theorem ty_M_ok : ∀ k, k < 2 → parseFieldDescriptor (F_M k).2.2.1 = some (ty_M k) := by decide +kernel
def R_H : String := "TurnHost"
def F_H : u_T := fun k => match k with
  | 0 => ("TurnHost", "quota", "I", true)
  | 1 => ("TurnHost", "machine", "LTurnHost$Machine;", true)
  | 2 => ("TurnHost", "program", "LTurnHost$Program;", true)
  | 3 => ("TurnHost", "society", "LTurnHost$Society;", true)
  | _ => ("TurnHost", "spent", "I", false)
def ty_H : Nat → FieldType := fun k => match k with
  | 0 => .int
  | 1 => .object "TurnHost$Machine"
  | 2 => .object "TurnHost$Program"
  | 3 => .object "TurnHost$Society"
  | _ => .int
theorem n_H : ∀ a, a < 5 → ∀ b, b < 5 → a ≠ b → (F_H a).2.1 ≠ (F_H b).2.1 := by decide +kernel
theorem ty_H_ok : ∀ k, k < 5 → parseFieldDescriptor (F_H k).2.2.1 = some (ty_H k) := by decide +kernel
def R_N : String := "TurnHostModel"
def F_N : u_T := fun k => match k with
  | 0 => ("TurnHostModel", "quota", "I", true)
  | 1 => ("TurnHostModel", "size", "I", false)
  | 2 => ("TurnHostModel", "op", "[I", true)
  | 3 => ("TurnHostModel", "one", "[I", true)
  | 4 => ("TurnHostModel", "two", "[I", true)
  | 5 => ("TurnHostModel", "three", "[I", true)
  | 6 => ("TurnHostModel", "table", "[I", true)
  | 7 => ("TurnHostModel", "count", "I", false)
  | 8 => ("TurnHostModel", "state", "[I", true)
  | 9 => ("TurnHostModel", "place", "[I", true)
  | 10 => ("TurnHostModel", "mark", "[I", true)
  | 11 => ("TurnHostModel", "messages", "[I", true)
  | 12 => ("TurnHostModel", "calls", "[I", true)
  | 13 => ("TurnHostModel", "returns", "[I", true)
  | 14 => ("TurnHostModel", "links", "[I", true)
  | 15 => ("TurnHostModel", "traps", "[Z", true)
  | 16 => ("TurnHostModel", "done", "[I", true)
  | 17 => ("TurnHostModel", "waiting", "I", false)
  | 18 => ("TurnHostModel", "row", "[I", true)
  | 19 => ("TurnHostModel", "used", "I", false)
  | 20 => ("TurnHostModel", "telling", "[I", true)
  | _ => ("TurnHostModel", "next", "[I", true)
def ty_N : Nat → FieldType := fun k => match k with
  | 0 => .int
  | 1 => .int
  | 2 => .array .int
  | 3 => .array .int
  | 4 => .array .int
  | 5 => .array .int
  | 6 => .array .int
  | 7 => .int
  | 8 => .array .int
  | 9 => .array .int
  | 10 => .array .int
  | 11 => .array .int
  | 12 => .array .int
  | 13 => .array .int
  | 14 => .array .int
  | 15 => .array .boolean
  | 16 => .array .int
  | 17 => .int
  | 18 => .array .int
  | 19 => .int
  | 20 => .array .int
  | _ => .array .int
theorem n_N : ∀ a, a < 22 → ∀ b, b < 22 → a ≠ b → (F_N a).2.1 ≠ (F_N b).2.1 := by decide +kernel
theorem ty_N_ok : ∀ k, k < 22 → parseFieldDescriptor (F_N k).2.2.1 = some (ty_N k) := by decide +kernel
abbrev classes : List vw_C := [(R_T, F_T, 5), (R_B, F_B, 3), (R_P, F_P, 12), (R_L, F_L, 2), (R_S, F_S, 5), (R_G, F_G, 2), (R_M, F_M, 2), (R_H, F_H, 5), (R_N, F_N, 22)]
def th_tys : List FieldType := [.int, .int, .object "TurnHost$Term", .object "TurnHost$HostProcess", .boolean]
def th_sts : List (String × String × String) := [("TurnHost", "LIMITS", "[I")]
abbrev th_M : Type := MethodName × ByteArray × Nat × Option FieldType
def m_H_init : th_M := (⟨"TurnHost", "<init>", "(I)V"⟩, prog_1_method_1_code, 2, none)
def m_M_init : th_M := (⟨"TurnHost$Machine", "<init>", "()V"⟩, prog_4_method_1_code, 1, none)
def m_G_init : th_M := (⟨"TurnHost$Program", "<init>", "()V"⟩, prog_6_method_1_code, 1, none)
def m_S_init : th_M := (⟨"TurnHost$Society", "<init>", "()V"⟩, prog_7_method_1_code, 2, none)
def m_P_init : th_M := (⟨"TurnHost$HostProcess", "<init>", "(I)V"⟩, prog_2_method_1_code, 2, none)
def m_T_init : th_M := (⟨"TurnHost$Term", "<init>", "(II)V"⟩, prog_8_method_1_code, 3, none)
def m_B_init : th_M := (⟨"TurnHost$Mailbox", "<init>", "()V"⟩, prog_5_method_1_code, 1, none)
def m_L_init : th_M := (⟨"TurnHost$Line", "<init>", "()V"⟩, prog_3_method_1_code, 1, none)
def m_H_add : th_M := (⟨"TurnHost", "add", "(IIII)I"⟩, prog_1_method_2_code, 5, (some FieldType.int))
def m_G_append : th_M := (⟨"TurnHost$Program", "append", "(IIII)I"⟩, prog_6_method_2_code, 7, (some FieldType.int))
def m_G_fits : th_M := (⟨"TurnHost$Program", "fits", "(II)Z"⟩, prog_6_method_3_code, 2, (some FieldType.boolean))
def m_H_begin : th_M := (⟨"TurnHost", "begin", "(II)I"⟩, prog_1_method_3_code, 4, (some FieldType.int))
def m_S_start : th_M := (⟨"TurnHost$Society", "start", "(ILTurnHost$Term;)LTurnHost$HostProcess;"⟩, prog_7_method_5_code, 4, (some (FieldType.object "TurnHost$HostProcess")))
def m_P_renew : th_M := (⟨"TurnHost$HostProcess", "renew", "(ILTurnHost$Term;LTurnHost$Term;)V"⟩, prog_2_method_2_code, 5, none)
def m_B_empty : th_M := (⟨"TurnHost$Mailbox", "empty", "()V"⟩, prog_5_method_2_code, 1, none)
def m_L_append : th_M := (⟨"TurnHost$Line", "append", "(I)V"⟩, prog_3_method_4_code, 2, none)
def m_H_tell : th_M := (⟨"TurnHost", "tell", "(II)Z"⟩, prog_1_method_4_code, 4, (some FieldType.boolean))
def m_S_numbered : th_M := (⟨"TurnHost$Society", "numbered", "(I)LTurnHost$HostProcess;"⟩, prog_7_method_3_code, 2, (some (FieldType.object "TurnHost$HostProcess")))
def m_S_deliver : th_M := (⟨"TurnHost$Society", "deliver", "(LTurnHost$HostProcess;LTurnHost$Term;)V"⟩, prog_7_method_6_code, 3, none)
def m_B_put : th_M := (⟨"TurnHost$Mailbox", "put", "(LTurnHost$Term;)Z"⟩, prog_5_method_5_code, 2, (some FieldType.boolean))
def m_H_run : th_M := (⟨"TurnHost", "run", "(I)I"⟩, prog_1_method_5_code, 4, (some FieldType.int))
def m_L_at : th_M := (⟨"TurnHost$Line", "at", "(I)I"⟩, prog_3_method_3_code, 2, (some FieldType.int))
def m_M_reduce : th_M := (⟨"TurnHost$Machine", "reduce", "(LTurnHost$HostProcess;)V"⟩, prog_4_method_2_code, 4, none)
def m_G_reaches : th_M := (⟨"TurnHost$Program", "reaches", "(I)Z"⟩, prog_6_method_4_code, 2, (some FieldType.boolean))
def m_S_end : th_M := (⟨"TurnHost$Society", "end", "(LTurnHost$HostProcess;LTurnHost$Term;)V"⟩, prog_7_method_10_code, 4, none)
def m_L_leave : th_M := (⟨"TurnHost$Line", "leave", "(I)V"⟩, prog_3_method_5_code, 4, none)
def m_S_untie : th_M := (⟨"TurnHost$Society", "untie", "(LTurnHost$HostProcess;LTurnHost$HostProcess;)V"⟩, prog_7_method_9_code, 3, none)
def m_S_signal : th_M := (⟨"TurnHost$Society", "signal", "(LTurnHost$HostProcess;LTurnHost$HostProcess;LTurnHost$Term;)V"⟩, prog_7_method_11_code, 4, none)
def m_S_exitNotice : th_M := (⟨"TurnHost$Society", "exitNotice", "(LTurnHost$HostProcess;LTurnHost$Term;)LTurnHost$Term;"⟩, prog_7_method_12_code, 4, (some (FieldType.object "TurnHost$Term")))
def m_T_init2 : th_M := (⟨"TurnHost$Term", "<init>", "(ILTurnHost$Term;LTurnHost$Term;)V"⟩, prog_8_method_2_code, 4, none)
def m_T_alike : th_M := (⟨"TurnHost$Term", "alike", "(LTurnHost$Term;LTurnHost$Term;)Z"⟩, prog_8_method_7_code, 2, (some FieldType.boolean))
def m_T_hasParts : th_M := (⟨"TurnHost$Term", "hasParts", "()Z"⟩, prog_8_method_4_code, 1, (some FieldType.boolean))
def m_M_perform : th_M := (⟨"TurnHost$Machine", "perform", "(LTurnHost$HostProcess;IIII)Z"⟩, prog_4_method_3_code, 7, (some FieldType.boolean))
def m_P_set : th_M := (⟨"TurnHost$HostProcess", "set", "(ILTurnHost$Term;)Z"⟩, prog_2_method_3_code, 3, (some FieldType.boolean))
def m_T_joined : th_M := (⟨"TurnHost$Term", "joined", "(ILTurnHost$Term;LTurnHost$Term;)LTurnHost$Term;"⟩, prog_8_method_3_code, 3, (some (FieldType.object "TurnHost$Term")))
def m_M_areInts : th_M := (⟨"TurnHost$Machine", "areInts", "(LTurnHost$Term;LTurnHost$Term;)Z"⟩, prog_4_method_4_code, 2, (some FieldType.boolean))
def m_M_goUnless : th_M := (⟨"TurnHost$Machine", "goUnless", "(LTurnHost$HostProcess;ZI)Z"⟩, prog_4_method_5_code, 3, (some FieldType.boolean))
def m_P_goTo : th_M := (⟨"TurnHost$HostProcess", "goTo", "(I)Z"⟩, prog_2_method_4_code, 2, (some FieldType.boolean))
def m_P_pushReturn : th_M := (⟨"TurnHost$HostProcess", "pushReturn", "()Z"⟩, prog_2_method_5_code, 1, (some FieldType.boolean))
def m_M_goBack : th_M := (⟨"TurnHost$Machine", "goBack", "(LTurnHost$HostProcess;)Z"⟩, prog_4_method_6_code, 2, (some FieldType.boolean))
def m_S_bearing : th_M := (⟨"TurnHost$Society", "bearing", "(LTurnHost$Term;)LTurnHost$HostProcess;"⟩, prog_7_method_4_code, 2, (some (FieldType.object "TurnHost$HostProcess")))
def m_M_send : th_M := (⟨"TurnHost$Machine", "send", "(LTurnHost$HostProcess;LTurnHost$Term;)Z"⟩, prog_4_method_7_code, 3, (some FieldType.boolean))
def m_B_marked : th_M := (⟨"TurnHost$Mailbox", "marked", "()LTurnHost$Term;"⟩, prog_5_method_4_code, 1, (some (FieldType.object "TurnHost$Term")))
def m_B_at : th_M := (⟨"TurnHost$Mailbox", "at", "(I)LTurnHost$Term;"⟩, prog_5_method_3_code, 2, (some (FieldType.object "TurnHost$Term")))
def m_B_take : th_M := (⟨"TurnHost$Mailbox", "take", "()Z"⟩, prog_5_method_6_code, 2, (some FieldType.boolean))
def m_M_passOver : th_M := (⟨"TurnHost$Machine", "passOver", "(LTurnHost$HostProcess;I)Z"⟩, prog_4_method_8_code, 2, (some FieldType.boolean))
def m_M_waitOrGoOn : th_M := (⟨"TurnHost$Machine", "waitOrGoOn", "(LTurnHost$HostProcess;I)Z"⟩, prog_4_method_9_code, 3, (some FieldType.boolean))
def m_S_suspend : th_M := (⟨"TurnHost$Society", "suspend", "(LTurnHost$HostProcess;)V"⟩, prog_7_method_7_code, 2, none)
def m_M_spawn : th_M := (⟨"TurnHost$Machine", "spawn", "(LTurnHost$HostProcess;IILTurnHost$Term;)Z"⟩, prog_4_method_10_code, 6, (some FieldType.boolean))
def m_M_link : th_M := (⟨"TurnHost$Machine", "link", "(LTurnHost$HostProcess;LTurnHost$HostProcess;)Z"⟩, prog_4_method_11_code, 3, (some FieldType.boolean))
def m_S_tie : th_M := (⟨"TurnHost$Society", "tie", "(LTurnHost$HostProcess;LTurnHost$HostProcess;)V"⟩, prog_7_method_8_code, 3, none)
def m_M_trap : th_M := (⟨"TurnHost$Machine", "trap", "(LTurnHost$HostProcess;Z)Z"⟩, prog_4_method_12_code, 2, (some FieldType.boolean))
def m_M_finish : th_M := (⟨"TurnHost$Machine", "finish", "(LTurnHost$HostProcess;LTurnHost$Term;)Z"⟩, prog_4_method_13_code, 3, (some FieldType.boolean))
def m_M_stop : th_M := (⟨"TurnHost$Machine", "stop", "(LTurnHost$HostProcess;LTurnHost$HostProcess;)Z"⟩, prog_4_method_14_code, 3, (some FieldType.boolean))
def m_H_countInTurn : th_M := (⟨"TurnHost", "countInTurn", "(LTurnHost$HostProcess;)V"⟩, prog_1_method_13_code, 2, none)
def m_H_clear : th_M := (⟨"TurnHost", "clear", "(Z)I"⟩, prog_1_method_6_code, 3, (some FieldType.int))
def m_S_dissolve : th_M := (⟨"TurnHost$Society", "dissolve", "()V"⟩, prog_7_method_2_code, 1, none)
def m_L_empty : th_M := (⟨"TurnHost$Line", "empty", "()V"⟩, prog_3_method_2_code, 1, none)
def m_G_wipe : th_M := (⟨"TurnHost$Program", "wipe", "()V"⟩, prog_6_method_5_code, 1, none)
def m_H_process : th_M := (⟨"TurnHost", "process", "(II)I"⟩, prog_1_method_7_code, 4, (some FieldType.int))
def m_P_answer : th_M := (⟨"TurnHost$HostProcess", "answer", "(I)I"⟩, prog_2_method_6_code, 2, (some FieldType.int))
def m_H_queue : th_M := (⟨"TurnHost", "queue", "(I)I"⟩, prog_1_method_8_code, 2, (some FieldType.int))
def m_H_processes : th_M := (⟨"TurnHost", "processes", "()I"⟩, prog_1_method_9_code, 1, (some FieldType.int))
def m_H_term : th_M := (⟨"TurnHost", "term", "(II)I"⟩, prog_1_method_10_code, 4, (some FieldType.int))
def m_H_termOf : th_M := (⟨"TurnHost", "termOf", "(II)LTurnHost$Term;"⟩, prog_1_method_12_code, 4, (some (FieldType.object "TurnHost$Term")))
def m_P_termAt : th_M := (⟨"TurnHost$HostProcess", "termAt", "(I)LTurnHost$Term;"⟩, prog_2_method_7_code, 2, (some (FieldType.object "TurnHost$Term")))
def m_T_summary : th_M := (⟨"TurnHost$Term", "summary", "()I"⟩, prog_8_method_6_code, 2, (some FieldType.int))
def m_T_hasNumber : th_M := (⟨"TurnHost$Term", "hasNumber", "()Z"⟩, prog_8_method_5_code, 1, (some FieldType.boolean))
def m_J_floorMod : th_M := (⟨"java/lang/Math", "floorMod", "(II)I"⟩, prog_11_method_50_code, 3, (some FieldType.int))
def m_H_digest : th_M := (⟨"TurnHost", "digest", "(II)I"⟩, prog_1_method_11_code, 4, (some FieldType.int))
def m_T_mixed : th_M := (⟨"TurnHost$Term", "mixed", "(ILTurnHost$Term;)I"⟩, prog_8_method_8_code, 3, (some FieldType.int))
def m_W_cell : th_M := (⟨"TurnHostLaw", "cell", "([II)I"⟩, method_2_code, 2, (some FieldType.int))
def m_N_init : th_M := (⟨"TurnHostModel", "<init>", "(I)V"⟩, prog_10_method_1_code, 2, none)
def m_N_add : th_M := (⟨"TurnHostModel", "add", "(IIII)I"⟩, prog_10_method_16_code, 6, (some FieldType.int))
def m_N_in : th_M := (⟨"TurnHostModel", "in", "(III)Z"⟩, prog_10_method_2_code, 3, (some FieldType.boolean))
def m_N_firstNeeds : th_M := (⟨"TurnHostModel", "firstNeeds", "(I)I"⟩, prog_10_method_13_code, 1, (some FieldType.int))
def m_N_isRight : th_M := (⟨"TurnHostModel", "isRight", "(II)Z"⟩, prog_10_method_12_code, 2, (some FieldType.boolean))
def m_N_secondNeeds : th_M := (⟨"TurnHostModel", "secondNeeds", "(I)I"⟩, prog_10_method_14_code, 1, (some FieldType.int))
def m_N_thirdNeeds : th_M := (⟨"TurnHostModel", "thirdNeeds", "(I)I"⟩, prog_10_method_15_code, 1, (some FieldType.int))
def m_N_begin : th_M := (⟨"TurnHostModel", "begin", "(II)I"⟩, prog_10_method_31_code, 3, (some FieldType.int))
def m_N_put : th_M := (⟨"TurnHostModel", "put", "(III)V"⟩, prog_10_method_4_code, 4, none)
def m_N_start : th_M := (⟨"TurnHostModel", "start", "(II)I"⟩, prog_10_method_24_code, 5, (some FieldType.int))
def m_N_copy : th_M := (⟨"TurnHostModel", "copy", "(II)V"⟩, prog_10_method_3_code, 4, none)
def m_N_come : th_M := (⟨"TurnHostModel", "come", "(I)V"⟩, prog_10_method_17_code, 2, none)
def m_N_tell : th_M := (⟨"TurnHostModel", "tell", "(II)Z"⟩, prog_10_method_32_code, 3, (some FieldType.boolean))
def m_N_deliver : th_M := (⟨"TurnHostModel", "deliver", "(II)V"⟩, prog_10_method_19_code, 3, none)
def m_N_run : th_M := (⟨"TurnHostModel", "run", "(I)I"⟩, prog_10_method_33_code, 5, (some FieldType.int))
def m_N_step : th_M := (⟨"TurnHostModel", "step", "(I)V"⟩, prog_10_method_30_code, 5, none)
def m_N_make : th_M := (⟨"TurnHostModel", "make", "(IIIII)Z"⟩, prog_10_method_25_code, 9, (some FieldType.boolean))
def m_N_weight : th_M := (⟨"TurnHostModel", "weight", "(I)I"⟩, prog_10_method_7_code, 2, (some FieldType.int))
def m_N_addParts : th_M := (⟨"TurnHostModel", "addParts", "(IIII)V"⟩, prog_10_method_6_code, 6, none)
def m_N_sortOf : th_M := (⟨"TurnHostModel", "sortOf", "(II)I"⟩, prog_10_method_8_code, 3, (some FieldType.int))
def m_N_numberOf : th_M := (⟨"TurnHostModel", "numberOf", "(II)I"⟩, prog_10_method_9_code, 3, (some FieldType.int))
def m_N_append : th_M := (⟨"TurnHostModel", "append", "(III)V"⟩, prog_10_method_5_code, 5, none)
def m_N_behind : th_M := (⟨"TurnHostModel", "behind", "(II)I"⟩, prog_10_method_10_code, 5, (some FieldType.int))
def m_N_branch : th_M := (⟨"TurnHostModel", "branch", "(IIIII)Z"⟩, prog_10_method_26_code, 8, (some FieldType.boolean))
def m_N_isSame : th_M := (⟨"TurnHostModel", "isSame", "(II)Z"⟩, prog_10_method_11_code, 5, (some FieldType.boolean))
def m_N_endBy : th_M := (⟨"TurnHostModel", "endBy", "(II)V"⟩, prog_10_method_23_code, 3, none)
def m_N_end : th_M := (⟨"TurnHostModel", "end", "(II)V"⟩, prog_10_method_22_code, 6, none)
def m_N_stop : th_M := (⟨"TurnHostModel", "stop", "(II)V"⟩, prog_10_method_21_code, 3, none)
def m_N_leave : th_M := (⟨"TurnHostModel", "leave", "(I)V"⟩, prog_10_method_18_code, 4, none)
def m_N_signal : th_M := (⟨"TurnHostModel", "signal", "(III)Z"⟩, prog_10_method_20_code, 4, (some FieldType.boolean))
def m_N_mail : th_M := (⟨"TurnHostModel", "mail", "(IIII)Z"⟩, prog_10_method_28_code, 8, (some FieldType.boolean))
def m_N_named : th_M := (⟨"TurnHostModel", "named", "(I)I"⟩, prog_10_method_27_code, 2, (some FieldType.int))
def m_N_life : th_M := (⟨"TurnHostModel", "life", "(IIIII)Z"⟩, prog_10_method_29_code, 8, (some FieldType.boolean))
def m_N_clear : th_M := (⟨"TurnHostModel", "clear", "(Z)I"⟩, prog_10_method_34_code, 3, (some FieldType.int))
def m_N_process : th_M := (⟨"TurnHostModel", "process", "(II)I"⟩, prog_10_method_35_code, 3, (some FieldType.int))
def m_N_queue : th_M := (⟨"TurnHostModel", "queue", "(I)I"⟩, prog_10_method_36_code, 2, (some FieldType.int))
def m_N_processes : th_M := (⟨"TurnHostModel", "processes", "()I"⟩, prog_10_method_37_code, 1, (some FieldType.int))
def m_N_term : th_M := (⟨"TurnHostModel", "term", "(II)I"⟩, prog_10_method_39_code, 5, (some FieldType.int))
def m_N_isTerm : th_M := (⟨"TurnHostModel", "isTerm", "(II)Z"⟩, prog_10_method_38_code, 3, (some FieldType.boolean))
def m_N_digest : th_M := (⟨"TurnHostModel", "digest", "(II)I"⟩, prog_10_method_40_code, 6, (some FieldType.int))
def m_W_law : th_M := (⟨"TurnHostLaw", "law", "([I)Z"⟩, code, 4, some FieldType.boolean)
end
section
/-! The typed heap, and the judgement Xw over it: the machine's W with its context put away; a rule an instruction. -/
abbrev th_K : Type := Nat ⊕ (Nat × Nat)
abbrev th_H : Type := (Nat → Option th_K) × (Nat → Nat → Nat → Value) × (Nat → Nat → Nat → Value) × Nat
/-- the kind of a cell: an object of a class (its number), an array (its type's number, its length; 0: ints that nobody writes) -/
def gk (h : th_H) : Nat → Option th_K := h.1
def gF (h : th_H) : Nat → Nat → Nat → Value := h.2.1
def gA (h : th_H) : Nat → Nat → Nat → Value := h.2.2.1
def gz (h : th_H) : Nat := h.2.2.2
def up3 (f : Nat → Nat → Nat → Value) (i j k : Nat) (v : Value) : Nat → Nat → Nat → Value := fun a b c => if a = i ∧ b = j ∧ c = k then v else f a b c
def gpF (h : th_H) (ci k a : Nat) (v : Value) : th_H := (gk h, up3 (gF h) ci k a v, gA h, gz h)
def gpA (h : th_H) (t a i : Nat) (v : Value) : th_H := (gk h, gF h, up3 (gA h) t a i v, gz h)
def gnO (h : th_H) (ci : Nat) (dv : Nat → Value) : th_H := (va_up (gk h) (gz h) (some (.inl ci)), fun c k a => if c = ci ∧ a = gz h then dv k else gF h c k a, gA h, gz h + 1)
def gnA (h : th_H) (t n : Nat) (d : Value) : th_H := (va_up (gk h) (gz h) (some (.inr (t, n))), gF h, fun t' a i => if t' = t ∧ a = gz h then d else gA h t' a i, gz h + 1)
theorem gk_pF (h : th_H) (ci k a : Nat) (v : Value) : gk (gpF h ci k a v) = gk h := id rfl
theorem gA_pF (h : th_H) (ci k a : Nat) (v : Value) : gA (gpF h ci k a v) = gA h := id rfl
theorem gz_pF (h : th_H) (ci k a : Nat) (v : Value) : gz (gpF h ci k a v) = gz h := id rfl
theorem gF_pF (h : th_H) (ci k a : Nat) (v : Value) (c' k' a' : Nat) : gF (gpF h ci k a v) c' k' a' = if c' = ci ∧ k' = k ∧ a' = a then v else gF h c' k' a' := id rfl
theorem gk_pA (h : th_H) (t a i : Nat) (v : Value) : gk (gpA h t a i v) = gk h := id rfl
theorem gF_pA (h : th_H) (t a i : Nat) (v : Value) : gF (gpA h t a i v) = gF h := id rfl
theorem gz_pA (h : th_H) (t a i : Nat) (v : Value) : gz (gpA h t a i v) = gz h := id rfl
theorem gA_pA (h : th_H) (t a i : Nat) (v : Value) (t' a' i' : Nat) : gA (gpA h t a i v) t' a' i' = if t' = t ∧ a' = a ∧ i' = i then v else gA h t' a' i' := id rfl
theorem gk_nO (h : th_H) (ci : Nat) (dv : Nat → Value) (a : Nat) : gk (gnO h ci dv) a = if a = gz h then some (.inl ci) else gk h a := id rfl
theorem gF_nO (h : th_H) (ci : Nat) (dv : Nat → Value) (c k a : Nat) : gF (gnO h ci dv) c k a = if c = ci ∧ a = gz h then dv k else gF h c k a := id rfl
theorem gA_nO (h : th_H) (ci : Nat) (dv : Nat → Value) : gA (gnO h ci dv) = gA h := id rfl
theorem gz_nO (h : th_H) (ci : Nat) (dv : Nat → Value) : gz (gnO h ci dv) = gz h + 1 := id rfl
theorem gk_nA (h : th_H) (t n : Nat) (d : Value) (a : Nat) : gk (gnA h t n d) a = if a = gz h then some (.inr (t, n)) else gk h a := id rfl
theorem gF_nA (h : th_H) (t n : Nat) (d : Value) : gF (gnA h t n d) = gF h := id rfl
theorem gA_nA (h : th_H) (t n : Nat) (d : Value) (t' a i : Nat) : gA (gnA h t n d) t' a i = if t' = t ∧ a = gz h then d else gA h t' a i := id rfl
theorem gz_nA (h : th_H) (t n : Nat) (d : Value) : gz (gnA h t n d) = gz h + 1 := id rfl
/-- what is fixed through a run: numbers of the classes, their slots, the array classes, the first new cell, what the static fields hold -/
abbrev th_E : Type := (Nat → ClassId) × (Nat → Nat → Nat) × (Nat → ClassId) × Nat × (Nat → Value)
def th_ty (E : th_E) : List (ClassId × FieldType) := th_tys.zipIdx.map (fun q => (E.2.2.1 q.2, q.1))
theorem th_ty_at {E : th_E} {t : Nat} {ty : FieldType} (h : th_tys[t]? = some ty) : (th_ty E)[t]? = some (E.2.2.1 t, ty) := by
  simp [th_ty, h]
def th_A (E : th_E) : Nat → Prop := fun q => E.2.2.2.1 ≤ q
def th_cell (E : th_E) (U : State) (h : th_H) (H : Heap) (a : Nat) : th_K → Prop
  | .inl ci => E.2.2.2.1 ≤ a ∧ ∃ r : vw_C, classes[ci]? = some r ∧ t_OB a (E.1 ci) r.2.2 (E.2.1 ci) H (fun j => gF h ci j a)
  | .inr (0, n) => ∃ scr : Cell, H[a]? = some scr ∧ U.isArrayOf scr .int ∧ scr.vm ≠ .unknown ∧ scr.slots.size = n ∧ ∀ j : Nat, j < n → scr.slots[j]? = some (gA h 0 a j)
  | .inr (t + 1, n) => E.2.2.2.1 ≤ a ∧ H[a]? = some (arrV (E.2.2.1 (t + 1)) n (gA h (t + 1) a))
def th_P (E : th_E) (U : State) (h : th_H) (H : Heap) : Prop := (H.size = gz h ∧ E.2.2.2.1 ≤ gz h) ∧ ∀ (a : Nat) (k : th_K), gk h a = some k → th_cell E U h H a k
theorem th_cell.lt {E : th_E} {U : State} {h : th_H} {H : Heap} {a : Nat} {k : th_K} (q : th_cell E U h H a k) : a < H.size := by
  match k, q with
  | .inl ci, ⟨_, r, _, c9, q2, _⟩ => exact (Array.getElem?_eq_some_iff.mp q2).1
  | .inr (0, n), ⟨scr, q2, _⟩ => exact (Array.getElem?_eq_some_iff.mp q2).1
  | .inr (t + 1, n), ⟨_, q2⟩ => exact (Array.getElem?_eq_some_iff.mp q2).1
theorem th_P.lt {E : th_E} {U : State} {h : th_H} {H : Heap} {a : Nat} {k : th_K} (q : th_P E U h H) (ha : gk h a = some k) : a < gz h := by
  have := (q.2 a k ha).lt
  rw [q.1.1] at this
  exact this
/-- a cell that isn't touched, in a heap and a picture that say the same of it -/
theorem th_cell.kept {E : th_E} {U : State} {h h1 : th_H} {H H1 : Heap} {a : Nat} {k : th_K} (q : th_cell E U h H a k) (e : H1[a]? = H[a]?) (eF : ∀ ci, k = .inl ci → ∀ j, gF h1 ci j a = gF h ci j a) (eA : ∀ t n, k = .inr (t, n) → ∀ j, gA h1 t a j = gA h t a j) : th_cell E U h1 H1 a k := by
  match k, q with
  | .inl ci, ⟨q0, r, q1, q2⟩ => exact ⟨q0, r, q1, (q2.kept e).to (fun j _ => (eF ci rfl j).symm)⟩
  | .inr (0, n), ⟨scr, q1, q2, q3, q4, q5⟩ => exact ⟨scr, by rw [e]; exact q1, q2, q3, q4, fun j hj => by rw [eA 0 n rfl j]; exact q5 j hj⟩
  | .inr (t + 1, n), ⟨q0, q1⟩ =>
    refine ⟨q0, ?_⟩
    rw [e, q1]
    congr 1
    congr 1
    funext j
    exact (eA (t + 1) n rfl j).symm
theorem th_P.moved {E : th_E} {u U : State} {h : th_H} {H : Heap} (hvm : u.vm.Alike U.vm) (q : th_P E u h H) : th_P E U h H := by
  refine ⟨q.1, fun a k ha => ?_⟩
  have := q.2 a k ha
  match k, this with
  | .inl ci, z => exact z
  | .inr (0, n), ⟨scr, q1, q2, q3⟩ => exact ⟨scr, q1, State.isArrayOf_alike hvm q2, q3⟩
  | .inr (t + 1, n), z => exact z
theorem th_P.putF {E : th_E} {U : State} {h : th_H} {H H1 : Heap} {a ci k : Nat} {v : Value} (q : th_P E U h H) (ha : gk h a = some (.inl ci)) (z : H1.size = H.size) (oq : ∀ b : Nat, b ≠ a → H1[b]? = H[b]?) (r : vw_C) (hr : classes[ci]? = some r) (hn : t_OB a (E.1 ci) r.2.2 (E.2.1 ci) H1 (updV (fun j => gF h ci j a) k v)) : th_P E U (gpF h ci k a v) H1 := by
  refine ⟨⟨by rw [z, gz_pF]; exact q.1.1, q.1.2⟩, fun b kb hb => ?_⟩
  rw [gk_pF] at hb
  by_cases hba : b = a
  · subst hba
    rw [ha] at hb
    cases hb
    refine ⟨(q.2 b _ ha).1, r, hr, hn.to (fun j _ => ?_)⟩
    show (if j = k then v else _) = _
    rw [gF_pF]
    by_cases hj : j = k <;> simp [hj]
  · refine (q.2 b kb hb).kept (oq b hba) (fun ci' _ j => ?_) (fun t n _ j => rfl)
    rw [gF_pF]
    simp [hba]
theorem th_P.putA {E : th_E} {U : State} {h : th_H} {H H1 : Heap} {a t n i : Nat} {v : Value} (q : th_P E U h H) (ha : gk h a = some (.inr (t + 1, n))) (z : H1.size = H.size) (oq : ∀ b : Nat, b ≠ a → H1[b]? = H[b]?) (hn : H1[a]? = some ((arrV (E.2.2.1 (t + 1)) n (gA h (t + 1) a)).setSlot i v)) : th_P E U (gpA h (t + 1) a i v) H1 := by
  refine ⟨⟨by rw [z, gz_pA]; exact q.1.1, q.1.2⟩, fun b kb hb => ?_⟩
  rw [gk_pA] at hb
  by_cases hba : b = a
  · subst hba
    rw [ha] at hb
    cases hb
    refine ⟨(q.2 b _ ha).1, ?_⟩
    rw [hn, arrV_store]
    congr 2
    funext j
    rw [gA_pA]
    by_cases hj : j = i <;> simp [updV, hj]
  · refine (q.2 b kb hb).kept (oq b hba) (fun ci' _ j => rfl) (fun t' n' _ j => ?_)
    rw [gA_pA]
    simp [hba]
theorem th_P.newO {E : th_E} {U : State} {h : th_H} {H H1 : Heap} {ci : Nat} {dv : Nat → Value} (q : th_P E U h H) (z : H1.size = H.size + 1) (oq : ∀ b : Nat, b < H.size → H1[b]? = H[b]?) (r : vw_C) (hr : classes[ci]? = some r) (hn : t_OB H.size (E.1 ci) r.2.2 (E.2.1 ci) H1 dv) : th_P E U (gnO h ci dv) H1 := by
  refine ⟨⟨by rw [z, gz_nO, q.1.1], by rw [gz_nO]; exact Nat.le_succ_of_le q.1.2⟩, fun b kb hb => ?_⟩
  rw [gk_nO] at hb
  by_cases hba : b = gz h
  · subst hba
    rw [if_pos rfl] at hb
    cases hb
    rw [q.1.1] at hn
    exact ⟨q.1.2, r, hr, hn.to (fun j _ => by rw [gF_nO]; simp)⟩
  · rw [if_neg hba] at hb
    have hq := q.2 b kb hb
    refine hq.kept (oq b hq.lt) (fun ci' _ j => ?_) (fun t n _ j => rfl)
    rw [gF_nO]
    simp [hba]
theorem th_P.newA {E : th_E} {U : State} {h : th_H} {H H1 : Heap} {t n : Nat} {d : Value} (q : th_P E U h H) (z : H1.size = H.size + 1) (oq : ∀ b : Nat, b < H.size → H1[b]? = H[b]?) (hn : H1[H.size]? = some (arrV (E.2.2.1 (t + 1)) n (fun _ => d))) : th_P E U (gnA h (t + 1) n d) H1 := by
  refine ⟨⟨by rw [z, gz_nA, q.1.1], by rw [gz_nA]; exact Nat.le_succ_of_le q.1.2⟩, fun b kb hb => ?_⟩
  rw [gk_nA] at hb
  by_cases hba : b = gz h
  · subst hba
    rw [if_pos rfl] at hb
    cases hb
    rw [q.1.1] at hn
    refine ⟨q.1.2, ?_⟩
    rw [hn]
    congr 2
    funext j
    rw [gA_nA]
    simp
  · rw [if_neg hba] at hb
    have hq := q.2 b kb hb
    refine hq.kept (oq b hq.lt) (fun ci' _ j => rfl) (fun t n _ j => ?_)
    rw [gA_nA]
    simp [hba]
/-- the tables' words that ride along everywhere -/
def th_gd (w : Jvm.Cond) : Bool := (w.onTables && w.keeps) || (match w with | .arrayClass _ => true | _ => false)
def th_tb : List Jvm.Cond := lw_tbl.filter th_gd
theorem th_tb_good {w : Jvm.Cond} (h : w ∈ th_tb) : (w.onTables && w.keeps) = true ∨ ∃ ty, w = .arrayClass ty := by
  have h2 := (List.mem_filter.mp h).2
  unfold th_gd at h2
  rw [Bool.or_eq_true] at h2
  rcases h2 with h2 | h2
  · exact Or.inl h2
  · right
    split at h2
    · exact ⟨_, rfl⟩
    · cases h2
/-- what holds of the tables at every state of the run -/
def th_C (E : th_E) (U : State) : Prop := va_K (E.1, E.2.1) classes (th_ty E) U ∧ (∀ a i b n d g, Jvm.Cond.fieldLinkNest a i b n d g ∈ lw_tbl → va_Nw (.fieldLinkNest a i b n d g) U) ∧ (∀ a i x g, Jvm.Cond.methodLinkNest a i x g ∈ lw_tbl → va_Nw (.methodLinkNest a i x g) U) ∧ (∀ C, Jvm.Cond.arrayOver (.object C) ∈ lw_tbl → va_AO C U)
theorem th_C.warm {E : th_E} {s U : State} (hW : s.WarmedH U.vm) (h : th_C E s) : th_C E U := ⟨va_K.moved hW.alike h.1, fun a i b n d g q => va_Nw.warmF hW (h.2.1 a i b n d g q), fun a i x g q => va_Nw.warmM hW (h.2.2.1 a i x g q), fun C q => (h.2.2.2 C q).moved hW.alike⟩
theorem th_C.same {E : th_E} {s U : State} (hv : s.vm = U.vm) (h : th_C E s) : th_C E U := ⟨va_K.moved (by rw [hv]; exact Vm.Alike.refl _) h.1, fun a i b n d g q => va_Nw.same rfl hv (h.2.1 a i b n d g q), fun a i x g q => va_Nw.same rfl hv (h.2.2.1 a i x g q), fun C q => (h.2.2.2 C q).moved (by rw [hv]; exact Vm.Alike.refl _)⟩
def th_Z (E : th_E) (U : State) (H : Heap) : Prop := ∀ (k : Nat) (q : String × String × String), th_sts[k]? = some q → va_Z q.1 q.2.1 q.2.2 (E.2.2.2.2 k) (th_A E) U H
/-- a state that the picture h speaks of -/
def th_S (E : th_E) (h : th_H) (U : State) : Prop := th_P E U h U.heap ∧ th_C E U ∧ th_Z E U U.heap
def th_ws (M : th_M) : List Jvm.Cond := .code M.1 M.2.1 M.2.2.1 M.2.2.2 :: th_tb
def th_X (E : th_E) (M : th_M) (p : Program) (s : State) (m : MethodId) (args : Array Value) (meth : Method) (c : Code) : Prop :=
  p.tables.exec = Jvm.exec ∧ c.code = M.2.1 ∧ c.maxLocals = M.2.2.1 ∧ s.vm.findClass M.1.cls = some m.cls ∧ (∀ w ∈ th_tb, w.before args s = true) ∧ meth.sig.returnType = M.2.2.2 ∧ meth.locks = false ∧ meth.name = M.1.name ∧ th_C E s ∧ th_Z E s s.heap
def th_L (ls : Array Slot) (n : Nat) (L : List (Option Value)) : Prop := L.length = n ∧ ∃ lv : List (Nat × Value), lv_has ls n lv ∧ ∀ (i : Nat) (v : Value), L[i]? = some (some v) → (i, v) ∈ lv ∧ v.category = 1
theorem th_L.at {ls : Array Slot} {n : Nat} {L : List (Option Value)} (h : th_L ls n L) {i : Nat} {v : Value} (hi : L[i]? = some (some v)) : ls[i]? = some (.val v) := by
  obtain ⟨-, lv, h1, h2⟩ := h
  exact h1.2.2 (i, v) (h2 i v hi).1
theorem th_L.set {ls : Array Slot} {n : Nat} {L : List (Option Value)} {lv : List (Nat × Value)} {i : Nat} {v : Value} (hL : L.length = n) (h2 : ∀ (i : Nat) (v : Value), L[i]? = some (some v) → (i, v) ∈ lv ∧ v.category = 1) (hc : v.category = 1) (hi : i < n)
    (h' : lv_has ls n ((i, v) :: lv.filter (fun q => !(q.1 == i) && !(q.1 + 1 == i && q.2.category == 2)))) : th_L ls n (L.set i (some v)) := by
  refine ⟨by rw [List.length_set]; exact hL, _, h', fun j w hj => ?_⟩
  by_cases hij : i = j
  · subst hij
    rw [List.getElem?_set_self (by omega)] at hj
    cases hj
    exact ⟨List.mem_cons_self, hc⟩
  · rw [List.getElem?_set_ne hij] at hj
    obtain ⟨q1, q2⟩ := h2 j w hj
    refine ⟨List.mem_cons_of_mem _ (List.mem_filter.mpr ⟨q1, ?_⟩), q2⟩
    simp [q2, Ne.symm hij]
/-- the instruction at pc gives back v -/
def th_R (M : th_M) (pc : Nat) (v : Option Value) : Prop :=
  (v = none ∧ M.2.2.2 = none ∧ decode M.2.1 pc = .ok (.return_, 1)) ∨
  (∃ (x : Int32) (ty : FieldType), v = some (.int x) ∧ M.2.2.2 = some ty ∧ narrow ty (.int x) = .int x ∧ decode M.2.1 pc = .ok (.ireturn, 1)) ∨
  (∃ (w : Value) (ty : FieldType), v = some w ∧ M.2.2.2 = some ty ∧ ((∃ n, ty = .object n) ∨ ∃ t, ty = .array t) ∧ (w = .null ∨ ∃ a, w = .ref a) ∧ decode M.2.1 pc = .ok (.areturn, 1))
def th_Y (E : th_E) (M : th_M) (d cz cs : Nat) (L : List (Option Value)) (h : th_H) (Post : Option Value → th_H → Prop) (p : Program) (l : Launch) (e : Env) (R : Room) (s : State) (m : MethodId) (args : Array Value) (below : List Frame) (meth : Method) (c : Code) (H : Heap) (locs : List Loc) (cells slots : Nat) (ls : Array Slot) (Q : State → Prop) : Prop :=
  th_X E M p s m args meth c ∧ th_P E s h H ∧ va_S (th_A E) s.heap H locs ∧ th_L ls M.2.2.1 L ∧ (d ≤ R.frames ∧ 64 * d ≤ R.locals) ∧ (cells + cz ≤ R.cells ∧ slots + cs ≤ R.slots) ∧
  ∀ (v : Option Value) (h' : th_H) (pc' : Nat) (ls' : Array Slot) (H' : Heap) (locs' : List Loc) (cells' slots' : Nat), Post v h' → th_R M pc' v → th_P E s h' H' → va_S (th_A E) s.heap H' locs' → cells' ≤ R.cells → slots' ≤ R.slots → W p l e R s m args below meth c H' locs' cells' slots' Q (F0 m pc' ls' v.toList)
/-- method M, at pc with locals L, stack S, in the picture h, with room for d calls deep, cz cells of cs slots, comes to an end with Post -/
def Xw (E : th_E) (M : th_M) (d cz cs pc : Nat) (L : List (Option Value)) (S : List Value) (h : th_H) (Post : Option Value → th_H → Prop) : Prop :=
  ∀ (p : Program) (l : Launch) (e : Env) (R : Room) (s : State) (m : MethodId) (args : Array Value) (below : List Frame) (meth : Method) (c : Code) (H : Heap) (locs : List Loc) (cells slots : Nat) (ls : Array Slot) (Q : State → Prop),
    th_Y E M d cz cs L h Post p l e R s m args below meth c H locs cells slots ls Q → W p l e R s m args below meth c H locs cells slots Q (F0 m pc ls S)
def th_Qc (E : th_E) (Post : Option Value → th_H → Prop) : Array Value → State → Outcome → State → Prop := fun _ st oc t => ∃ (v : Option Value) (h' : th_H), oc = .returned v ∧ Post v h' ∧ th_S E h' t ∧ va_F (th_A E) st t
/-- a method's contract at arguments as and picture h -/
def Xc (E : th_E) (M : th_M) (d cz cs : Nat) (as : List Value) (h : th_H) (Post : Option Value → th_H → Prop) : Prop :=
  ∀ l : Launch, Met l M.1 (th_ws M) { frames := d, cells := cz, slots := cs, locals := 64 * d } (va_Pc as (th_S E h)) (th_Qc E Post) cz cs (th_A E)
def th_ent (M : th_M) (as : List Value) : List (Option Value) := as.map some ++ List.replicate (M.2.2.1 - as.length) none
theorem th_args_mem : ∀ (as : List Value) (k i : Nat) (v : Value), (∀ w ∈ as, w.category = 1) → as[i]? = some v → (k + i, v) ∈ lv_args k as
  | [], k, i, v, _, h => by simp at h
  | a :: as, k, 0, v, hc, h => by
    simp at h
    subst h
    simp [lv_args]
  | a :: as, k, i + 1, v, hc, h => by
    have h1 : a.category = 1 := hc a List.mem_cons_self
    simp only [List.getElem?_cons_succ] at h
    have := th_args_mem as (k + 1) i v (fun w hw => hc w (List.mem_cons_of_mem _ hw)) h
    simp only [lv_args, h1]
    refine List.mem_cons_of_mem _ ?_
    rw [if_neg (by decide), show k + (i + 1) = k + 1 + i by omega]
    exact this
theorem th_sl_len : ∀ (as : List Value), (∀ w ∈ as, w.category = 1) → (lg_sl as).length = as.length
  | [], _ => rfl
  | a :: as, hc => by
    have h1 : a.category = 1 := hc a List.mem_cons_self
    have := th_sl_len as (fun w hw => hc w (List.mem_cons_of_mem _ hw))
    simp only [lg_sl, List.flatMap_cons, h1] at this ⊢
    rw [if_neg (by decide)]
    simp only [List.length_append, List.length_cons, List.length_nil, this]
    omega
theorem th_L.entry {as : List Value} {n : Nat} (hc : ∀ w ∈ as, w.category = 1) (hn : as.length ≤ n) : th_L ((lg_sl as ++ List.replicate (n - (lg_sl as).length) Slot.unset).toArray) n (as.map some ++ List.replicate (n - as.length) none) := by
  refine ⟨by simp; omega, lv_args 0 as, lv_entry as (by rw [th_sl_len as hc]; exact hn), fun i v hi => ?_⟩
  have hi2 : as[i]? = some v := by
    by_cases hl : i < as.length
    · rw [List.getElem?_append_left (by simpa using hl), List.getElem?_map] at hi
      cases hq : as[i]? with
      | none => rw [hq] at hi; cases hi
      | some w => rw [hq] at hi; cases hi; rfl
    · rw [List.getElem?_append_right (by simpa using hl), List.getElem?_replicate] at hi
      split at hi <;> cases hi
  refine ⟨?_, hc v (List.mem_of_getElem? hi2)⟩
  have := th_args_mem as 0 i v hc hi2
  rwa [Nat.zero_add] at this
theorem th_ofW {l : Launch} {y : MethodName} {ws ws' : List Jvm.Cond} {rm : Room} {Pc : Array Value → State → Prop} {Qc : Array Value → State → Outcome → State → Prop} {mc ms : Nat} {free : Addr → Prop} {cc : ByteArray} {maxL : Nat} {ret : Option FieldType}
    (hy : plainFor y = true) (hw : ws = Jvm.Cond.code y cc maxL ret :: ws')
    (body : ∀ p e s m args below meth c s₁, BodyLoose p l y (headSpec ws rm) cc maxL ret e s m args below meth c s₁ → c.maxLocals = maxL → Pc args s →
      W p l e (headSpec ws rm).room s m args below meth c s.heap [] 0 0 (MQ below Qc args s mc ms free) (entryFrame m args maxL)) : Met l y ws rm Pc Qc mc ms free := by
  refine MetFree.of_bodySF (code := cc) (maxLocals := maxL) (ret := ret) hy ?_ ?_
  · intro args s m h hn
    obtain ⟨meth, c, h1, h2, h3, h4, h5, h6, -, -⟩ := Cond.code_spec hn (atoms_spec (ws := ws) h _ (by rw [hw]; exact List.mem_cons_self))
    exact ⟨meth, c, h1, h2, h3, h4, h5, h6⟩
  · intro p e s m args below meth c s₁ B hml hP _
    have hh0 : s₁.heap = s.heap := by rw [B.state]; rfl
    obtain ⟨t, a1, o, b1, b2, b3⟩ := body p e s m args below meth c s₁ B hml hP s₁ hh0 (Stand.of_body B)
    exact ⟨t, o, a1, b1, b2, ⟨b3.1, b3.2⟩⟩
/-- a contract out of the walk from the entry -/
theorem Xc.ofF {E : th_E} {M : th_M} {d cz cs : Nat} {as : List Value} {h : th_H} {Post : Option Value → th_H → Prop} (hpl : plainFor M.1 = true) (hc : ∀ w ∈ as, w.category = 1) (hn : as.length ≤ M.2.2.1) (w : Xw E M d cz cs 0 (th_ent M as) [] h Post) : Xc E M d cz cs as h Post := by
  intro l
  refine th_ofW (cc := M.2.1) (maxL := M.2.2.1) (ret := M.2.2.2) hpl rfl ?_
  intro p e s m args below meth c s₁ B hml hv
  obtain ⟨rfl, hP, hC, hZ⟩ := hv
  have hts := atoms_spec (ws := th_ws M) B.pre
  have hown : s.vm.findClass M.1.cls = some m.cls := findClass_of_methodNamed B.named
  have hlocks : meth.locks = false := B.notSynchronized
  rw [lg_entry_eq]
  refine w p l e _ s m _ below meth c s.heap [] 0 0 _ _ ⟨⟨B.exec, B.bytes, hml, hown, fun w hw => hts w (List.mem_cons_of_mem _ hw), B.returns, hlocks, (name_of_methodNamed B.named B.method).1, hC, hZ⟩, hP, va_S.rf, th_L.entry hc hn, ⟨Nat.le_refl _, Nat.le_refl _⟩, ⟨by show 0 + cz ≤ cz; omega, by show 0 + cs ≤ cs; omega⟩, ?_⟩
  intro v h' pc' ls' H' locs' cells' slots' hp hR hP' hS' hce hsl
  have hq : ∀ t : State, t.heap = H' → s.WarmedH t.vm → th_Qc E Post as.toArray s (.returned v) t := fun t ht hW => ⟨v, h', rfl, hp, ⟨by rw [ht]; exact hP'.moved hW.alike, hC.warm hW, fun k q hk => ((hZ k q hk).moved hW.alike).kept (fun a h1 h2 => by rw [ht]; exact hS'.2.1 a h1 h2)⟩, hS'.F ht⟩
  refine W.widen (k := cz) (n := cs) hce hsl ?_
  rcases hR with ⟨rfl, hr, hdg⟩ | ⟨x, ty, rfl, hr, hnr, hdg⟩ | ⟨w2, ty, rfl, hr, hty, hw2, hdg⟩
  · exact W.vret B.exec B.bytes (B.returns.trans hr) hq hS'.2.2 hdg hlocks
  · exact W.zret B.exec B.bytes (B.returns.trans hr) hnr hq hS'.2.2 hdg hlocks
  · exact W.aret B.exec B.bytes (B.returns.trans hr) hty hw2 hq hS'.2.2 hdg hlocks
theorem Xc.of {E : th_E} {M : th_M} {d cz cs : Nat} {as : List Value} {h : th_H} {Post : Option Value → th_H → Prop} (hpl : plainName M.1.cls = true) (hc : ∀ w ∈ as, w.category = 1) (hn : as.length ≤ M.2.2.1) (w : Xw E M d cz cs 0 (th_ent M as) [] h Post) : Xc E M d cz cs as h Post := Xc.ofF (plainFor_of_name hpl) hc hn w
end
section
/-! Rules of Xw, an instruction a rule (printed by wip/gen/rules.py). -/
theorem x_iconst {E : th_E} {M : th_M} {d cz cs pc : Nat} {L : List (Option Value)} {S : List Value} {h : th_H} {Post : Option Value → th_H → Prop} {n : Int} {v : Int32} (hd : decode M.2.1 pc = .ok (.iconst n, 1)) (hv : Int32.ofInt n = v) (kk : Xw E M d cz cs (pc + 1) L (.int v :: S) h Post) : Xw E M d cz cs pc L S h Post := by
  intro p l e R s m args below meth c H locs cells slots ls Q Y
  exact lv_iconst Y.1.1 Y.1.2.1 hd hv (kk p l e R s m args below meth c H locs cells slots ls Q Y)
theorem x_bipush {E : th_E} {M : th_M} {d cz cs pc : Nat} {L : List (Option Value)} {S : List Value} {h : th_H} {Post : Option Value → th_H → Prop} {n : Int} {v : Int32} (hd : decode M.2.1 pc = .ok (.bipush n, 2)) (hv : (Int8.ofInt n).toInt32 = v) (kk : Xw E M d cz cs (pc + 2) L (.int v :: S) h Post) : Xw E M d cz cs pc L S h Post := by
  intro p l e R s m args below meth c H locs cells slots ls Q Y
  exact lv_bipush Y.1.1 Y.1.2.1 hd hv (kk p l e R s m args below meth c H locs cells slots ls Q Y)
theorem x_sipush {E : th_E} {M : th_M} {d cz cs pc : Nat} {L : List (Option Value)} {S : List Value} {h : th_H} {Post : Option Value → th_H → Prop} {n : Int} {v : Int32} (hd : decode M.2.1 pc = .ok (.sipush n, 3)) (hv : (Int16.ofInt n).toInt32 = v) (kk : Xw E M d cz cs (pc + 3) L (.int v :: S) h Post) : Xw E M d cz cs pc L S h Post := by
  intro p l e R s m args below meth c H locs cells slots ls Q Y
  exact lv_sipush Y.1.1 Y.1.2.1 hd hv (kk p l e R s m args below meth c H locs cells slots ls Q Y)
theorem x_null {E : th_E} {M : th_M} {d cz cs pc : Nat} {L : List (Option Value)} {S : List Value} {h : th_H} {Post : Option Value → th_H → Prop}  (hd : decode M.2.1 pc = .ok (.aconst_null, 1)) (kk : Xw E M d cz cs (pc + 1) L (.null :: S) h Post) : Xw E M d cz cs pc L S h Post := by
  intro p l e R s m args below meth c H locs cells slots ls Q Y
  exact lv_null Y.1.1 Y.1.2.1 hd (kk p l e R s m args below meth c H locs cells slots ls Q Y)
theorem x_ldc {E : th_E} {M : th_M} {d cz cs pc : Nat} {L : List (Option Value)} {S : List Value} {h : th_H} {Post : Option Value → th_H → Prop} {n : Nat} {v : Int32} (hd : decode M.2.1 pc = .ok (.ldc n, 2)) (hc : Jvm.Cond.constant M.1.cls n v ∈ th_tb) (kk : Xw E M d cz cs (pc + 2) L (.int v :: S) h Post) : Xw E M d cz cs pc L S h Post := by
  intro p l e R s m args below meth c H locs cells slots ls Q Y
  exact lv_ldc Y.1.1 Y.1.2.1 Y.1.2.2.2.1 (Y.1.2.2.2.2.1 _ hc) hd (kk p l e R s m args below meth c H locs cells slots ls Q Y)
theorem x_ldcw {E : th_E} {M : th_M} {d cz cs pc : Nat} {L : List (Option Value)} {S : List Value} {h : th_H} {Post : Option Value → th_H → Prop} {n : Nat} {v : Int32} (hd : decode M.2.1 pc = .ok (.ldc_w n, 3)) (hc : Jvm.Cond.constant M.1.cls n v ∈ th_tb) (kk : Xw E M d cz cs (pc + 3) L (.int v :: S) h Post) : Xw E M d cz cs pc L S h Post := by
  intro p l e R s m args below meth c H locs cells slots ls Q Y
  exact lv_ldcw Y.1.1 Y.1.2.1 Y.1.2.2.2.1 (Y.1.2.2.2.2.1 _ hc) hd (kk p l e R s m args below meth c H locs cells slots ls Q Y)
theorem x_iload_n {E : th_E} {M : th_M} {d cz cs pc : Nat} {L : List (Option Value)} {S : List Value} {h : th_H} {Post : Option Value → th_H → Prop} {k : Fin 4} {i : Nat} {x : Int32} (hd : decode M.2.1 pc = .ok (.iload_n k, 1)) (hi : (k : Nat) = i) (hl : L[i]? = some (some (.int x))) (kk : Xw E M d cz cs (pc + 1) L (.int x :: S) h Post) : Xw E M d cz cs pc L S h Post := by
  intro p l e R s m args below meth c H locs cells slots ls Q Y
  exact lv_iload_n Y.1.1 Y.1.2.1 hd hi (Y.2.2.2.1.at hl) (kk p l e R s m args below meth c H locs cells slots ls Q Y)
theorem x_iload {E : th_E} {M : th_M} {d cz cs pc : Nat} {L : List (Option Value)} {S : List Value} {h : th_H} {Post : Option Value → th_H → Prop} {i : Nat} {x : Int32} (hd : decode M.2.1 pc = .ok (.iload i, 2)) (hl : L[i]? = some (some (.int x))) (kk : Xw E M d cz cs (pc + 2) L (.int x :: S) h Post) : Xw E M d cz cs pc L S h Post := by
  intro p l e R s m args below meth c H locs cells slots ls Q Y
  exact lv_iload Y.1.1 Y.1.2.1 hd (Y.2.2.2.1.at hl) (kk p l e R s m args below meth c H locs cells slots ls Q Y)
theorem x_aload_n {E : th_E} {M : th_M} {d cz cs pc : Nat} {L : List (Option Value)} {S : List Value} {h : th_H} {Post : Option Value → th_H → Prop} {k : Fin 4} {i : Nat} {x : Nat} (hd : decode M.2.1 pc = .ok (.aload_n k, 1)) (hi : (k : Nat) = i) (hl : L[i]? = some (some (.ref x))) (kk : Xw E M d cz cs (pc + 1) L (.ref x :: S) h Post) : Xw E M d cz cs pc L S h Post := by
  intro p l e R s m args below meth c H locs cells slots ls Q Y
  exact lv_aload_n Y.1.1 Y.1.2.1 hd hi (Y.2.2.2.1.at hl) (kk p l e R s m args below meth c H locs cells slots ls Q Y)
theorem x_aload {E : th_E} {M : th_M} {d cz cs pc : Nat} {L : List (Option Value)} {S : List Value} {h : th_H} {Post : Option Value → th_H → Prop} {i : Nat} {x : Nat} (hd : decode M.2.1 pc = .ok (.aload i, 2)) (hl : L[i]? = some (some (.ref x))) (kk : Xw E M d cz cs (pc + 2) L (.ref x :: S) h Post) : Xw E M d cz cs pc L S h Post := by
  intro p l e R s m args below meth c H locs cells slots ls Q Y
  exact lv_aload Y.1.1 Y.1.2.1 hd (Y.2.2.2.1.at hl) (kk p l e R s m args below meth c H locs cells slots ls Q Y)
theorem x_aload_nN {E : th_E} {M : th_M} {d cz cs pc : Nat} {L : List (Option Value)} {S : List Value} {h : th_H} {Post : Option Value → th_H → Prop} {k : Fin 4} {i : Nat} (hd : decode M.2.1 pc = .ok (.aload_n k, 1)) (hi : (k : Nat) = i) (hl : L[i]? = some (some (.null))) (kk : Xw E M d cz cs (pc + 1) L (.null :: S) h Post) : Xw E M d cz cs pc L S h Post := by
  intro p l e R s m args below meth c H locs cells slots ls Q Y
  exact lv_aload_nN Y.1.1 Y.1.2.1 hd hi (Y.2.2.2.1.at hl) (kk p l e R s m args below meth c H locs cells slots ls Q Y)
theorem x_aloadN {E : th_E} {M : th_M} {d cz cs pc : Nat} {L : List (Option Value)} {S : List Value} {h : th_H} {Post : Option Value → th_H → Prop} {i : Nat} (hd : decode M.2.1 pc = .ok (.aload i, 2)) (hl : L[i]? = some (some (.null))) (kk : Xw E M d cz cs (pc + 2) L (.null :: S) h Post) : Xw E M d cz cs pc L S h Post := by
  intro p l e R s m args below meth c H locs cells slots ls Q Y
  exact lv_aloadN Y.1.1 Y.1.2.1 hd (Y.2.2.2.1.at hl) (kk p l e R s m args below meth c H locs cells slots ls Q Y)
theorem x_istore_n {E : th_E} {M : th_M} {d cz cs pc : Nat} {L : List (Option Value)} {S : List Value} {h : th_H} {Post : Option Value → th_H → Prop} {k : Fin 4} {i : Nat} {x : Int32} (hd : decode M.2.1 pc = .ok (.istore_n k, 1)) (hi : (k : Nat) = i) (hlt : i < M.2.2.1) {L' : List (Option Value)} (hL : L.set i (some (.int x)) = L') (kk : Xw E M d cz cs (pc + 1) L' S h Post) : Xw E M d cz cs pc L (.int x :: S) h Post := by
  intro p l e R s m args below meth c H locs cells slots ls Q Y
  obtain ⟨hX, hP, hS, ⟨hL0, lv, hl1, hl2⟩, Y5⟩ := Y
  subst hL
  exact lv_istore_n hX.1 hX.2.1 hd hi hl1 hlt rfl (fun ls' h' => kk p l e R s m args below meth c H locs cells slots ls' Q ⟨hX, hP, hS, th_L.set hL0 hl2 rfl hlt h', Y5⟩)
theorem x_istore {E : th_E} {M : th_M} {d cz cs pc : Nat} {L : List (Option Value)} {S : List Value} {h : th_H} {Post : Option Value → th_H → Prop} {i : Nat} {x : Int32} (hd : decode M.2.1 pc = .ok (.istore i, 2)) (hlt : i < M.2.2.1) {L' : List (Option Value)} (hL : L.set i (some (.int x)) = L') (kk : Xw E M d cz cs (pc + 2) L' S h Post) : Xw E M d cz cs pc L (.int x :: S) h Post := by
  intro p l e R s m args below meth c H locs cells slots ls Q Y
  obtain ⟨hX, hP, hS, ⟨hL0, lv, hl1, hl2⟩, Y5⟩ := Y
  subst hL
  exact lv_istore hX.1 hX.2.1 hd hl1 hlt rfl (fun ls' h' => kk p l e R s m args below meth c H locs cells slots ls' Q ⟨hX, hP, hS, th_L.set hL0 hl2 rfl hlt h', Y5⟩)
theorem x_astore_n {E : th_E} {M : th_M} {d cz cs pc : Nat} {L : List (Option Value)} {S : List Value} {h : th_H} {Post : Option Value → th_H → Prop} {k : Fin 4} {i : Nat} {x : Nat} (hd : decode M.2.1 pc = .ok (.astore_n k, 1)) (hi : (k : Nat) = i) (hlt : i < M.2.2.1) {L' : List (Option Value)} (hL : L.set i (some (.ref x)) = L') (kk : Xw E M d cz cs (pc + 1) L' S h Post) : Xw E M d cz cs pc L (.ref x :: S) h Post := by
  intro p l e R s m args below meth c H locs cells slots ls Q Y
  obtain ⟨hX, hP, hS, ⟨hL0, lv, hl1, hl2⟩, Y5⟩ := Y
  subst hL
  exact lv_astore_n hX.1 hX.2.1 hd hi hl1 hlt rfl (fun ls' h' => kk p l e R s m args below meth c H locs cells slots ls' Q ⟨hX, hP, hS, th_L.set hL0 hl2 rfl hlt h', Y5⟩)
theorem x_astore {E : th_E} {M : th_M} {d cz cs pc : Nat} {L : List (Option Value)} {S : List Value} {h : th_H} {Post : Option Value → th_H → Prop} {i : Nat} {x : Nat} (hd : decode M.2.1 pc = .ok (.astore i, 2)) (hlt : i < M.2.2.1) {L' : List (Option Value)} (hL : L.set i (some (.ref x)) = L') (kk : Xw E M d cz cs (pc + 2) L' S h Post) : Xw E M d cz cs pc L (.ref x :: S) h Post := by
  intro p l e R s m args below meth c H locs cells slots ls Q Y
  obtain ⟨hX, hP, hS, ⟨hL0, lv, hl1, hl2⟩, Y5⟩ := Y
  subst hL
  exact lv_astore hX.1 hX.2.1 hd hl1 hlt rfl (fun ls' h' => kk p l e R s m args below meth c H locs cells slots ls' Q ⟨hX, hP, hS, th_L.set hL0 hl2 rfl hlt h', Y5⟩)
theorem x_astore_nN {E : th_E} {M : th_M} {d cz cs pc : Nat} {L : List (Option Value)} {S : List Value} {h : th_H} {Post : Option Value → th_H → Prop} {k : Fin 4} {i : Nat} (hd : decode M.2.1 pc = .ok (.astore_n k, 1)) (hi : (k : Nat) = i) (hlt : i < M.2.2.1) {L' : List (Option Value)} (hL : L.set i (some (.null)) = L') (kk : Xw E M d cz cs (pc + 1) L' S h Post) : Xw E M d cz cs pc L (.null :: S) h Post := by
  intro p l e R s m args below meth c H locs cells slots ls Q Y
  obtain ⟨hX, hP, hS, ⟨hL0, lv, hl1, hl2⟩, Y5⟩ := Y
  subst hL
  exact lv_astore_nN hX.1 hX.2.1 hd hi hl1 hlt rfl (fun ls' h' => kk p l e R s m args below meth c H locs cells slots ls' Q ⟨hX, hP, hS, th_L.set hL0 hl2 rfl hlt h', Y5⟩)
theorem x_astoreN {E : th_E} {M : th_M} {d cz cs pc : Nat} {L : List (Option Value)} {S : List Value} {h : th_H} {Post : Option Value → th_H → Prop} {i : Nat} (hd : decode M.2.1 pc = .ok (.astore i, 2)) (hlt : i < M.2.2.1) {L' : List (Option Value)} (hL : L.set i (some (.null)) = L') (kk : Xw E M d cz cs (pc + 2) L' S h Post) : Xw E M d cz cs pc L (.null :: S) h Post := by
  intro p l e R s m args below meth c H locs cells slots ls Q Y
  obtain ⟨hX, hP, hS, ⟨hL0, lv, hl1, hl2⟩, Y5⟩ := Y
  subst hL
  exact lv_astoreN hX.1 hX.2.1 hd hl1 hlt rfl (fun ls' h' => kk p l e R s m args below meth c H locs cells slots ls' Q ⟨hX, hP, hS, th_L.set hL0 hl2 rfl hlt h', Y5⟩)
theorem x_iinc {E : th_E} {M : th_M} {d cz cs pc : Nat} {L : List (Option Value)} {S : List Value} {h : th_H} {Post : Option Value → th_H → Prop} {i : Nat} {n : Int} {x v : Int32} (hd : decode M.2.1 pc = .ok (.iinc i n, 3)) (hl : L[i]? = some (some (.int x))) (hv : x + Int32.ofInt n = v) (hlt : i < M.2.2.1) {L' : List (Option Value)} (hL : L.set i (some (.int v)) = L') (kk : Xw E M d cz cs (pc + 3) L' S h Post) : Xw E M d cz cs pc L S h Post := by
  intro p l e R s m args below meth c H locs cells slots ls Q Y
  obtain ⟨hX, hP, hS, ⟨hL0, lv, hl1, hl2⟩, Y5⟩ := Y
  subst hL
  obtain ⟨k, hk⟩ := List.getElem?_of_mem (hl2 _ _ hl).1
  exact lv_iinc hX.1 hX.2.1 hd hl1 hk hv hlt rfl (fun ls' h' => kk p l e R s m args below meth c H locs cells slots ls' Q ⟨hX, hP, hS, th_L.set hL0 hl2 rfl hlt h', Y5⟩)
theorem x_iadd {E : th_E} {M : th_M} {d cz cs pc : Nat} {L : List (Option Value)} {S : List Value} {h : th_H} {Post : Option Value → th_H → Prop} {x y v : Int32} (hd : decode M.2.1 pc = .ok (.iadd, 1)) (hv : x + y = v) (kk : Xw E M d cz cs (pc + 1) L (.int v :: S) h Post) : Xw E M d cz cs pc L (.int y :: .int x :: S) h Post := by
  intro p l e R s m args below meth c H locs cells slots ls Q Y
  subst hv
  exact lv_iadd Y.1.1 Y.1.2.1 hd (kk p l e R s m args below meth c H locs cells slots ls Q Y)
theorem x_isub {E : th_E} {M : th_M} {d cz cs pc : Nat} {L : List (Option Value)} {S : List Value} {h : th_H} {Post : Option Value → th_H → Prop} {x y v : Int32} (hd : decode M.2.1 pc = .ok (.isub, 1)) (hv : x - y = v) (kk : Xw E M d cz cs (pc + 1) L (.int v :: S) h Post) : Xw E M d cz cs pc L (.int y :: .int x :: S) h Post := by
  intro p l e R s m args below meth c H locs cells slots ls Q Y
  subst hv
  exact lv_isub Y.1.1 Y.1.2.1 hd (kk p l e R s m args below meth c H locs cells slots ls Q Y)
theorem x_imul {E : th_E} {M : th_M} {d cz cs pc : Nat} {L : List (Option Value)} {S : List Value} {h : th_H} {Post : Option Value → th_H → Prop} {x y v : Int32} (hd : decode M.2.1 pc = .ok (.imul, 1)) (hv : x * y = v) (kk : Xw E M d cz cs (pc + 1) L (.int v :: S) h Post) : Xw E M d cz cs pc L (.int y :: .int x :: S) h Post := by
  intro p l e R s m args below meth c H locs cells slots ls Q Y
  subst hv
  exact lv_imul Y.1.1 Y.1.2.1 hd (kk p l e R s m args below meth c H locs cells slots ls Q Y)
theorem x_iand {E : th_E} {M : th_M} {d cz cs pc : Nat} {L : List (Option Value)} {S : List Value} {h : th_H} {Post : Option Value → th_H → Prop} {x y v : Int32} (hd : decode M.2.1 pc = .ok (.iand, 1)) (hv : x &&& y = v) (kk : Xw E M d cz cs (pc + 1) L (.int v :: S) h Post) : Xw E M d cz cs pc L (.int y :: .int x :: S) h Post := by
  intro p l e R s m args below meth c H locs cells slots ls Q Y
  subst hv
  exact lv_iand Y.1.1 Y.1.2.1 hd (kk p l e R s m args below meth c H locs cells slots ls Q Y)
theorem x_ior {E : th_E} {M : th_M} {d cz cs pc : Nat} {L : List (Option Value)} {S : List Value} {h : th_H} {Post : Option Value → th_H → Prop} {x y v : Int32} (hd : decode M.2.1 pc = .ok (.ior, 1)) (hv : x ||| y = v) (kk : Xw E M d cz cs (pc + 1) L (.int v :: S) h Post) : Xw E M d cz cs pc L (.int y :: .int x :: S) h Post := by
  intro p l e R s m args below meth c H locs cells slots ls Q Y
  subst hv
  exact lv_ior Y.1.1 Y.1.2.1 hd (kk p l e R s m args below meth c H locs cells slots ls Q Y)
theorem x_ixor {E : th_E} {M : th_M} {d cz cs pc : Nat} {L : List (Option Value)} {S : List Value} {h : th_H} {Post : Option Value → th_H → Prop} {x y v : Int32} (hd : decode M.2.1 pc = .ok (.ixor, 1)) (hv : x ^^^ y = v) (kk : Xw E M d cz cs (pc + 1) L (.int v :: S) h Post) : Xw E M d cz cs pc L (.int y :: .int x :: S) h Post := by
  intro p l e R s m args below meth c H locs cells slots ls Q Y
  subst hv
  exact lv_ixor Y.1.1 Y.1.2.1 hd (kk p l e R s m args below meth c H locs cells slots ls Q Y)
theorem x_ishl {E : th_E} {M : th_M} {d cz cs pc : Nat} {L : List (Option Value)} {S : List Value} {h : th_H} {Post : Option Value → th_H → Prop} {x y v : Int32} (hd : decode M.2.1 pc = .ok (.ishl, 1)) (hv : x <<< (y &&& 31) = v) (kk : Xw E M d cz cs (pc + 1) L (.int v :: S) h Post) : Xw E M d cz cs pc L (.int y :: .int x :: S) h Post := by
  intro p l e R s m args below meth c H locs cells slots ls Q Y
  subst hv
  exact lv_ishl Y.1.1 Y.1.2.1 hd (kk p l e R s m args below meth c H locs cells slots ls Q Y)
theorem x_ishr {E : th_E} {M : th_M} {d cz cs pc : Nat} {L : List (Option Value)} {S : List Value} {h : th_H} {Post : Option Value → th_H → Prop} {x y v : Int32} (hd : decode M.2.1 pc = .ok (.ishr, 1)) (hv : x >>> (y &&& 31) = v) (kk : Xw E M d cz cs (pc + 1) L (.int v :: S) h Post) : Xw E M d cz cs pc L (.int y :: .int x :: S) h Post := by
  intro p l e R s m args below meth c H locs cells slots ls Q Y
  subst hv
  exact lv_ishr Y.1.1 Y.1.2.1 hd (kk p l e R s m args below meth c H locs cells slots ls Q Y)
theorem x_iushr {E : th_E} {M : th_M} {d cz cs pc : Nat} {L : List (Option Value)} {S : List Value} {h : th_H} {Post : Option Value → th_H → Prop} {x y v : Int32} (hd : decode M.2.1 pc = .ok (.iushr, 1)) (hv : (x.toUInt32 >>> (y.toUInt32 &&& Int32.toUInt32 31)).toInt32 = v) (kk : Xw E M d cz cs (pc + 1) L (.int v :: S) h Post) : Xw E M d cz cs pc L (.int y :: .int x :: S) h Post := by
  intro p l e R s m args below meth c H locs cells slots ls Q Y
  exact lv_iushr Y.1.1 Y.1.2.1 hd hv (kk p l e R s m args below meth c H locs cells slots ls Q Y)
theorem x_idiv {E : th_E} {M : th_M} {d cz cs pc : Nat} {L : List (Option Value)} {S : List Value} {h : th_H} {Post : Option Value → th_H → Prop} {x y v : Int32} (hd : decode M.2.1 pc = .ok (.idiv, 1)) (hne : ¬ y = 0) (hv : x / y = v) (kk : Xw E M d cz cs (pc + 1) L (.int v :: S) h Post) : Xw E M d cz cs pc L (.int y :: .int x :: S) h Post := by
  intro p l e R s m args below meth c H locs cells slots ls Q Y
  subst hv
  exact lv_idiv Y.1.1 Y.1.2.1 hd hne (kk p l e R s m args below meth c H locs cells slots ls Q Y)
theorem x_irem {E : th_E} {M : th_M} {d cz cs pc : Nat} {L : List (Option Value)} {S : List Value} {h : th_H} {Post : Option Value → th_H → Prop} {x y v : Int32} (hd : decode M.2.1 pc = .ok (.irem, 1)) (hne : ¬ y = 0) (hv : x - x / y * y = v) (kk : Xw E M d cz cs (pc + 1) L (.int v :: S) h Post) : Xw E M d cz cs pc L (.int y :: .int x :: S) h Post := by
  intro p l e R s m args below meth c H locs cells slots ls Q Y
  subst hv
  exact lv_irem Y.1.1 Y.1.2.1 hd hne (kk p l e R s m args below meth c H locs cells slots ls Q Y)
theorem x_ineg {E : th_E} {M : th_M} {d cz cs pc : Nat} {L : List (Option Value)} {S : List Value} {h : th_H} {Post : Option Value → th_H → Prop} {x v : Int32} (hd : decode M.2.1 pc = .ok (.ineg, 1)) (hv : -x = v) (kk : Xw E M d cz cs (pc + 1) L (.int v :: S) h Post) : Xw E M d cz cs pc L (.int x :: S) h Post := by
  intro p l e R s m args below meth c H locs cells slots ls Q Y
  subst hv
  exact lv_ineg Y.1.1 Y.1.2.1 hd (kk p l e R s m args below meth c H locs cells slots ls Q Y)
theorem x_dup {E : th_E} {M : th_M} {d cz cs pc : Nat} {L : List (Option Value)} {S : List Value} {h : th_H} {Post : Option Value → th_H → Prop} {a : Value} (hd : decode M.2.1 pc = .ok (.dup, 1)) (ha : a.category = 1) (kk : Xw E M d cz cs (pc + 1) L (a :: a :: S) h Post) : Xw E M d cz cs pc L (a :: S) h Post := by
  intro p l e R s m args below meth c H locs cells slots ls Q Y
  exact lv_dup Y.1.1 Y.1.2.1 hd ha (kk p l e R s m args below meth c H locs cells slots ls Q Y)
theorem x_pop {E : th_E} {M : th_M} {d cz cs pc : Nat} {L : List (Option Value)} {S : List Value} {h : th_H} {Post : Option Value → th_H → Prop} {a : Value} (hd : decode M.2.1 pc = .ok (.pop, 1)) (ha : a.category = 1) (kk : Xw E M d cz cs (pc + 1) L S h Post) : Xw E M d cz cs pc L (a :: S) h Post := by
  intro p l e R s m args below meth c H locs cells slots ls Q Y
  exact lv_pop Y.1.1 Y.1.2.1 hd ha (kk p l e R s m args below meth c H locs cells slots ls Q Y)
theorem x_dup_x1 {E : th_E} {M : th_M} {d cz cs pc : Nat} {L : List (Option Value)} {S : List Value} {h : th_H} {Post : Option Value → th_H → Prop} {a b : Value} (hd : decode M.2.1 pc = .ok (.dup_x1, 1)) (ha : a.category = 1) (hb : b.category = 1) (kk : Xw E M d cz cs (pc + 1) L (a :: b :: a :: S) h Post) : Xw E M d cz cs pc L (a :: b :: S) h Post := by
  intro p l e R s m args below meth c H locs cells slots ls Q Y
  exact lv_dup_x1 Y.1.1 Y.1.2.1 hd ha hb (kk p l e R s m args below meth c H locs cells slots ls Q Y)
theorem x_dup_x2 {E : th_E} {M : th_M} {d cz cs pc : Nat} {L : List (Option Value)} {S : List Value} {h : th_H} {Post : Option Value → th_H → Prop} {a b g : Value} (hd : decode M.2.1 pc = .ok (.dup_x2, 1)) (ha : a.category = 1) (hb : b.category = 1) (hg : g.category = 1) (kk : Xw E M d cz cs (pc + 1) L (a :: b :: g :: a :: S) h Post) : Xw E M d cz cs pc L (a :: b :: g :: S) h Post := by
  intro p l e R s m args below meth c H locs cells slots ls Q Y
  exact lv_dup_x2 Y.1.1 Y.1.2.1 hd ha hb hg (kk p l e R s m args below meth c H locs cells slots ls Q Y)
theorem x_dup2 {E : th_E} {M : th_M} {d cz cs pc : Nat} {L : List (Option Value)} {S : List Value} {h : th_H} {Post : Option Value → th_H → Prop} {a b : Value} (hd : decode M.2.1 pc = .ok (.dup2, 1)) (ha : a.category = 1) (hb : b.category = 1) (kk : Xw E M d cz cs (pc + 1) L (a :: b :: a :: b :: S) h Post) : Xw E M d cz cs pc L (a :: b :: S) h Post := by
  intro p l e R s m args below meth c H locs cells slots ls Q Y
  exact lv_dup2_11 Y.1.1 Y.1.2.1 hd ha hb (kk p l e R s m args below meth c H locs cells slots ls Q Y)
theorem x_if_eq {E : th_E} {M : th_M} {d cz cs pc : Nat} {L : List (Option Value)} {S : List Value} {h : th_H} {Post : Option Value → th_H → Prop} {x : Int32} {off : Int} {tgt : Nat} (hd : decode M.2.1 pc = .ok (.ifCond .eq off, 3)) (ht : (pc : Int) + off = (tgt : Int)) (kt : x = 0 → Xw E M d cz cs tgt L S h Post) (kf : ¬ x = 0 → Xw E M d cz cs (pc + 3) L S h Post) : Xw E M d cz cs pc L (.int x :: S) h Post := by
  intro p l e R s m args below meth c H locs cells slots ls Q Y
  exact lv_if_eq Y.1.1 Y.1.2.1 hd ht (fun q => kt q p l e R s m args below meth c H locs cells slots ls Q Y) (fun q => kf q p l e R s m args below meth c H locs cells slots ls Q Y)
theorem x_icmp_eq {E : th_E} {M : th_M} {d cz cs pc : Nat} {L : List (Option Value)} {S : List Value} {h : th_H} {Post : Option Value → th_H → Prop} {x y : Int32} {off : Int} {tgt : Nat} (hd : decode M.2.1 pc = .ok (.if_icmp .eq off, 3)) (ht : (pc : Int) + off = (tgt : Int)) (kt : x = y → Xw E M d cz cs tgt L S h Post) (kf : ¬ x = y → Xw E M d cz cs (pc + 3) L S h Post) : Xw E M d cz cs pc L (.int y :: .int x :: S) h Post := by
  intro p l e R s m args below meth c H locs cells slots ls Q Y
  exact lv_icmp_eq Y.1.1 Y.1.2.1 hd ht (fun q => kt q p l e R s m args below meth c H locs cells slots ls Q Y) (fun q => kf q p l e R s m args below meth c H locs cells slots ls Q Y)
theorem x_if_ne {E : th_E} {M : th_M} {d cz cs pc : Nat} {L : List (Option Value)} {S : List Value} {h : th_H} {Post : Option Value → th_H → Prop} {x : Int32} {off : Int} {tgt : Nat} (hd : decode M.2.1 pc = .ok (.ifCond .ne off, 3)) (ht : (pc : Int) + off = (tgt : Int)) (kt : ¬ x = 0 → Xw E M d cz cs tgt L S h Post) (kf : x = 0 → Xw E M d cz cs (pc + 3) L S h Post) : Xw E M d cz cs pc L (.int x :: S) h Post := by
  intro p l e R s m args below meth c H locs cells slots ls Q Y
  exact lv_if_ne Y.1.1 Y.1.2.1 hd ht (fun q => kt q p l e R s m args below meth c H locs cells slots ls Q Y) (fun q => kf q p l e R s m args below meth c H locs cells slots ls Q Y)
theorem x_icmp_ne {E : th_E} {M : th_M} {d cz cs pc : Nat} {L : List (Option Value)} {S : List Value} {h : th_H} {Post : Option Value → th_H → Prop} {x y : Int32} {off : Int} {tgt : Nat} (hd : decode M.2.1 pc = .ok (.if_icmp .ne off, 3)) (ht : (pc : Int) + off = (tgt : Int)) (kt : ¬ x = y → Xw E M d cz cs tgt L S h Post) (kf : x = y → Xw E M d cz cs (pc + 3) L S h Post) : Xw E M d cz cs pc L (.int y :: .int x :: S) h Post := by
  intro p l e R s m args below meth c H locs cells slots ls Q Y
  exact lv_icmp_ne Y.1.1 Y.1.2.1 hd ht (fun q => kt q p l e R s m args below meth c H locs cells slots ls Q Y) (fun q => kf q p l e R s m args below meth c H locs cells slots ls Q Y)
theorem x_if_lt {E : th_E} {M : th_M} {d cz cs pc : Nat} {L : List (Option Value)} {S : List Value} {h : th_H} {Post : Option Value → th_H → Prop} {x : Int32} {off : Int} {tgt : Nat} (hd : decode M.2.1 pc = .ok (.ifCond .lt off, 3)) (ht : (pc : Int) + off = (tgt : Int)) (kt : x < 0 → Xw E M d cz cs tgt L S h Post) (kf : ¬ x < 0 → Xw E M d cz cs (pc + 3) L S h Post) : Xw E M d cz cs pc L (.int x :: S) h Post := by
  intro p l e R s m args below meth c H locs cells slots ls Q Y
  exact lv_if_lt Y.1.1 Y.1.2.1 hd ht (fun q => kt q p l e R s m args below meth c H locs cells slots ls Q Y) (fun q => kf q p l e R s m args below meth c H locs cells slots ls Q Y)
theorem x_icmp_lt {E : th_E} {M : th_M} {d cz cs pc : Nat} {L : List (Option Value)} {S : List Value} {h : th_H} {Post : Option Value → th_H → Prop} {x y : Int32} {off : Int} {tgt : Nat} (hd : decode M.2.1 pc = .ok (.if_icmp .lt off, 3)) (ht : (pc : Int) + off = (tgt : Int)) (kt : x < y → Xw E M d cz cs tgt L S h Post) (kf : ¬ x < y → Xw E M d cz cs (pc + 3) L S h Post) : Xw E M d cz cs pc L (.int y :: .int x :: S) h Post := by
  intro p l e R s m args below meth c H locs cells slots ls Q Y
  exact lv_icmp_lt Y.1.1 Y.1.2.1 hd ht (fun q => kt q p l e R s m args below meth c H locs cells slots ls Q Y) (fun q => kf q p l e R s m args below meth c H locs cells slots ls Q Y)
theorem x_if_ge {E : th_E} {M : th_M} {d cz cs pc : Nat} {L : List (Option Value)} {S : List Value} {h : th_H} {Post : Option Value → th_H → Prop} {x : Int32} {off : Int} {tgt : Nat} (hd : decode M.2.1 pc = .ok (.ifCond .ge off, 3)) (ht : (pc : Int) + off = (tgt : Int)) (kt : 0 ≤ x → Xw E M d cz cs tgt L S h Post) (kf : ¬ 0 ≤ x → Xw E M d cz cs (pc + 3) L S h Post) : Xw E M d cz cs pc L (.int x :: S) h Post := by
  intro p l e R s m args below meth c H locs cells slots ls Q Y
  exact lv_if_ge Y.1.1 Y.1.2.1 hd ht (fun q => kt q p l e R s m args below meth c H locs cells slots ls Q Y) (fun q => kf q p l e R s m args below meth c H locs cells slots ls Q Y)
theorem x_icmp_ge {E : th_E} {M : th_M} {d cz cs pc : Nat} {L : List (Option Value)} {S : List Value} {h : th_H} {Post : Option Value → th_H → Prop} {x y : Int32} {off : Int} {tgt : Nat} (hd : decode M.2.1 pc = .ok (.if_icmp .ge off, 3)) (ht : (pc : Int) + off = (tgt : Int)) (kt : y ≤ x → Xw E M d cz cs tgt L S h Post) (kf : ¬ y ≤ x → Xw E M d cz cs (pc + 3) L S h Post) : Xw E M d cz cs pc L (.int y :: .int x :: S) h Post := by
  intro p l e R s m args below meth c H locs cells slots ls Q Y
  exact lv_icmp_ge Y.1.1 Y.1.2.1 hd ht (fun q => kt q p l e R s m args below meth c H locs cells slots ls Q Y) (fun q => kf q p l e R s m args below meth c H locs cells slots ls Q Y)
theorem x_if_gt {E : th_E} {M : th_M} {d cz cs pc : Nat} {L : List (Option Value)} {S : List Value} {h : th_H} {Post : Option Value → th_H → Prop} {x : Int32} {off : Int} {tgt : Nat} (hd : decode M.2.1 pc = .ok (.ifCond .gt off, 3)) (ht : (pc : Int) + off = (tgt : Int)) (kt : 0 < x → Xw E M d cz cs tgt L S h Post) (kf : ¬ 0 < x → Xw E M d cz cs (pc + 3) L S h Post) : Xw E M d cz cs pc L (.int x :: S) h Post := by
  intro p l e R s m args below meth c H locs cells slots ls Q Y
  exact lv_if_gt Y.1.1 Y.1.2.1 hd ht (fun q => kt q p l e R s m args below meth c H locs cells slots ls Q Y) (fun q => kf q p l e R s m args below meth c H locs cells slots ls Q Y)
theorem x_icmp_gt {E : th_E} {M : th_M} {d cz cs pc : Nat} {L : List (Option Value)} {S : List Value} {h : th_H} {Post : Option Value → th_H → Prop} {x y : Int32} {off : Int} {tgt : Nat} (hd : decode M.2.1 pc = .ok (.if_icmp .gt off, 3)) (ht : (pc : Int) + off = (tgt : Int)) (kt : y < x → Xw E M d cz cs tgt L S h Post) (kf : ¬ y < x → Xw E M d cz cs (pc + 3) L S h Post) : Xw E M d cz cs pc L (.int y :: .int x :: S) h Post := by
  intro p l e R s m args below meth c H locs cells slots ls Q Y
  exact lv_icmp_gt Y.1.1 Y.1.2.1 hd ht (fun q => kt q p l e R s m args below meth c H locs cells slots ls Q Y) (fun q => kf q p l e R s m args below meth c H locs cells slots ls Q Y)
theorem x_if_le {E : th_E} {M : th_M} {d cz cs pc : Nat} {L : List (Option Value)} {S : List Value} {h : th_H} {Post : Option Value → th_H → Prop} {x : Int32} {off : Int} {tgt : Nat} (hd : decode M.2.1 pc = .ok (.ifCond .le off, 3)) (ht : (pc : Int) + off = (tgt : Int)) (kt : x ≤ 0 → Xw E M d cz cs tgt L S h Post) (kf : ¬ x ≤ 0 → Xw E M d cz cs (pc + 3) L S h Post) : Xw E M d cz cs pc L (.int x :: S) h Post := by
  intro p l e R s m args below meth c H locs cells slots ls Q Y
  exact lv_if_le Y.1.1 Y.1.2.1 hd ht (fun q => kt q p l e R s m args below meth c H locs cells slots ls Q Y) (fun q => kf q p l e R s m args below meth c H locs cells slots ls Q Y)
theorem x_icmp_le {E : th_E} {M : th_M} {d cz cs pc : Nat} {L : List (Option Value)} {S : List Value} {h : th_H} {Post : Option Value → th_H → Prop} {x y : Int32} {off : Int} {tgt : Nat} (hd : decode M.2.1 pc = .ok (.if_icmp .le off, 3)) (ht : (pc : Int) + off = (tgt : Int)) (kt : x ≤ y → Xw E M d cz cs tgt L S h Post) (kf : ¬ x ≤ y → Xw E M d cz cs (pc + 3) L S h Post) : Xw E M d cz cs pc L (.int y :: .int x :: S) h Post := by
  intro p l e R s m args below meth c H locs cells slots ls Q Y
  exact lv_icmp_le Y.1.1 Y.1.2.1 hd ht (fun q => kt q p l e R s m args below meth c H locs cells slots ls Q Y) (fun q => kf q p l e R s m args below meth c H locs cells slots ls Q Y)
theorem x_goto {E : th_E} {M : th_M} {d cz cs pc : Nat} {L : List (Option Value)} {S : List Value} {h : th_H} {Post : Option Value → th_H → Prop} {off : Int} {tgt : Nat} (hd : decode M.2.1 pc = .ok (.goto off, 3)) (ht : (pc : Int) + off = (tgt : Int)) (kk : Xw E M d cz cs tgt L S h Post) : Xw E M d cz cs pc L S h Post := by
  intro p l e R s m args below meth c H locs cells slots ls Q Y
  exact lv_goto Y.1.1 Y.1.2.1 hd ht (kk p l e R s m args below meth c H locs cells slots ls Q Y)
theorem x_ifnull {E : th_E} {M : th_M} {d cz cs pc : Nat} {L : List (Option Value)} {S : List Value} {h : th_H} {Post : Option Value → th_H → Prop} {x : Nat} {off : Int} (hd : decode M.2.1 pc = .ok (.ifnull off, 3)) (kk : Xw E M d cz cs (pc + 3) L S h Post) : Xw E M d cz cs pc L (.ref x :: S) h Post := by
  intro p l e R s m args below meth c H locs cells slots ls Q Y
  exact lv_ifnull Y.1.1 Y.1.2.1 hd (kk p l e R s m args below meth c H locs cells slots ls Q Y)
theorem x_ifnullN {E : th_E} {M : th_M} {d cz cs pc : Nat} {L : List (Option Value)} {S : List Value} {h : th_H} {Post : Option Value → th_H → Prop} {off : Int} {tgt : Nat} (hd : decode M.2.1 pc = .ok (.ifnull off, 3)) (ht : (pc : Int) + off = (tgt : Int)) (kk : Xw E M d cz cs tgt L S h Post) : Xw E M d cz cs pc L (.null :: S) h Post := by
  intro p l e R s m args below meth c H locs cells slots ls Q Y
  exact lv_ifnullN Y.1.1 Y.1.2.1 hd ht (kk p l e R s m args below meth c H locs cells slots ls Q Y)
theorem x_ifnonnull {E : th_E} {M : th_M} {d cz cs pc : Nat} {L : List (Option Value)} {S : List Value} {h : th_H} {Post : Option Value → th_H → Prop} {x : Nat} {off : Int} {tgt : Nat} (hd : decode M.2.1 pc = .ok (.ifnonnull off, 3)) (ht : (pc : Int) + off = (tgt : Int)) (kk : Xw E M d cz cs tgt L S h Post) : Xw E M d cz cs pc L (.ref x :: S) h Post := by
  intro p l e R s m args below meth c H locs cells slots ls Q Y
  exact lv_ifnonnull Y.1.1 Y.1.2.1 hd ht (kk p l e R s m args below meth c H locs cells slots ls Q Y)
theorem x_ifnonnullN {E : th_E} {M : th_M} {d cz cs pc : Nat} {L : List (Option Value)} {S : List Value} {h : th_H} {Post : Option Value → th_H → Prop} {off : Int} (hd : decode M.2.1 pc = .ok (.ifnonnull off, 3)) (kk : Xw E M d cz cs (pc + 3) L S h Post) : Xw E M d cz cs pc L (.null :: S) h Post := by
  intro p l e R s m args below meth c H locs cells slots ls Q Y
  exact lv_ifnonnullN Y.1.1 Y.1.2.1 hd (kk p l e R s m args below meth c H locs cells slots ls Q Y)
theorem x_acmp_eq {E : th_E} {M : th_M} {d cz cs pc : Nat} {L : List (Option Value)} {S : List Value} {h : th_H} {Post : Option Value → th_H → Prop} {x y : Nat} {off : Int} {tgt : Nat} (hd : decode M.2.1 pc = .ok (.if_acmp .eq off, 3)) (ht : (pc : Int) + off = (tgt : Int)) (kt : x = y → Xw E M d cz cs tgt L S h Post) (kf : ¬ x = y → Xw E M d cz cs (pc + 3) L S h Post) : Xw E M d cz cs pc L (.ref y :: .ref x :: S) h Post := by
  intro p l e R s m args below meth c H locs cells slots ls Q Y
  exact lv_acmp_eq (rx := some x) (ry := some y) Y.1.1 Y.1.2.1 hd ht (fun q => kt (by simpa using q) p l e R s m args below meth c H locs cells slots ls Q Y) (fun q => kf (by simpa using q) p l e R s m args below meth c H locs cells slots ls Q Y)
theorem x_acmp_ne {E : th_E} {M : th_M} {d cz cs pc : Nat} {L : List (Option Value)} {S : List Value} {h : th_H} {Post : Option Value → th_H → Prop} {x y : Nat} {off : Int} {tgt : Nat} (hd : decode M.2.1 pc = .ok (.if_acmp .ne off, 3)) (ht : (pc : Int) + off = (tgt : Int)) (kt : ¬ x = y → Xw E M d cz cs tgt L S h Post) (kf : x = y → Xw E M d cz cs (pc + 3) L S h Post) : Xw E M d cz cs pc L (.ref y :: .ref x :: S) h Post := by
  intro p l e R s m args below meth c H locs cells slots ls Q Y
  exact lv_acmp_ne (rx := some x) (ry := some y) Y.1.1 Y.1.2.1 hd ht (fun q => kt (by simpa using q) p l e R s m args below meth c H locs cells slots ls Q Y) (fun q => kf (by simpa using q) p l e R s m args below meth c H locs cells slots ls Q Y)
theorem x_tableOut {E : th_E} {M : th_M} {d cz cs pc : Nat} {L : List (Option Value)} {S : List Value} {h : th_H} {Post : Option Value → th_H → Prop} {df lo hi : Int} {offs : Array Int} {len tgt : Nat} {x : Int32} (hd : decode M.2.1 pc = .ok (.tableswitch df lo hi offs, len)) (hx : x.toInt < lo ∨ hi < x.toInt) (ht : (pc : Int) + df = (tgt : Int)) (kk : Xw E M d cz cs tgt L S h Post) : Xw E M d cz cs pc L (.int x :: S) h Post := by
  intro p l e R s m args below meth c H locs cells slots ls Q Y
  exact lv_tableOut Y.1.1 Y.1.2.1 hd hx ht (kk p l e R s m args below meth c H locs cells slots ls Q Y)
theorem x_tableIn {E : th_E} {M : th_M} {d cz cs pc : Nat} {L : List (Option Value)} {S : List Value} {h : th_H} {Post : Option Value → th_H → Prop} {df lo hi : Int} {offs : Array Int} {len tgt : Nat} {x : Int32} {off : Int} (hd : decode M.2.1 pc = .ok (.tableswitch df lo hi offs, len)) (h1 : ¬ x.toInt < lo) (h2 : ¬ hi < x.toInt) (ho : offs[(x.toInt - lo).toNat]? = some off) (ht : (pc : Int) + off = (tgt : Int)) (kk : Xw E M d cz cs tgt L S h Post) : Xw E M d cz cs pc L (.int x :: S) h Post := by
  intro p l e R s m args below meth c H locs cells slots ls Q Y
  exact lv_tableIn Y.1.1 Y.1.2.1 hd h1 h2 ho ht (kk p l e R s m args below meth c H locs cells slots ls Q Y)
theorem x_lookup {E : th_E} {M : th_M} {d cz cs pc : Nat} {L : List (Option Value)} {S : List Value} {h : th_H} {Post : Option Value → th_H → Prop} {df : Int} {ps : Array (Int × Int)} {len tgt : Nat} {x : Int32} {off : Int} (hd : decode M.2.1 pc = .ok (.lookupswitch df ps, len)) (hp : (ps.toList.zip (ps.toList.drop 1)).all (fun (a, next) => a.1 < next.1) = true) (ho : Op.lookupswitch.offset ps.toList df x.toInt = off) (ht : (pc : Int) + off = (tgt : Int)) (kk : Xw E M d cz cs tgt L S h Post) : Xw E M d cz cs pc L (.int x :: S) h Post := by
  intro p l e R s m args below meth c H locs cells slots ls Q Y
  exact lv_lookup Y.1.1 Y.1.2.1 hd hp ho ht (kk p l e R s m args below meth c H locs cells slots ls Q Y)
end
section
/-! Rules of Xw: fields, arrays, new cells, static fields, calls, answers. -/
def th_ok (ci : Nat) (C : String) (T : u_T) (N : Nat) (ty : Nat → FieldType) : Prop := classes[ci]? = some (C, T, N) ∧ (∀ w ∈ u_ws C T N, w ∈ th_tb) ∧ (∀ k, k < N → parseFieldDescriptor (T k).2.2.1 = some (ty k)) ∧ ∀ a, a < N → ∀ b, b < N → a ≠ b → (T a).2.1 ≠ (T b).2.1
/-- a field that the constant pool of own names at idx: class ci, place k -/
def th_lf (own : String) (idx ci k : Nat) : Prop := ∃ (C : String) (T : u_T) (N : Nat) (ty : Nat → FieldType), th_ok ci C T N ty ∧ k < N ∧ Jvm.Cond.fieldLink own idx (T k).1 (T k).2.1 (T k).2.2.1 ∈ th_tb
def th_lfN (own : String) (idx ci k : Nat) : Prop := ∃ (C : String) (T : u_T) (N : Nat) (ty : Nat → FieldType) (host : String), th_ok ci C T N ty ∧ k < N ∧ Jvm.Cond.fieldLinkNest own idx (T k).1 (T k).2.1 (T k).2.2.1 host ∈ lw_tbl
def th_fit (tc : Nat) (v : Value) : Prop := match tc with
  | 0 => ∃ x : Int32, v = .int x
  | 1 => v = .null ∨ ∃ a : Nat, v = .ref a
  | _ => v = .int 0 ∨ v = .int 1
def th_fty (tc : Nat) (ty : FieldType) : Prop := ∀ v : Value, th_fit tc v → narrow ty v = v ∧ fits ty v = true
theorem th_fty_i : th_fty 0 .int := by
  intro v h
  obtain ⟨x, rfl⟩ := h
  exact ⟨rfl, rfl⟩
theorem th_fty_o (C : String) : th_fty 1 (.object C) := by
  intro v h
  rcases h with rfl | ⟨a, rfl⟩ <;> exact ⟨rfl, rfl⟩
theorem th_fty_a (t : FieldType) : th_fty 1 (.array t) := by
  intro v h
  rcases h with rfl | ⟨a, rfl⟩ <;> exact ⟨rfl, rfl⟩
theorem th_fty_b : th_fty 2 .boolean := by
  intro v h
  rcases h with rfl | rfl <;> exact ⟨rfl, rfl⟩
/-- the same, of a field that is written: tc says what fits (0 ints, 1 references, 2 booleans) -/
def th_lp (own : String) (idx ci k tc : Nat) : Prop := ∃ (C : String) (T : u_T) (N : Nat) (ty : Nat → FieldType), th_ok ci C T N ty ∧ k < N ∧ Jvm.Cond.fieldLink own idx (T k).1 (T k).2.1 (T k).2.2.1 ∈ th_tb ∧ (T k).2.2.2 = false ∧ th_fty tc (ty k)
def th_lpN (own : String) (idx ci k tc : Nat) : Prop := ∃ (C : String) (T : u_T) (N : Nat) (ty : Nat → FieldType) (host : String), th_ok ci C T N ty ∧ k < N ∧ Jvm.Cond.fieldLinkNest own idx (T k).1 (T k).2.1 (T k).2.2.1 host ∈ lw_tbl ∧ (T k).2.2.2 = false ∧ th_fty tc (ty k)
def th_lpF (own : String) (idx ci k tc : Nat) : Prop := ∃ (C : String) (T : u_T) (N : Nat) (ty : Nat → FieldType), th_ok ci C T N ty ∧ k < N ∧ Jvm.Cond.fieldLink own idx (T k).1 (T k).2.1 (T k).2.2.1 ∈ th_tb ∧ (T k).2.2.2 = true ∧ (T k).1 = own ∧ th_fty tc (ty k)
def th_ln (own : String) (idx ci N : Nat) (dv : Nat → Value) : Prop := ∃ (C : String) (T : u_T) (ty : Nat → FieldType), th_ok ci C T N ty ∧ Jvm.Cond.classLink own idx C ∈ th_tb ∧ Jvm.Cond.instantiable C N ∈ th_tb ∧ Jvm.Cond.initialized C ∈ th_tb ∧ ∀ j, j < N → defaultValue (ty j) = dv j
section THR
variable {E : th_E} {M : th_M} {d cz cs pc : Nat} {L : List (Option Value)} {S : List Value} {h : th_H} {Post : Option Value → th_H → Prop}
theorem x_getf {idx ci k a : Nat} {v : Value} (hd : decode M.2.1 pc = .ok (.getfield idx, 3)) (lk : th_lf M.1.cls idx ci k) (ha : gk h a = some (.inl ci)) (hv : gF h ci k a = v) (kk : Xw E M d cz cs (pc + 3) L (v :: S) h Post) : Xw E M d cz cs pc L (.ref a :: S) h Post := by
  intro p l e R s m args below meth c H locs cells slots ls Q Y
  have k1 := kk p l e R s m args below meth c H locs cells slots ls Q Y
  obtain ⟨⟨hx, hb, hml, hown, hts, hr, hlk, hnm0, hC, hZ⟩, hP, hS, hL, hf, hcs, hQ⟩ := Y
  obtain ⟨C, T, N, ty, ⟨hc, hin, hty, hnm⟩, hkN, hl⟩ := lk
  obtain ⟨-, r, h1, cell, q1, q2, q3, q4⟩ := hP.2 a _ ha
  have hr : r = (C, T, N) := Option.some.inj (h1.symm.trans hc)
  subst hr
  obtain ⟨hSl, hfc, kC, hkC, hkind⟩ := hC.1.1 ci _ hc
  obtain ⟨cf, kf, fi, f, hi, hsl⟩ := hSl k hkN
  refine W.getf hx hb hown (hts _ hl) hi (u_facts hfc hkC (u_lays hts hin hkN) hi).1 q1 (by rw [q3]; exact fun h => by cases h) (v := v) ?_ rfl rfl hd k1
  rw [hsl]
  exact (q4 k hkN).trans (congrArg some hv)
theorem x_getfN {idx ci k a : Nat} {v : Value} (hd : decode M.2.1 pc = .ok (.getfield idx, 3)) (lk : th_lfN M.1.cls idx ci k) (ha : gk h a = some (.inl ci)) (hv : gF h ci k a = v) (kk : Xw E M d cz cs (pc + 3) L (v :: S) h Post) : Xw E M d cz cs pc L (.ref a :: S) h Post := by
  intro p l e R s m args below meth c H locs cells slots ls Q Y
  have k1 := kk p l e R s m args below meth c H locs cells slots ls Q Y
  obtain ⟨⟨hx, hb, hml, hown, hts, hr, hlk, hnm0, hC, hZ⟩, hP, hS, hL, hf, hcs, hQ⟩ := Y
  obtain ⟨C, T, N, ty, host, ⟨hc, hin, hty, hnm⟩, hkN, hl⟩ := lk
  obtain ⟨-, r, h1, cell, q1, q2, q3, q4⟩ := hP.2 a _ ha
  have hr : r = (C, T, N) := Option.some.inj (h1.symm.trans hc)
  subst hr
  obtain ⟨hSl, hfc, kC, hkC, hkind⟩ := hC.1.1 ci _ hc
  obtain ⟨cf, kf, fi, f, hi, hsl⟩ := hSl k hkN
  refine va_Wgetf hx hb hown (va_Nw.use rfl (hC.2.1 _ _ _ _ _ _ hl)) hi (u_facts hfc hkC (u_lays hts hin hkN) hi).1 q1 (by rw [q3]; exact fun h => by cases h) (v := v) ?_ rfl rfl hd k1
  rw [hsl]
  exact (q4 k hkN).trans (congrArg some hv)
theorem x_putf {idx ci k tc a : Nat} {v : Value} (hd : decode M.2.1 pc = .ok (.putfield idx, 3)) (lk : th_lp M.1.cls idx ci k tc) (ha : gk h a = some (.inl ci)) (hv : th_fit tc v) (kk : Xw E M d cz cs (pc + 3) L S (gpF h ci k a v) Post) : Xw E M d cz cs pc L (v :: .ref a :: S) h Post := by
  intro p l e R s m args below meth c H locs cells slots ls Q Y
  obtain ⟨hX, hP, hS, hL, hf, hcs, hQ⟩ := Y
  have hX2 := hX
  obtain ⟨hx, hb, hml, hown, hts, hr, hlk, hnm0, hC, hZ⟩ := hX
  obtain ⟨C, T, N, ty, ⟨hc, hin, hty, hnm⟩, hkN, hl, hfin, hfit⟩ := lk
  have hap := va_apart (own := M.1.cls) hts hin ty hty hnm hC.1 hc
  obtain ⟨hB, r, h1, cell, q1, q2, q3, q4⟩ := hP.2 a _ ha
  have hr : r = (C, T, N) := Option.some.inj (h1.symm.trans hc)
  subst hr
  obtain ⟨hSl, hfc, kC, hkC, hkind⟩ := hC.1.1 ci _ hc
  obtain ⟨cf, kf, fi, f, hi, hsl⟩ := hSl k hkN
  have hlay := hts _ (hin _ (u_in_lay hkN))
  unfold u_lay at hlay
  rw [if_neg (by rw [hfin]; decide)] at hlay
  have hst := (u_facts hfc hkC (u_lays hts hin hkN) hi).1
  have h6 := u_store hfc hkC hkind hlay hi (hty k hkN) (hfit v hv).1 (hfit v hv).2
  refine W.putK hx hb (f := f) ⟨hown, hts _ hl, ⟨_, _, _, hi⟩, hst⟩ (by rw [q2]; exact h6) q1 q3 (by rw [hsl]; exact k2_hasslot (q4 k hkN)) rfl rfl hd fun H' e1 e2 e3 => ?_
  rw [hsl] at e1
  exact kk p l e R s m args below meth c H' _ cells slots ls Q ⟨hX2, hP.putF ha e2 e3 _ hc ⟨_, e1, q2, q3, t_set q4 hap hkN v⟩, hS.put e2 e3 hB, hL, hf, hcs, hQ⟩
theorem x_putfN {idx ci k tc a : Nat} {v : Value} (hd : decode M.2.1 pc = .ok (.putfield idx, 3)) (lk : th_lpN M.1.cls idx ci k tc) (ha : gk h a = some (.inl ci)) (hv : th_fit tc v) (kk : Xw E M d cz cs (pc + 3) L S (gpF h ci k a v) Post) : Xw E M d cz cs pc L (v :: .ref a :: S) h Post := by
  intro p l e R s m args below meth c H locs cells slots ls Q Y
  obtain ⟨hX, hP, hS, hL, hf, hcs, hQ⟩ := Y
  have hX2 := hX
  obtain ⟨hx, hb, hml, hown, hts, hr, hlk, hnm0, hC, hZ⟩ := hX
  obtain ⟨C, T, N, ty, host, ⟨hc, hin, hty, hnm⟩, hkN, hl, hfin, hfit⟩ := lk
  have hap := va_apart (own := M.1.cls) hts hin ty hty hnm hC.1 hc
  obtain ⟨hB, r, h1, cell, q1, q2, q3, q4⟩ := hP.2 a _ ha
  have hr : r = (C, T, N) := Option.some.inj (h1.symm.trans hc)
  subst hr
  obtain ⟨hSl, hfc, kC, hkC, hkind⟩ := hC.1.1 ci _ hc
  obtain ⟨cf, kf, fi, f, hi, hsl⟩ := hSl k hkN
  have hlay := hts _ (hin _ (u_in_lay hkN))
  unfold u_lay at hlay
  rw [if_neg (by rw [hfin]; decide)] at hlay
  have hst := (u_facts hfc hkC (u_lays hts hin hkN) hi).1
  have h6 := u_store hfc hkC hkind hlay hi (hty k hkN) (hfit v hv).1 (hfit v hv).2
  refine va_WputK hx hb (f := f) hown (va_Nw.use rfl (hC.2.1 _ _ _ _ _ _ hl)) hi hst (by rw [q2]; exact h6) q1 q3 (by rw [hsl]; exact k2_hasslot (q4 k hkN)) rfl rfl hd fun H' e1 e2 e3 => ?_
  rw [hsl] at e1
  exact kk p l e R s m args below meth c H' _ cells slots ls Q ⟨hX2, hP.putF ha e2 e3 _ hc ⟨_, e1, q2, q3, t_set q4 hap hkN v⟩, hS.put e2 e3 hB, hL, hf, hcs, hQ⟩
theorem x_putfF {idx ci k tc a : Nat} {v : Value} (hd : decode M.2.1 pc = .ok (.putfield idx, 3)) (hi0 : M.1.name = "<init>") (lk : th_lpF M.1.cls idx ci k tc) (ha : gk h a = some (.inl ci)) (hv : th_fit tc v) (kk : Xw E M d cz cs (pc + 3) L S (gpF h ci k a v) Post) : Xw E M d cz cs pc L (v :: .ref a :: S) h Post := by
  intro p l e R s m args below meth c H locs cells slots ls Q Y
  obtain ⟨hX, hP, hS, hL, hf, hcs, hQ⟩ := Y
  have hX2 := hX
  obtain ⟨hx, hb, hml, hown, hts, hr, hlk, hnm0, hC, hZ⟩ := hX
  obtain ⟨C, T, N, ty, ⟨hc, hin, hty, hnm⟩, hkN, hl, hfin, hdecl, hfit⟩ := lk
  have hap := va_apart (own := M.1.cls) hts hin ty hty hnm hC.1 hc
  obtain ⟨hB, r, h1, cell, q1, q2, q3, q4⟩ := hP.2 a _ ha
  have hr : r = (C, T, N) := Option.some.inj (h1.symm.trans hc)
  subst hr
  obtain ⟨hSl, hfc, kC, hkC, hkind⟩ := hC.1.1 ci _ hc
  obtain ⟨cf, kf, fi, f, hi, hsl⟩ := hSl k hkN
  have hlay := hts _ (hin _ (u_in_lay hkN))
  unfold u_lay at hlay
  rw [if_pos hfin] at hlay
  have hst := (u_facts hfc hkC (u_lays hts hin hkN) hi).1
  have hcf : m.cls = cf := by
    obtain ⟨_, _, c', _, _, _, -, -, hf', -, -, -, hown2, -⟩ := Cond.laysFinal_spec hlay
    have e1 : c' = cf := by have := hi.symm.trans hf'; simp at this; exact this.1.symm
    rw [hdecl] at hown2
    rw [← e1]; exact Option.some.inj (hown.symm.trans hown2)
  have h6 := u_fits hfc hkC hkind (Or.inr hlay) hi (hty k hkN) (hfit v hv).1 (hfit v hv).2
  refine W.putFinK hx hb hown (hts _ hl) hi hst hcf (hnm0.trans hi0) (by rw [q2]; exact h6) q1 q3 (by rw [hsl]; exact k2_hasslot (q4 k hkN)) rfl rfl hd fun H' e1 e2 e3 => ?_
  rw [hsl] at e1
  exact kk p l e R s m args below meth c H' _ cells slots ls Q ⟨hX2, hP.putF ha e2 e3 _ hc ⟨_, e1, q2, q3, t_set q4 hap hkN v⟩, hS.put e2 e3 hB, hL, hf, hcs, hQ⟩
theorem x_new {idx ci N : Nat} {dv : Nat → Value} {cz' cs' : Nat} (hd : decode M.2.1 pc = .ok (.new idx, 3)) (lk : th_ln M.1.cls idx ci N dv) (hz1 : cz' + 1 ≤ cz) (hs1 : cs' + N ≤ cs) (kk : Xw E M d cz' cs' (pc + 3) L (.ref (gz h) :: S) (gnO h ci dv) Post) : Xw E M d cz cs pc L S h Post := by
  intro p l e R s m args below meth c H locs cells slots ls Q Y
  obtain ⟨hX, hP, hS, hL, hf, ⟨hc1, hc2⟩, hQ⟩ := Y
  have hX2 := hX
  obtain ⟨hx, hb, hml, hown, hts, hr, hlk, hnm0, hC, hZ⟩ := hX
  obtain ⟨C, T, ty, ⟨hc, hin, hty, hnm⟩, hcl, hins, hini, hdv⟩ := lk
  have hKn := hC.1.1 ci _ hc
  have hsz := hP.1.1
  refine W.newcK hx hb hown (hts _ hcl) (hts _ hins) (hts _ hini) rfl hd (by omega) (by omega) hKn.2.1 hsz fun H1 kC hkC e1 z1 o1 => ?_
  refine kk p l e R s m args below meth c H1 locs (cells + 1) (slots + N) ls Q ⟨hX2, hP.newO (by rw [z1, hsz]) (fun b hb => o1 b (by rw [← hsz]; exact hb)) _ hc ?_, ⟨Nat.le_trans hS.1 (by rw [z1, hsz]; omega), fun x h1 h2 => (o1 x (by rw [← hsz]; exact Nat.lt_of_lt_of_le h1 hS.1)).trans (hS.2.1 x h1 h2), hS.2.2⟩, hL, hf, ⟨by omega, by omega⟩, hQ⟩
  rw [hsz]
  exact (u_born ty hts hin hKn hkC e1 hty).to hdv
theorem x_newi {n : Int32} {N cz' cs' : Nat} (hd : decode M.2.1 pc = .ok (.newarray .int, 2)) (hw : Jvm.Cond.arrayClass .int ∈ th_tb) (hty : th_tys[1]? = some .int) (hn : ¬ n < 0) (hN : n.toNatClampNeg = N) (hb4 : N ≤ 100000) (hz1 : cz' + 1 ≤ cz) (hs1 : cs' + N ≤ cs) (kk : Xw E M d cz' cs' (pc + 2) L (.ref (gz h) :: S) (gnA h 1 N (.int 0)) Post) : Xw E M d cz cs pc L (.int n :: S) h Post := by
  intro p l e R s m args below meth c H locs cells slots ls Q Y
  obtain ⟨hX, hP, hS, hL, hf, ⟨hc1, hc2⟩, hQ⟩ := Y
  have hX2 := hX
  obtain ⟨hx, hb, hml, hown, hts, hr, hlk, hnm0, hC, hZ⟩ := hX
  have hsz := hP.1.1
  refine va_newaK (atype := .int) hx hb (hts _ hw) rfl hd rfl hn hN (by show N * 4 ≤ _; omega) (by omega) (by omega) hsz fun H1 cA e1 z1 o1 hAr hNm => ?_
  have hRA : s.vm.findClass ("[" ++ FieldType.int.toString) = some (E.2.2.1 1) := (hC.1.2 1 _ (th_ty_at hty)).2
  have hcA : cA = E.2.2.1 1 := Option.some.inj (hNm.symm.trans hRA)
  subst hcA
  exact kk p l e R s m args below meth c H1 locs (cells + 1) (slots + N) ls Q ⟨hX2, hP.newA (t := 0) (by rw [z1, hsz]) (fun b hb => o1 b (by rw [← hsz]; exact hb)) (by rw [hsz]; exact e1), ⟨Nat.le_trans hS.1 (by rw [z1, hsz]; omega), fun x h1 h2 => (o1 x (by rw [← hsz]; exact Nat.lt_of_lt_of_le h1 hS.1)).trans (hS.2.1 x h1 h2), hS.2.2⟩, hL, hf, ⟨by omega, by omega⟩, hQ⟩
theorem x_anew {idx t : Nat} {C : String} {n : Int32} {N cz' cs' : Nat} (hd : decode M.2.1 pc = .ok (.anewarray idx, 3)) (hcl : Jvm.Cond.classLink M.1.cls idx C ∈ th_tb) (hao : Jvm.Cond.arrayOver (.object C) ∈ lw_tbl) (hty : th_tys[t + 1]? = some (.object C)) (hn : ¬ n < 0) (hN : n.toNatClampNeg = N) (hb4 : N ≤ 100000) (hz1 : cz' + 1 ≤ cz) (hs1 : cs' + N ≤ cs) (kk : Xw E M d cz' cs' (pc + 3) L (.ref (gz h) :: S) (gnA h (t + 1) N .null) Post) : Xw E M d cz cs pc L (.int n :: S) h Post := by
  intro p l e R s m args below meth c H locs cells slots ls Q Y
  obtain ⟨hX, hP, hS, hL, hf, ⟨hc1, hc2⟩, hQ⟩ := Y
  have hX2 := hX
  obtain ⟨hx, hb, hml, hown, hts, hr, hlk, hnm0, hC, hZ⟩ := hX
  have hsz := hP.1.1
  subst hN
  refine W.anew hx hb hown (hts _ hcl) (hC.2.2.2 C hao).use rfl hd rfl hn (by omega) (by omega) (by omega) fun cA kA comp g1 g2 g3 g4 => ?_
  obtain ⟨kA', comp', r1, r2, r3, r4⟩ := (hC.1.2 (t + 1) _ (th_ty_at hty)).2
  have hcA : cA = E.2.2.1 (t + 1) := Option.some.inj (g1.symm.trans r4)
  subst hcA
  rw [arrV_new]
  have o1 : ∀ b : Nat, b < H.size → (H.push (arrV (E.2.2.1 (t + 1)) n.toNatClampNeg (fun _ => .null)))[b]? = H[b]? := fun b hb => by rw [Array.getElem?_push, if_neg (Nat.ne_of_lt hb)]
  rw [show H.size = gz h from hsz]
  exact kk p l e R s m args below meth c _ locs (cells + 1) (slots + n.toNatClampNeg) ls Q ⟨hX2, hP.newA (by simp) o1 (by simp), ⟨Nat.le_trans hS.1 (by simp), fun x h1 h2 => (o1 x (Nat.lt_of_lt_of_le h1 hS.1)).trans (hS.2.1 x h1 h2), hS.2.2⟩, hL, hf, ⟨by omega, by omega⟩, hQ⟩
theorem x_iald {t n a : Nat} {i : Int32} {v : Value} (hd : decode M.2.1 pc = .ok (.iaload, 1)) (ha : gk h a = some (.inr (t, n))) (hty : th_tys[t]? = some .int) (hin : vp_in i n) (hv : gA h t a i.toNatClampNeg = v) (kk : Xw E M d cz cs (pc + 1) L (v :: S) h Post) : Xw E M d cz cs pc L (.int i :: .ref a :: S) h Post := by
  intro p l e R s m args below meth c H locs cells slots ls Q Y
  have k1 := kk p l e R s m args below meth c H locs cells slots ls Q Y
  obtain ⟨⟨hx, hb, hml, hown, hts, hr, hlk, hnm0, hC, hZ⟩, hP, hS, hL, hf, hcs, hQ⟩ := Y
  have hlt : i.toNatClampNeg < n := Nat.not_le.mp fun q => hin (Or.inr q)
  have hq := hP.2 a _ ha
  match t, hq, hty, hv with
  | 0, ⟨scr, q1, q2, q3, q4, q5⟩, _, hv => exact W.iald (v := v) hx hb q1 q2 q3 (by rw [q4]; exact hin) ((q5 _ hlt).trans (congrArg some hv)) rfl rfl hd k1
  | t + 1, ⟨_, q1⟩, hty, hv => exact W.iald (v := v) hx hb q1 ((hC.1.2 (t + 1) _ (th_ty_at hty)).1 n _) (fun q => by cases q) (by rw [arrV_size]; exact hin) ((arrV_read _ _ hlt).trans (congrArg some hv)) rfl rfl hd k1
theorem x_aald {t n a : Nat} {C : String} {i : Int32} {v : Value} (hd : decode M.2.1 pc = .ok (.aaload, 1)) (ha : gk h a = some (.inr (t + 1, n))) (hty : th_tys[t + 1]? = some (.object C)) (hin : vp_in i n) (hv : gA h (t + 1) a i.toNatClampNeg = v) (kk : Xw E M d cz cs (pc + 1) L (v :: S) h Post) : Xw E M d cz cs pc L (.int i :: .ref a :: S) h Post := by
  intro p l e R s m args below meth c H locs cells slots ls Q Y
  have k1 := kk p l e R s m args below meth c H locs cells slots ls Q Y
  obtain ⟨⟨hx, hb, hml, hown, hts, hr, hlk, hnm0, hC, hZ⟩, hP, hS, hL, hf, hcs, hQ⟩ := Y
  have hlt : i.toNatClampNeg < n := Nat.not_le.mp fun q => hin (Or.inr q)
  obtain ⟨-, q1⟩ := hP.2 a _ ha
  exact W.aald (v := v) (ty := .object C) hx hb q1 ((hC.1.2 (t + 1) _ (th_ty_at hty)).1 n _) rfl (fun q => by cases q) (by rw [arrV_size]; exact hin) ((arrV_read _ _ hlt).trans (congrArg some hv)) rfl rfl hd k1
theorem x_alen {t n a : Nat} {ty : FieldType} {v : Int32} (hd : decode M.2.1 pc = .ok (.arraylength, 1)) (ha : gk h a = some (.inr (t, n))) (hty : th_tys[t]? = some ty) (hv : Int32.ofNat n = v) (kk : Xw E M d cz cs (pc + 1) L (.int v :: S) h Post) : Xw E M d cz cs pc L (.ref a :: S) h Post := by
  intro p l e R s m args below meth c H locs cells slots ls Q Y
  have k1 := kk p l e R s m args below meth c H locs cells slots ls Q Y
  obtain ⟨⟨hx, hb, hml, hown, hts, hr, hlk, hnm0, hC, hZ⟩, hP, hS, hL, hf, hcs, hQ⟩ := Y
  subst hv
  have hq := hP.2 a _ ha
  match t, hq, hty with
  | 0, ⟨scr, q1, q2, q3, q4, q5⟩, _ => exact W.alen (n := Int32.ofNat n) hx hb q1 q2 (by rw [q4] <;> rfl) rfl rfl hd k1
  | t + 1, ⟨_, q1⟩, hty => exact W.alen (n := Int32.ofNat n) hx hb q1 ((hC.1.2 (t + 1) _ (th_ty_at hty)).1 n _) (by rw [arrV_size] <;> rfl) rfl rfl hd k1
theorem x_iast {t n a : Nat} {i x : Int32} (hd : decode M.2.1 pc = .ok (.iastore, 1)) (ha : gk h a = some (.inr (t + 1, n))) (hty : th_tys[t + 1]? = some .int) (hin : vp_in i n) (kk : Xw E M d cz cs (pc + 1) L S (gpA h (t + 1) a i.toNatClampNeg (.int x)) Post) : Xw E M d cz cs pc L (.int x :: .int i :: .ref a :: S) h Post := by
  intro p l e R s m args below meth c H locs cells slots ls Q Y
  obtain ⟨hX, hP, hS, hL, hf, hcs, hQ⟩ := Y
  have hX2 := hX
  obtain ⟨hx, hb, hml, hown, hts, hr, hlk, hnm0, hC, hZ⟩ := hX
  obtain ⟨hB, q1⟩ := hP.2 a _ ha
  refine W.iast hx hb q1 ((hC.1.2 (t + 1) _ (th_ty_at hty)).1 n _) (fun q => by cases q) (by rw [arrV_size]; exact hin) rfl rfl hd fun H1 e1 z oq => ?_
  exact kk p l e R s m args below meth c H1 _ cells slots ls Q ⟨hX2, hP.putA ha z oq e1, hS.put z oq hB, hL, hf, hcs, hQ⟩
theorem x_aast {t n a b ci N : Nat} {C : String} {T : u_T} {i : Int32} (hd : decode M.2.1 pc = .ok (.aastore, 1)) (ha : gk h a = some (.inr (t + 1, n))) (hty : th_tys[t + 1]? = some (.object C)) (hbk : gk h b = some (.inl ci)) (hcl : classes[ci]? = some (C, T, N)) (hin : vp_in i n) (kk : Xw E M d cz cs (pc + 1) L S (gpA h (t + 1) a i.toNatClampNeg (.ref b)) Post) : Xw E M d cz cs pc L (.ref b :: .int i :: .ref a :: S) h Post := by
  intro p l e R s m args below meth c H locs cells slots ls Q Y
  obtain ⟨hX, hP, hS, hL, hf, hcs, hQ⟩ := Y
  have hX2 := hX
  obtain ⟨hx, hb, hml, hown, hts, hr, hlk, hnm0, hC, hZ⟩ := hX
  obtain ⟨hB, q1⟩ := hP.2 a _ ha
  have hlt : i.toNatClampNeg < n := Nat.not_le.mp fun q => hin (Or.inr q)
  have h0 : ¬ i < 0 := fun q => hin (Or.inl q)
  obtain ⟨-, r', hr', cellV, g1, g2, g3, -⟩ := hP.2 b _ hbk
  have hcls := (hC.1.1 ci _ hcl).2
  obtain ⟨kA, comp, k1, k2, k3, -⟩ := (hC.1.2 (t + 1) _ (th_ty_at hty)).2
  have hcomp : comp = E.1 ci := Option.some.inj (k3.symm.trans hcls.1)
  subst hcomp
  have hcls2 := hcls
  obtain ⟨-, kC, hkC, -⟩ := hcls
  refine W.aast hx hb q1 (fun q h => by cases h) (fun h => by cases h) k1 k2 rfl hkC ⟨h0, by rw [arrV_size]; exact hlt⟩ g1 (fun q h => by rw [g3] at h; cases h) (by rw [g2]; exact hkC) (by rw [g2]; exact va_assign hcls2) rfl rfl hd fun H1 e1 z oq => ?_
  exact kk p l e R s m args below meth c H1 _ cells slots ls Q ⟨hX2, hP.putA ha z oq e1, hS.put z oq hB, hL, hf, hcs, hQ⟩
theorem x_gets {idx k : Nat} {C n ds : String} (hd : decode M.2.1 pc = .ok (.getstatic idx, 3)) (hq : th_sts[k]? = some (C, n, ds)) (lk : Jvm.Cond.fieldLink M.1.cls idx C n ds ∈ th_tb) (kk : Xw E M d cz cs (pc + 3) L (E.2.2.2.2 k :: S) h Post) : Xw E M d cz cs pc L S h Post := by
  intro p l e R s m args below meth c H locs cells slots ls Q Y
  have k1 := kk p l e R s m args below meth c H locs cells slots ls Q Y
  obtain ⟨⟨hx, hb, hml, hown, hts, hr, hlk, hnm0, hC, hZ⟩, hP, hS, hL, hf, hcs, hQ⟩ := Y
  exact va_gets hx hb (hZ k _ hq) hS hown (hts _ lk) (fun _ q => q) hd k1
theorem x_getsN {idx k : Nat} {C n ds host : String} (hd : decode M.2.1 pc = .ok (.getstatic idx, 3)) (hq : th_sts[k]? = some (C, n, ds)) (lk : Jvm.Cond.fieldLinkNest M.1.cls idx C n ds host ∈ lw_tbl) (kk : Xw E M d cz cs (pc + 3) L (E.2.2.2.2 k :: S) h Post) : Xw E M d cz cs pc L S h Post := by
  intro p l e R s m args below meth c H locs cells slots ls Q Y
  have k1 := kk p l e R s m args below meth c H locs cells slots ls Q Y
  obtain ⟨⟨hx, hb, hml, hown, hts, hr, hlk, hnm0, hC, hZ⟩, hP, hS, hL, hf, hcs, hQ⟩ := Y
  exact va_getsN hx hb (hZ k _ hq) hS hown (va_Nw.use rfl (hC.2.1 _ _ _ _ _ _ lk)) (fun _ q => q) hd k1
theorem x_objinit {idx a : Nat} (hd : decode M.2.1 pc = .ok (.invokespecial idx, 3)) (l1 : Jvm.Cond.methodLink M.1.cls idx Lib.objectInit ∈ th_tb) (l2 : Jvm.Cond.instanceMethod Lib.objectInit ∈ th_tb) (l3 : Jvm.Cond.code Lib.objectInit ⟨#[0xb1]⟩ 1 none ∈ th_tb) (hd1 : 1 ≤ d) (hs8 : (S.map fun v => v.category).sum ≤ 8) (kk : Xw E M d cz cs (pc + 3) L S h Post) : Xw E M d cz cs pc L (.ref a :: S) h Post := by
  intro p l e R s m args below meth c H locs cells slots ls Q Y
  have k1 := kk p l e R s m args below meth c H locs cells slots ls Q Y
  obtain ⟨⟨hx, hb, hml, hown, hts, hr, hlk, hnm0, hC, hZ⟩, hP, hS, hL, ⟨hf1, hf2⟩, hcs, hQ⟩ := Y
  obtain ⟨-, lv, hl1, -⟩ := hL
  exact W.objInit hx hb hown (hts _ l1) (hts _ l2) (hts _ l3) rfl (by rw [hml]; exact hl1.1) rfl hd (by omega) (by show 2 * 0 + _ + 12 ≤ _; omega) k1
theorem x_ret (hp : Post none h) (hM : M.2.2.2 = none) (hd : decode M.2.1 pc = .ok (.return_, 1)) : Xw E M d cz cs pc L [] h Post := by
  intro p l e R s m args below meth c H locs cells slots ls Q Y
  exact Y.2.2.2.2.2.2 none h pc ls H locs cells slots hp (Or.inl ⟨rfl, hM, hd⟩) Y.2.1 Y.2.2.1 (by have := Y.2.2.2.2.2.1.1; omega) (by have := Y.2.2.2.2.2.1.2; omega)
theorem x_iret {x : Int32} {ty : FieldType} (hd : decode M.2.1 pc = .ok (.ireturn, 1)) (hM : M.2.2.2 = some ty) (hn : narrow ty (.int x) = .int x) (hp : Post (some (.int x)) h) : Xw E M d cz cs pc L [.int x] h Post := by
  intro p l e R s m args below meth c H locs cells slots ls Q Y
  exact Y.2.2.2.2.2.2 (some (.int x)) h pc ls H locs cells slots hp (Or.inr (Or.inl ⟨x, ty, rfl, hM, hn, hd⟩)) Y.2.1 Y.2.2.1 (by have := Y.2.2.2.2.2.1.1; omega) (by have := Y.2.2.2.2.2.1.2; omega)
theorem x_aret {w : Value} {ty : FieldType} (hd : decode M.2.1 pc = .ok (.areturn, 1)) (hM : M.2.2.2 = some ty) (hty : (∃ n, ty = .object n) ∨ ∃ t, ty = .array t) (hw : w = .null ∨ ∃ a, w = .ref a) (hp : Post (some w) h) : Xw E M d cz cs pc L [w] h Post := by
  intro p l e R s m args below meth c H locs cells slots ls Q Y
  exact Y.2.2.2.2.2.2 (some w) h pc ls H locs cells slots hp (Or.inr (Or.inr ⟨w, ty, rfl, hM, hty, hw, hd⟩)) Y.2.1 Y.2.2.1 (by have := Y.2.2.2.2.2.1.1; omega) (by have := Y.2.2.2.2.2.1.2; omega)
/-- a weaker goal behind the end -/
theorem Xw.post {Post' : Option Value → th_H → Prop} {pc : Nat} (w : Xw E M d cz cs pc L S h Post) (hp : ∀ v h', Post v h' → Post' v h') : Xw E M d cz cs pc L S h Post' := by
  intro p l e R s m args below meth c H locs cells slots ls Q Y
  exact w p l e R s m args below meth c H locs cells slots ls Q ⟨Y.1, Y.2.1, Y.2.2.1, Y.2.2.2.1, Y.2.2.2.2.1, Y.2.2.2.2.2.1, fun v h' pc' ls' H' locs' cells' slots' q => Y.2.2.2.2.2.2 v h' pc' ls' H' locs' cells' slots' (hp v h' q)⟩
/-- more room -/
theorem Xw.room {d' cz' cs' pc : Nat} (w : Xw E M d' cz' cs' pc L S h Post) (h1 : d' ≤ d) (h2 : cz' ≤ cz) (h3 : cs' ≤ cs) : Xw E M d cz cs pc L S h Post := by
  intro p l e R s m args below meth c H locs cells slots ls Q Y
  obtain ⟨hX, hP, hS, hL, ⟨hf1, hf2⟩, ⟨hc1, hc2⟩, hQ⟩ := Y
  exact w p l e R s m args below meth c H locs cells slots ls Q ⟨hX, hP, hS, hL, ⟨by omega, by omega⟩, ⟨by omega, by omega⟩, hQ⟩
end THR
theorem th_blind (E : th_E) (h : th_H) (as : List Value) : FrameBlind (va_Pc as (th_S E h)) := by
  intro a U g mk q
  obtain ⟨q0, q1, q2, q3⟩ := q
  exact ⟨q0, th_P.moved (u := U) (U := U.calling g mk a) (Vm.Alike.refl U.vm) q1, th_C.same (s := U) (U := U.calling g mk a) rfl q2, fun k z hk => va_Z.moved (u := U) (U := U.calling g mk a) (Vm.Alike.refl U.vm) (q3 k z hk)⟩
theorem th_pre {E : th_E} {h : th_H} {s : State} {H : Heap} {locs : List Loc} (hP : th_P E s h H) (hC : th_C E s) (hZ : th_Z E s s.heap) (hS : va_S (th_A E) s.heap H locs) (as : List Value) : ∀ U : State, U.heap = H → s.WarmedH U.vm → va_Pc as (th_S E h) as.toArray U :=
  fun U hU hW => ⟨rfl, by rw [hU]; exact hP.moved hW.alike, hC.warm hW, fun k q hk => ((hZ k q hk).moved hW.alike).kept (fun a h1 h2 => by rw [hU]; exact hS.2.1 a h1 h2)⟩
section THC
variable {p : Program} {l : Launch} {e : Env} {R : Room} {s : State} {m : MethodId} {args : Array Value} {below : List Frame} {meth : Method} {c : Code} {H : Heap} {locs : List Loc} {cells slots : Nat} {Q : State → Prop}
theorem th_call {E : th_E} {Post' : Option Value → th_H → Prop} {a : Array Value} {mc ms pc : Nat} {ls : Array Slot} {st0 rest : List Value} (hr : va_Run p l e R s m args below meth c H locs cells slots mc ms (F0 m pc ls st0) rest (th_Qc E Post' a) (th_A E)) (hS : va_S (th_A E) s.heap H locs)
    (kk : ∀ (v : Option Value) (h' : th_H) (H1 : Heap) (locs1 : List Loc), Post' v h' → th_P E s h' H1 → va_S (th_A E) s.heap H1 locs1 → W p l e R s m args below meth c H1 locs1 (cells + mc) (slots + ms) Q (F0 m (pc + 3) ls (v.toList ++ rest))) : W p l e R s m args below meth c H locs cells slots Q (F0 m pc ls st0) := by
  intro T hT X
  obtain ⟨v, st₀, t, T', L, h0, X', hL, e1, e2, ⟨v2, h', hv, hp, hxs, hz, hk⟩, st⟩ := hr T hT X
  cases hv
  rw [h0] at hz hk
  have hal : s.vm.Alike t.vm := by rw [← e2]; exact X'.warmed.alike
  obtain ⟨t2, a1, b1⟩ := kk v h' T'.heap (locs ++ L) hp (by rw [e1]; exact hxs.1.moved hal.symm)
    ⟨Nat.le_trans hS.1 (by rw [e1]; exact hz), fun q h1 h2 => by rw [e1, hk q (Nat.lt_of_lt_of_le h1 hS.1) h2]; exact hS.2.1 q h1 h2, fun q hq => by
      rcases List.mem_append.mp hq with h | h
      · exact hS.2.2 q h
      · exact hL q h⟩ T' rfl X'
  exact ⟨t2, st t2 a1, b1⟩
end THC
/-- a method that the constant pool of own names at idx -/
def th_md (M2 : th_M) (n : Nat) : Prop := (M2.1.cls ≠ "java/lang/invoke/MethodHandle" ∧ M2.1.cls ≠ "java/lang/invoke/VarHandle" ∧ (parseMethodDescriptor M2.1.desc).map (fun d => d.parameters.length) = some n) ∧ M2.2.2.1 ≤ 45 ∧ Jvm.Cond.initialized M2.1.cls ∈ th_tb ∧ Jvm.Cond.code M2.1 M2.2.1 M2.2.2.1 M2.2.2.2 ∈ th_tb
def th_mv (own : String) (idx : Nat) (M2 : th_M) (n : Nat) : Prop := th_md M2 n ∧ Jvm.Cond.methodLink own idx M2.1 ∈ th_tb ∧ Jvm.Cond.instanceMethod M2.1 ∈ th_tb ∧ Jvm.Cond.selects M2.1.cls M2.1 M2.1 ∈ th_tb
def th_ms (own : String) (idx : Nat) (M2 : th_M) (n : Nat) : Prop := th_md M2 n ∧ Jvm.Cond.methodLink own idx M2.1 ∈ th_tb ∧ Jvm.Cond.static M2.1 ∈ th_tb
def th_mi (own : String) (idx : Nat) (M2 : th_M) (n : Nat) : Prop := th_md M2 n ∧ Jvm.Cond.methodLink own idx M2.1 ∈ th_tb ∧ Jvm.Cond.instanceMethod M2.1 ∈ th_tb ∧ M2.1.name = "<init>" ∧ M2.2.2.2 = none
def th_mvN (own : String) (idx : Nat) (M2 : th_M) (n : Nat) : Prop := th_md M2 n ∧ (∃ host, Jvm.Cond.methodLinkNest own idx M2.1 host ∈ lw_tbl) ∧ Jvm.Cond.instanceMethod M2.1 ∈ th_tb ∧ Jvm.Cond.selects M2.1.cls M2.1 M2.1 ∈ th_tb
def th_msN (own : String) (idx : Nat) (M2 : th_M) (n : Nat) : Prop := th_md M2 n ∧ (∃ host, Jvm.Cond.methodLinkNest own idx M2.1 host ∈ lw_tbl) ∧ Jvm.Cond.static M2.1 ∈ th_tb
def th_miN (own : String) (idx : Nat) (M2 : th_M) (n : Nat) : Prop := th_md M2 n ∧ (∃ host, Jvm.Cond.methodLinkNest own idx M2.1 host ∈ lw_tbl) ∧ Jvm.Cond.instanceMethod M2.1 ∈ th_tb ∧ M2.1.name = "<init>" ∧ M2.2.2.2 = none
theorem th_md.good {M2 : th_M} {n : Nat} (h : th_md M2 n) : GoodIn th_tb (th_ws M2) := by
  intro w hw
  rcases List.mem_cons.mp hw with rfl | hw
  · exact ⟨h.2.2.2, th_tb_good h.2.2.2⟩
  · exact ⟨hw, th_tb_good hw⟩
theorem th_md.callB {M2 : th_M} {n d d2 cz cs : Nat} {R : Room} {s : State} {args : Array Value} {own : String} {idx : Nat} (h : th_md M2 n) (hts : ∀ w ∈ th_tb, w.before args s = true) (hl : Jvm.Cond.methodLink own idx M2.1 ∈ th_tb) (hf : d ≤ R.frames ∧ 64 * d ≤ R.locals) (hd2 : d2 + 1 ≤ d) :
    CallB R s args own idx M2.1 M2.2.1 M2.2.2.1 M2.2.2.2 (th_ws M2) { frames := d2, cells := cz, slots := cs, locals := 64 * d2 } cz cs n :=
  callB_of n hts h.good rfl rfl rfl (hts _ h.2.2.1) (hts _ hl) h.1 ⟨by show d2 + 1 ≤ _; omega, by have := h.2.1; show 8 + (M2.2.2.1 + 11) + 64 * d2 ≤ _; omega⟩
theorem th_md.callN {M2 : th_M} {n d d2 cz cs : Nat} {R : Room} {s : State} {args : Array Value} {own host : String} {idx : Nat} (h : th_md M2 n) (hts : ∀ w ∈ th_tb, w.before args s = true) (hl : va_Nw (.methodLinkNest own idx M2.1 host) s) (hf : d ≤ R.frames ∧ 64 * d ≤ R.locals) (hd2 : d2 + 1 ≤ d) :
    va_CN R s args own idx M2.1 host M2.2.1 M2.2.2.1 M2.2.2.2 (th_ws M2) { frames := d2, cells := cz, slots := cs, locals := 64 * d2 } cz cs n :=
  va_cnB n hts h.good rfl rfl rfl hl (hts _ h.2.2.1) h.1 ⟨by show d2 + 1 ≤ _; omega, by have := h.2.1; show 8 + (M2.2.2.1 + 11) + 64 * d2 ≤ _; omega⟩
section THI
variable {E : th_E} {M M2 : th_M} {d d2 cz cs cz' cs' cz2 cs2 pc idx n : Nat} {L : List (Option Value)} {S st as : List Value} {h : th_H} {Post Post' : Option Value → th_H → Prop}
theorem x_invv {b ci N : Nat} {T : u_T} (hd : decode M.2.1 pc = .ok (.invokevirtual idx, 3)) (lk : th_mv M.1.cls idx M2 n) (hc : Xc E M2 d2 cz2 cs2 (.ref b :: as) h Post') (hbk : gk h b = some (.inl ci)) (hcl : classes[ci]? = some (M2.1.cls, T, N)) (hst : st = as.reverse ++ .ref b :: S) (hn : as.length = n) (hs8 : (S.map fun v => v.category).sum ≤ 8) (hd2 : d2 + 1 ≤ d) (hz1 : cz' + cz2 ≤ cz) (hs1 : cs' + cs2 ≤ cs)
    (kk : ∀ (v : Option Value) (h' : th_H), Post' v h' → Xw E M d cz' cs' (pc + 3) L (v.toList ++ S) h' Post) : Xw E M d cz cs pc L st h Post := by
  intro p l e R s m args below meth c H locs cells slots ls Q Y
  obtain ⟨hX, hP, hS, hL, hf, ⟨hc1, hc2⟩, hQ⟩ := Y
  have hX2 := hX
  obtain ⟨hx, hb, hml, hown, hts, hr, hlk, hnm0, hC, hZ⟩ := hX
  obtain ⟨hmd, l1, l2, l3⟩ := lk
  obtain ⟨-, r', hr', cellV, g1, g2, g3, -⟩ := hP.2 b _ hbk
  have hcls := (hC.1.1 ci _ hcl).2.1
  have hl2 := hL
  obtain ⟨-, lv, hl1, -⟩ := hl2
  refine th_call (va_runV (b := b) (As := as) (rest := S) ⟨hx, hb, hml, hown, hts⟩ (hc l) ⟨hmd.callB hts l1 hf hd2, hts _ l2, hts _ l3⟩ ⟨th_blind E h _, ⟨cellV, g1, by rw [g3]; rfl, by rw [g2]; exact hcls⟩, th_pre hP hC hZ hS _⟩ rfl hn hl1.1 hst (by show 2 * 0 + _ ≤ 8; omega) hd ⟨by omega, by omega⟩) hS (fun v h' H1 locs1 hp hP1 hS1 => ?_)
  exact kk v h' hp p l e R s m args below meth c H1 locs1 _ _ ls Q ⟨hX2, hP1, hS1, hL, hf, ⟨by omega, by omega⟩, hQ⟩
theorem x_invvN {b ci N : Nat} {T : u_T} (hd : decode M.2.1 pc = .ok (.invokevirtual idx, 3)) (lk : th_mvN M.1.cls idx M2 n) (hc : Xc E M2 d2 cz2 cs2 (.ref b :: as) h Post') (hbk : gk h b = some (.inl ci)) (hcl : classes[ci]? = some (M2.1.cls, T, N)) (hst : st = as.reverse ++ .ref b :: S) (hn : as.length = n) (hs8 : (S.map fun v => v.category).sum ≤ 8) (hd2 : d2 + 1 ≤ d) (hz1 : cz' + cz2 ≤ cz) (hs1 : cs' + cs2 ≤ cs)
    (kk : ∀ (v : Option Value) (h' : th_H), Post' v h' → Xw E M d cz' cs' (pc + 3) L (v.toList ++ S) h' Post) : Xw E M d cz cs pc L st h Post := by
  intro p l e R s m args below meth c H locs cells slots ls Q Y
  obtain ⟨hX, hP, hS, hL, hf, ⟨hc1, hc2⟩, hQ⟩ := Y
  have hX2 := hX
  obtain ⟨hx, hb, hml, hown, hts, hr, hlk, hnm0, hC, hZ⟩ := hX
  obtain ⟨hmd, ⟨host, l1⟩, l2, l3⟩ := lk
  obtain ⟨-, r', hr', cellV, g1, g2, g3, -⟩ := hP.2 b _ hbk
  have hcls := (hC.1.1 ci _ hcl).2.1
  have hl2 := hL
  obtain ⟨-, lv, hl1, -⟩ := hl2
  refine th_call (va_runVN (b := b) (As := as) (rest := S) ⟨hx, hb, hml, hown, hts⟩ (hc l) ⟨hmd.callN hts (hC.2.2.1 _ _ _ _ l1) hf hd2, hts _ l2, hts _ l3⟩ ⟨th_blind E h _, ⟨cellV, g1, by rw [g3]; rfl, by rw [g2]; exact hcls⟩, th_pre hP hC hZ hS _⟩ rfl hn hl1.1 hst (by show 2 * 0 + _ ≤ 8; omega) hd ⟨by omega, by omega⟩) hS (fun v h' H1 locs1 hp hP1 hS1 => ?_)
  exact kk v h' hp p l e R s m args below meth c H1 locs1 _ _ ls Q ⟨hX2, hP1, hS1, hL, hf, ⟨by omega, by omega⟩, hQ⟩
theorem x_invs (hd : decode M.2.1 pc = .ok (.invokestatic idx, 3)) (lk : th_ms M.1.cls idx M2 n) (hc : Xc E M2 d2 cz2 cs2 as h Post') (hst : st = as.reverse ++ S) (hn : as.length = n) (hs8 : (S.map fun v => v.category).sum ≤ 8) (hd2 : d2 + 1 ≤ d) (hz1 : cz' + cz2 ≤ cz) (hs1 : cs' + cs2 ≤ cs)
    (kk : ∀ (v : Option Value) (h' : th_H), Post' v h' → Xw E M d cz' cs' (pc + 3) L (v.toList ++ S) h' Post) : Xw E M d cz cs pc L st h Post := by
  intro p l e R s m args below meth c H locs cells slots ls Q Y
  obtain ⟨hX, hP, hS, hL, hf, ⟨hc1, hc2⟩, hQ⟩ := Y
  have hX2 := hX
  obtain ⟨hx, hb, hml, hown, hts, hr, hlk, hnm0, hC, hZ⟩ := hX
  obtain ⟨hmd, l1, l2⟩ := lk
  have hl2 := hL
  obtain ⟨-, lv, hl1, -⟩ := hl2
  refine th_call (va_runS (As := as) (rest := S) ⟨hx, hb, hml, hown, hts⟩ (hc l) ⟨hmd.callB hts l1 hf hd2, hts _ l2⟩ ⟨th_blind E h _, th_pre hP hC hZ hS _⟩ rfl hn hl1.1 hst (by show 2 * 0 + _ ≤ 8; omega) hd ⟨by omega, by omega⟩) hS (fun v h' H1 locs1 hp hP1 hS1 => ?_)
  exact kk v h' hp p l e R s m args below meth c H1 locs1 _ _ ls Q ⟨hX2, hP1, hS1, hL, hf, ⟨by omega, by omega⟩, hQ⟩
theorem x_invsN (hd : decode M.2.1 pc = .ok (.invokestatic idx, 3)) (lk : th_msN M.1.cls idx M2 n) (hc : Xc E M2 d2 cz2 cs2 as h Post') (hst : st = as.reverse ++ S) (hn : as.length = n) (hs8 : (S.map fun v => v.category).sum ≤ 8) (hd2 : d2 + 1 ≤ d) (hz1 : cz' + cz2 ≤ cz) (hs1 : cs' + cs2 ≤ cs)
    (kk : ∀ (v : Option Value) (h' : th_H), Post' v h' → Xw E M d cz' cs' (pc + 3) L (v.toList ++ S) h' Post) : Xw E M d cz cs pc L st h Post := by
  intro p l e R s m args below meth c H locs cells slots ls Q Y
  obtain ⟨hX, hP, hS, hL, hf, ⟨hc1, hc2⟩, hQ⟩ := Y
  have hX2 := hX
  obtain ⟨hx, hb, hml, hown, hts, hr, hlk, hnm0, hC, hZ⟩ := hX
  obtain ⟨hmd, ⟨host, l1⟩, l2⟩ := lk
  have hl2 := hL
  obtain ⟨-, lv, hl1, -⟩ := hl2
  refine th_call (va_runSN (As := as) (rest := S) ⟨hx, hb, hml, hown, hts⟩ (hc l) ⟨hmd.callN hts (hC.2.2.1 _ _ _ _ l1) hf hd2, hts _ l2, trivial⟩ ⟨th_blind E h _, th_pre hP hC hZ hS _⟩ rfl hn hl1.1 hst (by show 2 * 0 + _ ≤ 8; omega) hd ⟨by omega, by omega⟩) hS (fun v h' H1 locs1 hp hP1 hS1 => ?_)
  exact kk v h' hp p l e R s m args below meth c H1 locs1 _ _ ls Q ⟨hX2, hP1, hS1, hL, hf, ⟨by omega, by omega⟩, hQ⟩
theorem x_invi {b : Nat} (hd : decode M.2.1 pc = .ok (.invokespecial idx, 3)) (lk : th_mi M.1.cls idx M2 n) (hc : Xc E M2 d2 cz2 cs2 (.ref b :: as) h Post') (hst : st = as.reverse ++ .ref b :: S) (hn : as.length = n) (hs8 : (S.map fun v => v.category).sum ≤ 8) (hd2 : d2 + 1 ≤ d) (hz1 : cz' + cz2 ≤ cz) (hs1 : cs' + cs2 ≤ cs)
    (kk : ∀ (v : Option Value) (h' : th_H), Post' v h' → Xw E M d cz' cs' (pc + 3) L (v.toList ++ S) h' Post) : Xw E M d cz cs pc L st h Post := by
  intro p l e R s m args below meth c H locs cells slots ls Q Y
  obtain ⟨hX, hP, hS, hL, hf, ⟨hc1, hc2⟩, hQ⟩ := Y
  have hX2 := hX
  obtain ⟨hx, hb, hml, hown, hts, hr, hlk, hnm0, hC, hZ⟩ := hX
  obtain ⟨hmd, l1, l2, l3, l4⟩ := lk
  have hl2 := hL
  obtain ⟨-, lv, hl1, -⟩ := hl2
  have hcb := hmd.callB (cz := cz2) (cs := cs2) hts l1 hf hd2
  rw [l4] at hcb
  refine th_call (va_runI (b := b) (As := as) (rest := S) ⟨hx, hb, hml, hown, hts⟩ (hc l) ⟨hcb, l3, hts _ l2⟩ ⟨th_blind E h _, th_pre hP hC hZ hS _⟩ rfl hn hl1.1 hst (by show 2 * 0 + _ ≤ 8; omega) hd ⟨by omega, by omega⟩) hS (fun v h' H1 locs1 hp hP1 hS1 => ?_)
  exact kk v h' hp p l e R s m args below meth c H1 locs1 _ _ ls Q ⟨hX2, hP1, hS1, hL, hf, ⟨by omega, by omega⟩, hQ⟩
theorem x_inviN {b : Nat} (hd : decode M.2.1 pc = .ok (.invokespecial idx, 3)) (lk : th_miN M.1.cls idx M2 n) (hc : Xc E M2 d2 cz2 cs2 (.ref b :: as) h Post') (hst : st = as.reverse ++ .ref b :: S) (hn : as.length = n) (hs8 : (S.map fun v => v.category).sum ≤ 8) (hd2 : d2 + 1 ≤ d) (hz1 : cz' + cz2 ≤ cz) (hs1 : cs' + cs2 ≤ cs)
    (kk : ∀ (v : Option Value) (h' : th_H), Post' v h' → Xw E M d cz' cs' (pc + 3) L (v.toList ++ S) h' Post) : Xw E M d cz cs pc L st h Post := by
  intro p l e R s m args below meth c H locs cells slots ls Q Y
  obtain ⟨hX, hP, hS, hL, hf, ⟨hc1, hc2⟩, hQ⟩ := Y
  have hX2 := hX
  obtain ⟨hx, hb, hml, hown, hts, hr, hlk, hnm0, hC, hZ⟩ := hX
  obtain ⟨hmd, ⟨host, l1⟩, l2, l3, l4⟩ := lk
  have hl2 := hL
  obtain ⟨-, lv, hl1, -⟩ := hl2
  have hcb := hmd.callN (cz := cz2) (cs := cs2) hts (hC.2.2.1 _ _ _ _ l1) hf hd2
  rw [l4] at hcb
  refine th_call (va_runIN (b := b) (As := as) (rest := S) ⟨hx, hb, hml, hown, hts⟩ (hc l) ⟨hcb, l3, hts _ l2⟩ ⟨th_blind E h _, th_pre hP hC hZ hS _⟩ rfl hn hl1.1 hst (by show 2 * 0 + _ ≤ 8; omega) hd ⟨by omega, by omega⟩) hS (fun v h' H1 locs1 hp hP1 hS1 => ?_)
  exact kk v h' hp p l e R s m args below meth c H1 locs1 _ _ ls Q ⟨hX2, hP1, hS1, hL, hf, ⟨by omega, by omega⟩, hQ⟩
end THI
end
section
/-! Words and links (printed by wip/gen/names.py). -/
theorem tbl1 {w : Jvm.Cond} (h : w ∈ tables_1_1) : w ∈ lw_tbl := List.mem_append_right _ (List.mem_append_left _ h)
theorem tbl2 {w : Jvm.Cond} (h : w ∈ tables_1_2) : w ∈ lw_tbl := List.mem_append_right _ (List.mem_append_right _ (List.mem_append_left _ h))
theorem tbl3 {w : Jvm.Cond} (h : w ∈ tables_1_3) : w ∈ lw_tbl := List.mem_append_right _ (List.mem_append_right _ (List.mem_append_right _ h))
theorem tbg {w : Jvm.Cond} (h : w ∈ lw_tbl) (g : th_gd w = true) : w ∈ th_tb := List.mem_filter.mpr ⟨h, g⟩
theorem tbP {y : MethodName} {n : Nat} (h : (y, n) ∈ lw_privs) : Jvm.Cond.selects y.cls y y ∈ th_tb := tbg (List.mem_append_left _ (List.mem_map.mpr ⟨(y, n), h, rfl⟩)) rfl
theorem k_0 : Jvm.Cond.initialized "TurnHostLaw" ∈ th_tb := tbg (tbl1 (List.mem_of_getElem? (i := 0) rfl)) rfl
theorem k_1 : Jvm.Cond.initialized "TurnHost" ∈ th_tb := tbg (tbl1 (List.mem_of_getElem? (i := 1) rfl)) rfl
theorem k_2 : Jvm.Cond.initialized "TurnHost$Machine" ∈ th_tb := tbg (tbl1 (List.mem_of_getElem? (i := 2) rfl)) rfl
theorem k_3 : Jvm.Cond.initialized "TurnHost$Program" ∈ th_tb := tbg (tbl1 (List.mem_of_getElem? (i := 3) rfl)) rfl
theorem k_4 : Jvm.Cond.initialized "TurnHost$Society" ∈ th_tb := tbg (tbl1 (List.mem_of_getElem? (i := 4) rfl)) rfl
theorem k_5 : Jvm.Cond.initialized "TurnHost$HostProcess" ∈ th_tb := tbg (tbl1 (List.mem_of_getElem? (i := 5) rfl)) rfl
theorem k_6 : Jvm.Cond.initialized "TurnHost$Term" ∈ th_tb := tbg (tbl1 (List.mem_of_getElem? (i := 6) rfl)) rfl
theorem k_7 : Jvm.Cond.initialized "TurnHost$Mailbox" ∈ th_tb := tbg (tbl1 (List.mem_of_getElem? (i := 7) rfl)) rfl
theorem k_8 : Jvm.Cond.initialized "TurnHost$Line" ∈ th_tb := tbg (tbl1 (List.mem_of_getElem? (i := 8) rfl)) rfl
theorem k_9 : Jvm.Cond.initialized "TurnHostModel" ∈ th_tb := tbg (tbl1 (List.mem_of_getElem? (i := 9) rfl)) rfl
theorem k_10 : Jvm.Cond.initialized "java/lang/Math" ∈ th_tb := tbg (tbl1 (List.mem_of_getElem? (i := 10) rfl)) rfl
theorem k_11 : Jvm.Cond.classLink "TurnHostLaw" (7 : Nat) "TurnHost" ∈ th_tb := tbg (tbl1 (List.mem_of_getElem? (i := 11) rfl)) rfl
theorem k_12 : Jvm.Cond.instantiable "TurnHost" (5 : Nat) ∈ th_tb := tbg (tbl1 (List.mem_of_getElem? (i := 12) rfl)) rfl
theorem k_13 : Jvm.Cond.methodLink "TurnHostLaw" (15 : Nat) ({ cls := "TurnHost", name := "<init>", desc := "(I)V" } : MethodName) ∈ th_tb := tbg (tbl1 (List.mem_of_getElem? (i := 13) rfl)) rfl
theorem k_14 : Jvm.Cond.instanceMethod ({ cls := "TurnHost", name := "<init>", desc := "(I)V" } : MethodName) ∈ th_tb := tbg (tbl1 (List.mem_of_getElem? (i := 14) rfl)) rfl
theorem k_15 : Jvm.Cond.code ({ cls := "TurnHost", name := "<init>", desc := "(I)V" } : MethodName) prog_1_method_1_code (2 : Nat) (Option.none : Option Jvm.ClassFile.FieldType) ∈ th_tb := tbg (tbl1 (List.mem_of_getElem? (i := 15) rfl)) rfl
theorem k_16 : Jvm.Cond.methodLink "TurnHost" (1 : Nat) ({ cls := "java/lang/Object", name := "<init>", desc := "()V" } : MethodName) ∈ th_tb := tbg (tbl1 (List.mem_of_getElem? (i := 16) rfl)) rfl
theorem k_17 : Jvm.Cond.instanceMethod ({ cls := "java/lang/Object", name := "<init>", desc := "()V" } : MethodName) ∈ th_tb := tbg (tbl1 (List.mem_of_getElem? (i := 17) rfl)) rfl
theorem k_18 : Jvm.Cond.code ({ cls := "java/lang/Object", name := "<init>", desc := "()V" } : MethodName) object_method_1_code (1 : Nat) (Option.none : Option Jvm.ClassFile.FieldType) ∈ th_tb := tbg (tbl1 (List.mem_of_getElem? (i := 18) rfl)) rfl
theorem k_19 : Jvm.Cond.classLink "TurnHost" (13 : Nat) "TurnHost$Machine" ∈ th_tb := tbg (tbl1 (List.mem_of_getElem? (i := 19) rfl)) rfl
theorem k_20 : Jvm.Cond.instantiable "TurnHost$Machine" (2 : Nat) ∈ th_tb := tbg (tbl1 (List.mem_of_getElem? (i := 20) rfl)) rfl
theorem k_21 : Jvm.Cond.methodLink "TurnHost" (15 : Nat) ({ cls := "TurnHost$Machine", name := "<init>", desc := "()V" } : MethodName) ∈ th_tb := tbg (tbl1 (List.mem_of_getElem? (i := 21) rfl)) rfl
theorem k_22 : Jvm.Cond.instanceMethod ({ cls := "TurnHost$Machine", name := "<init>", desc := "()V" } : MethodName) ∈ th_tb := tbg (tbl1 (List.mem_of_getElem? (i := 22) rfl)) rfl
theorem k_23 : Jvm.Cond.code ({ cls := "TurnHost$Machine", name := "<init>", desc := "()V" } : MethodName) prog_4_method_1_code (1 : Nat) (Option.none : Option Jvm.ClassFile.FieldType) ∈ th_tb := tbg (tbl1 (List.mem_of_getElem? (i := 23) rfl)) rfl
theorem k_24 : Jvm.Cond.methodLink "TurnHost$Machine" (3 : Nat) ({ cls := "java/lang/Object", name := "<init>", desc := "()V" } : MethodName) ∈ th_tb := tbg (tbl1 (List.mem_of_getElem? (i := 24) rfl)) rfl
theorem k_25 : Jvm.Cond.classLink "TurnHost$Machine" (9 : Nat) "TurnHost$Program" ∈ th_tb := tbg (tbl1 (List.mem_of_getElem? (i := 25) rfl)) rfl
theorem k_26 : Jvm.Cond.instantiable "TurnHost$Program" (2 : Nat) ∈ th_tb := tbg (tbl1 (List.mem_of_getElem? (i := 26) rfl)) rfl
theorem k_27 : Jvm.Cond.methodLink "TurnHost$Machine" (11 : Nat) ({ cls := "TurnHost$Program", name := "<init>", desc := "()V" } : MethodName) ∈ th_tb := tbg (tbl1 (List.mem_of_getElem? (i := 27) rfl)) rfl
theorem k_28 : Jvm.Cond.instanceMethod ({ cls := "TurnHost$Program", name := "<init>", desc := "()V" } : MethodName) ∈ th_tb := tbg (tbl1 (List.mem_of_getElem? (i := 28) rfl)) rfl
theorem k_29 : Jvm.Cond.code ({ cls := "TurnHost$Program", name := "<init>", desc := "()V" } : MethodName) prog_6_method_1_code (1 : Nat) (Option.none : Option Jvm.ClassFile.FieldType) ∈ th_tb := tbg (tbl1 (List.mem_of_getElem? (i := 29) rfl)) rfl
theorem k_30 : Jvm.Cond.methodLink "TurnHost$Program" (3 : Nat) ({ cls := "java/lang/Object", name := "<init>", desc := "()V" } : MethodName) ∈ th_tb := tbg (tbl1 (List.mem_of_getElem? (i := 30) rfl)) rfl
theorem k_31 : Jvm.Cond.fieldLink "TurnHost$Program" (9 : Nat) "TurnHost$Program" "cells" "[I" ∈ th_tb := tbg (tbl1 (List.mem_of_getElem? (i := 31) rfl)) rfl
theorem k_32 : Jvm.Cond.fieldLink "TurnHost$Machine" (46 : Nat) "TurnHost$Program" "cells" "[I" ∈ th_tb := tbg (tbl1 (List.mem_of_getElem? (i := 32) rfl)) rfl
theorem k_33 : Jvm.Cond.fieldLink "TurnHost$Program" (15 : Nat) "TurnHost$Program" "count" "I" ∈ th_tb := tbg (tbl1 (List.mem_of_getElem? (i := 33) rfl)) rfl
theorem k_34 : Jvm.Cond.laysFinal "TurnHost$Program" "TurnHost$Program" "cells" "[I" ∈ th_tb := tbg (tbl1 (List.mem_of_getElem? (i := 34) rfl)) rfl
theorem k_36 : Jvm.Cond.lays "TurnHost$Program" "TurnHost$Program" "count" "I" ∈ th_tb := tbg (tbl1 (List.mem_of_getElem? (i := 36) rfl)) rfl
theorem k_39 : Jvm.Cond.arrayClass Jvm.ClassFile.FieldType.int ∈ th_tb := tbg (tbl1 (List.mem_of_getElem? (i := 39) rfl)) rfl
theorem k_40 : Jvm.Cond.classLink "TurnHost$Machine" (18 : Nat) "TurnHost$Society" ∈ th_tb := tbg (tbl1 (List.mem_of_getElem? (i := 40) rfl)) rfl
theorem k_41 : Jvm.Cond.instantiable "TurnHost$Society" (5 : Nat) ∈ th_tb := tbg (tbl1 (List.mem_of_getElem? (i := 41) rfl)) rfl
theorem k_42 : Jvm.Cond.methodLink "TurnHost$Machine" (20 : Nat) ({ cls := "TurnHost$Society", name := "<init>", desc := "()V" } : MethodName) ∈ th_tb := tbg (tbl1 (List.mem_of_getElem? (i := 42) rfl)) rfl
theorem k_43 : Jvm.Cond.instanceMethod ({ cls := "TurnHost$Society", name := "<init>", desc := "()V" } : MethodName) ∈ th_tb := tbg (tbl1 (List.mem_of_getElem? (i := 43) rfl)) rfl
theorem k_44 : Jvm.Cond.code ({ cls := "TurnHost$Society", name := "<init>", desc := "()V" } : MethodName) prog_7_method_1_code (2 : Nat) (Option.none : Option Jvm.ClassFile.FieldType) ∈ th_tb := tbg (tbl1 (List.mem_of_getElem? (i := 44) rfl)) rfl
theorem k_45 : Jvm.Cond.methodLink "TurnHost$Society" (3 : Nat) ({ cls := "java/lang/Object", name := "<init>", desc := "()V" } : MethodName) ∈ th_tb := tbg (tbl1 (List.mem_of_getElem? (i := 45) rfl)) rfl
theorem k_46 : Jvm.Cond.classLink "TurnHost$Society" (9 : Nat) "TurnHost$HostProcess" ∈ th_tb := tbg (tbl1 (List.mem_of_getElem? (i := 46) rfl)) rfl
theorem k_48 : Jvm.Cond.instantiable "TurnHost$HostProcess" (12 : Nat) ∈ th_tb := tbg (tbl1 (List.mem_of_getElem? (i := 48) rfl)) rfl
theorem k_49 : Jvm.Cond.methodLink "TurnHost$Society" (17 : Nat) ({ cls := "TurnHost$HostProcess", name := "<init>", desc := "(I)V" } : MethodName) ∈ th_tb := tbg (tbl1 (List.mem_of_getElem? (i := 49) rfl)) rfl
theorem k_50 : Jvm.Cond.instanceMethod ({ cls := "TurnHost$HostProcess", name := "<init>", desc := "(I)V" } : MethodName) ∈ th_tb := tbg (tbl1 (List.mem_of_getElem? (i := 50) rfl)) rfl
theorem k_51 : Jvm.Cond.code ({ cls := "TurnHost$HostProcess", name := "<init>", desc := "(I)V" } : MethodName) prog_2_method_1_code (2 : Nat) (Option.none : Option Jvm.ClassFile.FieldType) ∈ th_tb := tbg (tbl1 (List.mem_of_getElem? (i := 51) rfl)) rfl
theorem k_52 : Jvm.Cond.methodLink "TurnHost$HostProcess" (3 : Nat) ({ cls := "java/lang/Object", name := "<init>", desc := "()V" } : MethodName) ∈ th_tb := tbg (tbl1 (List.mem_of_getElem? (i := 52) rfl)) rfl
theorem k_53 : Jvm.Cond.classLink "TurnHost$HostProcess" (15 : Nat) "TurnHost$Term" ∈ th_tb := tbg (tbl1 (List.mem_of_getElem? (i := 53) rfl)) rfl
theorem k_54 : Jvm.Cond.instantiable "TurnHost$Term" (5 : Nat) ∈ th_tb := tbg (tbl1 (List.mem_of_getElem? (i := 54) rfl)) rfl
theorem k_55 : Jvm.Cond.methodLink "TurnHost$HostProcess" (17 : Nat) ({ cls := "TurnHost$Term", name := "<init>", desc := "(II)V" } : MethodName) ∈ th_tb := tbg (tbl1 (List.mem_of_getElem? (i := 55) rfl)) rfl
theorem k_56 : Jvm.Cond.instanceMethod ({ cls := "TurnHost$Term", name := "<init>", desc := "(II)V" } : MethodName) ∈ th_tb := tbg (tbl1 (List.mem_of_getElem? (i := 56) rfl)) rfl
theorem k_57 : Jvm.Cond.code ({ cls := "TurnHost$Term", name := "<init>", desc := "(II)V" } : MethodName) prog_8_method_1_code (3 : Nat) (Option.none : Option Jvm.ClassFile.FieldType) ∈ th_tb := tbg (tbl1 (List.mem_of_getElem? (i := 57) rfl)) rfl
theorem k_58 : Jvm.Cond.methodLink "TurnHost$Term" (3 : Nat) ({ cls := "java/lang/Object", name := "<init>", desc := "()V" } : MethodName) ∈ th_tb := tbg (tbl1 (List.mem_of_getElem? (i := 58) rfl)) rfl
theorem k_59 : Jvm.Cond.fieldLink "TurnHost$Term" (9 : Nat) "TurnHost$Term" "sort" "I" ∈ th_tb := tbg (tbl1 (List.mem_of_getElem? (i := 59) rfl)) rfl
theorem k_60 : Jvm.Cond.fieldLink "TurnHost$Machine" (97 : Nat) "TurnHost$Term" "sort" "I" ∈ th_tb := tbg (tbl1 (List.mem_of_getElem? (i := 60) rfl)) rfl
theorem k_61 : Jvm.Cond.fieldLink "TurnHost$Society" (47 : Nat) "TurnHost$Term" "sort" "I" ∈ th_tb := tbg (tbl1 (List.mem_of_getElem? (i := 61) rfl)) rfl
theorem k_62 : Jvm.Cond.fieldLink "TurnHost$Term" (15 : Nat) "TurnHost$Term" "number" "I" ∈ th_tb := tbg (tbl1 (List.mem_of_getElem? (i := 62) rfl)) rfl
theorem k_63 : Jvm.Cond.fieldLink "TurnHost$Machine" (87 : Nat) "TurnHost$Term" "number" "I" ∈ th_tb := tbg (tbl1 (List.mem_of_getElem? (i := 63) rfl)) rfl
theorem k_64 : Jvm.Cond.fieldLink "TurnHost$Society" (50 : Nat) "TurnHost$Term" "number" "I" ∈ th_tb := tbg (tbl1 (List.mem_of_getElem? (i := 64) rfl)) rfl
theorem k_65 : Jvm.Cond.fieldLink "TurnHost$Term" (18 : Nat) "TurnHost$Term" "first" "LTurnHost$Term;" ∈ th_tb := tbg (tbl1 (List.mem_of_getElem? (i := 65) rfl)) rfl
theorem k_66 : Jvm.Cond.fieldLink "TurnHost$Machine" (77 : Nat) "TurnHost$Term" "first" "LTurnHost$Term;" ∈ th_tb := tbg (tbl1 (List.mem_of_getElem? (i := 66) rfl)) rfl
theorem k_67 : Jvm.Cond.fieldLink "TurnHost$Term" (22 : Nat) "TurnHost$Term" "second" "LTurnHost$Term;" ∈ th_tb := tbg (tbl1 (List.mem_of_getElem? (i := 67) rfl)) rfl
theorem k_68 : Jvm.Cond.fieldLink "TurnHost$Machine" (80 : Nat) "TurnHost$Term" "second" "LTurnHost$Term;" ∈ th_tb := tbg (tbl1 (List.mem_of_getElem? (i := 68) rfl)) rfl
theorem k_69 : Jvm.Cond.fieldLink "TurnHost$Term" (25 : Nat) "TurnHost$Term" "weight" "I" ∈ th_tb := tbg (tbl1 (List.mem_of_getElem? (i := 69) rfl)) rfl
theorem k_70 : Jvm.Cond.fieldLink "TurnHost$Society" (114 : Nat) "TurnHost$Term" "weight" "I" ∈ th_tb := tbg (tbl1 (List.mem_of_getElem? (i := 70) rfl)) rfl
theorem k_71 : Jvm.Cond.laysFinal "TurnHost$Term" "TurnHost$Term" "sort" "I" ∈ th_tb := tbg (tbl1 (List.mem_of_getElem? (i := 71) rfl)) rfl
theorem k_73 : Jvm.Cond.laysFinal "TurnHost$Term" "TurnHost$Term" "number" "I" ∈ th_tb := tbg (tbl1 (List.mem_of_getElem? (i := 73) rfl)) rfl
theorem k_75 : Jvm.Cond.laysFinal "TurnHost$Term" "TurnHost$Term" "first" "LTurnHost$Term;" ∈ th_tb := tbg (tbl1 (List.mem_of_getElem? (i := 75) rfl)) rfl
theorem k_77 : Jvm.Cond.laysFinal "TurnHost$Term" "TurnHost$Term" "second" "LTurnHost$Term;" ∈ th_tb := tbg (tbl1 (List.mem_of_getElem? (i := 77) rfl)) rfl
theorem k_79 : Jvm.Cond.laysFinal "TurnHost$Term" "TurnHost$Term" "weight" "I" ∈ th_tb := tbg (tbl1 (List.mem_of_getElem? (i := 79) rfl)) rfl
theorem k_83 : Jvm.Cond.classLink "TurnHost$HostProcess" (32 : Nat) "TurnHost$Mailbox" ∈ th_tb := tbg (tbl1 (List.mem_of_getElem? (i := 83) rfl)) rfl
theorem k_84 : Jvm.Cond.instantiable "TurnHost$Mailbox" (3 : Nat) ∈ th_tb := tbg (tbl1 (List.mem_of_getElem? (i := 84) rfl)) rfl
theorem k_85 : Jvm.Cond.methodLink "TurnHost$HostProcess" (34 : Nat) ({ cls := "TurnHost$Mailbox", name := "<init>", desc := "()V" } : MethodName) ∈ th_tb := tbg (tbl1 (List.mem_of_getElem? (i := 85) rfl)) rfl
theorem k_86 : Jvm.Cond.instanceMethod ({ cls := "TurnHost$Mailbox", name := "<init>", desc := "()V" } : MethodName) ∈ th_tb := tbg (tbl1 (List.mem_of_getElem? (i := 86) rfl)) rfl
theorem k_87 : Jvm.Cond.code ({ cls := "TurnHost$Mailbox", name := "<init>", desc := "()V" } : MethodName) prog_5_method_1_code (1 : Nat) (Option.none : Option Jvm.ClassFile.FieldType) ∈ th_tb := tbg (tbl1 (List.mem_of_getElem? (i := 87) rfl)) rfl
theorem k_88 : Jvm.Cond.methodLink "TurnHost$Mailbox" (3 : Nat) ({ cls := "java/lang/Object", name := "<init>", desc := "()V" } : MethodName) ∈ th_tb := tbg (tbl1 (List.mem_of_getElem? (i := 88) rfl)) rfl
theorem k_89 : Jvm.Cond.classLink "TurnHost$Mailbox" (9 : Nat) "TurnHost$Term" ∈ th_tb := tbg (tbl1 (List.mem_of_getElem? (i := 89) rfl)) rfl
theorem k_90 : Jvm.Cond.fieldLink "TurnHost$Mailbox" (11 : Nat) "TurnHost$Mailbox" "messages" "[LTurnHost$Term;" ∈ th_tb := tbg (tbl1 (List.mem_of_getElem? (i := 90) rfl)) rfl
theorem k_91 : Jvm.Cond.fieldLink "TurnHost$Mailbox" (17 : Nat) "TurnHost$Mailbox" "count" "I" ∈ th_tb := tbg (tbl1 (List.mem_of_getElem? (i := 91) rfl)) rfl
theorem k_92 : Jvm.Cond.fieldLink "TurnHost$HostProcess" (67 : Nat) "TurnHost$Mailbox" "count" "I" ∈ th_tb := tbg (tbl1 (List.mem_of_getElem? (i := 92) rfl)) rfl
theorem k_93 : Jvm.Cond.fieldLink "TurnHost$Mailbox" (21 : Nat) "TurnHost$Mailbox" "mark" "I" ∈ th_tb := tbg (tbl1 (List.mem_of_getElem? (i := 93) rfl)) rfl
theorem k_94 : Jvm.Cond.fieldLink "TurnHost$HostProcess" (64 : Nat) "TurnHost$Mailbox" "mark" "I" ∈ th_tb := tbg (tbl1 (List.mem_of_getElem? (i := 94) rfl)) rfl
theorem k_95 : Jvm.Cond.fieldLink "TurnHost$Machine" (166 : Nat) "TurnHost$Mailbox" "mark" "I" ∈ th_tb := tbg (tbl1 (List.mem_of_getElem? (i := 95) rfl)) rfl
theorem k_96 : Jvm.Cond.laysFinal "TurnHost$Mailbox" "TurnHost$Mailbox" "messages" "[LTurnHost$Term;" ∈ th_tb := tbg (tbl1 (List.mem_of_getElem? (i := 96) rfl)) rfl
theorem k_98 : Jvm.Cond.lays "TurnHost$Mailbox" "TurnHost$Mailbox" "count" "I" ∈ th_tb := tbg (tbl1 (List.mem_of_getElem? (i := 98) rfl)) rfl
theorem k_100 : Jvm.Cond.lays "TurnHost$Mailbox" "TurnHost$Mailbox" "mark" "I" ∈ th_tb := tbg (tbl1 (List.mem_of_getElem? (i := 100) rfl)) rfl
theorem k_103 : Jvm.Cond.fieldLink "TurnHost$HostProcess" (9 : Nat) "TurnHost$HostProcess" "number" "I" ∈ th_tb := tbg (tbl1 (List.mem_of_getElem? (i := 103) rfl)) rfl
theorem k_104 : Jvm.Cond.fieldLink "TurnHost" (50 : Nat) "TurnHost$HostProcess" "number" "I" ∈ th_tb := tbg (tbl1 (List.mem_of_getElem? (i := 104) rfl)) rfl
theorem k_105 : Jvm.Cond.fieldLink "TurnHost$Society" (61 : Nat) "TurnHost$HostProcess" "number" "I" ∈ th_tb := tbg (tbl1 (List.mem_of_getElem? (i := 105) rfl)) rfl
theorem k_106 : Jvm.Cond.fieldLink "TurnHost$HostProcess" (20 : Nat) "TurnHost$HostProcess" "pid" "LTurnHost$Term;" ∈ th_tb := tbg (tbl1 (List.mem_of_getElem? (i := 106) rfl)) rfl
theorem k_107 : Jvm.Cond.fieldLink "TurnHost$Machine" (66 : Nat) "TurnHost$HostProcess" "pid" "LTurnHost$Term;" ∈ th_tb := tbg (tbl1 (List.mem_of_getElem? (i := 107) rfl)) rfl
theorem k_108 : Jvm.Cond.fieldLink "TurnHost$Society" (117 : Nat) "TurnHost$HostProcess" "pid" "LTurnHost$Term;" ∈ th_tb := tbg (tbl1 (List.mem_of_getElem? (i := 108) rfl)) rfl
theorem k_109 : Jvm.Cond.fieldLink "TurnHost$HostProcess" (24 : Nat) "TurnHost$HostProcess" "registers" "[LTurnHost$Term;" ∈ th_tb := tbg (tbl1 (List.mem_of_getElem? (i := 109) rfl)) rfl
theorem k_110 : Jvm.Cond.fieldLink "TurnHost$Machine" (54 : Nat) "TurnHost$HostProcess" "registers" "[LTurnHost$Term;" ∈ th_tb := tbg (tbl1 (List.mem_of_getElem? (i := 110) rfl)) rfl
theorem k_111 : Jvm.Cond.fieldLink "TurnHost$HostProcess" (28 : Nat) "TurnHost$HostProcess" "returns" "[I" ∈ th_tb := tbg (tbl1 (List.mem_of_getElem? (i := 111) rfl)) rfl
theorem k_112 : Jvm.Cond.fieldLink "TurnHost$Machine" (160 : Nat) "TurnHost$HostProcess" "returns" "[I" ∈ th_tb := tbg (tbl1 (List.mem_of_getElem? (i := 112) rfl)) rfl
theorem k_113 : Jvm.Cond.fieldLink "TurnHost$HostProcess" (35 : Nat) "TurnHost$HostProcess" "mailbox" "LTurnHost$Mailbox;" ∈ th_tb := tbg (tbl1 (List.mem_of_getElem? (i := 113) rfl)) rfl
theorem k_114 : Jvm.Cond.fieldLink "TurnHost$Machine" (119 : Nat) "TurnHost$HostProcess" "mailbox" "LTurnHost$Mailbox;" ∈ th_tb := tbg (tbl1 (List.mem_of_getElem? (i := 114) rfl)) rfl
theorem k_115 : Jvm.Cond.fieldLink "TurnHost$Society" (68 : Nat) "TurnHost$HostProcess" "mailbox" "LTurnHost$Mailbox;" ∈ th_tb := tbg (tbl1 (List.mem_of_getElem? (i := 115) rfl)) rfl
theorem k_116 : Jvm.Cond.fieldLink "TurnHost$HostProcess" (42 : Nat) "TurnHost$HostProcess" "returnCount" "I" ∈ th_tb := tbg (tbl1 (List.mem_of_getElem? (i := 116) rfl)) rfl
theorem k_117 : Jvm.Cond.fieldLink "TurnHost$Machine" (157 : Nat) "TurnHost$HostProcess" "returnCount" "I" ∈ th_tb := tbg (tbl1 (List.mem_of_getElem? (i := 117) rfl)) rfl
theorem k_118 : Jvm.Cond.fieldLink "TurnHost$Machine" (31 : Nat) "TurnHost$HostProcess" "place" "I" ∈ th_tb := tbg (tbl1 (List.mem_of_getElem? (i := 118) rfl)) rfl
theorem k_119 : Jvm.Cond.fieldLink "TurnHost$HostProcess" (45 : Nat) "TurnHost$HostProcess" "place" "I" ∈ th_tb := tbg (tbl1 (List.mem_of_getElem? (i := 119) rfl)) rfl
theorem k_120 : Jvm.Cond.fieldLink "TurnHost$HostProcess" (48 : Nat) "TurnHost$HostProcess" "links" "I" ∈ th_tb := tbg (tbl1 (List.mem_of_getElem? (i := 120) rfl)) rfl
theorem k_121 : Jvm.Cond.fieldLink "TurnHost$Society" (81 : Nat) "TurnHost$HostProcess" "links" "I" ∈ th_tb := tbg (tbl1 (List.mem_of_getElem? (i := 121) rfl)) rfl
theorem k_122 : Jvm.Cond.fieldLink "TurnHost$HostProcess" (51 : Nat) "TurnHost$HostProcess" "traps" "Z" ∈ th_tb := tbg (tbl1 (List.mem_of_getElem? (i := 122) rfl)) rfl
theorem k_123 : Jvm.Cond.fieldLink "TurnHost$Society" (95 : Nat) "TurnHost$HostProcess" "traps" "Z" ∈ th_tb := tbg (tbl1 (List.mem_of_getElem? (i := 123) rfl)) rfl
theorem k_124 : Jvm.Cond.fieldLink "TurnHost$Machine" (188 : Nat) "TurnHost$HostProcess" "traps" "Z" ∈ th_tb := tbg (tbl1 (List.mem_of_getElem? (i := 124) rfl)) rfl
theorem k_125 : Jvm.Cond.fieldLink "TurnHost$HostProcess" (55 : Nat) "TurnHost$HostProcess" "state" "I" ∈ th_tb := tbg (tbl1 (List.mem_of_getElem? (i := 125) rfl)) rfl
theorem k_126 : Jvm.Cond.fieldLink "TurnHost" (59 : Nat) "TurnHost$HostProcess" "state" "I" ∈ th_tb := tbg (tbl1 (List.mem_of_getElem? (i := 126) rfl)) rfl
theorem k_127 : Jvm.Cond.fieldLink "TurnHost$Society" (65 : Nat) "TurnHost$HostProcess" "state" "I" ∈ th_tb := tbg (tbl1 (List.mem_of_getElem? (i := 127) rfl)) rfl
theorem k_128 : Jvm.Cond.fieldLink "TurnHost$Machine" (177 : Nat) "TurnHost$HostProcess" "state" "I" ∈ th_tb := tbg (tbl1 (List.mem_of_getElem? (i := 128) rfl)) rfl
theorem k_129 : Jvm.Cond.fieldLink "TurnHost$HostProcess" (58 : Nat) "TurnHost$HostProcess" "reason" "LTurnHost$Term;" ∈ th_tb := tbg (tbl1 (List.mem_of_getElem? (i := 129) rfl)) rfl
theorem k_130 : Jvm.Cond.fieldLink "TurnHost$Society" (84 : Nat) "TurnHost$HostProcess" "reason" "LTurnHost$Term;" ∈ th_tb := tbg (tbl1 (List.mem_of_getElem? (i := 130) rfl)) rfl
theorem k_131 : Jvm.Cond.fieldLink "TurnHost$Machine" (25 : Nat) "TurnHost$HostProcess" "reductions" "I" ∈ th_tb := tbg (tbl1 (List.mem_of_getElem? (i := 131) rfl)) rfl
theorem k_132 : Jvm.Cond.fieldLink "TurnHost$HostProcess" (61 : Nat) "TurnHost$HostProcess" "reductions" "I" ∈ th_tb := tbg (tbl1 (List.mem_of_getElem? (i := 132) rfl)) rfl
theorem k_133 : Jvm.Cond.laysFinal "TurnHost$HostProcess" "TurnHost$HostProcess" "number" "I" ∈ th_tb := tbg (tbl1 (List.mem_of_getElem? (i := 133) rfl)) rfl
theorem k_135 : Jvm.Cond.laysFinal "TurnHost$HostProcess" "TurnHost$HostProcess" "pid" "LTurnHost$Term;" ∈ th_tb := tbg (tbl1 (List.mem_of_getElem? (i := 135) rfl)) rfl
theorem k_137 : Jvm.Cond.laysFinal "TurnHost$HostProcess" "TurnHost$HostProcess" "registers" "[LTurnHost$Term;" ∈ th_tb := tbg (tbl1 (List.mem_of_getElem? (i := 137) rfl)) rfl
theorem k_139 : Jvm.Cond.laysFinal "TurnHost$HostProcess" "TurnHost$HostProcess" "returns" "[I" ∈ th_tb := tbg (tbl1 (List.mem_of_getElem? (i := 139) rfl)) rfl
theorem k_141 : Jvm.Cond.laysFinal "TurnHost$HostProcess" "TurnHost$HostProcess" "mailbox" "LTurnHost$Mailbox;" ∈ th_tb := tbg (tbl1 (List.mem_of_getElem? (i := 141) rfl)) rfl
theorem k_143 : Jvm.Cond.lays "TurnHost$HostProcess" "TurnHost$HostProcess" "returnCount" "I" ∈ th_tb := tbg (tbl1 (List.mem_of_getElem? (i := 143) rfl)) rfl
theorem k_145 : Jvm.Cond.lays "TurnHost$HostProcess" "TurnHost$HostProcess" "place" "I" ∈ th_tb := tbg (tbl1 (List.mem_of_getElem? (i := 145) rfl)) rfl
theorem k_147 : Jvm.Cond.lays "TurnHost$HostProcess" "TurnHost$HostProcess" "links" "I" ∈ th_tb := tbg (tbl1 (List.mem_of_getElem? (i := 147) rfl)) rfl
theorem k_149 : Jvm.Cond.lays "TurnHost$HostProcess" "TurnHost$HostProcess" "traps" "Z" ∈ th_tb := tbg (tbl1 (List.mem_of_getElem? (i := 149) rfl)) rfl
theorem k_151 : Jvm.Cond.lays "TurnHost$HostProcess" "TurnHost$HostProcess" "state" "I" ∈ th_tb := tbg (tbl1 (List.mem_of_getElem? (i := 151) rfl)) rfl
theorem k_153 : Jvm.Cond.lays "TurnHost$HostProcess" "TurnHost$HostProcess" "reason" "LTurnHost$Term;" ∈ th_tb := tbg (tbl1 (List.mem_of_getElem? (i := 153) rfl)) rfl
theorem k_155 : Jvm.Cond.lays "TurnHost$HostProcess" "TurnHost$HostProcess" "reductions" "I" ∈ th_tb := tbg (tbl1 (List.mem_of_getElem? (i := 155) rfl)) rfl
theorem k_158 : Jvm.Cond.classLink "TurnHost$Society" (20 : Nat) "TurnHost$Line" ∈ th_tb := tbg (tbl1 (List.mem_of_getElem? (i := 158) rfl)) rfl
theorem k_159 : Jvm.Cond.instantiable "TurnHost$Line" (2 : Nat) ∈ th_tb := tbg (tbl1 (List.mem_of_getElem? (i := 159) rfl)) rfl
theorem k_160 : Jvm.Cond.methodLink "TurnHost$Society" (22 : Nat) ({ cls := "TurnHost$Line", name := "<init>", desc := "()V" } : MethodName) ∈ th_tb := tbg (tbl1 (List.mem_of_getElem? (i := 160) rfl)) rfl
theorem k_161 : Jvm.Cond.instanceMethod ({ cls := "TurnHost$Line", name := "<init>", desc := "()V" } : MethodName) ∈ th_tb := tbg (tbl1 (List.mem_of_getElem? (i := 161) rfl)) rfl
theorem k_162 : Jvm.Cond.code ({ cls := "TurnHost$Line", name := "<init>", desc := "()V" } : MethodName) prog_3_method_1_code (1 : Nat) (Option.none : Option Jvm.ClassFile.FieldType) ∈ th_tb := tbg (tbl1 (List.mem_of_getElem? (i := 162) rfl)) rfl
theorem k_163 : Jvm.Cond.methodLink "TurnHost$Line" (3 : Nat) ({ cls := "java/lang/Object", name := "<init>", desc := "()V" } : MethodName) ∈ th_tb := tbg (tbl1 (List.mem_of_getElem? (i := 163) rfl)) rfl
theorem k_164 : Jvm.Cond.fieldLink "TurnHost$Line" (9 : Nat) "TurnHost$Line" "numbers" "[I" ∈ th_tb := tbg (tbl1 (List.mem_of_getElem? (i := 164) rfl)) rfl
theorem k_165 : Jvm.Cond.fieldLink "TurnHost$Line" (15 : Nat) "TurnHost$Line" "count" "I" ∈ th_tb := tbg (tbl1 (List.mem_of_getElem? (i := 165) rfl)) rfl
theorem k_166 : Jvm.Cond.laysFinal "TurnHost$Line" "TurnHost$Line" "numbers" "[I" ∈ th_tb := tbg (tbl1 (List.mem_of_getElem? (i := 166) rfl)) rfl
theorem k_168 : Jvm.Cond.lays "TurnHost$Line" "TurnHost$Line" "count" "I" ∈ th_tb := tbg (tbl1 (List.mem_of_getElem? (i := 168) rfl)) rfl
theorem k_171 : Jvm.Cond.classLink "TurnHost$Society" (27 : Nat) "TurnHost$Term" ∈ th_tb := tbg (tbl1 (List.mem_of_getElem? (i := 171) rfl)) rfl
theorem k_172 : Jvm.Cond.methodLink "TurnHost$Society" (29 : Nat) ({ cls := "TurnHost$Term", name := "<init>", desc := "(II)V" } : MethodName) ∈ th_tb := tbg (tbl1 (List.mem_of_getElem? (i := 172) rfl)) rfl
theorem k_173 : Jvm.Cond.fieldLink "TurnHost$Society" (11 : Nat) "TurnHost$Society" "table" "[LTurnHost$HostProcess;" ∈ th_tb := tbg (tbl1 (List.mem_of_getElem? (i := 173) rfl)) rfl
theorem k_174 : Jvm.Cond.fieldLink "TurnHost$Society" (23 : Nat) "TurnHost$Society" "line" "LTurnHost$Line;" ∈ th_tb := tbg (tbl1 (List.mem_of_getElem? (i := 174) rfl)) rfl
theorem k_175 : Jvm.Cond.fieldLink "TurnHost" (66 : Nat) "TurnHost$Society" "line" "LTurnHost$Line;" ∈ th_tb := tbg (tbl1 (List.mem_of_getElem? (i := 175) rfl)) rfl
theorem k_176 : Jvm.Cond.fieldLink "TurnHost$Society" (32 : Nat) "TurnHost$Society" "nil" "LTurnHost$Term;" ∈ th_tb := tbg (tbl1 (List.mem_of_getElem? (i := 176) rfl)) rfl
theorem k_177 : Jvm.Cond.fieldLink "TurnHost$Machine" (70 : Nat) "TurnHost$Society" "nil" "LTurnHost$Term;" ∈ th_tb := tbg (tbl1 (List.mem_of_getElem? (i := 177) rfl)) rfl
theorem k_178 : Jvm.Cond.fieldLink "TurnHost$Society" (36 : Nat) "TurnHost$Society" "atoms" "[LTurnHost$Term;" ∈ th_tb := tbg (tbl1 (List.mem_of_getElem? (i := 178) rfl)) rfl
theorem k_179 : Jvm.Cond.fieldLink "TurnHost$Machine" (38 : Nat) "TurnHost$Society" "atoms" "[LTurnHost$Term;" ∈ th_tb := tbg (tbl1 (List.mem_of_getElem? (i := 179) rfl)) rfl
theorem k_180 : Jvm.Cond.fieldLink "TurnHost$Society" (40 : Nat) "TurnHost$Society" "count" "I" ∈ th_tb := tbg (tbl1 (List.mem_of_getElem? (i := 180) rfl)) rfl
theorem k_181 : Jvm.Cond.fieldLink "TurnHost" (83 : Nat) "TurnHost$Society" "count" "I" ∈ th_tb := tbg (tbl1 (List.mem_of_getElem? (i := 181) rfl)) rfl
theorem k_182 : Jvm.Cond.laysFinal "TurnHost$Society" "TurnHost$Society" "table" "[LTurnHost$HostProcess;" ∈ th_tb := tbg (tbl1 (List.mem_of_getElem? (i := 182) rfl)) rfl
theorem k_184 : Jvm.Cond.laysFinal "TurnHost$Society" "TurnHost$Society" "line" "LTurnHost$Line;" ∈ th_tb := tbg (tbl1 (List.mem_of_getElem? (i := 184) rfl)) rfl
theorem k_186 : Jvm.Cond.laysFinal "TurnHost$Society" "TurnHost$Society" "nil" "LTurnHost$Term;" ∈ th_tb := tbg (tbl1 (List.mem_of_getElem? (i := 186) rfl)) rfl
theorem k_188 : Jvm.Cond.laysFinal "TurnHost$Society" "TurnHost$Society" "atoms" "[LTurnHost$Term;" ∈ th_tb := tbg (tbl1 (List.mem_of_getElem? (i := 188) rfl)) rfl
theorem k_190 : Jvm.Cond.lays "TurnHost$Society" "TurnHost$Society" "count" "I" ∈ th_tb := tbg (tbl1 (List.mem_of_getElem? (i := 190) rfl)) rfl
theorem k_193 : Jvm.Cond.fieldLink "TurnHost$Machine" (12 : Nat) "TurnHost$Machine" "program" "LTurnHost$Program;" ∈ th_tb := tbg (tbl1 (List.mem_of_getElem? (i := 193) rfl)) rfl
theorem k_194 : Jvm.Cond.fieldLink "TurnHost" (20 : Nat) "TurnHost$Machine" "program" "LTurnHost$Program;" ∈ th_tb := tbg (tbl1 (List.mem_of_getElem? (i := 194) rfl)) rfl
theorem k_195 : Jvm.Cond.fieldLink "TurnHost$Machine" (21 : Nat) "TurnHost$Machine" "society" "LTurnHost$Society;" ∈ th_tb := tbg (tbl1 (List.mem_of_getElem? (i := 195) rfl)) rfl
theorem k_196 : Jvm.Cond.fieldLink "TurnHost" (25 : Nat) "TurnHost$Machine" "society" "LTurnHost$Society;" ∈ th_tb := tbg (tbl1 (List.mem_of_getElem? (i := 196) rfl)) rfl
theorem k_197 : Jvm.Cond.laysFinal "TurnHost$Machine" "TurnHost$Machine" "program" "LTurnHost$Program;" ∈ th_tb := tbg (tbl1 (List.mem_of_getElem? (i := 197) rfl)) rfl
theorem k_199 : Jvm.Cond.laysFinal "TurnHost$Machine" "TurnHost$Machine" "society" "LTurnHost$Society;" ∈ th_tb := tbg (tbl1 (List.mem_of_getElem? (i := 199) rfl)) rfl
theorem k_202 : Jvm.Cond.fieldLink "TurnHost" (9 : Nat) "TurnHost" "quota" "I" ∈ th_tb := tbg (tbl1 (List.mem_of_getElem? (i := 202) rfl)) rfl
theorem k_203 : Jvm.Cond.fieldLink "TurnHost" (16 : Nat) "TurnHost" "machine" "LTurnHost$Machine;" ∈ th_tb := tbg (tbl1 (List.mem_of_getElem? (i := 203) rfl)) rfl
theorem k_204 : Jvm.Cond.fieldLink "TurnHost" (24 : Nat) "TurnHost" "program" "LTurnHost$Program;" ∈ th_tb := tbg (tbl1 (List.mem_of_getElem? (i := 204) rfl)) rfl
theorem k_205 : Jvm.Cond.fieldLink "TurnHost" (29 : Nat) "TurnHost" "society" "LTurnHost$Society;" ∈ th_tb := tbg (tbl1 (List.mem_of_getElem? (i := 205) rfl)) rfl
theorem k_206 : Jvm.Cond.fieldLink "TurnHost" (30 : Nat) "TurnHost" "spent" "I" ∈ th_tb := tbg (tbl1 (List.mem_of_getElem? (i := 206) rfl)) rfl
theorem k_207 : Jvm.Cond.laysFinal "TurnHost" "TurnHost" "quota" "I" ∈ th_tb := tbg (tbl1 (List.mem_of_getElem? (i := 207) rfl)) rfl
theorem k_209 : Jvm.Cond.laysFinal "TurnHost" "TurnHost" "machine" "LTurnHost$Machine;" ∈ th_tb := tbg (tbl1 (List.mem_of_getElem? (i := 209) rfl)) rfl
theorem k_211 : Jvm.Cond.laysFinal "TurnHost" "TurnHost" "program" "LTurnHost$Program;" ∈ th_tb := tbg (tbl1 (List.mem_of_getElem? (i := 211) rfl)) rfl
theorem k_213 : Jvm.Cond.laysFinal "TurnHost" "TurnHost" "society" "LTurnHost$Society;" ∈ th_tb := tbg (tbl1 (List.mem_of_getElem? (i := 213) rfl)) rfl
theorem k_215 : Jvm.Cond.lays "TurnHost" "TurnHost" "spent" "I" ∈ th_tb := tbg (tbl1 (List.mem_of_getElem? (i := 215) rfl)) rfl
theorem k_218 : Jvm.Cond.methodLink "TurnHostLaw" (21 : Nat) ({ cls := "TurnHost", name := "add", desc := "(IIII)I" } : MethodName) ∈ th_tb := tbg (tbl1 (List.mem_of_getElem? (i := 218) rfl)) rfl
theorem k_219 : Jvm.Cond.instanceMethod ({ cls := "TurnHost", name := "add", desc := "(IIII)I" } : MethodName) ∈ th_tb := tbg (tbl1 (List.mem_of_getElem? (i := 219) rfl)) rfl
theorem k_220 : Jvm.Cond.selects "TurnHost" ({ cls := "TurnHost", name := "add", desc := "(IIII)I" } : MethodName) ({ cls := "TurnHost", name := "add", desc := "(IIII)I" } : MethodName) ∈ th_tb := tbg (tbl1 (List.mem_of_getElem? (i := 220) rfl)) rfl
theorem k_221 : Jvm.Cond.code ({ cls := "TurnHost", name := "add", desc := "(IIII)I" } : MethodName) prog_1_method_2_code (5 : Nat) (Option.some Jvm.ClassFile.FieldType.int) ∈ th_tb := tbg (tbl1 (List.mem_of_getElem? (i := 221) rfl)) rfl
theorem k_222 : Jvm.Cond.methodLink "TurnHost" (33 : Nat) ({ cls := "TurnHost$Program", name := "append", desc := "(IIII)I" } : MethodName) ∈ th_tb := tbg (tbl1 (List.mem_of_getElem? (i := 222) rfl)) rfl
theorem k_223 : Jvm.Cond.instanceMethod ({ cls := "TurnHost$Program", name := "append", desc := "(IIII)I" } : MethodName) ∈ th_tb := tbg (tbl1 (List.mem_of_getElem? (i := 223) rfl)) rfl
theorem k_224 : Jvm.Cond.selects "TurnHost$Program" ({ cls := "TurnHost$Program", name := "append", desc := "(IIII)I" } : MethodName) ({ cls := "TurnHost$Program", name := "append", desc := "(IIII)I" } : MethodName) ∈ th_tb := tbg (tbl1 (List.mem_of_getElem? (i := 224) rfl)) rfl
theorem k_225 : Jvm.Cond.code ({ cls := "TurnHost$Program", name := "append", desc := "(IIII)I" } : MethodName) prog_6_method_2_code (7 : Nat) (Option.some Jvm.ClassFile.FieldType.int) ∈ th_tb := tbg (tbl1 (List.mem_of_getElem? (i := 225) rfl)) rfl
theorem k_228 : Jvm.Cond.methodLink "TurnHost$Program" (22 : Nat) ({ cls := "TurnHost$Program", name := "fits", desc := "(II)Z" } : MethodName) ∈ th_tb := tbg (tbl1 (List.mem_of_getElem? (i := 228) rfl)) rfl
theorem k_229 : Jvm.Cond.static ({ cls := "TurnHost$Program", name := "fits", desc := "(II)Z" } : MethodName) ∈ th_tb := tbg (tbl1 (List.mem_of_getElem? (i := 229) rfl)) rfl
theorem k_230 : Jvm.Cond.code ({ cls := "TurnHost$Program", name := "fits", desc := "(II)Z" } : MethodName) prog_6_method_3_code (2 : Nat) (Option.some Jvm.ClassFile.FieldType.boolean) ∈ th_tb := tbg (tbl1 (List.mem_of_getElem? (i := 230) rfl)) rfl
theorem k_231 : Jvm.Cond.methodLink "TurnHostLaw" (26 : Nat) ({ cls := "TurnHost", name := "begin", desc := "(II)I" } : MethodName) ∈ th_tb := tbg (tbl1 (List.mem_of_getElem? (i := 231) rfl)) rfl
theorem k_232 : Jvm.Cond.instanceMethod ({ cls := "TurnHost", name := "begin", desc := "(II)I" } : MethodName) ∈ th_tb := tbg (tbl1 (List.mem_of_getElem? (i := 232) rfl)) rfl
theorem k_233 : Jvm.Cond.selects "TurnHost" ({ cls := "TurnHost", name := "begin", desc := "(II)I" } : MethodName) ({ cls := "TurnHost", name := "begin", desc := "(II)I" } : MethodName) ∈ th_tb := tbg (tbl1 (List.mem_of_getElem? (i := 233) rfl)) rfl
theorem k_234 : Jvm.Cond.code ({ cls := "TurnHost", name := "begin", desc := "(II)I" } : MethodName) prog_1_method_3_code (4 : Nat) (Option.some Jvm.ClassFile.FieldType.int) ∈ th_tb := tbg (tbl1 (List.mem_of_getElem? (i := 234) rfl)) rfl
theorem k_235 : Jvm.Cond.classLink "TurnHost" (39 : Nat) "TurnHost$Term" ∈ th_tb := tbg (tbl1 (List.mem_of_getElem? (i := 235) rfl)) rfl
theorem k_236 : Jvm.Cond.methodLink "TurnHost" (41 : Nat) ({ cls := "TurnHost$Term", name := "<init>", desc := "(II)V" } : MethodName) ∈ th_tb := tbg (tbl1 (List.mem_of_getElem? (i := 236) rfl)) rfl
theorem k_237 : Jvm.Cond.methodLink "TurnHost" (44 : Nat) ({ cls := "TurnHost$Society", name := "start", desc := "(ILTurnHost$Term;)LTurnHost$HostProcess;" } : MethodName) ∈ th_tb := tbg (tbl1 (List.mem_of_getElem? (i := 237) rfl)) rfl
theorem k_238 : Jvm.Cond.instanceMethod ({ cls := "TurnHost$Society", name := "start", desc := "(ILTurnHost$Term;)LTurnHost$HostProcess;" } : MethodName) ∈ th_tb := tbg (tbl1 (List.mem_of_getElem? (i := 238) rfl)) rfl
theorem k_239 : Jvm.Cond.selects "TurnHost$Society" ({ cls := "TurnHost$Society", name := "start", desc := "(ILTurnHost$Term;)LTurnHost$HostProcess;" } : MethodName) ({ cls := "TurnHost$Society", name := "start", desc := "(ILTurnHost$Term;)LTurnHost$HostProcess;" } : MethodName) ∈ th_tb := tbg (tbl1 (List.mem_of_getElem? (i := 239) rfl)) rfl
theorem k_240 : Jvm.Cond.code ({ cls := "TurnHost$Society", name := "start", desc := "(ILTurnHost$Term;)LTurnHost$HostProcess;" } : MethodName) prog_7_method_5_code (4 : Nat) (Option.some (Jvm.ClassFile.FieldType.object "TurnHost$HostProcess")) ∈ th_tb := tbg (tbl2 (List.mem_of_getElem? (i := 0) rfl)) rfl
theorem k_241 : Jvm.Cond.methodLink "TurnHost$Society" (57 : Nat) ({ cls := "TurnHost$HostProcess", name := "renew", desc := "(ILTurnHost$Term;LTurnHost$Term;)V" } : MethodName) ∈ th_tb := tbg (tbl2 (List.mem_of_getElem? (i := 1) rfl)) rfl
theorem k_242 : Jvm.Cond.instanceMethod ({ cls := "TurnHost$HostProcess", name := "renew", desc := "(ILTurnHost$Term;LTurnHost$Term;)V" } : MethodName) ∈ th_tb := tbg (tbl2 (List.mem_of_getElem? (i := 2) rfl)) rfl
theorem k_243 : Jvm.Cond.selects "TurnHost$HostProcess" ({ cls := "TurnHost$HostProcess", name := "renew", desc := "(ILTurnHost$Term;LTurnHost$Term;)V" } : MethodName) ({ cls := "TurnHost$HostProcess", name := "renew", desc := "(ILTurnHost$Term;LTurnHost$Term;)V" } : MethodName) ∈ th_tb := tbg (tbl2 (List.mem_of_getElem? (i := 3) rfl)) rfl
theorem k_244 : Jvm.Cond.code ({ cls := "TurnHost$HostProcess", name := "renew", desc := "(ILTurnHost$Term;LTurnHost$Term;)V" } : MethodName) prog_2_method_2_code (5 : Nat) (Option.none : Option Jvm.ClassFile.FieldType) ∈ th_tb := tbg (tbl2 (List.mem_of_getElem? (i := 4) rfl)) rfl
theorem k_245 : Jvm.Cond.methodLink "TurnHost$HostProcess" (39 : Nat) ({ cls := "TurnHost$Mailbox", name := "empty", desc := "()V" } : MethodName) ∈ th_tb := tbg (tbl2 (List.mem_of_getElem? (i := 5) rfl)) rfl
theorem k_246 : Jvm.Cond.instanceMethod ({ cls := "TurnHost$Mailbox", name := "empty", desc := "()V" } : MethodName) ∈ th_tb := tbg (tbl2 (List.mem_of_getElem? (i := 6) rfl)) rfl
theorem k_247 : Jvm.Cond.selects "TurnHost$Mailbox" ({ cls := "TurnHost$Mailbox", name := "empty", desc := "()V" } : MethodName) ({ cls := "TurnHost$Mailbox", name := "empty", desc := "()V" } : MethodName) ∈ th_tb := tbg (tbl2 (List.mem_of_getElem? (i := 7) rfl)) rfl
theorem k_248 : Jvm.Cond.code ({ cls := "TurnHost$Mailbox", name := "empty", desc := "()V" } : MethodName) prog_5_method_2_code (1 : Nat) (Option.none : Option Jvm.ClassFile.FieldType) ∈ th_tb := tbg (tbl2 (List.mem_of_getElem? (i := 8) rfl)) rfl
theorem k_249 : Jvm.Cond.methodLink "TurnHost$Society" (62 : Nat) ({ cls := "TurnHost$Line", name := "append", desc := "(I)V" } : MethodName) ∈ th_tb := tbg (tbl2 (List.mem_of_getElem? (i := 9) rfl)) rfl
theorem k_250 : Jvm.Cond.instanceMethod ({ cls := "TurnHost$Line", name := "append", desc := "(I)V" } : MethodName) ∈ th_tb := tbg (tbl2 (List.mem_of_getElem? (i := 10) rfl)) rfl
theorem k_251 : Jvm.Cond.selects "TurnHost$Line" ({ cls := "TurnHost$Line", name := "append", desc := "(I)V" } : MethodName) ({ cls := "TurnHost$Line", name := "append", desc := "(I)V" } : MethodName) ∈ th_tb := tbg (tbl2 (List.mem_of_getElem? (i := 11) rfl)) rfl
theorem k_252 : Jvm.Cond.code ({ cls := "TurnHost$Line", name := "append", desc := "(I)V" } : MethodName) prog_3_method_4_code (2 : Nat) (Option.none : Option Jvm.ClassFile.FieldType) ∈ th_tb := tbg (tbl2 (List.mem_of_getElem? (i := 12) rfl)) rfl
theorem k_253 : Jvm.Cond.methodLink "TurnHostLaw" (31 : Nat) ({ cls := "TurnHost", name := "tell", desc := "(II)Z" } : MethodName) ∈ th_tb := tbg (tbl2 (List.mem_of_getElem? (i := 13) rfl)) rfl
theorem k_254 : Jvm.Cond.instanceMethod ({ cls := "TurnHost", name := "tell", desc := "(II)Z" } : MethodName) ∈ th_tb := tbg (tbl2 (List.mem_of_getElem? (i := 14) rfl)) rfl
theorem k_255 : Jvm.Cond.selects "TurnHost" ({ cls := "TurnHost", name := "tell", desc := "(II)Z" } : MethodName) ({ cls := "TurnHost", name := "tell", desc := "(II)Z" } : MethodName) ∈ th_tb := tbg (tbl2 (List.mem_of_getElem? (i := 15) rfl)) rfl
theorem k_256 : Jvm.Cond.code ({ cls := "TurnHost", name := "tell", desc := "(II)Z" } : MethodName) prog_1_method_4_code (4 : Nat) (Option.some Jvm.ClassFile.FieldType.boolean) ∈ th_tb := tbg (tbl2 (List.mem_of_getElem? (i := 16) rfl)) rfl
theorem k_257 : Jvm.Cond.methodLink "TurnHost" (55 : Nat) ({ cls := "TurnHost$Society", name := "numbered", desc := "(I)LTurnHost$HostProcess;" } : MethodName) ∈ th_tb := tbg (tbl2 (List.mem_of_getElem? (i := 17) rfl)) rfl
theorem k_258 : Jvm.Cond.instanceMethod ({ cls := "TurnHost$Society", name := "numbered", desc := "(I)LTurnHost$HostProcess;" } : MethodName) ∈ th_tb := tbg (tbl2 (List.mem_of_getElem? (i := 18) rfl)) rfl
theorem k_259 : Jvm.Cond.selects "TurnHost$Society" ({ cls := "TurnHost$Society", name := "numbered", desc := "(I)LTurnHost$HostProcess;" } : MethodName) ({ cls := "TurnHost$Society", name := "numbered", desc := "(I)LTurnHost$HostProcess;" } : MethodName) ∈ th_tb := tbg (tbl2 (List.mem_of_getElem? (i := 19) rfl)) rfl
theorem k_260 : Jvm.Cond.code ({ cls := "TurnHost$Society", name := "numbered", desc := "(I)LTurnHost$HostProcess;" } : MethodName) prog_7_method_3_code (2 : Nat) (Option.some (Jvm.ClassFile.FieldType.object "TurnHost$HostProcess")) ∈ th_tb := tbg (tbl2 (List.mem_of_getElem? (i := 20) rfl)) rfl
theorem k_261 : Jvm.Cond.methodLink "TurnHost" (62 : Nat) ({ cls := "TurnHost$Society", name := "deliver", desc := "(LTurnHost$HostProcess;LTurnHost$Term;)V" } : MethodName) ∈ th_tb := tbg (tbl2 (List.mem_of_getElem? (i := 21) rfl)) rfl
theorem k_262 : Jvm.Cond.instanceMethod ({ cls := "TurnHost$Society", name := "deliver", desc := "(LTurnHost$HostProcess;LTurnHost$Term;)V" } : MethodName) ∈ th_tb := tbg (tbl2 (List.mem_of_getElem? (i := 22) rfl)) rfl
theorem k_263 : Jvm.Cond.selects "TurnHost$Society" ({ cls := "TurnHost$Society", name := "deliver", desc := "(LTurnHost$HostProcess;LTurnHost$Term;)V" } : MethodName) ({ cls := "TurnHost$Society", name := "deliver", desc := "(LTurnHost$HostProcess;LTurnHost$Term;)V" } : MethodName) ∈ th_tb := tbg (tbl2 (List.mem_of_getElem? (i := 23) rfl)) rfl
theorem k_264 : Jvm.Cond.code ({ cls := "TurnHost$Society", name := "deliver", desc := "(LTurnHost$HostProcess;LTurnHost$Term;)V" } : MethodName) prog_7_method_6_code (3 : Nat) (Option.none : Option Jvm.ClassFile.FieldType) ∈ th_tb := tbg (tbl2 (List.mem_of_getElem? (i := 24) rfl)) rfl
theorem k_265 : Jvm.Cond.methodLink "TurnHost$Society" (72 : Nat) ({ cls := "TurnHost$Mailbox", name := "put", desc := "(LTurnHost$Term;)Z" } : MethodName) ∈ th_tb := tbg (tbl2 (List.mem_of_getElem? (i := 25) rfl)) rfl
theorem k_266 : Jvm.Cond.instanceMethod ({ cls := "TurnHost$Mailbox", name := "put", desc := "(LTurnHost$Term;)Z" } : MethodName) ∈ th_tb := tbg (tbl2 (List.mem_of_getElem? (i := 26) rfl)) rfl
theorem k_267 : Jvm.Cond.selects "TurnHost$Mailbox" ({ cls := "TurnHost$Mailbox", name := "put", desc := "(LTurnHost$Term;)Z" } : MethodName) ({ cls := "TurnHost$Mailbox", name := "put", desc := "(LTurnHost$Term;)Z" } : MethodName) ∈ th_tb := tbg (tbl2 (List.mem_of_getElem? (i := 27) rfl)) rfl
theorem k_268 : Jvm.Cond.code ({ cls := "TurnHost$Mailbox", name := "put", desc := "(LTurnHost$Term;)Z" } : MethodName) prog_5_method_5_code (2 : Nat) (Option.some Jvm.ClassFile.FieldType.boolean) ∈ th_tb := tbg (tbl2 (List.mem_of_getElem? (i := 28) rfl)) rfl
theorem k_269 : Jvm.Cond.methodLink "TurnHostLaw" (36 : Nat) ({ cls := "TurnHost", name := "run", desc := "(I)I" } : MethodName) ∈ th_tb := tbg (tbl2 (List.mem_of_getElem? (i := 29) rfl)) rfl
theorem k_270 : Jvm.Cond.instanceMethod ({ cls := "TurnHost", name := "run", desc := "(I)I" } : MethodName) ∈ th_tb := tbg (tbl2 (List.mem_of_getElem? (i := 30) rfl)) rfl
theorem k_271 : Jvm.Cond.selects "TurnHost" ({ cls := "TurnHost", name := "run", desc := "(I)I" } : MethodName) ({ cls := "TurnHost", name := "run", desc := "(I)I" } : MethodName) ∈ th_tb := tbg (tbl2 (List.mem_of_getElem? (i := 31) rfl)) rfl
theorem k_272 : Jvm.Cond.code ({ cls := "TurnHost", name := "run", desc := "(I)I" } : MethodName) prog_1_method_5_code (4 : Nat) (Option.some Jvm.ClassFile.FieldType.int) ∈ th_tb := tbg (tbl2 (List.mem_of_getElem? (i := 32) rfl)) rfl
theorem k_273 : Jvm.Cond.methodLink "TurnHost" (70 : Nat) ({ cls := "TurnHost$Line", name := "at", desc := "(I)I" } : MethodName) ∈ th_tb := tbg (tbl2 (List.mem_of_getElem? (i := 33) rfl)) rfl
theorem k_274 : Jvm.Cond.instanceMethod ({ cls := "TurnHost$Line", name := "at", desc := "(I)I" } : MethodName) ∈ th_tb := tbg (tbl2 (List.mem_of_getElem? (i := 34) rfl)) rfl
theorem k_275 : Jvm.Cond.selects "TurnHost$Line" ({ cls := "TurnHost$Line", name := "at", desc := "(I)I" } : MethodName) ({ cls := "TurnHost$Line", name := "at", desc := "(I)I" } : MethodName) ∈ th_tb := tbg (tbl2 (List.mem_of_getElem? (i := 35) rfl)) rfl
theorem k_276 : Jvm.Cond.code ({ cls := "TurnHost$Line", name := "at", desc := "(I)I" } : MethodName) prog_3_method_3_code (2 : Nat) (Option.some Jvm.ClassFile.FieldType.int) ∈ th_tb := tbg (tbl2 (List.mem_of_getElem? (i := 36) rfl)) rfl
theorem k_277 : Jvm.Cond.methodLink "TurnHost" (76 : Nat) ({ cls := "TurnHost$Machine", name := "reduce", desc := "(LTurnHost$HostProcess;)V" } : MethodName) ∈ th_tb := tbg (tbl2 (List.mem_of_getElem? (i := 37) rfl)) rfl
theorem k_278 : Jvm.Cond.instanceMethod ({ cls := "TurnHost$Machine", name := "reduce", desc := "(LTurnHost$HostProcess;)V" } : MethodName) ∈ th_tb := tbg (tbl2 (List.mem_of_getElem? (i := 38) rfl)) rfl
theorem k_279 : Jvm.Cond.selects "TurnHost$Machine" ({ cls := "TurnHost$Machine", name := "reduce", desc := "(LTurnHost$HostProcess;)V" } : MethodName) ({ cls := "TurnHost$Machine", name := "reduce", desc := "(LTurnHost$HostProcess;)V" } : MethodName) ∈ th_tb := tbg (tbl2 (List.mem_of_getElem? (i := 39) rfl)) rfl
theorem k_280 : Jvm.Cond.code ({ cls := "TurnHost$Machine", name := "reduce", desc := "(LTurnHost$HostProcess;)V" } : MethodName) prog_4_method_2_code (4 : Nat) (Option.none : Option Jvm.ClassFile.FieldType) ∈ th_tb := tbg (tbl2 (List.mem_of_getElem? (i := 40) rfl)) rfl
theorem k_281 : Jvm.Cond.methodLink "TurnHost$Machine" (34 : Nat) ({ cls := "TurnHost$Program", name := "reaches", desc := "(I)Z" } : MethodName) ∈ th_tb := tbg (tbl2 (List.mem_of_getElem? (i := 41) rfl)) rfl
theorem k_282 : Jvm.Cond.instanceMethod ({ cls := "TurnHost$Program", name := "reaches", desc := "(I)Z" } : MethodName) ∈ th_tb := tbg (tbl2 (List.mem_of_getElem? (i := 42) rfl)) rfl
theorem k_283 : Jvm.Cond.selects "TurnHost$Program" ({ cls := "TurnHost$Program", name := "reaches", desc := "(I)Z" } : MethodName) ({ cls := "TurnHost$Program", name := "reaches", desc := "(I)Z" } : MethodName) ∈ th_tb := tbg (tbl2 (List.mem_of_getElem? (i := 43) rfl)) rfl
theorem k_284 : Jvm.Cond.code ({ cls := "TurnHost$Program", name := "reaches", desc := "(I)Z" } : MethodName) prog_6_method_4_code (2 : Nat) (Option.some Jvm.ClassFile.FieldType.boolean) ∈ th_tb := tbg (tbl2 (List.mem_of_getElem? (i := 44) rfl)) rfl
theorem k_287 : Jvm.Cond.instanceMethod ({ cls := "TurnHost$Society", name := "end", desc := "(LTurnHost$HostProcess;LTurnHost$Term;)V" } : MethodName) ∈ th_tb := tbg (tbl2 (List.mem_of_getElem? (i := 47) rfl)) rfl
theorem k_288 : Jvm.Cond.code ({ cls := "TurnHost$Society", name := "end", desc := "(LTurnHost$HostProcess;LTurnHost$Term;)V" } : MethodName) prog_7_method_10_code (4 : Nat) (Option.none : Option Jvm.ClassFile.FieldType) ∈ th_tb := tbg (tbl2 (List.mem_of_getElem? (i := 48) rfl)) rfl
theorem k_289 : Jvm.Cond.methodLink "TurnHost$Society" (78 : Nat) ({ cls := "TurnHost$Line", name := "leave", desc := "(I)V" } : MethodName) ∈ th_tb := tbg (tbl2 (List.mem_of_getElem? (i := 49) rfl)) rfl
theorem k_290 : Jvm.Cond.instanceMethod ({ cls := "TurnHost$Line", name := "leave", desc := "(I)V" } : MethodName) ∈ th_tb := tbg (tbl2 (List.mem_of_getElem? (i := 50) rfl)) rfl
theorem k_291 : Jvm.Cond.selects "TurnHost$Line" ({ cls := "TurnHost$Line", name := "leave", desc := "(I)V" } : MethodName) ({ cls := "TurnHost$Line", name := "leave", desc := "(I)V" } : MethodName) ∈ th_tb := tbg (tbl2 (List.mem_of_getElem? (i := 51) rfl)) rfl
theorem k_292 : Jvm.Cond.code ({ cls := "TurnHost$Line", name := "leave", desc := "(I)V" } : MethodName) prog_3_method_5_code (4 : Nat) (Option.none : Option Jvm.ClassFile.FieldType) ∈ th_tb := tbg (tbl2 (List.mem_of_getElem? (i := 52) rfl)) rfl
theorem k_293 : Jvm.Cond.methodLink "TurnHost$Society" (87 : Nat) ({ cls := "TurnHost$Society", name := "untie", desc := "(LTurnHost$HostProcess;LTurnHost$HostProcess;)V" } : MethodName) ∈ th_tb := tbg (tbl2 (List.mem_of_getElem? (i := 53) rfl)) rfl
theorem k_295 : Jvm.Cond.instanceMethod ({ cls := "TurnHost$Society", name := "untie", desc := "(LTurnHost$HostProcess;LTurnHost$HostProcess;)V" } : MethodName) ∈ th_tb := tbg (tbl2 (List.mem_of_getElem? (i := 55) rfl)) rfl
theorem k_296 : Jvm.Cond.code ({ cls := "TurnHost$Society", name := "untie", desc := "(LTurnHost$HostProcess;LTurnHost$HostProcess;)V" } : MethodName) prog_7_method_9_code (3 : Nat) (Option.none : Option Jvm.ClassFile.FieldType) ∈ th_tb := tbg (tbl2 (List.mem_of_getElem? (i := 56) rfl)) rfl
theorem k_297 : Jvm.Cond.methodLink "TurnHost$Society" (91 : Nat) ({ cls := "TurnHost$Society", name := "signal", desc := "(LTurnHost$HostProcess;LTurnHost$HostProcess;LTurnHost$Term;)V" } : MethodName) ∈ th_tb := tbg (tbl2 (List.mem_of_getElem? (i := 57) rfl)) rfl
theorem k_299 : Jvm.Cond.instanceMethod ({ cls := "TurnHost$Society", name := "signal", desc := "(LTurnHost$HostProcess;LTurnHost$HostProcess;LTurnHost$Term;)V" } : MethodName) ∈ th_tb := tbg (tbl2 (List.mem_of_getElem? (i := 59) rfl)) rfl
theorem k_300 : Jvm.Cond.code ({ cls := "TurnHost$Society", name := "signal", desc := "(LTurnHost$HostProcess;LTurnHost$HostProcess;LTurnHost$Term;)V" } : MethodName) prog_7_method_11_code (4 : Nat) (Option.none : Option Jvm.ClassFile.FieldType) ∈ th_tb := tbg (tbl2 (List.mem_of_getElem? (i := 60) rfl)) rfl
theorem k_301 : Jvm.Cond.methodLink "TurnHost$Society" (99 : Nat) ({ cls := "TurnHost$Society", name := "exitNotice", desc := "(LTurnHost$HostProcess;LTurnHost$Term;)LTurnHost$Term;" } : MethodName) ∈ th_tb := tbg (tbl2 (List.mem_of_getElem? (i := 61) rfl)) rfl
theorem k_303 : Jvm.Cond.instanceMethod ({ cls := "TurnHost$Society", name := "exitNotice", desc := "(LTurnHost$HostProcess;LTurnHost$Term;)LTurnHost$Term;" } : MethodName) ∈ th_tb := tbg (tbl2 (List.mem_of_getElem? (i := 63) rfl)) rfl
theorem k_304 : Jvm.Cond.code ({ cls := "TurnHost$Society", name := "exitNotice", desc := "(LTurnHost$HostProcess;LTurnHost$Term;)LTurnHost$Term;" } : MethodName) prog_7_method_12_code (4 : Nat) (Option.some (Jvm.ClassFile.FieldType.object "TurnHost$Term")) ∈ th_tb := tbg (tbl2 (List.mem_of_getElem? (i := 64) rfl)) rfl
theorem k_305 : Jvm.Cond.methodLink "TurnHost$Society" (120 : Nat) ({ cls := "TurnHost$Term", name := "<init>", desc := "(ILTurnHost$Term;LTurnHost$Term;)V" } : MethodName) ∈ th_tb := tbg (tbl2 (List.mem_of_getElem? (i := 65) rfl)) rfl
theorem k_306 : Jvm.Cond.instanceMethod ({ cls := "TurnHost$Term", name := "<init>", desc := "(ILTurnHost$Term;LTurnHost$Term;)V" } : MethodName) ∈ th_tb := tbg (tbl2 (List.mem_of_getElem? (i := 66) rfl)) rfl
theorem k_307 : Jvm.Cond.code ({ cls := "TurnHost$Term", name := "<init>", desc := "(ILTurnHost$Term;LTurnHost$Term;)V" } : MethodName) prog_8_method_2_code (4 : Nat) (Option.none : Option Jvm.ClassFile.FieldType) ∈ th_tb := tbg (tbl2 (List.mem_of_getElem? (i := 67) rfl)) rfl
theorem k_308 : Jvm.Cond.methodLink "TurnHost$Society" (103 : Nat) ({ cls := "TurnHost$Society", name := "deliver", desc := "(LTurnHost$HostProcess;LTurnHost$Term;)V" } : MethodName) ∈ th_tb := tbg (tbl2 (List.mem_of_getElem? (i := 68) rfl)) rfl
theorem k_310 : Jvm.Cond.static ({ cls := "TurnHost$Term", name := "alike", desc := "(LTurnHost$Term;LTurnHost$Term;)Z" } : MethodName) ∈ th_tb := tbg (tbl2 (List.mem_of_getElem? (i := 70) rfl)) rfl
theorem k_311 : Jvm.Cond.code ({ cls := "TurnHost$Term", name := "alike", desc := "(LTurnHost$Term;LTurnHost$Term;)Z" } : MethodName) prog_8_method_7_code (2 : Nat) (Option.some Jvm.ClassFile.FieldType.boolean) ∈ th_tb := tbg (tbl2 (List.mem_of_getElem? (i := 71) rfl)) rfl
theorem k_312 : Jvm.Cond.methodLink "TurnHost$Term" (42 : Nat) ({ cls := "TurnHost$Term", name := "hasParts", desc := "()Z" } : MethodName) ∈ th_tb := tbg (tbl2 (List.mem_of_getElem? (i := 72) rfl)) rfl
theorem k_313 : Jvm.Cond.instanceMethod ({ cls := "TurnHost$Term", name := "hasParts", desc := "()Z" } : MethodName) ∈ th_tb := tbg (tbl2 (List.mem_of_getElem? (i := 73) rfl)) rfl
theorem k_314 : Jvm.Cond.selects "TurnHost$Term" ({ cls := "TurnHost$Term", name := "hasParts", desc := "()Z" } : MethodName) ({ cls := "TurnHost$Term", name := "hasParts", desc := "()Z" } : MethodName) ∈ th_tb := tbg (tbl2 (List.mem_of_getElem? (i := 74) rfl)) rfl
theorem k_315 : Jvm.Cond.code ({ cls := "TurnHost$Term", name := "hasParts", desc := "()Z" } : MethodName) prog_8_method_4_code (1 : Nat) (Option.some Jvm.ClassFile.FieldType.boolean) ∈ th_tb := tbg (tbl2 (List.mem_of_getElem? (i := 75) rfl)) rfl
theorem k_316 : Jvm.Cond.methodLink "TurnHost$Term" (45 : Nat) ({ cls := "TurnHost$Term", name := "alike", desc := "(LTurnHost$Term;LTurnHost$Term;)Z" } : MethodName) ∈ th_tb := tbg (tbl2 (List.mem_of_getElem? (i := 76) rfl)) rfl
theorem k_317 : Jvm.Cond.methodLink "TurnHost$Society" (111 : Nat) ({ cls := "TurnHost$Society", name := "end", desc := "(LTurnHost$HostProcess;LTurnHost$Term;)V" } : MethodName) ∈ th_tb := tbg (tbl2 (List.mem_of_getElem? (i := 77) rfl)) rfl
theorem k_318 : Jvm.Cond.methodLink "TurnHost$Machine" (50 : Nat) ({ cls := "TurnHost$Machine", name := "perform", desc := "(LTurnHost$HostProcess;IIII)Z" } : MethodName) ∈ th_tb := tbg (tbl2 (List.mem_of_getElem? (i := 78) rfl)) rfl
theorem k_320 : Jvm.Cond.instanceMethod ({ cls := "TurnHost$Machine", name := "perform", desc := "(LTurnHost$HostProcess;IIII)Z" } : MethodName) ∈ th_tb := tbg (tbl2 (List.mem_of_getElem? (i := 80) rfl)) rfl
theorem k_321 : Jvm.Cond.code ({ cls := "TurnHost$Machine", name := "perform", desc := "(LTurnHost$HostProcess;IIII)Z" } : MethodName) prog_4_method_3_code (7 : Nat) (Option.some Jvm.ClassFile.FieldType.boolean) ∈ th_tb := tbg (tbl2 (List.mem_of_getElem? (i := 81) rfl)) rfl
theorem k_322 : Jvm.Cond.classLink "TurnHost$Machine" (57 : Nat) "TurnHost$Term" ∈ th_tb := tbg (tbl2 (List.mem_of_getElem? (i := 82) rfl)) rfl
theorem k_323 : Jvm.Cond.methodLink "TurnHost$Machine" (59 : Nat) ({ cls := "TurnHost$Term", name := "<init>", desc := "(II)V" } : MethodName) ∈ th_tb := tbg (tbl2 (List.mem_of_getElem? (i := 83) rfl)) rfl
theorem k_324 : Jvm.Cond.methodLink "TurnHost$Machine" (62 : Nat) ({ cls := "TurnHost$HostProcess", name := "set", desc := "(ILTurnHost$Term;)Z" } : MethodName) ∈ th_tb := tbg (tbl2 (List.mem_of_getElem? (i := 84) rfl)) rfl
theorem k_325 : Jvm.Cond.instanceMethod ({ cls := "TurnHost$HostProcess", name := "set", desc := "(ILTurnHost$Term;)Z" } : MethodName) ∈ th_tb := tbg (tbl2 (List.mem_of_getElem? (i := 85) rfl)) rfl
theorem k_326 : Jvm.Cond.selects "TurnHost$HostProcess" ({ cls := "TurnHost$HostProcess", name := "set", desc := "(ILTurnHost$Term;)Z" } : MethodName) ({ cls := "TurnHost$HostProcess", name := "set", desc := "(ILTurnHost$Term;)Z" } : MethodName) ∈ th_tb := tbg (tbl2 (List.mem_of_getElem? (i := 86) rfl)) rfl
theorem k_327 : Jvm.Cond.code ({ cls := "TurnHost$HostProcess", name := "set", desc := "(ILTurnHost$Term;)Z" } : MethodName) prog_2_method_3_code (3 : Nat) (Option.some Jvm.ClassFile.FieldType.boolean) ∈ th_tb := tbg (tbl2 (List.mem_of_getElem? (i := 87) rfl)) rfl
theorem k_328 : Jvm.Cond.methodLink "TurnHost$Machine" (73 : Nat) ({ cls := "TurnHost$Term", name := "joined", desc := "(ILTurnHost$Term;LTurnHost$Term;)LTurnHost$Term;" } : MethodName) ∈ th_tb := tbg (tbl2 (List.mem_of_getElem? (i := 88) rfl)) rfl
theorem k_329 : Jvm.Cond.static ({ cls := "TurnHost$Term", name := "joined", desc := "(ILTurnHost$Term;LTurnHost$Term;)LTurnHost$Term;" } : MethodName) ∈ th_tb := tbg (tbl2 (List.mem_of_getElem? (i := 89) rfl)) rfl
theorem k_330 : Jvm.Cond.code ({ cls := "TurnHost$Term", name := "joined", desc := "(ILTurnHost$Term;LTurnHost$Term;)LTurnHost$Term;" } : MethodName) prog_8_method_3_code (3 : Nat) (Option.some (Jvm.ClassFile.FieldType.object "TurnHost$Term")) ∈ th_tb := tbg (tbl2 (List.mem_of_getElem? (i := 90) rfl)) rfl
theorem k_331 : Jvm.Cond.classLink "TurnHost$Term" (10 : Nat) "TurnHost$Term" ∈ th_tb := tbg (tbl2 (List.mem_of_getElem? (i := 91) rfl)) rfl
theorem k_332 : Jvm.Cond.methodLink "TurnHost$Term" (28 : Nat) ({ cls := "TurnHost$Term", name := "<init>", desc := "(ILTurnHost$Term;LTurnHost$Term;)V" } : MethodName) ∈ th_tb := tbg (tbl2 (List.mem_of_getElem? (i := 92) rfl)) rfl
theorem k_333 : Jvm.Cond.methodLink "TurnHost$Machine" (83 : Nat) ({ cls := "TurnHost$Machine", name := "areInts", desc := "(LTurnHost$Term;LTurnHost$Term;)Z" } : MethodName) ∈ th_tb := tbg (tbl2 (List.mem_of_getElem? (i := 93) rfl)) rfl
theorem k_334 : Jvm.Cond.static ({ cls := "TurnHost$Machine", name := "areInts", desc := "(LTurnHost$Term;LTurnHost$Term;)Z" } : MethodName) ∈ th_tb := tbg (tbl2 (List.mem_of_getElem? (i := 94) rfl)) rfl
theorem k_335 : Jvm.Cond.code ({ cls := "TurnHost$Machine", name := "areInts", desc := "(LTurnHost$Term;LTurnHost$Term;)Z" } : MethodName) prog_4_method_4_code (2 : Nat) (Option.some Jvm.ClassFile.FieldType.boolean) ∈ th_tb := tbg (tbl2 (List.mem_of_getElem? (i := 95) rfl)) rfl
theorem k_336 : Jvm.Cond.methodLink "TurnHost$Machine" (90 : Nat) ({ cls := "TurnHost$Machine", name := "goUnless", desc := "(LTurnHost$HostProcess;ZI)Z" } : MethodName) ∈ th_tb := tbg (tbl2 (List.mem_of_getElem? (i := 96) rfl)) rfl
theorem k_337 : Jvm.Cond.static ({ cls := "TurnHost$Machine", name := "goUnless", desc := "(LTurnHost$HostProcess;ZI)Z" } : MethodName) ∈ th_tb := tbg (tbl2 (List.mem_of_getElem? (i := 97) rfl)) rfl
theorem k_338 : Jvm.Cond.code ({ cls := "TurnHost$Machine", name := "goUnless", desc := "(LTurnHost$HostProcess;ZI)Z" } : MethodName) prog_4_method_5_code (3 : Nat) (Option.some Jvm.ClassFile.FieldType.boolean) ∈ th_tb := tbg (tbl2 (List.mem_of_getElem? (i := 98) rfl)) rfl
theorem k_339 : Jvm.Cond.methodLink "TurnHost$Machine" (100 : Nat) ({ cls := "TurnHost$HostProcess", name := "goTo", desc := "(I)Z" } : MethodName) ∈ th_tb := tbg (tbl2 (List.mem_of_getElem? (i := 99) rfl)) rfl
theorem k_340 : Jvm.Cond.instanceMethod ({ cls := "TurnHost$HostProcess", name := "goTo", desc := "(I)Z" } : MethodName) ∈ th_tb := tbg (tbl2 (List.mem_of_getElem? (i := 100) rfl)) rfl
theorem k_341 : Jvm.Cond.selects "TurnHost$HostProcess" ({ cls := "TurnHost$HostProcess", name := "goTo", desc := "(I)Z" } : MethodName) ({ cls := "TurnHost$HostProcess", name := "goTo", desc := "(I)Z" } : MethodName) ∈ th_tb := tbg (tbl2 (List.mem_of_getElem? (i := 101) rfl)) rfl
theorem k_342 : Jvm.Cond.code ({ cls := "TurnHost$HostProcess", name := "goTo", desc := "(I)Z" } : MethodName) prog_2_method_4_code (2 : Nat) (Option.some Jvm.ClassFile.FieldType.boolean) ∈ th_tb := tbg (tbl2 (List.mem_of_getElem? (i := 102) rfl)) rfl
theorem k_344 : Jvm.Cond.methodLink "TurnHost$Machine" (103 : Nat) ({ cls := "TurnHost$HostProcess", name := "pushReturn", desc := "()Z" } : MethodName) ∈ th_tb := tbg (tbl2 (List.mem_of_getElem? (i := 104) rfl)) rfl
theorem k_345 : Jvm.Cond.instanceMethod ({ cls := "TurnHost$HostProcess", name := "pushReturn", desc := "()Z" } : MethodName) ∈ th_tb := tbg (tbl2 (List.mem_of_getElem? (i := 105) rfl)) rfl
theorem k_346 : Jvm.Cond.selects "TurnHost$HostProcess" ({ cls := "TurnHost$HostProcess", name := "pushReturn", desc := "()Z" } : MethodName) ({ cls := "TurnHost$HostProcess", name := "pushReturn", desc := "()Z" } : MethodName) ∈ th_tb := tbg (tbl2 (List.mem_of_getElem? (i := 106) rfl)) rfl
theorem k_347 : Jvm.Cond.code ({ cls := "TurnHost$HostProcess", name := "pushReturn", desc := "()Z" } : MethodName) prog_2_method_5_code (1 : Nat) (Option.some Jvm.ClassFile.FieldType.boolean) ∈ th_tb := tbg (tbl2 (List.mem_of_getElem? (i := 107) rfl)) rfl
theorem k_348 : Jvm.Cond.methodLink "TurnHost$Machine" (107 : Nat) ({ cls := "TurnHost$Machine", name := "goBack", desc := "(LTurnHost$HostProcess;)Z" } : MethodName) ∈ th_tb := tbg (tbl2 (List.mem_of_getElem? (i := 108) rfl)) rfl
theorem k_350 : Jvm.Cond.instanceMethod ({ cls := "TurnHost$Machine", name := "goBack", desc := "(LTurnHost$HostProcess;)Z" } : MethodName) ∈ th_tb := tbg (tbl2 (List.mem_of_getElem? (i := 110) rfl)) rfl
theorem k_351 : Jvm.Cond.code ({ cls := "TurnHost$Machine", name := "goBack", desc := "(LTurnHost$HostProcess;)Z" } : MethodName) prog_4_method_6_code (2 : Nat) (Option.some Jvm.ClassFile.FieldType.boolean) ∈ th_tb := tbg (tbl2 (List.mem_of_getElem? (i := 111) rfl)) rfl
theorem k_352 : Jvm.Cond.methodLink "TurnHost$Machine" (111 : Nat) ({ cls := "TurnHost$Society", name := "bearing", desc := "(LTurnHost$Term;)LTurnHost$HostProcess;" } : MethodName) ∈ th_tb := tbg (tbl2 (List.mem_of_getElem? (i := 112) rfl)) rfl
theorem k_353 : Jvm.Cond.instanceMethod ({ cls := "TurnHost$Society", name := "bearing", desc := "(LTurnHost$Term;)LTurnHost$HostProcess;" } : MethodName) ∈ th_tb := tbg (tbl2 (List.mem_of_getElem? (i := 113) rfl)) rfl
theorem k_354 : Jvm.Cond.selects "TurnHost$Society" ({ cls := "TurnHost$Society", name := "bearing", desc := "(LTurnHost$Term;)LTurnHost$HostProcess;" } : MethodName) ({ cls := "TurnHost$Society", name := "bearing", desc := "(LTurnHost$Term;)LTurnHost$HostProcess;" } : MethodName) ∈ th_tb := tbg (tbl2 (List.mem_of_getElem? (i := 114) rfl)) rfl
theorem k_355 : Jvm.Cond.code ({ cls := "TurnHost$Society", name := "bearing", desc := "(LTurnHost$Term;)LTurnHost$HostProcess;" } : MethodName) prog_7_method_4_code (2 : Nat) (Option.some (Jvm.ClassFile.FieldType.object "TurnHost$HostProcess")) ∈ th_tb := tbg (tbl2 (List.mem_of_getElem? (i := 115) rfl)) rfl
theorem k_356 : Jvm.Cond.methodLink "TurnHost$Society" (53 : Nat) ({ cls := "TurnHost$Society", name := "numbered", desc := "(I)LTurnHost$HostProcess;" } : MethodName) ∈ th_tb := tbg (tbl2 (List.mem_of_getElem? (i := 116) rfl)) rfl
theorem k_357 : Jvm.Cond.methodLink "TurnHost$Machine" (115 : Nat) ({ cls := "TurnHost$Machine", name := "send", desc := "(LTurnHost$HostProcess;LTurnHost$Term;)Z" } : MethodName) ∈ th_tb := tbg (tbl2 (List.mem_of_getElem? (i := 117) rfl)) rfl
theorem k_359 : Jvm.Cond.instanceMethod ({ cls := "TurnHost$Machine", name := "send", desc := "(LTurnHost$HostProcess;LTurnHost$Term;)Z" } : MethodName) ∈ th_tb := tbg (tbl2 (List.mem_of_getElem? (i := 119) rfl)) rfl
theorem k_360 : Jvm.Cond.code ({ cls := "TurnHost$Machine", name := "send", desc := "(LTurnHost$HostProcess;LTurnHost$Term;)Z" } : MethodName) prog_4_method_7_code (3 : Nat) (Option.some Jvm.ClassFile.FieldType.boolean) ∈ th_tb := tbg (tbl2 (List.mem_of_getElem? (i := 120) rfl)) rfl
theorem k_361 : Jvm.Cond.methodLink "TurnHost$Machine" (163 : Nat) ({ cls := "TurnHost$Society", name := "deliver", desc := "(LTurnHost$HostProcess;LTurnHost$Term;)V" } : MethodName) ∈ th_tb := tbg (tbl2 (List.mem_of_getElem? (i := 121) rfl)) rfl
theorem k_362 : Jvm.Cond.methodLink "TurnHost$Machine" (123 : Nat) ({ cls := "TurnHost$Mailbox", name := "marked", desc := "()LTurnHost$Term;" } : MethodName) ∈ th_tb := tbg (tbl2 (List.mem_of_getElem? (i := 122) rfl)) rfl
theorem k_363 : Jvm.Cond.instanceMethod ({ cls := "TurnHost$Mailbox", name := "marked", desc := "()LTurnHost$Term;" } : MethodName) ∈ th_tb := tbg (tbl2 (List.mem_of_getElem? (i := 123) rfl)) rfl
theorem k_364 : Jvm.Cond.selects "TurnHost$Mailbox" ({ cls := "TurnHost$Mailbox", name := "marked", desc := "()LTurnHost$Term;" } : MethodName) ({ cls := "TurnHost$Mailbox", name := "marked", desc := "()LTurnHost$Term;" } : MethodName) ∈ th_tb := tbg (tbl2 (List.mem_of_getElem? (i := 124) rfl)) rfl
theorem k_365 : Jvm.Cond.code ({ cls := "TurnHost$Mailbox", name := "marked", desc := "()LTurnHost$Term;" } : MethodName) prog_5_method_4_code (1 : Nat) (Option.some (Jvm.ClassFile.FieldType.object "TurnHost$Term")) ∈ th_tb := tbg (tbl2 (List.mem_of_getElem? (i := 125) rfl)) rfl
theorem k_366 : Jvm.Cond.methodLink "TurnHost$Mailbox" (24 : Nat) ({ cls := "TurnHost$Mailbox", name := "at", desc := "(I)LTurnHost$Term;" } : MethodName) ∈ th_tb := tbg (tbl2 (List.mem_of_getElem? (i := 126) rfl)) rfl
theorem k_367 : Jvm.Cond.instanceMethod ({ cls := "TurnHost$Mailbox", name := "at", desc := "(I)LTurnHost$Term;" } : MethodName) ∈ th_tb := tbg (tbl2 (List.mem_of_getElem? (i := 127) rfl)) rfl
theorem k_368 : Jvm.Cond.selects "TurnHost$Mailbox" ({ cls := "TurnHost$Mailbox", name := "at", desc := "(I)LTurnHost$Term;" } : MethodName) ({ cls := "TurnHost$Mailbox", name := "at", desc := "(I)LTurnHost$Term;" } : MethodName) ∈ th_tb := tbg (tbl2 (List.mem_of_getElem? (i := 128) rfl)) rfl
theorem k_369 : Jvm.Cond.code ({ cls := "TurnHost$Mailbox", name := "at", desc := "(I)LTurnHost$Term;" } : MethodName) prog_5_method_3_code (2 : Nat) (Option.some (Jvm.ClassFile.FieldType.object "TurnHost$Term")) ∈ th_tb := tbg (tbl2 (List.mem_of_getElem? (i := 129) rfl)) rfl
theorem k_370 : Jvm.Cond.methodLink "TurnHost$Machine" (129 : Nat) ({ cls := "TurnHost$Mailbox", name := "take", desc := "()Z" } : MethodName) ∈ th_tb := tbg (tbl2 (List.mem_of_getElem? (i := 130) rfl)) rfl
theorem k_371 : Jvm.Cond.instanceMethod ({ cls := "TurnHost$Mailbox", name := "take", desc := "()Z" } : MethodName) ∈ th_tb := tbg (tbl2 (List.mem_of_getElem? (i := 131) rfl)) rfl
theorem k_372 : Jvm.Cond.selects "TurnHost$Mailbox" ({ cls := "TurnHost$Mailbox", name := "take", desc := "()Z" } : MethodName) ({ cls := "TurnHost$Mailbox", name := "take", desc := "()Z" } : MethodName) ∈ th_tb := tbg (tbl2 (List.mem_of_getElem? (i := 132) rfl)) rfl
theorem k_373 : Jvm.Cond.code ({ cls := "TurnHost$Mailbox", name := "take", desc := "()Z" } : MethodName) prog_5_method_6_code (2 : Nat) (Option.some Jvm.ClassFile.FieldType.boolean) ∈ th_tb := tbg (tbl2 (List.mem_of_getElem? (i := 133) rfl)) rfl
theorem k_374 : Jvm.Cond.methodLink "TurnHost$Mailbox" (28 : Nat) ({ cls := "TurnHost$Mailbox", name := "marked", desc := "()LTurnHost$Term;" } : MethodName) ∈ th_tb := tbg (tbl2 (List.mem_of_getElem? (i := 134) rfl)) rfl
theorem k_375 : Jvm.Cond.methodLink "TurnHost$Machine" (132 : Nat) ({ cls := "TurnHost$Machine", name := "passOver", desc := "(LTurnHost$HostProcess;I)Z" } : MethodName) ∈ th_tb := tbg (tbl2 (List.mem_of_getElem? (i := 135) rfl)) rfl
theorem k_376 : Jvm.Cond.static ({ cls := "TurnHost$Machine", name := "passOver", desc := "(LTurnHost$HostProcess;I)Z" } : MethodName) ∈ th_tb := tbg (tbl2 (List.mem_of_getElem? (i := 136) rfl)) rfl
theorem k_377 : Jvm.Cond.code ({ cls := "TurnHost$Machine", name := "passOver", desc := "(LTurnHost$HostProcess;I)Z" } : MethodName) prog_4_method_8_code (2 : Nat) (Option.some Jvm.ClassFile.FieldType.boolean) ∈ th_tb := tbg (tbl2 (List.mem_of_getElem? (i := 137) rfl)) rfl
theorem k_378 : Jvm.Cond.methodLink "TurnHost$Machine" (136 : Nat) ({ cls := "TurnHost$Machine", name := "waitOrGoOn", desc := "(LTurnHost$HostProcess;I)Z" } : MethodName) ∈ th_tb := tbg (tbl2 (List.mem_of_getElem? (i := 138) rfl)) rfl
theorem k_380 : Jvm.Cond.instanceMethod ({ cls := "TurnHost$Machine", name := "waitOrGoOn", desc := "(LTurnHost$HostProcess;I)Z" } : MethodName) ∈ th_tb := tbg (tbl2 (List.mem_of_getElem? (i := 140) rfl)) rfl
theorem k_381 : Jvm.Cond.code ({ cls := "TurnHost$Machine", name := "waitOrGoOn", desc := "(LTurnHost$HostProcess;I)Z" } : MethodName) prog_4_method_9_code (3 : Nat) (Option.some Jvm.ClassFile.FieldType.boolean) ∈ th_tb := tbg (tbl2 (List.mem_of_getElem? (i := 141) rfl)) rfl
theorem k_382 : Jvm.Cond.methodLink "TurnHost$Machine" (169 : Nat) ({ cls := "TurnHost$Society", name := "suspend", desc := "(LTurnHost$HostProcess;)V" } : MethodName) ∈ th_tb := tbg (tbl2 (List.mem_of_getElem? (i := 142) rfl)) rfl
theorem k_383 : Jvm.Cond.instanceMethod ({ cls := "TurnHost$Society", name := "suspend", desc := "(LTurnHost$HostProcess;)V" } : MethodName) ∈ th_tb := tbg (tbl2 (List.mem_of_getElem? (i := 143) rfl)) rfl
theorem k_384 : Jvm.Cond.selects "TurnHost$Society" ({ cls := "TurnHost$Society", name := "suspend", desc := "(LTurnHost$HostProcess;)V" } : MethodName) ({ cls := "TurnHost$Society", name := "suspend", desc := "(LTurnHost$HostProcess;)V" } : MethodName) ∈ th_tb := tbg (tbl2 (List.mem_of_getElem? (i := 144) rfl)) rfl
theorem k_385 : Jvm.Cond.code ({ cls := "TurnHost$Society", name := "suspend", desc := "(LTurnHost$HostProcess;)V" } : MethodName) prog_7_method_7_code (2 : Nat) (Option.none : Option Jvm.ClassFile.FieldType) ∈ th_tb := tbg (tbl2 (List.mem_of_getElem? (i := 145) rfl)) rfl
theorem k_386 : Jvm.Cond.methodLink "TurnHost$Machine" (139 : Nat) ({ cls := "TurnHost$Machine", name := "spawn", desc := "(LTurnHost$HostProcess;IILTurnHost$Term;)Z" } : MethodName) ∈ th_tb := tbg (tbl2 (List.mem_of_getElem? (i := 146) rfl)) rfl
theorem k_388 : Jvm.Cond.instanceMethod ({ cls := "TurnHost$Machine", name := "spawn", desc := "(LTurnHost$HostProcess;IILTurnHost$Term;)Z" } : MethodName) ∈ th_tb := tbg (tbl2 (List.mem_of_getElem? (i := 148) rfl)) rfl
theorem k_389 : Jvm.Cond.code ({ cls := "TurnHost$Machine", name := "spawn", desc := "(LTurnHost$HostProcess;IILTurnHost$Term;)Z" } : MethodName) prog_4_method_10_code (6 : Nat) (Option.some Jvm.ClassFile.FieldType.boolean) ∈ th_tb := tbg (tbl2 (List.mem_of_getElem? (i := 149) rfl)) rfl
theorem k_390 : Jvm.Cond.methodLink "TurnHost$Machine" (173 : Nat) ({ cls := "TurnHost$Society", name := "start", desc := "(ILTurnHost$Term;)LTurnHost$HostProcess;" } : MethodName) ∈ th_tb := tbg (tbl2 (List.mem_of_getElem? (i := 150) rfl)) rfl
theorem k_391 : Jvm.Cond.methodLink "TurnHost$Machine" (143 : Nat) ({ cls := "TurnHost$Machine", name := "link", desc := "(LTurnHost$HostProcess;LTurnHost$HostProcess;)Z" } : MethodName) ∈ th_tb := tbg (tbl2 (List.mem_of_getElem? (i := 151) rfl)) rfl
theorem k_393 : Jvm.Cond.instanceMethod ({ cls := "TurnHost$Machine", name := "link", desc := "(LTurnHost$HostProcess;LTurnHost$HostProcess;)Z" } : MethodName) ∈ th_tb := tbg (tbl2 (List.mem_of_getElem? (i := 153) rfl)) rfl
theorem k_394 : Jvm.Cond.code ({ cls := "TurnHost$Machine", name := "link", desc := "(LTurnHost$HostProcess;LTurnHost$HostProcess;)Z" } : MethodName) prog_4_method_11_code (3 : Nat) (Option.some Jvm.ClassFile.FieldType.boolean) ∈ th_tb := tbg (tbl2 (List.mem_of_getElem? (i := 154) rfl)) rfl
theorem k_396 : Jvm.Cond.methodLink "TurnHost$Machine" (184 : Nat) ({ cls := "TurnHost$Society", name := "tie", desc := "(LTurnHost$HostProcess;LTurnHost$HostProcess;)V" } : MethodName) ∈ th_tb := tbg (tbl2 (List.mem_of_getElem? (i := 156) rfl)) rfl
theorem k_397 : Jvm.Cond.instanceMethod ({ cls := "TurnHost$Society", name := "tie", desc := "(LTurnHost$HostProcess;LTurnHost$HostProcess;)V" } : MethodName) ∈ th_tb := tbg (tbl2 (List.mem_of_getElem? (i := 157) rfl)) rfl
theorem k_398 : Jvm.Cond.selects "TurnHost$Society" ({ cls := "TurnHost$Society", name := "tie", desc := "(LTurnHost$HostProcess;LTurnHost$HostProcess;)V" } : MethodName) ({ cls := "TurnHost$Society", name := "tie", desc := "(LTurnHost$HostProcess;LTurnHost$HostProcess;)V" } : MethodName) ∈ th_tb := tbg (tbl2 (List.mem_of_getElem? (i := 158) rfl)) rfl
theorem k_399 : Jvm.Cond.code ({ cls := "TurnHost$Society", name := "tie", desc := "(LTurnHost$HostProcess;LTurnHost$HostProcess;)V" } : MethodName) prog_7_method_8_code (3 : Nat) (Option.none : Option Jvm.ClassFile.FieldType) ∈ th_tb := tbg (tbl2 (List.mem_of_getElem? (i := 159) rfl)) rfl
theorem k_400 : Jvm.Cond.methodLink "TurnHost$Machine" (147 : Nat) ({ cls := "TurnHost$Machine", name := "trap", desc := "(LTurnHost$HostProcess;Z)Z" } : MethodName) ∈ th_tb := tbg (tbl2 (List.mem_of_getElem? (i := 160) rfl)) rfl
theorem k_401 : Jvm.Cond.static ({ cls := "TurnHost$Machine", name := "trap", desc := "(LTurnHost$HostProcess;Z)Z" } : MethodName) ∈ th_tb := tbg (tbl2 (List.mem_of_getElem? (i := 161) rfl)) rfl
theorem k_402 : Jvm.Cond.code ({ cls := "TurnHost$Machine", name := "trap", desc := "(LTurnHost$HostProcess;Z)Z" } : MethodName) prog_4_method_12_code (2 : Nat) (Option.some Jvm.ClassFile.FieldType.boolean) ∈ th_tb := tbg (tbl2 (List.mem_of_getElem? (i := 162) rfl)) rfl
theorem k_403 : Jvm.Cond.methodLink "TurnHost$Machine" (151 : Nat) ({ cls := "TurnHost$Machine", name := "finish", desc := "(LTurnHost$HostProcess;LTurnHost$Term;)Z" } : MethodName) ∈ th_tb := tbg (tbl2 (List.mem_of_getElem? (i := 163) rfl)) rfl
theorem k_405 : Jvm.Cond.instanceMethod ({ cls := "TurnHost$Machine", name := "finish", desc := "(LTurnHost$HostProcess;LTurnHost$Term;)Z" } : MethodName) ∈ th_tb := tbg (tbl2 (List.mem_of_getElem? (i := 165) rfl)) rfl
theorem k_406 : Jvm.Cond.code ({ cls := "TurnHost$Machine", name := "finish", desc := "(LTurnHost$HostProcess;LTurnHost$Term;)Z" } : MethodName) prog_4_method_13_code (3 : Nat) (Option.some Jvm.ClassFile.FieldType.boolean) ∈ th_tb := tbg (tbl2 (List.mem_of_getElem? (i := 166) rfl)) rfl
theorem k_407 : Jvm.Cond.methodLink "TurnHost$Machine" (154 : Nat) ({ cls := "TurnHost$Machine", name := "stop", desc := "(LTurnHost$HostProcess;LTurnHost$HostProcess;)Z" } : MethodName) ∈ th_tb := tbg (tbl2 (List.mem_of_getElem? (i := 167) rfl)) rfl
theorem k_409 : Jvm.Cond.instanceMethod ({ cls := "TurnHost$Machine", name := "stop", desc := "(LTurnHost$HostProcess;LTurnHost$HostProcess;)Z" } : MethodName) ∈ th_tb := tbg (tbl2 (List.mem_of_getElem? (i := 169) rfl)) rfl
theorem k_410 : Jvm.Cond.code ({ cls := "TurnHost$Machine", name := "stop", desc := "(LTurnHost$HostProcess;LTurnHost$HostProcess;)Z" } : MethodName) prog_4_method_14_code (3 : Nat) (Option.some Jvm.ClassFile.FieldType.boolean) ∈ th_tb := tbg (tbl2 (List.mem_of_getElem? (i := 170) rfl)) rfl
theorem k_411 : Jvm.Cond.methodLink "TurnHost" (80 : Nat) ({ cls := "TurnHost", name := "countInTurn", desc := "(LTurnHost$HostProcess;)V" } : MethodName) ∈ th_tb := tbg (tbl2 (List.mem_of_getElem? (i := 171) rfl)) rfl
theorem k_413 : Jvm.Cond.instanceMethod ({ cls := "TurnHost", name := "countInTurn", desc := "(LTurnHost$HostProcess;)V" } : MethodName) ∈ th_tb := tbg (tbl2 (List.mem_of_getElem? (i := 173) rfl)) rfl
theorem k_414 : Jvm.Cond.code ({ cls := "TurnHost", name := "countInTurn", desc := "(LTurnHost$HostProcess;)V" } : MethodName) prog_1_method_13_code (2 : Nat) (Option.none : Option Jvm.ClassFile.FieldType) ∈ th_tb := tbg (tbl2 (List.mem_of_getElem? (i := 174) rfl)) rfl
theorem k_415 : Jvm.Cond.methodLink "TurnHost" (111 : Nat) ({ cls := "TurnHost$Line", name := "leave", desc := "(I)V" } : MethodName) ∈ th_tb := tbg (tbl2 (List.mem_of_getElem? (i := 175) rfl)) rfl
theorem k_416 : Jvm.Cond.methodLink "TurnHost" (115 : Nat) ({ cls := "TurnHost$Line", name := "append", desc := "(I)V" } : MethodName) ∈ th_tb := tbg (tbl2 (List.mem_of_getElem? (i := 176) rfl)) rfl
theorem k_417 : Jvm.Cond.methodLink "TurnHostLaw" (41 : Nat) ({ cls := "TurnHost", name := "clear", desc := "(Z)I" } : MethodName) ∈ th_tb := tbg (tbl2 (List.mem_of_getElem? (i := 177) rfl)) rfl
theorem k_418 : Jvm.Cond.instanceMethod ({ cls := "TurnHost", name := "clear", desc := "(Z)I" } : MethodName) ∈ th_tb := tbg (tbl2 (List.mem_of_getElem? (i := 178) rfl)) rfl
theorem k_419 : Jvm.Cond.selects "TurnHost" ({ cls := "TurnHost", name := "clear", desc := "(Z)I" } : MethodName) ({ cls := "TurnHost", name := "clear", desc := "(Z)I" } : MethodName) ∈ th_tb := tbg (tbl2 (List.mem_of_getElem? (i := 179) rfl)) rfl
theorem k_420 : Jvm.Cond.code ({ cls := "TurnHost", name := "clear", desc := "(Z)I" } : MethodName) prog_1_method_6_code (3 : Nat) (Option.some Jvm.ClassFile.FieldType.int) ∈ th_tb := tbg (tbl2 (List.mem_of_getElem? (i := 180) rfl)) rfl
theorem k_421 : Jvm.Cond.methodLink "TurnHost" (86 : Nat) ({ cls := "TurnHost$Society", name := "dissolve", desc := "()V" } : MethodName) ∈ th_tb := tbg (tbl2 (List.mem_of_getElem? (i := 181) rfl)) rfl
theorem k_422 : Jvm.Cond.instanceMethod ({ cls := "TurnHost$Society", name := "dissolve", desc := "()V" } : MethodName) ∈ th_tb := tbg (tbl2 (List.mem_of_getElem? (i := 182) rfl)) rfl
theorem k_423 : Jvm.Cond.selects "TurnHost$Society" ({ cls := "TurnHost$Society", name := "dissolve", desc := "()V" } : MethodName) ({ cls := "TurnHost$Society", name := "dissolve", desc := "()V" } : MethodName) ∈ th_tb := tbg (tbl2 (List.mem_of_getElem? (i := 183) rfl)) rfl
theorem k_424 : Jvm.Cond.code ({ cls := "TurnHost$Society", name := "dissolve", desc := "()V" } : MethodName) prog_7_method_2_code (1 : Nat) (Option.none : Option Jvm.ClassFile.FieldType) ∈ th_tb := tbg (tbl2 (List.mem_of_getElem? (i := 184) rfl)) rfl
theorem k_425 : Jvm.Cond.methodLink "TurnHost$Society" (44 : Nat) ({ cls := "TurnHost$Line", name := "empty", desc := "()V" } : MethodName) ∈ th_tb := tbg (tbl2 (List.mem_of_getElem? (i := 185) rfl)) rfl
theorem k_426 : Jvm.Cond.instanceMethod ({ cls := "TurnHost$Line", name := "empty", desc := "()V" } : MethodName) ∈ th_tb := tbg (tbl2 (List.mem_of_getElem? (i := 186) rfl)) rfl
theorem k_427 : Jvm.Cond.selects "TurnHost$Line" ({ cls := "TurnHost$Line", name := "empty", desc := "()V" } : MethodName) ({ cls := "TurnHost$Line", name := "empty", desc := "()V" } : MethodName) ∈ th_tb := tbg (tbl2 (List.mem_of_getElem? (i := 187) rfl)) rfl
theorem k_428 : Jvm.Cond.code ({ cls := "TurnHost$Line", name := "empty", desc := "()V" } : MethodName) prog_3_method_2_code (1 : Nat) (Option.none : Option Jvm.ClassFile.FieldType) ∈ th_tb := tbg (tbl2 (List.mem_of_getElem? (i := 188) rfl)) rfl
theorem k_429 : Jvm.Cond.methodLink "TurnHost" (89 : Nat) ({ cls := "TurnHost$Program", name := "wipe", desc := "()V" } : MethodName) ∈ th_tb := tbg (tbl2 (List.mem_of_getElem? (i := 189) rfl)) rfl
theorem k_430 : Jvm.Cond.instanceMethod ({ cls := "TurnHost$Program", name := "wipe", desc := "()V" } : MethodName) ∈ th_tb := tbg (tbl2 (List.mem_of_getElem? (i := 190) rfl)) rfl
theorem k_431 : Jvm.Cond.selects "TurnHost$Program" ({ cls := "TurnHost$Program", name := "wipe", desc := "()V" } : MethodName) ({ cls := "TurnHost$Program", name := "wipe", desc := "()V" } : MethodName) ∈ th_tb := tbg (tbl2 (List.mem_of_getElem? (i := 191) rfl)) rfl
theorem k_432 : Jvm.Cond.code ({ cls := "TurnHost$Program", name := "wipe", desc := "()V" } : MethodName) prog_6_method_5_code (1 : Nat) (Option.none : Option Jvm.ClassFile.FieldType) ∈ th_tb := tbg (tbl2 (List.mem_of_getElem? (i := 192) rfl)) rfl
theorem k_433 : Jvm.Cond.methodLink "TurnHostLaw" (46 : Nat) ({ cls := "TurnHost", name := "process", desc := "(II)I" } : MethodName) ∈ th_tb := tbg (tbl2 (List.mem_of_getElem? (i := 193) rfl)) rfl
theorem k_434 : Jvm.Cond.instanceMethod ({ cls := "TurnHost", name := "process", desc := "(II)I" } : MethodName) ∈ th_tb := tbg (tbl2 (List.mem_of_getElem? (i := 194) rfl)) rfl
theorem k_435 : Jvm.Cond.selects "TurnHost" ({ cls := "TurnHost", name := "process", desc := "(II)I" } : MethodName) ({ cls := "TurnHost", name := "process", desc := "(II)I" } : MethodName) ∈ th_tb := tbg (tbl2 (List.mem_of_getElem? (i := 195) rfl)) rfl
theorem k_436 : Jvm.Cond.code ({ cls := "TurnHost", name := "process", desc := "(II)I" } : MethodName) prog_1_method_7_code (4 : Nat) (Option.some Jvm.ClassFile.FieldType.int) ∈ th_tb := tbg (tbl2 (List.mem_of_getElem? (i := 196) rfl)) rfl
theorem k_437 : Jvm.Cond.methodLink "TurnHost" (92 : Nat) ({ cls := "TurnHost$HostProcess", name := "answer", desc := "(I)I" } : MethodName) ∈ th_tb := tbg (tbl2 (List.mem_of_getElem? (i := 197) rfl)) rfl
theorem k_438 : Jvm.Cond.instanceMethod ({ cls := "TurnHost$HostProcess", name := "answer", desc := "(I)I" } : MethodName) ∈ th_tb := tbg (tbl2 (List.mem_of_getElem? (i := 198) rfl)) rfl
theorem k_439 : Jvm.Cond.selects "TurnHost$HostProcess" ({ cls := "TurnHost$HostProcess", name := "answer", desc := "(I)I" } : MethodName) ({ cls := "TurnHost$HostProcess", name := "answer", desc := "(I)I" } : MethodName) ∈ th_tb := tbg (tbl2 (List.mem_of_getElem? (i := 199) rfl)) rfl
theorem k_440 : Jvm.Cond.code ({ cls := "TurnHost$HostProcess", name := "answer", desc := "(I)I" } : MethodName) prog_2_method_6_code (2 : Nat) (Option.some Jvm.ClassFile.FieldType.int) ∈ th_tb := tbg (tbl2 (List.mem_of_getElem? (i := 200) rfl)) rfl
theorem k_441 : Jvm.Cond.methodLink "TurnHostLaw" (50 : Nat) ({ cls := "TurnHost", name := "queue", desc := "(I)I" } : MethodName) ∈ th_tb := tbg (tbl2 (List.mem_of_getElem? (i := 201) rfl)) rfl
theorem k_442 : Jvm.Cond.instanceMethod ({ cls := "TurnHost", name := "queue", desc := "(I)I" } : MethodName) ∈ th_tb := tbg (tbl2 (List.mem_of_getElem? (i := 202) rfl)) rfl
theorem k_443 : Jvm.Cond.selects "TurnHost" ({ cls := "TurnHost", name := "queue", desc := "(I)I" } : MethodName) ({ cls := "TurnHost", name := "queue", desc := "(I)I" } : MethodName) ∈ th_tb := tbg (tbl2 (List.mem_of_getElem? (i := 203) rfl)) rfl
theorem k_444 : Jvm.Cond.code ({ cls := "TurnHost", name := "queue", desc := "(I)I" } : MethodName) prog_1_method_8_code (2 : Nat) (Option.some Jvm.ClassFile.FieldType.int) ∈ th_tb := tbg (tbl2 (List.mem_of_getElem? (i := 204) rfl)) rfl
theorem k_445 : Jvm.Cond.methodLink "TurnHostLaw" (54 : Nat) ({ cls := "TurnHost", name := "processes", desc := "()I" } : MethodName) ∈ th_tb := tbg (tbl2 (List.mem_of_getElem? (i := 205) rfl)) rfl
theorem k_446 : Jvm.Cond.instanceMethod ({ cls := "TurnHost", name := "processes", desc := "()I" } : MethodName) ∈ th_tb := tbg (tbl2 (List.mem_of_getElem? (i := 206) rfl)) rfl
theorem k_447 : Jvm.Cond.selects "TurnHost" ({ cls := "TurnHost", name := "processes", desc := "()I" } : MethodName) ({ cls := "TurnHost", name := "processes", desc := "()I" } : MethodName) ∈ th_tb := tbg (tbl2 (List.mem_of_getElem? (i := 207) rfl)) rfl
theorem k_448 : Jvm.Cond.code ({ cls := "TurnHost", name := "processes", desc := "()I" } : MethodName) prog_1_method_9_code (1 : Nat) (Option.some Jvm.ClassFile.FieldType.int) ∈ th_tb := tbg (tbl2 (List.mem_of_getElem? (i := 208) rfl)) rfl
theorem k_449 : Jvm.Cond.methodLink "TurnHostLaw" (59 : Nat) ({ cls := "TurnHost", name := "term", desc := "(II)I" } : MethodName) ∈ th_tb := tbg (tbl2 (List.mem_of_getElem? (i := 209) rfl)) rfl
theorem k_450 : Jvm.Cond.instanceMethod ({ cls := "TurnHost", name := "term", desc := "(II)I" } : MethodName) ∈ th_tb := tbg (tbl2 (List.mem_of_getElem? (i := 210) rfl)) rfl
theorem k_451 : Jvm.Cond.selects "TurnHost" ({ cls := "TurnHost", name := "term", desc := "(II)I" } : MethodName) ({ cls := "TurnHost", name := "term", desc := "(II)I" } : MethodName) ∈ th_tb := tbg (tbl2 (List.mem_of_getElem? (i := 211) rfl)) rfl
theorem k_452 : Jvm.Cond.code ({ cls := "TurnHost", name := "term", desc := "(II)I" } : MethodName) prog_1_method_10_code (4 : Nat) (Option.some Jvm.ClassFile.FieldType.int) ∈ th_tb := tbg (tbl2 (List.mem_of_getElem? (i := 212) rfl)) rfl
theorem k_453 : Jvm.Cond.methodLink "TurnHost" (95 : Nat) ({ cls := "TurnHost", name := "termOf", desc := "(II)LTurnHost$Term;" } : MethodName) ∈ th_tb := tbg (tbl2 (List.mem_of_getElem? (i := 213) rfl)) rfl
theorem k_455 : Jvm.Cond.instanceMethod ({ cls := "TurnHost", name := "termOf", desc := "(II)LTurnHost$Term;" } : MethodName) ∈ th_tb := tbg (tbl2 (List.mem_of_getElem? (i := 215) rfl)) rfl
theorem k_456 : Jvm.Cond.code ({ cls := "TurnHost", name := "termOf", desc := "(II)LTurnHost$Term;" } : MethodName) prog_1_method_12_code (4 : Nat) (Option.some (Jvm.ClassFile.FieldType.object "TurnHost$Term")) ∈ th_tb := tbg (tbl2 (List.mem_of_getElem? (i := 216) rfl)) rfl
theorem k_457 : Jvm.Cond.methodLink "TurnHost" (107 : Nat) ({ cls := "TurnHost$HostProcess", name := "termAt", desc := "(I)LTurnHost$Term;" } : MethodName) ∈ th_tb := tbg (tbl2 (List.mem_of_getElem? (i := 217) rfl)) rfl
theorem k_458 : Jvm.Cond.instanceMethod ({ cls := "TurnHost$HostProcess", name := "termAt", desc := "(I)LTurnHost$Term;" } : MethodName) ∈ th_tb := tbg (tbl2 (List.mem_of_getElem? (i := 218) rfl)) rfl
theorem k_459 : Jvm.Cond.selects "TurnHost$HostProcess" ({ cls := "TurnHost$HostProcess", name := "termAt", desc := "(I)LTurnHost$Term;" } : MethodName) ({ cls := "TurnHost$HostProcess", name := "termAt", desc := "(I)LTurnHost$Term;" } : MethodName) ∈ th_tb := tbg (tbl2 (List.mem_of_getElem? (i := 219) rfl)) rfl
theorem k_460 : Jvm.Cond.code ({ cls := "TurnHost$HostProcess", name := "termAt", desc := "(I)LTurnHost$Term;" } : MethodName) prog_2_method_7_code (2 : Nat) (Option.some (Jvm.ClassFile.FieldType.object "TurnHost$Term")) ∈ th_tb := tbg (tbl2 (List.mem_of_getElem? (i := 220) rfl)) rfl
theorem k_461 : Jvm.Cond.methodLink "TurnHost$HostProcess" (70 : Nat) ({ cls := "TurnHost$Mailbox", name := "at", desc := "(I)LTurnHost$Term;" } : MethodName) ∈ th_tb := tbg (tbl2 (List.mem_of_getElem? (i := 221) rfl)) rfl
theorem k_462 : Jvm.Cond.methodLink "TurnHost" (99 : Nat) ({ cls := "TurnHost$Term", name := "summary", desc := "()I" } : MethodName) ∈ th_tb := tbg (tbl2 (List.mem_of_getElem? (i := 222) rfl)) rfl
theorem k_463 : Jvm.Cond.instanceMethod ({ cls := "TurnHost$Term", name := "summary", desc := "()I" } : MethodName) ∈ th_tb := tbg (tbl2 (List.mem_of_getElem? (i := 223) rfl)) rfl
theorem k_464 : Jvm.Cond.selects "TurnHost$Term" ({ cls := "TurnHost$Term", name := "summary", desc := "()I" } : MethodName) ({ cls := "TurnHost$Term", name := "summary", desc := "()I" } : MethodName) ∈ th_tb := tbg (tbl2 (List.mem_of_getElem? (i := 224) rfl)) rfl
theorem k_465 : Jvm.Cond.code ({ cls := "TurnHost$Term", name := "summary", desc := "()I" } : MethodName) prog_8_method_6_code (2 : Nat) (Option.some Jvm.ClassFile.FieldType.int) ∈ th_tb := tbg (tbl2 (List.mem_of_getElem? (i := 225) rfl)) rfl
theorem k_466 : Jvm.Cond.methodLink "TurnHost$Term" (31 : Nat) ({ cls := "TurnHost$Term", name := "hasNumber", desc := "()Z" } : MethodName) ∈ th_tb := tbg (tbl2 (List.mem_of_getElem? (i := 226) rfl)) rfl
theorem k_467 : Jvm.Cond.instanceMethod ({ cls := "TurnHost$Term", name := "hasNumber", desc := "()Z" } : MethodName) ∈ th_tb := tbg (tbl2 (List.mem_of_getElem? (i := 227) rfl)) rfl
theorem k_468 : Jvm.Cond.selects "TurnHost$Term" ({ cls := "TurnHost$Term", name := "hasNumber", desc := "()Z" } : MethodName) ({ cls := "TurnHost$Term", name := "hasNumber", desc := "()Z" } : MethodName) ∈ th_tb := tbg (tbl2 (List.mem_of_getElem? (i := 228) rfl)) rfl
theorem k_469 : Jvm.Cond.code ({ cls := "TurnHost$Term", name := "hasNumber", desc := "()Z" } : MethodName) prog_8_method_5_code (1 : Nat) (Option.some Jvm.ClassFile.FieldType.boolean) ∈ th_tb := tbg (tbl2 (List.mem_of_getElem? (i := 229) rfl)) rfl
theorem k_470 : Jvm.Cond.methodLink "TurnHost$Term" (35 : Nat) ({ cls := "java/lang/Math", name := "floorMod", desc := "(II)I" } : MethodName) ∈ th_tb := tbg (tbl2 (List.mem_of_getElem? (i := 230) rfl)) rfl
theorem k_471 : Jvm.Cond.static ({ cls := "java/lang/Math", name := "floorMod", desc := "(II)I" } : MethodName) ∈ th_tb := tbg (tbl2 (List.mem_of_getElem? (i := 231) rfl)) rfl
theorem k_472 : Jvm.Cond.code ({ cls := "java/lang/Math", name := "floorMod", desc := "(II)I" } : MethodName) prog_11_method_50_code (3 : Nat) (Option.some Jvm.ClassFile.FieldType.int) ∈ th_tb := tbg (tbl2 (List.mem_of_getElem? (i := 232) rfl)) rfl
theorem k_473 : Jvm.Cond.constant "TurnHost$Term" (41 : Nat) (1000000 : Int32) ∈ th_tb := tbg (tbl2 (List.mem_of_getElem? (i := 233) rfl)) rfl
theorem k_474 : Jvm.Cond.methodLink "TurnHostLaw" (63 : Nat) ({ cls := "TurnHost", name := "digest", desc := "(II)I" } : MethodName) ∈ th_tb := tbg (tbl2 (List.mem_of_getElem? (i := 234) rfl)) rfl
theorem k_475 : Jvm.Cond.instanceMethod ({ cls := "TurnHost", name := "digest", desc := "(II)I" } : MethodName) ∈ th_tb := tbg (tbl2 (List.mem_of_getElem? (i := 235) rfl)) rfl
theorem k_476 : Jvm.Cond.selects "TurnHost" ({ cls := "TurnHost", name := "digest", desc := "(II)I" } : MethodName) ({ cls := "TurnHost", name := "digest", desc := "(II)I" } : MethodName) ∈ th_tb := tbg (tbl2 (List.mem_of_getElem? (i := 236) rfl)) rfl
theorem k_477 : Jvm.Cond.code ({ cls := "TurnHost", name := "digest", desc := "(II)I" } : MethodName) prog_1_method_11_code (4 : Nat) (Option.some Jvm.ClassFile.FieldType.int) ∈ th_tb := tbg (tbl2 (List.mem_of_getElem? (i := 237) rfl)) rfl
theorem k_479 : Jvm.Cond.static ({ cls := "TurnHost$Term", name := "mixed", desc := "(ILTurnHost$Term;)I" } : MethodName) ∈ th_tb := tbg (tbl2 (List.mem_of_getElem? (i := 239) rfl)) rfl
theorem k_480 : Jvm.Cond.code ({ cls := "TurnHost$Term", name := "mixed", desc := "(ILTurnHost$Term;)I" } : MethodName) prog_8_method_8_code (3 : Nat) (Option.some Jvm.ClassFile.FieldType.int) ∈ th_tb := tbg (tbl3 (List.mem_of_getElem? (i := 0) rfl)) rfl
theorem k_481 : Jvm.Cond.methodLink "TurnHost$Term" (49 : Nat) ({ cls := "TurnHost$Term", name := "mixed", desc := "(ILTurnHost$Term;)I" } : MethodName) ∈ th_tb := tbg (tbl3 (List.mem_of_getElem? (i := 1) rfl)) rfl
theorem k_482 : Jvm.Cond.methodLink "TurnHostLaw" (9 : Nat) ({ cls := "TurnHostLaw", name := "cell", desc := "([II)I" } : MethodName) ∈ th_tb := tbg (tbl3 (List.mem_of_getElem? (i := 2) rfl)) rfl
theorem k_483 : Jvm.Cond.static ({ cls := "TurnHostLaw", name := "cell", desc := "([II)I" } : MethodName) ∈ th_tb := tbg (tbl3 (List.mem_of_getElem? (i := 3) rfl)) rfl
theorem k_484 : Jvm.Cond.code ({ cls := "TurnHostLaw", name := "cell", desc := "([II)I" } : MethodName) method_2_code (2 : Nat) (Option.some Jvm.ClassFile.FieldType.int) ∈ th_tb := tbg (tbl3 (List.mem_of_getElem? (i := 4) rfl)) rfl
theorem k_485 : Jvm.Cond.classLink "TurnHostLaw" (18 : Nat) "TurnHostModel" ∈ th_tb := tbg (tbl3 (List.mem_of_getElem? (i := 5) rfl)) rfl
theorem k_486 : Jvm.Cond.instantiable "TurnHostModel" (22 : Nat) ∈ th_tb := tbg (tbl3 (List.mem_of_getElem? (i := 6) rfl)) rfl
theorem k_487 : Jvm.Cond.methodLink "TurnHostLaw" (20 : Nat) ({ cls := "TurnHostModel", name := "<init>", desc := "(I)V" } : MethodName) ∈ th_tb := tbg (tbl3 (List.mem_of_getElem? (i := 7) rfl)) rfl
theorem k_488 : Jvm.Cond.instanceMethod ({ cls := "TurnHostModel", name := "<init>", desc := "(I)V" } : MethodName) ∈ th_tb := tbg (tbl3 (List.mem_of_getElem? (i := 8) rfl)) rfl
theorem k_489 : Jvm.Cond.code ({ cls := "TurnHostModel", name := "<init>", desc := "(I)V" } : MethodName) prog_10_method_1_code (2 : Nat) (Option.none : Option Jvm.ClassFile.FieldType) ∈ th_tb := tbg (tbl3 (List.mem_of_getElem? (i := 9) rfl)) rfl
theorem k_490 : Jvm.Cond.methodLink "TurnHostModel" (1 : Nat) ({ cls := "java/lang/Object", name := "<init>", desc := "()V" } : MethodName) ∈ th_tb := tbg (tbl3 (List.mem_of_getElem? (i := 10) rfl)) rfl
theorem k_491 : Jvm.Cond.fieldLink "TurnHostModel" (62 : Nat) "TurnHostModel" "quota" "I" ∈ th_tb := tbg (tbl3 (List.mem_of_getElem? (i := 11) rfl)) rfl
theorem k_492 : Jvm.Cond.fieldLink "TurnHostModel" (85 : Nat) "TurnHostModel" "size" "I" ∈ th_tb := tbg (tbl3 (List.mem_of_getElem? (i := 12) rfl)) rfl
theorem k_493 : Jvm.Cond.fieldLink "TurnHostModel" (7 : Nat) "TurnHostModel" "op" "[I" ∈ th_tb := tbg (tbl3 (List.mem_of_getElem? (i := 13) rfl)) rfl
theorem k_494 : Jvm.Cond.fieldLink "TurnHostModel" (13 : Nat) "TurnHostModel" "one" "[I" ∈ th_tb := tbg (tbl3 (List.mem_of_getElem? (i := 14) rfl)) rfl
theorem k_495 : Jvm.Cond.fieldLink "TurnHostModel" (16 : Nat) "TurnHostModel" "two" "[I" ∈ th_tb := tbg (tbl3 (List.mem_of_getElem? (i := 15) rfl)) rfl
theorem k_496 : Jvm.Cond.fieldLink "TurnHostModel" (19 : Nat) "TurnHostModel" "three" "[I" ∈ th_tb := tbg (tbl3 (List.mem_of_getElem? (i := 16) rfl)) rfl
theorem k_497 : Jvm.Cond.fieldLink "TurnHostModel" (22 : Nat) "TurnHostModel" "table" "[I" ∈ th_tb := tbg (tbl3 (List.mem_of_getElem? (i := 17) rfl)) rfl
theorem k_498 : Jvm.Cond.fieldLink "TurnHostModel" (131 : Nat) "TurnHostModel" "count" "I" ∈ th_tb := tbg (tbl3 (List.mem_of_getElem? (i := 18) rfl)) rfl
theorem k_499 : Jvm.Cond.fieldLink "TurnHostModel" (25 : Nat) "TurnHostModel" "state" "[I" ∈ th_tb := tbg (tbl3 (List.mem_of_getElem? (i := 19) rfl)) rfl
theorem k_500 : Jvm.Cond.fieldLink "TurnHostModel" (28 : Nat) "TurnHostModel" "place" "[I" ∈ th_tb := tbg (tbl3 (List.mem_of_getElem? (i := 20) rfl)) rfl
theorem k_501 : Jvm.Cond.fieldLink "TurnHostModel" (31 : Nat) "TurnHostModel" "mark" "[I" ∈ th_tb := tbg (tbl3 (List.mem_of_getElem? (i := 21) rfl)) rfl
theorem k_502 : Jvm.Cond.fieldLink "TurnHostModel" (34 : Nat) "TurnHostModel" "messages" "[I" ∈ th_tb := tbg (tbl3 (List.mem_of_getElem? (i := 22) rfl)) rfl
theorem k_503 : Jvm.Cond.fieldLink "TurnHostModel" (37 : Nat) "TurnHostModel" "calls" "[I" ∈ th_tb := tbg (tbl3 (List.mem_of_getElem? (i := 23) rfl)) rfl
theorem k_504 : Jvm.Cond.fieldLink "TurnHostModel" (40 : Nat) "TurnHostModel" "returns" "[I" ∈ th_tb := tbg (tbl3 (List.mem_of_getElem? (i := 24) rfl)) rfl
theorem k_505 : Jvm.Cond.fieldLink "TurnHostModel" (43 : Nat) "TurnHostModel" "links" "[I" ∈ th_tb := tbg (tbl3 (List.mem_of_getElem? (i := 25) rfl)) rfl
theorem k_506 : Jvm.Cond.fieldLink "TurnHostModel" (46 : Nat) "TurnHostModel" "traps" "[Z" ∈ th_tb := tbg (tbl3 (List.mem_of_getElem? (i := 26) rfl)) rfl
theorem k_507 : Jvm.Cond.fieldLink "TurnHostModel" (50 : Nat) "TurnHostModel" "done" "[I" ∈ th_tb := tbg (tbl3 (List.mem_of_getElem? (i := 27) rfl)) rfl
theorem k_508 : Jvm.Cond.fieldLink "TurnHostModel" (101 : Nat) "TurnHostModel" "waiting" "I" ∈ th_tb := tbg (tbl3 (List.mem_of_getElem? (i := 28) rfl)) rfl
theorem k_509 : Jvm.Cond.fieldLink "TurnHostModel" (53 : Nat) "TurnHostModel" "row" "[I" ∈ th_tb := tbg (tbl3 (List.mem_of_getElem? (i := 29) rfl)) rfl
theorem k_510 : Jvm.Cond.fieldLink "TurnHostModel" (104 : Nat) "TurnHostModel" "used" "I" ∈ th_tb := tbg (tbl3 (List.mem_of_getElem? (i := 30) rfl)) rfl
theorem k_511 : Jvm.Cond.fieldLink "TurnHostModel" (56 : Nat) "TurnHostModel" "telling" "[I" ∈ th_tb := tbg (tbl3 (List.mem_of_getElem? (i := 31) rfl)) rfl
theorem k_512 : Jvm.Cond.fieldLink "TurnHostModel" (59 : Nat) "TurnHostModel" "next" "[I" ∈ th_tb := tbg (tbl3 (List.mem_of_getElem? (i := 32) rfl)) rfl
theorem k_513 : Jvm.Cond.laysFinal "TurnHostModel" "TurnHostModel" "quota" "I" ∈ th_tb := tbg (tbl3 (List.mem_of_getElem? (i := 33) rfl)) rfl
theorem k_515 : Jvm.Cond.lays "TurnHostModel" "TurnHostModel" "size" "I" ∈ th_tb := tbg (tbl3 (List.mem_of_getElem? (i := 35) rfl)) rfl
theorem k_517 : Jvm.Cond.laysFinal "TurnHostModel" "TurnHostModel" "op" "[I" ∈ th_tb := tbg (tbl3 (List.mem_of_getElem? (i := 37) rfl)) rfl
theorem k_519 : Jvm.Cond.laysFinal "TurnHostModel" "TurnHostModel" "one" "[I" ∈ th_tb := tbg (tbl3 (List.mem_of_getElem? (i := 39) rfl)) rfl
theorem k_521 : Jvm.Cond.laysFinal "TurnHostModel" "TurnHostModel" "two" "[I" ∈ th_tb := tbg (tbl3 (List.mem_of_getElem? (i := 41) rfl)) rfl
theorem k_523 : Jvm.Cond.laysFinal "TurnHostModel" "TurnHostModel" "three" "[I" ∈ th_tb := tbg (tbl3 (List.mem_of_getElem? (i := 43) rfl)) rfl
theorem k_525 : Jvm.Cond.laysFinal "TurnHostModel" "TurnHostModel" "table" "[I" ∈ th_tb := tbg (tbl3 (List.mem_of_getElem? (i := 45) rfl)) rfl
theorem k_527 : Jvm.Cond.lays "TurnHostModel" "TurnHostModel" "count" "I" ∈ th_tb := tbg (tbl3 (List.mem_of_getElem? (i := 47) rfl)) rfl
theorem k_529 : Jvm.Cond.laysFinal "TurnHostModel" "TurnHostModel" "state" "[I" ∈ th_tb := tbg (tbl3 (List.mem_of_getElem? (i := 49) rfl)) rfl
theorem k_531 : Jvm.Cond.laysFinal "TurnHostModel" "TurnHostModel" "place" "[I" ∈ th_tb := tbg (tbl3 (List.mem_of_getElem? (i := 51) rfl)) rfl
theorem k_533 : Jvm.Cond.laysFinal "TurnHostModel" "TurnHostModel" "mark" "[I" ∈ th_tb := tbg (tbl3 (List.mem_of_getElem? (i := 53) rfl)) rfl
theorem k_535 : Jvm.Cond.laysFinal "TurnHostModel" "TurnHostModel" "messages" "[I" ∈ th_tb := tbg (tbl3 (List.mem_of_getElem? (i := 55) rfl)) rfl
theorem k_537 : Jvm.Cond.laysFinal "TurnHostModel" "TurnHostModel" "calls" "[I" ∈ th_tb := tbg (tbl3 (List.mem_of_getElem? (i := 57) rfl)) rfl
theorem k_539 : Jvm.Cond.laysFinal "TurnHostModel" "TurnHostModel" "returns" "[I" ∈ th_tb := tbg (tbl3 (List.mem_of_getElem? (i := 59) rfl)) rfl
theorem k_541 : Jvm.Cond.laysFinal "TurnHostModel" "TurnHostModel" "links" "[I" ∈ th_tb := tbg (tbl3 (List.mem_of_getElem? (i := 61) rfl)) rfl
theorem k_543 : Jvm.Cond.laysFinal "TurnHostModel" "TurnHostModel" "traps" "[Z" ∈ th_tb := tbg (tbl3 (List.mem_of_getElem? (i := 63) rfl)) rfl
theorem k_545 : Jvm.Cond.laysFinal "TurnHostModel" "TurnHostModel" "done" "[I" ∈ th_tb := tbg (tbl3 (List.mem_of_getElem? (i := 65) rfl)) rfl
theorem k_547 : Jvm.Cond.lays "TurnHostModel" "TurnHostModel" "waiting" "I" ∈ th_tb := tbg (tbl3 (List.mem_of_getElem? (i := 67) rfl)) rfl
theorem k_549 : Jvm.Cond.laysFinal "TurnHostModel" "TurnHostModel" "row" "[I" ∈ th_tb := tbg (tbl3 (List.mem_of_getElem? (i := 69) rfl)) rfl
theorem k_551 : Jvm.Cond.lays "TurnHostModel" "TurnHostModel" "used" "I" ∈ th_tb := tbg (tbl3 (List.mem_of_getElem? (i := 71) rfl)) rfl
theorem k_553 : Jvm.Cond.laysFinal "TurnHostModel" "TurnHostModel" "telling" "[I" ∈ th_tb := tbg (tbl3 (List.mem_of_getElem? (i := 73) rfl)) rfl
theorem k_555 : Jvm.Cond.laysFinal "TurnHostModel" "TurnHostModel" "next" "[I" ∈ th_tb := tbg (tbl3 (List.mem_of_getElem? (i := 75) rfl)) rfl
theorem k_558 : Jvm.Cond.arrayClass Jvm.ClassFile.FieldType.boolean ∈ th_tb := tbg (tbl3 (List.mem_of_getElem? (i := 78) rfl)) rfl
theorem k_559 : Jvm.Cond.methodLink "TurnHostLaw" (25 : Nat) ({ cls := "TurnHostModel", name := "add", desc := "(IIII)I" } : MethodName) ∈ th_tb := tbg (tbl3 (List.mem_of_getElem? (i := 79) rfl)) rfl
theorem k_560 : Jvm.Cond.instanceMethod ({ cls := "TurnHostModel", name := "add", desc := "(IIII)I" } : MethodName) ∈ th_tb := tbg (tbl3 (List.mem_of_getElem? (i := 80) rfl)) rfl
theorem k_561 : Jvm.Cond.selects "TurnHostModel" ({ cls := "TurnHostModel", name := "add", desc := "(IIII)I" } : MethodName) ({ cls := "TurnHostModel", name := "add", desc := "(IIII)I" } : MethodName) ∈ th_tb := tbg (tbl3 (List.mem_of_getElem? (i := 81) rfl)) rfl
theorem k_562 : Jvm.Cond.code ({ cls := "TurnHostModel", name := "add", desc := "(IIII)I" } : MethodName) prog_10_method_16_code (6 : Nat) (Option.some Jvm.ClassFile.FieldType.int) ∈ th_tb := tbg (tbl3 (List.mem_of_getElem? (i := 82) rfl)) rfl
theorem k_563 : Jvm.Cond.methodLink "TurnHostModel" (81 : Nat) ({ cls := "TurnHostModel", name := "in", desc := "(III)Z" } : MethodName) ∈ th_tb := tbg (tbl3 (List.mem_of_getElem? (i := 83) rfl)) rfl
theorem k_564 : Jvm.Cond.static ({ cls := "TurnHostModel", name := "in", desc := "(III)Z" } : MethodName) ∈ th_tb := tbg (tbl3 (List.mem_of_getElem? (i := 84) rfl)) rfl
theorem k_565 : Jvm.Cond.code ({ cls := "TurnHostModel", name := "in", desc := "(III)Z" } : MethodName) prog_10_method_2_code (3 : Nat) (Option.some Jvm.ClassFile.FieldType.boolean) ∈ th_tb := tbg (tbl3 (List.mem_of_getElem? (i := 85) rfl)) rfl
theorem k_566 : Jvm.Cond.methodLink "TurnHostModel" (88 : Nat) ({ cls := "TurnHostModel", name := "firstNeeds", desc := "(I)I" } : MethodName) ∈ th_tb := tbg (tbl3 (List.mem_of_getElem? (i := 86) rfl)) rfl
theorem k_567 : Jvm.Cond.static ({ cls := "TurnHostModel", name := "firstNeeds", desc := "(I)I" } : MethodName) ∈ th_tb := tbg (tbl3 (List.mem_of_getElem? (i := 87) rfl)) rfl
theorem k_568 : Jvm.Cond.code ({ cls := "TurnHostModel", name := "firstNeeds", desc := "(I)I" } : MethodName) prog_10_method_13_code (1 : Nat) (Option.some Jvm.ClassFile.FieldType.int) ∈ th_tb := tbg (tbl3 (List.mem_of_getElem? (i := 88) rfl)) rfl
theorem k_569 : Jvm.Cond.methodLink "TurnHostModel" (91 : Nat) ({ cls := "TurnHostModel", name := "isRight", desc := "(II)Z" } : MethodName) ∈ th_tb := tbg (tbl3 (List.mem_of_getElem? (i := 89) rfl)) rfl
theorem k_570 : Jvm.Cond.static ({ cls := "TurnHostModel", name := "isRight", desc := "(II)Z" } : MethodName) ∈ th_tb := tbg (tbl3 (List.mem_of_getElem? (i := 90) rfl)) rfl
theorem k_571 : Jvm.Cond.code ({ cls := "TurnHostModel", name := "isRight", desc := "(II)Z" } : MethodName) prog_10_method_12_code (2 : Nat) (Option.some Jvm.ClassFile.FieldType.boolean) ∈ th_tb := tbg (tbl3 (List.mem_of_getElem? (i := 91) rfl)) rfl
theorem k_572 : Jvm.Cond.methodLink "TurnHostModel" (95 : Nat) ({ cls := "TurnHostModel", name := "secondNeeds", desc := "(I)I" } : MethodName) ∈ th_tb := tbg (tbl3 (List.mem_of_getElem? (i := 92) rfl)) rfl
theorem k_573 : Jvm.Cond.static ({ cls := "TurnHostModel", name := "secondNeeds", desc := "(I)I" } : MethodName) ∈ th_tb := tbg (tbl3 (List.mem_of_getElem? (i := 93) rfl)) rfl
theorem k_574 : Jvm.Cond.code ({ cls := "TurnHostModel", name := "secondNeeds", desc := "(I)I" } : MethodName) prog_10_method_14_code (1 : Nat) (Option.some Jvm.ClassFile.FieldType.int) ∈ th_tb := tbg (tbl3 (List.mem_of_getElem? (i := 94) rfl)) rfl
theorem k_575 : Jvm.Cond.methodLink "TurnHostModel" (98 : Nat) ({ cls := "TurnHostModel", name := "thirdNeeds", desc := "(I)I" } : MethodName) ∈ th_tb := tbg (tbl3 (List.mem_of_getElem? (i := 95) rfl)) rfl
theorem k_576 : Jvm.Cond.static ({ cls := "TurnHostModel", name := "thirdNeeds", desc := "(I)I" } : MethodName) ∈ th_tb := tbg (tbl3 (List.mem_of_getElem? (i := 96) rfl)) rfl
theorem k_577 : Jvm.Cond.code ({ cls := "TurnHostModel", name := "thirdNeeds", desc := "(I)I" } : MethodName) prog_10_method_15_code (1 : Nat) (Option.some Jvm.ClassFile.FieldType.int) ∈ th_tb := tbg (tbl3 (List.mem_of_getElem? (i := 97) rfl)) rfl
theorem k_578 : Jvm.Cond.methodLink "TurnHostLaw" (30 : Nat) ({ cls := "TurnHostModel", name := "begin", desc := "(II)I" } : MethodName) ∈ th_tb := tbg (tbl3 (List.mem_of_getElem? (i := 98) rfl)) rfl
theorem k_579 : Jvm.Cond.instanceMethod ({ cls := "TurnHostModel", name := "begin", desc := "(II)I" } : MethodName) ∈ th_tb := tbg (tbl3 (List.mem_of_getElem? (i := 99) rfl)) rfl
theorem k_580 : Jvm.Cond.selects "TurnHostModel" ({ cls := "TurnHostModel", name := "begin", desc := "(II)I" } : MethodName) ({ cls := "TurnHostModel", name := "begin", desc := "(II)I" } : MethodName) ∈ th_tb := tbg (tbl3 (List.mem_of_getElem? (i := 100) rfl)) rfl
theorem k_581 : Jvm.Cond.code ({ cls := "TurnHostModel", name := "begin", desc := "(II)I" } : MethodName) prog_10_method_31_code (3 : Nat) (Option.some Jvm.ClassFile.FieldType.int) ∈ th_tb := tbg (tbl3 (List.mem_of_getElem? (i := 101) rfl)) rfl
theorem k_582 : Jvm.Cond.methodLink "TurnHostModel" (115 : Nat) ({ cls := "TurnHostModel", name := "put", desc := "(III)V" } : MethodName) ∈ th_tb := tbg (tbl3 (List.mem_of_getElem? (i := 102) rfl)) rfl
theorem k_584 : Jvm.Cond.instanceMethod ({ cls := "TurnHostModel", name := "put", desc := "(III)V" } : MethodName) ∈ th_tb := tbg (tbl3 (List.mem_of_getElem? (i := 104) rfl)) rfl
theorem k_585 : Jvm.Cond.code ({ cls := "TurnHostModel", name := "put", desc := "(III)V" } : MethodName) prog_10_method_4_code (4 : Nat) (Option.none : Option Jvm.ClassFile.FieldType) ∈ th_tb := tbg (tbl3 (List.mem_of_getElem? (i := 105) rfl)) rfl
theorem k_586 : Jvm.Cond.methodLink "TurnHostModel" (152 : Nat) ({ cls := "TurnHostModel", name := "start", desc := "(II)I" } : MethodName) ∈ th_tb := tbg (tbl3 (List.mem_of_getElem? (i := 106) rfl)) rfl
theorem k_588 : Jvm.Cond.instanceMethod ({ cls := "TurnHostModel", name := "start", desc := "(II)I" } : MethodName) ∈ th_tb := tbg (tbl3 (List.mem_of_getElem? (i := 108) rfl)) rfl
theorem k_589 : Jvm.Cond.code ({ cls := "TurnHostModel", name := "start", desc := "(II)I" } : MethodName) prog_10_method_24_code (5 : Nat) (Option.some Jvm.ClassFile.FieldType.int) ∈ th_tb := tbg (tbl3 (List.mem_of_getElem? (i := 109) rfl)) rfl
theorem k_590 : Jvm.Cond.methodLink "TurnHostModel" (107 : Nat) ({ cls := "TurnHostModel", name := "copy", desc := "(II)V" } : MethodName) ∈ th_tb := tbg (tbl3 (List.mem_of_getElem? (i := 110) rfl)) rfl
theorem k_592 : Jvm.Cond.instanceMethod ({ cls := "TurnHostModel", name := "copy", desc := "(II)V" } : MethodName) ∈ th_tb := tbg (tbl3 (List.mem_of_getElem? (i := 112) rfl)) rfl
theorem k_593 : Jvm.Cond.code ({ cls := "TurnHostModel", name := "copy", desc := "(II)V" } : MethodName) prog_10_method_3_code (4 : Nat) (Option.none : Option Jvm.ClassFile.FieldType) ∈ th_tb := tbg (tbl3 (List.mem_of_getElem? (i := 113) rfl)) rfl
theorem k_594 : Jvm.Cond.methodLink "TurnHostModel" (111 : Nat) ({ cls := "TurnHostModel", name := "come", desc := "(I)V" } : MethodName) ∈ th_tb := tbg (tbl3 (List.mem_of_getElem? (i := 114) rfl)) rfl
theorem k_596 : Jvm.Cond.instanceMethod ({ cls := "TurnHostModel", name := "come", desc := "(I)V" } : MethodName) ∈ th_tb := tbg (tbl3 (List.mem_of_getElem? (i := 116) rfl)) rfl
theorem k_597 : Jvm.Cond.code ({ cls := "TurnHostModel", name := "come", desc := "(I)V" } : MethodName) prog_10_method_17_code (2 : Nat) (Option.none : Option Jvm.ClassFile.FieldType) ∈ th_tb := tbg (tbl3 (List.mem_of_getElem? (i := 117) rfl)) rfl
theorem k_598 : Jvm.Cond.methodLink "TurnHostLaw" (35 : Nat) ({ cls := "TurnHostModel", name := "tell", desc := "(II)Z" } : MethodName) ∈ th_tb := tbg (tbl3 (List.mem_of_getElem? (i := 118) rfl)) rfl
theorem k_599 : Jvm.Cond.instanceMethod ({ cls := "TurnHostModel", name := "tell", desc := "(II)Z" } : MethodName) ∈ th_tb := tbg (tbl3 (List.mem_of_getElem? (i := 119) rfl)) rfl
theorem k_600 : Jvm.Cond.selects "TurnHostModel" ({ cls := "TurnHostModel", name := "tell", desc := "(II)Z" } : MethodName) ({ cls := "TurnHostModel", name := "tell", desc := "(II)Z" } : MethodName) ∈ th_tb := tbg (tbl3 (List.mem_of_getElem? (i := 120) rfl)) rfl
theorem k_601 : Jvm.Cond.code ({ cls := "TurnHostModel", name := "tell", desc := "(II)Z" } : MethodName) prog_10_method_32_code (3 : Nat) (Option.some Jvm.ClassFile.FieldType.boolean) ∈ th_tb := tbg (tbl3 (List.mem_of_getElem? (i := 121) rfl)) rfl
theorem k_602 : Jvm.Cond.methodLink "TurnHostModel" (122 : Nat) ({ cls := "TurnHostModel", name := "deliver", desc := "(II)V" } : MethodName) ∈ th_tb := tbg (tbl3 (List.mem_of_getElem? (i := 122) rfl)) rfl
theorem k_604 : Jvm.Cond.instanceMethod ({ cls := "TurnHostModel", name := "deliver", desc := "(II)V" } : MethodName) ∈ th_tb := tbg (tbl3 (List.mem_of_getElem? (i := 124) rfl)) rfl
theorem k_605 : Jvm.Cond.code ({ cls := "TurnHostModel", name := "deliver", desc := "(II)V" } : MethodName) prog_10_method_19_code (3 : Nat) (Option.none : Option Jvm.ClassFile.FieldType) ∈ th_tb := tbg (tbl3 (List.mem_of_getElem? (i := 125) rfl)) rfl
theorem k_606 : Jvm.Cond.methodLink "TurnHostLaw" (40 : Nat) ({ cls := "TurnHostModel", name := "run", desc := "(I)I" } : MethodName) ∈ th_tb := tbg (tbl3 (List.mem_of_getElem? (i := 126) rfl)) rfl
theorem k_607 : Jvm.Cond.instanceMethod ({ cls := "TurnHostModel", name := "run", desc := "(I)I" } : MethodName) ∈ th_tb := tbg (tbl3 (List.mem_of_getElem? (i := 127) rfl)) rfl
theorem k_608 : Jvm.Cond.selects "TurnHostModel" ({ cls := "TurnHostModel", name := "run", desc := "(I)I" } : MethodName) ({ cls := "TurnHostModel", name := "run", desc := "(I)I" } : MethodName) ∈ th_tb := tbg (tbl3 (List.mem_of_getElem? (i := 128) rfl)) rfl
theorem k_609 : Jvm.Cond.code ({ cls := "TurnHostModel", name := "run", desc := "(I)I" } : MethodName) prog_10_method_33_code (5 : Nat) (Option.some Jvm.ClassFile.FieldType.int) ∈ th_tb := tbg (tbl3 (List.mem_of_getElem? (i := 129) rfl)) rfl
theorem k_610 : Jvm.Cond.methodLink "TurnHostModel" (169 : Nat) ({ cls := "TurnHostModel", name := "step", desc := "(I)V" } : MethodName) ∈ th_tb := tbg (tbl3 (List.mem_of_getElem? (i := 130) rfl)) rfl
theorem k_612 : Jvm.Cond.instanceMethod ({ cls := "TurnHostModel", name := "step", desc := "(I)V" } : MethodName) ∈ th_tb := tbg (tbl3 (List.mem_of_getElem? (i := 132) rfl)) rfl
theorem k_613 : Jvm.Cond.code ({ cls := "TurnHostModel", name := "step", desc := "(I)V" } : MethodName) prog_10_method_30_code (5 : Nat) (Option.none : Option Jvm.ClassFile.FieldType) ∈ th_tb := tbg (tbl3 (List.mem_of_getElem? (i := 133) rfl)) rfl
theorem k_614 : Jvm.Cond.methodLink "TurnHostModel" (155 : Nat) ({ cls := "TurnHostModel", name := "make", desc := "(IIIII)Z" } : MethodName) ∈ th_tb := tbg (tbl3 (List.mem_of_getElem? (i := 134) rfl)) rfl
theorem k_616 : Jvm.Cond.instanceMethod ({ cls := "TurnHostModel", name := "make", desc := "(IIIII)Z" } : MethodName) ∈ th_tb := tbg (tbl3 (List.mem_of_getElem? (i := 136) rfl)) rfl
theorem k_617 : Jvm.Cond.code ({ cls := "TurnHostModel", name := "make", desc := "(IIIII)Z" } : MethodName) prog_10_method_25_code (9 : Nat) (Option.some Jvm.ClassFile.FieldType.boolean) ∈ th_tb := tbg (tbl3 (List.mem_of_getElem? (i := 137) rfl)) rfl
theorem k_618 : Jvm.Cond.methodLink "TurnHostModel" (77 : Nat) ({ cls := "TurnHostModel", name := "weight", desc := "(I)I" } : MethodName) ∈ th_tb := tbg (tbl3 (List.mem_of_getElem? (i := 138) rfl)) rfl
theorem k_620 : Jvm.Cond.instanceMethod ({ cls := "TurnHostModel", name := "weight", desc := "(I)I" } : MethodName) ∈ th_tb := tbg (tbl3 (List.mem_of_getElem? (i := 140) rfl)) rfl
theorem k_621 : Jvm.Cond.code ({ cls := "TurnHostModel", name := "weight", desc := "(I)I" } : MethodName) prog_10_method_7_code (2 : Nat) (Option.some Jvm.ClassFile.FieldType.int) ∈ th_tb := tbg (tbl3 (List.mem_of_getElem? (i := 141) rfl)) rfl
theorem k_622 : Jvm.Cond.methodLink "TurnHostModel" (118 : Nat) ({ cls := "TurnHostModel", name := "addParts", desc := "(IIII)V" } : MethodName) ∈ th_tb := tbg (tbl3 (List.mem_of_getElem? (i := 142) rfl)) rfl
theorem k_624 : Jvm.Cond.instanceMethod ({ cls := "TurnHostModel", name := "addParts", desc := "(IIII)V" } : MethodName) ∈ th_tb := tbg (tbl3 (List.mem_of_getElem? (i := 144) rfl)) rfl
theorem k_625 : Jvm.Cond.code ({ cls := "TurnHostModel", name := "addParts", desc := "(IIII)V" } : MethodName) prog_10_method_6_code (6 : Nat) (Option.none : Option Jvm.ClassFile.FieldType) ∈ th_tb := tbg (tbl3 (List.mem_of_getElem? (i := 145) rfl)) rfl
theorem k_626 : Jvm.Cond.methodLink "TurnHostModel" (66 : Nat) ({ cls := "TurnHostModel", name := "sortOf", desc := "(II)I" } : MethodName) ∈ th_tb := tbg (tbl3 (List.mem_of_getElem? (i := 146) rfl)) rfl
theorem k_628 : Jvm.Cond.instanceMethod ({ cls := "TurnHostModel", name := "sortOf", desc := "(II)I" } : MethodName) ∈ th_tb := tbg (tbl3 (List.mem_of_getElem? (i := 148) rfl)) rfl
theorem k_629 : Jvm.Cond.code ({ cls := "TurnHostModel", name := "sortOf", desc := "(II)I" } : MethodName) prog_10_method_8_code (3 : Nat) (Option.some Jvm.ClassFile.FieldType.int) ∈ th_tb := tbg (tbl3 (List.mem_of_getElem? (i := 149) rfl)) rfl
theorem k_630 : Jvm.Cond.methodLink "TurnHostModel" (70 : Nat) ({ cls := "TurnHostModel", name := "numberOf", desc := "(II)I" } : MethodName) ∈ th_tb := tbg (tbl3 (List.mem_of_getElem? (i := 150) rfl)) rfl
theorem k_632 : Jvm.Cond.instanceMethod ({ cls := "TurnHostModel", name := "numberOf", desc := "(II)I" } : MethodName) ∈ th_tb := tbg (tbl3 (List.mem_of_getElem? (i := 152) rfl)) rfl
theorem k_633 : Jvm.Cond.code ({ cls := "TurnHostModel", name := "numberOf", desc := "(II)I" } : MethodName) prog_10_method_9_code (3 : Nat) (Option.some Jvm.ClassFile.FieldType.int) ∈ th_tb := tbg (tbl3 (List.mem_of_getElem? (i := 153) rfl)) rfl
theorem k_634 : Jvm.Cond.methodLink "TurnHostModel" (73 : Nat) ({ cls := "TurnHostModel", name := "append", desc := "(III)V" } : MethodName) ∈ th_tb := tbg (tbl3 (List.mem_of_getElem? (i := 154) rfl)) rfl
theorem k_636 : Jvm.Cond.instanceMethod ({ cls := "TurnHostModel", name := "append", desc := "(III)V" } : MethodName) ∈ th_tb := tbg (tbl3 (List.mem_of_getElem? (i := 156) rfl)) rfl
theorem k_637 : Jvm.Cond.code ({ cls := "TurnHostModel", name := "append", desc := "(III)V" } : MethodName) prog_10_method_5_code (5 : Nat) (Option.none : Option Jvm.ClassFile.FieldType) ∈ th_tb := tbg (tbl3 (List.mem_of_getElem? (i := 157) rfl)) rfl
theorem k_638 : Jvm.Cond.methodLink "TurnHostModel" (140 : Nat) ({ cls := "TurnHostModel", name := "behind", desc := "(II)I" } : MethodName) ∈ th_tb := tbg (tbl3 (List.mem_of_getElem? (i := 158) rfl)) rfl
theorem k_640 : Jvm.Cond.instanceMethod ({ cls := "TurnHostModel", name := "behind", desc := "(II)I" } : MethodName) ∈ th_tb := tbg (tbl3 (List.mem_of_getElem? (i := 160) rfl)) rfl
theorem k_641 : Jvm.Cond.code ({ cls := "TurnHostModel", name := "behind", desc := "(II)I" } : MethodName) prog_10_method_10_code (5 : Nat) (Option.some Jvm.ClassFile.FieldType.int) ∈ th_tb := tbg (tbl3 (List.mem_of_getElem? (i := 161) rfl)) rfl
theorem k_642 : Jvm.Cond.methodLink "TurnHostModel" (159 : Nat) ({ cls := "TurnHostModel", name := "branch", desc := "(IIIII)Z" } : MethodName) ∈ th_tb := tbg (tbl3 (List.mem_of_getElem? (i := 162) rfl)) rfl
theorem k_644 : Jvm.Cond.instanceMethod ({ cls := "TurnHostModel", name := "branch", desc := "(IIIII)Z" } : MethodName) ∈ th_tb := tbg (tbl3 (List.mem_of_getElem? (i := 164) rfl)) rfl
theorem k_645 : Jvm.Cond.code ({ cls := "TurnHostModel", name := "branch", desc := "(IIIII)Z" } : MethodName) prog_10_method_26_code (8 : Nat) (Option.some Jvm.ClassFile.FieldType.boolean) ∈ th_tb := tbg (tbl3 (List.mem_of_getElem? (i := 165) rfl)) rfl
theorem k_646 : Jvm.Cond.methodLink "TurnHostModel" (143 : Nat) ({ cls := "TurnHostModel", name := "isSame", desc := "(II)Z" } : MethodName) ∈ th_tb := tbg (tbl3 (List.mem_of_getElem? (i := 166) rfl)) rfl
theorem k_648 : Jvm.Cond.instanceMethod ({ cls := "TurnHostModel", name := "isSame", desc := "(II)Z" } : MethodName) ∈ th_tb := tbg (tbl3 (List.mem_of_getElem? (i := 168) rfl)) rfl
theorem k_649 : Jvm.Cond.code ({ cls := "TurnHostModel", name := "isSame", desc := "(II)Z" } : MethodName) prog_10_method_11_code (5 : Nat) (Option.some Jvm.ClassFile.FieldType.boolean) ∈ th_tb := tbg (tbl3 (List.mem_of_getElem? (i := 169) rfl)) rfl
theorem k_650 : Jvm.Cond.methodLink "TurnHostModel" (146 : Nat) ({ cls := "TurnHostModel", name := "endBy", desc := "(II)V" } : MethodName) ∈ th_tb := tbg (tbl3 (List.mem_of_getElem? (i := 170) rfl)) rfl
theorem k_652 : Jvm.Cond.instanceMethod ({ cls := "TurnHostModel", name := "endBy", desc := "(II)V" } : MethodName) ∈ th_tb := tbg (tbl3 (List.mem_of_getElem? (i := 172) rfl)) rfl
theorem k_653 : Jvm.Cond.code ({ cls := "TurnHostModel", name := "endBy", desc := "(II)V" } : MethodName) prog_10_method_23_code (3 : Nat) (Option.none : Option Jvm.ClassFile.FieldType) ∈ th_tb := tbg (tbl3 (List.mem_of_getElem? (i := 173) rfl)) rfl
theorem k_654 : Jvm.Cond.methodLink "TurnHostModel" (137 : Nat) ({ cls := "TurnHostModel", name := "end", desc := "(II)V" } : MethodName) ∈ th_tb := tbg (tbl3 (List.mem_of_getElem? (i := 174) rfl)) rfl
theorem k_656 : Jvm.Cond.instanceMethod ({ cls := "TurnHostModel", name := "end", desc := "(II)V" } : MethodName) ∈ th_tb := tbg (tbl3 (List.mem_of_getElem? (i := 176) rfl)) rfl
theorem k_657 : Jvm.Cond.code ({ cls := "TurnHostModel", name := "end", desc := "(II)V" } : MethodName) prog_10_method_22_code (6 : Nat) (Option.none : Option Jvm.ClassFile.FieldType) ∈ th_tb := tbg (tbl3 (List.mem_of_getElem? (i := 177) rfl)) rfl
theorem k_658 : Jvm.Cond.methodLink "TurnHostModel" (128 : Nat) ({ cls := "TurnHostModel", name := "stop", desc := "(II)V" } : MethodName) ∈ th_tb := tbg (tbl3 (List.mem_of_getElem? (i := 178) rfl)) rfl
theorem k_660 : Jvm.Cond.instanceMethod ({ cls := "TurnHostModel", name := "stop", desc := "(II)V" } : MethodName) ∈ th_tb := tbg (tbl3 (List.mem_of_getElem? (i := 180) rfl)) rfl
theorem k_661 : Jvm.Cond.code ({ cls := "TurnHostModel", name := "stop", desc := "(II)V" } : MethodName) prog_10_method_21_code (3 : Nat) (Option.none : Option Jvm.ClassFile.FieldType) ∈ th_tb := tbg (tbl3 (List.mem_of_getElem? (i := 181) rfl)) rfl
theorem k_662 : Jvm.Cond.methodLink "TurnHostModel" (125 : Nat) ({ cls := "TurnHostModel", name := "leave", desc := "(I)V" } : MethodName) ∈ th_tb := tbg (tbl3 (List.mem_of_getElem? (i := 182) rfl)) rfl
theorem k_664 : Jvm.Cond.instanceMethod ({ cls := "TurnHostModel", name := "leave", desc := "(I)V" } : MethodName) ∈ th_tb := tbg (tbl3 (List.mem_of_getElem? (i := 184) rfl)) rfl
theorem k_665 : Jvm.Cond.code ({ cls := "TurnHostModel", name := "leave", desc := "(I)V" } : MethodName) prog_10_method_18_code (4 : Nat) (Option.none : Option Jvm.ClassFile.FieldType) ∈ th_tb := tbg (tbl3 (List.mem_of_getElem? (i := 185) rfl)) rfl
theorem k_666 : Jvm.Cond.methodLink "TurnHostModel" (134 : Nat) ({ cls := "TurnHostModel", name := "signal", desc := "(III)Z" } : MethodName) ∈ th_tb := tbg (tbl3 (List.mem_of_getElem? (i := 186) rfl)) rfl
theorem k_668 : Jvm.Cond.instanceMethod ({ cls := "TurnHostModel", name := "signal", desc := "(III)Z" } : MethodName) ∈ th_tb := tbg (tbl3 (List.mem_of_getElem? (i := 188) rfl)) rfl
theorem k_669 : Jvm.Cond.code ({ cls := "TurnHostModel", name := "signal", desc := "(III)Z" } : MethodName) prog_10_method_20_code (4 : Nat) (Option.some Jvm.ClassFile.FieldType.boolean) ∈ th_tb := tbg (tbl3 (List.mem_of_getElem? (i := 189) rfl)) rfl
theorem k_670 : Jvm.Cond.methodLink "TurnHostModel" (162 : Nat) ({ cls := "TurnHostModel", name := "mail", desc := "(IIII)Z" } : MethodName) ∈ th_tb := tbg (tbl3 (List.mem_of_getElem? (i := 190) rfl)) rfl
theorem k_672 : Jvm.Cond.instanceMethod ({ cls := "TurnHostModel", name := "mail", desc := "(IIII)Z" } : MethodName) ∈ th_tb := tbg (tbl3 (List.mem_of_getElem? (i := 192) rfl)) rfl
theorem k_673 : Jvm.Cond.code ({ cls := "TurnHostModel", name := "mail", desc := "(IIII)Z" } : MethodName) prog_10_method_28_code (8 : Nat) (Option.some Jvm.ClassFile.FieldType.boolean) ∈ th_tb := tbg (tbl3 (List.mem_of_getElem? (i := 193) rfl)) rfl
theorem k_674 : Jvm.Cond.methodLink "TurnHostModel" (149 : Nat) ({ cls := "TurnHostModel", name := "named", desc := "(I)I" } : MethodName) ∈ th_tb := tbg (tbl3 (List.mem_of_getElem? (i := 194) rfl)) rfl
theorem k_676 : Jvm.Cond.instanceMethod ({ cls := "TurnHostModel", name := "named", desc := "(I)I" } : MethodName) ∈ th_tb := tbg (tbl3 (List.mem_of_getElem? (i := 196) rfl)) rfl
theorem k_677 : Jvm.Cond.code ({ cls := "TurnHostModel", name := "named", desc := "(I)I" } : MethodName) prog_10_method_27_code (2 : Nat) (Option.some Jvm.ClassFile.FieldType.int) ∈ th_tb := tbg (tbl3 (List.mem_of_getElem? (i := 197) rfl)) rfl
theorem k_678 : Jvm.Cond.methodLink "TurnHostModel" (166 : Nat) ({ cls := "TurnHostModel", name := "life", desc := "(IIIII)Z" } : MethodName) ∈ th_tb := tbg (tbl3 (List.mem_of_getElem? (i := 198) rfl)) rfl
theorem k_680 : Jvm.Cond.instanceMethod ({ cls := "TurnHostModel", name := "life", desc := "(IIIII)Z" } : MethodName) ∈ th_tb := tbg (tbl3 (List.mem_of_getElem? (i := 200) rfl)) rfl
theorem k_681 : Jvm.Cond.code ({ cls := "TurnHostModel", name := "life", desc := "(IIIII)Z" } : MethodName) prog_10_method_29_code (8 : Nat) (Option.some Jvm.ClassFile.FieldType.boolean) ∈ th_tb := tbg (tbl3 (List.mem_of_getElem? (i := 201) rfl)) rfl
theorem k_682 : Jvm.Cond.methodLink "TurnHostLaw" (45 : Nat) ({ cls := "TurnHostModel", name := "clear", desc := "(Z)I" } : MethodName) ∈ th_tb := tbg (tbl3 (List.mem_of_getElem? (i := 202) rfl)) rfl
theorem k_683 : Jvm.Cond.instanceMethod ({ cls := "TurnHostModel", name := "clear", desc := "(Z)I" } : MethodName) ∈ th_tb := tbg (tbl3 (List.mem_of_getElem? (i := 203) rfl)) rfl
theorem k_684 : Jvm.Cond.selects "TurnHostModel" ({ cls := "TurnHostModel", name := "clear", desc := "(Z)I" } : MethodName) ({ cls := "TurnHostModel", name := "clear", desc := "(Z)I" } : MethodName) ∈ th_tb := tbg (tbl3 (List.mem_of_getElem? (i := 204) rfl)) rfl
theorem k_685 : Jvm.Cond.code ({ cls := "TurnHostModel", name := "clear", desc := "(Z)I" } : MethodName) prog_10_method_34_code (3 : Nat) (Option.some Jvm.ClassFile.FieldType.int) ∈ th_tb := tbg (tbl3 (List.mem_of_getElem? (i := 205) rfl)) rfl
theorem k_686 : Jvm.Cond.methodLink "TurnHostLaw" (49 : Nat) ({ cls := "TurnHostModel", name := "process", desc := "(II)I" } : MethodName) ∈ th_tb := tbg (tbl3 (List.mem_of_getElem? (i := 206) rfl)) rfl
theorem k_687 : Jvm.Cond.instanceMethod ({ cls := "TurnHostModel", name := "process", desc := "(II)I" } : MethodName) ∈ th_tb := tbg (tbl3 (List.mem_of_getElem? (i := 207) rfl)) rfl
theorem k_688 : Jvm.Cond.selects "TurnHostModel" ({ cls := "TurnHostModel", name := "process", desc := "(II)I" } : MethodName) ({ cls := "TurnHostModel", name := "process", desc := "(II)I" } : MethodName) ∈ th_tb := tbg (tbl3 (List.mem_of_getElem? (i := 208) rfl)) rfl
theorem k_689 : Jvm.Cond.code ({ cls := "TurnHostModel", name := "process", desc := "(II)I" } : MethodName) prog_10_method_35_code (3 : Nat) (Option.some Jvm.ClassFile.FieldType.int) ∈ th_tb := tbg (tbl3 (List.mem_of_getElem? (i := 209) rfl)) rfl
theorem k_690 : Jvm.Cond.methodLink "TurnHostLaw" (53 : Nat) ({ cls := "TurnHostModel", name := "queue", desc := "(I)I" } : MethodName) ∈ th_tb := tbg (tbl3 (List.mem_of_getElem? (i := 210) rfl)) rfl
theorem k_691 : Jvm.Cond.instanceMethod ({ cls := "TurnHostModel", name := "queue", desc := "(I)I" } : MethodName) ∈ th_tb := tbg (tbl3 (List.mem_of_getElem? (i := 211) rfl)) rfl
theorem k_692 : Jvm.Cond.selects "TurnHostModel" ({ cls := "TurnHostModel", name := "queue", desc := "(I)I" } : MethodName) ({ cls := "TurnHostModel", name := "queue", desc := "(I)I" } : MethodName) ∈ th_tb := tbg (tbl3 (List.mem_of_getElem? (i := 212) rfl)) rfl
theorem k_693 : Jvm.Cond.code ({ cls := "TurnHostModel", name := "queue", desc := "(I)I" } : MethodName) prog_10_method_36_code (2 : Nat) (Option.some Jvm.ClassFile.FieldType.int) ∈ th_tb := tbg (tbl3 (List.mem_of_getElem? (i := 213) rfl)) rfl
theorem k_694 : Jvm.Cond.methodLink "TurnHostLaw" (58 : Nat) ({ cls := "TurnHostModel", name := "processes", desc := "()I" } : MethodName) ∈ th_tb := tbg (tbl3 (List.mem_of_getElem? (i := 214) rfl)) rfl
theorem k_695 : Jvm.Cond.instanceMethod ({ cls := "TurnHostModel", name := "processes", desc := "()I" } : MethodName) ∈ th_tb := tbg (tbl3 (List.mem_of_getElem? (i := 215) rfl)) rfl
theorem k_696 : Jvm.Cond.selects "TurnHostModel" ({ cls := "TurnHostModel", name := "processes", desc := "()I" } : MethodName) ({ cls := "TurnHostModel", name := "processes", desc := "()I" } : MethodName) ∈ th_tb := tbg (tbl3 (List.mem_of_getElem? (i := 216) rfl)) rfl
theorem k_697 : Jvm.Cond.code ({ cls := "TurnHostModel", name := "processes", desc := "()I" } : MethodName) prog_10_method_37_code (1 : Nat) (Option.some Jvm.ClassFile.FieldType.int) ∈ th_tb := tbg (tbl3 (List.mem_of_getElem? (i := 217) rfl)) rfl
theorem k_698 : Jvm.Cond.methodLink "TurnHostLaw" (62 : Nat) ({ cls := "TurnHostModel", name := "term", desc := "(II)I" } : MethodName) ∈ th_tb := tbg (tbl3 (List.mem_of_getElem? (i := 218) rfl)) rfl
theorem k_699 : Jvm.Cond.instanceMethod ({ cls := "TurnHostModel", name := "term", desc := "(II)I" } : MethodName) ∈ th_tb := tbg (tbl3 (List.mem_of_getElem? (i := 219) rfl)) rfl
theorem k_700 : Jvm.Cond.selects "TurnHostModel" ({ cls := "TurnHostModel", name := "term", desc := "(II)I" } : MethodName) ({ cls := "TurnHostModel", name := "term", desc := "(II)I" } : MethodName) ∈ th_tb := tbg (tbl3 (List.mem_of_getElem? (i := 220) rfl)) rfl
theorem k_701 : Jvm.Cond.code ({ cls := "TurnHostModel", name := "term", desc := "(II)I" } : MethodName) prog_10_method_39_code (5 : Nat) (Option.some Jvm.ClassFile.FieldType.int) ∈ th_tb := tbg (tbl3 (List.mem_of_getElem? (i := 221) rfl)) rfl
theorem k_702 : Jvm.Cond.methodLink "TurnHostModel" (172 : Nat) ({ cls := "TurnHostModel", name := "isTerm", desc := "(II)Z" } : MethodName) ∈ th_tb := tbg (tbl3 (List.mem_of_getElem? (i := 222) rfl)) rfl
theorem k_704 : Jvm.Cond.instanceMethod ({ cls := "TurnHostModel", name := "isTerm", desc := "(II)Z" } : MethodName) ∈ th_tb := tbg (tbl3 (List.mem_of_getElem? (i := 224) rfl)) rfl
theorem k_705 : Jvm.Cond.code ({ cls := "TurnHostModel", name := "isTerm", desc := "(II)Z" } : MethodName) prog_10_method_38_code (3 : Nat) (Option.some Jvm.ClassFile.FieldType.boolean) ∈ th_tb := tbg (tbl3 (List.mem_of_getElem? (i := 225) rfl)) rfl
theorem k_706 : Jvm.Cond.constant "TurnHostModel" (175 : Nat) (1000000 : Int32) ∈ th_tb := tbg (tbl3 (List.mem_of_getElem? (i := 226) rfl)) rfl
theorem k_707 : Jvm.Cond.methodLink "TurnHostLaw" (66 : Nat) ({ cls := "TurnHostModel", name := "digest", desc := "(II)I" } : MethodName) ∈ th_tb := tbg (tbl3 (List.mem_of_getElem? (i := 227) rfl)) rfl
theorem k_708 : Jvm.Cond.instanceMethod ({ cls := "TurnHostModel", name := "digest", desc := "(II)I" } : MethodName) ∈ th_tb := tbg (tbl3 (List.mem_of_getElem? (i := 228) rfl)) rfl
theorem k_709 : Jvm.Cond.selects "TurnHostModel" ({ cls := "TurnHostModel", name := "digest", desc := "(II)I" } : MethodName) ({ cls := "TurnHostModel", name := "digest", desc := "(II)I" } : MethodName) ∈ th_tb := tbg (tbl3 (List.mem_of_getElem? (i := 229) rfl)) rfl
theorem k_710 : Jvm.Cond.code ({ cls := "TurnHostModel", name := "digest", desc := "(II)I" } : MethodName) prog_10_method_40_code (6 : Nat) (Option.some Jvm.ClassFile.FieldType.int) ∈ th_tb := tbg (tbl3 (List.mem_of_getElem? (i := 230) rfl)) rfl
theorem k_oi1 : Jvm.Cond.instanceMethod Lib.objectInit ∈ th_tb := k_17
theorem k_oi2 : Jvm.Cond.code Lib.objectInit ⟨#[0xb1]⟩ 1 none ∈ th_tb := k_18
theorem ok_T : th_ok 0 R_T F_T 5 ty_T := ⟨rfl, List.forall_mem_cons.mpr ⟨k_71, List.forall_mem_cons.mpr ⟨k_73, List.forall_mem_cons.mpr ⟨k_75, List.forall_mem_cons.mpr ⟨k_77, List.forall_mem_cons.mpr ⟨k_79, fun _ h => absurd h List.not_mem_nil⟩⟩⟩⟩⟩, ty_T_ok, n_T⟩
theorem ok_B : th_ok 1 R_B F_B 3 ty_B := ⟨rfl, List.forall_mem_cons.mpr ⟨k_96, List.forall_mem_cons.mpr ⟨k_98, List.forall_mem_cons.mpr ⟨k_100, fun _ h => absurd h List.not_mem_nil⟩⟩⟩, ty_B_ok, n_B⟩
theorem ok_P : th_ok 2 R_P F_P 12 ty_P := ⟨rfl, List.forall_mem_cons.mpr ⟨k_133, List.forall_mem_cons.mpr ⟨k_135, List.forall_mem_cons.mpr ⟨k_137, List.forall_mem_cons.mpr ⟨k_139, List.forall_mem_cons.mpr ⟨k_141, List.forall_mem_cons.mpr ⟨k_143, List.forall_mem_cons.mpr ⟨k_145, List.forall_mem_cons.mpr ⟨k_147, List.forall_mem_cons.mpr ⟨k_149, List.forall_mem_cons.mpr ⟨k_151, List.forall_mem_cons.mpr ⟨k_153, List.forall_mem_cons.mpr ⟨k_155, fun _ h => absurd h List.not_mem_nil⟩⟩⟩⟩⟩⟩⟩⟩⟩⟩⟩⟩, ty_P_ok, n_P⟩
theorem ok_L : th_ok 3 R_L F_L 2 ty_L := ⟨rfl, List.forall_mem_cons.mpr ⟨k_166, List.forall_mem_cons.mpr ⟨k_168, fun _ h => absurd h List.not_mem_nil⟩⟩, ty_L_ok, n_L⟩
theorem ok_S : th_ok 4 R_S F_S 5 ty_S := ⟨rfl, List.forall_mem_cons.mpr ⟨k_182, List.forall_mem_cons.mpr ⟨k_184, List.forall_mem_cons.mpr ⟨k_186, List.forall_mem_cons.mpr ⟨k_188, List.forall_mem_cons.mpr ⟨k_190, fun _ h => absurd h List.not_mem_nil⟩⟩⟩⟩⟩, ty_S_ok, n_S⟩
theorem ok_G : th_ok 5 R_G F_G 2 ty_G := ⟨rfl, List.forall_mem_cons.mpr ⟨k_34, List.forall_mem_cons.mpr ⟨k_36, fun _ h => absurd h List.not_mem_nil⟩⟩, ty_G_ok, n_G⟩
theorem ok_M : th_ok 6 R_M F_M 2 ty_M := ⟨rfl, List.forall_mem_cons.mpr ⟨k_197, List.forall_mem_cons.mpr ⟨k_199, fun _ h => absurd h List.not_mem_nil⟩⟩, ty_M_ok, n_M⟩
theorem ok_H : th_ok 7 R_H F_H 5 ty_H := ⟨rfl, List.forall_mem_cons.mpr ⟨k_207, List.forall_mem_cons.mpr ⟨k_209, List.forall_mem_cons.mpr ⟨k_211, List.forall_mem_cons.mpr ⟨k_213, List.forall_mem_cons.mpr ⟨k_215, fun _ h => absurd h List.not_mem_nil⟩⟩⟩⟩⟩, ty_H_ok, n_H⟩
theorem ok_N : th_ok 8 R_N F_N 22 ty_N := ⟨rfl, List.forall_mem_cons.mpr ⟨k_513, List.forall_mem_cons.mpr ⟨k_515, List.forall_mem_cons.mpr ⟨k_517, List.forall_mem_cons.mpr ⟨k_519, List.forall_mem_cons.mpr ⟨k_521, List.forall_mem_cons.mpr ⟨k_523, List.forall_mem_cons.mpr ⟨k_525, List.forall_mem_cons.mpr ⟨k_527, List.forall_mem_cons.mpr ⟨k_529, List.forall_mem_cons.mpr ⟨k_531, List.forall_mem_cons.mpr ⟨k_533, List.forall_mem_cons.mpr ⟨k_535, List.forall_mem_cons.mpr ⟨k_537, List.forall_mem_cons.mpr ⟨k_539, List.forall_mem_cons.mpr ⟨k_541, List.forall_mem_cons.mpr ⟨k_543, List.forall_mem_cons.mpr ⟨k_545, List.forall_mem_cons.mpr ⟨k_547, List.forall_mem_cons.mpr ⟨k_549, List.forall_mem_cons.mpr ⟨k_551, List.forall_mem_cons.mpr ⟨k_553, List.forall_mem_cons.mpr ⟨k_555, fun _ h => absurd h List.not_mem_nil⟩⟩⟩⟩⟩⟩⟩⟩⟩⟩⟩⟩⟩⟩⟩⟩⟩⟩⟩⟩⟩⟩, ty_N_ok, n_N⟩
def dv_T : Nat → Value := fun k => defaultValue (ty_T k)
def dv_B : Nat → Value := fun k => defaultValue (ty_B k)
def dv_P : Nat → Value := fun k => defaultValue (ty_P k)
def dv_L : Nat → Value := fun k => defaultValue (ty_L k)
def dv_S : Nat → Value := fun k => defaultValue (ty_S k)
def dv_G : Nat → Value := fun k => defaultValue (ty_G k)
def dv_M : Nat → Value := fun k => defaultValue (ty_M k)
def dv_H : Nat → Value := fun k => defaultValue (ty_H k)
def dv_N : Nat → Value := fun k => defaultValue (ty_N k)
theorem ln_W_7 : th_ln "TurnHostLaw" 7 7 5 dv_H := ⟨R_H, F_H, ty_H, ok_H, k_11, k_12, k_1, fun j hj => rfl⟩
theorem lc_W_7 : Jvm.Cond.classLink "TurnHostLaw" 7 "TurnHost" ∈ th_tb := k_11
theorem lm_W_15 : th_mi "TurnHostLaw" 15 m_H_init 1 := ⟨⟨⟨by decide +kernel, by decide +kernel, by decide +kernel⟩, by decide +kernel, k_1, k_15⟩, k_13, k_14, rfl, rfl⟩
theorem lo_H_1 : Jvm.Cond.methodLink "TurnHost" 1 Lib.objectInit ∈ th_tb := k_16
theorem ln_H_13 : th_ln "TurnHost" 13 6 2 dv_M := ⟨R_M, F_M, ty_M, ok_M, k_19, k_20, k_2, fun j hj => rfl⟩
theorem lc_H_13 : Jvm.Cond.classLink "TurnHost" 13 "TurnHost$Machine" ∈ th_tb := k_19
theorem lm_H_15 : th_mi "TurnHost" 15 m_M_init 0 := ⟨⟨⟨by decide +kernel, by decide +kernel, by decide +kernel⟩, by decide +kernel, k_2, k_23⟩, k_21, k_22, rfl, rfl⟩
theorem lo_M_3 : Jvm.Cond.methodLink "TurnHost$Machine" 3 Lib.objectInit ∈ th_tb := k_24
theorem ln_M_9 : th_ln "TurnHost$Machine" 9 5 2 dv_G := ⟨R_G, F_G, ty_G, ok_G, k_25, k_26, k_3, fun j hj => rfl⟩
theorem lc_M_9 : Jvm.Cond.classLink "TurnHost$Machine" 9 "TurnHost$Program" ∈ th_tb := k_25
theorem lm_M_11 : th_mi "TurnHost$Machine" 11 m_G_init 0 := ⟨⟨⟨by decide +kernel, by decide +kernel, by decide +kernel⟩, by decide +kernel, k_3, k_29⟩, k_27, k_28, rfl, rfl⟩
theorem lo_G_3 : Jvm.Cond.methodLink "TurnHost$Program" 3 Lib.objectInit ∈ th_tb := k_30
theorem lf_G_9 : th_lf "TurnHost$Program" 9 5 0 := ⟨R_G, F_G, 2, ty_G, ok_G, by decide, k_31⟩
theorem lp_G_9 : th_lpF "TurnHost$Program" 9 5 0 1 := ⟨R_G, F_G, 2, ty_G, ok_G, by decide, k_31, rfl, rfl, (th_fty_a _)⟩
theorem lf_M_46 : th_lf "TurnHost$Machine" 46 5 0 := ⟨R_G, F_G, 2, ty_G, ok_G, by decide, k_32⟩
theorem lf_G_15 : th_lf "TurnHost$Program" 15 5 1 := ⟨R_G, F_G, 2, ty_G, ok_G, by decide, k_33⟩
theorem lp_G_15 : th_lp "TurnHost$Program" 15 5 1 0 := ⟨R_G, F_G, 2, ty_G, ok_G, by decide, k_33, rfl, th_fty_i⟩
theorem ln_M_18 : th_ln "TurnHost$Machine" 18 4 5 dv_S := ⟨R_S, F_S, ty_S, ok_S, k_40, k_41, k_4, fun j hj => rfl⟩
theorem lc_M_18 : Jvm.Cond.classLink "TurnHost$Machine" 18 "TurnHost$Society" ∈ th_tb := k_40
theorem lm_M_20 : th_mi "TurnHost$Machine" 20 m_S_init 0 := ⟨⟨⟨by decide +kernel, by decide +kernel, by decide +kernel⟩, by decide +kernel, k_4, k_44⟩, k_42, k_43, rfl, rfl⟩
theorem lo_S_3 : Jvm.Cond.methodLink "TurnHost$Society" 3 Lib.objectInit ∈ th_tb := k_45
theorem ln_S_9 : th_ln "TurnHost$Society" 9 2 12 dv_P := ⟨R_P, F_P, ty_P, ok_P, k_46, k_48, k_5, fun j hj => rfl⟩
theorem lc_S_9 : Jvm.Cond.classLink "TurnHost$Society" 9 "TurnHost$HostProcess" ∈ th_tb := k_46
theorem lm_S_17 : th_mi "TurnHost$Society" 17 m_P_init 1 := ⟨⟨⟨by decide +kernel, by decide +kernel, by decide +kernel⟩, by decide +kernel, k_5, k_51⟩, k_49, k_50, rfl, rfl⟩
theorem lo_P_3 : Jvm.Cond.methodLink "TurnHost$HostProcess" 3 Lib.objectInit ∈ th_tb := k_52
theorem ln_P_15 : th_ln "TurnHost$HostProcess" 15 0 5 dv_T := ⟨R_T, F_T, ty_T, ok_T, k_53, k_54, k_6, fun j hj => rfl⟩
theorem lc_P_15 : Jvm.Cond.classLink "TurnHost$HostProcess" 15 "TurnHost$Term" ∈ th_tb := k_53
theorem lm_P_17 : th_mi "TurnHost$HostProcess" 17 m_T_init 2 := ⟨⟨⟨by decide +kernel, by decide +kernel, by decide +kernel⟩, by decide +kernel, k_6, k_57⟩, k_55, k_56, rfl, rfl⟩
theorem lo_T_3 : Jvm.Cond.methodLink "TurnHost$Term" 3 Lib.objectInit ∈ th_tb := k_58
theorem lf_T_9 : th_lf "TurnHost$Term" 9 0 0 := ⟨R_T, F_T, 5, ty_T, ok_T, by decide, k_59⟩
theorem lp_T_9 : th_lpF "TurnHost$Term" 9 0 0 0 := ⟨R_T, F_T, 5, ty_T, ok_T, by decide, k_59, rfl, rfl, th_fty_i⟩
theorem lf_M_97 : th_lf "TurnHost$Machine" 97 0 0 := ⟨R_T, F_T, 5, ty_T, ok_T, by decide, k_60⟩
theorem lf_S_47 : th_lf "TurnHost$Society" 47 0 0 := ⟨R_T, F_T, 5, ty_T, ok_T, by decide, k_61⟩
theorem lf_T_15 : th_lf "TurnHost$Term" 15 0 1 := ⟨R_T, F_T, 5, ty_T, ok_T, by decide, k_62⟩
theorem lp_T_15 : th_lpF "TurnHost$Term" 15 0 1 0 := ⟨R_T, F_T, 5, ty_T, ok_T, by decide, k_62, rfl, rfl, th_fty_i⟩
theorem lf_M_87 : th_lf "TurnHost$Machine" 87 0 1 := ⟨R_T, F_T, 5, ty_T, ok_T, by decide, k_63⟩
theorem lf_S_50 : th_lf "TurnHost$Society" 50 0 1 := ⟨R_T, F_T, 5, ty_T, ok_T, by decide, k_64⟩
theorem lf_T_18 : th_lf "TurnHost$Term" 18 0 2 := ⟨R_T, F_T, 5, ty_T, ok_T, by decide, k_65⟩
theorem lp_T_18 : th_lpF "TurnHost$Term" 18 0 2 1 := ⟨R_T, F_T, 5, ty_T, ok_T, by decide, k_65, rfl, rfl, (th_fty_o _)⟩
theorem lf_M_77 : th_lf "TurnHost$Machine" 77 0 2 := ⟨R_T, F_T, 5, ty_T, ok_T, by decide, k_66⟩
theorem lf_T_22 : th_lf "TurnHost$Term" 22 0 3 := ⟨R_T, F_T, 5, ty_T, ok_T, by decide, k_67⟩
theorem lp_T_22 : th_lpF "TurnHost$Term" 22 0 3 1 := ⟨R_T, F_T, 5, ty_T, ok_T, by decide, k_67, rfl, rfl, (th_fty_o _)⟩
theorem lf_M_80 : th_lf "TurnHost$Machine" 80 0 3 := ⟨R_T, F_T, 5, ty_T, ok_T, by decide, k_68⟩
theorem lf_T_25 : th_lf "TurnHost$Term" 25 0 4 := ⟨R_T, F_T, 5, ty_T, ok_T, by decide, k_69⟩
theorem lp_T_25 : th_lpF "TurnHost$Term" 25 0 4 0 := ⟨R_T, F_T, 5, ty_T, ok_T, by decide, k_69, rfl, rfl, th_fty_i⟩
theorem lf_S_114 : th_lf "TurnHost$Society" 114 0 4 := ⟨R_T, F_T, 5, ty_T, ok_T, by decide, k_70⟩
theorem ln_P_32 : th_ln "TurnHost$HostProcess" 32 1 3 dv_B := ⟨R_B, F_B, ty_B, ok_B, k_83, k_84, k_7, fun j hj => rfl⟩
theorem lc_P_32 : Jvm.Cond.classLink "TurnHost$HostProcess" 32 "TurnHost$Mailbox" ∈ th_tb := k_83
theorem lm_P_34 : th_mi "TurnHost$HostProcess" 34 m_B_init 0 := ⟨⟨⟨by decide +kernel, by decide +kernel, by decide +kernel⟩, by decide +kernel, k_7, k_87⟩, k_85, k_86, rfl, rfl⟩
theorem lo_B_3 : Jvm.Cond.methodLink "TurnHost$Mailbox" 3 Lib.objectInit ∈ th_tb := k_88
theorem ln_B_9 : th_ln "TurnHost$Mailbox" 9 0 5 dv_T := ⟨R_T, F_T, ty_T, ok_T, k_89, k_54, k_6, fun j hj => rfl⟩
theorem lc_B_9 : Jvm.Cond.classLink "TurnHost$Mailbox" 9 "TurnHost$Term" ∈ th_tb := k_89
theorem lf_B_11 : th_lf "TurnHost$Mailbox" 11 1 0 := ⟨R_B, F_B, 3, ty_B, ok_B, by decide, k_90⟩
theorem lp_B_11 : th_lpF "TurnHost$Mailbox" 11 1 0 1 := ⟨R_B, F_B, 3, ty_B, ok_B, by decide, k_90, rfl, rfl, (th_fty_a _)⟩
theorem lf_B_17 : th_lf "TurnHost$Mailbox" 17 1 1 := ⟨R_B, F_B, 3, ty_B, ok_B, by decide, k_91⟩
theorem lp_B_17 : th_lp "TurnHost$Mailbox" 17 1 1 0 := ⟨R_B, F_B, 3, ty_B, ok_B, by decide, k_91, rfl, th_fty_i⟩
theorem lf_P_67 : th_lf "TurnHost$HostProcess" 67 1 1 := ⟨R_B, F_B, 3, ty_B, ok_B, by decide, k_92⟩
theorem lp_P_67 : th_lp "TurnHost$HostProcess" 67 1 1 0 := ⟨R_B, F_B, 3, ty_B, ok_B, by decide, k_92, rfl, th_fty_i⟩
theorem lf_B_21 : th_lf "TurnHost$Mailbox" 21 1 2 := ⟨R_B, F_B, 3, ty_B, ok_B, by decide, k_93⟩
theorem lp_B_21 : th_lp "TurnHost$Mailbox" 21 1 2 0 := ⟨R_B, F_B, 3, ty_B, ok_B, by decide, k_93, rfl, th_fty_i⟩
theorem lf_P_64 : th_lf "TurnHost$HostProcess" 64 1 2 := ⟨R_B, F_B, 3, ty_B, ok_B, by decide, k_94⟩
theorem lp_P_64 : th_lp "TurnHost$HostProcess" 64 1 2 0 := ⟨R_B, F_B, 3, ty_B, ok_B, by decide, k_94, rfl, th_fty_i⟩
theorem lf_M_166 : th_lf "TurnHost$Machine" 166 1 2 := ⟨R_B, F_B, 3, ty_B, ok_B, by decide, k_95⟩
theorem lp_M_166 : th_lp "TurnHost$Machine" 166 1 2 0 := ⟨R_B, F_B, 3, ty_B, ok_B, by decide, k_95, rfl, th_fty_i⟩
theorem lf_P_9 : th_lf "TurnHost$HostProcess" 9 2 0 := ⟨R_P, F_P, 12, ty_P, ok_P, by decide, k_103⟩
theorem lp_P_9 : th_lpF "TurnHost$HostProcess" 9 2 0 0 := ⟨R_P, F_P, 12, ty_P, ok_P, by decide, k_103, rfl, rfl, th_fty_i⟩
theorem lf_H_50 : th_lf "TurnHost" 50 2 0 := ⟨R_P, F_P, 12, ty_P, ok_P, by decide, k_104⟩
theorem lf_S_61 : th_lf "TurnHost$Society" 61 2 0 := ⟨R_P, F_P, 12, ty_P, ok_P, by decide, k_105⟩
theorem lf_P_20 : th_lf "TurnHost$HostProcess" 20 2 1 := ⟨R_P, F_P, 12, ty_P, ok_P, by decide, k_106⟩
theorem lp_P_20 : th_lpF "TurnHost$HostProcess" 20 2 1 1 := ⟨R_P, F_P, 12, ty_P, ok_P, by decide, k_106, rfl, rfl, (th_fty_o _)⟩
theorem lf_M_66 : th_lf "TurnHost$Machine" 66 2 1 := ⟨R_P, F_P, 12, ty_P, ok_P, by decide, k_107⟩
theorem lf_S_117 : th_lf "TurnHost$Society" 117 2 1 := ⟨R_P, F_P, 12, ty_P, ok_P, by decide, k_108⟩
theorem lf_P_24 : th_lf "TurnHost$HostProcess" 24 2 2 := ⟨R_P, F_P, 12, ty_P, ok_P, by decide, k_109⟩
theorem lp_P_24 : th_lpF "TurnHost$HostProcess" 24 2 2 1 := ⟨R_P, F_P, 12, ty_P, ok_P, by decide, k_109, rfl, rfl, (th_fty_a _)⟩
theorem lf_M_54 : th_lf "TurnHost$Machine" 54 2 2 := ⟨R_P, F_P, 12, ty_P, ok_P, by decide, k_110⟩
theorem lf_P_28 : th_lf "TurnHost$HostProcess" 28 2 3 := ⟨R_P, F_P, 12, ty_P, ok_P, by decide, k_111⟩
theorem lp_P_28 : th_lpF "TurnHost$HostProcess" 28 2 3 1 := ⟨R_P, F_P, 12, ty_P, ok_P, by decide, k_111, rfl, rfl, (th_fty_a _)⟩
theorem lf_M_160 : th_lf "TurnHost$Machine" 160 2 3 := ⟨R_P, F_P, 12, ty_P, ok_P, by decide, k_112⟩
theorem lf_P_35 : th_lf "TurnHost$HostProcess" 35 2 4 := ⟨R_P, F_P, 12, ty_P, ok_P, by decide, k_113⟩
theorem lp_P_35 : th_lpF "TurnHost$HostProcess" 35 2 4 1 := ⟨R_P, F_P, 12, ty_P, ok_P, by decide, k_113, rfl, rfl, (th_fty_o _)⟩
theorem lf_M_119 : th_lf "TurnHost$Machine" 119 2 4 := ⟨R_P, F_P, 12, ty_P, ok_P, by decide, k_114⟩
theorem lf_S_68 : th_lf "TurnHost$Society" 68 2 4 := ⟨R_P, F_P, 12, ty_P, ok_P, by decide, k_115⟩
theorem lf_P_42 : th_lf "TurnHost$HostProcess" 42 2 5 := ⟨R_P, F_P, 12, ty_P, ok_P, by decide, k_116⟩
theorem lp_P_42 : th_lp "TurnHost$HostProcess" 42 2 5 0 := ⟨R_P, F_P, 12, ty_P, ok_P, by decide, k_116, rfl, th_fty_i⟩
theorem lf_M_157 : th_lf "TurnHost$Machine" 157 2 5 := ⟨R_P, F_P, 12, ty_P, ok_P, by decide, k_117⟩
theorem lp_M_157 : th_lp "TurnHost$Machine" 157 2 5 0 := ⟨R_P, F_P, 12, ty_P, ok_P, by decide, k_117, rfl, th_fty_i⟩
theorem lf_M_31 : th_lf "TurnHost$Machine" 31 2 6 := ⟨R_P, F_P, 12, ty_P, ok_P, by decide, k_118⟩
theorem lp_M_31 : th_lp "TurnHost$Machine" 31 2 6 0 := ⟨R_P, F_P, 12, ty_P, ok_P, by decide, k_118, rfl, th_fty_i⟩
theorem lf_P_45 : th_lf "TurnHost$HostProcess" 45 2 6 := ⟨R_P, F_P, 12, ty_P, ok_P, by decide, k_119⟩
theorem lp_P_45 : th_lp "TurnHost$HostProcess" 45 2 6 0 := ⟨R_P, F_P, 12, ty_P, ok_P, by decide, k_119, rfl, th_fty_i⟩
theorem lf_P_48 : th_lf "TurnHost$HostProcess" 48 2 7 := ⟨R_P, F_P, 12, ty_P, ok_P, by decide, k_120⟩
theorem lp_P_48 : th_lp "TurnHost$HostProcess" 48 2 7 0 := ⟨R_P, F_P, 12, ty_P, ok_P, by decide, k_120, rfl, th_fty_i⟩
theorem lf_S_81 : th_lf "TurnHost$Society" 81 2 7 := ⟨R_P, F_P, 12, ty_P, ok_P, by decide, k_121⟩
theorem lp_S_81 : th_lp "TurnHost$Society" 81 2 7 0 := ⟨R_P, F_P, 12, ty_P, ok_P, by decide, k_121, rfl, th_fty_i⟩
theorem lf_P_51 : th_lf "TurnHost$HostProcess" 51 2 8 := ⟨R_P, F_P, 12, ty_P, ok_P, by decide, k_122⟩
theorem lp_P_51 : th_lp "TurnHost$HostProcess" 51 2 8 2 := ⟨R_P, F_P, 12, ty_P, ok_P, by decide, k_122, rfl, th_fty_b⟩
theorem lf_S_95 : th_lf "TurnHost$Society" 95 2 8 := ⟨R_P, F_P, 12, ty_P, ok_P, by decide, k_123⟩
theorem lp_S_95 : th_lp "TurnHost$Society" 95 2 8 2 := ⟨R_P, F_P, 12, ty_P, ok_P, by decide, k_123, rfl, th_fty_b⟩
theorem lf_M_188 : th_lf "TurnHost$Machine" 188 2 8 := ⟨R_P, F_P, 12, ty_P, ok_P, by decide, k_124⟩
theorem lp_M_188 : th_lp "TurnHost$Machine" 188 2 8 2 := ⟨R_P, F_P, 12, ty_P, ok_P, by decide, k_124, rfl, th_fty_b⟩
theorem lf_P_55 : th_lf "TurnHost$HostProcess" 55 2 9 := ⟨R_P, F_P, 12, ty_P, ok_P, by decide, k_125⟩
theorem lp_P_55 : th_lp "TurnHost$HostProcess" 55 2 9 0 := ⟨R_P, F_P, 12, ty_P, ok_P, by decide, k_125, rfl, th_fty_i⟩
theorem lf_H_59 : th_lf "TurnHost" 59 2 9 := ⟨R_P, F_P, 12, ty_P, ok_P, by decide, k_126⟩
theorem lp_H_59 : th_lp "TurnHost" 59 2 9 0 := ⟨R_P, F_P, 12, ty_P, ok_P, by decide, k_126, rfl, th_fty_i⟩
theorem lf_S_65 : th_lf "TurnHost$Society" 65 2 9 := ⟨R_P, F_P, 12, ty_P, ok_P, by decide, k_127⟩
theorem lp_S_65 : th_lp "TurnHost$Society" 65 2 9 0 := ⟨R_P, F_P, 12, ty_P, ok_P, by decide, k_127, rfl, th_fty_i⟩
theorem lf_M_177 : th_lf "TurnHost$Machine" 177 2 9 := ⟨R_P, F_P, 12, ty_P, ok_P, by decide, k_128⟩
theorem lp_M_177 : th_lp "TurnHost$Machine" 177 2 9 0 := ⟨R_P, F_P, 12, ty_P, ok_P, by decide, k_128, rfl, th_fty_i⟩
theorem lf_P_58 : th_lf "TurnHost$HostProcess" 58 2 10 := ⟨R_P, F_P, 12, ty_P, ok_P, by decide, k_129⟩
theorem lp_P_58 : th_lp "TurnHost$HostProcess" 58 2 10 1 := ⟨R_P, F_P, 12, ty_P, ok_P, by decide, k_129, rfl, (th_fty_o _)⟩
theorem lf_S_84 : th_lf "TurnHost$Society" 84 2 10 := ⟨R_P, F_P, 12, ty_P, ok_P, by decide, k_130⟩
theorem lp_S_84 : th_lp "TurnHost$Society" 84 2 10 1 := ⟨R_P, F_P, 12, ty_P, ok_P, by decide, k_130, rfl, (th_fty_o _)⟩
theorem lf_M_25 : th_lf "TurnHost$Machine" 25 2 11 := ⟨R_P, F_P, 12, ty_P, ok_P, by decide, k_131⟩
theorem lp_M_25 : th_lp "TurnHost$Machine" 25 2 11 0 := ⟨R_P, F_P, 12, ty_P, ok_P, by decide, k_131, rfl, th_fty_i⟩
theorem lf_P_61 : th_lf "TurnHost$HostProcess" 61 2 11 := ⟨R_P, F_P, 12, ty_P, ok_P, by decide, k_132⟩
theorem lp_P_61 : th_lp "TurnHost$HostProcess" 61 2 11 0 := ⟨R_P, F_P, 12, ty_P, ok_P, by decide, k_132, rfl, th_fty_i⟩
theorem ln_S_20 : th_ln "TurnHost$Society" 20 3 2 dv_L := ⟨R_L, F_L, ty_L, ok_L, k_158, k_159, k_8, fun j hj => rfl⟩
theorem lc_S_20 : Jvm.Cond.classLink "TurnHost$Society" 20 "TurnHost$Line" ∈ th_tb := k_158
theorem lm_S_22 : th_mi "TurnHost$Society" 22 m_L_init 0 := ⟨⟨⟨by decide +kernel, by decide +kernel, by decide +kernel⟩, by decide +kernel, k_8, k_162⟩, k_160, k_161, rfl, rfl⟩
theorem lo_L_3 : Jvm.Cond.methodLink "TurnHost$Line" 3 Lib.objectInit ∈ th_tb := k_163
theorem lf_L_9 : th_lf "TurnHost$Line" 9 3 0 := ⟨R_L, F_L, 2, ty_L, ok_L, by decide, k_164⟩
theorem lp_L_9 : th_lpF "TurnHost$Line" 9 3 0 1 := ⟨R_L, F_L, 2, ty_L, ok_L, by decide, k_164, rfl, rfl, (th_fty_a _)⟩
theorem lf_L_15 : th_lf "TurnHost$Line" 15 3 1 := ⟨R_L, F_L, 2, ty_L, ok_L, by decide, k_165⟩
theorem lp_L_15 : th_lp "TurnHost$Line" 15 3 1 0 := ⟨R_L, F_L, 2, ty_L, ok_L, by decide, k_165, rfl, th_fty_i⟩
theorem ln_S_27 : th_ln "TurnHost$Society" 27 0 5 dv_T := ⟨R_T, F_T, ty_T, ok_T, k_171, k_54, k_6, fun j hj => rfl⟩
theorem lc_S_27 : Jvm.Cond.classLink "TurnHost$Society" 27 "TurnHost$Term" ∈ th_tb := k_171
theorem lm_S_29 : th_mi "TurnHost$Society" 29 m_T_init 2 := ⟨⟨⟨by decide +kernel, by decide +kernel, by decide +kernel⟩, by decide +kernel, k_6, k_57⟩, k_172, k_56, rfl, rfl⟩
theorem lf_S_11 : th_lf "TurnHost$Society" 11 4 0 := ⟨R_S, F_S, 5, ty_S, ok_S, by decide, k_173⟩
theorem lp_S_11 : th_lpF "TurnHost$Society" 11 4 0 1 := ⟨R_S, F_S, 5, ty_S, ok_S, by decide, k_173, rfl, rfl, (th_fty_a _)⟩
theorem lf_S_23 : th_lf "TurnHost$Society" 23 4 1 := ⟨R_S, F_S, 5, ty_S, ok_S, by decide, k_174⟩
theorem lp_S_23 : th_lpF "TurnHost$Society" 23 4 1 1 := ⟨R_S, F_S, 5, ty_S, ok_S, by decide, k_174, rfl, rfl, (th_fty_o _)⟩
theorem lf_H_66 : th_lf "TurnHost" 66 4 1 := ⟨R_S, F_S, 5, ty_S, ok_S, by decide, k_175⟩
theorem lf_S_32 : th_lf "TurnHost$Society" 32 4 2 := ⟨R_S, F_S, 5, ty_S, ok_S, by decide, k_176⟩
theorem lp_S_32 : th_lpF "TurnHost$Society" 32 4 2 1 := ⟨R_S, F_S, 5, ty_S, ok_S, by decide, k_176, rfl, rfl, (th_fty_o _)⟩
theorem lf_M_70 : th_lf "TurnHost$Machine" 70 4 2 := ⟨R_S, F_S, 5, ty_S, ok_S, by decide, k_177⟩
theorem lf_S_36 : th_lf "TurnHost$Society" 36 4 3 := ⟨R_S, F_S, 5, ty_S, ok_S, by decide, k_178⟩
theorem lp_S_36 : th_lpF "TurnHost$Society" 36 4 3 1 := ⟨R_S, F_S, 5, ty_S, ok_S, by decide, k_178, rfl, rfl, (th_fty_a _)⟩
theorem lf_M_38 : th_lf "TurnHost$Machine" 38 4 3 := ⟨R_S, F_S, 5, ty_S, ok_S, by decide, k_179⟩
theorem lf_S_40 : th_lf "TurnHost$Society" 40 4 4 := ⟨R_S, F_S, 5, ty_S, ok_S, by decide, k_180⟩
theorem lp_S_40 : th_lp "TurnHost$Society" 40 4 4 0 := ⟨R_S, F_S, 5, ty_S, ok_S, by decide, k_180, rfl, th_fty_i⟩
theorem lf_H_83 : th_lf "TurnHost" 83 4 4 := ⟨R_S, F_S, 5, ty_S, ok_S, by decide, k_181⟩
theorem lp_H_83 : th_lp "TurnHost" 83 4 4 0 := ⟨R_S, F_S, 5, ty_S, ok_S, by decide, k_181, rfl, th_fty_i⟩
theorem lf_M_12 : th_lf "TurnHost$Machine" 12 6 0 := ⟨R_M, F_M, 2, ty_M, ok_M, by decide, k_193⟩
theorem lp_M_12 : th_lpF "TurnHost$Machine" 12 6 0 1 := ⟨R_M, F_M, 2, ty_M, ok_M, by decide, k_193, rfl, rfl, (th_fty_o _)⟩
theorem lf_H_20 : th_lf "TurnHost" 20 6 0 := ⟨R_M, F_M, 2, ty_M, ok_M, by decide, k_194⟩
theorem lf_M_21 : th_lf "TurnHost$Machine" 21 6 1 := ⟨R_M, F_M, 2, ty_M, ok_M, by decide, k_195⟩
theorem lp_M_21 : th_lpF "TurnHost$Machine" 21 6 1 1 := ⟨R_M, F_M, 2, ty_M, ok_M, by decide, k_195, rfl, rfl, (th_fty_o _)⟩
theorem lf_H_25 : th_lf "TurnHost" 25 6 1 := ⟨R_M, F_M, 2, ty_M, ok_M, by decide, k_196⟩
theorem lf_H_9 : th_lf "TurnHost" 9 7 0 := ⟨R_H, F_H, 5, ty_H, ok_H, by decide, k_202⟩
theorem lp_H_9 : th_lpF "TurnHost" 9 7 0 0 := ⟨R_H, F_H, 5, ty_H, ok_H, by decide, k_202, rfl, rfl, th_fty_i⟩
theorem lf_H_16 : th_lf "TurnHost" 16 7 1 := ⟨R_H, F_H, 5, ty_H, ok_H, by decide, k_203⟩
theorem lp_H_16 : th_lpF "TurnHost" 16 7 1 1 := ⟨R_H, F_H, 5, ty_H, ok_H, by decide, k_203, rfl, rfl, (th_fty_o _)⟩
theorem lf_H_24 : th_lf "TurnHost" 24 7 2 := ⟨R_H, F_H, 5, ty_H, ok_H, by decide, k_204⟩
theorem lp_H_24 : th_lpF "TurnHost" 24 7 2 1 := ⟨R_H, F_H, 5, ty_H, ok_H, by decide, k_204, rfl, rfl, (th_fty_o _)⟩
theorem lf_H_29 : th_lf "TurnHost" 29 7 3 := ⟨R_H, F_H, 5, ty_H, ok_H, by decide, k_205⟩
theorem lp_H_29 : th_lpF "TurnHost" 29 7 3 1 := ⟨R_H, F_H, 5, ty_H, ok_H, by decide, k_205, rfl, rfl, (th_fty_o _)⟩
theorem lf_H_30 : th_lf "TurnHost" 30 7 4 := ⟨R_H, F_H, 5, ty_H, ok_H, by decide, k_206⟩
theorem lp_H_30 : th_lp "TurnHost" 30 7 4 0 := ⟨R_H, F_H, 5, ty_H, ok_H, by decide, k_206, rfl, th_fty_i⟩
theorem lm_W_21 : th_mv "TurnHostLaw" 21 m_H_add 4 := ⟨⟨⟨by decide +kernel, by decide +kernel, by decide +kernel⟩, by decide +kernel, k_1, k_221⟩, k_218, k_219, k_220⟩
theorem lm_H_33 : th_mv "TurnHost" 33 m_G_append 4 := ⟨⟨⟨by decide +kernel, by decide +kernel, by decide +kernel⟩, by decide +kernel, k_3, k_225⟩, k_222, k_223, k_224⟩
theorem lm_G_22 : th_ms "TurnHost$Program" 22 m_G_fits 2 := ⟨⟨⟨by decide +kernel, by decide +kernel, by decide +kernel⟩, by decide +kernel, k_3, k_230⟩, k_228, k_229⟩
theorem lm_W_26 : th_mv "TurnHostLaw" 26 m_H_begin 2 := ⟨⟨⟨by decide +kernel, by decide +kernel, by decide +kernel⟩, by decide +kernel, k_1, k_234⟩, k_231, k_232, k_233⟩
theorem ln_H_39 : th_ln "TurnHost" 39 0 5 dv_T := ⟨R_T, F_T, ty_T, ok_T, k_235, k_54, k_6, fun j hj => rfl⟩
theorem lc_H_39 : Jvm.Cond.classLink "TurnHost" 39 "TurnHost$Term" ∈ th_tb := k_235
theorem lm_H_41 : th_mi "TurnHost" 41 m_T_init 2 := ⟨⟨⟨by decide +kernel, by decide +kernel, by decide +kernel⟩, by decide +kernel, k_6, k_57⟩, k_236, k_56, rfl, rfl⟩
theorem lm_H_44 : th_mv "TurnHost" 44 m_S_start 2 := ⟨⟨⟨by decide +kernel, by decide +kernel, by decide +kernel⟩, by decide +kernel, k_4, k_240⟩, k_237, k_238, k_239⟩
theorem lm_S_57 : th_mv "TurnHost$Society" 57 m_P_renew 3 := ⟨⟨⟨by decide +kernel, by decide +kernel, by decide +kernel⟩, by decide +kernel, k_5, k_244⟩, k_241, k_242, k_243⟩
theorem lm_P_39 : th_mv "TurnHost$HostProcess" 39 m_B_empty 0 := ⟨⟨⟨by decide +kernel, by decide +kernel, by decide +kernel⟩, by decide +kernel, k_7, k_248⟩, k_245, k_246, k_247⟩
theorem lm_S_62 : th_mv "TurnHost$Society" 62 m_L_append 1 := ⟨⟨⟨by decide +kernel, by decide +kernel, by decide +kernel⟩, by decide +kernel, k_8, k_252⟩, k_249, k_250, k_251⟩
theorem lm_W_31 : th_mv "TurnHostLaw" 31 m_H_tell 2 := ⟨⟨⟨by decide +kernel, by decide +kernel, by decide +kernel⟩, by decide +kernel, k_1, k_256⟩, k_253, k_254, k_255⟩
theorem lm_H_55 : th_mv "TurnHost" 55 m_S_numbered 1 := ⟨⟨⟨by decide +kernel, by decide +kernel, by decide +kernel⟩, by decide +kernel, k_4, k_260⟩, k_257, k_258, k_259⟩
theorem lm_H_62 : th_mv "TurnHost" 62 m_S_deliver 2 := ⟨⟨⟨by decide +kernel, by decide +kernel, by decide +kernel⟩, by decide +kernel, k_4, k_264⟩, k_261, k_262, k_263⟩
theorem lm_S_72 : th_mv "TurnHost$Society" 72 m_B_put 1 := ⟨⟨⟨by decide +kernel, by decide +kernel, by decide +kernel⟩, by decide +kernel, k_7, k_268⟩, k_265, k_266, k_267⟩
theorem lm_W_36 : th_mv "TurnHostLaw" 36 m_H_run 1 := ⟨⟨⟨by decide +kernel, by decide +kernel, by decide +kernel⟩, by decide +kernel, k_1, k_272⟩, k_269, k_270, k_271⟩
theorem lm_H_70 : th_mv "TurnHost" 70 m_L_at 1 := ⟨⟨⟨by decide +kernel, by decide +kernel, by decide +kernel⟩, by decide +kernel, k_8, k_276⟩, k_273, k_274, k_275⟩
theorem lm_H_76 : th_mv "TurnHost" 76 m_M_reduce 1 := ⟨⟨⟨by decide +kernel, by decide +kernel, by decide +kernel⟩, by decide +kernel, k_2, k_280⟩, k_277, k_278, k_279⟩
theorem lm_M_34 : th_mv "TurnHost$Machine" 34 m_G_reaches 1 := ⟨⟨⟨by decide +kernel, by decide +kernel, by decide +kernel⟩, by decide +kernel, k_3, k_284⟩, k_281, k_282, k_283⟩
theorem lm_M_42 : th_mvN "TurnHost$Machine" 42 m_S_end 2 := ⟨⟨⟨by decide +kernel, by decide +kernel, by decide +kernel⟩, by decide +kernel, k_4, k_288⟩, ⟨"TurnHost", tbl2 (List.mem_of_getElem? (i := 45) rfl)⟩, k_287, tbP (List.mem_append_left _ (List.mem_of_getElem? (i := 0) rfl))⟩
theorem lm_S_78 : th_mv "TurnHost$Society" 78 m_L_leave 1 := ⟨⟨⟨by decide +kernel, by decide +kernel, by decide +kernel⟩, by decide +kernel, k_8, k_292⟩, k_289, k_290, k_291⟩
theorem lm_S_87 : th_mv "TurnHost$Society" 87 m_S_untie 2 := ⟨⟨⟨by decide +kernel, by decide +kernel, by decide +kernel⟩, by decide +kernel, k_4, k_296⟩, k_293, k_295, tbP (List.mem_append_left _ (List.mem_of_getElem? (i := 1) rfl))⟩
theorem lm_S_91 : th_mv "TurnHost$Society" 91 m_S_signal 3 := ⟨⟨⟨by decide +kernel, by decide +kernel, by decide +kernel⟩, by decide +kernel, k_4, k_300⟩, k_297, k_299, tbP (List.mem_append_left _ (List.mem_of_getElem? (i := 2) rfl))⟩
theorem lm_S_99 : th_mv "TurnHost$Society" 99 m_S_exitNotice 2 := ⟨⟨⟨by decide +kernel, by decide +kernel, by decide +kernel⟩, by decide +kernel, k_4, k_304⟩, k_301, k_303, tbP (List.mem_append_left _ (List.mem_of_getElem? (i := 3) rfl))⟩
theorem lm_S_120 : th_mi "TurnHost$Society" 120 m_T_init2 3 := ⟨⟨⟨by decide +kernel, by decide +kernel, by decide +kernel⟩, by decide +kernel, k_6, k_307⟩, k_305, k_306, rfl, rfl⟩
theorem lm_S_103 : th_mv "TurnHost$Society" 103 m_S_deliver 2 := ⟨⟨⟨by decide +kernel, by decide +kernel, by decide +kernel⟩, by decide +kernel, k_4, k_264⟩, k_308, k_262, k_263⟩
theorem lm_S_107 : th_msN "TurnHost$Society" 107 m_T_alike 2 := ⟨⟨⟨by decide +kernel, by decide +kernel, by decide +kernel⟩, by decide +kernel, k_6, k_311⟩, ⟨"TurnHost", tbl2 (List.mem_of_getElem? (i := 69) rfl)⟩, k_310⟩
theorem lm_T_42 : th_mv "TurnHost$Term" 42 m_T_hasParts 0 := ⟨⟨⟨by decide +kernel, by decide +kernel, by decide +kernel⟩, by decide +kernel, k_6, k_315⟩, k_312, k_313, k_314⟩
theorem lm_T_45 : th_ms "TurnHost$Term" 45 m_T_alike 2 := ⟨⟨⟨by decide +kernel, by decide +kernel, by decide +kernel⟩, by decide +kernel, k_6, k_311⟩, k_316, k_310⟩
theorem lm_S_111 : th_mv "TurnHost$Society" 111 m_S_end 2 := ⟨⟨⟨by decide +kernel, by decide +kernel, by decide +kernel⟩, by decide +kernel, k_4, k_288⟩, k_317, k_287, tbP (List.mem_append_left _ (List.mem_of_getElem? (i := 0) rfl))⟩
theorem lm_M_50 : th_mv "TurnHost$Machine" 50 m_M_perform 5 := ⟨⟨⟨by decide +kernel, by decide +kernel, by decide +kernel⟩, by decide +kernel, k_2, k_321⟩, k_318, k_320, tbP (List.mem_append_left _ (List.mem_of_getElem? (i := 4) rfl))⟩
theorem ln_M_57 : th_ln "TurnHost$Machine" 57 0 5 dv_T := ⟨R_T, F_T, ty_T, ok_T, k_322, k_54, k_6, fun j hj => rfl⟩
theorem lc_M_57 : Jvm.Cond.classLink "TurnHost$Machine" 57 "TurnHost$Term" ∈ th_tb := k_322
theorem lm_M_59 : th_mi "TurnHost$Machine" 59 m_T_init 2 := ⟨⟨⟨by decide +kernel, by decide +kernel, by decide +kernel⟩, by decide +kernel, k_6, k_57⟩, k_323, k_56, rfl, rfl⟩
theorem lm_M_62 : th_mv "TurnHost$Machine" 62 m_P_set 2 := ⟨⟨⟨by decide +kernel, by decide +kernel, by decide +kernel⟩, by decide +kernel, k_5, k_327⟩, k_324, k_325, k_326⟩
theorem lm_M_73 : th_ms "TurnHost$Machine" 73 m_T_joined 3 := ⟨⟨⟨by decide +kernel, by decide +kernel, by decide +kernel⟩, by decide +kernel, k_6, k_330⟩, k_328, k_329⟩
theorem ln_T_10 : th_ln "TurnHost$Term" 10 0 5 dv_T := ⟨R_T, F_T, ty_T, ok_T, k_331, k_54, k_6, fun j hj => rfl⟩
theorem lc_T_10 : Jvm.Cond.classLink "TurnHost$Term" 10 "TurnHost$Term" ∈ th_tb := k_331
theorem lm_T_28 : th_mi "TurnHost$Term" 28 m_T_init2 3 := ⟨⟨⟨by decide +kernel, by decide +kernel, by decide +kernel⟩, by decide +kernel, k_6, k_307⟩, k_332, k_306, rfl, rfl⟩
theorem lm_M_83 : th_ms "TurnHost$Machine" 83 m_M_areInts 2 := ⟨⟨⟨by decide +kernel, by decide +kernel, by decide +kernel⟩, by decide +kernel, k_2, k_335⟩, k_333, k_334⟩
theorem lm_M_90 : th_ms "TurnHost$Machine" 90 m_M_goUnless 3 := ⟨⟨⟨by decide +kernel, by decide +kernel, by decide +kernel⟩, by decide +kernel, k_2, k_338⟩, k_336, k_337⟩
theorem lm_M_100 : th_mv "TurnHost$Machine" 100 m_P_goTo 1 := ⟨⟨⟨by decide +kernel, by decide +kernel, by decide +kernel⟩, by decide +kernel, k_5, k_342⟩, k_339, k_340, k_341⟩
theorem lm_M_94 : th_msN "TurnHost$Machine" 94 m_T_alike 2 := ⟨⟨⟨by decide +kernel, by decide +kernel, by decide +kernel⟩, by decide +kernel, k_6, k_311⟩, ⟨"TurnHost", tbl2 (List.mem_of_getElem? (i := 103) rfl)⟩, k_310⟩
theorem lm_M_103 : th_mv "TurnHost$Machine" 103 m_P_pushReturn 0 := ⟨⟨⟨by decide +kernel, by decide +kernel, by decide +kernel⟩, by decide +kernel, k_5, k_347⟩, k_344, k_345, k_346⟩
theorem lm_M_107 : th_mv "TurnHost$Machine" 107 m_M_goBack 1 := ⟨⟨⟨by decide +kernel, by decide +kernel, by decide +kernel⟩, by decide +kernel, k_2, k_351⟩, k_348, k_350, tbP (List.mem_append_left _ (List.mem_of_getElem? (i := 5) rfl))⟩
theorem lm_M_111 : th_mv "TurnHost$Machine" 111 m_S_bearing 1 := ⟨⟨⟨by decide +kernel, by decide +kernel, by decide +kernel⟩, by decide +kernel, k_4, k_355⟩, k_352, k_353, k_354⟩
theorem lm_S_53 : th_mv "TurnHost$Society" 53 m_S_numbered 1 := ⟨⟨⟨by decide +kernel, by decide +kernel, by decide +kernel⟩, by decide +kernel, k_4, k_260⟩, k_356, k_258, k_259⟩
theorem lm_M_115 : th_mv "TurnHost$Machine" 115 m_M_send 2 := ⟨⟨⟨by decide +kernel, by decide +kernel, by decide +kernel⟩, by decide +kernel, k_2, k_360⟩, k_357, k_359, tbP (List.mem_append_left _ (List.mem_of_getElem? (i := 6) rfl))⟩
theorem lm_M_163 : th_mv "TurnHost$Machine" 163 m_S_deliver 2 := ⟨⟨⟨by decide +kernel, by decide +kernel, by decide +kernel⟩, by decide +kernel, k_4, k_264⟩, k_361, k_262, k_263⟩
theorem lm_M_123 : th_mv "TurnHost$Machine" 123 m_B_marked 0 := ⟨⟨⟨by decide +kernel, by decide +kernel, by decide +kernel⟩, by decide +kernel, k_7, k_365⟩, k_362, k_363, k_364⟩
theorem lm_B_24 : th_mv "TurnHost$Mailbox" 24 m_B_at 1 := ⟨⟨⟨by decide +kernel, by decide +kernel, by decide +kernel⟩, by decide +kernel, k_7, k_369⟩, k_366, k_367, k_368⟩
theorem lm_M_129 : th_mv "TurnHost$Machine" 129 m_B_take 0 := ⟨⟨⟨by decide +kernel, by decide +kernel, by decide +kernel⟩, by decide +kernel, k_7, k_373⟩, k_370, k_371, k_372⟩
theorem lm_B_28 : th_mv "TurnHost$Mailbox" 28 m_B_marked 0 := ⟨⟨⟨by decide +kernel, by decide +kernel, by decide +kernel⟩, by decide +kernel, k_7, k_365⟩, k_374, k_363, k_364⟩
theorem lm_M_132 : th_ms "TurnHost$Machine" 132 m_M_passOver 2 := ⟨⟨⟨by decide +kernel, by decide +kernel, by decide +kernel⟩, by decide +kernel, k_2, k_377⟩, k_375, k_376⟩
theorem lm_M_136 : th_mv "TurnHost$Machine" 136 m_M_waitOrGoOn 2 := ⟨⟨⟨by decide +kernel, by decide +kernel, by decide +kernel⟩, by decide +kernel, k_2, k_381⟩, k_378, k_380, tbP (List.mem_append_left _ (List.mem_of_getElem? (i := 7) rfl))⟩
theorem lm_M_169 : th_mv "TurnHost$Machine" 169 m_S_suspend 1 := ⟨⟨⟨by decide +kernel, by decide +kernel, by decide +kernel⟩, by decide +kernel, k_4, k_385⟩, k_382, k_383, k_384⟩
theorem lm_M_139 : th_mv "TurnHost$Machine" 139 m_M_spawn 4 := ⟨⟨⟨by decide +kernel, by decide +kernel, by decide +kernel⟩, by decide +kernel, k_2, k_389⟩, k_386, k_388, tbP (List.mem_append_left _ (List.mem_of_getElem? (i := 8) rfl))⟩
theorem lm_M_173 : th_mv "TurnHost$Machine" 173 m_S_start 2 := ⟨⟨⟨by decide +kernel, by decide +kernel, by decide +kernel⟩, by decide +kernel, k_4, k_240⟩, k_390, k_238, k_239⟩
theorem lm_M_143 : th_mv "TurnHost$Machine" 143 m_M_link 2 := ⟨⟨⟨by decide +kernel, by decide +kernel, by decide +kernel⟩, by decide +kernel, k_2, k_394⟩, k_391, k_393, tbP (List.mem_append_left _ (List.mem_of_getElem? (i := 9) rfl))⟩
theorem lm_M_180 : th_mvN "TurnHost$Machine" 180 m_S_signal 3 := ⟨⟨⟨by decide +kernel, by decide +kernel, by decide +kernel⟩, by decide +kernel, k_4, k_300⟩, ⟨"TurnHost", tbl2 (List.mem_of_getElem? (i := 155) rfl)⟩, k_299, tbP (List.mem_append_left _ (List.mem_of_getElem? (i := 2) rfl))⟩
theorem lm_M_184 : th_mv "TurnHost$Machine" 184 m_S_tie 2 := ⟨⟨⟨by decide +kernel, by decide +kernel, by decide +kernel⟩, by decide +kernel, k_4, k_399⟩, k_396, k_397, k_398⟩
theorem lm_M_147 : th_ms "TurnHost$Machine" 147 m_M_trap 2 := ⟨⟨⟨by decide +kernel, by decide +kernel, by decide +kernel⟩, by decide +kernel, k_2, k_402⟩, k_400, k_401⟩
theorem lm_M_151 : th_mv "TurnHost$Machine" 151 m_M_finish 2 := ⟨⟨⟨by decide +kernel, by decide +kernel, by decide +kernel⟩, by decide +kernel, k_2, k_406⟩, k_403, k_405, tbP (List.mem_append_left _ (List.mem_of_getElem? (i := 10) rfl))⟩
theorem lm_M_154 : th_mv "TurnHost$Machine" 154 m_M_stop 2 := ⟨⟨⟨by decide +kernel, by decide +kernel, by decide +kernel⟩, by decide +kernel, k_2, k_410⟩, k_407, k_409, tbP (List.mem_append_left _ (List.mem_of_getElem? (i := 11) rfl))⟩
theorem lm_H_80 : th_mv "TurnHost" 80 m_H_countInTurn 1 := ⟨⟨⟨by decide +kernel, by decide +kernel, by decide +kernel⟩, by decide +kernel, k_1, k_414⟩, k_411, k_413, tbP (List.mem_append_left _ (List.mem_of_getElem? (i := 12) rfl))⟩
theorem lm_H_111 : th_mv "TurnHost" 111 m_L_leave 1 := ⟨⟨⟨by decide +kernel, by decide +kernel, by decide +kernel⟩, by decide +kernel, k_8, k_292⟩, k_415, k_290, k_291⟩
theorem lm_H_115 : th_mv "TurnHost" 115 m_L_append 1 := ⟨⟨⟨by decide +kernel, by decide +kernel, by decide +kernel⟩, by decide +kernel, k_8, k_252⟩, k_416, k_250, k_251⟩
theorem lm_W_41 : th_mv "TurnHostLaw" 41 m_H_clear 1 := ⟨⟨⟨by decide +kernel, by decide +kernel, by decide +kernel⟩, by decide +kernel, k_1, k_420⟩, k_417, k_418, k_419⟩
theorem lm_H_86 : th_mv "TurnHost" 86 m_S_dissolve 0 := ⟨⟨⟨by decide +kernel, by decide +kernel, by decide +kernel⟩, by decide +kernel, k_4, k_424⟩, k_421, k_422, k_423⟩
theorem lm_S_44 : th_mv "TurnHost$Society" 44 m_L_empty 0 := ⟨⟨⟨by decide +kernel, by decide +kernel, by decide +kernel⟩, by decide +kernel, k_8, k_428⟩, k_425, k_426, k_427⟩
theorem lm_H_89 : th_mv "TurnHost" 89 m_G_wipe 0 := ⟨⟨⟨by decide +kernel, by decide +kernel, by decide +kernel⟩, by decide +kernel, k_3, k_432⟩, k_429, k_430, k_431⟩
theorem lm_W_46 : th_mv "TurnHostLaw" 46 m_H_process 2 := ⟨⟨⟨by decide +kernel, by decide +kernel, by decide +kernel⟩, by decide +kernel, k_1, k_436⟩, k_433, k_434, k_435⟩
theorem lm_H_92 : th_mv "TurnHost" 92 m_P_answer 1 := ⟨⟨⟨by decide +kernel, by decide +kernel, by decide +kernel⟩, by decide +kernel, k_5, k_440⟩, k_437, k_438, k_439⟩
theorem lm_W_50 : th_mv "TurnHostLaw" 50 m_H_queue 1 := ⟨⟨⟨by decide +kernel, by decide +kernel, by decide +kernel⟩, by decide +kernel, k_1, k_444⟩, k_441, k_442, k_443⟩
theorem lm_W_54 : th_mv "TurnHostLaw" 54 m_H_processes 0 := ⟨⟨⟨by decide +kernel, by decide +kernel, by decide +kernel⟩, by decide +kernel, k_1, k_448⟩, k_445, k_446, k_447⟩
theorem lm_W_59 : th_mv "TurnHostLaw" 59 m_H_term 2 := ⟨⟨⟨by decide +kernel, by decide +kernel, by decide +kernel⟩, by decide +kernel, k_1, k_452⟩, k_449, k_450, k_451⟩
theorem lm_H_95 : th_mv "TurnHost" 95 m_H_termOf 2 := ⟨⟨⟨by decide +kernel, by decide +kernel, by decide +kernel⟩, by decide +kernel, k_1, k_456⟩, k_453, k_455, tbP (List.mem_append_left _ (List.mem_of_getElem? (i := 13) rfl))⟩
theorem lm_H_107 : th_mv "TurnHost" 107 m_P_termAt 1 := ⟨⟨⟨by decide +kernel, by decide +kernel, by decide +kernel⟩, by decide +kernel, k_5, k_460⟩, k_457, k_458, k_459⟩
theorem lm_P_70 : th_mv "TurnHost$HostProcess" 70 m_B_at 1 := ⟨⟨⟨by decide +kernel, by decide +kernel, by decide +kernel⟩, by decide +kernel, k_7, k_369⟩, k_461, k_367, k_368⟩
theorem lm_H_99 : th_mv "TurnHost" 99 m_T_summary 0 := ⟨⟨⟨by decide +kernel, by decide +kernel, by decide +kernel⟩, by decide +kernel, k_6, k_465⟩, k_462, k_463, k_464⟩
theorem lm_T_31 : th_mv "TurnHost$Term" 31 m_T_hasNumber 0 := ⟨⟨⟨by decide +kernel, by decide +kernel, by decide +kernel⟩, by decide +kernel, k_6, k_469⟩, k_466, k_467, k_468⟩
theorem lm_T_35 : th_ms "TurnHost$Term" 35 m_J_floorMod 2 := ⟨⟨⟨by decide +kernel, by decide +kernel, by decide +kernel⟩, by decide +kernel, k_10, k_472⟩, k_470, k_471⟩
theorem lk_T_41 : Jvm.Cond.constant "TurnHost$Term" 41 1000000 ∈ th_tb := k_473
theorem lm_W_63 : th_mv "TurnHostLaw" 63 m_H_digest 2 := ⟨⟨⟨by decide +kernel, by decide +kernel, by decide +kernel⟩, by decide +kernel, k_1, k_477⟩, k_474, k_475, k_476⟩
theorem lm_H_103 : th_msN "TurnHost" 103 m_T_mixed 2 := ⟨⟨⟨by decide +kernel, by decide +kernel, by decide +kernel⟩, by decide +kernel, k_6, k_480⟩, ⟨"TurnHost", tbl2 (List.mem_of_getElem? (i := 238) rfl)⟩, k_479⟩
theorem lm_T_49 : th_ms "TurnHost$Term" 49 m_T_mixed 2 := ⟨⟨⟨by decide +kernel, by decide +kernel, by decide +kernel⟩, by decide +kernel, k_6, k_480⟩, k_481, k_479⟩
theorem lm_W_9 : th_ms "TurnHostLaw" 9 m_W_cell 2 := ⟨⟨⟨by decide +kernel, by decide +kernel, by decide +kernel⟩, by decide +kernel, k_0, k_484⟩, k_482, k_483⟩
theorem ln_W_18 : th_ln "TurnHostLaw" 18 8 22 dv_N := ⟨R_N, F_N, ty_N, ok_N, k_485, k_486, k_9, fun j hj => rfl⟩
theorem lc_W_18 : Jvm.Cond.classLink "TurnHostLaw" 18 "TurnHostModel" ∈ th_tb := k_485
theorem lm_W_20 : th_mi "TurnHostLaw" 20 m_N_init 1 := ⟨⟨⟨by decide +kernel, by decide +kernel, by decide +kernel⟩, by decide +kernel, k_9, k_489⟩, k_487, k_488, rfl, rfl⟩
theorem lo_N_1 : Jvm.Cond.methodLink "TurnHostModel" 1 Lib.objectInit ∈ th_tb := k_490
theorem lf_N_62 : th_lf "TurnHostModel" 62 8 0 := ⟨R_N, F_N, 22, ty_N, ok_N, by decide, k_491⟩
theorem lp_N_62 : th_lpF "TurnHostModel" 62 8 0 0 := ⟨R_N, F_N, 22, ty_N, ok_N, by decide, k_491, rfl, rfl, th_fty_i⟩
theorem lf_N_85 : th_lf "TurnHostModel" 85 8 1 := ⟨R_N, F_N, 22, ty_N, ok_N, by decide, k_492⟩
theorem lp_N_85 : th_lp "TurnHostModel" 85 8 1 0 := ⟨R_N, F_N, 22, ty_N, ok_N, by decide, k_492, rfl, th_fty_i⟩
theorem lf_N_7 : th_lf "TurnHostModel" 7 8 2 := ⟨R_N, F_N, 22, ty_N, ok_N, by decide, k_493⟩
theorem lp_N_7 : th_lpF "TurnHostModel" 7 8 2 1 := ⟨R_N, F_N, 22, ty_N, ok_N, by decide, k_493, rfl, rfl, (th_fty_a _)⟩
theorem lf_N_13 : th_lf "TurnHostModel" 13 8 3 := ⟨R_N, F_N, 22, ty_N, ok_N, by decide, k_494⟩
theorem lp_N_13 : th_lpF "TurnHostModel" 13 8 3 1 := ⟨R_N, F_N, 22, ty_N, ok_N, by decide, k_494, rfl, rfl, (th_fty_a _)⟩
theorem lf_N_16 : th_lf "TurnHostModel" 16 8 4 := ⟨R_N, F_N, 22, ty_N, ok_N, by decide, k_495⟩
theorem lp_N_16 : th_lpF "TurnHostModel" 16 8 4 1 := ⟨R_N, F_N, 22, ty_N, ok_N, by decide, k_495, rfl, rfl, (th_fty_a _)⟩
theorem lf_N_19 : th_lf "TurnHostModel" 19 8 5 := ⟨R_N, F_N, 22, ty_N, ok_N, by decide, k_496⟩
theorem lp_N_19 : th_lpF "TurnHostModel" 19 8 5 1 := ⟨R_N, F_N, 22, ty_N, ok_N, by decide, k_496, rfl, rfl, (th_fty_a _)⟩
theorem lf_N_22 : th_lf "TurnHostModel" 22 8 6 := ⟨R_N, F_N, 22, ty_N, ok_N, by decide, k_497⟩
theorem lp_N_22 : th_lpF "TurnHostModel" 22 8 6 1 := ⟨R_N, F_N, 22, ty_N, ok_N, by decide, k_497, rfl, rfl, (th_fty_a _)⟩
theorem lf_N_131 : th_lf "TurnHostModel" 131 8 7 := ⟨R_N, F_N, 22, ty_N, ok_N, by decide, k_498⟩
theorem lp_N_131 : th_lp "TurnHostModel" 131 8 7 0 := ⟨R_N, F_N, 22, ty_N, ok_N, by decide, k_498, rfl, th_fty_i⟩
theorem lf_N_25 : th_lf "TurnHostModel" 25 8 8 := ⟨R_N, F_N, 22, ty_N, ok_N, by decide, k_499⟩
theorem lp_N_25 : th_lpF "TurnHostModel" 25 8 8 1 := ⟨R_N, F_N, 22, ty_N, ok_N, by decide, k_499, rfl, rfl, (th_fty_a _)⟩
theorem lf_N_28 : th_lf "TurnHostModel" 28 8 9 := ⟨R_N, F_N, 22, ty_N, ok_N, by decide, k_500⟩
theorem lp_N_28 : th_lpF "TurnHostModel" 28 8 9 1 := ⟨R_N, F_N, 22, ty_N, ok_N, by decide, k_500, rfl, rfl, (th_fty_a _)⟩
theorem lf_N_31 : th_lf "TurnHostModel" 31 8 10 := ⟨R_N, F_N, 22, ty_N, ok_N, by decide, k_501⟩
theorem lp_N_31 : th_lpF "TurnHostModel" 31 8 10 1 := ⟨R_N, F_N, 22, ty_N, ok_N, by decide, k_501, rfl, rfl, (th_fty_a _)⟩
theorem lf_N_34 : th_lf "TurnHostModel" 34 8 11 := ⟨R_N, F_N, 22, ty_N, ok_N, by decide, k_502⟩
theorem lp_N_34 : th_lpF "TurnHostModel" 34 8 11 1 := ⟨R_N, F_N, 22, ty_N, ok_N, by decide, k_502, rfl, rfl, (th_fty_a _)⟩
theorem lf_N_37 : th_lf "TurnHostModel" 37 8 12 := ⟨R_N, F_N, 22, ty_N, ok_N, by decide, k_503⟩
theorem lp_N_37 : th_lpF "TurnHostModel" 37 8 12 1 := ⟨R_N, F_N, 22, ty_N, ok_N, by decide, k_503, rfl, rfl, (th_fty_a _)⟩
theorem lf_N_40 : th_lf "TurnHostModel" 40 8 13 := ⟨R_N, F_N, 22, ty_N, ok_N, by decide, k_504⟩
theorem lp_N_40 : th_lpF "TurnHostModel" 40 8 13 1 := ⟨R_N, F_N, 22, ty_N, ok_N, by decide, k_504, rfl, rfl, (th_fty_a _)⟩
theorem lf_N_43 : th_lf "TurnHostModel" 43 8 14 := ⟨R_N, F_N, 22, ty_N, ok_N, by decide, k_505⟩
theorem lp_N_43 : th_lpF "TurnHostModel" 43 8 14 1 := ⟨R_N, F_N, 22, ty_N, ok_N, by decide, k_505, rfl, rfl, (th_fty_a _)⟩
theorem lf_N_46 : th_lf "TurnHostModel" 46 8 15 := ⟨R_N, F_N, 22, ty_N, ok_N, by decide, k_506⟩
theorem lp_N_46 : th_lpF "TurnHostModel" 46 8 15 1 := ⟨R_N, F_N, 22, ty_N, ok_N, by decide, k_506, rfl, rfl, (th_fty_a _)⟩
theorem lf_N_50 : th_lf "TurnHostModel" 50 8 16 := ⟨R_N, F_N, 22, ty_N, ok_N, by decide, k_507⟩
theorem lp_N_50 : th_lpF "TurnHostModel" 50 8 16 1 := ⟨R_N, F_N, 22, ty_N, ok_N, by decide, k_507, rfl, rfl, (th_fty_a _)⟩
theorem lf_N_101 : th_lf "TurnHostModel" 101 8 17 := ⟨R_N, F_N, 22, ty_N, ok_N, by decide, k_508⟩
theorem lp_N_101 : th_lp "TurnHostModel" 101 8 17 0 := ⟨R_N, F_N, 22, ty_N, ok_N, by decide, k_508, rfl, th_fty_i⟩
theorem lf_N_53 : th_lf "TurnHostModel" 53 8 18 := ⟨R_N, F_N, 22, ty_N, ok_N, by decide, k_509⟩
theorem lp_N_53 : th_lpF "TurnHostModel" 53 8 18 1 := ⟨R_N, F_N, 22, ty_N, ok_N, by decide, k_509, rfl, rfl, (th_fty_a _)⟩
theorem lf_N_104 : th_lf "TurnHostModel" 104 8 19 := ⟨R_N, F_N, 22, ty_N, ok_N, by decide, k_510⟩
theorem lp_N_104 : th_lp "TurnHostModel" 104 8 19 0 := ⟨R_N, F_N, 22, ty_N, ok_N, by decide, k_510, rfl, th_fty_i⟩
theorem lf_N_56 : th_lf "TurnHostModel" 56 8 20 := ⟨R_N, F_N, 22, ty_N, ok_N, by decide, k_511⟩
theorem lp_N_56 : th_lpF "TurnHostModel" 56 8 20 1 := ⟨R_N, F_N, 22, ty_N, ok_N, by decide, k_511, rfl, rfl, (th_fty_a _)⟩
theorem lf_N_59 : th_lf "TurnHostModel" 59 8 21 := ⟨R_N, F_N, 22, ty_N, ok_N, by decide, k_512⟩
theorem lp_N_59 : th_lpF "TurnHostModel" 59 8 21 1 := ⟨R_N, F_N, 22, ty_N, ok_N, by decide, k_512, rfl, rfl, (th_fty_a _)⟩
theorem lm_W_25 : th_mv "TurnHostLaw" 25 m_N_add 4 := ⟨⟨⟨by decide +kernel, by decide +kernel, by decide +kernel⟩, by decide +kernel, k_9, k_562⟩, k_559, k_560, k_561⟩
theorem lm_N_81 : th_ms "TurnHostModel" 81 m_N_in 3 := ⟨⟨⟨by decide +kernel, by decide +kernel, by decide +kernel⟩, by decide +kernel, k_9, k_565⟩, k_563, k_564⟩
theorem lm_N_88 : th_ms "TurnHostModel" 88 m_N_firstNeeds 1 := ⟨⟨⟨by decide +kernel, by decide +kernel, by decide +kernel⟩, by decide +kernel, k_9, k_568⟩, k_566, k_567⟩
theorem lm_N_91 : th_ms "TurnHostModel" 91 m_N_isRight 2 := ⟨⟨⟨by decide +kernel, by decide +kernel, by decide +kernel⟩, by decide +kernel, k_9, k_571⟩, k_569, k_570⟩
theorem lm_N_95 : th_ms "TurnHostModel" 95 m_N_secondNeeds 1 := ⟨⟨⟨by decide +kernel, by decide +kernel, by decide +kernel⟩, by decide +kernel, k_9, k_574⟩, k_572, k_573⟩
theorem lm_N_98 : th_ms "TurnHostModel" 98 m_N_thirdNeeds 1 := ⟨⟨⟨by decide +kernel, by decide +kernel, by decide +kernel⟩, by decide +kernel, k_9, k_577⟩, k_575, k_576⟩
theorem lm_W_30 : th_mv "TurnHostLaw" 30 m_N_begin 2 := ⟨⟨⟨by decide +kernel, by decide +kernel, by decide +kernel⟩, by decide +kernel, k_9, k_581⟩, k_578, k_579, k_580⟩
theorem lm_N_115 : th_mv "TurnHostModel" 115 m_N_put 3 := ⟨⟨⟨by decide +kernel, by decide +kernel, by decide +kernel⟩, by decide +kernel, k_9, k_585⟩, k_582, k_584, tbP (List.mem_append_left _ (List.mem_of_getElem? (i := 14) rfl))⟩
theorem lm_N_152 : th_mv "TurnHostModel" 152 m_N_start 2 := ⟨⟨⟨by decide +kernel, by decide +kernel, by decide +kernel⟩, by decide +kernel, k_9, k_589⟩, k_586, k_588, tbP (List.mem_append_left _ (List.mem_of_getElem? (i := 15) rfl))⟩
theorem lm_N_107 : th_mv "TurnHostModel" 107 m_N_copy 2 := ⟨⟨⟨by decide +kernel, by decide +kernel, by decide +kernel⟩, by decide +kernel, k_9, k_593⟩, k_590, k_592, tbP (List.mem_append_right _ (List.mem_append_left _ (List.mem_of_getElem? (i := 0) rfl)))⟩
theorem lm_N_111 : th_mv "TurnHostModel" 111 m_N_come 1 := ⟨⟨⟨by decide +kernel, by decide +kernel, by decide +kernel⟩, by decide +kernel, k_9, k_597⟩, k_594, k_596, tbP (List.mem_append_right _ (List.mem_append_left _ (List.mem_of_getElem? (i := 1) rfl)))⟩
theorem lm_W_35 : th_mv "TurnHostLaw" 35 m_N_tell 2 := ⟨⟨⟨by decide +kernel, by decide +kernel, by decide +kernel⟩, by decide +kernel, k_9, k_601⟩, k_598, k_599, k_600⟩
theorem lm_N_122 : th_mv "TurnHostModel" 122 m_N_deliver 2 := ⟨⟨⟨by decide +kernel, by decide +kernel, by decide +kernel⟩, by decide +kernel, k_9, k_605⟩, k_602, k_604, tbP (List.mem_append_right _ (List.mem_append_left _ (List.mem_of_getElem? (i := 2) rfl)))⟩
theorem lm_W_40 : th_mv "TurnHostLaw" 40 m_N_run 1 := ⟨⟨⟨by decide +kernel, by decide +kernel, by decide +kernel⟩, by decide +kernel, k_9, k_609⟩, k_606, k_607, k_608⟩
theorem lm_N_169 : th_mv "TurnHostModel" 169 m_N_step 1 := ⟨⟨⟨by decide +kernel, by decide +kernel, by decide +kernel⟩, by decide +kernel, k_9, k_613⟩, k_610, k_612, tbP (List.mem_append_right _ (List.mem_append_left _ (List.mem_of_getElem? (i := 3) rfl)))⟩
theorem lm_N_155 : th_mv "TurnHostModel" 155 m_N_make 5 := ⟨⟨⟨by decide +kernel, by decide +kernel, by decide +kernel⟩, by decide +kernel, k_9, k_617⟩, k_614, k_616, tbP (List.mem_append_right _ (List.mem_append_left _ (List.mem_of_getElem? (i := 4) rfl)))⟩
theorem lm_N_77 : th_mv "TurnHostModel" 77 m_N_weight 1 := ⟨⟨⟨by decide +kernel, by decide +kernel, by decide +kernel⟩, by decide +kernel, k_9, k_621⟩, k_618, k_620, tbP (List.mem_append_right _ (List.mem_append_left _ (List.mem_of_getElem? (i := 5) rfl)))⟩
theorem lm_N_118 : th_mv "TurnHostModel" 118 m_N_addParts 4 := ⟨⟨⟨by decide +kernel, by decide +kernel, by decide +kernel⟩, by decide +kernel, k_9, k_625⟩, k_622, k_624, tbP (List.mem_append_right _ (List.mem_append_left _ (List.mem_of_getElem? (i := 6) rfl)))⟩
theorem lm_N_66 : th_mv "TurnHostModel" 66 m_N_sortOf 2 := ⟨⟨⟨by decide +kernel, by decide +kernel, by decide +kernel⟩, by decide +kernel, k_9, k_629⟩, k_626, k_628, tbP (List.mem_append_right _ (List.mem_append_left _ (List.mem_of_getElem? (i := 7) rfl)))⟩
theorem lm_N_70 : th_mv "TurnHostModel" 70 m_N_numberOf 2 := ⟨⟨⟨by decide +kernel, by decide +kernel, by decide +kernel⟩, by decide +kernel, k_9, k_633⟩, k_630, k_632, tbP (List.mem_append_right _ (List.mem_append_left _ (List.mem_of_getElem? (i := 8) rfl)))⟩
theorem lm_N_73 : th_mv "TurnHostModel" 73 m_N_append 3 := ⟨⟨⟨by decide +kernel, by decide +kernel, by decide +kernel⟩, by decide +kernel, k_9, k_637⟩, k_634, k_636, tbP (List.mem_append_right _ (List.mem_append_left _ (List.mem_of_getElem? (i := 9) rfl)))⟩
theorem lm_N_140 : th_mv "TurnHostModel" 140 m_N_behind 2 := ⟨⟨⟨by decide +kernel, by decide +kernel, by decide +kernel⟩, by decide +kernel, k_9, k_641⟩, k_638, k_640, tbP (List.mem_append_right _ (List.mem_append_left _ (List.mem_of_getElem? (i := 10) rfl)))⟩
theorem lm_N_159 : th_mv "TurnHostModel" 159 m_N_branch 5 := ⟨⟨⟨by decide +kernel, by decide +kernel, by decide +kernel⟩, by decide +kernel, k_9, k_645⟩, k_642, k_644, tbP (List.mem_append_right _ (List.mem_append_left _ (List.mem_of_getElem? (i := 11) rfl)))⟩
theorem lm_N_143 : th_mv "TurnHostModel" 143 m_N_isSame 2 := ⟨⟨⟨by decide +kernel, by decide +kernel, by decide +kernel⟩, by decide +kernel, k_9, k_649⟩, k_646, k_648, tbP (List.mem_append_right _ (List.mem_append_left _ (List.mem_of_getElem? (i := 12) rfl)))⟩
theorem lm_N_146 : th_mv "TurnHostModel" 146 m_N_endBy 2 := ⟨⟨⟨by decide +kernel, by decide +kernel, by decide +kernel⟩, by decide +kernel, k_9, k_653⟩, k_650, k_652, tbP (List.mem_append_right _ (List.mem_append_left _ (List.mem_of_getElem? (i := 13) rfl)))⟩
theorem lm_N_137 : th_mv "TurnHostModel" 137 m_N_end 2 := ⟨⟨⟨by decide +kernel, by decide +kernel, by decide +kernel⟩, by decide +kernel, k_9, k_657⟩, k_654, k_656, tbP (List.mem_append_right _ (List.mem_append_left _ (List.mem_of_getElem? (i := 14) rfl)))⟩
theorem lm_N_128 : th_mv "TurnHostModel" 128 m_N_stop 2 := ⟨⟨⟨by decide +kernel, by decide +kernel, by decide +kernel⟩, by decide +kernel, k_9, k_661⟩, k_658, k_660, tbP (List.mem_append_right _ (List.mem_append_left _ (List.mem_of_getElem? (i := 15) rfl)))⟩
theorem lm_N_125 : th_mv "TurnHostModel" 125 m_N_leave 1 := ⟨⟨⟨by decide +kernel, by decide +kernel, by decide +kernel⟩, by decide +kernel, k_9, k_665⟩, k_662, k_664, tbP (List.mem_append_right _ (List.mem_append_right _ (List.mem_of_getElem? (i := 0) rfl)))⟩
theorem lm_N_134 : th_mv "TurnHostModel" 134 m_N_signal 3 := ⟨⟨⟨by decide +kernel, by decide +kernel, by decide +kernel⟩, by decide +kernel, k_9, k_669⟩, k_666, k_668, tbP (List.mem_append_right _ (List.mem_append_right _ (List.mem_of_getElem? (i := 1) rfl)))⟩
theorem lm_N_162 : th_mv "TurnHostModel" 162 m_N_mail 4 := ⟨⟨⟨by decide +kernel, by decide +kernel, by decide +kernel⟩, by decide +kernel, k_9, k_673⟩, k_670, k_672, tbP (List.mem_append_right _ (List.mem_append_right _ (List.mem_of_getElem? (i := 2) rfl)))⟩
theorem lm_N_149 : th_mv "TurnHostModel" 149 m_N_named 1 := ⟨⟨⟨by decide +kernel, by decide +kernel, by decide +kernel⟩, by decide +kernel, k_9, k_677⟩, k_674, k_676, tbP (List.mem_append_right _ (List.mem_append_right _ (List.mem_of_getElem? (i := 3) rfl)))⟩
theorem lm_N_166 : th_mv "TurnHostModel" 166 m_N_life 5 := ⟨⟨⟨by decide +kernel, by decide +kernel, by decide +kernel⟩, by decide +kernel, k_9, k_681⟩, k_678, k_680, tbP (List.mem_append_right _ (List.mem_append_right _ (List.mem_of_getElem? (i := 4) rfl)))⟩
theorem lm_W_45 : th_mv "TurnHostLaw" 45 m_N_clear 1 := ⟨⟨⟨by decide +kernel, by decide +kernel, by decide +kernel⟩, by decide +kernel, k_9, k_685⟩, k_682, k_683, k_684⟩
theorem lm_W_49 : th_mv "TurnHostLaw" 49 m_N_process 2 := ⟨⟨⟨by decide +kernel, by decide +kernel, by decide +kernel⟩, by decide +kernel, k_9, k_689⟩, k_686, k_687, k_688⟩
theorem lm_W_53 : th_mv "TurnHostLaw" 53 m_N_queue 1 := ⟨⟨⟨by decide +kernel, by decide +kernel, by decide +kernel⟩, by decide +kernel, k_9, k_693⟩, k_690, k_691, k_692⟩
theorem lm_W_58 : th_mv "TurnHostLaw" 58 m_N_processes 0 := ⟨⟨⟨by decide +kernel, by decide +kernel, by decide +kernel⟩, by decide +kernel, k_9, k_697⟩, k_694, k_695, k_696⟩
theorem lm_W_62 : th_mv "TurnHostLaw" 62 m_N_term 2 := ⟨⟨⟨by decide +kernel, by decide +kernel, by decide +kernel⟩, by decide +kernel, k_9, k_701⟩, k_698, k_699, k_700⟩
theorem lm_N_172 : th_mv "TurnHostModel" 172 m_N_isTerm 2 := ⟨⟨⟨by decide +kernel, by decide +kernel, by decide +kernel⟩, by decide +kernel, k_9, k_705⟩, k_702, k_704, tbP (List.mem_append_right _ (List.mem_append_right _ (List.mem_of_getElem? (i := 5) rfl)))⟩
theorem lk_N_175 : Jvm.Cond.constant "TurnHostModel" 175 1000000 ∈ th_tb := k_706
theorem lm_W_66 : th_mv "TurnHostLaw" 66 m_N_digest 2 := ⟨⟨⟨by decide +kernel, by decide +kernel, by decide +kernel⟩, by decide +kernel, k_9, k_710⟩, k_707, k_708, k_709⟩
end
section
/-! Decode rows (printed by wip/gen/dec.py). -/
theorem d_H_init_0 : decode m_H_init.2.1 0 = .ok (.aload_n 0, 1) := by decide +kernel
theorem d_H_init_1 : decode m_H_init.2.1 1 = .ok (.invokespecial 1, 3) := by decide +kernel
theorem d_H_init_4 : decode m_H_init.2.1 4 = .ok (.aload_n 0, 1) := by decide +kernel
theorem d_H_init_5 : decode m_H_init.2.1 5 = .ok (.iload_n 1, 1) := by decide +kernel
theorem d_H_init_6 : decode m_H_init.2.1 6 = .ok (.iconst 1, 1) := by decide +kernel
theorem d_H_init_7 : decode m_H_init.2.1 7 = .ok (.if_icmp .lt 13, 3) := by decide +kernel
theorem d_H_init_10 : decode m_H_init.2.1 10 = .ok (.iload_n 1, 1) := by decide +kernel
theorem d_H_init_11 : decode m_H_init.2.1 11 = .ok (.bipush 50, 2) := by decide +kernel
theorem d_H_init_13 : decode m_H_init.2.1 13 = .ok (.if_icmp .gt 7, 3) := by decide +kernel
theorem d_H_init_16 : decode m_H_init.2.1 16 = .ok (.iload_n 1, 1) := by decide +kernel
theorem d_H_init_17 : decode m_H_init.2.1 17 = .ok (.goto 5, 3) := by decide +kernel
theorem d_H_init_20 : decode m_H_init.2.1 20 = .ok (.bipush 8, 2) := by decide +kernel
theorem d_H_init_22 : decode m_H_init.2.1 22 = .ok (.putfield 9, 3) := by decide +kernel
theorem d_H_init_25 : decode m_H_init.2.1 25 = .ok (.aload_n 0, 1) := by decide +kernel
theorem d_H_init_26 : decode m_H_init.2.1 26 = .ok (.new 13, 3) := by decide +kernel
theorem d_H_init_29 : decode m_H_init.2.1 29 = .ok (.dup, 1) := by decide +kernel
theorem d_H_init_30 : decode m_H_init.2.1 30 = .ok (.invokespecial 15, 3) := by decide +kernel
theorem d_H_init_33 : decode m_H_init.2.1 33 = .ok (.putfield 16, 3) := by decide +kernel
theorem d_H_init_36 : decode m_H_init.2.1 36 = .ok (.aload_n 0, 1) := by decide +kernel
theorem d_H_init_37 : decode m_H_init.2.1 37 = .ok (.aload_n 0, 1) := by decide +kernel
theorem d_H_init_38 : decode m_H_init.2.1 38 = .ok (.getfield 16, 3) := by decide +kernel
theorem d_H_init_41 : decode m_H_init.2.1 41 = .ok (.getfield 20, 3) := by decide +kernel
theorem d_H_init_44 : decode m_H_init.2.1 44 = .ok (.putfield 24, 3) := by decide +kernel
theorem d_H_init_47 : decode m_H_init.2.1 47 = .ok (.aload_n 0, 1) := by decide +kernel
theorem d_H_init_48 : decode m_H_init.2.1 48 = .ok (.aload_n 0, 1) := by decide +kernel
theorem d_H_init_49 : decode m_H_init.2.1 49 = .ok (.getfield 16, 3) := by decide +kernel
theorem d_H_init_52 : decode m_H_init.2.1 52 = .ok (.getfield 25, 3) := by decide +kernel
theorem d_H_init_55 : decode m_H_init.2.1 55 = .ok (.putfield 29, 3) := by decide +kernel
theorem d_H_init_58 : decode m_H_init.2.1 58 = .ok (.aload_n 0, 1) := by decide +kernel
theorem d_H_init_59 : decode m_H_init.2.1 59 = .ok (.iconst 0, 1) := by decide +kernel
theorem d_H_init_60 : decode m_H_init.2.1 60 = .ok (.putfield 30, 3) := by decide +kernel
theorem d_H_init_63 : decode m_H_init.2.1 63 = .ok (.return_, 1) := by decide +kernel
theorem d_H_add_0 : decode m_H_add.2.1 0 = .ok (.aload_n 0, 1) := by decide +kernel
theorem d_H_add_1 : decode m_H_add.2.1 1 = .ok (.getfield 24, 3) := by decide +kernel
theorem d_H_add_4 : decode m_H_add.2.1 4 = .ok (.iload_n 1, 1) := by decide +kernel
theorem d_H_add_5 : decode m_H_add.2.1 5 = .ok (.iload_n 2, 1) := by decide +kernel
theorem d_H_add_6 : decode m_H_add.2.1 6 = .ok (.iload_n 3, 1) := by decide +kernel
theorem d_H_add_7 : decode m_H_add.2.1 7 = .ok (.iload 4, 2) := by decide +kernel
theorem d_H_add_9 : decode m_H_add.2.1 9 = .ok (.invokevirtual 33, 3) := by decide +kernel
theorem d_H_add_12 : decode m_H_add.2.1 12 = .ok (.ireturn, 1) := by decide +kernel
theorem d_H_begin_0 : decode m_H_begin.2.1 0 = .ok (.iload_n 1, 1) := by decide +kernel
theorem d_H_begin_1 : decode m_H_begin.2.1 1 = .ok (.ifCond .lt 9, 3) := by decide +kernel
theorem d_H_begin_4 : decode m_H_begin.2.1 4 = .ok (.iload_n 1, 1) := by decide +kernel
theorem d_H_begin_5 : decode m_H_begin.2.1 5 = .ok (.bipush 48, 2) := by decide +kernel
theorem d_H_begin_7 : decode m_H_begin.2.1 7 = .ok (.if_icmp .lt 5, 3) := by decide +kernel
theorem d_H_begin_10 : decode m_H_begin.2.1 10 = .ok (.iconst (-1), 1) := by decide +kernel
theorem d_H_begin_11 : decode m_H_begin.2.1 11 = .ok (.ireturn, 1) := by decide +kernel
theorem d_H_begin_12 : decode m_H_begin.2.1 12 = .ok (.aload_n 0, 1) := by decide +kernel
theorem d_H_begin_13 : decode m_H_begin.2.1 13 = .ok (.getfield 29, 3) := by decide +kernel
theorem d_H_begin_16 : decode m_H_begin.2.1 16 = .ok (.iload_n 1, 1) := by decide +kernel
theorem d_H_begin_17 : decode m_H_begin.2.1 17 = .ok (.new 39, 3) := by decide +kernel
theorem d_H_begin_20 : decode m_H_begin.2.1 20 = .ok (.dup, 1) := by decide +kernel
theorem d_H_begin_21 : decode m_H_begin.2.1 21 = .ok (.iconst 0, 1) := by decide +kernel
theorem d_H_begin_22 : decode m_H_begin.2.1 22 = .ok (.iload_n 2, 1) := by decide +kernel
theorem d_H_begin_23 : decode m_H_begin.2.1 23 = .ok (.invokespecial 41, 3) := by decide +kernel
theorem d_H_begin_26 : decode m_H_begin.2.1 26 = .ok (.invokevirtual 44, 3) := by decide +kernel
theorem d_H_begin_29 : decode m_H_begin.2.1 29 = .ok (.astore_n 3, 1) := by decide +kernel
theorem d_H_begin_30 : decode m_H_begin.2.1 30 = .ok (.aload_n 3, 1) := by decide +kernel
theorem d_H_begin_31 : decode m_H_begin.2.1 31 = .ok (.ifnonnull 7, 3) := by decide +kernel
theorem d_H_begin_34 : decode m_H_begin.2.1 34 = .ok (.iconst (-1), 1) := by decide +kernel
theorem d_H_begin_35 : decode m_H_begin.2.1 35 = .ok (.goto 7, 3) := by decide +kernel
theorem d_H_begin_38 : decode m_H_begin.2.1 38 = .ok (.aload_n 3, 1) := by decide +kernel
theorem d_H_begin_39 : decode m_H_begin.2.1 39 = .ok (.getfield 50, 3) := by decide +kernel
theorem d_H_begin_42 : decode m_H_begin.2.1 42 = .ok (.ireturn, 1) := by decide +kernel
theorem d_H_tell_0 : decode m_H_tell.2.1 0 = .ok (.aload_n 0, 1) := by decide +kernel
theorem d_H_tell_1 : decode m_H_tell.2.1 1 = .ok (.getfield 29, 3) := by decide +kernel
theorem d_H_tell_4 : decode m_H_tell.2.1 4 = .ok (.iload_n 1, 1) := by decide +kernel
theorem d_H_tell_5 : decode m_H_tell.2.1 5 = .ok (.invokevirtual 55, 3) := by decide +kernel
theorem d_H_tell_8 : decode m_H_tell.2.1 8 = .ok (.astore_n 3, 1) := by decide +kernel
theorem d_H_tell_9 : decode m_H_tell.2.1 9 = .ok (.aload_n 3, 1) := by decide +kernel
theorem d_H_tell_10 : decode m_H_tell.2.1 10 = .ok (.ifnull 11, 3) := by decide +kernel
theorem d_H_tell_13 : decode m_H_tell.2.1 13 = .ok (.aload_n 3, 1) := by decide +kernel
theorem d_H_tell_14 : decode m_H_tell.2.1 14 = .ok (.getfield 59, 3) := by decide +kernel
theorem d_H_tell_17 : decode m_H_tell.2.1 17 = .ok (.iconst 3, 1) := by decide +kernel
theorem d_H_tell_18 : decode m_H_tell.2.1 18 = .ok (.if_icmp .ne 5, 3) := by decide +kernel
theorem d_H_tell_21 : decode m_H_tell.2.1 21 = .ok (.iconst 0, 1) := by decide +kernel
theorem d_H_tell_22 : decode m_H_tell.2.1 22 = .ok (.ireturn, 1) := by decide +kernel
theorem d_H_tell_23 : decode m_H_tell.2.1 23 = .ok (.aload_n 0, 1) := by decide +kernel
theorem d_H_tell_24 : decode m_H_tell.2.1 24 = .ok (.getfield 29, 3) := by decide +kernel
theorem d_H_tell_27 : decode m_H_tell.2.1 27 = .ok (.aload_n 3, 1) := by decide +kernel
theorem d_H_tell_28 : decode m_H_tell.2.1 28 = .ok (.new 39, 3) := by decide +kernel
theorem d_H_tell_31 : decode m_H_tell.2.1 31 = .ok (.dup, 1) := by decide +kernel
theorem d_H_tell_32 : decode m_H_tell.2.1 32 = .ok (.iconst 0, 1) := by decide +kernel
theorem d_H_tell_33 : decode m_H_tell.2.1 33 = .ok (.iload_n 2, 1) := by decide +kernel
theorem d_H_tell_34 : decode m_H_tell.2.1 34 = .ok (.invokespecial 41, 3) := by decide +kernel
theorem d_H_tell_37 : decode m_H_tell.2.1 37 = .ok (.invokevirtual 62, 3) := by decide +kernel
theorem d_H_tell_40 : decode m_H_tell.2.1 40 = .ok (.iconst 1, 1) := by decide +kernel
theorem d_H_tell_41 : decode m_H_tell.2.1 41 = .ok (.ireturn, 1) := by decide +kernel
theorem d_H_run_0 : decode m_H_run.2.1 0 = .ok (.iload_n 1, 1) := by decide +kernel
theorem d_H_run_1 : decode m_H_run.2.1 1 = .ok (.iconst 1, 1) := by decide +kernel
theorem d_H_run_2 : decode m_H_run.2.1 2 = .ok (.if_icmp .lt 9, 3) := by decide +kernel
theorem d_H_run_5 : decode m_H_run.2.1 5 = .ok (.iload_n 1, 1) := by decide +kernel
theorem d_H_run_6 : decode m_H_run.2.1 6 = .ok (.bipush 15, 2) := by decide +kernel
theorem d_H_run_8 : decode m_H_run.2.1 8 = .ok (.if_icmp .le 5, 3) := by decide +kernel
theorem d_H_run_11 : decode m_H_run.2.1 11 = .ok (.iconst (-1), 1) := by decide +kernel
theorem d_H_run_12 : decode m_H_run.2.1 12 = .ok (.ireturn, 1) := by decide +kernel
theorem d_H_run_13 : decode m_H_run.2.1 13 = .ok (.iconst 0, 1) := by decide +kernel
theorem d_H_run_14 : decode m_H_run.2.1 14 = .ok (.istore_n 2, 1) := by decide +kernel
theorem d_H_run_15 : decode m_H_run.2.1 15 = .ok (.iload_n 2, 1) := by decide +kernel
theorem d_H_run_16 : decode m_H_run.2.1 16 = .ok (.iload_n 1, 1) := by decide +kernel
theorem d_H_run_17 : decode m_H_run.2.1 17 = .ok (.if_icmp .ge 48, 3) := by decide +kernel
theorem d_H_run_20 : decode m_H_run.2.1 20 = .ok (.aload_n 0, 1) := by decide +kernel
theorem d_H_run_21 : decode m_H_run.2.1 21 = .ok (.getfield 29, 3) := by decide +kernel
theorem d_H_run_24 : decode m_H_run.2.1 24 = .ok (.aload_n 0, 1) := by decide +kernel
theorem d_H_run_25 : decode m_H_run.2.1 25 = .ok (.getfield 29, 3) := by decide +kernel
theorem d_H_run_28 : decode m_H_run.2.1 28 = .ok (.getfield 66, 3) := by decide +kernel
theorem d_H_run_31 : decode m_H_run.2.1 31 = .ok (.iconst 0, 1) := by decide +kernel
theorem d_H_run_32 : decode m_H_run.2.1 32 = .ok (.invokevirtual 70, 3) := by decide +kernel
theorem d_H_run_35 : decode m_H_run.2.1 35 = .ok (.invokevirtual 55, 3) := by decide +kernel
theorem d_H_run_38 : decode m_H_run.2.1 38 = .ok (.astore_n 3, 1) := by decide +kernel
theorem d_H_run_39 : decode m_H_run.2.1 39 = .ok (.aload_n 3, 1) := by decide +kernel
theorem d_H_run_40 : decode m_H_run.2.1 40 = .ok (.ifnonnull 6, 3) := by decide +kernel
theorem d_H_run_43 : decode m_H_run.2.1 43 = .ok (.goto 22, 3) := by decide +kernel
theorem d_H_run_46 : decode m_H_run.2.1 46 = .ok (.aload_n 0, 1) := by decide +kernel
theorem d_H_run_47 : decode m_H_run.2.1 47 = .ok (.getfield 16, 3) := by decide +kernel
theorem d_H_run_50 : decode m_H_run.2.1 50 = .ok (.aload_n 3, 1) := by decide +kernel
theorem d_H_run_51 : decode m_H_run.2.1 51 = .ok (.invokevirtual 76, 3) := by decide +kernel
theorem d_H_run_54 : decode m_H_run.2.1 54 = .ok (.iinc 2 1, 3) := by decide +kernel
theorem d_H_run_57 : decode m_H_run.2.1 57 = .ok (.aload_n 0, 1) := by decide +kernel
theorem d_H_run_58 : decode m_H_run.2.1 58 = .ok (.aload_n 3, 1) := by decide +kernel
theorem d_H_run_59 : decode m_H_run.2.1 59 = .ok (.invokevirtual 80, 3) := by decide +kernel
theorem d_H_run_62 : decode m_H_run.2.1 62 = .ok (.goto (-47), 3) := by decide +kernel
theorem d_H_run_65 : decode m_H_run.2.1 65 = .ok (.iload_n 2, 1) := by decide +kernel
theorem d_H_run_66 : decode m_H_run.2.1 66 = .ok (.ireturn, 1) := by decide +kernel
theorem d_H_clear_0 : decode m_H_clear.2.1 0 = .ok (.aload_n 0, 1) := by decide +kernel
theorem d_H_clear_1 : decode m_H_clear.2.1 1 = .ok (.getfield 29, 3) := by decide +kernel
theorem d_H_clear_4 : decode m_H_clear.2.1 4 = .ok (.getfield 83, 3) := by decide +kernel
theorem d_H_clear_7 : decode m_H_clear.2.1 7 = .ok (.istore_n 2, 1) := by decide +kernel
theorem d_H_clear_8 : decode m_H_clear.2.1 8 = .ok (.aload_n 0, 1) := by decide +kernel
theorem d_H_clear_9 : decode m_H_clear.2.1 9 = .ok (.getfield 29, 3) := by decide +kernel
theorem d_H_clear_12 : decode m_H_clear.2.1 12 = .ok (.invokevirtual 86, 3) := by decide +kernel
theorem d_H_clear_15 : decode m_H_clear.2.1 15 = .ok (.aload_n 0, 1) := by decide +kernel
theorem d_H_clear_16 : decode m_H_clear.2.1 16 = .ok (.iconst 0, 1) := by decide +kernel
theorem d_H_clear_17 : decode m_H_clear.2.1 17 = .ok (.putfield 30, 3) := by decide +kernel
theorem d_H_clear_20 : decode m_H_clear.2.1 20 = .ok (.iload_n 1, 1) := by decide +kernel
theorem d_H_clear_21 : decode m_H_clear.2.1 21 = .ok (.ifCond .eq 10, 3) := by decide +kernel
theorem d_H_clear_24 : decode m_H_clear.2.1 24 = .ok (.aload_n 0, 1) := by decide +kernel
theorem d_H_clear_25 : decode m_H_clear.2.1 25 = .ok (.getfield 24, 3) := by decide +kernel
theorem d_H_clear_28 : decode m_H_clear.2.1 28 = .ok (.invokevirtual 89, 3) := by decide +kernel
theorem d_H_clear_31 : decode m_H_clear.2.1 31 = .ok (.iload_n 2, 1) := by decide +kernel
theorem d_H_clear_32 : decode m_H_clear.2.1 32 = .ok (.ireturn, 1) := by decide +kernel
theorem d_H_process_0 : decode m_H_process.2.1 0 = .ok (.aload_n 0, 1) := by decide +kernel
theorem d_H_process_1 : decode m_H_process.2.1 1 = .ok (.getfield 29, 3) := by decide +kernel
theorem d_H_process_4 : decode m_H_process.2.1 4 = .ok (.iload_n 1, 1) := by decide +kernel
theorem d_H_process_5 : decode m_H_process.2.1 5 = .ok (.invokevirtual 55, 3) := by decide +kernel
theorem d_H_process_8 : decode m_H_process.2.1 8 = .ok (.astore_n 3, 1) := by decide +kernel
theorem d_H_process_9 : decode m_H_process.2.1 9 = .ok (.aload_n 3, 1) := by decide +kernel
theorem d_H_process_10 : decode m_H_process.2.1 10 = .ok (.ifnonnull 7, 3) := by decide +kernel
theorem d_H_process_13 : decode m_H_process.2.1 13 = .ok (.iconst (-1), 1) := by decide +kernel
theorem d_H_process_14 : decode m_H_process.2.1 14 = .ok (.goto 8, 3) := by decide +kernel
theorem d_H_process_17 : decode m_H_process.2.1 17 = .ok (.aload_n 3, 1) := by decide +kernel
theorem d_H_process_18 : decode m_H_process.2.1 18 = .ok (.iload_n 2, 1) := by decide +kernel
theorem d_H_process_19 : decode m_H_process.2.1 19 = .ok (.invokevirtual 92, 3) := by decide +kernel
theorem d_H_process_22 : decode m_H_process.2.1 22 = .ok (.ireturn, 1) := by decide +kernel
theorem d_H_queue_0 : decode m_H_queue.2.1 0 = .ok (.aload_n 0, 1) := by decide +kernel
theorem d_H_queue_1 : decode m_H_queue.2.1 1 = .ok (.getfield 29, 3) := by decide +kernel
theorem d_H_queue_4 : decode m_H_queue.2.1 4 = .ok (.getfield 66, 3) := by decide +kernel
theorem d_H_queue_7 : decode m_H_queue.2.1 7 = .ok (.iload_n 1, 1) := by decide +kernel
theorem d_H_queue_8 : decode m_H_queue.2.1 8 = .ok (.invokevirtual 70, 3) := by decide +kernel
theorem d_H_queue_11 : decode m_H_queue.2.1 11 = .ok (.ireturn, 1) := by decide +kernel
theorem d_H_processes_0 : decode m_H_processes.2.1 0 = .ok (.aload_n 0, 1) := by decide +kernel
theorem d_H_processes_1 : decode m_H_processes.2.1 1 = .ok (.getfield 29, 3) := by decide +kernel
theorem d_H_processes_4 : decode m_H_processes.2.1 4 = .ok (.getfield 83, 3) := by decide +kernel
theorem d_H_processes_7 : decode m_H_processes.2.1 7 = .ok (.ireturn, 1) := by decide +kernel
theorem d_H_term_0 : decode m_H_term.2.1 0 = .ok (.aload_n 0, 1) := by decide +kernel
theorem d_H_term_1 : decode m_H_term.2.1 1 = .ok (.iload_n 1, 1) := by decide +kernel
theorem d_H_term_2 : decode m_H_term.2.1 2 = .ok (.iload_n 2, 1) := by decide +kernel
theorem d_H_term_3 : decode m_H_term.2.1 3 = .ok (.invokevirtual 95, 3) := by decide +kernel
theorem d_H_term_6 : decode m_H_term.2.1 6 = .ok (.astore_n 3, 1) := by decide +kernel
theorem d_H_term_7 : decode m_H_term.2.1 7 = .ok (.aload_n 3, 1) := by decide +kernel
theorem d_H_term_8 : decode m_H_term.2.1 8 = .ok (.ifnonnull 7, 3) := by decide +kernel
theorem d_H_term_11 : decode m_H_term.2.1 11 = .ok (.iconst (-1), 1) := by decide +kernel
theorem d_H_term_12 : decode m_H_term.2.1 12 = .ok (.goto 7, 3) := by decide +kernel
theorem d_H_term_15 : decode m_H_term.2.1 15 = .ok (.aload_n 3, 1) := by decide +kernel
theorem d_H_term_16 : decode m_H_term.2.1 16 = .ok (.invokevirtual 99, 3) := by decide +kernel
theorem d_H_term_19 : decode m_H_term.2.1 19 = .ok (.ireturn, 1) := by decide +kernel
theorem d_H_digest_0 : decode m_H_digest.2.1 0 = .ok (.aload_n 0, 1) := by decide +kernel
theorem d_H_digest_1 : decode m_H_digest.2.1 1 = .ok (.iload_n 1, 1) := by decide +kernel
theorem d_H_digest_2 : decode m_H_digest.2.1 2 = .ok (.iload_n 2, 1) := by decide +kernel
theorem d_H_digest_3 : decode m_H_digest.2.1 3 = .ok (.invokevirtual 95, 3) := by decide +kernel
theorem d_H_digest_6 : decode m_H_digest.2.1 6 = .ok (.astore_n 3, 1) := by decide +kernel
theorem d_H_digest_7 : decode m_H_digest.2.1 7 = .ok (.aload_n 3, 1) := by decide +kernel
theorem d_H_digest_8 : decode m_H_digest.2.1 8 = .ok (.ifnonnull 7, 3) := by decide +kernel
theorem d_H_digest_11 : decode m_H_digest.2.1 11 = .ok (.iconst 0, 1) := by decide +kernel
theorem d_H_digest_12 : decode m_H_digest.2.1 12 = .ok (.goto 9, 3) := by decide +kernel
theorem d_H_digest_15 : decode m_H_digest.2.1 15 = .ok (.bipush 7, 2) := by decide +kernel
theorem d_H_digest_17 : decode m_H_digest.2.1 17 = .ok (.aload_n 3, 1) := by decide +kernel
theorem d_H_digest_18 : decode m_H_digest.2.1 18 = .ok (.invokestatic 103, 3) := by decide +kernel
theorem d_H_digest_21 : decode m_H_digest.2.1 21 = .ok (.ireturn, 1) := by decide +kernel
theorem d_H_termOf_0 : decode m_H_termOf.2.1 0 = .ok (.aload_n 0, 1) := by decide +kernel
theorem d_H_termOf_1 : decode m_H_termOf.2.1 1 = .ok (.getfield 29, 3) := by decide +kernel
theorem d_H_termOf_4 : decode m_H_termOf.2.1 4 = .ok (.iload_n 1, 1) := by decide +kernel
theorem d_H_termOf_5 : decode m_H_termOf.2.1 5 = .ok (.invokevirtual 55, 3) := by decide +kernel
theorem d_H_termOf_8 : decode m_H_termOf.2.1 8 = .ok (.astore_n 3, 1) := by decide +kernel
theorem d_H_termOf_9 : decode m_H_termOf.2.1 9 = .ok (.aload_n 3, 1) := by decide +kernel
theorem d_H_termOf_10 : decode m_H_termOf.2.1 10 = .ok (.ifnonnull 7, 3) := by decide +kernel
theorem d_H_termOf_13 : decode m_H_termOf.2.1 13 = .ok (.aconst_null, 1) := by decide +kernel
theorem d_H_termOf_14 : decode m_H_termOf.2.1 14 = .ok (.goto 8, 3) := by decide +kernel
theorem d_H_termOf_17 : decode m_H_termOf.2.1 17 = .ok (.aload_n 3, 1) := by decide +kernel
theorem d_H_termOf_18 : decode m_H_termOf.2.1 18 = .ok (.iload_n 2, 1) := by decide +kernel
theorem d_H_termOf_19 : decode m_H_termOf.2.1 19 = .ok (.invokevirtual 107, 3) := by decide +kernel
theorem d_H_termOf_22 : decode m_H_termOf.2.1 22 = .ok (.areturn, 1) := by decide +kernel
theorem d_H_countInTurn_0 : decode m_H_countInTurn.2.1 0 = .ok (.aload_n 0, 1) := by decide +kernel
theorem d_H_countInTurn_1 : decode m_H_countInTurn.2.1 1 = .ok (.dup, 1) := by decide +kernel
theorem d_H_countInTurn_2 : decode m_H_countInTurn.2.1 2 = .ok (.getfield 30, 3) := by decide +kernel
theorem d_H_countInTurn_5 : decode m_H_countInTurn.2.1 5 = .ok (.iconst 1, 1) := by decide +kernel
theorem d_H_countInTurn_6 : decode m_H_countInTurn.2.1 6 = .ok (.iadd, 1) := by decide +kernel
theorem d_H_countInTurn_7 : decode m_H_countInTurn.2.1 7 = .ok (.putfield 30, 3) := by decide +kernel
theorem d_H_countInTurn_10 : decode m_H_countInTurn.2.1 10 = .ok (.aload_n 1, 1) := by decide +kernel
theorem d_H_countInTurn_11 : decode m_H_countInTurn.2.1 11 = .ok (.getfield 59, 3) := by decide +kernel
theorem d_H_countInTurn_14 : decode m_H_countInTurn.2.1 14 = .ok (.iconst 1, 1) := by decide +kernel
theorem d_H_countInTurn_15 : decode m_H_countInTurn.2.1 15 = .ok (.if_icmp .eq 11, 3) := by decide +kernel
theorem d_H_countInTurn_18 : decode m_H_countInTurn.2.1 18 = .ok (.aload_n 0, 1) := by decide +kernel
theorem d_H_countInTurn_19 : decode m_H_countInTurn.2.1 19 = .ok (.iconst 0, 1) := by decide +kernel
theorem d_H_countInTurn_20 : decode m_H_countInTurn.2.1 20 = .ok (.putfield 30, 3) := by decide +kernel
theorem d_H_countInTurn_23 : decode m_H_countInTurn.2.1 23 = .ok (.goto 47, 3) := by decide +kernel
theorem d_H_countInTurn_26 : decode m_H_countInTurn.2.1 26 = .ok (.aload_n 0, 1) := by decide +kernel
theorem d_H_countInTurn_27 : decode m_H_countInTurn.2.1 27 = .ok (.getfield 30, 3) := by decide +kernel
theorem d_H_countInTurn_30 : decode m_H_countInTurn.2.1 30 = .ok (.aload_n 0, 1) := by decide +kernel
theorem d_H_countInTurn_31 : decode m_H_countInTurn.2.1 31 = .ok (.getfield 9, 3) := by decide +kernel
theorem d_H_countInTurn_34 : decode m_H_countInTurn.2.1 34 = .ok (.if_icmp .lt 36, 3) := by decide +kernel
theorem d_H_countInTurn_37 : decode m_H_countInTurn.2.1 37 = .ok (.aload_n 0, 1) := by decide +kernel
theorem d_H_countInTurn_38 : decode m_H_countInTurn.2.1 38 = .ok (.getfield 29, 3) := by decide +kernel
theorem d_H_countInTurn_41 : decode m_H_countInTurn.2.1 41 = .ok (.getfield 66, 3) := by decide +kernel
theorem d_H_countInTurn_44 : decode m_H_countInTurn.2.1 44 = .ok (.aload_n 1, 1) := by decide +kernel
theorem d_H_countInTurn_45 : decode m_H_countInTurn.2.1 45 = .ok (.getfield 50, 3) := by decide +kernel
theorem d_H_countInTurn_48 : decode m_H_countInTurn.2.1 48 = .ok (.invokevirtual 111, 3) := by decide +kernel
theorem d_H_countInTurn_51 : decode m_H_countInTurn.2.1 51 = .ok (.aload_n 0, 1) := by decide +kernel
theorem d_H_countInTurn_52 : decode m_H_countInTurn.2.1 52 = .ok (.getfield 29, 3) := by decide +kernel
theorem d_H_countInTurn_55 : decode m_H_countInTurn.2.1 55 = .ok (.getfield 66, 3) := by decide +kernel
theorem d_H_countInTurn_58 : decode m_H_countInTurn.2.1 58 = .ok (.aload_n 1, 1) := by decide +kernel
theorem d_H_countInTurn_59 : decode m_H_countInTurn.2.1 59 = .ok (.getfield 50, 3) := by decide +kernel
theorem d_H_countInTurn_62 : decode m_H_countInTurn.2.1 62 = .ok (.invokevirtual 115, 3) := by decide +kernel
theorem d_H_countInTurn_65 : decode m_H_countInTurn.2.1 65 = .ok (.aload_n 0, 1) := by decide +kernel
theorem d_H_countInTurn_66 : decode m_H_countInTurn.2.1 66 = .ok (.iconst 0, 1) := by decide +kernel
theorem d_H_countInTurn_67 : decode m_H_countInTurn.2.1 67 = .ok (.putfield 30, 3) := by decide +kernel
theorem d_H_countInTurn_70 : decode m_H_countInTurn.2.1 70 = .ok (.return_, 1) := by decide +kernel
theorem d_N_init_0 : decode m_N_init.2.1 0 = .ok (.aload_n 0, 1) := by decide +kernel
theorem d_N_init_1 : decode m_N_init.2.1 1 = .ok (.invokespecial 1, 3) := by decide +kernel
theorem d_N_init_4 : decode m_N_init.2.1 4 = .ok (.aload_n 0, 1) := by decide +kernel
theorem d_N_init_5 : decode m_N_init.2.1 5 = .ok (.bipush 48, 2) := by decide +kernel
theorem d_N_init_7 : decode m_N_init.2.1 7 = .ok (.newarray .int, 2) := by decide +kernel
theorem d_N_init_9 : decode m_N_init.2.1 9 = .ok (.putfield 7, 3) := by decide +kernel
theorem d_N_init_12 : decode m_N_init.2.1 12 = .ok (.aload_n 0, 1) := by decide +kernel
theorem d_N_init_13 : decode m_N_init.2.1 13 = .ok (.bipush 48, 2) := by decide +kernel
theorem d_N_init_15 : decode m_N_init.2.1 15 = .ok (.newarray .int, 2) := by decide +kernel
theorem d_N_init_17 : decode m_N_init.2.1 17 = .ok (.putfield 13, 3) := by decide +kernel
theorem d_N_init_20 : decode m_N_init.2.1 20 = .ok (.aload_n 0, 1) := by decide +kernel
theorem d_N_init_21 : decode m_N_init.2.1 21 = .ok (.bipush 48, 2) := by decide +kernel
theorem d_N_init_23 : decode m_N_init.2.1 23 = .ok (.newarray .int, 2) := by decide +kernel
theorem d_N_init_25 : decode m_N_init.2.1 25 = .ok (.putfield 16, 3) := by decide +kernel
theorem d_N_init_28 : decode m_N_init.2.1 28 = .ok (.aload_n 0, 1) := by decide +kernel
theorem d_N_init_29 : decode m_N_init.2.1 29 = .ok (.bipush 48, 2) := by decide +kernel
theorem d_N_init_31 : decode m_N_init.2.1 31 = .ok (.newarray .int, 2) := by decide +kernel
theorem d_N_init_33 : decode m_N_init.2.1 33 = .ok (.putfield 19, 3) := by decide +kernel
theorem d_N_init_36 : decode m_N_init.2.1 36 = .ok (.aload_n 0, 1) := by decide +kernel
theorem d_N_init_37 : decode m_N_init.2.1 37 = .ok (.sipush 8128, 3) := by decide +kernel
theorem d_N_init_40 : decode m_N_init.2.1 40 = .ok (.newarray .int, 2) := by decide +kernel
theorem d_N_init_42 : decode m_N_init.2.1 42 = .ok (.putfield 22, 3) := by decide +kernel
theorem d_N_init_45 : decode m_N_init.2.1 45 = .ok (.aload_n 0, 1) := by decide +kernel
theorem d_N_init_46 : decode m_N_init.2.1 46 = .ok (.bipush 12, 2) := by decide +kernel
theorem d_N_init_48 : decode m_N_init.2.1 48 = .ok (.newarray .int, 2) := by decide +kernel
theorem d_N_init_50 : decode m_N_init.2.1 50 = .ok (.putfield 25, 3) := by decide +kernel
theorem d_N_init_53 : decode m_N_init.2.1 53 = .ok (.aload_n 0, 1) := by decide +kernel
theorem d_N_init_54 : decode m_N_init.2.1 54 = .ok (.bipush 12, 2) := by decide +kernel
theorem d_N_init_56 : decode m_N_init.2.1 56 = .ok (.newarray .int, 2) := by decide +kernel
theorem d_N_init_58 : decode m_N_init.2.1 58 = .ok (.putfield 28, 3) := by decide +kernel
theorem d_N_init_61 : decode m_N_init.2.1 61 = .ok (.aload_n 0, 1) := by decide +kernel
theorem d_N_init_62 : decode m_N_init.2.1 62 = .ok (.bipush 12, 2) := by decide +kernel
theorem d_N_init_64 : decode m_N_init.2.1 64 = .ok (.newarray .int, 2) := by decide +kernel
theorem d_N_init_66 : decode m_N_init.2.1 66 = .ok (.putfield 31, 3) := by decide +kernel
theorem d_N_init_69 : decode m_N_init.2.1 69 = .ok (.aload_n 0, 1) := by decide +kernel
theorem d_N_init_70 : decode m_N_init.2.1 70 = .ok (.bipush 12, 2) := by decide +kernel
theorem d_N_init_72 : decode m_N_init.2.1 72 = .ok (.newarray .int, 2) := by decide +kernel
theorem d_N_init_74 : decode m_N_init.2.1 74 = .ok (.putfield 34, 3) := by decide +kernel
theorem d_N_init_77 : decode m_N_init.2.1 77 = .ok (.aload_n 0, 1) := by decide +kernel
theorem d_N_init_78 : decode m_N_init.2.1 78 = .ok (.bipush 12, 2) := by decide +kernel
theorem d_N_init_80 : decode m_N_init.2.1 80 = .ok (.newarray .int, 2) := by decide +kernel
theorem d_N_init_82 : decode m_N_init.2.1 82 = .ok (.putfield 37, 3) := by decide +kernel
theorem d_N_init_85 : decode m_N_init.2.1 85 = .ok (.aload_n 0, 1) := by decide +kernel
theorem d_N_init_86 : decode m_N_init.2.1 86 = .ok (.bipush 72, 2) := by decide +kernel
theorem d_N_init_88 : decode m_N_init.2.1 88 = .ok (.newarray .int, 2) := by decide +kernel
theorem d_N_init_90 : decode m_N_init.2.1 90 = .ok (.putfield 40, 3) := by decide +kernel
theorem d_N_init_93 : decode m_N_init.2.1 93 = .ok (.aload_n 0, 1) := by decide +kernel
theorem d_N_init_94 : decode m_N_init.2.1 94 = .ok (.bipush 12, 2) := by decide +kernel
theorem d_N_init_96 : decode m_N_init.2.1 96 = .ok (.newarray .int, 2) := by decide +kernel
theorem d_N_init_98 : decode m_N_init.2.1 98 = .ok (.putfield 43, 3) := by decide +kernel
theorem d_N_init_101 : decode m_N_init.2.1 101 = .ok (.aload_n 0, 1) := by decide +kernel
theorem d_N_init_102 : decode m_N_init.2.1 102 = .ok (.bipush 12, 2) := by decide +kernel
theorem d_N_init_104 : decode m_N_init.2.1 104 = .ok (.newarray .boolean, 2) := by decide +kernel
theorem d_N_init_106 : decode m_N_init.2.1 106 = .ok (.putfield 46, 3) := by decide +kernel
theorem d_N_init_109 : decode m_N_init.2.1 109 = .ok (.aload_n 0, 1) := by decide +kernel
theorem d_N_init_110 : decode m_N_init.2.1 110 = .ok (.bipush 12, 2) := by decide +kernel
theorem d_N_init_112 : decode m_N_init.2.1 112 = .ok (.newarray .int, 2) := by decide +kernel
theorem d_N_init_114 : decode m_N_init.2.1 114 = .ok (.putfield 50, 3) := by decide +kernel
theorem d_N_init_117 : decode m_N_init.2.1 117 = .ok (.aload_n 0, 1) := by decide +kernel
theorem d_N_init_118 : decode m_N_init.2.1 118 = .ok (.bipush 12, 2) := by decide +kernel
theorem d_N_init_120 : decode m_N_init.2.1 120 = .ok (.newarray .int, 2) := by decide +kernel
theorem d_N_init_122 : decode m_N_init.2.1 122 = .ok (.putfield 53, 3) := by decide +kernel
theorem d_N_init_125 : decode m_N_init.2.1 125 = .ok (.aload_n 0, 1) := by decide +kernel
theorem d_N_init_126 : decode m_N_init.2.1 126 = .ok (.bipush 13, 2) := by decide +kernel
theorem d_N_init_128 : decode m_N_init.2.1 128 = .ok (.newarray .int, 2) := by decide +kernel
theorem d_N_init_130 : decode m_N_init.2.1 130 = .ok (.putfield 56, 3) := by decide +kernel
theorem d_N_init_133 : decode m_N_init.2.1 133 = .ok (.aload_n 0, 1) := by decide +kernel
theorem d_N_init_134 : decode m_N_init.2.1 134 = .ok (.bipush 13, 2) := by decide +kernel
theorem d_N_init_136 : decode m_N_init.2.1 136 = .ok (.newarray .int, 2) := by decide +kernel
theorem d_N_init_138 : decode m_N_init.2.1 138 = .ok (.putfield 59, 3) := by decide +kernel
theorem d_N_init_141 : decode m_N_init.2.1 141 = .ok (.aload_n 0, 1) := by decide +kernel
theorem d_N_init_142 : decode m_N_init.2.1 142 = .ok (.iload_n 1, 1) := by decide +kernel
theorem d_N_init_143 : decode m_N_init.2.1 143 = .ok (.iconst 1, 1) := by decide +kernel
theorem d_N_init_144 : decode m_N_init.2.1 144 = .ok (.if_icmp .lt 13, 3) := by decide +kernel
theorem d_N_init_147 : decode m_N_init.2.1 147 = .ok (.iload_n 1, 1) := by decide +kernel
theorem d_N_init_148 : decode m_N_init.2.1 148 = .ok (.bipush 50, 2) := by decide +kernel
theorem d_N_init_150 : decode m_N_init.2.1 150 = .ok (.if_icmp .gt 7, 3) := by decide +kernel
theorem d_N_init_153 : decode m_N_init.2.1 153 = .ok (.iload_n 1, 1) := by decide +kernel
theorem d_N_init_154 : decode m_N_init.2.1 154 = .ok (.goto 5, 3) := by decide +kernel
theorem d_N_init_157 : decode m_N_init.2.1 157 = .ok (.bipush 8, 2) := by decide +kernel
theorem d_N_init_159 : decode m_N_init.2.1 159 = .ok (.putfield 62, 3) := by decide +kernel
theorem d_N_init_162 : decode m_N_init.2.1 162 = .ok (.return_, 1) := by decide +kernel
theorem d_N_in_0 : decode m_N_in.2.1 0 = .ok (.iload_n 0, 1) := by decide +kernel
theorem d_N_in_1 : decode m_N_in.2.1 1 = .ok (.iload_n 1, 1) := by decide +kernel
theorem d_N_in_2 : decode m_N_in.2.1 2 = .ok (.if_icmp .lt 12, 3) := by decide +kernel
theorem d_N_in_5 : decode m_N_in.2.1 5 = .ok (.iload_n 0, 1) := by decide +kernel
theorem d_N_in_6 : decode m_N_in.2.1 6 = .ok (.iload_n 2, 1) := by decide +kernel
theorem d_N_in_7 : decode m_N_in.2.1 7 = .ok (.if_icmp .gt 7, 3) := by decide +kernel
theorem d_N_in_10 : decode m_N_in.2.1 10 = .ok (.iconst 1, 1) := by decide +kernel
theorem d_N_in_11 : decode m_N_in.2.1 11 = .ok (.goto 4, 3) := by decide +kernel
theorem d_N_in_14 : decode m_N_in.2.1 14 = .ok (.iconst 0, 1) := by decide +kernel
theorem d_N_in_15 : decode m_N_in.2.1 15 = .ok (.ireturn, 1) := by decide +kernel
theorem d_N_copy_0 : decode m_N_copy.2.1 0 = .ok (.iconst 0, 1) := by decide +kernel
theorem d_N_copy_1 : decode m_N_copy.2.1 1 = .ok (.istore_n 3, 1) := by decide +kernel
theorem d_N_copy_2 : decode m_N_copy.2.1 2 = .ok (.iload_n 3, 1) := by decide +kernel
theorem d_N_copy_3 : decode m_N_copy.2.1 3 = .ok (.iconst 2, 1) := by decide +kernel
theorem d_N_copy_4 : decode m_N_copy.2.1 4 = .ok (.aload_n 0, 1) := by decide +kernel
theorem d_N_copy_5 : decode m_N_copy.2.1 5 = .ok (.getfield 22, 3) := by decide +kernel
theorem d_N_copy_8 : decode m_N_copy.2.1 8 = .ok (.bipush 32, 2) := by decide +kernel
theorem d_N_copy_10 : decode m_N_copy.2.1 10 = .ok (.iload_n 1, 1) := by decide +kernel
theorem d_N_copy_11 : decode m_N_copy.2.1 11 = .ok (.imul, 1) := by decide +kernel
theorem d_N_copy_12 : decode m_N_copy.2.1 12 = .ok (.iaload, 1) := by decide +kernel
theorem d_N_copy_13 : decode m_N_copy.2.1 13 = .ok (.imul, 1) := by decide +kernel
theorem d_N_copy_14 : decode m_N_copy.2.1 14 = .ok (.if_icmp .gt 31, 3) := by decide +kernel
theorem d_N_copy_17 : decode m_N_copy.2.1 17 = .ok (.aload_n 0, 1) := by decide +kernel
theorem d_N_copy_18 : decode m_N_copy.2.1 18 = .ok (.getfield 22, 3) := by decide +kernel
theorem d_N_copy_21 : decode m_N_copy.2.1 21 = .ok (.bipush 32, 2) := by decide +kernel
theorem d_N_copy_23 : decode m_N_copy.2.1 23 = .ok (.iload_n 2, 1) := by decide +kernel
theorem d_N_copy_24 : decode m_N_copy.2.1 24 = .ok (.imul, 1) := by decide +kernel
theorem d_N_copy_25 : decode m_N_copy.2.1 25 = .ok (.iload_n 3, 1) := by decide +kernel
theorem d_N_copy_26 : decode m_N_copy.2.1 26 = .ok (.iadd, 1) := by decide +kernel
theorem d_N_copy_27 : decode m_N_copy.2.1 27 = .ok (.aload_n 0, 1) := by decide +kernel
theorem d_N_copy_28 : decode m_N_copy.2.1 28 = .ok (.getfield 22, 3) := by decide +kernel
theorem d_N_copy_31 : decode m_N_copy.2.1 31 = .ok (.bipush 32, 2) := by decide +kernel
theorem d_N_copy_33 : decode m_N_copy.2.1 33 = .ok (.iload_n 1, 1) := by decide +kernel
theorem d_N_copy_34 : decode m_N_copy.2.1 34 = .ok (.imul, 1) := by decide +kernel
theorem d_N_copy_35 : decode m_N_copy.2.1 35 = .ok (.iload_n 3, 1) := by decide +kernel
theorem d_N_copy_36 : decode m_N_copy.2.1 36 = .ok (.iadd, 1) := by decide +kernel
theorem d_N_copy_37 : decode m_N_copy.2.1 37 = .ok (.iaload, 1) := by decide +kernel
theorem d_N_copy_38 : decode m_N_copy.2.1 38 = .ok (.iastore, 1) := by decide +kernel
theorem d_N_copy_39 : decode m_N_copy.2.1 39 = .ok (.iinc 3 1, 3) := by decide +kernel
theorem d_N_copy_42 : decode m_N_copy.2.1 42 = .ok (.goto (-40), 3) := by decide +kernel
theorem d_N_copy_45 : decode m_N_copy.2.1 45 = .ok (.return_, 1) := by decide +kernel
theorem d_N_put_0 : decode m_N_put.2.1 0 = .ok (.aload_n 0, 1) := by decide +kernel
theorem d_N_put_1 : decode m_N_put.2.1 1 = .ok (.getfield 22, 3) := by decide +kernel
theorem d_N_put_4 : decode m_N_put.2.1 4 = .ok (.bipush 32, 2) := by decide +kernel
theorem d_N_put_6 : decode m_N_put.2.1 6 = .ok (.iload_n 1, 1) := by decide +kernel
theorem d_N_put_7 : decode m_N_put.2.1 7 = .ok (.imul, 1) := by decide +kernel
theorem d_N_put_8 : decode m_N_put.2.1 8 = .ok (.iconst 1, 1) := by decide +kernel
theorem d_N_put_9 : decode m_N_put.2.1 9 = .ok (.iastore, 1) := by decide +kernel
theorem d_N_put_10 : decode m_N_put.2.1 10 = .ok (.aload_n 0, 1) := by decide +kernel
theorem d_N_put_11 : decode m_N_put.2.1 11 = .ok (.getfield 22, 3) := by decide +kernel
theorem d_N_put_14 : decode m_N_put.2.1 14 = .ok (.bipush 32, 2) := by decide +kernel
theorem d_N_put_16 : decode m_N_put.2.1 16 = .ok (.iload_n 1, 1) := by decide +kernel
theorem d_N_put_17 : decode m_N_put.2.1 17 = .ok (.imul, 1) := by decide +kernel
theorem d_N_put_18 : decode m_N_put.2.1 18 = .ok (.iconst 1, 1) := by decide +kernel
theorem d_N_put_19 : decode m_N_put.2.1 19 = .ok (.iadd, 1) := by decide +kernel
theorem d_N_put_20 : decode m_N_put.2.1 20 = .ok (.iload_n 2, 1) := by decide +kernel
theorem d_N_put_21 : decode m_N_put.2.1 21 = .ok (.iastore, 1) := by decide +kernel
theorem d_N_put_22 : decode m_N_put.2.1 22 = .ok (.aload_n 0, 1) := by decide +kernel
theorem d_N_put_23 : decode m_N_put.2.1 23 = .ok (.getfield 22, 3) := by decide +kernel
theorem d_N_put_26 : decode m_N_put.2.1 26 = .ok (.bipush 32, 2) := by decide +kernel
theorem d_N_put_28 : decode m_N_put.2.1 28 = .ok (.iload_n 1, 1) := by decide +kernel
theorem d_N_put_29 : decode m_N_put.2.1 29 = .ok (.imul, 1) := by decide +kernel
theorem d_N_put_30 : decode m_N_put.2.1 30 = .ok (.iconst 2, 1) := by decide +kernel
theorem d_N_put_31 : decode m_N_put.2.1 31 = .ok (.iadd, 1) := by decide +kernel
theorem d_N_put_32 : decode m_N_put.2.1 32 = .ok (.iload_n 3, 1) := by decide +kernel
theorem d_N_put_33 : decode m_N_put.2.1 33 = .ok (.iastore, 1) := by decide +kernel
theorem d_N_put_34 : decode m_N_put.2.1 34 = .ok (.return_, 1) := by decide +kernel
theorem d_N_append_0 : decode m_N_append.2.1 0 = .ok (.aload_n 0, 1) := by decide +kernel
theorem d_N_append_1 : decode m_N_append.2.1 1 = .ok (.getfield 22, 3) := by decide +kernel
theorem d_N_append_4 : decode m_N_append.2.1 4 = .ok (.bipush 32, 2) := by decide +kernel
theorem d_N_append_6 : decode m_N_append.2.1 6 = .ok (.iload_n 1, 1) := by decide +kernel
theorem d_N_append_7 : decode m_N_append.2.1 7 = .ok (.imul, 1) := by decide +kernel
theorem d_N_append_8 : decode m_N_append.2.1 8 = .ok (.iaload, 1) := by decide +kernel
theorem d_N_append_9 : decode m_N_append.2.1 9 = .ok (.istore 4, 2) := by decide +kernel
theorem d_N_append_11 : decode m_N_append.2.1 11 = .ok (.aload_n 0, 1) := by decide +kernel
theorem d_N_append_12 : decode m_N_append.2.1 12 = .ok (.getfield 22, 3) := by decide +kernel
theorem d_N_append_15 : decode m_N_append.2.1 15 = .ok (.bipush 32, 2) := by decide +kernel
theorem d_N_append_17 : decode m_N_append.2.1 17 = .ok (.iload_n 1, 1) := by decide +kernel
theorem d_N_append_18 : decode m_N_append.2.1 18 = .ok (.imul, 1) := by decide +kernel
theorem d_N_append_19 : decode m_N_append.2.1 19 = .ok (.iconst 1, 1) := by decide +kernel
theorem d_N_append_20 : decode m_N_append.2.1 20 = .ok (.iadd, 1) := by decide +kernel
theorem d_N_append_21 : decode m_N_append.2.1 21 = .ok (.iconst 2, 1) := by decide +kernel
theorem d_N_append_22 : decode m_N_append.2.1 22 = .ok (.iload 4, 2) := by decide +kernel
theorem d_N_append_24 : decode m_N_append.2.1 24 = .ok (.imul, 1) := by decide +kernel
theorem d_N_append_25 : decode m_N_append.2.1 25 = .ok (.iadd, 1) := by decide +kernel
theorem d_N_append_26 : decode m_N_append.2.1 26 = .ok (.iload_n 2, 1) := by decide +kernel
theorem d_N_append_27 : decode m_N_append.2.1 27 = .ok (.iastore, 1) := by decide +kernel
theorem d_N_append_28 : decode m_N_append.2.1 28 = .ok (.aload_n 0, 1) := by decide +kernel
theorem d_N_append_29 : decode m_N_append.2.1 29 = .ok (.getfield 22, 3) := by decide +kernel
theorem d_N_append_32 : decode m_N_append.2.1 32 = .ok (.bipush 32, 2) := by decide +kernel
theorem d_N_append_34 : decode m_N_append.2.1 34 = .ok (.iload_n 1, 1) := by decide +kernel
theorem d_N_append_35 : decode m_N_append.2.1 35 = .ok (.imul, 1) := by decide +kernel
theorem d_N_append_36 : decode m_N_append.2.1 36 = .ok (.iconst 2, 1) := by decide +kernel
theorem d_N_append_37 : decode m_N_append.2.1 37 = .ok (.iadd, 1) := by decide +kernel
theorem d_N_append_38 : decode m_N_append.2.1 38 = .ok (.iconst 2, 1) := by decide +kernel
theorem d_N_append_39 : decode m_N_append.2.1 39 = .ok (.iload 4, 2) := by decide +kernel
theorem d_N_append_41 : decode m_N_append.2.1 41 = .ok (.imul, 1) := by decide +kernel
theorem d_N_append_42 : decode m_N_append.2.1 42 = .ok (.iadd, 1) := by decide +kernel
theorem d_N_append_43 : decode m_N_append.2.1 43 = .ok (.iload_n 3, 1) := by decide +kernel
theorem d_N_append_44 : decode m_N_append.2.1 44 = .ok (.iastore, 1) := by decide +kernel
theorem d_N_append_45 : decode m_N_append.2.1 45 = .ok (.aload_n 0, 1) := by decide +kernel
theorem d_N_append_46 : decode m_N_append.2.1 46 = .ok (.getfield 22, 3) := by decide +kernel
theorem d_N_append_49 : decode m_N_append.2.1 49 = .ok (.bipush 32, 2) := by decide +kernel
theorem d_N_append_51 : decode m_N_append.2.1 51 = .ok (.iload_n 1, 1) := by decide +kernel
theorem d_N_append_52 : decode m_N_append.2.1 52 = .ok (.imul, 1) := by decide +kernel
theorem d_N_append_53 : decode m_N_append.2.1 53 = .ok (.iload 4, 2) := by decide +kernel
theorem d_N_append_55 : decode m_N_append.2.1 55 = .ok (.iconst 1, 1) := by decide +kernel
theorem d_N_append_56 : decode m_N_append.2.1 56 = .ok (.iadd, 1) := by decide +kernel
theorem d_N_append_57 : decode m_N_append.2.1 57 = .ok (.iastore, 1) := by decide +kernel
theorem d_N_append_58 : decode m_N_append.2.1 58 = .ok (.return_, 1) := by decide +kernel
theorem d_N_addParts_0 : decode m_N_addParts.2.1 0 = .ok (.iload_n 3, 1) := by decide +kernel
theorem d_N_addParts_1 : decode m_N_addParts.2.1 1 = .ok (.istore 5, 2) := by decide +kernel
theorem d_N_addParts_3 : decode m_N_addParts.2.1 3 = .ok (.iload 5, 2) := by decide +kernel
theorem d_N_addParts_5 : decode m_N_addParts.2.1 5 = .ok (.iload 4, 2) := by decide +kernel
theorem d_N_addParts_7 : decode m_N_addParts.2.1 7 = .ok (.if_icmp .ge 28, 3) := by decide +kernel
theorem d_N_addParts_10 : decode m_N_addParts.2.1 10 = .ok (.aload_n 0, 1) := by decide +kernel
theorem d_N_addParts_11 : decode m_N_addParts.2.1 11 = .ok (.iload_n 1, 1) := by decide +kernel
theorem d_N_addParts_12 : decode m_N_addParts.2.1 12 = .ok (.aload_n 0, 1) := by decide +kernel
theorem d_N_addParts_13 : decode m_N_addParts.2.1 13 = .ok (.iload_n 2, 1) := by decide +kernel
theorem d_N_addParts_14 : decode m_N_addParts.2.1 14 = .ok (.iload 5, 2) := by decide +kernel
theorem d_N_addParts_16 : decode m_N_addParts.2.1 16 = .ok (.invokevirtual 66, 3) := by decide +kernel
theorem d_N_addParts_19 : decode m_N_addParts.2.1 19 = .ok (.aload_n 0, 1) := by decide +kernel
theorem d_N_addParts_20 : decode m_N_addParts.2.1 20 = .ok (.iload_n 2, 1) := by decide +kernel
theorem d_N_addParts_21 : decode m_N_addParts.2.1 21 = .ok (.iload 5, 2) := by decide +kernel
theorem d_N_addParts_23 : decode m_N_addParts.2.1 23 = .ok (.invokevirtual 70, 3) := by decide +kernel
theorem d_N_addParts_26 : decode m_N_addParts.2.1 26 = .ok (.invokevirtual 73, 3) := by decide +kernel
theorem d_N_addParts_29 : decode m_N_addParts.2.1 29 = .ok (.iinc 5 1, 3) := by decide +kernel
theorem d_N_addParts_32 : decode m_N_addParts.2.1 32 = .ok (.goto (-29), 3) := by decide +kernel
theorem d_N_addParts_35 : decode m_N_addParts.2.1 35 = .ok (.return_, 1) := by decide +kernel
theorem d_N_weight_0 : decode m_N_weight.2.1 0 = .ok (.aload_n 0, 1) := by decide +kernel
theorem d_N_weight_1 : decode m_N_weight.2.1 1 = .ok (.getfield 22, 3) := by decide +kernel
theorem d_N_weight_4 : decode m_N_weight.2.1 4 = .ok (.bipush 32, 2) := by decide +kernel
theorem d_N_weight_6 : decode m_N_weight.2.1 6 = .ok (.iload_n 1, 1) := by decide +kernel
theorem d_N_weight_7 : decode m_N_weight.2.1 7 = .ok (.imul, 1) := by decide +kernel
theorem d_N_weight_8 : decode m_N_weight.2.1 8 = .ok (.iaload, 1) := by decide +kernel
theorem d_N_weight_9 : decode m_N_weight.2.1 9 = .ok (.ireturn, 1) := by decide +kernel
theorem d_N_sortOf_0 : decode m_N_sortOf.2.1 0 = .ok (.aload_n 0, 1) := by decide +kernel
theorem d_N_sortOf_1 : decode m_N_sortOf.2.1 1 = .ok (.getfield 22, 3) := by decide +kernel
theorem d_N_sortOf_4 : decode m_N_sortOf.2.1 4 = .ok (.bipush 32, 2) := by decide +kernel
theorem d_N_sortOf_6 : decode m_N_sortOf.2.1 6 = .ok (.iload_n 1, 1) := by decide +kernel
theorem d_N_sortOf_7 : decode m_N_sortOf.2.1 7 = .ok (.imul, 1) := by decide +kernel
theorem d_N_sortOf_8 : decode m_N_sortOf.2.1 8 = .ok (.iconst 1, 1) := by decide +kernel
theorem d_N_sortOf_9 : decode m_N_sortOf.2.1 9 = .ok (.iadd, 1) := by decide +kernel
theorem d_N_sortOf_10 : decode m_N_sortOf.2.1 10 = .ok (.iconst 2, 1) := by decide +kernel
theorem d_N_sortOf_11 : decode m_N_sortOf.2.1 11 = .ok (.iload_n 2, 1) := by decide +kernel
theorem d_N_sortOf_12 : decode m_N_sortOf.2.1 12 = .ok (.imul, 1) := by decide +kernel
theorem d_N_sortOf_13 : decode m_N_sortOf.2.1 13 = .ok (.iadd, 1) := by decide +kernel
theorem d_N_sortOf_14 : decode m_N_sortOf.2.1 14 = .ok (.iaload, 1) := by decide +kernel
theorem d_N_sortOf_15 : decode m_N_sortOf.2.1 15 = .ok (.ireturn, 1) := by decide +kernel
theorem d_N_numberOf_0 : decode m_N_numberOf.2.1 0 = .ok (.aload_n 0, 1) := by decide +kernel
theorem d_N_numberOf_1 : decode m_N_numberOf.2.1 1 = .ok (.getfield 22, 3) := by decide +kernel
theorem d_N_numberOf_4 : decode m_N_numberOf.2.1 4 = .ok (.bipush 32, 2) := by decide +kernel
theorem d_N_numberOf_6 : decode m_N_numberOf.2.1 6 = .ok (.iload_n 1, 1) := by decide +kernel
theorem d_N_numberOf_7 : decode m_N_numberOf.2.1 7 = .ok (.imul, 1) := by decide +kernel
theorem d_N_numberOf_8 : decode m_N_numberOf.2.1 8 = .ok (.iconst 2, 1) := by decide +kernel
theorem d_N_numberOf_9 : decode m_N_numberOf.2.1 9 = .ok (.iadd, 1) := by decide +kernel
theorem d_N_numberOf_10 : decode m_N_numberOf.2.1 10 = .ok (.iconst 2, 1) := by decide +kernel
theorem d_N_numberOf_11 : decode m_N_numberOf.2.1 11 = .ok (.iload_n 2, 1) := by decide +kernel
theorem d_N_numberOf_12 : decode m_N_numberOf.2.1 12 = .ok (.imul, 1) := by decide +kernel
theorem d_N_numberOf_13 : decode m_N_numberOf.2.1 13 = .ok (.iadd, 1) := by decide +kernel
theorem d_N_numberOf_14 : decode m_N_numberOf.2.1 14 = .ok (.iaload, 1) := by decide +kernel
theorem d_N_numberOf_15 : decode m_N_numberOf.2.1 15 = .ok (.ireturn, 1) := by decide +kernel
theorem d_N_behind_0 : decode m_N_behind.2.1 0 = .ok (.iconst 1, 1) := by decide +kernel
theorem d_N_behind_1 : decode m_N_behind.2.1 1 = .ok (.istore_n 3, 1) := by decide +kernel
theorem d_N_behind_2 : decode m_N_behind.2.1 2 = .ok (.iload_n 2, 1) := by decide +kernel
theorem d_N_behind_3 : decode m_N_behind.2.1 3 = .ok (.istore 4, 2) := by decide +kernel
theorem d_N_behind_5 : decode m_N_behind.2.1 5 = .ok (.iload_n 3, 1) := by decide +kernel
theorem d_N_behind_6 : decode m_N_behind.2.1 6 = .ok (.ifCond .le 33, 3) := by decide +kernel
theorem d_N_behind_9 : decode m_N_behind.2.1 9 = .ok (.aload_n 0, 1) := by decide +kernel
theorem d_N_behind_10 : decode m_N_behind.2.1 10 = .ok (.iload_n 1, 1) := by decide +kernel
theorem d_N_behind_11 : decode m_N_behind.2.1 11 = .ok (.iload 4, 2) := by decide +kernel
theorem d_N_behind_13 : decode m_N_behind.2.1 13 = .ok (.invokevirtual 66, 3) := by decide +kernel
theorem d_N_behind_16 : decode m_N_behind.2.1 16 = .ok (.iconst 4, 1) := by decide +kernel
theorem d_N_behind_17 : decode m_N_behind.2.1 17 = .ok (.if_icmp .lt 9, 3) := by decide +kernel
theorem d_N_behind_20 : decode m_N_behind.2.1 20 = .ok (.iload_n 3, 1) := by decide +kernel
theorem d_N_behind_21 : decode m_N_behind.2.1 21 = .ok (.iconst 1, 1) := by decide +kernel
theorem d_N_behind_22 : decode m_N_behind.2.1 22 = .ok (.iadd, 1) := by decide +kernel
theorem d_N_behind_23 : decode m_N_behind.2.1 23 = .ok (.goto 6, 3) := by decide +kernel
theorem d_N_behind_26 : decode m_N_behind.2.1 26 = .ok (.iload_n 3, 1) := by decide +kernel
theorem d_N_behind_27 : decode m_N_behind.2.1 27 = .ok (.iconst 1, 1) := by decide +kernel
theorem d_N_behind_28 : decode m_N_behind.2.1 28 = .ok (.isub, 1) := by decide +kernel
theorem d_N_behind_29 : decode m_N_behind.2.1 29 = .ok (.istore_n 3, 1) := by decide +kernel
theorem d_N_behind_30 : decode m_N_behind.2.1 30 = .ok (.iload 4, 2) := by decide +kernel
theorem d_N_behind_32 : decode m_N_behind.2.1 32 = .ok (.iconst 1, 1) := by decide +kernel
theorem d_N_behind_33 : decode m_N_behind.2.1 33 = .ok (.iadd, 1) := by decide +kernel
theorem d_N_behind_34 : decode m_N_behind.2.1 34 = .ok (.istore 4, 2) := by decide +kernel
theorem d_N_behind_36 : decode m_N_behind.2.1 36 = .ok (.goto (-31), 3) := by decide +kernel
theorem d_N_behind_39 : decode m_N_behind.2.1 39 = .ok (.iload 4, 2) := by decide +kernel
theorem d_N_behind_41 : decode m_N_behind.2.1 41 = .ok (.ireturn, 1) := by decide +kernel
theorem d_N_isSame_0 : decode m_N_isSame.2.1 0 = .ok (.aload_n 0, 1) := by decide +kernel
theorem d_N_isSame_1 : decode m_N_isSame.2.1 1 = .ok (.iload_n 1, 1) := by decide +kernel
theorem d_N_isSame_2 : decode m_N_isSame.2.1 2 = .ok (.invokevirtual 77, 3) := by decide +kernel
theorem d_N_isSame_5 : decode m_N_isSame.2.1 5 = .ok (.aload_n 0, 1) := by decide +kernel
theorem d_N_isSame_6 : decode m_N_isSame.2.1 6 = .ok (.iload_n 2, 1) := by decide +kernel
theorem d_N_isSame_7 : decode m_N_isSame.2.1 7 = .ok (.invokevirtual 77, 3) := by decide +kernel
theorem d_N_isSame_10 : decode m_N_isSame.2.1 10 = .ok (.if_icmp .ne 7, 3) := by decide +kernel
theorem d_N_isSame_13 : decode m_N_isSame.2.1 13 = .ok (.iconst 1, 1) := by decide +kernel
theorem d_N_isSame_14 : decode m_N_isSame.2.1 14 = .ok (.goto 4, 3) := by decide +kernel
theorem d_N_isSame_17 : decode m_N_isSame.2.1 17 = .ok (.iconst 0, 1) := by decide +kernel
theorem d_N_isSame_18 : decode m_N_isSame.2.1 18 = .ok (.istore_n 3, 1) := by decide +kernel
theorem d_N_isSame_19 : decode m_N_isSame.2.1 19 = .ok (.iconst 0, 1) := by decide +kernel
theorem d_N_isSame_20 : decode m_N_isSame.2.1 20 = .ok (.istore 4, 2) := by decide +kernel
theorem d_N_isSame_22 : decode m_N_isSame.2.1 22 = .ok (.iload 4, 2) := by decide +kernel
theorem d_N_isSame_24 : decode m_N_isSame.2.1 24 = .ok (.aload_n 0, 1) := by decide +kernel
theorem d_N_isSame_25 : decode m_N_isSame.2.1 25 = .ok (.iload_n 1, 1) := by decide +kernel
theorem d_N_isSame_26 : decode m_N_isSame.2.1 26 = .ok (.invokevirtual 77, 3) := by decide +kernel
theorem d_N_isSame_29 : decode m_N_isSame.2.1 29 = .ok (.if_icmp .ge 53, 3) := by decide +kernel
theorem d_N_isSame_32 : decode m_N_isSame.2.1 32 = .ok (.iload_n 3, 1) := by decide +kernel
theorem d_N_isSame_33 : decode m_N_isSame.2.1 33 = .ok (.ifCond .eq 49, 3) := by decide +kernel
theorem d_N_isSame_36 : decode m_N_isSame.2.1 36 = .ok (.aload_n 0, 1) := by decide +kernel
theorem d_N_isSame_37 : decode m_N_isSame.2.1 37 = .ok (.iload_n 1, 1) := by decide +kernel
theorem d_N_isSame_38 : decode m_N_isSame.2.1 38 = .ok (.iload 4, 2) := by decide +kernel
theorem d_N_isSame_40 : decode m_N_isSame.2.1 40 = .ok (.invokevirtual 66, 3) := by decide +kernel
theorem d_N_isSame_43 : decode m_N_isSame.2.1 43 = .ok (.aload_n 0, 1) := by decide +kernel
theorem d_N_isSame_44 : decode m_N_isSame.2.1 44 = .ok (.iload_n 2, 1) := by decide +kernel
theorem d_N_isSame_45 : decode m_N_isSame.2.1 45 = .ok (.iload 4, 2) := by decide +kernel
theorem d_N_isSame_47 : decode m_N_isSame.2.1 47 = .ok (.invokevirtual 66, 3) := by decide +kernel
theorem d_N_isSame_50 : decode m_N_isSame.2.1 50 = .ok (.if_icmp .ne 24, 3) := by decide +kernel
theorem d_N_isSame_53 : decode m_N_isSame.2.1 53 = .ok (.aload_n 0, 1) := by decide +kernel
theorem d_N_isSame_54 : decode m_N_isSame.2.1 54 = .ok (.iload_n 1, 1) := by decide +kernel
theorem d_N_isSame_55 : decode m_N_isSame.2.1 55 = .ok (.iload 4, 2) := by decide +kernel
theorem d_N_isSame_57 : decode m_N_isSame.2.1 57 = .ok (.invokevirtual 70, 3) := by decide +kernel
theorem d_N_isSame_60 : decode m_N_isSame.2.1 60 = .ok (.aload_n 0, 1) := by decide +kernel
theorem d_N_isSame_61 : decode m_N_isSame.2.1 61 = .ok (.iload_n 2, 1) := by decide +kernel
theorem d_N_isSame_62 : decode m_N_isSame.2.1 62 = .ok (.iload 4, 2) := by decide +kernel
theorem d_N_isSame_64 : decode m_N_isSame.2.1 64 = .ok (.invokevirtual 70, 3) := by decide +kernel
theorem d_N_isSame_67 : decode m_N_isSame.2.1 67 = .ok (.if_icmp .ne 7, 3) := by decide +kernel
theorem d_N_isSame_70 : decode m_N_isSame.2.1 70 = .ok (.iconst 1, 1) := by decide +kernel
theorem d_N_isSame_71 : decode m_N_isSame.2.1 71 = .ok (.goto 4, 3) := by decide +kernel
theorem d_N_isSame_74 : decode m_N_isSame.2.1 74 = .ok (.iconst 0, 1) := by decide +kernel
theorem d_N_isSame_75 : decode m_N_isSame.2.1 75 = .ok (.istore_n 3, 1) := by decide +kernel
theorem d_N_isSame_76 : decode m_N_isSame.2.1 76 = .ok (.iinc 4 1, 3) := by decide +kernel
theorem d_N_isSame_79 : decode m_N_isSame.2.1 79 = .ok (.goto (-57), 3) := by decide +kernel
theorem d_N_isSame_82 : decode m_N_isSame.2.1 82 = .ok (.iload_n 3, 1) := by decide +kernel
theorem d_N_isSame_83 : decode m_N_isSame.2.1 83 = .ok (.ireturn, 1) := by decide +kernel
theorem d_N_isRight_0 : decode m_N_isRight.2.1 0 = .ok (.iload_n 0, 1) := by decide +kernel
theorem d_N_isRight_1 : decode m_N_isRight.2.1 1 = .ok (.ifCond .eq 42, 3) := by decide +kernel
theorem d_N_isRight_4 : decode m_N_isRight.2.1 4 = .ok (.iload_n 1, 1) := by decide +kernel
theorem d_N_isRight_5 : decode m_N_isRight.2.1 5 = .ok (.iconst 0, 1) := by decide +kernel
theorem d_N_isRight_6 : decode m_N_isRight.2.1 6 = .ok (.iload_n 0, 1) := by decide +kernel
theorem d_N_isRight_7 : decode m_N_isRight.2.1 7 = .ok (.iconst 1, 1) := by decide +kernel
theorem d_N_isRight_8 : decode m_N_isRight.2.1 8 = .ok (.if_icmp .ne 8, 3) := by decide +kernel
theorem d_N_isRight_11 : decode m_N_isRight.2.1 11 = .ok (.bipush 7, 2) := by decide +kernel
theorem d_N_isRight_13 : decode m_N_isRight.2.1 13 = .ok (.goto 24, 3) := by decide +kernel
theorem d_N_isRight_16 : decode m_N_isRight.2.1 16 = .ok (.iload_n 0, 1) := by decide +kernel
theorem d_N_isRight_17 : decode m_N_isRight.2.1 17 = .ok (.iconst 2, 1) := by decide +kernel
theorem d_N_isRight_18 : decode m_N_isRight.2.1 18 = .ok (.if_icmp .ne 8, 3) := by decide +kernel
theorem d_N_isRight_21 : decode m_N_isRight.2.1 21 = .ok (.bipush 47, 2) := by decide +kernel
theorem d_N_isRight_23 : decode m_N_isRight.2.1 23 = .ok (.goto 14, 3) := by decide +kernel
theorem d_N_isRight_26 : decode m_N_isRight.2.1 26 = .ok (.iload_n 0, 1) := by decide +kernel
theorem d_N_isRight_27 : decode m_N_isRight.2.1 27 = .ok (.iconst 3, 1) := by decide +kernel
theorem d_N_isRight_28 : decode m_N_isRight.2.1 28 = .ok (.if_icmp .ne 8, 3) := by decide +kernel
theorem d_N_isRight_31 : decode m_N_isRight.2.1 31 = .ok (.bipush 15, 2) := by decide +kernel
theorem d_N_isRight_33 : decode m_N_isRight.2.1 33 = .ok (.goto 4, 3) := by decide +kernel
theorem d_N_isRight_36 : decode m_N_isRight.2.1 36 = .ok (.iconst 5, 1) := by decide +kernel
theorem d_N_isRight_37 : decode m_N_isRight.2.1 37 = .ok (.invokestatic 81, 3) := by decide +kernel
theorem d_N_isRight_40 : decode m_N_isRight.2.1 40 = .ok (.ifCond .eq 7, 3) := by decide +kernel
theorem d_N_isRight_43 : decode m_N_isRight.2.1 43 = .ok (.iconst 1, 1) := by decide +kernel
theorem d_N_isRight_44 : decode m_N_isRight.2.1 44 = .ok (.goto 4, 3) := by decide +kernel
theorem d_N_isRight_47 : decode m_N_isRight.2.1 47 = .ok (.iconst 0, 1) := by decide +kernel
theorem d_N_isRight_48 : decode m_N_isRight.2.1 48 = .ok (.ireturn, 1) := by decide +kernel
theorem d_N_firstNeeds_0 : decode m_N_firstNeeds.2.1 0 = .ok (.iload_n 0, 1) := by decide +kernel
theorem d_N_firstNeeds_1 : decode m_N_firstNeeds.2.1 1 = .ok (.bipush 16, 2) := by decide +kernel
theorem d_N_firstNeeds_3 : decode m_N_firstNeeds.2.1 3 = .ok (.if_icmp .eq 15, 3) := by decide +kernel
theorem d_N_firstNeeds_6 : decode m_N_firstNeeds.2.1 6 = .ok (.iload_n 0, 1) := by decide +kernel
theorem d_N_firstNeeds_7 : decode m_N_firstNeeds.2.1 7 = .ok (.bipush 19, 2) := by decide +kernel
theorem d_N_firstNeeds_9 : decode m_N_firstNeeds.2.1 9 = .ok (.if_icmp .eq 9, 3) := by decide +kernel
theorem d_N_firstNeeds_12 : decode m_N_firstNeeds.2.1 12 = .ok (.iload_n 0, 1) := by decide +kernel
theorem d_N_firstNeeds_13 : decode m_N_firstNeeds.2.1 13 = .ok (.bipush 24, 2) := by decide +kernel
theorem d_N_firstNeeds_15 : decode m_N_firstNeeds.2.1 15 = .ok (.if_icmp .ne 7, 3) := by decide +kernel
theorem d_N_firstNeeds_18 : decode m_N_firstNeeds.2.1 18 = .ok (.iconst 0, 1) := by decide +kernel
theorem d_N_firstNeeds_19 : decode m_N_firstNeeds.2.1 19 = .ok (.goto 32, 3) := by decide +kernel
theorem d_N_firstNeeds_22 : decode m_N_firstNeeds.2.1 22 = .ok (.iload_n 0, 1) := by decide +kernel
theorem d_N_firstNeeds_23 : decode m_N_firstNeeds.2.1 23 = .ok (.bipush 14, 2) := by decide +kernel
theorem d_N_firstNeeds_25 : decode m_N_firstNeeds.2.1 25 = .ok (.if_icmp .eq 21, 3) := by decide +kernel
theorem d_N_firstNeeds_28 : decode m_N_firstNeeds.2.1 28 = .ok (.iload_n 0, 1) := by decide +kernel
theorem d_N_firstNeeds_29 : decode m_N_firstNeeds.2.1 29 = .ok (.bipush 15, 2) := by decide +kernel
theorem d_N_firstNeeds_31 : decode m_N_firstNeeds.2.1 31 = .ok (.if_icmp .eq 15, 3) := by decide +kernel
theorem d_N_firstNeeds_34 : decode m_N_firstNeeds.2.1 34 = .ok (.iload_n 0, 1) := by decide +kernel
theorem d_N_firstNeeds_35 : decode m_N_firstNeeds.2.1 35 = .ok (.bipush 20, 2) := by decide +kernel
theorem d_N_firstNeeds_37 : decode m_N_firstNeeds.2.1 37 = .ok (.if_icmp .eq 9, 3) := by decide +kernel
theorem d_N_firstNeeds_40 : decode m_N_firstNeeds.2.1 40 = .ok (.iload_n 0, 1) := by decide +kernel
theorem d_N_firstNeeds_41 : decode m_N_firstNeeds.2.1 41 = .ok (.bipush 21, 2) := by decide +kernel
theorem d_N_firstNeeds_43 : decode m_N_firstNeeds.2.1 43 = .ok (.if_icmp .ne 7, 3) := by decide +kernel
theorem d_N_firstNeeds_46 : decode m_N_firstNeeds.2.1 46 = .ok (.iconst 2, 1) := by decide +kernel
theorem d_N_firstNeeds_47 : decode m_N_firstNeeds.2.1 47 = .ok (.goto 4, 3) := by decide +kernel
theorem d_N_firstNeeds_50 : decode m_N_firstNeeds.2.1 50 = .ok (.iconst 1, 1) := by decide +kernel
theorem d_N_firstNeeds_51 : decode m_N_firstNeeds.2.1 51 = .ok (.ireturn, 1) := by decide +kernel
theorem d_N_secondNeeds_0 : decode m_N_secondNeeds.2.1 0 = .ok (.iload_n 0, 1) := by decide +kernel
theorem d_N_secondNeeds_1 : decode m_N_secondNeeds.2.1 1 = .ok (.iconst 1, 1) := by decide +kernel
theorem d_N_secondNeeds_2 : decode m_N_secondNeeds.2.1 2 = .ok (.if_icmp .ne 7, 3) := by decide +kernel
theorem d_N_secondNeeds_5 : decode m_N_secondNeeds.2.1 5 = .ok (.iconst 3, 1) := by decide +kernel
theorem d_N_secondNeeds_6 : decode m_N_secondNeeds.2.1 6 = .ok (.goto 55, 3) := by decide +kernel
theorem d_N_secondNeeds_9 : decode m_N_secondNeeds.2.1 9 = .ok (.iload_n 0, 1) := by decide +kernel
theorem d_N_secondNeeds_10 : decode m_N_secondNeeds.2.1 10 = .ok (.bipush 13, 2) := by decide +kernel
theorem d_N_secondNeeds_12 : decode m_N_secondNeeds.2.1 12 = .ok (.if_icmp .ne 7, 3) := by decide +kernel
theorem d_N_secondNeeds_15 : decode m_N_secondNeeds.2.1 15 = .ok (.iconst 4, 1) := by decide +kernel
theorem d_N_secondNeeds_16 : decode m_N_secondNeeds.2.1 16 = .ok (.goto 45, 3) := by decide +kernel
theorem d_N_secondNeeds_19 : decode m_N_secondNeeds.2.1 19 = .ok (.iload_n 0, 1) := by decide +kernel
theorem d_N_secondNeeds_20 : decode m_N_secondNeeds.2.1 20 = .ok (.bipush 18, 2) := by decide +kernel
theorem d_N_secondNeeds_22 : decode m_N_secondNeeds.2.1 22 = .ok (.if_icmp .eq 9, 3) := by decide +kernel
theorem d_N_secondNeeds_25 : decode m_N_secondNeeds.2.1 25 = .ok (.iload_n 0, 1) := by decide +kernel
theorem d_N_secondNeeds_26 : decode m_N_secondNeeds.2.1 26 = .ok (.bipush 22, 2) := by decide +kernel
theorem d_N_secondNeeds_28 : decode m_N_secondNeeds.2.1 28 = .ok (.if_icmp .ne 7, 3) := by decide +kernel
theorem d_N_secondNeeds_31 : decode m_N_secondNeeds.2.1 31 = .ok (.iconst 2, 1) := by decide +kernel
theorem d_N_secondNeeds_32 : decode m_N_secondNeeds.2.1 32 = .ok (.goto 29, 3) := by decide +kernel
theorem d_N_secondNeeds_35 : decode m_N_secondNeeds.2.1 35 = .ok (.iload_n 0, 1) := by decide +kernel
theorem d_N_secondNeeds_36 : decode m_N_secondNeeds.2.1 36 = .ok (.iconst 2, 1) := by decide +kernel
theorem d_N_secondNeeds_37 : decode m_N_secondNeeds.2.1 37 = .ok (.if_icmp .eq 19, 3) := by decide +kernel
theorem d_N_secondNeeds_40 : decode m_N_secondNeeds.2.1 40 = .ok (.iload_n 0, 1) := by decide +kernel
theorem d_N_secondNeeds_41 : decode m_N_secondNeeds.2.1 41 = .ok (.iconst 5, 1) := by decide +kernel
theorem d_N_secondNeeds_42 : decode m_N_secondNeeds.2.1 42 = .ok (.bipush 12, 2) := by decide +kernel
theorem d_N_secondNeeds_44 : decode m_N_secondNeeds.2.1 44 = .ok (.invokestatic 81, 3) := by decide +kernel
theorem d_N_secondNeeds_47 : decode m_N_secondNeeds.2.1 47 = .ok (.ifCond .ne 9, 3) := by decide +kernel
theorem d_N_secondNeeds_50 : decode m_N_secondNeeds.2.1 50 = .ok (.iload_n 0, 1) := by decide +kernel
theorem d_N_secondNeeds_51 : decode m_N_secondNeeds.2.1 51 = .ok (.bipush 17, 2) := by decide +kernel
theorem d_N_secondNeeds_53 : decode m_N_secondNeeds.2.1 53 = .ok (.if_icmp .ne 7, 3) := by decide +kernel
theorem d_N_secondNeeds_56 : decode m_N_secondNeeds.2.1 56 = .ok (.iconst 1, 1) := by decide +kernel
theorem d_N_secondNeeds_57 : decode m_N_secondNeeds.2.1 57 = .ok (.goto 4, 3) := by decide +kernel
theorem d_N_secondNeeds_60 : decode m_N_secondNeeds.2.1 60 = .ok (.iconst 0, 1) := by decide +kernel
theorem d_N_secondNeeds_61 : decode m_N_secondNeeds.2.1 61 = .ok (.ireturn, 1) := by decide +kernel
theorem d_N_thirdNeeds_0 : decode m_N_thirdNeeds.2.1 0 = .ok (.iload_n 0, 1) := by decide +kernel
theorem d_N_thirdNeeds_1 : decode m_N_thirdNeeds.2.1 1 = .ok (.bipush 11, 2) := by decide +kernel
theorem d_N_thirdNeeds_3 : decode m_N_thirdNeeds.2.1 3 = .ok (.bipush 13, 2) := by decide +kernel
theorem d_N_thirdNeeds_5 : decode m_N_thirdNeeds.2.1 5 = .ok (.invokestatic 81, 3) := by decide +kernel
theorem d_N_thirdNeeds_8 : decode m_N_thirdNeeds.2.1 8 = .ok (.ifCond .eq 7, 3) := by decide +kernel
theorem d_N_thirdNeeds_11 : decode m_N_thirdNeeds.2.1 11 = .ok (.iconst 2, 1) := by decide +kernel
theorem d_N_thirdNeeds_12 : decode m_N_thirdNeeds.2.1 12 = .ok (.goto 35, 3) := by decide +kernel
theorem d_N_thirdNeeds_15 : decode m_N_thirdNeeds.2.1 15 = .ok (.iload_n 0, 1) := by decide +kernel
theorem d_N_thirdNeeds_16 : decode m_N_thirdNeeds.2.1 16 = .ok (.iconst 5, 1) := by decide +kernel
theorem d_N_thirdNeeds_17 : decode m_N_thirdNeeds.2.1 17 = .ok (.bipush 6, 2) := by decide +kernel
theorem d_N_thirdNeeds_19 : decode m_N_thirdNeeds.2.1 19 = .ok (.invokestatic 81, 3) := by decide +kernel
theorem d_N_thirdNeeds_22 : decode m_N_thirdNeeds.2.1 22 = .ok (.ifCond .ne 20, 3) := by decide +kernel
theorem d_N_thirdNeeds_25 : decode m_N_thirdNeeds.2.1 25 = .ok (.iload_n 0, 1) := by decide +kernel
theorem d_N_thirdNeeds_26 : decode m_N_thirdNeeds.2.1 26 = .ok (.bipush 9, 2) := by decide +kernel
theorem d_N_thirdNeeds_28 : decode m_N_thirdNeeds.2.1 28 = .ok (.bipush 10, 2) := by decide +kernel
theorem d_N_thirdNeeds_30 : decode m_N_thirdNeeds.2.1 30 = .ok (.invokestatic 81, 3) := by decide +kernel
theorem d_N_thirdNeeds_33 : decode m_N_thirdNeeds.2.1 33 = .ok (.ifCond .ne 9, 3) := by decide +kernel
theorem d_N_thirdNeeds_36 : decode m_N_thirdNeeds.2.1 36 = .ok (.iload_n 0, 1) := by decide +kernel
theorem d_N_thirdNeeds_37 : decode m_N_thirdNeeds.2.1 37 = .ok (.bipush 22, 2) := by decide +kernel
theorem d_N_thirdNeeds_39 : decode m_N_thirdNeeds.2.1 39 = .ok (.if_icmp .ne 7, 3) := by decide +kernel
theorem d_N_thirdNeeds_42 : decode m_N_thirdNeeds.2.1 42 = .ok (.iconst 1, 1) := by decide +kernel
theorem d_N_thirdNeeds_43 : decode m_N_thirdNeeds.2.1 43 = .ok (.goto 4, 3) := by decide +kernel
theorem d_N_thirdNeeds_46 : decode m_N_thirdNeeds.2.1 46 = .ok (.iconst 0, 1) := by decide +kernel
theorem d_N_thirdNeeds_47 : decode m_N_thirdNeeds.2.1 47 = .ok (.ireturn, 1) := by decide +kernel
theorem d_N_add_0 : decode m_N_add.2.1 0 = .ok (.iload_n 1, 1) := by decide +kernel
theorem d_N_add_1 : decode m_N_add.2.1 1 = .ok (.istore 5, 2) := by decide +kernel
theorem d_N_add_3 : decode m_N_add.2.1 3 = .ok (.iload 5, 2) := by decide +kernel
theorem d_N_add_5 : decode m_N_add.2.1 5 = .ok (.iconst 0, 1) := by decide +kernel
theorem d_N_add_6 : decode m_N_add.2.1 6 = .ok (.bipush 26, 2) := by decide +kernel
theorem d_N_add_8 : decode m_N_add.2.1 8 = .ok (.invokestatic 81, 3) := by decide +kernel
theorem d_N_add_11 : decode m_N_add.2.1 11 = .ok (.ifCond .eq 49, 3) := by decide +kernel
theorem d_N_add_14 : decode m_N_add.2.1 14 = .ok (.aload_n 0, 1) := by decide +kernel
theorem d_N_add_15 : decode m_N_add.2.1 15 = .ok (.getfield 85, 3) := by decide +kernel
theorem d_N_add_18 : decode m_N_add.2.1 18 = .ok (.bipush 48, 2) := by decide +kernel
theorem d_N_add_20 : decode m_N_add.2.1 20 = .ok (.if_icmp .ge 40, 3) := by decide +kernel
theorem d_N_add_23 : decode m_N_add.2.1 23 = .ok (.iload 5, 2) := by decide +kernel
theorem d_N_add_25 : decode m_N_add.2.1 25 = .ok (.invokestatic 88, 3) := by decide +kernel
theorem d_N_add_28 : decode m_N_add.2.1 28 = .ok (.iload_n 2, 1) := by decide +kernel
theorem d_N_add_29 : decode m_N_add.2.1 29 = .ok (.invokestatic 91, 3) := by decide +kernel
theorem d_N_add_32 : decode m_N_add.2.1 32 = .ok (.ifCond .eq 28, 3) := by decide +kernel
theorem d_N_add_35 : decode m_N_add.2.1 35 = .ok (.iload 5, 2) := by decide +kernel
theorem d_N_add_37 : decode m_N_add.2.1 37 = .ok (.invokestatic 95, 3) := by decide +kernel
theorem d_N_add_40 : decode m_N_add.2.1 40 = .ok (.iload_n 3, 1) := by decide +kernel
theorem d_N_add_41 : decode m_N_add.2.1 41 = .ok (.invokestatic 91, 3) := by decide +kernel
theorem d_N_add_44 : decode m_N_add.2.1 44 = .ok (.ifCond .eq 16, 3) := by decide +kernel
theorem d_N_add_47 : decode m_N_add.2.1 47 = .ok (.iload 5, 2) := by decide +kernel
theorem d_N_add_49 : decode m_N_add.2.1 49 = .ok (.invokestatic 98, 3) := by decide +kernel
theorem d_N_add_52 : decode m_N_add.2.1 52 = .ok (.iload 4, 2) := by decide +kernel
theorem d_N_add_54 : decode m_N_add.2.1 54 = .ok (.invokestatic 91, 3) := by decide +kernel
theorem d_N_add_57 : decode m_N_add.2.1 57 = .ok (.ifCond .ne 5, 3) := by decide +kernel
theorem d_N_add_60 : decode m_N_add.2.1 60 = .ok (.iconst (-1), 1) := by decide +kernel
theorem d_N_add_61 : decode m_N_add.2.1 61 = .ok (.ireturn, 1) := by decide +kernel
theorem d_N_add_62 : decode m_N_add.2.1 62 = .ok (.aload_n 0, 1) := by decide +kernel
theorem d_N_add_63 : decode m_N_add.2.1 63 = .ok (.getfield 7, 3) := by decide +kernel
theorem d_N_add_66 : decode m_N_add.2.1 66 = .ok (.aload_n 0, 1) := by decide +kernel
theorem d_N_add_67 : decode m_N_add.2.1 67 = .ok (.getfield 85, 3) := by decide +kernel
theorem d_N_add_70 : decode m_N_add.2.1 70 = .ok (.iload 5, 2) := by decide +kernel
theorem d_N_add_72 : decode m_N_add.2.1 72 = .ok (.iastore, 1) := by decide +kernel
theorem d_N_add_73 : decode m_N_add.2.1 73 = .ok (.aload_n 0, 1) := by decide +kernel
theorem d_N_add_74 : decode m_N_add.2.1 74 = .ok (.getfield 13, 3) := by decide +kernel
end
section
/-! Decode rows (printed by wip/gen/dec.py). -/
theorem d_N_add_77 : decode m_N_add.2.1 77 = .ok (.aload_n 0, 1) := by decide +kernel
theorem d_N_add_78 : decode m_N_add.2.1 78 = .ok (.getfield 85, 3) := by decide +kernel
theorem d_N_add_81 : decode m_N_add.2.1 81 = .ok (.iload_n 2, 1) := by decide +kernel
theorem d_N_add_82 : decode m_N_add.2.1 82 = .ok (.iastore, 1) := by decide +kernel
theorem d_N_add_83 : decode m_N_add.2.1 83 = .ok (.aload_n 0, 1) := by decide +kernel
theorem d_N_add_84 : decode m_N_add.2.1 84 = .ok (.getfield 16, 3) := by decide +kernel
theorem d_N_add_87 : decode m_N_add.2.1 87 = .ok (.aload_n 0, 1) := by decide +kernel
theorem d_N_add_88 : decode m_N_add.2.1 88 = .ok (.getfield 85, 3) := by decide +kernel
theorem d_N_add_91 : decode m_N_add.2.1 91 = .ok (.iload_n 3, 1) := by decide +kernel
theorem d_N_add_92 : decode m_N_add.2.1 92 = .ok (.iastore, 1) := by decide +kernel
theorem d_N_add_93 : decode m_N_add.2.1 93 = .ok (.aload_n 0, 1) := by decide +kernel
theorem d_N_add_94 : decode m_N_add.2.1 94 = .ok (.getfield 19, 3) := by decide +kernel
theorem d_N_add_97 : decode m_N_add.2.1 97 = .ok (.aload_n 0, 1) := by decide +kernel
theorem d_N_add_98 : decode m_N_add.2.1 98 = .ok (.getfield 85, 3) := by decide +kernel
theorem d_N_add_101 : decode m_N_add.2.1 101 = .ok (.iload 4, 2) := by decide +kernel
theorem d_N_add_103 : decode m_N_add.2.1 103 = .ok (.iastore, 1) := by decide +kernel
theorem d_N_add_104 : decode m_N_add.2.1 104 = .ok (.aload_n 0, 1) := by decide +kernel
theorem d_N_add_105 : decode m_N_add.2.1 105 = .ok (.aload_n 0, 1) := by decide +kernel
theorem d_N_add_106 : decode m_N_add.2.1 106 = .ok (.getfield 85, 3) := by decide +kernel
theorem d_N_add_109 : decode m_N_add.2.1 109 = .ok (.iconst 1, 1) := by decide +kernel
theorem d_N_add_110 : decode m_N_add.2.1 110 = .ok (.iadd, 1) := by decide +kernel
theorem d_N_add_111 : decode m_N_add.2.1 111 = .ok (.putfield 85, 3) := by decide +kernel
theorem d_N_add_114 : decode m_N_add.2.1 114 = .ok (.aload_n 0, 1) := by decide +kernel
theorem d_N_add_115 : decode m_N_add.2.1 115 = .ok (.getfield 85, 3) := by decide +kernel
theorem d_N_add_118 : decode m_N_add.2.1 118 = .ok (.iconst 1, 1) := by decide +kernel
theorem d_N_add_119 : decode m_N_add.2.1 119 = .ok (.isub, 1) := by decide +kernel
theorem d_N_add_120 : decode m_N_add.2.1 120 = .ok (.ireturn, 1) := by decide +kernel
theorem d_N_come_0 : decode m_N_come.2.1 0 = .ok (.aload_n 0, 1) := by decide +kernel
theorem d_N_come_1 : decode m_N_come.2.1 1 = .ok (.getfield 53, 3) := by decide +kernel
theorem d_N_come_4 : decode m_N_come.2.1 4 = .ok (.aload_n 0, 1) := by decide +kernel
theorem d_N_come_5 : decode m_N_come.2.1 5 = .ok (.getfield 101, 3) := by decide +kernel
theorem d_N_come_8 : decode m_N_come.2.1 8 = .ok (.iload_n 1, 1) := by decide +kernel
theorem d_N_come_9 : decode m_N_come.2.1 9 = .ok (.iastore, 1) := by decide +kernel
theorem d_N_come_10 : decode m_N_come.2.1 10 = .ok (.aload_n 0, 1) := by decide +kernel
theorem d_N_come_11 : decode m_N_come.2.1 11 = .ok (.aload_n 0, 1) := by decide +kernel
theorem d_N_come_12 : decode m_N_come.2.1 12 = .ok (.getfield 101, 3) := by decide +kernel
theorem d_N_come_15 : decode m_N_come.2.1 15 = .ok (.iconst 1, 1) := by decide +kernel
theorem d_N_come_16 : decode m_N_come.2.1 16 = .ok (.iadd, 1) := by decide +kernel
theorem d_N_come_17 : decode m_N_come.2.1 17 = .ok (.putfield 101, 3) := by decide +kernel
theorem d_N_come_20 : decode m_N_come.2.1 20 = .ok (.return_, 1) := by decide +kernel
theorem d_N_leave_0 : decode m_N_leave.2.1 0 = .ok (.iconst (-1), 1) := by decide +kernel
theorem d_N_leave_1 : decode m_N_leave.2.1 1 = .ok (.istore_n 2, 1) := by decide +kernel
theorem d_N_leave_2 : decode m_N_leave.2.1 2 = .ok (.iconst 0, 1) := by decide +kernel
theorem d_N_leave_3 : decode m_N_leave.2.1 3 = .ok (.istore_n 3, 1) := by decide +kernel
theorem d_N_leave_4 : decode m_N_leave.2.1 4 = .ok (.iload_n 3, 1) := by decide +kernel
theorem d_N_leave_5 : decode m_N_leave.2.1 5 = .ok (.aload_n 0, 1) := by decide +kernel
theorem d_N_leave_6 : decode m_N_leave.2.1 6 = .ok (.getfield 101, 3) := by decide +kernel
theorem d_N_leave_9 : decode m_N_leave.2.1 9 = .ok (.if_icmp .ge 25, 3) := by decide +kernel
theorem d_N_leave_12 : decode m_N_leave.2.1 12 = .ok (.aload_n 0, 1) := by decide +kernel
theorem d_N_leave_13 : decode m_N_leave.2.1 13 = .ok (.getfield 53, 3) := by decide +kernel
theorem d_N_leave_16 : decode m_N_leave.2.1 16 = .ok (.iload_n 3, 1) := by decide +kernel
theorem d_N_leave_17 : decode m_N_leave.2.1 17 = .ok (.iaload, 1) := by decide +kernel
theorem d_N_leave_18 : decode m_N_leave.2.1 18 = .ok (.iload_n 1, 1) := by decide +kernel
theorem d_N_leave_19 : decode m_N_leave.2.1 19 = .ok (.if_icmp .ne 7, 3) := by decide +kernel
theorem d_N_leave_22 : decode m_N_leave.2.1 22 = .ok (.iload_n 3, 1) := by decide +kernel
theorem d_N_leave_23 : decode m_N_leave.2.1 23 = .ok (.goto 4, 3) := by decide +kernel
theorem d_N_leave_26 : decode m_N_leave.2.1 26 = .ok (.iload_n 2, 1) := by decide +kernel
theorem d_N_leave_27 : decode m_N_leave.2.1 27 = .ok (.istore_n 2, 1) := by decide +kernel
theorem d_N_leave_28 : decode m_N_leave.2.1 28 = .ok (.iinc 3 1, 3) := by decide +kernel
theorem d_N_leave_31 : decode m_N_leave.2.1 31 = .ok (.goto (-27), 3) := by decide +kernel
theorem d_N_leave_34 : decode m_N_leave.2.1 34 = .ok (.iload_n 2, 1) := by decide +kernel
theorem d_N_leave_35 : decode m_N_leave.2.1 35 = .ok (.ifCond .ge 4, 3) := by decide +kernel
theorem d_N_leave_38 : decode m_N_leave.2.1 38 = .ok (.return_, 1) := by decide +kernel
theorem d_N_leave_39 : decode m_N_leave.2.1 39 = .ok (.aload_n 0, 1) := by decide +kernel
theorem d_N_leave_40 : decode m_N_leave.2.1 40 = .ok (.aload_n 0, 1) := by decide +kernel
theorem d_N_leave_41 : decode m_N_leave.2.1 41 = .ok (.getfield 101, 3) := by decide +kernel
theorem d_N_leave_44 : decode m_N_leave.2.1 44 = .ok (.iconst 1, 1) := by decide +kernel
theorem d_N_leave_45 : decode m_N_leave.2.1 45 = .ok (.isub, 1) := by decide +kernel
theorem d_N_leave_46 : decode m_N_leave.2.1 46 = .ok (.putfield 101, 3) := by decide +kernel
theorem d_N_leave_49 : decode m_N_leave.2.1 49 = .ok (.iload_n 2, 1) := by decide +kernel
theorem d_N_leave_50 : decode m_N_leave.2.1 50 = .ok (.istore_n 3, 1) := by decide +kernel
theorem d_N_leave_51 : decode m_N_leave.2.1 51 = .ok (.iload_n 3, 1) := by decide +kernel
theorem d_N_leave_52 : decode m_N_leave.2.1 52 = .ok (.aload_n 0, 1) := by decide +kernel
theorem d_N_leave_53 : decode m_N_leave.2.1 53 = .ok (.getfield 101, 3) := by decide +kernel
theorem d_N_leave_56 : decode m_N_leave.2.1 56 = .ok (.if_icmp .ge 23, 3) := by decide +kernel
theorem d_N_leave_59 : decode m_N_leave.2.1 59 = .ok (.aload_n 0, 1) := by decide +kernel
theorem d_N_leave_60 : decode m_N_leave.2.1 60 = .ok (.getfield 53, 3) := by decide +kernel
theorem d_N_leave_63 : decode m_N_leave.2.1 63 = .ok (.iload_n 3, 1) := by decide +kernel
theorem d_N_leave_64 : decode m_N_leave.2.1 64 = .ok (.aload_n 0, 1) := by decide +kernel
theorem d_N_leave_65 : decode m_N_leave.2.1 65 = .ok (.getfield 53, 3) := by decide +kernel
theorem d_N_leave_68 : decode m_N_leave.2.1 68 = .ok (.iload_n 3, 1) := by decide +kernel
theorem d_N_leave_69 : decode m_N_leave.2.1 69 = .ok (.iconst 1, 1) := by decide +kernel
theorem d_N_leave_70 : decode m_N_leave.2.1 70 = .ok (.iadd, 1) := by decide +kernel
theorem d_N_leave_71 : decode m_N_leave.2.1 71 = .ok (.iaload, 1) := by decide +kernel
theorem d_N_leave_72 : decode m_N_leave.2.1 72 = .ok (.iastore, 1) := by decide +kernel
theorem d_N_leave_73 : decode m_N_leave.2.1 73 = .ok (.iinc 3 1, 3) := by decide +kernel
theorem d_N_leave_76 : decode m_N_leave.2.1 76 = .ok (.goto (-25), 3) := by decide +kernel
theorem d_N_leave_79 : decode m_N_leave.2.1 79 = .ok (.aload_n 0, 1) := by decide +kernel
theorem d_N_leave_80 : decode m_N_leave.2.1 80 = .ok (.iload_n 2, 1) := by decide +kernel
theorem d_N_leave_81 : decode m_N_leave.2.1 81 = .ok (.ifCond .ne 7, 3) := by decide +kernel
theorem d_N_leave_84 : decode m_N_leave.2.1 84 = .ok (.iconst 0, 1) := by decide +kernel
theorem d_N_leave_85 : decode m_N_leave.2.1 85 = .ok (.goto 7, 3) := by decide +kernel
theorem d_N_leave_88 : decode m_N_leave.2.1 88 = .ok (.aload_n 0, 1) := by decide +kernel
theorem d_N_leave_89 : decode m_N_leave.2.1 89 = .ok (.getfield 104, 3) := by decide +kernel
theorem d_N_leave_92 : decode m_N_leave.2.1 92 = .ok (.putfield 104, 3) := by decide +kernel
theorem d_N_leave_95 : decode m_N_leave.2.1 95 = .ok (.return_, 1) := by decide +kernel
theorem d_N_deliver_0 : decode m_N_deliver.2.1 0 = .ok (.aload_n 0, 1) := by decide +kernel
theorem d_N_deliver_1 : decode m_N_deliver.2.1 1 = .ok (.getfield 25, 3) := by decide +kernel
theorem d_N_deliver_4 : decode m_N_deliver.2.1 4 = .ok (.iload_n 1, 1) := by decide +kernel
theorem d_N_deliver_5 : decode m_N_deliver.2.1 5 = .ok (.iaload, 1) := by decide +kernel
theorem d_N_deliver_6 : decode m_N_deliver.2.1 6 = .ok (.iconst 3, 1) := by decide +kernel
theorem d_N_deliver_7 : decode m_N_deliver.2.1 7 = .ok (.if_icmp .eq 14, 3) := by decide +kernel
theorem d_N_deliver_10 : decode m_N_deliver.2.1 10 = .ok (.aload_n 0, 1) := by decide +kernel
theorem d_N_deliver_11 : decode m_N_deliver.2.1 11 = .ok (.getfield 34, 3) := by decide +kernel
theorem d_N_deliver_14 : decode m_N_deliver.2.1 14 = .ok (.iload_n 1, 1) := by decide +kernel
theorem d_N_deliver_15 : decode m_N_deliver.2.1 15 = .ok (.iaload, 1) := by decide +kernel
theorem d_N_deliver_16 : decode m_N_deliver.2.1 16 = .ok (.bipush 12, 2) := by decide +kernel
theorem d_N_deliver_18 : decode m_N_deliver.2.1 18 = .ok (.if_icmp .lt 4, 3) := by decide +kernel
theorem d_N_deliver_21 : decode m_N_deliver.2.1 21 = .ok (.return_, 1) := by decide +kernel
theorem d_N_deliver_22 : decode m_N_deliver.2.1 22 = .ok (.aload_n 0, 1) := by decide +kernel
theorem d_N_deliver_23 : decode m_N_deliver.2.1 23 = .ok (.iload_n 2, 1) := by decide +kernel
theorem d_N_deliver_24 : decode m_N_deliver.2.1 24 = .ok (.bipush 21, 2) := by decide +kernel
theorem d_N_deliver_26 : decode m_N_deliver.2.1 26 = .ok (.iload_n 1, 1) := by decide +kernel
theorem d_N_deliver_27 : decode m_N_deliver.2.1 27 = .ok (.imul, 1) := by decide +kernel
theorem d_N_deliver_28 : decode m_N_deliver.2.1 28 = .ok (.bipush 9, 2) := by decide +kernel
theorem d_N_deliver_30 : decode m_N_deliver.2.1 30 = .ok (.iadd, 1) := by decide +kernel
theorem d_N_deliver_31 : decode m_N_deliver.2.1 31 = .ok (.aload_n 0, 1) := by decide +kernel
theorem d_N_deliver_32 : decode m_N_deliver.2.1 32 = .ok (.getfield 34, 3) := by decide +kernel
theorem d_N_deliver_35 : decode m_N_deliver.2.1 35 = .ok (.iload_n 1, 1) := by decide +kernel
theorem d_N_deliver_36 : decode m_N_deliver.2.1 36 = .ok (.iaload, 1) := by decide +kernel
theorem d_N_deliver_37 : decode m_N_deliver.2.1 37 = .ok (.iadd, 1) := by decide +kernel
theorem d_N_deliver_38 : decode m_N_deliver.2.1 38 = .ok (.invokevirtual 107, 3) := by decide +kernel
theorem d_N_deliver_41 : decode m_N_deliver.2.1 41 = .ok (.aload_n 0, 1) := by decide +kernel
theorem d_N_deliver_42 : decode m_N_deliver.2.1 42 = .ok (.getfield 34, 3) := by decide +kernel
theorem d_N_deliver_45 : decode m_N_deliver.2.1 45 = .ok (.iload_n 1, 1) := by decide +kernel
theorem d_N_deliver_46 : decode m_N_deliver.2.1 46 = .ok (.aload_n 0, 1) := by decide +kernel
theorem d_N_deliver_47 : decode m_N_deliver.2.1 47 = .ok (.getfield 34, 3) := by decide +kernel
theorem d_N_deliver_50 : decode m_N_deliver.2.1 50 = .ok (.iload_n 1, 1) := by decide +kernel
theorem d_N_deliver_51 : decode m_N_deliver.2.1 51 = .ok (.iaload, 1) := by decide +kernel
theorem d_N_deliver_52 : decode m_N_deliver.2.1 52 = .ok (.iconst 1, 1) := by decide +kernel
theorem d_N_deliver_53 : decode m_N_deliver.2.1 53 = .ok (.iadd, 1) := by decide +kernel
theorem d_N_deliver_54 : decode m_N_deliver.2.1 54 = .ok (.iastore, 1) := by decide +kernel
theorem d_N_deliver_55 : decode m_N_deliver.2.1 55 = .ok (.aload_n 0, 1) := by decide +kernel
theorem d_N_deliver_56 : decode m_N_deliver.2.1 56 = .ok (.getfield 25, 3) := by decide +kernel
theorem d_N_deliver_59 : decode m_N_deliver.2.1 59 = .ok (.iload_n 1, 1) := by decide +kernel
theorem d_N_deliver_60 : decode m_N_deliver.2.1 60 = .ok (.iaload, 1) := by decide +kernel
theorem d_N_deliver_61 : decode m_N_deliver.2.1 61 = .ok (.iconst 2, 1) := by decide +kernel
theorem d_N_deliver_62 : decode m_N_deliver.2.1 62 = .ok (.if_icmp .ne 15, 3) := by decide +kernel
theorem d_N_deliver_65 : decode m_N_deliver.2.1 65 = .ok (.aload_n 0, 1) := by decide +kernel
theorem d_N_deliver_66 : decode m_N_deliver.2.1 66 = .ok (.getfield 25, 3) := by decide +kernel
theorem d_N_deliver_69 : decode m_N_deliver.2.1 69 = .ok (.iload_n 1, 1) := by decide +kernel
theorem d_N_deliver_70 : decode m_N_deliver.2.1 70 = .ok (.iconst 1, 1) := by decide +kernel
theorem d_N_deliver_71 : decode m_N_deliver.2.1 71 = .ok (.iastore, 1) := by decide +kernel
theorem d_N_deliver_72 : decode m_N_deliver.2.1 72 = .ok (.aload_n 0, 1) := by decide +kernel
theorem d_N_deliver_73 : decode m_N_deliver.2.1 73 = .ok (.iload_n 1, 1) := by decide +kernel
theorem d_N_deliver_74 : decode m_N_deliver.2.1 74 = .ok (.invokevirtual 111, 3) := by decide +kernel
theorem d_N_deliver_77 : decode m_N_deliver.2.1 77 = .ok (.return_, 1) := by decide +kernel
theorem d_N_signal_0 : decode m_N_signal.2.1 0 = .ok (.aload_n 0, 1) := by decide +kernel
theorem d_N_signal_1 : decode m_N_signal.2.1 1 = .ok (.getfield 25, 3) := by decide +kernel
theorem d_N_signal_4 : decode m_N_signal.2.1 4 = .ok (.iload_n 1, 1) := by decide +kernel
theorem d_N_signal_5 : decode m_N_signal.2.1 5 = .ok (.iaload, 1) := by decide +kernel
theorem d_N_signal_6 : decode m_N_signal.2.1 6 = .ok (.iconst 3, 1) := by decide +kernel
theorem d_N_signal_7 : decode m_N_signal.2.1 7 = .ok (.if_icmp .ne 5, 3) := by decide +kernel
theorem d_N_signal_10 : decode m_N_signal.2.1 10 = .ok (.iconst 0, 1) := by decide +kernel
theorem d_N_signal_11 : decode m_N_signal.2.1 11 = .ok (.ireturn, 1) := by decide +kernel
theorem d_N_signal_12 : decode m_N_signal.2.1 12 = .ok (.aload_n 0, 1) := by decide +kernel
theorem d_N_signal_13 : decode m_N_signal.2.1 13 = .ok (.getfield 46, 3) := by decide +kernel
theorem d_N_signal_16 : decode m_N_signal.2.1 16 = .ok (.iload_n 1, 1) := by decide +kernel
theorem d_N_signal_17 : decode m_N_signal.2.1 17 = .ok (.baload, 1) := by decide +kernel
theorem d_N_signal_18 : decode m_N_signal.2.1 18 = .ok (.ifCond .ne 39, 3) := by decide +kernel
theorem d_N_signal_21 : decode m_N_signal.2.1 21 = .ok (.aload_n 0, 1) := by decide +kernel
theorem d_N_signal_22 : decode m_N_signal.2.1 22 = .ok (.iload_n 3, 1) := by decide +kernel
theorem d_N_signal_23 : decode m_N_signal.2.1 23 = .ok (.invokevirtual 77, 3) := by decide +kernel
theorem d_N_signal_26 : decode m_N_signal.2.1 26 = .ok (.iconst 1, 1) := by decide +kernel
theorem d_N_signal_27 : decode m_N_signal.2.1 27 = .ok (.if_icmp .gt 24, 3) := by decide +kernel
theorem d_N_signal_30 : decode m_N_signal.2.1 30 = .ok (.aload_n 0, 1) := by decide +kernel
theorem d_N_signal_31 : decode m_N_signal.2.1 31 = .ok (.iload_n 3, 1) := by decide +kernel
theorem d_N_signal_32 : decode m_N_signal.2.1 32 = .ok (.iconst 0, 1) := by decide +kernel
theorem d_N_signal_33 : decode m_N_signal.2.1 33 = .ok (.invokevirtual 66, 3) := by decide +kernel
theorem d_N_signal_36 : decode m_N_signal.2.1 36 = .ok (.iconst 1, 1) := by decide +kernel
theorem d_N_signal_37 : decode m_N_signal.2.1 37 = .ok (.if_icmp .ne 14, 3) := by decide +kernel
theorem d_N_signal_40 : decode m_N_signal.2.1 40 = .ok (.aload_n 0, 1) := by decide +kernel
theorem d_N_signal_41 : decode m_N_signal.2.1 41 = .ok (.iload_n 3, 1) := by decide +kernel
theorem d_N_signal_42 : decode m_N_signal.2.1 42 = .ok (.iconst 0, 1) := by decide +kernel
theorem d_N_signal_43 : decode m_N_signal.2.1 43 = .ok (.invokevirtual 70, 3) := by decide +kernel
theorem d_N_signal_46 : decode m_N_signal.2.1 46 = .ok (.bipush 14, 2) := by decide +kernel
theorem d_N_signal_48 : decode m_N_signal.2.1 48 = .ok (.if_icmp .eq 7, 3) := by decide +kernel
theorem d_N_signal_51 : decode m_N_signal.2.1 51 = .ok (.iconst 1, 1) := by decide +kernel
theorem d_N_signal_52 : decode m_N_signal.2.1 52 = .ok (.goto 4, 3) := by decide +kernel
theorem d_N_signal_55 : decode m_N_signal.2.1 55 = .ok (.iconst 0, 1) := by decide +kernel
theorem d_N_signal_56 : decode m_N_signal.2.1 56 = .ok (.ireturn, 1) := by decide +kernel
theorem d_N_signal_57 : decode m_N_signal.2.1 57 = .ok (.aload_n 0, 1) := by decide +kernel
theorem d_N_signal_58 : decode m_N_signal.2.1 58 = .ok (.sipush 253, 3) := by decide +kernel
theorem d_N_signal_61 : decode m_N_signal.2.1 61 = .ok (.iconst 5, 1) := by decide +kernel
theorem d_N_signal_62 : decode m_N_signal.2.1 62 = .ok (.iconst 0, 1) := by decide +kernel
theorem d_N_signal_63 : decode m_N_signal.2.1 63 = .ok (.invokevirtual 115, 3) := by decide +kernel
theorem d_N_signal_66 : decode m_N_signal.2.1 66 = .ok (.aload_n 0, 1) := by decide +kernel
theorem d_N_signal_67 : decode m_N_signal.2.1 67 = .ok (.sipush 253, 3) := by decide +kernel
theorem d_N_signal_70 : decode m_N_signal.2.1 70 = .ok (.iconst 1, 1) := by decide +kernel
theorem d_N_signal_71 : decode m_N_signal.2.1 71 = .ok (.bipush 15, 2) := by decide +kernel
theorem d_N_signal_73 : decode m_N_signal.2.1 73 = .ok (.invokevirtual 73, 3) := by decide +kernel
theorem d_N_signal_76 : decode m_N_signal.2.1 76 = .ok (.aload_n 0, 1) := by decide +kernel
theorem d_N_signal_77 : decode m_N_signal.2.1 77 = .ok (.sipush 253, 3) := by decide +kernel
theorem d_N_signal_80 : decode m_N_signal.2.1 80 = .ok (.iconst 5, 1) := by decide +kernel
theorem d_N_signal_81 : decode m_N_signal.2.1 81 = .ok (.iconst 0, 1) := by decide +kernel
theorem d_N_signal_82 : decode m_N_signal.2.1 82 = .ok (.invokevirtual 73, 3) := by decide +kernel
theorem d_N_signal_85 : decode m_N_signal.2.1 85 = .ok (.aload_n 0, 1) := by decide +kernel
theorem d_N_signal_86 : decode m_N_signal.2.1 86 = .ok (.sipush 253, 3) := by decide +kernel
theorem d_N_signal_89 : decode m_N_signal.2.1 89 = .ok (.iconst 2, 1) := by decide +kernel
theorem d_N_signal_90 : decode m_N_signal.2.1 90 = .ok (.iload_n 2, 1) := by decide +kernel
theorem d_N_signal_91 : decode m_N_signal.2.1 91 = .ok (.invokevirtual 73, 3) := by decide +kernel
theorem d_N_signal_94 : decode m_N_signal.2.1 94 = .ok (.aload_n 0, 1) := by decide +kernel
theorem d_N_signal_95 : decode m_N_signal.2.1 95 = .ok (.iload_n 3, 1) := by decide +kernel
theorem d_N_signal_96 : decode m_N_signal.2.1 96 = .ok (.invokevirtual 77, 3) := by decide +kernel
theorem d_N_signal_99 : decode m_N_signal.2.1 99 = .ok (.bipush 11, 2) := by decide +kernel
theorem d_N_signal_101 : decode m_N_signal.2.1 101 = .ok (.if_icmp .le 16, 3) := by decide +kernel
theorem d_N_signal_104 : decode m_N_signal.2.1 104 = .ok (.aload_n 0, 1) := by decide +kernel
theorem d_N_signal_105 : decode m_N_signal.2.1 105 = .ok (.sipush 253, 3) := by decide +kernel
theorem d_N_signal_108 : decode m_N_signal.2.1 108 = .ok (.iconst 1, 1) := by decide +kernel
theorem d_N_signal_109 : decode m_N_signal.2.1 109 = .ok (.bipush 13, 2) := by decide +kernel
theorem d_N_signal_111 : decode m_N_signal.2.1 111 = .ok (.invokevirtual 73, 3) := by decide +kernel
theorem d_N_signal_114 : decode m_N_signal.2.1 114 = .ok (.goto 17, 3) := by decide +kernel
theorem d_N_signal_117 : decode m_N_signal.2.1 117 = .ok (.aload_n 0, 1) := by decide +kernel
theorem d_N_signal_118 : decode m_N_signal.2.1 118 = .ok (.sipush 253, 3) := by decide +kernel
theorem d_N_signal_121 : decode m_N_signal.2.1 121 = .ok (.iload_n 3, 1) := by decide +kernel
theorem d_N_signal_122 : decode m_N_signal.2.1 122 = .ok (.iconst 0, 1) := by decide +kernel
theorem d_N_signal_123 : decode m_N_signal.2.1 123 = .ok (.aload_n 0, 1) := by decide +kernel
theorem d_N_signal_124 : decode m_N_signal.2.1 124 = .ok (.iload_n 3, 1) := by decide +kernel
theorem d_N_signal_125 : decode m_N_signal.2.1 125 = .ok (.invokevirtual 77, 3) := by decide +kernel
theorem d_N_signal_128 : decode m_N_signal.2.1 128 = .ok (.invokevirtual 118, 3) := by decide +kernel
theorem d_N_signal_131 : decode m_N_signal.2.1 131 = .ok (.aload_n 0, 1) := by decide +kernel
theorem d_N_signal_132 : decode m_N_signal.2.1 132 = .ok (.iload_n 1, 1) := by decide +kernel
theorem d_N_signal_133 : decode m_N_signal.2.1 133 = .ok (.sipush 253, 3) := by decide +kernel
theorem d_N_signal_136 : decode m_N_signal.2.1 136 = .ok (.invokevirtual 122, 3) := by decide +kernel
theorem d_N_signal_139 : decode m_N_signal.2.1 139 = .ok (.iconst 0, 1) := by decide +kernel
theorem d_N_signal_140 : decode m_N_signal.2.1 140 = .ok (.ireturn, 1) := by decide +kernel
theorem d_N_stop_0 : decode m_N_stop.2.1 0 = .ok (.aload_n 0, 1) := by decide +kernel
theorem d_N_stop_1 : decode m_N_stop.2.1 1 = .ok (.getfield 25, 3) := by decide +kernel
theorem d_N_stop_4 : decode m_N_stop.2.1 4 = .ok (.iload_n 1, 1) := by decide +kernel
theorem d_N_stop_5 : decode m_N_stop.2.1 5 = .ok (.iconst 3, 1) := by decide +kernel
theorem d_N_stop_6 : decode m_N_stop.2.1 6 = .ok (.iastore, 1) := by decide +kernel
theorem d_N_stop_7 : decode m_N_stop.2.1 7 = .ok (.aload_n 0, 1) := by decide +kernel
theorem d_N_stop_8 : decode m_N_stop.2.1 8 = .ok (.iload_n 2, 1) := by decide +kernel
theorem d_N_stop_9 : decode m_N_stop.2.1 9 = .ok (.bipush 21, 2) := by decide +kernel
theorem d_N_stop_11 : decode m_N_stop.2.1 11 = .ok (.iload_n 1, 1) := by decide +kernel
theorem d_N_stop_12 : decode m_N_stop.2.1 12 = .ok (.imul, 1) := by decide +kernel
theorem d_N_stop_13 : decode m_N_stop.2.1 13 = .ok (.bipush 8, 2) := by decide +kernel
theorem d_N_stop_15 : decode m_N_stop.2.1 15 = .ok (.iadd, 1) := by decide +kernel
theorem d_N_stop_16 : decode m_N_stop.2.1 16 = .ok (.invokevirtual 107, 3) := by decide +kernel
theorem d_N_stop_19 : decode m_N_stop.2.1 19 = .ok (.aload_n 0, 1) := by decide +kernel
theorem d_N_stop_20 : decode m_N_stop.2.1 20 = .ok (.iload_n 1, 1) := by decide +kernel
theorem d_N_stop_21 : decode m_N_stop.2.1 21 = .ok (.invokevirtual 125, 3) := by decide +kernel
theorem d_N_stop_24 : decode m_N_stop.2.1 24 = .ok (.return_, 1) := by decide +kernel
theorem d_N_end_0 : decode m_N_end.2.1 0 = .ok (.aload_n 0, 1) := by decide +kernel
theorem d_N_end_1 : decode m_N_end.2.1 1 = .ok (.iload_n 1, 1) := by decide +kernel
theorem d_N_end_2 : decode m_N_end.2.1 2 = .ok (.iload_n 2, 1) := by decide +kernel
theorem d_N_end_3 : decode m_N_end.2.1 3 = .ok (.invokevirtual 128, 3) := by decide +kernel
theorem d_N_end_6 : decode m_N_end.2.1 6 = .ok (.iconst 1, 1) := by decide +kernel
theorem d_N_end_7 : decode m_N_end.2.1 7 = .ok (.istore_n 3, 1) := by decide +kernel
theorem d_N_end_8 : decode m_N_end.2.1 8 = .ok (.aload_n 0, 1) := by decide +kernel
theorem d_N_end_9 : decode m_N_end.2.1 9 = .ok (.getfield 56, 3) := by decide +kernel
theorem d_N_end_12 : decode m_N_end.2.1 12 = .ok (.iconst 0, 1) := by decide +kernel
theorem d_N_end_13 : decode m_N_end.2.1 13 = .ok (.iload_n 1, 1) := by decide +kernel
theorem d_N_end_14 : decode m_N_end.2.1 14 = .ok (.iastore, 1) := by decide +kernel
theorem d_N_end_15 : decode m_N_end.2.1 15 = .ok (.aload_n 0, 1) := by decide +kernel
theorem d_N_end_16 : decode m_N_end.2.1 16 = .ok (.getfield 59, 3) := by decide +kernel
theorem d_N_end_19 : decode m_N_end.2.1 19 = .ok (.iconst 0, 1) := by decide +kernel
theorem d_N_end_20 : decode m_N_end.2.1 20 = .ok (.iconst 0, 1) := by decide +kernel
theorem d_N_end_21 : decode m_N_end.2.1 21 = .ok (.iastore, 1) := by decide +kernel
theorem d_N_end_22 : decode m_N_end.2.1 22 = .ok (.iload_n 3, 1) := by decide +kernel
theorem d_N_end_23 : decode m_N_end.2.1 23 = .ok (.ifCond .le 164, 3) := by decide +kernel
theorem d_N_end_26 : decode m_N_end.2.1 26 = .ok (.aload_n 0, 1) := by decide +kernel
theorem d_N_end_27 : decode m_N_end.2.1 27 = .ok (.getfield 56, 3) := by decide +kernel
theorem d_N_end_30 : decode m_N_end.2.1 30 = .ok (.iload_n 3, 1) := by decide +kernel
theorem d_N_end_31 : decode m_N_end.2.1 31 = .ok (.iconst 1, 1) := by decide +kernel
theorem d_N_end_32 : decode m_N_end.2.1 32 = .ok (.isub, 1) := by decide +kernel
theorem d_N_end_33 : decode m_N_end.2.1 33 = .ok (.iaload, 1) := by decide +kernel
theorem d_N_end_34 : decode m_N_end.2.1 34 = .ok (.istore 4, 2) := by decide +kernel
theorem d_N_end_36 : decode m_N_end.2.1 36 = .ok (.aload_n 0, 1) := by decide +kernel
theorem d_N_end_37 : decode m_N_end.2.1 37 = .ok (.getfield 59, 3) := by decide +kernel
theorem d_N_end_40 : decode m_N_end.2.1 40 = .ok (.iload_n 3, 1) := by decide +kernel
theorem d_N_end_41 : decode m_N_end.2.1 41 = .ok (.iconst 1, 1) := by decide +kernel
theorem d_N_end_42 : decode m_N_end.2.1 42 = .ok (.isub, 1) := by decide +kernel
theorem d_N_end_43 : decode m_N_end.2.1 43 = .ok (.iaload, 1) := by decide +kernel
theorem d_N_end_44 : decode m_N_end.2.1 44 = .ok (.istore 5, 2) := by decide +kernel
theorem d_N_end_46 : decode m_N_end.2.1 46 = .ok (.aload_n 0, 1) := by decide +kernel
theorem d_N_end_47 : decode m_N_end.2.1 47 = .ok (.getfield 59, 3) := by decide +kernel
theorem d_N_end_50 : decode m_N_end.2.1 50 = .ok (.iload_n 3, 1) := by decide +kernel
theorem d_N_end_51 : decode m_N_end.2.1 51 = .ok (.iconst 1, 1) := by decide +kernel
theorem d_N_end_52 : decode m_N_end.2.1 52 = .ok (.isub, 1) := by decide +kernel
theorem d_N_end_53 : decode m_N_end.2.1 53 = .ok (.iload 5, 2) := by decide +kernel
theorem d_N_end_55 : decode m_N_end.2.1 55 = .ok (.iconst 1, 1) := by decide +kernel
theorem d_N_end_56 : decode m_N_end.2.1 56 = .ok (.iadd, 1) := by decide +kernel
theorem d_N_end_57 : decode m_N_end.2.1 57 = .ok (.iastore, 1) := by decide +kernel
theorem d_N_end_58 : decode m_N_end.2.1 58 = .ok (.iload 5, 2) := by decide +kernel
theorem d_N_end_60 : decode m_N_end.2.1 60 = .ok (.aload_n 0, 1) := by decide +kernel
theorem d_N_end_61 : decode m_N_end.2.1 61 = .ok (.getfield 131, 3) := by decide +kernel
theorem d_N_end_64 : decode m_N_end.2.1 64 = .ok (.if_icmp .lt 10, 3) := by decide +kernel
theorem d_N_end_67 : decode m_N_end.2.1 67 = .ok (.iload_n 3, 1) := by decide +kernel
theorem d_N_end_68 : decode m_N_end.2.1 68 = .ok (.iconst 1, 1) := by decide +kernel
theorem d_N_end_69 : decode m_N_end.2.1 69 = .ok (.isub, 1) := by decide +kernel
theorem d_N_end_70 : decode m_N_end.2.1 70 = .ok (.istore_n 3, 1) := by decide +kernel
theorem d_N_end_71 : decode m_N_end.2.1 71 = .ok (.goto 113, 3) := by decide +kernel
theorem d_N_end_74 : decode m_N_end.2.1 74 = .ok (.aload_n 0, 1) := by decide +kernel
theorem d_N_end_75 : decode m_N_end.2.1 75 = .ok (.getfield 43, 3) := by decide +kernel
theorem d_N_end_78 : decode m_N_end.2.1 78 = .ok (.iload 4, 2) := by decide +kernel
theorem d_N_end_80 : decode m_N_end.2.1 80 = .ok (.iaload, 1) := by decide +kernel
theorem d_N_end_81 : decode m_N_end.2.1 81 = .ok (.iload 5, 2) := by decide +kernel
theorem d_N_end_83 : decode m_N_end.2.1 83 = .ok (.ishr, 1) := by decide +kernel
theorem d_N_end_84 : decode m_N_end.2.1 84 = .ok (.iconst 1, 1) := by decide +kernel
theorem d_N_end_85 : decode m_N_end.2.1 85 = .ok (.iand, 1) := by decide +kernel
theorem d_N_end_86 : decode m_N_end.2.1 86 = .ok (.iconst 1, 1) := by decide +kernel
theorem d_N_end_87 : decode m_N_end.2.1 87 = .ok (.if_icmp .ne 97, 3) := by decide +kernel
theorem d_N_end_90 : decode m_N_end.2.1 90 = .ok (.aload_n 0, 1) := by decide +kernel
theorem d_N_end_91 : decode m_N_end.2.1 91 = .ok (.getfield 43, 3) := by decide +kernel
theorem d_N_end_94 : decode m_N_end.2.1 94 = .ok (.iload 4, 2) := by decide +kernel
theorem d_N_end_96 : decode m_N_end.2.1 96 = .ok (.aload_n 0, 1) := by decide +kernel
theorem d_N_end_97 : decode m_N_end.2.1 97 = .ok (.getfield 43, 3) := by decide +kernel
theorem d_N_end_100 : decode m_N_end.2.1 100 = .ok (.iload 4, 2) := by decide +kernel
theorem d_N_end_102 : decode m_N_end.2.1 102 = .ok (.iaload, 1) := by decide +kernel
theorem d_N_end_103 : decode m_N_end.2.1 103 = .ok (.iconst 1, 1) := by decide +kernel
theorem d_N_end_104 : decode m_N_end.2.1 104 = .ok (.iload 5, 2) := by decide +kernel
theorem d_N_end_106 : decode m_N_end.2.1 106 = .ok (.ishl, 1) := by decide +kernel
theorem d_N_end_107 : decode m_N_end.2.1 107 = .ok (.iconst (-1), 1) := by decide +kernel
theorem d_N_end_108 : decode m_N_end.2.1 108 = .ok (.ixor, 1) := by decide +kernel
theorem d_N_end_109 : decode m_N_end.2.1 109 = .ok (.iand, 1) := by decide +kernel
theorem d_N_end_110 : decode m_N_end.2.1 110 = .ok (.iastore, 1) := by decide +kernel
theorem d_N_end_111 : decode m_N_end.2.1 111 = .ok (.aload_n 0, 1) := by decide +kernel
theorem d_N_end_112 : decode m_N_end.2.1 112 = .ok (.getfield 43, 3) := by decide +kernel
theorem d_N_end_115 : decode m_N_end.2.1 115 = .ok (.iload 5, 2) := by decide +kernel
theorem d_N_end_117 : decode m_N_end.2.1 117 = .ok (.aload_n 0, 1) := by decide +kernel
theorem d_N_end_118 : decode m_N_end.2.1 118 = .ok (.getfield 43, 3) := by decide +kernel
theorem d_N_end_121 : decode m_N_end.2.1 121 = .ok (.iload 5, 2) := by decide +kernel
theorem d_N_end_123 : decode m_N_end.2.1 123 = .ok (.iaload, 1) := by decide +kernel
theorem d_N_end_124 : decode m_N_end.2.1 124 = .ok (.iconst 1, 1) := by decide +kernel
theorem d_N_end_125 : decode m_N_end.2.1 125 = .ok (.iload 4, 2) := by decide +kernel
theorem d_N_end_127 : decode m_N_end.2.1 127 = .ok (.ishl, 1) := by decide +kernel
theorem d_N_end_128 : decode m_N_end.2.1 128 = .ok (.iconst (-1), 1) := by decide +kernel
theorem d_N_end_129 : decode m_N_end.2.1 129 = .ok (.ixor, 1) := by decide +kernel
theorem d_N_end_130 : decode m_N_end.2.1 130 = .ok (.iand, 1) := by decide +kernel
theorem d_N_end_131 : decode m_N_end.2.1 131 = .ok (.iastore, 1) := by decide +kernel
theorem d_N_end_132 : decode m_N_end.2.1 132 = .ok (.aload_n 0, 1) := by decide +kernel
theorem d_N_end_133 : decode m_N_end.2.1 133 = .ok (.iload 5, 2) := by decide +kernel
theorem d_N_end_135 : decode m_N_end.2.1 135 = .ok (.iload 4, 2) := by decide +kernel
theorem d_N_end_137 : decode m_N_end.2.1 137 = .ok (.bipush 21, 2) := by decide +kernel
theorem d_N_end_139 : decode m_N_end.2.1 139 = .ok (.iload 4, 2) := by decide +kernel
theorem d_N_end_141 : decode m_N_end.2.1 141 = .ok (.imul, 1) := by decide +kernel
theorem d_N_end_142 : decode m_N_end.2.1 142 = .ok (.bipush 8, 2) := by decide +kernel
theorem d_N_end_144 : decode m_N_end.2.1 144 = .ok (.iadd, 1) := by decide +kernel
theorem d_N_end_145 : decode m_N_end.2.1 145 = .ok (.invokevirtual 134, 3) := by decide +kernel
theorem d_N_end_148 : decode m_N_end.2.1 148 = .ok (.ifCond .eq 36, 3) := by decide +kernel
theorem d_N_end_151 : decode m_N_end.2.1 151 = .ok (.aload_n 0, 1) := by decide +kernel
theorem d_N_end_152 : decode m_N_end.2.1 152 = .ok (.iload 5, 2) := by decide +kernel
theorem d_N_end_154 : decode m_N_end.2.1 154 = .ok (.bipush 21, 2) := by decide +kernel
theorem d_N_end_156 : decode m_N_end.2.1 156 = .ok (.iload 4, 2) := by decide +kernel
theorem d_N_end_158 : decode m_N_end.2.1 158 = .ok (.imul, 1) := by decide +kernel
theorem d_N_end_159 : decode m_N_end.2.1 159 = .ok (.bipush 8, 2) := by decide +kernel
theorem d_N_end_161 : decode m_N_end.2.1 161 = .ok (.iadd, 1) := by decide +kernel
theorem d_N_end_162 : decode m_N_end.2.1 162 = .ok (.invokevirtual 128, 3) := by decide +kernel
theorem d_N_end_165 : decode m_N_end.2.1 165 = .ok (.aload_n 0, 1) := by decide +kernel
theorem d_N_end_166 : decode m_N_end.2.1 166 = .ok (.getfield 56, 3) := by decide +kernel
theorem d_N_end_169 : decode m_N_end.2.1 169 = .ok (.iload_n 3, 1) := by decide +kernel
theorem d_N_end_170 : decode m_N_end.2.1 170 = .ok (.iload 5, 2) := by decide +kernel
theorem d_N_end_172 : decode m_N_end.2.1 172 = .ok (.iastore, 1) := by decide +kernel
theorem d_N_end_173 : decode m_N_end.2.1 173 = .ok (.aload_n 0, 1) := by decide +kernel
theorem d_N_end_174 : decode m_N_end.2.1 174 = .ok (.getfield 59, 3) := by decide +kernel
theorem d_N_end_177 : decode m_N_end.2.1 177 = .ok (.iload_n 3, 1) := by decide +kernel
theorem d_N_end_178 : decode m_N_end.2.1 178 = .ok (.iconst 0, 1) := by decide +kernel
theorem d_N_end_179 : decode m_N_end.2.1 179 = .ok (.iastore, 1) := by decide +kernel
theorem d_N_end_180 : decode m_N_end.2.1 180 = .ok (.iload_n 3, 1) := by decide +kernel
theorem d_N_end_181 : decode m_N_end.2.1 181 = .ok (.iconst 1, 1) := by decide +kernel
theorem d_N_end_182 : decode m_N_end.2.1 182 = .ok (.iadd, 1) := by decide +kernel
theorem d_N_end_183 : decode m_N_end.2.1 183 = .ok (.istore_n 3, 1) := by decide +kernel
theorem d_N_end_184 : decode m_N_end.2.1 184 = .ok (.goto (-162), 3) := by decide +kernel
theorem d_N_end_187 : decode m_N_end.2.1 187 = .ok (.return_, 1) := by decide +kernel
theorem d_N_endBy_0 : decode m_N_endBy.2.1 0 = .ok (.aload_n 0, 1) := by decide +kernel
theorem d_N_endBy_1 : decode m_N_endBy.2.1 1 = .ok (.sipush 252, 3) := by decide +kernel
theorem d_N_endBy_4 : decode m_N_endBy.2.1 4 = .ok (.iconst 1, 1) := by decide +kernel
theorem d_N_endBy_5 : decode m_N_endBy.2.1 5 = .ok (.iload_n 2, 1) := by decide +kernel
theorem d_N_endBy_6 : decode m_N_endBy.2.1 6 = .ok (.invokevirtual 115, 3) := by decide +kernel
theorem d_N_endBy_9 : decode m_N_endBy.2.1 9 = .ok (.aload_n 0, 1) := by decide +kernel
theorem d_N_endBy_10 : decode m_N_endBy.2.1 10 = .ok (.iload_n 1, 1) := by decide +kernel
theorem d_N_endBy_11 : decode m_N_endBy.2.1 11 = .ok (.sipush 252, 3) := by decide +kernel
theorem d_N_endBy_14 : decode m_N_endBy.2.1 14 = .ok (.invokevirtual 137, 3) := by decide +kernel
theorem d_N_endBy_17 : decode m_N_endBy.2.1 17 = .ok (.return_, 1) := by decide +kernel
theorem d_N_start_0 : decode m_N_start.2.1 0 = .ok (.aload_n 0, 1) := by decide +kernel
theorem d_N_start_1 : decode m_N_start.2.1 1 = .ok (.getfield 131, 3) := by decide +kernel
theorem d_N_start_4 : decode m_N_start.2.1 4 = .ok (.istore_n 3, 1) := by decide +kernel
theorem d_N_start_5 : decode m_N_start.2.1 5 = .ok (.aload_n 0, 1) := by decide +kernel
theorem d_N_start_6 : decode m_N_start.2.1 6 = .ok (.aload_n 0, 1) := by decide +kernel
theorem d_N_start_7 : decode m_N_start.2.1 7 = .ok (.getfield 131, 3) := by decide +kernel
theorem d_N_start_10 : decode m_N_start.2.1 10 = .ok (.iconst 1, 1) := by decide +kernel
theorem d_N_start_11 : decode m_N_start.2.1 11 = .ok (.iadd, 1) := by decide +kernel
theorem d_N_start_12 : decode m_N_start.2.1 12 = .ok (.putfield 131, 3) := by decide +kernel
theorem d_N_start_15 : decode m_N_start.2.1 15 = .ok (.iconst 1, 1) := by decide +kernel
theorem d_N_start_16 : decode m_N_start.2.1 16 = .ok (.istore 4, 2) := by decide +kernel
theorem d_N_start_18 : decode m_N_start.2.1 18 = .ok (.iload 4, 2) := by decide +kernel
theorem d_N_start_20 : decode m_N_start.2.1 20 = .ok (.bipush 8, 2) := by decide +kernel
theorem d_N_start_22 : decode m_N_start.2.1 22 = .ok (.if_icmp .ge 22, 3) := by decide +kernel
theorem d_N_start_25 : decode m_N_start.2.1 25 = .ok (.aload_n 0, 1) := by decide +kernel
theorem d_N_start_26 : decode m_N_start.2.1 26 = .ok (.bipush 21, 2) := by decide +kernel
theorem d_N_start_28 : decode m_N_start.2.1 28 = .ok (.iload_n 3, 1) := by decide +kernel
theorem d_N_start_29 : decode m_N_start.2.1 29 = .ok (.imul, 1) := by decide +kernel
theorem d_N_start_30 : decode m_N_start.2.1 30 = .ok (.iload 4, 2) := by decide +kernel
theorem d_N_start_32 : decode m_N_start.2.1 32 = .ok (.iadd, 1) := by decide +kernel
theorem d_N_start_33 : decode m_N_start.2.1 33 = .ok (.iconst 3, 1) := by decide +kernel
theorem d_N_start_34 : decode m_N_start.2.1 34 = .ok (.iconst 0, 1) := by decide +kernel
theorem d_N_start_35 : decode m_N_start.2.1 35 = .ok (.invokevirtual 115, 3) := by decide +kernel
theorem d_N_start_38 : decode m_N_start.2.1 38 = .ok (.iinc 4 1, 3) := by decide +kernel
theorem d_N_start_41 : decode m_N_start.2.1 41 = .ok (.goto (-23), 3) := by decide +kernel
theorem d_N_start_44 : decode m_N_start.2.1 44 = .ok (.aload_n 0, 1) := by decide +kernel
theorem d_N_start_45 : decode m_N_start.2.1 45 = .ok (.iload_n 2, 1) := by decide +kernel
theorem d_N_start_46 : decode m_N_start.2.1 46 = .ok (.bipush 21, 2) := by decide +kernel
theorem d_N_start_48 : decode m_N_start.2.1 48 = .ok (.iload_n 3, 1) := by decide +kernel
theorem d_N_start_49 : decode m_N_start.2.1 49 = .ok (.imul, 1) := by decide +kernel
theorem d_N_start_50 : decode m_N_start.2.1 50 = .ok (.invokevirtual 107, 3) := by decide +kernel
theorem d_N_start_53 : decode m_N_start.2.1 53 = .ok (.aload_n 0, 1) := by decide +kernel
theorem d_N_start_54 : decode m_N_start.2.1 54 = .ok (.getfield 25, 3) := by decide +kernel
theorem d_N_start_57 : decode m_N_start.2.1 57 = .ok (.iload_n 3, 1) := by decide +kernel
theorem d_N_start_58 : decode m_N_start.2.1 58 = .ok (.iconst 1, 1) := by decide +kernel
theorem d_N_start_59 : decode m_N_start.2.1 59 = .ok (.iastore, 1) := by decide +kernel
theorem d_N_start_60 : decode m_N_start.2.1 60 = .ok (.aload_n 0, 1) := by decide +kernel
theorem d_N_start_61 : decode m_N_start.2.1 61 = .ok (.getfield 28, 3) := by decide +kernel
theorem d_N_start_64 : decode m_N_start.2.1 64 = .ok (.iload_n 3, 1) := by decide +kernel
theorem d_N_start_65 : decode m_N_start.2.1 65 = .ok (.iload_n 1, 1) := by decide +kernel
theorem d_N_start_66 : decode m_N_start.2.1 66 = .ok (.iastore, 1) := by decide +kernel
theorem d_N_start_67 : decode m_N_start.2.1 67 = .ok (.aload_n 0, 1) := by decide +kernel
theorem d_N_start_68 : decode m_N_start.2.1 68 = .ok (.getfield 31, 3) := by decide +kernel
theorem d_N_start_71 : decode m_N_start.2.1 71 = .ok (.iload_n 3, 1) := by decide +kernel
theorem d_N_start_72 : decode m_N_start.2.1 72 = .ok (.iconst 0, 1) := by decide +kernel
theorem d_N_start_73 : decode m_N_start.2.1 73 = .ok (.iastore, 1) := by decide +kernel
theorem d_N_start_74 : decode m_N_start.2.1 74 = .ok (.aload_n 0, 1) := by decide +kernel
theorem d_N_start_75 : decode m_N_start.2.1 75 = .ok (.getfield 34, 3) := by decide +kernel
theorem d_N_start_78 : decode m_N_start.2.1 78 = .ok (.iload_n 3, 1) := by decide +kernel
theorem d_N_start_79 : decode m_N_start.2.1 79 = .ok (.iconst 0, 1) := by decide +kernel
theorem d_N_start_80 : decode m_N_start.2.1 80 = .ok (.iastore, 1) := by decide +kernel
theorem d_N_start_81 : decode m_N_start.2.1 81 = .ok (.aload_n 0, 1) := by decide +kernel
theorem d_N_start_82 : decode m_N_start.2.1 82 = .ok (.getfield 37, 3) := by decide +kernel
theorem d_N_start_85 : decode m_N_start.2.1 85 = .ok (.iload_n 3, 1) := by decide +kernel
theorem d_N_start_86 : decode m_N_start.2.1 86 = .ok (.iconst 0, 1) := by decide +kernel
theorem d_N_start_87 : decode m_N_start.2.1 87 = .ok (.iastore, 1) := by decide +kernel
theorem d_N_start_88 : decode m_N_start.2.1 88 = .ok (.aload_n 0, 1) := by decide +kernel
theorem d_N_start_89 : decode m_N_start.2.1 89 = .ok (.getfield 43, 3) := by decide +kernel
theorem d_N_start_92 : decode m_N_start.2.1 92 = .ok (.iload_n 3, 1) := by decide +kernel
theorem d_N_start_93 : decode m_N_start.2.1 93 = .ok (.iconst 0, 1) := by decide +kernel
theorem d_N_start_94 : decode m_N_start.2.1 94 = .ok (.iastore, 1) := by decide +kernel
theorem d_N_start_95 : decode m_N_start.2.1 95 = .ok (.aload_n 0, 1) := by decide +kernel
theorem d_N_start_96 : decode m_N_start.2.1 96 = .ok (.getfield 46, 3) := by decide +kernel
theorem d_N_start_99 : decode m_N_start.2.1 99 = .ok (.iload_n 3, 1) := by decide +kernel
theorem d_N_start_100 : decode m_N_start.2.1 100 = .ok (.iconst 0, 1) := by decide +kernel
theorem d_N_start_101 : decode m_N_start.2.1 101 = .ok (.bastore, 1) := by decide +kernel
theorem d_N_start_102 : decode m_N_start.2.1 102 = .ok (.aload_n 0, 1) := by decide +kernel
theorem d_N_start_103 : decode m_N_start.2.1 103 = .ok (.getfield 50, 3) := by decide +kernel
theorem d_N_start_106 : decode m_N_start.2.1 106 = .ok (.iload_n 3, 1) := by decide +kernel
theorem d_N_start_107 : decode m_N_start.2.1 107 = .ok (.iconst 0, 1) := by decide +kernel
theorem d_N_start_108 : decode m_N_start.2.1 108 = .ok (.iastore, 1) := by decide +kernel
theorem d_N_start_109 : decode m_N_start.2.1 109 = .ok (.aload_n 0, 1) := by decide +kernel
theorem d_N_start_110 : decode m_N_start.2.1 110 = .ok (.iload_n 3, 1) := by decide +kernel
theorem d_N_start_111 : decode m_N_start.2.1 111 = .ok (.invokevirtual 111, 3) := by decide +kernel
theorem d_N_start_114 : decode m_N_start.2.1 114 = .ok (.iload_n 3, 1) := by decide +kernel
theorem d_N_start_115 : decode m_N_start.2.1 115 = .ok (.ireturn, 1) := by decide +kernel
theorem d_N_make_0 : decode m_N_make.2.1 0 = .ok (.iload_n 2, 1) := by decide +kernel
theorem d_N_make_1 : decode m_N_make.2.1 1 = .ok (.ifCond .ne 11, 3) := by decide +kernel
theorem d_N_make_4 : decode m_N_make.2.1 4 = .ok (.aload_n 0, 1) := by decide +kernel
theorem d_N_make_5 : decode m_N_make.2.1 5 = .ok (.iload_n 1, 1) := by decide +kernel
theorem d_N_make_6 : decode m_N_make.2.1 6 = .ok (.iconst 0, 1) := by decide +kernel
theorem d_N_make_7 : decode m_N_make.2.1 7 = .ok (.iload 4, 2) := by decide +kernel
theorem d_N_make_9 : decode m_N_make.2.1 9 = .ok (.invokevirtual 115, 3) := by decide +kernel
theorem d_N_make_12 : decode m_N_make.2.1 12 = .ok (.iload_n 2, 1) := by decide +kernel
theorem d_N_make_13 : decode m_N_make.2.1 13 = .ok (.iconst 1, 1) := by decide +kernel
theorem d_N_make_14 : decode m_N_make.2.1 14 = .ok (.if_icmp .ne 11, 3) := by decide +kernel
theorem d_N_make_17 : decode m_N_make.2.1 17 = .ok (.aload_n 0, 1) := by decide +kernel
theorem d_N_make_18 : decode m_N_make.2.1 18 = .ok (.iload_n 1, 1) := by decide +kernel
theorem d_N_make_19 : decode m_N_make.2.1 19 = .ok (.iconst 1, 1) := by decide +kernel
theorem d_N_make_20 : decode m_N_make.2.1 20 = .ok (.iload 4, 2) := by decide +kernel
theorem d_N_make_22 : decode m_N_make.2.1 22 = .ok (.invokevirtual 115, 3) := by decide +kernel
theorem d_N_make_25 : decode m_N_make.2.1 25 = .ok (.iload_n 2, 1) := by decide +kernel
theorem d_N_make_26 : decode m_N_make.2.1 26 = .ok (.iconst 2, 1) := by decide +kernel
theorem d_N_make_27 : decode m_N_make.2.1 27 = .ok (.if_icmp .ne 12, 3) := by decide +kernel
theorem d_N_make_30 : decode m_N_make.2.1 30 = .ok (.aload_n 0, 1) := by decide +kernel
theorem d_N_make_31 : decode m_N_make.2.1 31 = .ok (.iload_n 3, 1) := by decide +kernel
theorem d_N_make_32 : decode m_N_make.2.1 32 = .ok (.iload 4, 2) := by decide +kernel
theorem d_N_make_34 : decode m_N_make.2.1 34 = .ok (.iadd, 1) := by decide +kernel
theorem d_N_make_35 : decode m_N_make.2.1 35 = .ok (.iload_n 1, 1) := by decide +kernel
theorem d_N_make_36 : decode m_N_make.2.1 36 = .ok (.invokevirtual 107, 3) := by decide +kernel
theorem d_N_make_39 : decode m_N_make.2.1 39 = .ok (.iload_n 2, 1) := by decide +kernel
theorem d_N_make_40 : decode m_N_make.2.1 40 = .ok (.iconst 3, 1) := by decide +kernel
theorem d_N_make_41 : decode m_N_make.2.1 41 = .ok (.if_icmp .ne 13, 3) := by decide +kernel
theorem d_N_make_44 : decode m_N_make.2.1 44 = .ok (.aload_n 0, 1) := by decide +kernel
theorem d_N_make_45 : decode m_N_make.2.1 45 = .ok (.iload_n 1, 1) := by decide +kernel
theorem d_N_make_46 : decode m_N_make.2.1 46 = .ok (.iconst 2, 1) := by decide +kernel
theorem d_N_make_47 : decode m_N_make.2.1 47 = .ok (.iload_n 3, 1) := by decide +kernel
theorem d_N_make_48 : decode m_N_make.2.1 48 = .ok (.bipush 21, 2) := by decide +kernel
theorem d_N_make_50 : decode m_N_make.2.1 50 = .ok (.idiv, 1) := by decide +kernel
theorem d_N_make_51 : decode m_N_make.2.1 51 = .ok (.invokevirtual 115, 3) := by decide +kernel
theorem d_N_make_54 : decode m_N_make.2.1 54 = .ok (.iload_n 2, 1) := by decide +kernel
theorem d_N_make_55 : decode m_N_make.2.1 55 = .ok (.iconst 4, 1) := by decide +kernel
theorem d_N_make_56 : decode m_N_make.2.1 56 = .ok (.if_icmp .ne 10, 3) := by decide +kernel
theorem d_N_make_59 : decode m_N_make.2.1 59 = .ok (.aload_n 0, 1) := by decide +kernel
theorem d_N_make_60 : decode m_N_make.2.1 60 = .ok (.iload_n 1, 1) := by decide +kernel
theorem d_N_make_61 : decode m_N_make.2.1 61 = .ok (.iconst 3, 1) := by decide +kernel
theorem d_N_make_62 : decode m_N_make.2.1 62 = .ok (.iconst 0, 1) := by decide +kernel
theorem d_N_make_63 : decode m_N_make.2.1 63 = .ok (.invokevirtual 115, 3) := by decide +kernel
theorem d_N_make_66 : decode m_N_make.2.1 66 = .ok (.iload_n 2, 1) := by decide +kernel
theorem d_N_make_67 : decode m_N_make.2.1 67 = .ok (.iconst 5, 1) := by decide +kernel
theorem d_N_make_68 : decode m_N_make.2.1 68 = .ok (.if_icmp .ge 5, 3) := by decide +kernel
theorem d_N_make_71 : decode m_N_make.2.1 71 = .ok (.iconst 1, 1) := by decide +kernel
theorem d_N_make_72 : decode m_N_make.2.1 72 = .ok (.ireturn, 1) := by decide +kernel
theorem d_N_make_73 : decode m_N_make.2.1 73 = .ok (.iload_n 3, 1) := by decide +kernel
theorem d_N_make_74 : decode m_N_make.2.1 74 = .ok (.iload 4, 2) := by decide +kernel
theorem d_N_make_76 : decode m_N_make.2.1 76 = .ok (.iadd, 1) := by decide +kernel
theorem d_N_make_77 : decode m_N_make.2.1 77 = .ok (.istore 6, 2) := by decide +kernel
theorem d_N_make_79 : decode m_N_make.2.1 79 = .ok (.iload_n 3, 1) := by decide +kernel
theorem d_N_make_80 : decode m_N_make.2.1 80 = .ok (.iload 5, 2) := by decide +kernel
theorem d_N_make_82 : decode m_N_make.2.1 82 = .ok (.iadd, 1) := by decide +kernel
theorem d_N_make_83 : decode m_N_make.2.1 83 = .ok (.istore 7, 2) := by decide +kernel
theorem d_N_make_85 : decode m_N_make.2.1 85 = .ok (.iload_n 2, 1) := by decide +kernel
theorem d_N_make_86 : decode m_N_make.2.1 86 = .ok (.bipush 7, 2) := by decide +kernel
theorem d_N_make_88 : decode m_N_make.2.1 88 = .ok (.if_icmp .ge 83, 3) := by decide +kernel
theorem d_N_make_91 : decode m_N_make.2.1 91 = .ok (.aload_n 0, 1) := by decide +kernel
theorem d_N_make_92 : decode m_N_make.2.1 92 = .ok (.iload 6, 2) := by decide +kernel
theorem d_N_make_94 : decode m_N_make.2.1 94 = .ok (.invokevirtual 77, 3) := by decide +kernel
theorem d_N_make_97 : decode m_N_make.2.1 97 = .ok (.aload_n 0, 1) := by decide +kernel
theorem d_N_make_98 : decode m_N_make.2.1 98 = .ok (.iload 7, 2) := by decide +kernel
theorem d_N_make_100 : decode m_N_make.2.1 100 = .ok (.invokevirtual 77, 3) := by decide +kernel
theorem d_N_make_103 : decode m_N_make.2.1 103 = .ok (.iadd, 1) := by decide +kernel
theorem d_N_make_104 : decode m_N_make.2.1 104 = .ok (.bipush 14, 2) := by decide +kernel
theorem d_N_make_106 : decode m_N_make.2.1 106 = .ok (.if_icmp .le 5, 3) := by decide +kernel
theorem d_N_make_109 : decode m_N_make.2.1 109 = .ok (.iconst 0, 1) := by decide +kernel
theorem d_N_make_110 : decode m_N_make.2.1 110 = .ok (.ireturn, 1) := by decide +kernel
theorem d_N_make_111 : decode m_N_make.2.1 111 = .ok (.aload_n 0, 1) := by decide +kernel
theorem d_N_make_112 : decode m_N_make.2.1 112 = .ok (.sipush 252, 3) := by decide +kernel
theorem d_N_make_115 : decode m_N_make.2.1 115 = .ok (.iload_n 2, 1) := by decide +kernel
theorem d_N_make_116 : decode m_N_make.2.1 116 = .ok (.iconst 5, 1) := by decide +kernel
theorem d_N_make_117 : decode m_N_make.2.1 117 = .ok (.if_icmp .ne 7, 3) := by decide +kernel
theorem d_N_make_120 : decode m_N_make.2.1 120 = .ok (.iconst 4, 1) := by decide +kernel
theorem d_N_make_121 : decode m_N_make.2.1 121 = .ok (.goto 4, 3) := by decide +kernel
theorem d_N_make_124 : decode m_N_make.2.1 124 = .ok (.iconst 5, 1) := by decide +kernel
theorem d_N_make_125 : decode m_N_make.2.1 125 = .ok (.iconst 0, 1) := by decide +kernel
theorem d_N_make_126 : decode m_N_make.2.1 126 = .ok (.invokevirtual 115, 3) := by decide +kernel
theorem d_N_make_129 : decode m_N_make.2.1 129 = .ok (.aload_n 0, 1) := by decide +kernel
theorem d_N_make_130 : decode m_N_make.2.1 130 = .ok (.sipush 252, 3) := by decide +kernel
theorem d_N_make_133 : decode m_N_make.2.1 133 = .ok (.iload 6, 2) := by decide +kernel
theorem d_N_make_135 : decode m_N_make.2.1 135 = .ok (.iconst 0, 1) := by decide +kernel
theorem d_N_make_136 : decode m_N_make.2.1 136 = .ok (.aload_n 0, 1) := by decide +kernel
theorem d_N_make_137 : decode m_N_make.2.1 137 = .ok (.iload 6, 2) := by decide +kernel
theorem d_N_make_139 : decode m_N_make.2.1 139 = .ok (.invokevirtual 77, 3) := by decide +kernel
theorem d_N_make_142 : decode m_N_make.2.1 142 = .ok (.invokevirtual 118, 3) := by decide +kernel
theorem d_N_make_145 : decode m_N_make.2.1 145 = .ok (.aload_n 0, 1) := by decide +kernel
theorem d_N_make_146 : decode m_N_make.2.1 146 = .ok (.sipush 252, 3) := by decide +kernel
theorem d_N_make_149 : decode m_N_make.2.1 149 = .ok (.iload 7, 2) := by decide +kernel
theorem d_N_make_151 : decode m_N_make.2.1 151 = .ok (.iconst 0, 1) := by decide +kernel
theorem d_N_make_152 : decode m_N_make.2.1 152 = .ok (.aload_n 0, 1) := by decide +kernel
theorem d_N_make_153 : decode m_N_make.2.1 153 = .ok (.iload 7, 2) := by decide +kernel
theorem d_N_make_155 : decode m_N_make.2.1 155 = .ok (.invokevirtual 77, 3) := by decide +kernel
theorem d_N_make_158 : decode m_N_make.2.1 158 = .ok (.invokevirtual 118, 3) := by decide +kernel
theorem d_N_make_161 : decode m_N_make.2.1 161 = .ok (.aload_n 0, 1) := by decide +kernel
theorem d_N_make_162 : decode m_N_make.2.1 162 = .ok (.sipush 252, 3) := by decide +kernel
theorem d_N_make_165 : decode m_N_make.2.1 165 = .ok (.iload_n 1, 1) := by decide +kernel
theorem d_N_make_166 : decode m_N_make.2.1 166 = .ok (.invokevirtual 107, 3) := by decide +kernel
theorem d_N_make_169 : decode m_N_make.2.1 169 = .ok (.iconst 1, 1) := by decide +kernel
theorem d_N_make_170 : decode m_N_make.2.1 170 = .ok (.ireturn, 1) := by decide +kernel
theorem d_N_make_171 : decode m_N_make.2.1 171 = .ok (.iload_n 2, 1) := by decide +kernel
theorem d_N_make_172 : decode m_N_make.2.1 172 = .ok (.bipush 9, 2) := by decide +kernel
theorem d_N_make_174 : decode m_N_make.2.1 174 = .ok (.if_icmp .ge 81, 3) := by decide +kernel
theorem d_N_make_177 : decode m_N_make.2.1 177 = .ok (.aload_n 0, 1) := by decide +kernel
theorem d_N_make_178 : decode m_N_make.2.1 178 = .ok (.iload 6, 2) := by decide +kernel
theorem d_N_make_180 : decode m_N_make.2.1 180 = .ok (.invokevirtual 77, 3) := by decide +kernel
theorem d_N_make_183 : decode m_N_make.2.1 183 = .ok (.iconst 1, 1) := by decide +kernel
theorem d_N_make_184 : decode m_N_make.2.1 184 = .ok (.if_icmp .ne 5, 3) := by decide +kernel
theorem d_N_make_187 : decode m_N_make.2.1 187 = .ok (.iconst 0, 1) := by decide +kernel
theorem d_N_make_188 : decode m_N_make.2.1 188 = .ok (.ireturn, 1) := by decide +kernel
theorem d_N_make_189 : decode m_N_make.2.1 189 = .ok (.aload_n 0, 1) := by decide +kernel
theorem d_N_make_190 : decode m_N_make.2.1 190 = .ok (.iload 6, 2) := by decide +kernel
theorem d_N_make_192 : decode m_N_make.2.1 192 = .ok (.iconst 1, 1) := by decide +kernel
theorem d_N_make_193 : decode m_N_make.2.1 193 = .ok (.invokevirtual 140, 3) := by decide +kernel
theorem d_N_make_196 : decode m_N_make.2.1 196 = .ok (.istore 8, 2) := by decide +kernel
theorem d_N_make_198 : decode m_N_make.2.1 198 = .ok (.aload_n 0, 1) := by decide +kernel
theorem d_N_make_199 : decode m_N_make.2.1 199 = .ok (.getfield 22, 3) := by decide +kernel
theorem d_N_make_202 : decode m_N_make.2.1 202 = .ok (.sipush 8064, 3) := by decide +kernel
theorem d_N_make_205 : decode m_N_make.2.1 205 = .ok (.iconst 0, 1) := by decide +kernel
theorem d_N_make_206 : decode m_N_make.2.1 206 = .ok (.iastore, 1) := by decide +kernel
theorem d_N_make_207 : decode m_N_make.2.1 207 = .ok (.aload_n 0, 1) := by decide +kernel
theorem d_N_make_208 : decode m_N_make.2.1 208 = .ok (.sipush 252, 3) := by decide +kernel
theorem d_N_make_211 : decode m_N_make.2.1 211 = .ok (.iload 6, 2) := by decide +kernel
theorem d_N_make_213 : decode m_N_make.2.1 213 = .ok (.iload_n 2, 1) := by decide +kernel
theorem d_N_make_214 : decode m_N_make.2.1 214 = .ok (.bipush 7, 2) := by decide +kernel
theorem d_N_make_216 : decode m_N_make.2.1 216 = .ok (.if_icmp .ne 7, 3) := by decide +kernel
theorem d_N_make_219 : decode m_N_make.2.1 219 = .ok (.iconst 1, 1) := by decide +kernel
theorem d_N_make_220 : decode m_N_make.2.1 220 = .ok (.goto 5, 3) := by decide +kernel
theorem d_N_make_223 : decode m_N_make.2.1 223 = .ok (.iload 8, 2) := by decide +kernel
theorem d_N_make_225 : decode m_N_make.2.1 225 = .ok (.iload_n 2, 1) := by decide +kernel
theorem d_N_make_226 : decode m_N_make.2.1 226 = .ok (.bipush 7, 2) := by decide +kernel
theorem d_N_make_228 : decode m_N_make.2.1 228 = .ok (.if_icmp .ne 8, 3) := by decide +kernel
theorem d_N_make_231 : decode m_N_make.2.1 231 = .ok (.iload 8, 2) := by decide +kernel
theorem d_N_make_233 : decode m_N_make.2.1 233 = .ok (.goto 9, 3) := by decide +kernel
theorem d_N_make_236 : decode m_N_make.2.1 236 = .ok (.aload_n 0, 1) := by decide +kernel
theorem d_N_make_237 : decode m_N_make.2.1 237 = .ok (.iload 6, 2) := by decide +kernel
theorem d_N_make_239 : decode m_N_make.2.1 239 = .ok (.invokevirtual 77, 3) := by decide +kernel
theorem d_N_make_242 : decode m_N_make.2.1 242 = .ok (.invokevirtual 118, 3) := by decide +kernel
theorem d_N_make_245 : decode m_N_make.2.1 245 = .ok (.aload_n 0, 1) := by decide +kernel
theorem d_N_make_246 : decode m_N_make.2.1 246 = .ok (.sipush 252, 3) := by decide +kernel
theorem d_N_make_249 : decode m_N_make.2.1 249 = .ok (.iload_n 1, 1) := by decide +kernel
theorem d_N_make_250 : decode m_N_make.2.1 250 = .ok (.invokevirtual 107, 3) := by decide +kernel
theorem d_N_make_253 : decode m_N_make.2.1 253 = .ok (.iconst 1, 1) := by decide +kernel
theorem d_N_make_254 : decode m_N_make.2.1 254 = .ok (.ireturn, 1) := by decide +kernel
theorem d_N_make_255 : decode m_N_make.2.1 255 = .ok (.aload_n 0, 1) := by decide +kernel
theorem d_N_make_256 : decode m_N_make.2.1 256 = .ok (.iload 6, 2) := by decide +kernel
theorem d_N_make_258 : decode m_N_make.2.1 258 = .ok (.iconst 0, 1) := by decide +kernel
theorem d_N_make_259 : decode m_N_make.2.1 259 = .ok (.invokevirtual 66, 3) := by decide +kernel
theorem d_N_make_262 : decode m_N_make.2.1 262 = .ok (.ifCond .ne 13, 3) := by decide +kernel
theorem d_N_make_265 : decode m_N_make.2.1 265 = .ok (.aload_n 0, 1) := by decide +kernel
theorem d_N_make_266 : decode m_N_make.2.1 266 = .ok (.iload 7, 2) := by decide +kernel
theorem d_N_make_268 : decode m_N_make.2.1 268 = .ok (.iconst 0, 1) := by decide +kernel
theorem d_N_make_269 : decode m_N_make.2.1 269 = .ok (.invokevirtual 66, 3) := by decide +kernel
theorem d_N_make_272 : decode m_N_make.2.1 272 = .ok (.ifCond .eq 5, 3) := by decide +kernel
theorem d_N_make_275 : decode m_N_make.2.1 275 = .ok (.iconst 0, 1) := by decide +kernel
theorem d_N_make_276 : decode m_N_make.2.1 276 = .ok (.ireturn, 1) := by decide +kernel
theorem d_N_make_277 : decode m_N_make.2.1 277 = .ok (.aload_n 0, 1) := by decide +kernel
theorem d_N_make_278 : decode m_N_make.2.1 278 = .ok (.iload_n 1, 1) := by decide +kernel
theorem d_N_make_279 : decode m_N_make.2.1 279 = .ok (.iconst 0, 1) := by decide +kernel
theorem d_N_make_280 : decode m_N_make.2.1 280 = .ok (.iload_n 2, 1) := by decide +kernel
theorem d_N_make_281 : decode m_N_make.2.1 281 = .ok (.bipush 9, 2) := by decide +kernel
theorem d_N_make_283 : decode m_N_make.2.1 283 = .ok (.if_icmp .ne 21, 3) := by decide +kernel
theorem d_N_make_286 : decode m_N_make.2.1 286 = .ok (.aload_n 0, 1) := by decide +kernel
theorem d_N_make_287 : decode m_N_make.2.1 287 = .ok (.iload 6, 2) := by decide +kernel
theorem d_N_make_289 : decode m_N_make.2.1 289 = .ok (.iconst 0, 1) := by decide +kernel
theorem d_N_make_290 : decode m_N_make.2.1 290 = .ok (.invokevirtual 70, 3) := by decide +kernel
theorem d_N_make_293 : decode m_N_make.2.1 293 = .ok (.aload_n 0, 1) := by decide +kernel
theorem d_N_make_294 : decode m_N_make.2.1 294 = .ok (.iload 7, 2) := by decide +kernel
theorem d_N_make_296 : decode m_N_make.2.1 296 = .ok (.iconst 0, 1) := by decide +kernel
theorem d_N_make_297 : decode m_N_make.2.1 297 = .ok (.invokevirtual 70, 3) := by decide +kernel
theorem d_N_make_300 : decode m_N_make.2.1 300 = .ok (.iadd, 1) := by decide +kernel
theorem d_N_make_301 : decode m_N_make.2.1 301 = .ok (.goto 18, 3) := by decide +kernel
theorem d_N_make_304 : decode m_N_make.2.1 304 = .ok (.aload_n 0, 1) := by decide +kernel
theorem d_N_make_305 : decode m_N_make.2.1 305 = .ok (.iload 6, 2) := by decide +kernel
theorem d_N_make_307 : decode m_N_make.2.1 307 = .ok (.iconst 0, 1) := by decide +kernel
theorem d_N_make_308 : decode m_N_make.2.1 308 = .ok (.invokevirtual 70, 3) := by decide +kernel
theorem d_N_make_311 : decode m_N_make.2.1 311 = .ok (.aload_n 0, 1) := by decide +kernel
theorem d_N_make_312 : decode m_N_make.2.1 312 = .ok (.iload 7, 2) := by decide +kernel
theorem d_N_make_314 : decode m_N_make.2.1 314 = .ok (.iconst 0, 1) := by decide +kernel
theorem d_N_make_315 : decode m_N_make.2.1 315 = .ok (.invokevirtual 70, 3) := by decide +kernel
theorem d_N_make_318 : decode m_N_make.2.1 318 = .ok (.isub, 1) := by decide +kernel
theorem d_N_make_319 : decode m_N_make.2.1 319 = .ok (.invokevirtual 115, 3) := by decide +kernel
theorem d_N_make_322 : decode m_N_make.2.1 322 = .ok (.iconst 1, 1) := by decide +kernel
theorem d_N_make_323 : decode m_N_make.2.1 323 = .ok (.ireturn, 1) := by decide +kernel
theorem d_N_branch_0 : decode m_N_branch.2.1 0 = .ok (.bipush 21, 2) := by decide +kernel
theorem d_N_branch_2 : decode m_N_branch.2.1 2 = .ok (.iload_n 1, 1) := by decide +kernel
theorem d_N_branch_3 : decode m_N_branch.2.1 3 = .ok (.imul, 1) := by decide +kernel
theorem d_N_branch_4 : decode m_N_branch.2.1 4 = .ok (.iload_n 3, 1) := by decide +kernel
theorem d_N_branch_5 : decode m_N_branch.2.1 5 = .ok (.iadd, 1) := by decide +kernel
theorem d_N_branch_6 : decode m_N_branch.2.1 6 = .ok (.istore 6, 2) := by decide +kernel
theorem d_N_branch_8 : decode m_N_branch.2.1 8 = .ok (.bipush 21, 2) := by decide +kernel
theorem d_N_branch_10 : decode m_N_branch.2.1 10 = .ok (.iload_n 1, 1) := by decide +kernel
theorem d_N_branch_11 : decode m_N_branch.2.1 11 = .ok (.imul, 1) := by decide +kernel
theorem d_N_branch_12 : decode m_N_branch.2.1 12 = .ok (.iload 4, 2) := by decide +kernel
theorem d_N_branch_14 : decode m_N_branch.2.1 14 = .ok (.iadd, 1) := by decide +kernel
theorem d_N_branch_15 : decode m_N_branch.2.1 15 = .ok (.istore 7, 2) := by decide +kernel
theorem d_N_branch_17 : decode m_N_branch.2.1 17 = .ok (.iload_n 2, 1) := by decide +kernel
theorem d_N_branch_18 : decode m_N_branch.2.1 18 = .ok (.bipush 11, 2) := by decide +kernel
theorem d_N_branch_20 : decode m_N_branch.2.1 20 = .ok (.if_icmp .ne 50, 3) := by decide +kernel
theorem d_N_branch_23 : decode m_N_branch.2.1 23 = .ok (.aload_n 0, 1) := by decide +kernel
theorem d_N_branch_24 : decode m_N_branch.2.1 24 = .ok (.iload 6, 2) := by decide +kernel
theorem d_N_branch_26 : decode m_N_branch.2.1 26 = .ok (.iconst 0, 1) := by decide +kernel
theorem d_N_branch_27 : decode m_N_branch.2.1 27 = .ok (.invokevirtual 66, 3) := by decide +kernel
theorem d_N_branch_30 : decode m_N_branch.2.1 30 = .ok (.ifCond .ne 13, 3) := by decide +kernel
theorem d_N_branch_33 : decode m_N_branch.2.1 33 = .ok (.aload_n 0, 1) := by decide +kernel
theorem d_N_branch_34 : decode m_N_branch.2.1 34 = .ok (.iload 7, 2) := by decide +kernel
theorem d_N_branch_36 : decode m_N_branch.2.1 36 = .ok (.iconst 0, 1) := by decide +kernel
theorem d_N_branch_37 : decode m_N_branch.2.1 37 = .ok (.invokevirtual 66, 3) := by decide +kernel
theorem d_N_branch_40 : decode m_N_branch.2.1 40 = .ok (.ifCond .eq 5, 3) := by decide +kernel
theorem d_N_branch_43 : decode m_N_branch.2.1 43 = .ok (.iconst 0, 1) := by decide +kernel
theorem d_N_branch_44 : decode m_N_branch.2.1 44 = .ok (.ireturn, 1) := by decide +kernel
theorem d_N_branch_45 : decode m_N_branch.2.1 45 = .ok (.aload_n 0, 1) := by decide +kernel
theorem d_N_branch_46 : decode m_N_branch.2.1 46 = .ok (.iload 6, 2) := by decide +kernel
theorem d_N_branch_48 : decode m_N_branch.2.1 48 = .ok (.iconst 0, 1) := by decide +kernel
theorem d_N_branch_49 : decode m_N_branch.2.1 49 = .ok (.invokevirtual 70, 3) := by decide +kernel
theorem d_N_branch_52 : decode m_N_branch.2.1 52 = .ok (.aload_n 0, 1) := by decide +kernel
theorem d_N_branch_53 : decode m_N_branch.2.1 53 = .ok (.iload 7, 2) := by decide +kernel
theorem d_N_branch_55 : decode m_N_branch.2.1 55 = .ok (.iconst 0, 1) := by decide +kernel
theorem d_N_branch_56 : decode m_N_branch.2.1 56 = .ok (.invokevirtual 70, 3) := by decide +kernel
theorem d_N_branch_59 : decode m_N_branch.2.1 59 = .ok (.if_icmp .lt 11, 3) := by decide +kernel
theorem d_N_branch_62 : decode m_N_branch.2.1 62 = .ok (.aload_n 0, 1) := by decide +kernel
theorem d_N_branch_63 : decode m_N_branch.2.1 63 = .ok (.getfield 28, 3) := by decide +kernel
theorem d_N_branch_66 : decode m_N_branch.2.1 66 = .ok (.iload_n 1, 1) := by decide +kernel
theorem d_N_branch_67 : decode m_N_branch.2.1 67 = .ok (.iload 5, 2) := by decide +kernel
theorem d_N_branch_69 : decode m_N_branch.2.1 69 = .ok (.iastore, 1) := by decide +kernel
theorem d_N_branch_70 : decode m_N_branch.2.1 70 = .ok (.iload_n 2, 1) := by decide +kernel
theorem d_N_branch_71 : decode m_N_branch.2.1 71 = .ok (.bipush 12, 2) := by decide +kernel
theorem d_N_branch_73 : decode m_N_branch.2.1 73 = .ok (.if_icmp .ne 22, 3) := by decide +kernel
theorem d_N_branch_76 : decode m_N_branch.2.1 76 = .ok (.aload_n 0, 1) := by decide +kernel
theorem d_N_branch_77 : decode m_N_branch.2.1 77 = .ok (.iload 6, 2) := by decide +kernel
theorem d_N_branch_79 : decode m_N_branch.2.1 79 = .ok (.iload 7, 2) := by decide +kernel
theorem d_N_branch_81 : decode m_N_branch.2.1 81 = .ok (.invokevirtual 143, 3) := by decide +kernel
theorem d_N_branch_84 : decode m_N_branch.2.1 84 = .ok (.ifCond .ne 11, 3) := by decide +kernel
theorem d_N_branch_87 : decode m_N_branch.2.1 87 = .ok (.aload_n 0, 1) := by decide +kernel
theorem d_N_branch_88 : decode m_N_branch.2.1 88 = .ok (.getfield 28, 3) := by decide +kernel
theorem d_N_branch_91 : decode m_N_branch.2.1 91 = .ok (.iload_n 1, 1) := by decide +kernel
theorem d_N_branch_92 : decode m_N_branch.2.1 92 = .ok (.iload 5, 2) := by decide +kernel
theorem d_N_branch_94 : decode m_N_branch.2.1 94 = .ok (.iastore, 1) := by decide +kernel
theorem d_N_branch_95 : decode m_N_branch.2.1 95 = .ok (.iload_n 2, 1) := by decide +kernel
theorem d_N_branch_96 : decode m_N_branch.2.1 96 = .ok (.bipush 13, 2) := by decide +kernel
theorem d_N_branch_98 : decode m_N_branch.2.1 98 = .ok (.if_icmp .ne 23, 3) := by decide +kernel
theorem d_N_branch_101 : decode m_N_branch.2.1 101 = .ok (.aload_n 0, 1) := by decide +kernel
theorem d_N_branch_102 : decode m_N_branch.2.1 102 = .ok (.iload 6, 2) := by decide +kernel
theorem d_N_branch_104 : decode m_N_branch.2.1 104 = .ok (.iconst 0, 1) := by decide +kernel
theorem d_N_branch_105 : decode m_N_branch.2.1 105 = .ok (.invokevirtual 66, 3) := by decide +kernel
theorem d_N_branch_108 : decode m_N_branch.2.1 108 = .ok (.iload 4, 2) := by decide +kernel
theorem d_N_branch_110 : decode m_N_branch.2.1 110 = .ok (.if_icmp .eq 11, 3) := by decide +kernel
theorem d_N_branch_113 : decode m_N_branch.2.1 113 = .ok (.aload_n 0, 1) := by decide +kernel
end
section
/-! Decode rows (printed by wip/gen/dec.py). -/
theorem d_N_branch_114 : decode m_N_branch.2.1 114 = .ok (.getfield 28, 3) := by decide +kernel
theorem d_N_branch_117 : decode m_N_branch.2.1 117 = .ok (.iload_n 1, 1) := by decide +kernel
theorem d_N_branch_118 : decode m_N_branch.2.1 118 = .ok (.iload 5, 2) := by decide +kernel
theorem d_N_branch_120 : decode m_N_branch.2.1 120 = .ok (.iastore, 1) := by decide +kernel
theorem d_N_branch_121 : decode m_N_branch.2.1 121 = .ok (.iload_n 2, 1) := by decide +kernel
theorem d_N_branch_122 : decode m_N_branch.2.1 122 = .ok (.bipush 15, 2) := by decide +kernel
theorem d_N_branch_124 : decode m_N_branch.2.1 124 = .ok (.if_icmp .ne 52, 3) := by decide +kernel
theorem d_N_branch_127 : decode m_N_branch.2.1 127 = .ok (.aload_n 0, 1) := by decide +kernel
theorem d_N_branch_128 : decode m_N_branch.2.1 128 = .ok (.getfield 37, 3) := by decide +kernel
theorem d_N_branch_131 : decode m_N_branch.2.1 131 = .ok (.iload_n 1, 1) := by decide +kernel
theorem d_N_branch_132 : decode m_N_branch.2.1 132 = .ok (.iaload, 1) := by decide +kernel
theorem d_N_branch_133 : decode m_N_branch.2.1 133 = .ok (.bipush 6, 2) := by decide +kernel
theorem d_N_branch_135 : decode m_N_branch.2.1 135 = .ok (.if_icmp .lt 5, 3) := by decide +kernel
theorem d_N_branch_138 : decode m_N_branch.2.1 138 = .ok (.iconst 0, 1) := by decide +kernel
theorem d_N_branch_139 : decode m_N_branch.2.1 139 = .ok (.ireturn, 1) := by decide +kernel
theorem d_N_branch_140 : decode m_N_branch.2.1 140 = .ok (.aload_n 0, 1) := by decide +kernel
theorem d_N_branch_141 : decode m_N_branch.2.1 141 = .ok (.getfield 40, 3) := by decide +kernel
theorem d_N_branch_144 : decode m_N_branch.2.1 144 = .ok (.bipush 6, 2) := by decide +kernel
theorem d_N_branch_146 : decode m_N_branch.2.1 146 = .ok (.iload_n 1, 1) := by decide +kernel
theorem d_N_branch_147 : decode m_N_branch.2.1 147 = .ok (.imul, 1) := by decide +kernel
theorem d_N_branch_148 : decode m_N_branch.2.1 148 = .ok (.aload_n 0, 1) := by decide +kernel
theorem d_N_branch_149 : decode m_N_branch.2.1 149 = .ok (.getfield 37, 3) := by decide +kernel
theorem d_N_branch_152 : decode m_N_branch.2.1 152 = .ok (.iload_n 1, 1) := by decide +kernel
theorem d_N_branch_153 : decode m_N_branch.2.1 153 = .ok (.iaload, 1) := by decide +kernel
theorem d_N_branch_154 : decode m_N_branch.2.1 154 = .ok (.iadd, 1) := by decide +kernel
theorem d_N_branch_155 : decode m_N_branch.2.1 155 = .ok (.aload_n 0, 1) := by decide +kernel
theorem d_N_branch_156 : decode m_N_branch.2.1 156 = .ok (.getfield 28, 3) := by decide +kernel
theorem d_N_branch_159 : decode m_N_branch.2.1 159 = .ok (.iload_n 1, 1) := by decide +kernel
theorem d_N_branch_160 : decode m_N_branch.2.1 160 = .ok (.iaload, 1) := by decide +kernel
theorem d_N_branch_161 : decode m_N_branch.2.1 161 = .ok (.iastore, 1) := by decide +kernel
theorem d_N_branch_162 : decode m_N_branch.2.1 162 = .ok (.aload_n 0, 1) := by decide +kernel
theorem d_N_branch_163 : decode m_N_branch.2.1 163 = .ok (.getfield 37, 3) := by decide +kernel
theorem d_N_branch_166 : decode m_N_branch.2.1 166 = .ok (.iload_n 1, 1) := by decide +kernel
theorem d_N_branch_167 : decode m_N_branch.2.1 167 = .ok (.aload_n 0, 1) := by decide +kernel
theorem d_N_branch_168 : decode m_N_branch.2.1 168 = .ok (.getfield 37, 3) := by decide +kernel
theorem d_N_branch_171 : decode m_N_branch.2.1 171 = .ok (.iload_n 1, 1) := by decide +kernel
theorem d_N_branch_172 : decode m_N_branch.2.1 172 = .ok (.iaload, 1) := by decide +kernel
theorem d_N_branch_173 : decode m_N_branch.2.1 173 = .ok (.iconst 1, 1) := by decide +kernel
theorem d_N_branch_174 : decode m_N_branch.2.1 174 = .ok (.iadd, 1) := by decide +kernel
theorem d_N_branch_175 : decode m_N_branch.2.1 175 = .ok (.iastore, 1) := by decide +kernel
theorem d_N_branch_176 : decode m_N_branch.2.1 176 = .ok (.iload_n 2, 1) := by decide +kernel
theorem d_N_branch_177 : decode m_N_branch.2.1 177 = .ok (.bipush 14, 2) := by decide +kernel
theorem d_N_branch_179 : decode m_N_branch.2.1 179 = .ok (.if_icmp .eq 9, 3) := by decide +kernel
theorem d_N_branch_182 : decode m_N_branch.2.1 182 = .ok (.iload_n 2, 1) := by decide +kernel
theorem d_N_branch_183 : decode m_N_branch.2.1 183 = .ok (.bipush 15, 2) := by decide +kernel
theorem d_N_branch_185 : decode m_N_branch.2.1 185 = .ok (.if_icmp .ne 10, 3) := by decide +kernel
theorem d_N_branch_188 : decode m_N_branch.2.1 188 = .ok (.aload_n 0, 1) := by decide +kernel
theorem d_N_branch_189 : decode m_N_branch.2.1 189 = .ok (.getfield 28, 3) := by decide +kernel
theorem d_N_branch_192 : decode m_N_branch.2.1 192 = .ok (.iload_n 1, 1) := by decide +kernel
theorem d_N_branch_193 : decode m_N_branch.2.1 193 = .ok (.iload_n 3, 1) := by decide +kernel
theorem d_N_branch_194 : decode m_N_branch.2.1 194 = .ok (.iastore, 1) := by decide +kernel
theorem d_N_branch_195 : decode m_N_branch.2.1 195 = .ok (.iload_n 2, 1) := by decide +kernel
theorem d_N_branch_196 : decode m_N_branch.2.1 196 = .ok (.bipush 16, 2) := by decide +kernel
theorem d_N_branch_198 : decode m_N_branch.2.1 198 = .ok (.if_icmp .ne 22, 3) := by decide +kernel
theorem d_N_branch_201 : decode m_N_branch.2.1 201 = .ok (.aload_n 0, 1) := by decide +kernel
theorem d_N_branch_202 : decode m_N_branch.2.1 202 = .ok (.getfield 37, 3) := by decide +kernel
theorem d_N_branch_205 : decode m_N_branch.2.1 205 = .ok (.iload_n 1, 1) := by decide +kernel
theorem d_N_branch_206 : decode m_N_branch.2.1 206 = .ok (.iaload, 1) := by decide +kernel
theorem d_N_branch_207 : decode m_N_branch.2.1 207 = .ok (.ifCond .ne 13, 3) := by decide +kernel
theorem d_N_branch_210 : decode m_N_branch.2.1 210 = .ok (.aload_n 0, 1) := by decide +kernel
theorem d_N_branch_211 : decode m_N_branch.2.1 211 = .ok (.iload_n 1, 1) := by decide +kernel
theorem d_N_branch_212 : decode m_N_branch.2.1 212 = .ok (.bipush 14, 2) := by decide +kernel
theorem d_N_branch_214 : decode m_N_branch.2.1 214 = .ok (.invokevirtual 146, 3) := by decide +kernel
theorem d_N_branch_217 : decode m_N_branch.2.1 217 = .ok (.goto 45, 3) := by decide +kernel
theorem d_N_branch_220 : decode m_N_branch.2.1 220 = .ok (.iload_n 2, 1) := by decide +kernel
theorem d_N_branch_221 : decode m_N_branch.2.1 221 = .ok (.bipush 16, 2) := by decide +kernel
theorem d_N_branch_223 : decode m_N_branch.2.1 223 = .ok (.if_icmp .ne 39, 3) := by decide +kernel
theorem d_N_branch_226 : decode m_N_branch.2.1 226 = .ok (.aload_n 0, 1) := by decide +kernel
theorem d_N_branch_227 : decode m_N_branch.2.1 227 = .ok (.getfield 37, 3) := by decide +kernel
theorem d_N_branch_230 : decode m_N_branch.2.1 230 = .ok (.iload_n 1, 1) := by decide +kernel
theorem d_N_branch_231 : decode m_N_branch.2.1 231 = .ok (.aload_n 0, 1) := by decide +kernel
theorem d_N_branch_232 : decode m_N_branch.2.1 232 = .ok (.getfield 37, 3) := by decide +kernel
theorem d_N_branch_235 : decode m_N_branch.2.1 235 = .ok (.iload_n 1, 1) := by decide +kernel
theorem d_N_branch_236 : decode m_N_branch.2.1 236 = .ok (.iaload, 1) := by decide +kernel
theorem d_N_branch_237 : decode m_N_branch.2.1 237 = .ok (.iconst 1, 1) := by decide +kernel
theorem d_N_branch_238 : decode m_N_branch.2.1 238 = .ok (.isub, 1) := by decide +kernel
theorem d_N_branch_239 : decode m_N_branch.2.1 239 = .ok (.iastore, 1) := by decide +kernel
theorem d_N_branch_240 : decode m_N_branch.2.1 240 = .ok (.aload_n 0, 1) := by decide +kernel
theorem d_N_branch_241 : decode m_N_branch.2.1 241 = .ok (.getfield 28, 3) := by decide +kernel
theorem d_N_branch_244 : decode m_N_branch.2.1 244 = .ok (.iload_n 1, 1) := by decide +kernel
theorem d_N_branch_245 : decode m_N_branch.2.1 245 = .ok (.aload_n 0, 1) := by decide +kernel
theorem d_N_branch_246 : decode m_N_branch.2.1 246 = .ok (.getfield 40, 3) := by decide +kernel
theorem d_N_branch_249 : decode m_N_branch.2.1 249 = .ok (.bipush 6, 2) := by decide +kernel
theorem d_N_branch_251 : decode m_N_branch.2.1 251 = .ok (.iload_n 1, 1) := by decide +kernel
theorem d_N_branch_252 : decode m_N_branch.2.1 252 = .ok (.imul, 1) := by decide +kernel
theorem d_N_branch_253 : decode m_N_branch.2.1 253 = .ok (.aload_n 0, 1) := by decide +kernel
theorem d_N_branch_254 : decode m_N_branch.2.1 254 = .ok (.getfield 37, 3) := by decide +kernel
theorem d_N_branch_257 : decode m_N_branch.2.1 257 = .ok (.iload_n 1, 1) := by decide +kernel
theorem d_N_branch_258 : decode m_N_branch.2.1 258 = .ok (.iaload, 1) := by decide +kernel
theorem d_N_branch_259 : decode m_N_branch.2.1 259 = .ok (.iadd, 1) := by decide +kernel
theorem d_N_branch_260 : decode m_N_branch.2.1 260 = .ok (.iaload, 1) := by decide +kernel
theorem d_N_branch_261 : decode m_N_branch.2.1 261 = .ok (.iastore, 1) := by decide +kernel
theorem d_N_branch_262 : decode m_N_branch.2.1 262 = .ok (.iconst 1, 1) := by decide +kernel
theorem d_N_branch_263 : decode m_N_branch.2.1 263 = .ok (.ireturn, 1) := by decide +kernel
theorem d_N_named_0 : decode m_N_named.2.1 0 = .ok (.aload_n 0, 1) := by decide +kernel
theorem d_N_named_1 : decode m_N_named.2.1 1 = .ok (.iload_n 1, 1) := by decide +kernel
theorem d_N_named_2 : decode m_N_named.2.1 2 = .ok (.iconst 0, 1) := by decide +kernel
theorem d_N_named_3 : decode m_N_named.2.1 3 = .ok (.invokevirtual 66, 3) := by decide +kernel
theorem d_N_named_6 : decode m_N_named.2.1 6 = .ok (.iconst 2, 1) := by decide +kernel
theorem d_N_named_7 : decode m_N_named.2.1 7 = .ok (.if_icmp .ne 31, 3) := by decide +kernel
theorem d_N_named_10 : decode m_N_named.2.1 10 = .ok (.aload_n 0, 1) := by decide +kernel
theorem d_N_named_11 : decode m_N_named.2.1 11 = .ok (.iload_n 1, 1) := by decide +kernel
theorem d_N_named_12 : decode m_N_named.2.1 12 = .ok (.iconst 0, 1) := by decide +kernel
theorem d_N_named_13 : decode m_N_named.2.1 13 = .ok (.invokevirtual 70, 3) := by decide +kernel
theorem d_N_named_16 : decode m_N_named.2.1 16 = .ok (.iconst 0, 1) := by decide +kernel
theorem d_N_named_17 : decode m_N_named.2.1 17 = .ok (.aload_n 0, 1) := by decide +kernel
theorem d_N_named_18 : decode m_N_named.2.1 18 = .ok (.getfield 131, 3) := by decide +kernel
theorem d_N_named_21 : decode m_N_named.2.1 21 = .ok (.iconst 1, 1) := by decide +kernel
theorem d_N_named_22 : decode m_N_named.2.1 22 = .ok (.isub, 1) := by decide +kernel
theorem d_N_named_23 : decode m_N_named.2.1 23 = .ok (.invokestatic 81, 3) := by decide +kernel
theorem d_N_named_26 : decode m_N_named.2.1 26 = .ok (.ifCond .eq 12, 3) := by decide +kernel
theorem d_N_named_29 : decode m_N_named.2.1 29 = .ok (.aload_n 0, 1) := by decide +kernel
theorem d_N_named_30 : decode m_N_named.2.1 30 = .ok (.iload_n 1, 1) := by decide +kernel
theorem d_N_named_31 : decode m_N_named.2.1 31 = .ok (.iconst 0, 1) := by decide +kernel
theorem d_N_named_32 : decode m_N_named.2.1 32 = .ok (.invokevirtual 70, 3) := by decide +kernel
theorem d_N_named_35 : decode m_N_named.2.1 35 = .ok (.goto 4, 3) := by decide +kernel
theorem d_N_named_38 : decode m_N_named.2.1 38 = .ok (.iconst (-1), 1) := by decide +kernel
theorem d_N_named_39 : decode m_N_named.2.1 39 = .ok (.ireturn, 1) := by decide +kernel
theorem d_N_mail_0 : decode m_N_mail.2.1 0 = .ok (.aload_n 0, 1) := by decide +kernel
theorem d_N_mail_1 : decode m_N_mail.2.1 1 = .ok (.getfield 31, 3) := by decide +kernel
theorem d_N_mail_4 : decode m_N_mail.2.1 4 = .ok (.iload_n 1, 1) := by decide +kernel
theorem d_N_mail_5 : decode m_N_mail.2.1 5 = .ok (.iaload, 1) := by decide +kernel
theorem d_N_mail_6 : decode m_N_mail.2.1 6 = .ok (.aload_n 0, 1) := by decide +kernel
theorem d_N_mail_7 : decode m_N_mail.2.1 7 = .ok (.getfield 34, 3) := by decide +kernel
theorem d_N_mail_10 : decode m_N_mail.2.1 10 = .ok (.iload_n 1, 1) := by decide +kernel
theorem d_N_mail_11 : decode m_N_mail.2.1 11 = .ok (.iaload, 1) := by decide +kernel
theorem d_N_mail_12 : decode m_N_mail.2.1 12 = .ok (.if_icmp .ge 7, 3) := by decide +kernel
theorem d_N_mail_15 : decode m_N_mail.2.1 15 = .ok (.iconst 1, 1) := by decide +kernel
theorem d_N_mail_16 : decode m_N_mail.2.1 16 = .ok (.goto 4, 3) := by decide +kernel
theorem d_N_mail_19 : decode m_N_mail.2.1 19 = .ok (.iconst 0, 1) := by decide +kernel
theorem d_N_mail_20 : decode m_N_mail.2.1 20 = .ok (.istore 5, 2) := by decide +kernel
theorem d_N_mail_22 : decode m_N_mail.2.1 22 = .ok (.bipush 21, 2) := by decide +kernel
theorem d_N_mail_24 : decode m_N_mail.2.1 24 = .ok (.iload_n 1, 1) := by decide +kernel
theorem d_N_mail_25 : decode m_N_mail.2.1 25 = .ok (.imul, 1) := by decide +kernel
theorem d_N_mail_26 : decode m_N_mail.2.1 26 = .ok (.bipush 9, 2) := by decide +kernel
theorem d_N_mail_28 : decode m_N_mail.2.1 28 = .ok (.iadd, 1) := by decide +kernel
theorem d_N_mail_29 : decode m_N_mail.2.1 29 = .ok (.aload_n 0, 1) := by decide +kernel
theorem d_N_mail_30 : decode m_N_mail.2.1 30 = .ok (.getfield 31, 3) := by decide +kernel
theorem d_N_mail_33 : decode m_N_mail.2.1 33 = .ok (.iload_n 1, 1) := by decide +kernel
theorem d_N_mail_34 : decode m_N_mail.2.1 34 = .ok (.iaload, 1) := by decide +kernel
theorem d_N_mail_35 : decode m_N_mail.2.1 35 = .ok (.iadd, 1) := by decide +kernel
theorem d_N_mail_36 : decode m_N_mail.2.1 36 = .ok (.istore 6, 2) := by decide +kernel
theorem d_N_mail_38 : decode m_N_mail.2.1 38 = .ok (.iload_n 2, 1) := by decide +kernel
theorem d_N_mail_39 : decode m_N_mail.2.1 39 = .ok (.bipush 17, 2) := by decide +kernel
theorem d_N_mail_41 : decode m_N_mail.2.1 41 = .ok (.if_icmp .ne 38, 3) := by decide +kernel
theorem d_N_mail_44 : decode m_N_mail.2.1 44 = .ok (.aload_n 0, 1) := by decide +kernel
theorem d_N_mail_45 : decode m_N_mail.2.1 45 = .ok (.bipush 21, 2) := by decide +kernel
theorem d_N_mail_47 : decode m_N_mail.2.1 47 = .ok (.iload_n 1, 1) := by decide +kernel
theorem d_N_mail_48 : decode m_N_mail.2.1 48 = .ok (.imul, 1) := by decide +kernel
theorem d_N_mail_49 : decode m_N_mail.2.1 49 = .ok (.iload_n 3, 1) := by decide +kernel
theorem d_N_mail_50 : decode m_N_mail.2.1 50 = .ok (.iadd, 1) := by decide +kernel
theorem d_N_mail_51 : decode m_N_mail.2.1 51 = .ok (.invokevirtual 149, 3) := by decide +kernel
theorem d_N_mail_54 : decode m_N_mail.2.1 54 = .ok (.istore 7, 2) := by decide +kernel
theorem d_N_mail_56 : decode m_N_mail.2.1 56 = .ok (.iload 7, 2) := by decide +kernel
theorem d_N_mail_58 : decode m_N_mail.2.1 58 = .ok (.ifCond .ge 5, 3) := by decide +kernel
theorem d_N_mail_61 : decode m_N_mail.2.1 61 = .ok (.iconst 0, 1) := by decide +kernel
theorem d_N_mail_62 : decode m_N_mail.2.1 62 = .ok (.ireturn, 1) := by decide +kernel
theorem d_N_mail_63 : decode m_N_mail.2.1 63 = .ok (.aload_n 0, 1) := by decide +kernel
theorem d_N_mail_64 : decode m_N_mail.2.1 64 = .ok (.iload 7, 2) := by decide +kernel
theorem d_N_mail_66 : decode m_N_mail.2.1 66 = .ok (.bipush 21, 2) := by decide +kernel
theorem d_N_mail_68 : decode m_N_mail.2.1 68 = .ok (.iload_n 1, 1) := by decide +kernel
theorem d_N_mail_69 : decode m_N_mail.2.1 69 = .ok (.imul, 1) := by decide +kernel
theorem d_N_mail_70 : decode m_N_mail.2.1 70 = .ok (.iload 4, 2) := by decide +kernel
theorem d_N_mail_72 : decode m_N_mail.2.1 72 = .ok (.iadd, 1) := by decide +kernel
theorem d_N_mail_73 : decode m_N_mail.2.1 73 = .ok (.invokevirtual 122, 3) := by decide +kernel
theorem d_N_mail_76 : decode m_N_mail.2.1 76 = .ok (.goto 187, 3) := by decide +kernel
theorem d_N_mail_79 : decode m_N_mail.2.1 79 = .ok (.iload_n 2, 1) := by decide +kernel
theorem d_N_mail_80 : decode m_N_mail.2.1 80 = .ok (.bipush 18, 2) := by decide +kernel
theorem d_N_mail_82 : decode m_N_mail.2.1 82 = .ok (.if_icmp .ne 34, 3) := by decide +kernel
theorem d_N_mail_85 : decode m_N_mail.2.1 85 = .ok (.iload 5, 2) := by decide +kernel
theorem d_N_mail_87 : decode m_N_mail.2.1 87 = .ok (.ifCond .eq 18, 3) := by decide +kernel
theorem d_N_mail_90 : decode m_N_mail.2.1 90 = .ok (.aload_n 0, 1) := by decide +kernel
theorem d_N_mail_91 : decode m_N_mail.2.1 91 = .ok (.iload 6, 2) := by decide +kernel
theorem d_N_mail_93 : decode m_N_mail.2.1 93 = .ok (.bipush 21, 2) := by decide +kernel
theorem d_N_mail_95 : decode m_N_mail.2.1 95 = .ok (.iload_n 1, 1) := by decide +kernel
theorem d_N_mail_96 : decode m_N_mail.2.1 96 = .ok (.imul, 1) := by decide +kernel
theorem d_N_mail_97 : decode m_N_mail.2.1 97 = .ok (.iload_n 3, 1) := by decide +kernel
theorem d_N_mail_98 : decode m_N_mail.2.1 98 = .ok (.iadd, 1) := by decide +kernel
theorem d_N_mail_99 : decode m_N_mail.2.1 99 = .ok (.invokevirtual 107, 3) := by decide +kernel
theorem d_N_mail_102 : decode m_N_mail.2.1 102 = .ok (.goto 161, 3) := by decide +kernel
theorem d_N_mail_105 : decode m_N_mail.2.1 105 = .ok (.aload_n 0, 1) := by decide +kernel
theorem d_N_mail_106 : decode m_N_mail.2.1 106 = .ok (.getfield 28, 3) := by decide +kernel
theorem d_N_mail_109 : decode m_N_mail.2.1 109 = .ok (.iload_n 1, 1) := by decide +kernel
theorem d_N_mail_110 : decode m_N_mail.2.1 110 = .ok (.iload 4, 2) := by decide +kernel
theorem d_N_mail_112 : decode m_N_mail.2.1 112 = .ok (.iastore, 1) := by decide +kernel
theorem d_N_mail_113 : decode m_N_mail.2.1 113 = .ok (.goto 150, 3) := by decide +kernel
theorem d_N_mail_116 : decode m_N_mail.2.1 116 = .ok (.iload_n 2, 1) := by decide +kernel
theorem d_N_mail_117 : decode m_N_mail.2.1 117 = .ok (.bipush 19, 2) := by decide +kernel
theorem d_N_mail_119 : decode m_N_mail.2.1 119 = .ok (.if_icmp .ne 85, 3) := by decide +kernel
theorem d_N_mail_122 : decode m_N_mail.2.1 122 = .ok (.iload 5, 2) := by decide +kernel
theorem d_N_mail_124 : decode m_N_mail.2.1 124 = .ok (.ifCond .ne 5, 3) := by decide +kernel
theorem d_N_mail_127 : decode m_N_mail.2.1 127 = .ok (.iconst 0, 1) := by decide +kernel
theorem d_N_mail_128 : decode m_N_mail.2.1 128 = .ok (.ireturn, 1) := by decide +kernel
theorem d_N_mail_129 : decode m_N_mail.2.1 129 = .ok (.aload_n 0, 1) := by decide +kernel
theorem d_N_mail_130 : decode m_N_mail.2.1 130 = .ok (.getfield 34, 3) := by decide +kernel
theorem d_N_mail_133 : decode m_N_mail.2.1 133 = .ok (.iload_n 1, 1) := by decide +kernel
theorem d_N_mail_134 : decode m_N_mail.2.1 134 = .ok (.aload_n 0, 1) := by decide +kernel
theorem d_N_mail_135 : decode m_N_mail.2.1 135 = .ok (.getfield 34, 3) := by decide +kernel
theorem d_N_mail_138 : decode m_N_mail.2.1 138 = .ok (.iload_n 1, 1) := by decide +kernel
theorem d_N_mail_139 : decode m_N_mail.2.1 139 = .ok (.iaload, 1) := by decide +kernel
theorem d_N_mail_140 : decode m_N_mail.2.1 140 = .ok (.iconst 1, 1) := by decide +kernel
theorem d_N_mail_141 : decode m_N_mail.2.1 141 = .ok (.isub, 1) := by decide +kernel
theorem d_N_mail_142 : decode m_N_mail.2.1 142 = .ok (.iastore, 1) := by decide +kernel
theorem d_N_mail_143 : decode m_N_mail.2.1 143 = .ok (.aload_n 0, 1) := by decide +kernel
theorem d_N_mail_144 : decode m_N_mail.2.1 144 = .ok (.getfield 31, 3) := by decide +kernel
theorem d_N_mail_147 : decode m_N_mail.2.1 147 = .ok (.iload_n 1, 1) := by decide +kernel
theorem d_N_mail_148 : decode m_N_mail.2.1 148 = .ok (.iaload, 1) := by decide +kernel
theorem d_N_mail_149 : decode m_N_mail.2.1 149 = .ok (.istore 7, 2) := by decide +kernel
theorem d_N_mail_151 : decode m_N_mail.2.1 151 = .ok (.iload 7, 2) := by decide +kernel
theorem d_N_mail_153 : decode m_N_mail.2.1 153 = .ok (.aload_n 0, 1) := by decide +kernel
theorem d_N_mail_154 : decode m_N_mail.2.1 154 = .ok (.getfield 34, 3) := by decide +kernel
theorem d_N_mail_157 : decode m_N_mail.2.1 157 = .ok (.iload_n 1, 1) := by decide +kernel
theorem d_N_mail_158 : decode m_N_mail.2.1 158 = .ok (.iaload, 1) := by decide +kernel
theorem d_N_mail_159 : decode m_N_mail.2.1 159 = .ok (.if_icmp .ge 35, 3) := by decide +kernel
theorem d_N_mail_162 : decode m_N_mail.2.1 162 = .ok (.aload_n 0, 1) := by decide +kernel
theorem d_N_mail_163 : decode m_N_mail.2.1 163 = .ok (.bipush 21, 2) := by decide +kernel
theorem d_N_mail_165 : decode m_N_mail.2.1 165 = .ok (.iload_n 1, 1) := by decide +kernel
theorem d_N_mail_166 : decode m_N_mail.2.1 166 = .ok (.imul, 1) := by decide +kernel
theorem d_N_mail_167 : decode m_N_mail.2.1 167 = .ok (.bipush 9, 2) := by decide +kernel
theorem d_N_mail_169 : decode m_N_mail.2.1 169 = .ok (.iadd, 1) := by decide +kernel
theorem d_N_mail_170 : decode m_N_mail.2.1 170 = .ok (.iload 7, 2) := by decide +kernel
theorem d_N_mail_172 : decode m_N_mail.2.1 172 = .ok (.iadd, 1) := by decide +kernel
theorem d_N_mail_173 : decode m_N_mail.2.1 173 = .ok (.iconst 1, 1) := by decide +kernel
theorem d_N_mail_174 : decode m_N_mail.2.1 174 = .ok (.iadd, 1) := by decide +kernel
theorem d_N_mail_175 : decode m_N_mail.2.1 175 = .ok (.bipush 21, 2) := by decide +kernel
theorem d_N_mail_177 : decode m_N_mail.2.1 177 = .ok (.iload_n 1, 1) := by decide +kernel
theorem d_N_mail_178 : decode m_N_mail.2.1 178 = .ok (.imul, 1) := by decide +kernel
theorem d_N_mail_179 : decode m_N_mail.2.1 179 = .ok (.bipush 9, 2) := by decide +kernel
theorem d_N_mail_181 : decode m_N_mail.2.1 181 = .ok (.iadd, 1) := by decide +kernel
theorem d_N_mail_182 : decode m_N_mail.2.1 182 = .ok (.iload 7, 2) := by decide +kernel
theorem d_N_mail_184 : decode m_N_mail.2.1 184 = .ok (.iadd, 1) := by decide +kernel
theorem d_N_mail_185 : decode m_N_mail.2.1 185 = .ok (.invokevirtual 107, 3) := by decide +kernel
theorem d_N_mail_188 : decode m_N_mail.2.1 188 = .ok (.iinc 7 1, 3) := by decide +kernel
theorem d_N_mail_191 : decode m_N_mail.2.1 191 = .ok (.goto (-40), 3) := by decide +kernel
theorem d_N_mail_194 : decode m_N_mail.2.1 194 = .ok (.aload_n 0, 1) := by decide +kernel
theorem d_N_mail_195 : decode m_N_mail.2.1 195 = .ok (.getfield 31, 3) := by decide +kernel
theorem d_N_mail_198 : decode m_N_mail.2.1 198 = .ok (.iload_n 1, 1) := by decide +kernel
theorem d_N_mail_199 : decode m_N_mail.2.1 199 = .ok (.iconst 0, 1) := by decide +kernel
theorem d_N_mail_200 : decode m_N_mail.2.1 200 = .ok (.iastore, 1) := by decide +kernel
theorem d_N_mail_201 : decode m_N_mail.2.1 201 = .ok (.goto 62, 3) := by decide +kernel
theorem d_N_mail_204 : decode m_N_mail.2.1 204 = .ok (.aload_n 0, 1) := by decide +kernel
theorem d_N_mail_205 : decode m_N_mail.2.1 205 = .ok (.getfield 28, 3) := by decide +kernel
theorem d_N_mail_208 : decode m_N_mail.2.1 208 = .ok (.iload_n 1, 1) := by decide +kernel
theorem d_N_mail_209 : decode m_N_mail.2.1 209 = .ok (.iload_n 3, 1) := by decide +kernel
theorem d_N_mail_210 : decode m_N_mail.2.1 210 = .ok (.iastore, 1) := by decide +kernel
theorem d_N_mail_211 : decode m_N_mail.2.1 211 = .ok (.aload_n 0, 1) := by decide +kernel
theorem d_N_mail_212 : decode m_N_mail.2.1 212 = .ok (.getfield 31, 3) := by decide +kernel
theorem d_N_mail_215 : decode m_N_mail.2.1 215 = .ok (.iload_n 1, 1) := by decide +kernel
theorem d_N_mail_216 : decode m_N_mail.2.1 216 = .ok (.iload_n 2, 1) := by decide +kernel
theorem d_N_mail_217 : decode m_N_mail.2.1 217 = .ok (.bipush 20, 2) := by decide +kernel
theorem d_N_mail_219 : decode m_N_mail.2.1 219 = .ok (.if_icmp .ne 14, 3) := by decide +kernel
theorem d_N_mail_222 : decode m_N_mail.2.1 222 = .ok (.aload_n 0, 1) := by decide +kernel
theorem d_N_mail_223 : decode m_N_mail.2.1 223 = .ok (.getfield 31, 3) := by decide +kernel
theorem d_N_mail_226 : decode m_N_mail.2.1 226 = .ok (.iload_n 1, 1) := by decide +kernel
theorem d_N_mail_227 : decode m_N_mail.2.1 227 = .ok (.iaload, 1) := by decide +kernel
theorem d_N_mail_228 : decode m_N_mail.2.1 228 = .ok (.iconst 1, 1) := by decide +kernel
theorem d_N_mail_229 : decode m_N_mail.2.1 229 = .ok (.iadd, 1) := by decide +kernel
theorem d_N_mail_230 : decode m_N_mail.2.1 230 = .ok (.goto 9, 3) := by decide +kernel
theorem d_N_mail_233 : decode m_N_mail.2.1 233 = .ok (.aload_n 0, 1) := by decide +kernel
theorem d_N_mail_234 : decode m_N_mail.2.1 234 = .ok (.getfield 31, 3) := by decide +kernel
theorem d_N_mail_237 : decode m_N_mail.2.1 237 = .ok (.iload_n 1, 1) := by decide +kernel
theorem d_N_mail_238 : decode m_N_mail.2.1 238 = .ok (.iaload, 1) := by decide +kernel
theorem d_N_mail_239 : decode m_N_mail.2.1 239 = .ok (.iastore, 1) := by decide +kernel
theorem d_N_mail_240 : decode m_N_mail.2.1 240 = .ok (.iload_n 2, 1) := by decide +kernel
theorem d_N_mail_241 : decode m_N_mail.2.1 241 = .ok (.bipush 21, 2) := by decide +kernel
theorem d_N_mail_243 : decode m_N_mail.2.1 243 = .ok (.if_icmp .ne 20, 3) := by decide +kernel
theorem d_N_mail_246 : decode m_N_mail.2.1 246 = .ok (.iload 5, 2) := by decide +kernel
theorem d_N_mail_248 : decode m_N_mail.2.1 248 = .ok (.ifCond .ne 15, 3) := by decide +kernel
theorem d_N_mail_251 : decode m_N_mail.2.1 251 = .ok (.aload_n 0, 1) := by decide +kernel
theorem d_N_mail_252 : decode m_N_mail.2.1 252 = .ok (.getfield 25, 3) := by decide +kernel
theorem d_N_mail_255 : decode m_N_mail.2.1 255 = .ok (.iload_n 1, 1) := by decide +kernel
theorem d_N_mail_256 : decode m_N_mail.2.1 256 = .ok (.iconst 2, 1) := by decide +kernel
theorem d_N_mail_257 : decode m_N_mail.2.1 257 = .ok (.iastore, 1) := by decide +kernel
theorem d_N_mail_258 : decode m_N_mail.2.1 258 = .ok (.aload_n 0, 1) := by decide +kernel
theorem d_N_mail_259 : decode m_N_mail.2.1 259 = .ok (.iload_n 1, 1) := by decide +kernel
theorem d_N_mail_260 : decode m_N_mail.2.1 260 = .ok (.invokevirtual 125, 3) := by decide +kernel
theorem d_N_mail_263 : decode m_N_mail.2.1 263 = .ok (.iconst 1, 1) := by decide +kernel
theorem d_N_mail_264 : decode m_N_mail.2.1 264 = .ok (.ireturn, 1) := by decide +kernel
theorem d_N_life_0 : decode m_N_life.2.1 0 = .ok (.bipush 21, 2) := by decide +kernel
theorem d_N_life_2 : decode m_N_life.2.1 2 = .ok (.iload_n 1, 1) := by decide +kernel
theorem d_N_life_3 : decode m_N_life.2.1 3 = .ok (.imul, 1) := by decide +kernel
theorem d_N_life_4 : decode m_N_life.2.1 4 = .ok (.iload_n 3, 1) := by decide +kernel
theorem d_N_life_5 : decode m_N_life.2.1 5 = .ok (.iadd, 1) := by decide +kernel
theorem d_N_life_6 : decode m_N_life.2.1 6 = .ok (.istore 6, 2) := by decide +kernel
theorem d_N_life_8 : decode m_N_life.2.1 8 = .ok (.iload_n 2, 1) := by decide +kernel
theorem d_N_life_9 : decode m_N_life.2.1 9 = .ok (.bipush 22, 2) := by decide +kernel
theorem d_N_life_11 : decode m_N_life.2.1 11 = .ok (.if_icmp .ne 37, 3) := by decide +kernel
theorem d_N_life_14 : decode m_N_life.2.1 14 = .ok (.aload_n 0, 1) := by decide +kernel
theorem d_N_life_15 : decode m_N_life.2.1 15 = .ok (.getfield 131, 3) := by decide +kernel
theorem d_N_life_18 : decode m_N_life.2.1 18 = .ok (.bipush 12, 2) := by decide +kernel
theorem d_N_life_20 : decode m_N_life.2.1 20 = .ok (.if_icmp .lt 5, 3) := by decide +kernel
theorem d_N_life_23 : decode m_N_life.2.1 23 = .ok (.iconst 0, 1) := by decide +kernel
theorem d_N_life_24 : decode m_N_life.2.1 24 = .ok (.ireturn, 1) := by decide +kernel
theorem d_N_life_25 : decode m_N_life.2.1 25 = .ok (.aload_n 0, 1) := by decide +kernel
theorem d_N_life_26 : decode m_N_life.2.1 26 = .ok (.iload 6, 2) := by decide +kernel
theorem d_N_life_28 : decode m_N_life.2.1 28 = .ok (.iconst 2, 1) := by decide +kernel
theorem d_N_life_29 : decode m_N_life.2.1 29 = .ok (.aload_n 0, 1) := by decide +kernel
theorem d_N_life_30 : decode m_N_life.2.1 30 = .ok (.iload 4, 2) := by decide +kernel
theorem d_N_life_32 : decode m_N_life.2.1 32 = .ok (.bipush 21, 2) := by decide +kernel
theorem d_N_life_34 : decode m_N_life.2.1 34 = .ok (.iload_n 1, 1) := by decide +kernel
theorem d_N_life_35 : decode m_N_life.2.1 35 = .ok (.imul, 1) := by decide +kernel
theorem d_N_life_36 : decode m_N_life.2.1 36 = .ok (.iload 5, 2) := by decide +kernel
theorem d_N_life_38 : decode m_N_life.2.1 38 = .ok (.iadd, 1) := by decide +kernel
theorem d_N_life_39 : decode m_N_life.2.1 39 = .ok (.invokevirtual 152, 3) := by decide +kernel
theorem d_N_life_42 : decode m_N_life.2.1 42 = .ok (.invokevirtual 115, 3) := by decide +kernel
theorem d_N_life_45 : decode m_N_life.2.1 45 = .ok (.goto 196, 3) := by decide +kernel
theorem d_N_life_48 : decode m_N_life.2.1 48 = .ok (.iload_n 2, 1) := by decide +kernel
theorem d_N_life_49 : decode m_N_life.2.1 49 = .ok (.bipush 24, 2) := by decide +kernel
theorem d_N_life_51 : decode m_N_life.2.1 51 = .ok (.if_icmp .ne 22, 3) := by decide +kernel
theorem d_N_life_54 : decode m_N_life.2.1 54 = .ok (.aload_n 0, 1) := by decide +kernel
theorem d_N_life_55 : decode m_N_life.2.1 55 = .ok (.getfield 46, 3) := by decide +kernel
theorem d_N_life_58 : decode m_N_life.2.1 58 = .ok (.iload_n 1, 1) := by decide +kernel
theorem d_N_life_59 : decode m_N_life.2.1 59 = .ok (.iload_n 3, 1) := by decide +kernel
theorem d_N_life_60 : decode m_N_life.2.1 60 = .ok (.iconst 1, 1) := by decide +kernel
theorem d_N_life_61 : decode m_N_life.2.1 61 = .ok (.if_icmp .ne 7, 3) := by decide +kernel
theorem d_N_life_64 : decode m_N_life.2.1 64 = .ok (.iconst 1, 1) := by decide +kernel
theorem d_N_life_65 : decode m_N_life.2.1 65 = .ok (.goto 4, 3) := by decide +kernel
theorem d_N_life_68 : decode m_N_life.2.1 68 = .ok (.iconst 0, 1) := by decide +kernel
theorem d_N_life_69 : decode m_N_life.2.1 69 = .ok (.bastore, 1) := by decide +kernel
theorem d_N_life_70 : decode m_N_life.2.1 70 = .ok (.goto 171, 3) := by decide +kernel
theorem d_N_life_73 : decode m_N_life.2.1 73 = .ok (.iload_n 2, 1) := by decide +kernel
theorem d_N_life_74 : decode m_N_life.2.1 74 = .ok (.bipush 25, 2) := by decide +kernel
theorem d_N_life_76 : decode m_N_life.2.1 76 = .ok (.if_icmp .ne 23, 3) := by decide +kernel
theorem d_N_life_79 : decode m_N_life.2.1 79 = .ok (.aload_n 0, 1) := by decide +kernel
theorem d_N_life_80 : decode m_N_life.2.1 80 = .ok (.iload 6, 2) := by decide +kernel
theorem d_N_life_82 : decode m_N_life.2.1 82 = .ok (.sipush 252, 3) := by decide +kernel
theorem d_N_life_85 : decode m_N_life.2.1 85 = .ok (.invokevirtual 107, 3) := by decide +kernel
theorem d_N_life_88 : decode m_N_life.2.1 88 = .ok (.aload_n 0, 1) := by decide +kernel
theorem d_N_life_89 : decode m_N_life.2.1 89 = .ok (.iload_n 1, 1) := by decide +kernel
theorem d_N_life_90 : decode m_N_life.2.1 90 = .ok (.sipush 252, 3) := by decide +kernel
theorem d_N_life_93 : decode m_N_life.2.1 93 = .ok (.invokevirtual 137, 3) := by decide +kernel
theorem d_N_life_96 : decode m_N_life.2.1 96 = .ok (.goto 145, 3) := by decide +kernel
theorem d_N_life_99 : decode m_N_life.2.1 99 = .ok (.aload_n 0, 1) := by decide +kernel
theorem d_N_life_100 : decode m_N_life.2.1 100 = .ok (.iload 6, 2) := by decide +kernel
theorem d_N_life_102 : decode m_N_life.2.1 102 = .ok (.invokevirtual 149, 3) := by decide +kernel
theorem d_N_life_105 : decode m_N_life.2.1 105 = .ok (.istore 7, 2) := by decide +kernel
theorem d_N_life_107 : decode m_N_life.2.1 107 = .ok (.iload 7, 2) := by decide +kernel
theorem d_N_life_109 : decode m_N_life.2.1 109 = .ok (.ifCond .ge 5, 3) := by decide +kernel
theorem d_N_life_112 : decode m_N_life.2.1 112 = .ok (.iconst 0, 1) := by decide +kernel
theorem d_N_life_113 : decode m_N_life.2.1 113 = .ok (.ireturn, 1) := by decide +kernel
theorem d_N_life_114 : decode m_N_life.2.1 114 = .ok (.iload_n 2, 1) := by decide +kernel
theorem d_N_life_115 : decode m_N_life.2.1 115 = .ok (.bipush 26, 2) := by decide +kernel
theorem d_N_life_117 : decode m_N_life.2.1 117 = .ok (.if_icmp .ne 38, 3) := by decide +kernel
theorem d_N_life_120 : decode m_N_life.2.1 120 = .ok (.aload_n 0, 1) := by decide +kernel
theorem d_N_life_121 : decode m_N_life.2.1 121 = .ok (.sipush 252, 3) := by decide +kernel
theorem d_N_life_124 : decode m_N_life.2.1 124 = .ok (.iconst 1, 1) := by decide +kernel
theorem d_N_life_125 : decode m_N_life.2.1 125 = .ok (.bipush 12, 2) := by decide +kernel
theorem d_N_life_127 : decode m_N_life.2.1 127 = .ok (.invokevirtual 115, 3) := by decide +kernel
theorem d_N_life_130 : decode m_N_life.2.1 130 = .ok (.aload_n 0, 1) := by decide +kernel
theorem d_N_life_131 : decode m_N_life.2.1 131 = .ok (.iload 7, 2) := by decide +kernel
theorem d_N_life_133 : decode m_N_life.2.1 133 = .ok (.iload_n 1, 1) := by decide +kernel
theorem d_N_life_134 : decode m_N_life.2.1 134 = .ok (.sipush 252, 3) := by decide +kernel
theorem d_N_life_137 : decode m_N_life.2.1 137 = .ok (.invokevirtual 134, 3) := by decide +kernel
theorem d_N_life_140 : decode m_N_life.2.1 140 = .ok (.ifCond .eq 101, 3) := by decide +kernel
theorem d_N_life_143 : decode m_N_life.2.1 143 = .ok (.aload_n 0, 1) := by decide +kernel
theorem d_N_life_144 : decode m_N_life.2.1 144 = .ok (.iload 7, 2) := by decide +kernel
theorem d_N_life_146 : decode m_N_life.2.1 146 = .ok (.sipush 252, 3) := by decide +kernel
theorem d_N_life_149 : decode m_N_life.2.1 149 = .ok (.invokevirtual 137, 3) := by decide +kernel
theorem d_N_life_152 : decode m_N_life.2.1 152 = .ok (.goto 89, 3) := by decide +kernel
theorem d_N_life_155 : decode m_N_life.2.1 155 = .ok (.aload_n 0, 1) := by decide +kernel
theorem d_N_life_156 : decode m_N_life.2.1 156 = .ok (.getfield 25, 3) := by decide +kernel
theorem d_N_life_159 : decode m_N_life.2.1 159 = .ok (.iload 7, 2) := by decide +kernel
theorem d_N_life_161 : decode m_N_life.2.1 161 = .ok (.iaload, 1) := by decide +kernel
theorem d_N_life_162 : decode m_N_life.2.1 162 = .ok (.iconst 3, 1) := by decide +kernel
theorem d_N_life_163 : decode m_N_life.2.1 163 = .ok (.if_icmp .ne 37, 3) := by decide +kernel
theorem d_N_life_166 : decode m_N_life.2.1 166 = .ok (.aload_n 0, 1) := by decide +kernel
theorem d_N_life_167 : decode m_N_life.2.1 167 = .ok (.sipush 252, 3) := by decide +kernel
theorem d_N_life_170 : decode m_N_life.2.1 170 = .ok (.iconst 1, 1) := by decide +kernel
theorem d_N_life_171 : decode m_N_life.2.1 171 = .ok (.bipush 13, 2) := by decide +kernel
theorem d_N_life_173 : decode m_N_life.2.1 173 = .ok (.invokevirtual 115, 3) := by decide +kernel
theorem d_N_life_176 : decode m_N_life.2.1 176 = .ok (.aload_n 0, 1) := by decide +kernel
theorem d_N_life_177 : decode m_N_life.2.1 177 = .ok (.iload_n 1, 1) := by decide +kernel
theorem d_N_life_178 : decode m_N_life.2.1 178 = .ok (.iload 7, 2) := by decide +kernel
theorem d_N_life_180 : decode m_N_life.2.1 180 = .ok (.sipush 252, 3) := by decide +kernel
theorem d_N_life_183 : decode m_N_life.2.1 183 = .ok (.invokevirtual 134, 3) := by decide +kernel
theorem d_N_life_186 : decode m_N_life.2.1 186 = .ok (.ifCond .eq 55, 3) := by decide +kernel
theorem d_N_life_189 : decode m_N_life.2.1 189 = .ok (.aload_n 0, 1) := by decide +kernel
theorem d_N_life_190 : decode m_N_life.2.1 190 = .ok (.iload_n 1, 1) := by decide +kernel
theorem d_N_life_191 : decode m_N_life.2.1 191 = .ok (.sipush 252, 3) := by decide +kernel
theorem d_N_life_194 : decode m_N_life.2.1 194 = .ok (.invokevirtual 137, 3) := by decide +kernel
theorem d_N_life_197 : decode m_N_life.2.1 197 = .ok (.goto 44, 3) := by decide +kernel
theorem d_N_life_200 : decode m_N_life.2.1 200 = .ok (.iload 7, 2) := by decide +kernel
theorem d_N_life_202 : decode m_N_life.2.1 202 = .ok (.iload_n 1, 1) := by decide +kernel
theorem d_N_life_203 : decode m_N_life.2.1 203 = .ok (.if_icmp .eq 38, 3) := by decide +kernel
theorem d_N_life_206 : decode m_N_life.2.1 206 = .ok (.aload_n 0, 1) := by decide +kernel
theorem d_N_life_207 : decode m_N_life.2.1 207 = .ok (.getfield 43, 3) := by decide +kernel
theorem d_N_life_210 : decode m_N_life.2.1 210 = .ok (.iload_n 1, 1) := by decide +kernel
theorem d_N_life_211 : decode m_N_life.2.1 211 = .ok (.aload_n 0, 1) := by decide +kernel
theorem d_N_life_212 : decode m_N_life.2.1 212 = .ok (.getfield 43, 3) := by decide +kernel
theorem d_N_life_215 : decode m_N_life.2.1 215 = .ok (.iload_n 1, 1) := by decide +kernel
theorem d_N_life_216 : decode m_N_life.2.1 216 = .ok (.iaload, 1) := by decide +kernel
theorem d_N_life_217 : decode m_N_life.2.1 217 = .ok (.iconst 1, 1) := by decide +kernel
theorem d_N_life_218 : decode m_N_life.2.1 218 = .ok (.iload 7, 2) := by decide +kernel
theorem d_N_life_220 : decode m_N_life.2.1 220 = .ok (.ishl, 1) := by decide +kernel
theorem d_N_life_221 : decode m_N_life.2.1 221 = .ok (.ior, 1) := by decide +kernel
theorem d_N_life_222 : decode m_N_life.2.1 222 = .ok (.iastore, 1) := by decide +kernel
theorem d_N_life_223 : decode m_N_life.2.1 223 = .ok (.aload_n 0, 1) := by decide +kernel
theorem d_N_life_224 : decode m_N_life.2.1 224 = .ok (.getfield 43, 3) := by decide +kernel
theorem d_N_life_227 : decode m_N_life.2.1 227 = .ok (.iload 7, 2) := by decide +kernel
theorem d_N_life_229 : decode m_N_life.2.1 229 = .ok (.aload_n 0, 1) := by decide +kernel
theorem d_N_life_230 : decode m_N_life.2.1 230 = .ok (.getfield 43, 3) := by decide +kernel
theorem d_N_life_233 : decode m_N_life.2.1 233 = .ok (.iload 7, 2) := by decide +kernel
theorem d_N_life_235 : decode m_N_life.2.1 235 = .ok (.iaload, 1) := by decide +kernel
theorem d_N_life_236 : decode m_N_life.2.1 236 = .ok (.iconst 1, 1) := by decide +kernel
theorem d_N_life_237 : decode m_N_life.2.1 237 = .ok (.iload_n 1, 1) := by decide +kernel
theorem d_N_life_238 : decode m_N_life.2.1 238 = .ok (.ishl, 1) := by decide +kernel
theorem d_N_life_239 : decode m_N_life.2.1 239 = .ok (.ior, 1) := by decide +kernel
theorem d_N_life_240 : decode m_N_life.2.1 240 = .ok (.iastore, 1) := by decide +kernel
theorem d_N_life_241 : decode m_N_life.2.1 241 = .ok (.iconst 1, 1) := by decide +kernel
theorem d_N_life_242 : decode m_N_life.2.1 242 = .ok (.ireturn, 1) := by decide +kernel
theorem d_N_step_0 : decode m_N_step.2.1 0 = .ok (.aload_n 0, 1) := by decide +kernel
theorem d_N_step_1 : decode m_N_step.2.1 1 = .ok (.getfield 50, 3) := by decide +kernel
theorem d_N_step_4 : decode m_N_step.2.1 4 = .ok (.iload_n 1, 1) := by decide +kernel
theorem d_N_step_5 : decode m_N_step.2.1 5 = .ok (.aload_n 0, 1) := by decide +kernel
theorem d_N_step_6 : decode m_N_step.2.1 6 = .ok (.getfield 50, 3) := by decide +kernel
theorem d_N_step_9 : decode m_N_step.2.1 9 = .ok (.iload_n 1, 1) := by decide +kernel
theorem d_N_step_10 : decode m_N_step.2.1 10 = .ok (.iaload, 1) := by decide +kernel
theorem d_N_step_11 : decode m_N_step.2.1 11 = .ok (.iconst 1, 1) := by decide +kernel
theorem d_N_step_12 : decode m_N_step.2.1 12 = .ok (.iadd, 1) := by decide +kernel
theorem d_N_step_13 : decode m_N_step.2.1 13 = .ok (.iastore, 1) := by decide +kernel
theorem d_N_step_14 : decode m_N_step.2.1 14 = .ok (.aload_n 0, 1) := by decide +kernel
theorem d_N_step_15 : decode m_N_step.2.1 15 = .ok (.getfield 28, 3) := by decide +kernel
theorem d_N_step_18 : decode m_N_step.2.1 18 = .ok (.iload_n 1, 1) := by decide +kernel
theorem d_N_step_19 : decode m_N_step.2.1 19 = .ok (.iaload, 1) := by decide +kernel
theorem d_N_step_20 : decode m_N_step.2.1 20 = .ok (.istore_n 2, 1) := by decide +kernel
theorem d_N_step_21 : decode m_N_step.2.1 21 = .ok (.iload_n 2, 1) := by decide +kernel
theorem d_N_step_22 : decode m_N_step.2.1 22 = .ok (.aload_n 0, 1) := by decide +kernel
theorem d_N_step_23 : decode m_N_step.2.1 23 = .ok (.getfield 85, 3) := by decide +kernel
theorem d_N_step_26 : decode m_N_step.2.1 26 = .ok (.if_icmp .ge 7, 3) := by decide +kernel
theorem d_N_step_29 : decode m_N_step.2.1 29 = .ok (.iconst 1, 1) := by decide +kernel
theorem d_N_step_30 : decode m_N_step.2.1 30 = .ok (.goto 4, 3) := by decide +kernel
theorem d_N_step_33 : decode m_N_step.2.1 33 = .ok (.iconst 0, 1) := by decide +kernel
theorem d_N_step_34 : decode m_N_step.2.1 34 = .ok (.istore_n 3, 1) := by decide +kernel
theorem d_N_step_35 : decode m_N_step.2.1 35 = .ok (.iload_n 3, 1) := by decide +kernel
theorem d_N_step_36 : decode m_N_step.2.1 36 = .ok (.ifCond .eq 153, 3) := by decide +kernel
theorem d_N_step_39 : decode m_N_step.2.1 39 = .ok (.aload_n 0, 1) := by decide +kernel
theorem d_N_step_40 : decode m_N_step.2.1 40 = .ok (.getfield 28, 3) := by decide +kernel
theorem d_N_step_43 : decode m_N_step.2.1 43 = .ok (.iload_n 1, 1) := by decide +kernel
theorem d_N_step_44 : decode m_N_step.2.1 44 = .ok (.iload_n 2, 1) := by decide +kernel
theorem d_N_step_45 : decode m_N_step.2.1 45 = .ok (.iconst 1, 1) := by decide +kernel
theorem d_N_step_46 : decode m_N_step.2.1 46 = .ok (.iadd, 1) := by decide +kernel
theorem d_N_step_47 : decode m_N_step.2.1 47 = .ok (.iastore, 1) := by decide +kernel
theorem d_N_step_48 : decode m_N_step.2.1 48 = .ok (.aload_n 0, 1) := by decide +kernel
theorem d_N_step_49 : decode m_N_step.2.1 49 = .ok (.getfield 7, 3) := by decide +kernel
theorem d_N_step_52 : decode m_N_step.2.1 52 = .ok (.iload_n 2, 1) := by decide +kernel
theorem d_N_step_53 : decode m_N_step.2.1 53 = .ok (.iaload, 1) := by decide +kernel
theorem d_N_step_54 : decode m_N_step.2.1 54 = .ok (.istore 4, 2) := by decide +kernel
theorem d_N_step_56 : decode m_N_step.2.1 56 = .ok (.iload 4, 2) := by decide +kernel
theorem d_N_step_58 : decode m_N_step.2.1 58 = .ok (.bipush 11, 2) := by decide +kernel
theorem d_N_step_60 : decode m_N_step.2.1 60 = .ok (.if_icmp .ge 39, 3) := by decide +kernel
theorem d_N_step_63 : decode m_N_step.2.1 63 = .ok (.aload_n 0, 1) := by decide +kernel
theorem d_N_step_64 : decode m_N_step.2.1 64 = .ok (.bipush 21, 2) := by decide +kernel
theorem d_N_step_66 : decode m_N_step.2.1 66 = .ok (.iload_n 1, 1) := by decide +kernel
theorem d_N_step_67 : decode m_N_step.2.1 67 = .ok (.imul, 1) := by decide +kernel
theorem d_N_step_68 : decode m_N_step.2.1 68 = .ok (.aload_n 0, 1) := by decide +kernel
theorem d_N_step_69 : decode m_N_step.2.1 69 = .ok (.getfield 13, 3) := by decide +kernel
theorem d_N_step_72 : decode m_N_step.2.1 72 = .ok (.iload_n 2, 1) := by decide +kernel
theorem d_N_step_73 : decode m_N_step.2.1 73 = .ok (.iaload, 1) := by decide +kernel
theorem d_N_step_74 : decode m_N_step.2.1 74 = .ok (.iadd, 1) := by decide +kernel
theorem d_N_step_75 : decode m_N_step.2.1 75 = .ok (.iload 4, 2) := by decide +kernel
theorem d_N_step_77 : decode m_N_step.2.1 77 = .ok (.bipush 21, 2) := by decide +kernel
theorem d_N_step_79 : decode m_N_step.2.1 79 = .ok (.iload_n 1, 1) := by decide +kernel
theorem d_N_step_80 : decode m_N_step.2.1 80 = .ok (.imul, 1) := by decide +kernel
theorem d_N_step_81 : decode m_N_step.2.1 81 = .ok (.aload_n 0, 1) := by decide +kernel
theorem d_N_step_82 : decode m_N_step.2.1 82 = .ok (.getfield 16, 3) := by decide +kernel
theorem d_N_step_85 : decode m_N_step.2.1 85 = .ok (.iload_n 2, 1) := by decide +kernel
theorem d_N_step_86 : decode m_N_step.2.1 86 = .ok (.iaload, 1) := by decide +kernel
theorem d_N_step_87 : decode m_N_step.2.1 87 = .ok (.aload_n 0, 1) := by decide +kernel
theorem d_N_step_88 : decode m_N_step.2.1 88 = .ok (.getfield 19, 3) := by decide +kernel
theorem d_N_step_91 : decode m_N_step.2.1 91 = .ok (.iload_n 2, 1) := by decide +kernel
theorem d_N_step_92 : decode m_N_step.2.1 92 = .ok (.iaload, 1) := by decide +kernel
theorem d_N_step_93 : decode m_N_step.2.1 93 = .ok (.invokevirtual 155, 3) := by decide +kernel
theorem d_N_step_96 : decode m_N_step.2.1 96 = .ok (.goto 92, 3) := by decide +kernel
theorem d_N_step_99 : decode m_N_step.2.1 99 = .ok (.iload 4, 2) := by decide +kernel
theorem d_N_step_101 : decode m_N_step.2.1 101 = .ok (.bipush 17, 2) := by decide +kernel
theorem d_N_step_103 : decode m_N_step.2.1 103 = .ok (.if_icmp .ge 31, 3) := by decide +kernel
theorem d_N_step_106 : decode m_N_step.2.1 106 = .ok (.aload_n 0, 1) := by decide +kernel
theorem d_N_step_107 : decode m_N_step.2.1 107 = .ok (.iload_n 1, 1) := by decide +kernel
theorem d_N_step_108 : decode m_N_step.2.1 108 = .ok (.iload 4, 2) := by decide +kernel
theorem d_N_step_110 : decode m_N_step.2.1 110 = .ok (.aload_n 0, 1) := by decide +kernel
theorem d_N_step_111 : decode m_N_step.2.1 111 = .ok (.getfield 13, 3) := by decide +kernel
theorem d_N_step_114 : decode m_N_step.2.1 114 = .ok (.iload_n 2, 1) := by decide +kernel
theorem d_N_step_115 : decode m_N_step.2.1 115 = .ok (.iaload, 1) := by decide +kernel
theorem d_N_step_116 : decode m_N_step.2.1 116 = .ok (.aload_n 0, 1) := by decide +kernel
theorem d_N_step_117 : decode m_N_step.2.1 117 = .ok (.getfield 16, 3) := by decide +kernel
theorem d_N_step_120 : decode m_N_step.2.1 120 = .ok (.iload_n 2, 1) := by decide +kernel
theorem d_N_step_121 : decode m_N_step.2.1 121 = .ok (.iaload, 1) := by decide +kernel
theorem d_N_step_122 : decode m_N_step.2.1 122 = .ok (.aload_n 0, 1) := by decide +kernel
theorem d_N_step_123 : decode m_N_step.2.1 123 = .ok (.getfield 19, 3) := by decide +kernel
theorem d_N_step_126 : decode m_N_step.2.1 126 = .ok (.iload_n 2, 1) := by decide +kernel
theorem d_N_step_127 : decode m_N_step.2.1 127 = .ok (.iaload, 1) := by decide +kernel
theorem d_N_step_128 : decode m_N_step.2.1 128 = .ok (.invokevirtual 159, 3) := by decide +kernel
theorem d_N_step_131 : decode m_N_step.2.1 131 = .ok (.goto 57, 3) := by decide +kernel
theorem d_N_step_134 : decode m_N_step.2.1 134 = .ok (.iload 4, 2) := by decide +kernel
theorem d_N_step_136 : decode m_N_step.2.1 136 = .ok (.bipush 22, 2) := by decide +kernel
theorem d_N_step_138 : decode m_N_step.2.1 138 = .ok (.if_icmp .ge 25, 3) := by decide +kernel
theorem d_N_step_141 : decode m_N_step.2.1 141 = .ok (.aload_n 0, 1) := by decide +kernel
theorem d_N_step_142 : decode m_N_step.2.1 142 = .ok (.iload_n 1, 1) := by decide +kernel
theorem d_N_step_143 : decode m_N_step.2.1 143 = .ok (.iload 4, 2) := by decide +kernel
theorem d_N_step_145 : decode m_N_step.2.1 145 = .ok (.aload_n 0, 1) := by decide +kernel
theorem d_N_step_146 : decode m_N_step.2.1 146 = .ok (.getfield 13, 3) := by decide +kernel
theorem d_N_step_149 : decode m_N_step.2.1 149 = .ok (.iload_n 2, 1) := by decide +kernel
theorem d_N_step_150 : decode m_N_step.2.1 150 = .ok (.iaload, 1) := by decide +kernel
theorem d_N_step_151 : decode m_N_step.2.1 151 = .ok (.aload_n 0, 1) := by decide +kernel
theorem d_N_step_152 : decode m_N_step.2.1 152 = .ok (.getfield 16, 3) := by decide +kernel
theorem d_N_step_155 : decode m_N_step.2.1 155 = .ok (.iload_n 2, 1) := by decide +kernel
theorem d_N_step_156 : decode m_N_step.2.1 156 = .ok (.iaload, 1) := by decide +kernel
theorem d_N_step_157 : decode m_N_step.2.1 157 = .ok (.invokevirtual 162, 3) := by decide +kernel
theorem d_N_step_160 : decode m_N_step.2.1 160 = .ok (.goto 28, 3) := by decide +kernel
theorem d_N_step_163 : decode m_N_step.2.1 163 = .ok (.aload_n 0, 1) := by decide +kernel
theorem d_N_step_164 : decode m_N_step.2.1 164 = .ok (.iload_n 1, 1) := by decide +kernel
theorem d_N_step_165 : decode m_N_step.2.1 165 = .ok (.iload 4, 2) := by decide +kernel
theorem d_N_step_167 : decode m_N_step.2.1 167 = .ok (.aload_n 0, 1) := by decide +kernel
theorem d_N_step_168 : decode m_N_step.2.1 168 = .ok (.getfield 13, 3) := by decide +kernel
theorem d_N_step_171 : decode m_N_step.2.1 171 = .ok (.iload_n 2, 1) := by decide +kernel
theorem d_N_step_172 : decode m_N_step.2.1 172 = .ok (.iaload, 1) := by decide +kernel
theorem d_N_step_173 : decode m_N_step.2.1 173 = .ok (.aload_n 0, 1) := by decide +kernel
theorem d_N_step_174 : decode m_N_step.2.1 174 = .ok (.getfield 16, 3) := by decide +kernel
theorem d_N_step_177 : decode m_N_step.2.1 177 = .ok (.iload_n 2, 1) := by decide +kernel
theorem d_N_step_178 : decode m_N_step.2.1 178 = .ok (.iaload, 1) := by decide +kernel
theorem d_N_step_179 : decode m_N_step.2.1 179 = .ok (.aload_n 0, 1) := by decide +kernel
theorem d_N_step_180 : decode m_N_step.2.1 180 = .ok (.getfield 19, 3) := by decide +kernel
theorem d_N_step_183 : decode m_N_step.2.1 183 = .ok (.iload_n 2, 1) := by decide +kernel
theorem d_N_step_184 : decode m_N_step.2.1 184 = .ok (.iaload, 1) := by decide +kernel
theorem d_N_step_185 : decode m_N_step.2.1 185 = .ok (.invokevirtual 166, 3) := by decide +kernel
theorem d_N_step_188 : decode m_N_step.2.1 188 = .ok (.istore_n 3, 1) := by decide +kernel
theorem d_N_step_189 : decode m_N_step.2.1 189 = .ok (.iload_n 3, 1) := by decide +kernel
theorem d_N_step_190 : decode m_N_step.2.1 190 = .ok (.ifCond .ne 10, 3) := by decide +kernel
theorem d_N_step_193 : decode m_N_step.2.1 193 = .ok (.aload_n 0, 1) := by decide +kernel
theorem d_N_step_194 : decode m_N_step.2.1 194 = .ok (.iload_n 1, 1) := by decide +kernel
theorem d_N_step_195 : decode m_N_step.2.1 195 = .ok (.bipush 13, 2) := by decide +kernel
theorem d_N_step_197 : decode m_N_step.2.1 197 = .ok (.invokevirtual 146, 3) := by decide +kernel
theorem d_N_step_200 : decode m_N_step.2.1 200 = .ok (.return_, 1) := by decide +kernel
theorem d_N_begin_0 : decode m_N_begin.2.1 0 = .ok (.iload_n 1, 1) := by decide +kernel
theorem d_N_begin_1 : decode m_N_begin.2.1 1 = .ok (.iconst 0, 1) := by decide +kernel
theorem d_N_begin_2 : decode m_N_begin.2.1 2 = .ok (.bipush 47, 2) := by decide +kernel
theorem d_N_begin_4 : decode m_N_begin.2.1 4 = .ok (.invokestatic 81, 3) := by decide +kernel
theorem d_N_begin_7 : decode m_N_begin.2.1 7 = .ok (.ifCond .eq 12, 3) := by decide +kernel
theorem d_N_begin_10 : decode m_N_begin.2.1 10 = .ok (.aload_n 0, 1) := by decide +kernel
theorem d_N_begin_11 : decode m_N_begin.2.1 11 = .ok (.getfield 131, 3) := by decide +kernel
theorem d_N_begin_14 : decode m_N_begin.2.1 14 = .ok (.bipush 12, 2) := by decide +kernel
theorem d_N_begin_16 : decode m_N_begin.2.1 16 = .ok (.if_icmp .lt 5, 3) := by decide +kernel
theorem d_N_begin_19 : decode m_N_begin.2.1 19 = .ok (.iconst (-1), 1) := by decide +kernel
theorem d_N_begin_20 : decode m_N_begin.2.1 20 = .ok (.ireturn, 1) := by decide +kernel
theorem d_N_begin_21 : decode m_N_begin.2.1 21 = .ok (.aload_n 0, 1) := by decide +kernel
theorem d_N_begin_22 : decode m_N_begin.2.1 22 = .ok (.sipush 252, 3) := by decide +kernel
theorem d_N_begin_25 : decode m_N_begin.2.1 25 = .ok (.iconst 0, 1) := by decide +kernel
theorem d_N_begin_26 : decode m_N_begin.2.1 26 = .ok (.iload_n 2, 1) := by decide +kernel
theorem d_N_begin_27 : decode m_N_begin.2.1 27 = .ok (.invokevirtual 115, 3) := by decide +kernel
theorem d_N_begin_30 : decode m_N_begin.2.1 30 = .ok (.aload_n 0, 1) := by decide +kernel
theorem d_N_begin_31 : decode m_N_begin.2.1 31 = .ok (.iload_n 1, 1) := by decide +kernel
theorem d_N_begin_32 : decode m_N_begin.2.1 32 = .ok (.sipush 252, 3) := by decide +kernel
theorem d_N_begin_35 : decode m_N_begin.2.1 35 = .ok (.invokevirtual 152, 3) := by decide +kernel
theorem d_N_begin_38 : decode m_N_begin.2.1 38 = .ok (.ireturn, 1) := by decide +kernel
theorem d_N_tell_0 : decode m_N_tell.2.1 0 = .ok (.iload_n 1, 1) := by decide +kernel
theorem d_N_tell_1 : decode m_N_tell.2.1 1 = .ok (.iconst 0, 1) := by decide +kernel
theorem d_N_tell_2 : decode m_N_tell.2.1 2 = .ok (.aload_n 0, 1) := by decide +kernel
theorem d_N_tell_3 : decode m_N_tell.2.1 3 = .ok (.getfield 131, 3) := by decide +kernel
theorem d_N_tell_6 : decode m_N_tell.2.1 6 = .ok (.iconst 1, 1) := by decide +kernel
theorem d_N_tell_7 : decode m_N_tell.2.1 7 = .ok (.isub, 1) := by decide +kernel
theorem d_N_tell_8 : decode m_N_tell.2.1 8 = .ok (.invokestatic 81, 3) := by decide +kernel
theorem d_N_tell_11 : decode m_N_tell.2.1 11 = .ok (.ifCond .eq 13, 3) := by decide +kernel
theorem d_N_tell_14 : decode m_N_tell.2.1 14 = .ok (.aload_n 0, 1) := by decide +kernel
theorem d_N_tell_15 : decode m_N_tell.2.1 15 = .ok (.getfield 25, 3) := by decide +kernel
theorem d_N_tell_18 : decode m_N_tell.2.1 18 = .ok (.iload_n 1, 1) := by decide +kernel
theorem d_N_tell_19 : decode m_N_tell.2.1 19 = .ok (.iaload, 1) := by decide +kernel
theorem d_N_tell_20 : decode m_N_tell.2.1 20 = .ok (.iconst 3, 1) := by decide +kernel
theorem d_N_tell_21 : decode m_N_tell.2.1 21 = .ok (.if_icmp .ne 5, 3) := by decide +kernel
theorem d_N_tell_24 : decode m_N_tell.2.1 24 = .ok (.iconst 0, 1) := by decide +kernel
theorem d_N_tell_25 : decode m_N_tell.2.1 25 = .ok (.ireturn, 1) := by decide +kernel
theorem d_N_tell_26 : decode m_N_tell.2.1 26 = .ok (.aload_n 0, 1) := by decide +kernel
theorem d_N_tell_27 : decode m_N_tell.2.1 27 = .ok (.sipush 252, 3) := by decide +kernel
theorem d_N_tell_30 : decode m_N_tell.2.1 30 = .ok (.iconst 0, 1) := by decide +kernel
theorem d_N_tell_31 : decode m_N_tell.2.1 31 = .ok (.iload_n 2, 1) := by decide +kernel
theorem d_N_tell_32 : decode m_N_tell.2.1 32 = .ok (.invokevirtual 115, 3) := by decide +kernel
theorem d_N_tell_35 : decode m_N_tell.2.1 35 = .ok (.aload_n 0, 1) := by decide +kernel
theorem d_N_tell_36 : decode m_N_tell.2.1 36 = .ok (.iload_n 1, 1) := by decide +kernel
theorem d_N_tell_37 : decode m_N_tell.2.1 37 = .ok (.sipush 252, 3) := by decide +kernel
theorem d_N_tell_40 : decode m_N_tell.2.1 40 = .ok (.invokevirtual 122, 3) := by decide +kernel
theorem d_N_tell_43 : decode m_N_tell.2.1 43 = .ok (.iconst 1, 1) := by decide +kernel
theorem d_N_tell_44 : decode m_N_tell.2.1 44 = .ok (.ireturn, 1) := by decide +kernel
theorem d_N_run_0 : decode m_N_run.2.1 0 = .ok (.iload_n 1, 1) := by decide +kernel
theorem d_N_run_1 : decode m_N_run.2.1 1 = .ok (.iconst 1, 1) := by decide +kernel
theorem d_N_run_2 : decode m_N_run.2.1 2 = .ok (.bipush 15, 2) := by decide +kernel
theorem d_N_run_4 : decode m_N_run.2.1 4 = .ok (.invokestatic 81, 3) := by decide +kernel
theorem d_N_run_7 : decode m_N_run.2.1 7 = .ok (.ifCond .ne 5, 3) := by decide +kernel
theorem d_N_run_10 : decode m_N_run.2.1 10 = .ok (.iconst (-1), 1) := by decide +kernel
theorem d_N_run_11 : decode m_N_run.2.1 11 = .ok (.ireturn, 1) := by decide +kernel
theorem d_N_run_12 : decode m_N_run.2.1 12 = .ok (.iconst 0, 1) := by decide +kernel
theorem d_N_run_13 : decode m_N_run.2.1 13 = .ok (.istore_n 2, 1) := by decide +kernel
theorem d_N_run_14 : decode m_N_run.2.1 14 = .ok (.iload_n 2, 1) := by decide +kernel
theorem d_N_run_15 : decode m_N_run.2.1 15 = .ok (.iload_n 1, 1) := by decide +kernel
theorem d_N_run_16 : decode m_N_run.2.1 16 = .ok (.if_icmp .ge 99, 3) := by decide +kernel
theorem d_N_run_19 : decode m_N_run.2.1 19 = .ok (.aload_n 0, 1) := by decide +kernel
theorem d_N_run_20 : decode m_N_run.2.1 20 = .ok (.getfield 101, 3) := by decide +kernel
theorem d_N_run_23 : decode m_N_run.2.1 23 = .ok (.ifCond .le 92, 3) := by decide +kernel
theorem d_N_run_26 : decode m_N_run.2.1 26 = .ok (.aload_n 0, 1) := by decide +kernel
theorem d_N_run_27 : decode m_N_run.2.1 27 = .ok (.getfield 53, 3) := by decide +kernel
theorem d_N_run_30 : decode m_N_run.2.1 30 = .ok (.iconst 0, 1) := by decide +kernel
theorem d_N_run_31 : decode m_N_run.2.1 31 = .ok (.iaload, 1) := by decide +kernel
theorem d_N_run_32 : decode m_N_run.2.1 32 = .ok (.istore_n 3, 1) := by decide +kernel
theorem d_N_run_33 : decode m_N_run.2.1 33 = .ok (.aload_n 0, 1) := by decide +kernel
theorem d_N_run_34 : decode m_N_run.2.1 34 = .ok (.aload_n 0, 1) := by decide +kernel
theorem d_N_run_35 : decode m_N_run.2.1 35 = .ok (.getfield 104, 3) := by decide +kernel
theorem d_N_run_38 : decode m_N_run.2.1 38 = .ok (.iconst 1, 1) := by decide +kernel
theorem d_N_run_39 : decode m_N_run.2.1 39 = .ok (.iadd, 1) := by decide +kernel
theorem d_N_run_40 : decode m_N_run.2.1 40 = .ok (.putfield 104, 3) := by decide +kernel
theorem d_N_run_43 : decode m_N_run.2.1 43 = .ok (.aload_n 0, 1) := by decide +kernel
theorem d_N_run_44 : decode m_N_run.2.1 44 = .ok (.iload_n 3, 1) := by decide +kernel
theorem d_N_run_45 : decode m_N_run.2.1 45 = .ok (.invokevirtual 169, 3) := by decide +kernel
theorem d_N_run_48 : decode m_N_run.2.1 48 = .ok (.iload_n 2, 1) := by decide +kernel
theorem d_N_run_49 : decode m_N_run.2.1 49 = .ok (.iconst 1, 1) := by decide +kernel
theorem d_N_run_50 : decode m_N_run.2.1 50 = .ok (.iadd, 1) := by decide +kernel
theorem d_N_run_51 : decode m_N_run.2.1 51 = .ok (.istore_n 2, 1) := by decide +kernel
theorem d_N_run_52 : decode m_N_run.2.1 52 = .ok (.aload_n 0, 1) := by decide +kernel
theorem d_N_run_53 : decode m_N_run.2.1 53 = .ok (.getfield 101, 3) := by decide +kernel
theorem d_N_run_56 : decode m_N_run.2.1 56 = .ok (.ifCond .le 27, 3) := by decide +kernel
theorem d_N_run_59 : decode m_N_run.2.1 59 = .ok (.aload_n 0, 1) := by decide +kernel
theorem d_N_run_60 : decode m_N_run.2.1 60 = .ok (.getfield 53, 3) := by decide +kernel
theorem d_N_run_63 : decode m_N_run.2.1 63 = .ok (.iconst 0, 1) := by decide +kernel
theorem d_N_run_64 : decode m_N_run.2.1 64 = .ok (.iaload, 1) := by decide +kernel
theorem d_N_run_65 : decode m_N_run.2.1 65 = .ok (.iload_n 3, 1) := by decide +kernel
theorem d_N_run_66 : decode m_N_run.2.1 66 = .ok (.if_icmp .ne 17, 3) := by decide +kernel
theorem d_N_run_69 : decode m_N_run.2.1 69 = .ok (.aload_n 0, 1) := by decide +kernel
theorem d_N_run_70 : decode m_N_run.2.1 70 = .ok (.getfield 25, 3) := by decide +kernel
theorem d_N_run_73 : decode m_N_run.2.1 73 = .ok (.iload_n 3, 1) := by decide +kernel
theorem d_N_run_74 : decode m_N_run.2.1 74 = .ok (.iaload, 1) := by decide +kernel
theorem d_N_run_75 : decode m_N_run.2.1 75 = .ok (.iconst 1, 1) := by decide +kernel
theorem d_N_run_76 : decode m_N_run.2.1 76 = .ok (.if_icmp .ne 7, 3) := by decide +kernel
theorem d_N_run_79 : decode m_N_run.2.1 79 = .ok (.iconst 1, 1) := by decide +kernel
theorem d_N_run_80 : decode m_N_run.2.1 80 = .ok (.goto 4, 3) := by decide +kernel
theorem d_N_run_83 : decode m_N_run.2.1 83 = .ok (.iconst 0, 1) := by decide +kernel
theorem d_N_run_84 : decode m_N_run.2.1 84 = .ok (.istore 4, 2) := by decide +kernel
theorem d_N_run_86 : decode m_N_run.2.1 86 = .ok (.iload 4, 2) := by decide +kernel
theorem d_N_run_88 : decode m_N_run.2.1 88 = .ok (.ifCond .eq 24, 3) := by decide +kernel
theorem d_N_run_91 : decode m_N_run.2.1 91 = .ok (.aload_n 0, 1) := by decide +kernel
theorem d_N_run_92 : decode m_N_run.2.1 92 = .ok (.getfield 104, 3) := by decide +kernel
theorem d_N_run_95 : decode m_N_run.2.1 95 = .ok (.aload_n 0, 1) := by decide +kernel
theorem d_N_run_96 : decode m_N_run.2.1 96 = .ok (.getfield 62, 3) := by decide +kernel
theorem d_N_run_99 : decode m_N_run.2.1 99 = .ok (.if_icmp .lt 13, 3) := by decide +kernel
theorem d_N_run_102 : decode m_N_run.2.1 102 = .ok (.aload_n 0, 1) := by decide +kernel
theorem d_N_run_103 : decode m_N_run.2.1 103 = .ok (.iload_n 3, 1) := by decide +kernel
theorem d_N_run_104 : decode m_N_run.2.1 104 = .ok (.invokevirtual 125, 3) := by decide +kernel
theorem d_N_run_107 : decode m_N_run.2.1 107 = .ok (.aload_n 0, 1) := by decide +kernel
theorem d_N_run_108 : decode m_N_run.2.1 108 = .ok (.iload_n 3, 1) := by decide +kernel
theorem d_N_run_109 : decode m_N_run.2.1 109 = .ok (.invokevirtual 111, 3) := by decide +kernel
theorem d_N_run_112 : decode m_N_run.2.1 112 = .ok (.goto (-98), 3) := by decide +kernel
theorem d_N_run_115 : decode m_N_run.2.1 115 = .ok (.iload_n 2, 1) := by decide +kernel
theorem d_N_run_116 : decode m_N_run.2.1 116 = .ok (.ireturn, 1) := by decide +kernel
theorem d_N_clear_0 : decode m_N_clear.2.1 0 = .ok (.aload_n 0, 1) := by decide +kernel
theorem d_N_clear_1 : decode m_N_clear.2.1 1 = .ok (.getfield 131, 3) := by decide +kernel
theorem d_N_clear_4 : decode m_N_clear.2.1 4 = .ok (.istore_n 2, 1) := by decide +kernel
theorem d_N_clear_5 : decode m_N_clear.2.1 5 = .ok (.aload_n 0, 1) := by decide +kernel
theorem d_N_clear_6 : decode m_N_clear.2.1 6 = .ok (.iconst 0, 1) := by decide +kernel
theorem d_N_clear_7 : decode m_N_clear.2.1 7 = .ok (.putfield 131, 3) := by decide +kernel
theorem d_N_clear_10 : decode m_N_clear.2.1 10 = .ok (.aload_n 0, 1) := by decide +kernel
theorem d_N_clear_11 : decode m_N_clear.2.1 11 = .ok (.iconst 0, 1) := by decide +kernel
theorem d_N_clear_12 : decode m_N_clear.2.1 12 = .ok (.putfield 101, 3) := by decide +kernel
theorem d_N_clear_15 : decode m_N_clear.2.1 15 = .ok (.aload_n 0, 1) := by decide +kernel
theorem d_N_clear_16 : decode m_N_clear.2.1 16 = .ok (.iconst 0, 1) := by decide +kernel
theorem d_N_clear_17 : decode m_N_clear.2.1 17 = .ok (.putfield 104, 3) := by decide +kernel
theorem d_N_clear_20 : decode m_N_clear.2.1 20 = .ok (.aload_n 0, 1) := by decide +kernel
theorem d_N_clear_21 : decode m_N_clear.2.1 21 = .ok (.iload_n 1, 1) := by decide +kernel
theorem d_N_clear_22 : decode m_N_clear.2.1 22 = .ok (.ifCond .eq 7, 3) := by decide +kernel
theorem d_N_clear_25 : decode m_N_clear.2.1 25 = .ok (.iconst 0, 1) := by decide +kernel
theorem d_N_clear_26 : decode m_N_clear.2.1 26 = .ok (.goto 7, 3) := by decide +kernel
theorem d_N_clear_29 : decode m_N_clear.2.1 29 = .ok (.aload_n 0, 1) := by decide +kernel
theorem d_N_clear_30 : decode m_N_clear.2.1 30 = .ok (.getfield 85, 3) := by decide +kernel
theorem d_N_clear_33 : decode m_N_clear.2.1 33 = .ok (.putfield 85, 3) := by decide +kernel
theorem d_N_clear_36 : decode m_N_clear.2.1 36 = .ok (.iload_n 2, 1) := by decide +kernel
theorem d_N_clear_37 : decode m_N_clear.2.1 37 = .ok (.ireturn, 1) := by decide +kernel
theorem d_N_process_0 : decode m_N_process.2.1 0 = .ok (.iload_n 1, 1) := by decide +kernel
theorem d_N_process_1 : decode m_N_process.2.1 1 = .ok (.iconst 0, 1) := by decide +kernel
theorem d_N_process_2 : decode m_N_process.2.1 2 = .ok (.aload_n 0, 1) := by decide +kernel
theorem d_N_process_3 : decode m_N_process.2.1 3 = .ok (.getfield 131, 3) := by decide +kernel
theorem d_N_process_6 : decode m_N_process.2.1 6 = .ok (.iconst 1, 1) := by decide +kernel
theorem d_N_process_7 : decode m_N_process.2.1 7 = .ok (.isub, 1) := by decide +kernel
theorem d_N_process_8 : decode m_N_process.2.1 8 = .ok (.invokestatic 81, 3) := by decide +kernel
theorem d_N_process_11 : decode m_N_process.2.1 11 = .ok (.ifCond .ne 5, 3) := by decide +kernel
theorem d_N_process_14 : decode m_N_process.2.1 14 = .ok (.iconst (-1), 1) := by decide +kernel
theorem d_N_process_15 : decode m_N_process.2.1 15 = .ok (.ireturn, 1) := by decide +kernel
theorem d_N_process_16 : decode m_N_process.2.1 16 = .ok (.iload_n 2, 1) := by decide +kernel
theorem d_N_process_17 : decode m_N_process.2.1 17 = .ok (.iconst 4, 1) := by decide +kernel
theorem d_N_process_18 : decode m_N_process.2.1 18 = .ok (.if_icmp .ge 60, 3) := by decide +kernel
theorem d_N_process_21 : decode m_N_process.2.1 21 = .ok (.iload_n 2, 1) := by decide +kernel
theorem d_N_process_22 : decode m_N_process.2.1 22 = .ok (.ifCond .ne 12, 3) := by decide +kernel
theorem d_N_process_25 : decode m_N_process.2.1 25 = .ok (.aload_n 0, 1) := by decide +kernel
theorem d_N_process_26 : decode m_N_process.2.1 26 = .ok (.getfield 25, 3) := by decide +kernel
theorem d_N_process_29 : decode m_N_process.2.1 29 = .ok (.iload_n 1, 1) := by decide +kernel
theorem d_N_process_30 : decode m_N_process.2.1 30 = .ok (.iaload, 1) := by decide +kernel
theorem d_N_process_31 : decode m_N_process.2.1 31 = .ok (.goto 46, 3) := by decide +kernel
theorem d_N_process_34 : decode m_N_process.2.1 34 = .ok (.iload_n 2, 1) := by decide +kernel
theorem d_N_process_35 : decode m_N_process.2.1 35 = .ok (.iconst 1, 1) := by decide +kernel
theorem d_N_process_36 : decode m_N_process.2.1 36 = .ok (.if_icmp .ne 12, 3) := by decide +kernel
theorem d_N_process_39 : decode m_N_process.2.1 39 = .ok (.aload_n 0, 1) := by decide +kernel
theorem d_N_process_40 : decode m_N_process.2.1 40 = .ok (.getfield 28, 3) := by decide +kernel
theorem d_N_process_43 : decode m_N_process.2.1 43 = .ok (.iload_n 1, 1) := by decide +kernel
theorem d_N_process_44 : decode m_N_process.2.1 44 = .ok (.iaload, 1) := by decide +kernel
theorem d_N_process_45 : decode m_N_process.2.1 45 = .ok (.goto 32, 3) := by decide +kernel
theorem d_N_process_48 : decode m_N_process.2.1 48 = .ok (.iload_n 2, 1) := by decide +kernel
end
section
/-! Decode rows (printed by wip/gen/dec.py). -/
theorem d_N_process_49 : decode m_N_process.2.1 49 = .ok (.iconst 2, 1) := by decide +kernel
theorem d_N_process_50 : decode m_N_process.2.1 50 = .ok (.if_icmp .ne 12, 3) := by decide +kernel
theorem d_N_process_53 : decode m_N_process.2.1 53 = .ok (.aload_n 0, 1) := by decide +kernel
theorem d_N_process_54 : decode m_N_process.2.1 54 = .ok (.getfield 31, 3) := by decide +kernel
theorem d_N_process_57 : decode m_N_process.2.1 57 = .ok (.iload_n 1, 1) := by decide +kernel
theorem d_N_process_58 : decode m_N_process.2.1 58 = .ok (.iaload, 1) := by decide +kernel
theorem d_N_process_59 : decode m_N_process.2.1 59 = .ok (.goto 18, 3) := by decide +kernel
theorem d_N_process_62 : decode m_N_process.2.1 62 = .ok (.iload_n 2, 1) := by decide +kernel
theorem d_N_process_63 : decode m_N_process.2.1 63 = .ok (.iconst 3, 1) := by decide +kernel
theorem d_N_process_64 : decode m_N_process.2.1 64 = .ok (.if_icmp .ne 12, 3) := by decide +kernel
theorem d_N_process_67 : decode m_N_process.2.1 67 = .ok (.aload_n 0, 1) := by decide +kernel
theorem d_N_process_68 : decode m_N_process.2.1 68 = .ok (.getfield 34, 3) := by decide +kernel
theorem d_N_process_71 : decode m_N_process.2.1 71 = .ok (.iload_n 1, 1) := by decide +kernel
theorem d_N_process_72 : decode m_N_process.2.1 72 = .ok (.iaload, 1) := by decide +kernel
theorem d_N_process_73 : decode m_N_process.2.1 73 = .ok (.goto 4, 3) := by decide +kernel
theorem d_N_process_76 : decode m_N_process.2.1 76 = .ok (.iconst (-1), 1) := by decide +kernel
theorem d_N_process_77 : decode m_N_process.2.1 77 = .ok (.ireturn, 1) := by decide +kernel
theorem d_N_process_78 : decode m_N_process.2.1 78 = .ok (.iload_n 2, 1) := by decide +kernel
theorem d_N_process_79 : decode m_N_process.2.1 79 = .ok (.iconst 4, 1) := by decide +kernel
theorem d_N_process_80 : decode m_N_process.2.1 80 = .ok (.if_icmp .ne 12, 3) := by decide +kernel
theorem d_N_process_83 : decode m_N_process.2.1 83 = .ok (.aload_n 0, 1) := by decide +kernel
theorem d_N_process_84 : decode m_N_process.2.1 84 = .ok (.getfield 37, 3) := by decide +kernel
theorem d_N_process_87 : decode m_N_process.2.1 87 = .ok (.iload_n 1, 1) := by decide +kernel
theorem d_N_process_88 : decode m_N_process.2.1 88 = .ok (.iaload, 1) := by decide +kernel
theorem d_N_process_89 : decode m_N_process.2.1 89 = .ok (.goto 56, 3) := by decide +kernel
theorem d_N_process_92 : decode m_N_process.2.1 92 = .ok (.iload_n 2, 1) := by decide +kernel
theorem d_N_process_93 : decode m_N_process.2.1 93 = .ok (.iconst 5, 1) := by decide +kernel
theorem d_N_process_94 : decode m_N_process.2.1 94 = .ok (.if_icmp .ne 12, 3) := by decide +kernel
theorem d_N_process_97 : decode m_N_process.2.1 97 = .ok (.aload_n 0, 1) := by decide +kernel
theorem d_N_process_98 : decode m_N_process.2.1 98 = .ok (.getfield 43, 3) := by decide +kernel
theorem d_N_process_101 : decode m_N_process.2.1 101 = .ok (.iload_n 1, 1) := by decide +kernel
theorem d_N_process_102 : decode m_N_process.2.1 102 = .ok (.iaload, 1) := by decide +kernel
theorem d_N_process_103 : decode m_N_process.2.1 103 = .ok (.goto 42, 3) := by decide +kernel
theorem d_N_process_106 : decode m_N_process.2.1 106 = .ok (.iload_n 2, 1) := by decide +kernel
theorem d_N_process_107 : decode m_N_process.2.1 107 = .ok (.bipush 6, 2) := by decide +kernel
theorem d_N_process_109 : decode m_N_process.2.1 109 = .ok (.if_icmp .ne 20, 3) := by decide +kernel
theorem d_N_process_112 : decode m_N_process.2.1 112 = .ok (.aload_n 0, 1) := by decide +kernel
theorem d_N_process_113 : decode m_N_process.2.1 113 = .ok (.getfield 46, 3) := by decide +kernel
theorem d_N_process_116 : decode m_N_process.2.1 116 = .ok (.iload_n 1, 1) := by decide +kernel
theorem d_N_process_117 : decode m_N_process.2.1 117 = .ok (.baload, 1) := by decide +kernel
theorem d_N_process_118 : decode m_N_process.2.1 118 = .ok (.ifCond .eq 7, 3) := by decide +kernel
theorem d_N_process_121 : decode m_N_process.2.1 121 = .ok (.iconst 1, 1) := by decide +kernel
theorem d_N_process_122 : decode m_N_process.2.1 122 = .ok (.goto 23, 3) := by decide +kernel
theorem d_N_process_125 : decode m_N_process.2.1 125 = .ok (.iconst 0, 1) := by decide +kernel
theorem d_N_process_126 : decode m_N_process.2.1 126 = .ok (.goto 19, 3) := by decide +kernel
theorem d_N_process_129 : decode m_N_process.2.1 129 = .ok (.iload_n 2, 1) := by decide +kernel
theorem d_N_process_130 : decode m_N_process.2.1 130 = .ok (.bipush 7, 2) := by decide +kernel
theorem d_N_process_132 : decode m_N_process.2.1 132 = .ok (.if_icmp .ne 12, 3) := by decide +kernel
theorem d_N_process_135 : decode m_N_process.2.1 135 = .ok (.aload_n 0, 1) := by decide +kernel
theorem d_N_process_136 : decode m_N_process.2.1 136 = .ok (.getfield 50, 3) := by decide +kernel
theorem d_N_process_139 : decode m_N_process.2.1 139 = .ok (.iload_n 1, 1) := by decide +kernel
theorem d_N_process_140 : decode m_N_process.2.1 140 = .ok (.iaload, 1) := by decide +kernel
theorem d_N_process_141 : decode m_N_process.2.1 141 = .ok (.goto 4, 3) := by decide +kernel
theorem d_N_process_144 : decode m_N_process.2.1 144 = .ok (.iconst (-1), 1) := by decide +kernel
theorem d_N_process_145 : decode m_N_process.2.1 145 = .ok (.ireturn, 1) := by decide +kernel
theorem d_N_queue_0 : decode m_N_queue.2.1 0 = .ok (.iload_n 1, 1) := by decide +kernel
theorem d_N_queue_1 : decode m_N_queue.2.1 1 = .ok (.iconst 0, 1) := by decide +kernel
theorem d_N_queue_2 : decode m_N_queue.2.1 2 = .ok (.aload_n 0, 1) := by decide +kernel
theorem d_N_queue_3 : decode m_N_queue.2.1 3 = .ok (.getfield 101, 3) := by decide +kernel
theorem d_N_queue_6 : decode m_N_queue.2.1 6 = .ok (.iconst 1, 1) := by decide +kernel
theorem d_N_queue_7 : decode m_N_queue.2.1 7 = .ok (.isub, 1) := by decide +kernel
theorem d_N_queue_8 : decode m_N_queue.2.1 8 = .ok (.invokestatic 81, 3) := by decide +kernel
theorem d_N_queue_11 : decode m_N_queue.2.1 11 = .ok (.ifCond .eq 12, 3) := by decide +kernel
theorem d_N_queue_14 : decode m_N_queue.2.1 14 = .ok (.aload_n 0, 1) := by decide +kernel
theorem d_N_queue_15 : decode m_N_queue.2.1 15 = .ok (.getfield 53, 3) := by decide +kernel
theorem d_N_queue_18 : decode m_N_queue.2.1 18 = .ok (.iload_n 1, 1) := by decide +kernel
theorem d_N_queue_19 : decode m_N_queue.2.1 19 = .ok (.iaload, 1) := by decide +kernel
theorem d_N_queue_20 : decode m_N_queue.2.1 20 = .ok (.goto 4, 3) := by decide +kernel
theorem d_N_queue_23 : decode m_N_queue.2.1 23 = .ok (.iconst (-1), 1) := by decide +kernel
theorem d_N_queue_24 : decode m_N_queue.2.1 24 = .ok (.ireturn, 1) := by decide +kernel
theorem d_N_processes_0 : decode m_N_processes.2.1 0 = .ok (.aload_n 0, 1) := by decide +kernel
theorem d_N_processes_1 : decode m_N_processes.2.1 1 = .ok (.getfield 131, 3) := by decide +kernel
theorem d_N_processes_4 : decode m_N_processes.2.1 4 = .ok (.ireturn, 1) := by decide +kernel
theorem d_N_isTerm_0 : decode m_N_isTerm.2.1 0 = .ok (.iload_n 1, 1) := by decide +kernel
theorem d_N_isTerm_1 : decode m_N_isTerm.2.1 1 = .ok (.iconst 0, 1) := by decide +kernel
theorem d_N_isTerm_2 : decode m_N_isTerm.2.1 2 = .ok (.aload_n 0, 1) := by decide +kernel
theorem d_N_isTerm_3 : decode m_N_isTerm.2.1 3 = .ok (.getfield 131, 3) := by decide +kernel
theorem d_N_isTerm_6 : decode m_N_isTerm.2.1 6 = .ok (.iconst 1, 1) := by decide +kernel
theorem d_N_isTerm_7 : decode m_N_isTerm.2.1 7 = .ok (.isub, 1) := by decide +kernel
theorem d_N_isTerm_8 : decode m_N_isTerm.2.1 8 = .ok (.invokestatic 81, 3) := by decide +kernel
theorem d_N_isTerm_11 : decode m_N_isTerm.2.1 11 = .ok (.ifCond .eq 52, 3) := by decide +kernel
theorem d_N_isTerm_14 : decode m_N_isTerm.2.1 14 = .ok (.iload_n 2, 1) := by decide +kernel
theorem d_N_isTerm_15 : decode m_N_isTerm.2.1 15 = .ok (.iconst 0, 1) := by decide +kernel
theorem d_N_isTerm_16 : decode m_N_isTerm.2.1 16 = .ok (.bipush 7, 2) := by decide +kernel
theorem d_N_isTerm_18 : decode m_N_isTerm.2.1 18 = .ok (.invokestatic 81, 3) := by decide +kernel
theorem d_N_isTerm_21 : decode m_N_isTerm.2.1 21 = .ok (.ifCond .ne 38, 3) := by decide +kernel
theorem d_N_isTerm_24 : decode m_N_isTerm.2.1 24 = .ok (.iload_n 2, 1) := by decide +kernel
theorem d_N_isTerm_25 : decode m_N_isTerm.2.1 25 = .ok (.bipush 8, 2) := by decide +kernel
theorem d_N_isTerm_27 : decode m_N_isTerm.2.1 27 = .ok (.if_icmp .ne 13, 3) := by decide +kernel
theorem d_N_isTerm_30 : decode m_N_isTerm.2.1 30 = .ok (.aload_n 0, 1) := by decide +kernel
theorem d_N_isTerm_31 : decode m_N_isTerm.2.1 31 = .ok (.getfield 25, 3) := by decide +kernel
theorem d_N_isTerm_34 : decode m_N_isTerm.2.1 34 = .ok (.iload_n 1, 1) := by decide +kernel
theorem d_N_isTerm_35 : decode m_N_isTerm.2.1 35 = .ok (.iaload, 1) := by decide +kernel
theorem d_N_isTerm_36 : decode m_N_isTerm.2.1 36 = .ok (.iconst 3, 1) := by decide +kernel
theorem d_N_isTerm_37 : decode m_N_isTerm.2.1 37 = .ok (.if_icmp .eq 22, 3) := by decide +kernel
theorem d_N_isTerm_40 : decode m_N_isTerm.2.1 40 = .ok (.iload_n 2, 1) := by decide +kernel
theorem d_N_isTerm_41 : decode m_N_isTerm.2.1 41 = .ok (.bipush 8, 2) := by decide +kernel
theorem d_N_isTerm_43 : decode m_N_isTerm.2.1 43 = .ok (.if_icmp .le 20, 3) := by decide +kernel
theorem d_N_isTerm_46 : decode m_N_isTerm.2.1 46 = .ok (.iload_n 2, 1) := by decide +kernel
theorem d_N_isTerm_47 : decode m_N_isTerm.2.1 47 = .ok (.bipush 9, 2) := by decide +kernel
theorem d_N_isTerm_49 : decode m_N_isTerm.2.1 49 = .ok (.isub, 1) := by decide +kernel
theorem d_N_isTerm_50 : decode m_N_isTerm.2.1 50 = .ok (.aload_n 0, 1) := by decide +kernel
theorem d_N_isTerm_51 : decode m_N_isTerm.2.1 51 = .ok (.getfield 34, 3) := by decide +kernel
theorem d_N_isTerm_54 : decode m_N_isTerm.2.1 54 = .ok (.iload_n 1, 1) := by decide +kernel
theorem d_N_isTerm_55 : decode m_N_isTerm.2.1 55 = .ok (.iaload, 1) := by decide +kernel
theorem d_N_isTerm_56 : decode m_N_isTerm.2.1 56 = .ok (.if_icmp .ge 7, 3) := by decide +kernel
theorem d_N_isTerm_59 : decode m_N_isTerm.2.1 59 = .ok (.iconst 1, 1) := by decide +kernel
theorem d_N_isTerm_60 : decode m_N_isTerm.2.1 60 = .ok (.goto 4, 3) := by decide +kernel
theorem d_N_isTerm_63 : decode m_N_isTerm.2.1 63 = .ok (.iconst 0, 1) := by decide +kernel
theorem d_N_isTerm_64 : decode m_N_isTerm.2.1 64 = .ok (.ireturn, 1) := by decide +kernel
theorem d_N_term_0 : decode m_N_term.2.1 0 = .ok (.aload_n 0, 1) := by decide +kernel
theorem d_N_term_1 : decode m_N_term.2.1 1 = .ok (.iload_n 1, 1) := by decide +kernel
theorem d_N_term_2 : decode m_N_term.2.1 2 = .ok (.iload_n 2, 1) := by decide +kernel
theorem d_N_term_3 : decode m_N_term.2.1 3 = .ok (.invokevirtual 172, 3) := by decide +kernel
theorem d_N_term_6 : decode m_N_term.2.1 6 = .ok (.ifCond .ne 5, 3) := by decide +kernel
theorem d_N_term_9 : decode m_N_term.2.1 9 = .ok (.iconst (-1), 1) := by decide +kernel
theorem d_N_term_10 : decode m_N_term.2.1 10 = .ok (.ireturn, 1) := by decide +kernel
theorem d_N_term_11 : decode m_N_term.2.1 11 = .ok (.bipush 21, 2) := by decide +kernel
theorem d_N_term_13 : decode m_N_term.2.1 13 = .ok (.iload_n 1, 1) := by decide +kernel
theorem d_N_term_14 : decode m_N_term.2.1 14 = .ok (.imul, 1) := by decide +kernel
theorem d_N_term_15 : decode m_N_term.2.1 15 = .ok (.iload_n 2, 1) := by decide +kernel
theorem d_N_term_16 : decode m_N_term.2.1 16 = .ok (.iadd, 1) := by decide +kernel
theorem d_N_term_17 : decode m_N_term.2.1 17 = .ok (.istore_n 3, 1) := by decide +kernel
theorem d_N_term_18 : decode m_N_term.2.1 18 = .ok (.aload_n 0, 1) := by decide +kernel
theorem d_N_term_19 : decode m_N_term.2.1 19 = .ok (.iload_n 3, 1) := by decide +kernel
theorem d_N_term_20 : decode m_N_term.2.1 20 = .ok (.iconst 0, 1) := by decide +kernel
theorem d_N_term_21 : decode m_N_term.2.1 21 = .ok (.invokevirtual 66, 3) := by decide +kernel
theorem d_N_term_24 : decode m_N_term.2.1 24 = .ok (.iconst 3, 1) := by decide +kernel
theorem d_N_term_25 : decode m_N_term.2.1 25 = .ok (.if_icmp .ge 15, 3) := by decide +kernel
theorem d_N_term_28 : decode m_N_term.2.1 28 = .ok (.aload_n 0, 1) := by decide +kernel
theorem d_N_term_29 : decode m_N_term.2.1 29 = .ok (.iload_n 3, 1) := by decide +kernel
theorem d_N_term_30 : decode m_N_term.2.1 30 = .ok (.iconst 0, 1) := by decide +kernel
theorem d_N_term_31 : decode m_N_term.2.1 31 = .ok (.invokevirtual 70, 3) := by decide +kernel
theorem d_N_term_34 : decode m_N_term.2.1 34 = .ok (.bipush 100, 2) := by decide +kernel
theorem d_N_term_36 : decode m_N_term.2.1 36 = .ok (.irem, 1) := by decide +kernel
theorem d_N_term_37 : decode m_N_term.2.1 37 = .ok (.goto 4, 3) := by decide +kernel
theorem d_N_term_40 : decode m_N_term.2.1 40 = .ok (.iconst 0, 1) := by decide +kernel
theorem d_N_term_41 : decode m_N_term.2.1 41 = .ok (.istore 4, 2) := by decide +kernel
theorem d_N_term_43 : decode m_N_term.2.1 43 = .ok (.ldc 175, 2) := by decide +kernel
theorem d_N_term_45 : decode m_N_term.2.1 45 = .ok (.aload_n 0, 1) := by decide +kernel
theorem d_N_term_46 : decode m_N_term.2.1 46 = .ok (.iload_n 3, 1) := by decide +kernel
theorem d_N_term_47 : decode m_N_term.2.1 47 = .ok (.iconst 0, 1) := by decide +kernel
theorem d_N_term_48 : decode m_N_term.2.1 48 = .ok (.invokevirtual 66, 3) := by decide +kernel
theorem d_N_term_51 : decode m_N_term.2.1 51 = .ok (.imul, 1) := by decide +kernel
theorem d_N_term_52 : decode m_N_term.2.1 52 = .ok (.bipush 100, 2) := by decide +kernel
theorem d_N_term_54 : decode m_N_term.2.1 54 = .ok (.aload_n 0, 1) := by decide +kernel
theorem d_N_term_55 : decode m_N_term.2.1 55 = .ok (.iload_n 3, 1) := by decide +kernel
theorem d_N_term_56 : decode m_N_term.2.1 56 = .ok (.invokevirtual 77, 3) := by decide +kernel
theorem d_N_term_59 : decode m_N_term.2.1 59 = .ok (.imul, 1) := by decide +kernel
theorem d_N_term_60 : decode m_N_term.2.1 60 = .ok (.iadd, 1) := by decide +kernel
theorem d_N_term_61 : decode m_N_term.2.1 61 = .ok (.iload 4, 2) := by decide +kernel
theorem d_N_term_63 : decode m_N_term.2.1 63 = .ok (.ifCond .ge 11, 3) := by decide +kernel
theorem d_N_term_66 : decode m_N_term.2.1 66 = .ok (.iload 4, 2) := by decide +kernel
theorem d_N_term_68 : decode m_N_term.2.1 68 = .ok (.bipush 100, 2) := by decide +kernel
theorem d_N_term_70 : decode m_N_term.2.1 70 = .ok (.iadd, 1) := by decide +kernel
theorem d_N_term_71 : decode m_N_term.2.1 71 = .ok (.goto 5, 3) := by decide +kernel
theorem d_N_term_74 : decode m_N_term.2.1 74 = .ok (.iload 4, 2) := by decide +kernel
theorem d_N_term_76 : decode m_N_term.2.1 76 = .ok (.iadd, 1) := by decide +kernel
theorem d_N_term_77 : decode m_N_term.2.1 77 = .ok (.ireturn, 1) := by decide +kernel
theorem d_N_digest_0 : decode m_N_digest.2.1 0 = .ok (.aload_n 0, 1) := by decide +kernel
theorem d_N_digest_1 : decode m_N_digest.2.1 1 = .ok (.iload_n 1, 1) := by decide +kernel
theorem d_N_digest_2 : decode m_N_digest.2.1 2 = .ok (.iload_n 2, 1) := by decide +kernel
theorem d_N_digest_3 : decode m_N_digest.2.1 3 = .ok (.invokevirtual 172, 3) := by decide +kernel
theorem d_N_digest_6 : decode m_N_digest.2.1 6 = .ok (.ifCond .ne 5, 3) := by decide +kernel
theorem d_N_digest_9 : decode m_N_digest.2.1 9 = .ok (.iconst 0, 1) := by decide +kernel
theorem d_N_digest_10 : decode m_N_digest.2.1 10 = .ok (.ireturn, 1) := by decide +kernel
theorem d_N_digest_11 : decode m_N_digest.2.1 11 = .ok (.bipush 21, 2) := by decide +kernel
theorem d_N_digest_13 : decode m_N_digest.2.1 13 = .ok (.iload_n 1, 1) := by decide +kernel
theorem d_N_digest_14 : decode m_N_digest.2.1 14 = .ok (.imul, 1) := by decide +kernel
theorem d_N_digest_15 : decode m_N_digest.2.1 15 = .ok (.iload_n 2, 1) := by decide +kernel
theorem d_N_digest_16 : decode m_N_digest.2.1 16 = .ok (.iadd, 1) := by decide +kernel
theorem d_N_digest_17 : decode m_N_digest.2.1 17 = .ok (.istore_n 3, 1) := by decide +kernel
theorem d_N_digest_18 : decode m_N_digest.2.1 18 = .ok (.bipush 7, 2) := by decide +kernel
theorem d_N_digest_20 : decode m_N_digest.2.1 20 = .ok (.istore 4, 2) := by decide +kernel
theorem d_N_digest_22 : decode m_N_digest.2.1 22 = .ok (.iconst 0, 1) := by decide +kernel
theorem d_N_digest_23 : decode m_N_digest.2.1 23 = .ok (.istore 5, 2) := by decide +kernel
theorem d_N_digest_25 : decode m_N_digest.2.1 25 = .ok (.iload 5, 2) := by decide +kernel
theorem d_N_digest_27 : decode m_N_digest.2.1 27 = .ok (.aload_n 0, 1) := by decide +kernel
theorem d_N_digest_28 : decode m_N_digest.2.1 28 = .ok (.iload_n 3, 1) := by decide +kernel
theorem d_N_digest_29 : decode m_N_digest.2.1 29 = .ok (.invokevirtual 77, 3) := by decide +kernel
theorem d_N_digest_32 : decode m_N_digest.2.1 32 = .ok (.if_icmp .ge 57, 3) := by decide +kernel
theorem d_N_digest_35 : decode m_N_digest.2.1 35 = .ok (.iload 4, 2) := by decide +kernel
theorem d_N_digest_37 : decode m_N_digest.2.1 37 = .ok (.bipush 31, 2) := by decide +kernel
theorem d_N_digest_39 : decode m_N_digest.2.1 39 = .ok (.imul, 1) := by decide +kernel
theorem d_N_digest_40 : decode m_N_digest.2.1 40 = .ok (.aload_n 0, 1) := by decide +kernel
theorem d_N_digest_41 : decode m_N_digest.2.1 41 = .ok (.iload_n 3, 1) := by decide +kernel
theorem d_N_digest_42 : decode m_N_digest.2.1 42 = .ok (.iload 5, 2) := by decide +kernel
theorem d_N_digest_44 : decode m_N_digest.2.1 44 = .ok (.invokevirtual 66, 3) := by decide +kernel
theorem d_N_digest_47 : decode m_N_digest.2.1 47 = .ok (.iadd, 1) := by decide +kernel
theorem d_N_digest_48 : decode m_N_digest.2.1 48 = .ok (.iconst 1, 1) := by decide +kernel
theorem d_N_digest_49 : decode m_N_digest.2.1 49 = .ok (.iadd, 1) := by decide +kernel
theorem d_N_digest_50 : decode m_N_digest.2.1 50 = .ok (.istore 4, 2) := by decide +kernel
theorem d_N_digest_52 : decode m_N_digest.2.1 52 = .ok (.aload_n 0, 1) := by decide +kernel
theorem d_N_digest_53 : decode m_N_digest.2.1 53 = .ok (.iload_n 3, 1) := by decide +kernel
theorem d_N_digest_54 : decode m_N_digest.2.1 54 = .ok (.iload 5, 2) := by decide +kernel
theorem d_N_digest_56 : decode m_N_digest.2.1 56 = .ok (.invokevirtual 66, 3) := by decide +kernel
theorem d_N_digest_59 : decode m_N_digest.2.1 59 = .ok (.iconst 3, 1) := by decide +kernel
theorem d_N_digest_60 : decode m_N_digest.2.1 60 = .ok (.if_icmp .ge 19, 3) := by decide +kernel
theorem d_N_digest_63 : decode m_N_digest.2.1 63 = .ok (.iload 4, 2) := by decide +kernel
theorem d_N_digest_65 : decode m_N_digest.2.1 65 = .ok (.bipush 31, 2) := by decide +kernel
theorem d_N_digest_67 : decode m_N_digest.2.1 67 = .ok (.imul, 1) := by decide +kernel
theorem d_N_digest_68 : decode m_N_digest.2.1 68 = .ok (.aload_n 0, 1) := by decide +kernel
theorem d_N_digest_69 : decode m_N_digest.2.1 69 = .ok (.iload_n 3, 1) := by decide +kernel
theorem d_N_digest_70 : decode m_N_digest.2.1 70 = .ok (.iload 5, 2) := by decide +kernel
theorem d_N_digest_72 : decode m_N_digest.2.1 72 = .ok (.invokevirtual 70, 3) := by decide +kernel
theorem d_N_digest_75 : decode m_N_digest.2.1 75 = .ok (.iadd, 1) := by decide +kernel
theorem d_N_digest_76 : decode m_N_digest.2.1 76 = .ok (.goto 5, 3) := by decide +kernel
theorem d_N_digest_79 : decode m_N_digest.2.1 79 = .ok (.iload 4, 2) := by decide +kernel
theorem d_N_digest_81 : decode m_N_digest.2.1 81 = .ok (.istore 4, 2) := by decide +kernel
theorem d_N_digest_83 : decode m_N_digest.2.1 83 = .ok (.iinc 5 1, 3) := by decide +kernel
theorem d_N_digest_86 : decode m_N_digest.2.1 86 = .ok (.goto (-61), 3) := by decide +kernel
theorem d_N_digest_89 : decode m_N_digest.2.1 89 = .ok (.iload 4, 2) := by decide +kernel
theorem d_N_digest_91 : decode m_N_digest.2.1 91 = .ok (.ireturn, 1) := by decide +kernel
theorem d_P_init_0 : decode m_P_init.2.1 0 = .ok (.aload_n 0, 1) := by decide +kernel
theorem d_P_init_1 : decode m_P_init.2.1 1 = .ok (.invokespecial 3, 3) := by decide +kernel
theorem d_P_init_4 : decode m_P_init.2.1 4 = .ok (.aload_n 0, 1) := by decide +kernel
theorem d_P_init_5 : decode m_P_init.2.1 5 = .ok (.iload_n 1, 1) := by decide +kernel
theorem d_P_init_6 : decode m_P_init.2.1 6 = .ok (.putfield 9, 3) := by decide +kernel
theorem d_P_init_9 : decode m_P_init.2.1 9 = .ok (.aload_n 0, 1) := by decide +kernel
theorem d_P_init_10 : decode m_P_init.2.1 10 = .ok (.new 15, 3) := by decide +kernel
theorem d_P_init_13 : decode m_P_init.2.1 13 = .ok (.dup, 1) := by decide +kernel
theorem d_P_init_14 : decode m_P_init.2.1 14 = .ok (.iconst 2, 1) := by decide +kernel
theorem d_P_init_15 : decode m_P_init.2.1 15 = .ok (.iload_n 1, 1) := by decide +kernel
theorem d_P_init_16 : decode m_P_init.2.1 16 = .ok (.invokespecial 17, 3) := by decide +kernel
theorem d_P_init_19 : decode m_P_init.2.1 19 = .ok (.putfield 20, 3) := by decide +kernel
theorem d_P_init_22 : decode m_P_init.2.1 22 = .ok (.aload_n 0, 1) := by decide +kernel
theorem d_P_init_23 : decode m_P_init.2.1 23 = .ok (.bipush 8, 2) := by decide +kernel
theorem d_P_init_25 : decode m_P_init.2.1 25 = .ok (.anewarray 15, 3) := by decide +kernel
theorem d_P_init_28 : decode m_P_init.2.1 28 = .ok (.putfield 24, 3) := by decide +kernel
theorem d_P_init_31 : decode m_P_init.2.1 31 = .ok (.aload_n 0, 1) := by decide +kernel
theorem d_P_init_32 : decode m_P_init.2.1 32 = .ok (.bipush 6, 2) := by decide +kernel
theorem d_P_init_34 : decode m_P_init.2.1 34 = .ok (.newarray .int, 2) := by decide +kernel
theorem d_P_init_36 : decode m_P_init.2.1 36 = .ok (.putfield 28, 3) := by decide +kernel
theorem d_P_init_39 : decode m_P_init.2.1 39 = .ok (.aload_n 0, 1) := by decide +kernel
theorem d_P_init_40 : decode m_P_init.2.1 40 = .ok (.new 32, 3) := by decide +kernel
theorem d_P_init_43 : decode m_P_init.2.1 43 = .ok (.dup, 1) := by decide +kernel
theorem d_P_init_44 : decode m_P_init.2.1 44 = .ok (.invokespecial 34, 3) := by decide +kernel
theorem d_P_init_47 : decode m_P_init.2.1 47 = .ok (.putfield 35, 3) := by decide +kernel
theorem d_P_init_50 : decode m_P_init.2.1 50 = .ok (.return_, 1) := by decide +kernel
theorem d_P_renew_0 : decode m_P_renew.2.1 0 = .ok (.iconst 0, 1) := by decide +kernel
theorem d_P_renew_1 : decode m_P_renew.2.1 1 = .ok (.istore 4, 2) := by decide +kernel
theorem d_P_renew_3 : decode m_P_renew.2.1 3 = .ok (.iload 4, 2) := by decide +kernel
theorem d_P_renew_5 : decode m_P_renew.2.1 5 = .ok (.bipush 8, 2) := by decide +kernel
theorem d_P_renew_7 : decode m_P_renew.2.1 7 = .ok (.if_icmp .ge 17, 3) := by decide +kernel
theorem d_P_renew_10 : decode m_P_renew.2.1 10 = .ok (.aload_n 0, 1) := by decide +kernel
theorem d_P_renew_11 : decode m_P_renew.2.1 11 = .ok (.getfield 24, 3) := by decide +kernel
theorem d_P_renew_14 : decode m_P_renew.2.1 14 = .ok (.iload 4, 2) := by decide +kernel
theorem d_P_renew_16 : decode m_P_renew.2.1 16 = .ok (.aload_n 3, 1) := by decide +kernel
theorem d_P_renew_17 : decode m_P_renew.2.1 17 = .ok (.aastore, 1) := by decide +kernel
theorem d_P_renew_18 : decode m_P_renew.2.1 18 = .ok (.iinc 4 1, 3) := by decide +kernel
theorem d_P_renew_21 : decode m_P_renew.2.1 21 = .ok (.goto (-18), 3) := by decide +kernel
theorem d_P_renew_24 : decode m_P_renew.2.1 24 = .ok (.aload_n 0, 1) := by decide +kernel
theorem d_P_renew_25 : decode m_P_renew.2.1 25 = .ok (.getfield 24, 3) := by decide +kernel
theorem d_P_renew_28 : decode m_P_renew.2.1 28 = .ok (.iconst 0, 1) := by decide +kernel
theorem d_P_renew_29 : decode m_P_renew.2.1 29 = .ok (.aload_n 2, 1) := by decide +kernel
theorem d_P_renew_30 : decode m_P_renew.2.1 30 = .ok (.aastore, 1) := by decide +kernel
theorem d_P_renew_31 : decode m_P_renew.2.1 31 = .ok (.aload_n 0, 1) := by decide +kernel
theorem d_P_renew_32 : decode m_P_renew.2.1 32 = .ok (.getfield 35, 3) := by decide +kernel
theorem d_P_renew_35 : decode m_P_renew.2.1 35 = .ok (.invokevirtual 39, 3) := by decide +kernel
theorem d_P_renew_38 : decode m_P_renew.2.1 38 = .ok (.aload_n 0, 1) := by decide +kernel
theorem d_P_renew_39 : decode m_P_renew.2.1 39 = .ok (.iconst 0, 1) := by decide +kernel
theorem d_P_renew_40 : decode m_P_renew.2.1 40 = .ok (.putfield 42, 3) := by decide +kernel
theorem d_P_renew_43 : decode m_P_renew.2.1 43 = .ok (.aload_n 0, 1) := by decide +kernel
theorem d_P_renew_44 : decode m_P_renew.2.1 44 = .ok (.iload_n 1, 1) := by decide +kernel
theorem d_P_renew_45 : decode m_P_renew.2.1 45 = .ok (.putfield 45, 3) := by decide +kernel
theorem d_P_renew_48 : decode m_P_renew.2.1 48 = .ok (.aload_n 0, 1) := by decide +kernel
theorem d_P_renew_49 : decode m_P_renew.2.1 49 = .ok (.iconst 0, 1) := by decide +kernel
theorem d_P_renew_50 : decode m_P_renew.2.1 50 = .ok (.putfield 48, 3) := by decide +kernel
theorem d_P_renew_53 : decode m_P_renew.2.1 53 = .ok (.aload_n 0, 1) := by decide +kernel
theorem d_P_renew_54 : decode m_P_renew.2.1 54 = .ok (.iconst 0, 1) := by decide +kernel
theorem d_P_renew_55 : decode m_P_renew.2.1 55 = .ok (.putfield 51, 3) := by decide +kernel
theorem d_P_renew_58 : decode m_P_renew.2.1 58 = .ok (.aload_n 0, 1) := by decide +kernel
theorem d_P_renew_59 : decode m_P_renew.2.1 59 = .ok (.iconst 1, 1) := by decide +kernel
theorem d_P_renew_60 : decode m_P_renew.2.1 60 = .ok (.putfield 55, 3) := by decide +kernel
theorem d_P_renew_63 : decode m_P_renew.2.1 63 = .ok (.aload_n 0, 1) := by decide +kernel
theorem d_P_renew_64 : decode m_P_renew.2.1 64 = .ok (.aconst_null, 1) := by decide +kernel
theorem d_P_renew_65 : decode m_P_renew.2.1 65 = .ok (.putfield 58, 3) := by decide +kernel
theorem d_P_renew_68 : decode m_P_renew.2.1 68 = .ok (.aload_n 0, 1) := by decide +kernel
theorem d_P_renew_69 : decode m_P_renew.2.1 69 = .ok (.iconst 0, 1) := by decide +kernel
theorem d_P_renew_70 : decode m_P_renew.2.1 70 = .ok (.putfield 61, 3) := by decide +kernel
theorem d_P_renew_73 : decode m_P_renew.2.1 73 = .ok (.return_, 1) := by decide +kernel
theorem d_P_set_0 : decode m_P_set.2.1 0 = .ok (.aload_n 2, 1) := by decide +kernel
theorem d_P_set_1 : decode m_P_set.2.1 1 = .ok (.ifnonnull 5, 3) := by decide +kernel
theorem d_P_set_4 : decode m_P_set.2.1 4 = .ok (.iconst 0, 1) := by decide +kernel
theorem d_P_set_5 : decode m_P_set.2.1 5 = .ok (.ireturn, 1) := by decide +kernel
theorem d_P_set_6 : decode m_P_set.2.1 6 = .ok (.aload_n 0, 1) := by decide +kernel
theorem d_P_set_7 : decode m_P_set.2.1 7 = .ok (.getfield 24, 3) := by decide +kernel
theorem d_P_set_10 : decode m_P_set.2.1 10 = .ok (.iload_n 1, 1) := by decide +kernel
theorem d_P_set_11 : decode m_P_set.2.1 11 = .ok (.aload_n 2, 1) := by decide +kernel
theorem d_P_set_12 : decode m_P_set.2.1 12 = .ok (.aastore, 1) := by decide +kernel
theorem d_P_set_13 : decode m_P_set.2.1 13 = .ok (.iconst 1, 1) := by decide +kernel
theorem d_P_set_14 : decode m_P_set.2.1 14 = .ok (.ireturn, 1) := by decide +kernel
theorem d_P_goTo_0 : decode m_P_goTo.2.1 0 = .ok (.aload_n 0, 1) := by decide +kernel
theorem d_P_goTo_1 : decode m_P_goTo.2.1 1 = .ok (.iload_n 1, 1) := by decide +kernel
theorem d_P_goTo_2 : decode m_P_goTo.2.1 2 = .ok (.putfield 45, 3) := by decide +kernel
theorem d_P_goTo_5 : decode m_P_goTo.2.1 5 = .ok (.iconst 1, 1) := by decide +kernel
theorem d_P_goTo_6 : decode m_P_goTo.2.1 6 = .ok (.ireturn, 1) := by decide +kernel
theorem d_P_pushReturn_0 : decode m_P_pushReturn.2.1 0 = .ok (.aload_n 0, 1) := by decide +kernel
theorem d_P_pushReturn_1 : decode m_P_pushReturn.2.1 1 = .ok (.getfield 42, 3) := by decide +kernel
theorem d_P_pushReturn_4 : decode m_P_pushReturn.2.1 4 = .ok (.bipush 6, 2) := by decide +kernel
theorem d_P_pushReturn_6 : decode m_P_pushReturn.2.1 6 = .ok (.if_icmp .lt 5, 3) := by decide +kernel
theorem d_P_pushReturn_9 : decode m_P_pushReturn.2.1 9 = .ok (.iconst 0, 1) := by decide +kernel
theorem d_P_pushReturn_10 : decode m_P_pushReturn.2.1 10 = .ok (.ireturn, 1) := by decide +kernel
theorem d_P_pushReturn_11 : decode m_P_pushReturn.2.1 11 = .ok (.aload_n 0, 1) := by decide +kernel
theorem d_P_pushReturn_12 : decode m_P_pushReturn.2.1 12 = .ok (.getfield 28, 3) := by decide +kernel
theorem d_P_pushReturn_15 : decode m_P_pushReturn.2.1 15 = .ok (.aload_n 0, 1) := by decide +kernel
theorem d_P_pushReturn_16 : decode m_P_pushReturn.2.1 16 = .ok (.getfield 42, 3) := by decide +kernel
theorem d_P_pushReturn_19 : decode m_P_pushReturn.2.1 19 = .ok (.aload_n 0, 1) := by decide +kernel
theorem d_P_pushReturn_20 : decode m_P_pushReturn.2.1 20 = .ok (.getfield 45, 3) := by decide +kernel
theorem d_P_pushReturn_23 : decode m_P_pushReturn.2.1 23 = .ok (.iastore, 1) := by decide +kernel
theorem d_P_pushReturn_24 : decode m_P_pushReturn.2.1 24 = .ok (.aload_n 0, 1) := by decide +kernel
theorem d_P_pushReturn_25 : decode m_P_pushReturn.2.1 25 = .ok (.dup, 1) := by decide +kernel
theorem d_P_pushReturn_26 : decode m_P_pushReturn.2.1 26 = .ok (.getfield 42, 3) := by decide +kernel
theorem d_P_pushReturn_29 : decode m_P_pushReturn.2.1 29 = .ok (.iconst 1, 1) := by decide +kernel
theorem d_P_pushReturn_30 : decode m_P_pushReturn.2.1 30 = .ok (.iadd, 1) := by decide +kernel
theorem d_P_pushReturn_31 : decode m_P_pushReturn.2.1 31 = .ok (.putfield 42, 3) := by decide +kernel
theorem d_P_pushReturn_34 : decode m_P_pushReturn.2.1 34 = .ok (.iconst 1, 1) := by decide +kernel
theorem d_P_pushReturn_35 : decode m_P_pushReturn.2.1 35 = .ok (.ireturn, 1) := by decide +kernel
theorem d_P_answer_0 : decode m_P_answer.2.1 0 = .ok (.iload_n 1, 1) := by decide +kernel
theorem d_P_answer_1 : decode m_P_answer.2.1 1 = .ok (.tableswitch 101 0 7 #[47, 52, 57, 65, 73, 78, 83, 96], 47) := by decide +kernel
theorem d_P_answer_48 : decode m_P_answer.2.1 48 = .ok (.aload_n 0, 1) := by decide +kernel
theorem d_P_answer_49 : decode m_P_answer.2.1 49 = .ok (.getfield 55, 3) := by decide +kernel
theorem d_P_answer_52 : decode m_P_answer.2.1 52 = .ok (.ireturn, 1) := by decide +kernel
theorem d_P_answer_53 : decode m_P_answer.2.1 53 = .ok (.aload_n 0, 1) := by decide +kernel
theorem d_P_answer_54 : decode m_P_answer.2.1 54 = .ok (.getfield 45, 3) := by decide +kernel
theorem d_P_answer_57 : decode m_P_answer.2.1 57 = .ok (.ireturn, 1) := by decide +kernel
theorem d_P_answer_58 : decode m_P_answer.2.1 58 = .ok (.aload_n 0, 1) := by decide +kernel
theorem d_P_answer_59 : decode m_P_answer.2.1 59 = .ok (.getfield 35, 3) := by decide +kernel
theorem d_P_answer_62 : decode m_P_answer.2.1 62 = .ok (.getfield 64, 3) := by decide +kernel
theorem d_P_answer_65 : decode m_P_answer.2.1 65 = .ok (.ireturn, 1) := by decide +kernel
theorem d_P_answer_66 : decode m_P_answer.2.1 66 = .ok (.aload_n 0, 1) := by decide +kernel
theorem d_P_answer_67 : decode m_P_answer.2.1 67 = .ok (.getfield 35, 3) := by decide +kernel
theorem d_P_answer_70 : decode m_P_answer.2.1 70 = .ok (.getfield 67, 3) := by decide +kernel
theorem d_P_answer_73 : decode m_P_answer.2.1 73 = .ok (.ireturn, 1) := by decide +kernel
theorem d_P_answer_74 : decode m_P_answer.2.1 74 = .ok (.aload_n 0, 1) := by decide +kernel
theorem d_P_answer_75 : decode m_P_answer.2.1 75 = .ok (.getfield 42, 3) := by decide +kernel
theorem d_P_answer_78 : decode m_P_answer.2.1 78 = .ok (.ireturn, 1) := by decide +kernel
theorem d_P_answer_79 : decode m_P_answer.2.1 79 = .ok (.aload_n 0, 1) := by decide +kernel
theorem d_P_answer_80 : decode m_P_answer.2.1 80 = .ok (.getfield 48, 3) := by decide +kernel
theorem d_P_answer_83 : decode m_P_answer.2.1 83 = .ok (.ireturn, 1) := by decide +kernel
theorem d_P_answer_84 : decode m_P_answer.2.1 84 = .ok (.aload_n 0, 1) := by decide +kernel
theorem d_P_answer_85 : decode m_P_answer.2.1 85 = .ok (.getfield 51, 3) := by decide +kernel
theorem d_P_answer_88 : decode m_P_answer.2.1 88 = .ok (.ifCond .eq 7, 3) := by decide +kernel
theorem d_P_answer_91 : decode m_P_answer.2.1 91 = .ok (.iconst 1, 1) := by decide +kernel
theorem d_P_answer_92 : decode m_P_answer.2.1 92 = .ok (.goto 4, 3) := by decide +kernel
theorem d_P_answer_95 : decode m_P_answer.2.1 95 = .ok (.iconst 0, 1) := by decide +kernel
theorem d_P_answer_96 : decode m_P_answer.2.1 96 = .ok (.ireturn, 1) := by decide +kernel
theorem d_P_answer_97 : decode m_P_answer.2.1 97 = .ok (.aload_n 0, 1) := by decide +kernel
theorem d_P_answer_98 : decode m_P_answer.2.1 98 = .ok (.getfield 61, 3) := by decide +kernel
theorem d_P_answer_101 : decode m_P_answer.2.1 101 = .ok (.ireturn, 1) := by decide +kernel
theorem d_P_answer_102 : decode m_P_answer.2.1 102 = .ok (.iconst (-1), 1) := by decide +kernel
theorem d_P_answer_103 : decode m_P_answer.2.1 103 = .ok (.ireturn, 1) := by decide +kernel
theorem d_P_termAt_0 : decode m_P_termAt.2.1 0 = .ok (.iload_n 1, 1) := by decide +kernel
theorem d_P_termAt_1 : decode m_P_termAt.2.1 1 = .ok (.ifCond .ge 5, 3) := by decide +kernel
theorem d_P_termAt_4 : decode m_P_termAt.2.1 4 = .ok (.aconst_null, 1) := by decide +kernel
theorem d_P_termAt_5 : decode m_P_termAt.2.1 5 = .ok (.areturn, 1) := by decide +kernel
theorem d_P_termAt_6 : decode m_P_termAt.2.1 6 = .ok (.iload_n 1, 1) := by decide +kernel
theorem d_P_termAt_7 : decode m_P_termAt.2.1 7 = .ok (.bipush 8, 2) := by decide +kernel
theorem d_P_termAt_9 : decode m_P_termAt.2.1 9 = .ok (.if_icmp .ge 10, 3) := by decide +kernel
theorem d_P_termAt_12 : decode m_P_termAt.2.1 12 = .ok (.aload_n 0, 1) := by decide +kernel
theorem d_P_termAt_13 : decode m_P_termAt.2.1 13 = .ok (.getfield 24, 3) := by decide +kernel
theorem d_P_termAt_16 : decode m_P_termAt.2.1 16 = .ok (.iload_n 1, 1) := by decide +kernel
theorem d_P_termAt_17 : decode m_P_termAt.2.1 17 = .ok (.aaload, 1) := by decide +kernel
theorem d_P_termAt_18 : decode m_P_termAt.2.1 18 = .ok (.areturn, 1) := by decide +kernel
theorem d_P_termAt_19 : decode m_P_termAt.2.1 19 = .ok (.iload_n 1, 1) := by decide +kernel
theorem d_P_termAt_20 : decode m_P_termAt.2.1 20 = .ok (.bipush 8, 2) := by decide +kernel
theorem d_P_termAt_22 : decode m_P_termAt.2.1 22 = .ok (.if_icmp .ne 10, 3) := by decide +kernel
theorem d_P_termAt_25 : decode m_P_termAt.2.1 25 = .ok (.aload_n 0, 1) := by decide +kernel
theorem d_P_termAt_26 : decode m_P_termAt.2.1 26 = .ok (.getfield 58, 3) := by decide +kernel
theorem d_P_termAt_29 : decode m_P_termAt.2.1 29 = .ok (.goto 14, 3) := by decide +kernel
theorem d_P_termAt_32 : decode m_P_termAt.2.1 32 = .ok (.aload_n 0, 1) := by decide +kernel
theorem d_P_termAt_33 : decode m_P_termAt.2.1 33 = .ok (.getfield 35, 3) := by decide +kernel
theorem d_P_termAt_36 : decode m_P_termAt.2.1 36 = .ok (.iload_n 1, 1) := by decide +kernel
theorem d_P_termAt_37 : decode m_P_termAt.2.1 37 = .ok (.bipush 9, 2) := by decide +kernel
theorem d_P_termAt_39 : decode m_P_termAt.2.1 39 = .ok (.isub, 1) := by decide +kernel
theorem d_P_termAt_40 : decode m_P_termAt.2.1 40 = .ok (.invokevirtual 70, 3) := by decide +kernel
theorem d_P_termAt_43 : decode m_P_termAt.2.1 43 = .ok (.areturn, 1) := by decide +kernel
theorem d_L_init_0 : decode m_L_init.2.1 0 = .ok (.aload_n 0, 1) := by decide +kernel
theorem d_L_init_1 : decode m_L_init.2.1 1 = .ok (.invokespecial 3, 3) := by decide +kernel
theorem d_L_init_4 : decode m_L_init.2.1 4 = .ok (.aload_n 0, 1) := by decide +kernel
theorem d_L_init_5 : decode m_L_init.2.1 5 = .ok (.bipush 12, 2) := by decide +kernel
theorem d_L_init_7 : decode m_L_init.2.1 7 = .ok (.newarray .int, 2) := by decide +kernel
theorem d_L_init_9 : decode m_L_init.2.1 9 = .ok (.putfield 9, 3) := by decide +kernel
theorem d_L_init_12 : decode m_L_init.2.1 12 = .ok (.aload_n 0, 1) := by decide +kernel
theorem d_L_init_13 : decode m_L_init.2.1 13 = .ok (.iconst 0, 1) := by decide +kernel
theorem d_L_init_14 : decode m_L_init.2.1 14 = .ok (.putfield 15, 3) := by decide +kernel
theorem d_L_init_17 : decode m_L_init.2.1 17 = .ok (.return_, 1) := by decide +kernel
theorem d_L_empty_0 : decode m_L_empty.2.1 0 = .ok (.aload_n 0, 1) := by decide +kernel
theorem d_L_empty_1 : decode m_L_empty.2.1 1 = .ok (.iconst 0, 1) := by decide +kernel
theorem d_L_empty_2 : decode m_L_empty.2.1 2 = .ok (.putfield 15, 3) := by decide +kernel
theorem d_L_empty_5 : decode m_L_empty.2.1 5 = .ok (.return_, 1) := by decide +kernel
theorem d_L_at_0 : decode m_L_at.2.1 0 = .ok (.iload_n 1, 1) := by decide +kernel
theorem d_L_at_1 : decode m_L_at.2.1 1 = .ok (.ifCond .lt 20, 3) := by decide +kernel
theorem d_L_at_4 : decode m_L_at.2.1 4 = .ok (.iload_n 1, 1) := by decide +kernel
theorem d_L_at_5 : decode m_L_at.2.1 5 = .ok (.aload_n 0, 1) := by decide +kernel
theorem d_L_at_6 : decode m_L_at.2.1 6 = .ok (.getfield 15, 3) := by decide +kernel
theorem d_L_at_9 : decode m_L_at.2.1 9 = .ok (.if_icmp .ge 12, 3) := by decide +kernel
theorem d_L_at_12 : decode m_L_at.2.1 12 = .ok (.aload_n 0, 1) := by decide +kernel
theorem d_L_at_13 : decode m_L_at.2.1 13 = .ok (.getfield 9, 3) := by decide +kernel
theorem d_L_at_16 : decode m_L_at.2.1 16 = .ok (.iload_n 1, 1) := by decide +kernel
theorem d_L_at_17 : decode m_L_at.2.1 17 = .ok (.iaload, 1) := by decide +kernel
theorem d_L_at_18 : decode m_L_at.2.1 18 = .ok (.goto 4, 3) := by decide +kernel
theorem d_L_at_21 : decode m_L_at.2.1 21 = .ok (.iconst (-1), 1) := by decide +kernel
theorem d_L_at_22 : decode m_L_at.2.1 22 = .ok (.ireturn, 1) := by decide +kernel
theorem d_L_append_0 : decode m_L_append.2.1 0 = .ok (.aload_n 0, 1) := by decide +kernel
theorem d_L_append_1 : decode m_L_append.2.1 1 = .ok (.getfield 15, 3) := by decide +kernel
theorem d_L_append_4 : decode m_L_append.2.1 4 = .ok (.bipush 12, 2) := by decide +kernel
theorem d_L_append_6 : decode m_L_append.2.1 6 = .ok (.if_icmp .ge 23, 3) := by decide +kernel
theorem d_L_append_9 : decode m_L_append.2.1 9 = .ok (.aload_n 0, 1) := by decide +kernel
theorem d_L_append_10 : decode m_L_append.2.1 10 = .ok (.getfield 9, 3) := by decide +kernel
theorem d_L_append_13 : decode m_L_append.2.1 13 = .ok (.aload_n 0, 1) := by decide +kernel
theorem d_L_append_14 : decode m_L_append.2.1 14 = .ok (.getfield 15, 3) := by decide +kernel
theorem d_L_append_17 : decode m_L_append.2.1 17 = .ok (.iload_n 1, 1) := by decide +kernel
theorem d_L_append_18 : decode m_L_append.2.1 18 = .ok (.iastore, 1) := by decide +kernel
theorem d_L_append_19 : decode m_L_append.2.1 19 = .ok (.aload_n 0, 1) := by decide +kernel
theorem d_L_append_20 : decode m_L_append.2.1 20 = .ok (.dup, 1) := by decide +kernel
theorem d_L_append_21 : decode m_L_append.2.1 21 = .ok (.getfield 15, 3) := by decide +kernel
theorem d_L_append_24 : decode m_L_append.2.1 24 = .ok (.iconst 1, 1) := by decide +kernel
theorem d_L_append_25 : decode m_L_append.2.1 25 = .ok (.iadd, 1) := by decide +kernel
theorem d_L_append_26 : decode m_L_append.2.1 26 = .ok (.putfield 15, 3) := by decide +kernel
theorem d_L_append_29 : decode m_L_append.2.1 29 = .ok (.return_, 1) := by decide +kernel
theorem d_L_leave_0 : decode m_L_leave.2.1 0 = .ok (.iconst 0, 1) := by decide +kernel
theorem d_L_leave_1 : decode m_L_leave.2.1 1 = .ok (.istore_n 2, 1) := by decide +kernel
theorem d_L_leave_2 : decode m_L_leave.2.1 2 = .ok (.iconst 0, 1) := by decide +kernel
theorem d_L_leave_3 : decode m_L_leave.2.1 3 = .ok (.istore_n 3, 1) := by decide +kernel
theorem d_L_leave_4 : decode m_L_leave.2.1 4 = .ok (.iload_n 3, 1) := by decide +kernel
theorem d_L_leave_5 : decode m_L_leave.2.1 5 = .ok (.aload_n 0, 1) := by decide +kernel
theorem d_L_leave_6 : decode m_L_leave.2.1 6 = .ok (.getfield 15, 3) := by decide +kernel
theorem d_L_leave_9 : decode m_L_leave.2.1 9 = .ok (.if_icmp .ge 34, 3) := by decide +kernel
theorem d_L_leave_12 : decode m_L_leave.2.1 12 = .ok (.aload_n 0, 1) := by decide +kernel
theorem d_L_leave_13 : decode m_L_leave.2.1 13 = .ok (.getfield 9, 3) := by decide +kernel
theorem d_L_leave_16 : decode m_L_leave.2.1 16 = .ok (.iload_n 3, 1) := by decide +kernel
theorem d_L_leave_17 : decode m_L_leave.2.1 17 = .ok (.iaload, 1) := by decide +kernel
theorem d_L_leave_18 : decode m_L_leave.2.1 18 = .ok (.iload_n 1, 1) := by decide +kernel
theorem d_L_leave_19 : decode m_L_leave.2.1 19 = .ok (.if_icmp .eq 18, 3) := by decide +kernel
theorem d_L_leave_22 : decode m_L_leave.2.1 22 = .ok (.aload_n 0, 1) := by decide +kernel
theorem d_L_leave_23 : decode m_L_leave.2.1 23 = .ok (.getfield 9, 3) := by decide +kernel
theorem d_L_leave_26 : decode m_L_leave.2.1 26 = .ok (.iload_n 2, 1) := by decide +kernel
theorem d_L_leave_27 : decode m_L_leave.2.1 27 = .ok (.aload_n 0, 1) := by decide +kernel
theorem d_L_leave_28 : decode m_L_leave.2.1 28 = .ok (.getfield 9, 3) := by decide +kernel
theorem d_L_leave_31 : decode m_L_leave.2.1 31 = .ok (.iload_n 3, 1) := by decide +kernel
theorem d_L_leave_32 : decode m_L_leave.2.1 32 = .ok (.iaload, 1) := by decide +kernel
theorem d_L_leave_33 : decode m_L_leave.2.1 33 = .ok (.iastore, 1) := by decide +kernel
theorem d_L_leave_34 : decode m_L_leave.2.1 34 = .ok (.iinc 2 1, 3) := by decide +kernel
theorem d_L_leave_37 : decode m_L_leave.2.1 37 = .ok (.iinc 3 1, 3) := by decide +kernel
theorem d_L_leave_40 : decode m_L_leave.2.1 40 = .ok (.goto (-36), 3) := by decide +kernel
theorem d_L_leave_43 : decode m_L_leave.2.1 43 = .ok (.aload_n 0, 1) := by decide +kernel
theorem d_L_leave_44 : decode m_L_leave.2.1 44 = .ok (.iload_n 2, 1) := by decide +kernel
theorem d_L_leave_45 : decode m_L_leave.2.1 45 = .ok (.putfield 15, 3) := by decide +kernel
theorem d_L_leave_48 : decode m_L_leave.2.1 48 = .ok (.return_, 1) := by decide +kernel
theorem d_M_init_0 : decode m_M_init.2.1 0 = .ok (.aload_n 0, 1) := by decide +kernel
theorem d_M_init_1 : decode m_M_init.2.1 1 = .ok (.invokespecial 3, 3) := by decide +kernel
theorem d_M_init_4 : decode m_M_init.2.1 4 = .ok (.aload_n 0, 1) := by decide +kernel
theorem d_M_init_5 : decode m_M_init.2.1 5 = .ok (.new 9, 3) := by decide +kernel
theorem d_M_init_8 : decode m_M_init.2.1 8 = .ok (.dup, 1) := by decide +kernel
theorem d_M_init_9 : decode m_M_init.2.1 9 = .ok (.invokespecial 11, 3) := by decide +kernel
theorem d_M_init_12 : decode m_M_init.2.1 12 = .ok (.putfield 12, 3) := by decide +kernel
theorem d_M_init_15 : decode m_M_init.2.1 15 = .ok (.aload_n 0, 1) := by decide +kernel
theorem d_M_init_16 : decode m_M_init.2.1 16 = .ok (.new 18, 3) := by decide +kernel
theorem d_M_init_19 : decode m_M_init.2.1 19 = .ok (.dup, 1) := by decide +kernel
theorem d_M_init_20 : decode m_M_init.2.1 20 = .ok (.invokespecial 20, 3) := by decide +kernel
theorem d_M_init_23 : decode m_M_init.2.1 23 = .ok (.putfield 21, 3) := by decide +kernel
theorem d_M_init_26 : decode m_M_init.2.1 26 = .ok (.return_, 1) := by decide +kernel
theorem d_M_reduce_0 : decode m_M_reduce.2.1 0 = .ok (.aload_n 1, 1) := by decide +kernel
theorem d_M_reduce_1 : decode m_M_reduce.2.1 1 = .ok (.dup, 1) := by decide +kernel
theorem d_M_reduce_2 : decode m_M_reduce.2.1 2 = .ok (.getfield 25, 3) := by decide +kernel
theorem d_M_reduce_5 : decode m_M_reduce.2.1 5 = .ok (.iconst 1, 1) := by decide +kernel
theorem d_M_reduce_6 : decode m_M_reduce.2.1 6 = .ok (.iadd, 1) := by decide +kernel
theorem d_M_reduce_7 : decode m_M_reduce.2.1 7 = .ok (.putfield 25, 3) := by decide +kernel
theorem d_M_reduce_10 : decode m_M_reduce.2.1 10 = .ok (.aload_n 0, 1) := by decide +kernel
theorem d_M_reduce_11 : decode m_M_reduce.2.1 11 = .ok (.getfield 12, 3) := by decide +kernel
theorem d_M_reduce_14 : decode m_M_reduce.2.1 14 = .ok (.aload_n 1, 1) := by decide +kernel
theorem d_M_reduce_15 : decode m_M_reduce.2.1 15 = .ok (.getfield 31, 3) := by decide +kernel
theorem d_M_reduce_18 : decode m_M_reduce.2.1 18 = .ok (.invokevirtual 34, 3) := by decide +kernel
theorem d_M_reduce_21 : decode m_M_reduce.2.1 21 = .ok (.ifCond .ne 22, 3) := by decide +kernel
theorem d_M_reduce_24 : decode m_M_reduce.2.1 24 = .ok (.aload_n 0, 1) := by decide +kernel
theorem d_M_reduce_25 : decode m_M_reduce.2.1 25 = .ok (.getfield 21, 3) := by decide +kernel
theorem d_M_reduce_28 : decode m_M_reduce.2.1 28 = .ok (.aload_n 1, 1) := by decide +kernel
theorem d_M_reduce_29 : decode m_M_reduce.2.1 29 = .ok (.aload_n 0, 1) := by decide +kernel
theorem d_M_reduce_30 : decode m_M_reduce.2.1 30 = .ok (.getfield 21, 3) := by decide +kernel
theorem d_M_reduce_33 : decode m_M_reduce.2.1 33 = .ok (.getfield 38, 3) := by decide +kernel
theorem d_M_reduce_36 : decode m_M_reduce.2.1 36 = .ok (.bipush 13, 2) := by decide +kernel
theorem d_M_reduce_38 : decode m_M_reduce.2.1 38 = .ok (.aaload, 1) := by decide +kernel
theorem d_M_reduce_39 : decode m_M_reduce.2.1 39 = .ok (.invokevirtual 42, 3) := by decide +kernel
theorem d_M_reduce_42 : decode m_M_reduce.2.1 42 = .ok (.return_, 1) := by decide +kernel
theorem d_M_reduce_43 : decode m_M_reduce.2.1 43 = .ok (.iconst 4, 1) := by decide +kernel
theorem d_M_reduce_44 : decode m_M_reduce.2.1 44 = .ok (.aload_n 1, 1) := by decide +kernel
theorem d_M_reduce_45 : decode m_M_reduce.2.1 45 = .ok (.getfield 31, 3) := by decide +kernel
theorem d_M_reduce_48 : decode m_M_reduce.2.1 48 = .ok (.imul, 1) := by decide +kernel
theorem d_M_reduce_49 : decode m_M_reduce.2.1 49 = .ok (.istore_n 2, 1) := by decide +kernel
theorem d_M_reduce_50 : decode m_M_reduce.2.1 50 = .ok (.aload_n 0, 1) := by decide +kernel
theorem d_M_reduce_51 : decode m_M_reduce.2.1 51 = .ok (.getfield 12, 3) := by decide +kernel
theorem d_M_reduce_54 : decode m_M_reduce.2.1 54 = .ok (.getfield 46, 3) := by decide +kernel
theorem d_M_reduce_57 : decode m_M_reduce.2.1 57 = .ok (.astore_n 3, 1) := by decide +kernel
theorem d_M_reduce_58 : decode m_M_reduce.2.1 58 = .ok (.aload_n 1, 1) := by decide +kernel
theorem d_M_reduce_59 : decode m_M_reduce.2.1 59 = .ok (.dup, 1) := by decide +kernel
theorem d_M_reduce_60 : decode m_M_reduce.2.1 60 = .ok (.getfield 31, 3) := by decide +kernel
theorem d_M_reduce_63 : decode m_M_reduce.2.1 63 = .ok (.iconst 1, 1) := by decide +kernel
theorem d_M_reduce_64 : decode m_M_reduce.2.1 64 = .ok (.iadd, 1) := by decide +kernel
theorem d_M_reduce_65 : decode m_M_reduce.2.1 65 = .ok (.putfield 31, 3) := by decide +kernel
theorem d_M_reduce_68 : decode m_M_reduce.2.1 68 = .ok (.aload_n 0, 1) := by decide +kernel
theorem d_M_reduce_69 : decode m_M_reduce.2.1 69 = .ok (.aload_n 1, 1) := by decide +kernel
theorem d_M_reduce_70 : decode m_M_reduce.2.1 70 = .ok (.aload_n 3, 1) := by decide +kernel
theorem d_M_reduce_71 : decode m_M_reduce.2.1 71 = .ok (.iload_n 2, 1) := by decide +kernel
theorem d_M_reduce_72 : decode m_M_reduce.2.1 72 = .ok (.iaload, 1) := by decide +kernel
theorem d_M_reduce_73 : decode m_M_reduce.2.1 73 = .ok (.aload_n 3, 1) := by decide +kernel
theorem d_M_reduce_74 : decode m_M_reduce.2.1 74 = .ok (.iload_n 2, 1) := by decide +kernel
theorem d_M_reduce_75 : decode m_M_reduce.2.1 75 = .ok (.iconst 1, 1) := by decide +kernel
theorem d_M_reduce_76 : decode m_M_reduce.2.1 76 = .ok (.iadd, 1) := by decide +kernel
theorem d_M_reduce_77 : decode m_M_reduce.2.1 77 = .ok (.iaload, 1) := by decide +kernel
theorem d_M_reduce_78 : decode m_M_reduce.2.1 78 = .ok (.aload_n 3, 1) := by decide +kernel
theorem d_M_reduce_79 : decode m_M_reduce.2.1 79 = .ok (.iload_n 2, 1) := by decide +kernel
theorem d_M_reduce_80 : decode m_M_reduce.2.1 80 = .ok (.iconst 2, 1) := by decide +kernel
theorem d_M_reduce_81 : decode m_M_reduce.2.1 81 = .ok (.iadd, 1) := by decide +kernel
theorem d_M_reduce_82 : decode m_M_reduce.2.1 82 = .ok (.iaload, 1) := by decide +kernel
theorem d_M_reduce_83 : decode m_M_reduce.2.1 83 = .ok (.aload_n 3, 1) := by decide +kernel
theorem d_M_reduce_84 : decode m_M_reduce.2.1 84 = .ok (.iload_n 2, 1) := by decide +kernel
theorem d_M_reduce_85 : decode m_M_reduce.2.1 85 = .ok (.iconst 3, 1) := by decide +kernel
theorem d_M_reduce_86 : decode m_M_reduce.2.1 86 = .ok (.iadd, 1) := by decide +kernel
theorem d_M_reduce_87 : decode m_M_reduce.2.1 87 = .ok (.iaload, 1) := by decide +kernel
theorem d_M_reduce_88 : decode m_M_reduce.2.1 88 = .ok (.invokevirtual 50, 3) := by decide +kernel
theorem d_M_reduce_91 : decode m_M_reduce.2.1 91 = .ok (.ifCond .ne 21, 3) := by decide +kernel
theorem d_M_reduce_94 : decode m_M_reduce.2.1 94 = .ok (.aload_n 0, 1) := by decide +kernel
theorem d_M_reduce_95 : decode m_M_reduce.2.1 95 = .ok (.getfield 21, 3) := by decide +kernel
theorem d_M_reduce_98 : decode m_M_reduce.2.1 98 = .ok (.aload_n 1, 1) := by decide +kernel
theorem d_M_reduce_99 : decode m_M_reduce.2.1 99 = .ok (.aload_n 0, 1) := by decide +kernel
theorem d_M_reduce_100 : decode m_M_reduce.2.1 100 = .ok (.getfield 21, 3) := by decide +kernel
theorem d_M_reduce_103 : decode m_M_reduce.2.1 103 = .ok (.getfield 38, 3) := by decide +kernel
theorem d_M_reduce_106 : decode m_M_reduce.2.1 106 = .ok (.bipush 13, 2) := by decide +kernel
theorem d_M_reduce_108 : decode m_M_reduce.2.1 108 = .ok (.aaload, 1) := by decide +kernel
theorem d_M_reduce_109 : decode m_M_reduce.2.1 109 = .ok (.invokevirtual 42, 3) := by decide +kernel
theorem d_M_reduce_112 : decode m_M_reduce.2.1 112 = .ok (.return_, 1) := by decide +kernel
theorem d_M_perform_0 : decode m_M_perform.2.1 0 = .ok (.aload_n 1, 1) := by decide +kernel
theorem d_M_perform_1 : decode m_M_perform.2.1 1 = .ok (.getfield 54, 3) := by decide +kernel
theorem d_M_perform_4 : decode m_M_perform.2.1 4 = .ok (.astore 6, 2) := by decide +kernel
theorem d_M_perform_6 : decode m_M_perform.2.1 6 = .ok (.iload_n 2, 1) := by decide +kernel
theorem d_M_perform_7 : decode m_M_perform.2.1 7 = .ok (.tableswitch 628 0 26 #[121, 137, 153, 164, 174, 187, 207, 227, 241, 255, 310, 365, 418, 437, 461, 467, 488, 494, 515, 534, 542, 548, 555, 569, 586, 601, 611], 121) := by decide +kernel
theorem d_M_perform_128 : decode m_M_perform.2.1 128 = .ok (.aload_n 1, 1) := by decide +kernel
theorem d_M_perform_129 : decode m_M_perform.2.1 129 = .ok (.iload_n 3, 1) := by decide +kernel
theorem d_M_perform_130 : decode m_M_perform.2.1 130 = .ok (.new 57, 3) := by decide +kernel
theorem d_M_perform_133 : decode m_M_perform.2.1 133 = .ok (.dup, 1) := by decide +kernel
theorem d_M_perform_134 : decode m_M_perform.2.1 134 = .ok (.iconst 0, 1) := by decide +kernel
theorem d_M_perform_135 : decode m_M_perform.2.1 135 = .ok (.iload 4, 2) := by decide +kernel
theorem d_M_perform_137 : decode m_M_perform.2.1 137 = .ok (.invokespecial 59, 3) := by decide +kernel
theorem d_M_perform_140 : decode m_M_perform.2.1 140 = .ok (.invokevirtual 62, 3) := by decide +kernel
theorem d_M_perform_143 : decode m_M_perform.2.1 143 = .ok (.ireturn, 1) := by decide +kernel
theorem d_M_perform_144 : decode m_M_perform.2.1 144 = .ok (.aload_n 1, 1) := by decide +kernel
theorem d_M_perform_145 : decode m_M_perform.2.1 145 = .ok (.iload_n 3, 1) := by decide +kernel
theorem d_M_perform_146 : decode m_M_perform.2.1 146 = .ok (.aload_n 0, 1) := by decide +kernel
theorem d_M_perform_147 : decode m_M_perform.2.1 147 = .ok (.getfield 21, 3) := by decide +kernel
theorem d_M_perform_150 : decode m_M_perform.2.1 150 = .ok (.getfield 38, 3) := by decide +kernel
theorem d_M_perform_153 : decode m_M_perform.2.1 153 = .ok (.iload 4, 2) := by decide +kernel
theorem d_M_perform_155 : decode m_M_perform.2.1 155 = .ok (.aaload, 1) := by decide +kernel
theorem d_M_perform_156 : decode m_M_perform.2.1 156 = .ok (.invokevirtual 62, 3) := by decide +kernel
theorem d_M_perform_159 : decode m_M_perform.2.1 159 = .ok (.ireturn, 1) := by decide +kernel
theorem d_M_perform_160 : decode m_M_perform.2.1 160 = .ok (.aload_n 1, 1) := by decide +kernel
theorem d_M_perform_161 : decode m_M_perform.2.1 161 = .ok (.iload_n 3, 1) := by decide +kernel
theorem d_M_perform_162 : decode m_M_perform.2.1 162 = .ok (.aload 6, 2) := by decide +kernel
theorem d_M_perform_164 : decode m_M_perform.2.1 164 = .ok (.iload 4, 2) := by decide +kernel
theorem d_M_perform_166 : decode m_M_perform.2.1 166 = .ok (.aaload, 1) := by decide +kernel
theorem d_M_perform_167 : decode m_M_perform.2.1 167 = .ok (.invokevirtual 62, 3) := by decide +kernel
theorem d_M_perform_170 : decode m_M_perform.2.1 170 = .ok (.ireturn, 1) := by decide +kernel
theorem d_M_perform_171 : decode m_M_perform.2.1 171 = .ok (.aload_n 1, 1) := by decide +kernel
theorem d_M_perform_172 : decode m_M_perform.2.1 172 = .ok (.iload_n 3, 1) := by decide +kernel
theorem d_M_perform_173 : decode m_M_perform.2.1 173 = .ok (.aload_n 1, 1) := by decide +kernel
theorem d_M_perform_174 : decode m_M_perform.2.1 174 = .ok (.getfield 66, 3) := by decide +kernel
theorem d_M_perform_177 : decode m_M_perform.2.1 177 = .ok (.invokevirtual 62, 3) := by decide +kernel
theorem d_M_perform_180 : decode m_M_perform.2.1 180 = .ok (.ireturn, 1) := by decide +kernel
theorem d_M_perform_181 : decode m_M_perform.2.1 181 = .ok (.aload_n 1, 1) := by decide +kernel
theorem d_M_perform_182 : decode m_M_perform.2.1 182 = .ok (.iload_n 3, 1) := by decide +kernel
theorem d_M_perform_183 : decode m_M_perform.2.1 183 = .ok (.aload_n 0, 1) := by decide +kernel
theorem d_M_perform_184 : decode m_M_perform.2.1 184 = .ok (.getfield 21, 3) := by decide +kernel
theorem d_M_perform_187 : decode m_M_perform.2.1 187 = .ok (.getfield 70, 3) := by decide +kernel
theorem d_M_perform_190 : decode m_M_perform.2.1 190 = .ok (.invokevirtual 62, 3) := by decide +kernel
theorem d_M_perform_193 : decode m_M_perform.2.1 193 = .ok (.ireturn, 1) := by decide +kernel
theorem d_M_perform_194 : decode m_M_perform.2.1 194 = .ok (.aload_n 1, 1) := by decide +kernel
theorem d_M_perform_195 : decode m_M_perform.2.1 195 = .ok (.iload_n 3, 1) := by decide +kernel
theorem d_M_perform_196 : decode m_M_perform.2.1 196 = .ok (.iconst 4, 1) := by decide +kernel
theorem d_M_perform_197 : decode m_M_perform.2.1 197 = .ok (.aload 6, 2) := by decide +kernel
theorem d_M_perform_199 : decode m_M_perform.2.1 199 = .ok (.iload 4, 2) := by decide +kernel
theorem d_M_perform_201 : decode m_M_perform.2.1 201 = .ok (.aaload, 1) := by decide +kernel
theorem d_M_perform_202 : decode m_M_perform.2.1 202 = .ok (.aload 6, 2) := by decide +kernel
theorem d_M_perform_204 : decode m_M_perform.2.1 204 = .ok (.iload 5, 2) := by decide +kernel
theorem d_M_perform_206 : decode m_M_perform.2.1 206 = .ok (.aaload, 1) := by decide +kernel
theorem d_M_perform_207 : decode m_M_perform.2.1 207 = .ok (.invokestatic 73, 3) := by decide +kernel
theorem d_M_perform_210 : decode m_M_perform.2.1 210 = .ok (.invokevirtual 62, 3) := by decide +kernel
theorem d_M_perform_213 : decode m_M_perform.2.1 213 = .ok (.ireturn, 1) := by decide +kernel
theorem d_M_perform_214 : decode m_M_perform.2.1 214 = .ok (.aload_n 1, 1) := by decide +kernel
theorem d_M_perform_215 : decode m_M_perform.2.1 215 = .ok (.iload_n 3, 1) := by decide +kernel
theorem d_M_perform_216 : decode m_M_perform.2.1 216 = .ok (.iconst 5, 1) := by decide +kernel
theorem d_M_perform_217 : decode m_M_perform.2.1 217 = .ok (.aload 6, 2) := by decide +kernel
theorem d_M_perform_219 : decode m_M_perform.2.1 219 = .ok (.iload 4, 2) := by decide +kernel
theorem d_M_perform_221 : decode m_M_perform.2.1 221 = .ok (.aaload, 1) := by decide +kernel
theorem d_M_perform_222 : decode m_M_perform.2.1 222 = .ok (.aload 6, 2) := by decide +kernel
theorem d_M_perform_224 : decode m_M_perform.2.1 224 = .ok (.iload 5, 2) := by decide +kernel
theorem d_M_perform_226 : decode m_M_perform.2.1 226 = .ok (.aaload, 1) := by decide +kernel
theorem d_M_perform_227 : decode m_M_perform.2.1 227 = .ok (.invokestatic 73, 3) := by decide +kernel
theorem d_M_perform_230 : decode m_M_perform.2.1 230 = .ok (.invokevirtual 62, 3) := by decide +kernel
theorem d_M_perform_233 : decode m_M_perform.2.1 233 = .ok (.ireturn, 1) := by decide +kernel
theorem d_M_perform_234 : decode m_M_perform.2.1 234 = .ok (.aload_n 1, 1) := by decide +kernel
theorem d_M_perform_235 : decode m_M_perform.2.1 235 = .ok (.iload_n 3, 1) := by decide +kernel
theorem d_M_perform_236 : decode m_M_perform.2.1 236 = .ok (.aload 6, 2) := by decide +kernel
theorem d_M_perform_238 : decode m_M_perform.2.1 238 = .ok (.iload 4, 2) := by decide +kernel
theorem d_M_perform_240 : decode m_M_perform.2.1 240 = .ok (.aaload, 1) := by decide +kernel
theorem d_M_perform_241 : decode m_M_perform.2.1 241 = .ok (.getfield 77, 3) := by decide +kernel
theorem d_M_perform_244 : decode m_M_perform.2.1 244 = .ok (.invokevirtual 62, 3) := by decide +kernel
theorem d_M_perform_247 : decode m_M_perform.2.1 247 = .ok (.ireturn, 1) := by decide +kernel
theorem d_M_perform_248 : decode m_M_perform.2.1 248 = .ok (.aload_n 1, 1) := by decide +kernel
theorem d_M_perform_249 : decode m_M_perform.2.1 249 = .ok (.iload_n 3, 1) := by decide +kernel
theorem d_M_perform_250 : decode m_M_perform.2.1 250 = .ok (.aload 6, 2) := by decide +kernel
theorem d_M_perform_252 : decode m_M_perform.2.1 252 = .ok (.iload 4, 2) := by decide +kernel
theorem d_M_perform_254 : decode m_M_perform.2.1 254 = .ok (.aaload, 1) := by decide +kernel
theorem d_M_perform_255 : decode m_M_perform.2.1 255 = .ok (.getfield 80, 3) := by decide +kernel
theorem d_M_perform_258 : decode m_M_perform.2.1 258 = .ok (.invokevirtual 62, 3) := by decide +kernel
theorem d_M_perform_261 : decode m_M_perform.2.1 261 = .ok (.ireturn, 1) := by decide +kernel
theorem d_M_perform_262 : decode m_M_perform.2.1 262 = .ok (.aload 6, 2) := by decide +kernel
theorem d_M_perform_264 : decode m_M_perform.2.1 264 = .ok (.iload 4, 2) := by decide +kernel
theorem d_M_perform_266 : decode m_M_perform.2.1 266 = .ok (.aaload, 1) := by decide +kernel
theorem d_M_perform_267 : decode m_M_perform.2.1 267 = .ok (.aload 6, 2) := by decide +kernel
theorem d_M_perform_269 : decode m_M_perform.2.1 269 = .ok (.iload 5, 2) := by decide +kernel
theorem d_M_perform_271 : decode m_M_perform.2.1 271 = .ok (.aaload, 1) := by decide +kernel
theorem d_M_perform_272 : decode m_M_perform.2.1 272 = .ok (.invokestatic 83, 3) := by decide +kernel
theorem d_M_perform_275 : decode m_M_perform.2.1 275 = .ok (.ifCond .eq 40, 3) := by decide +kernel
theorem d_M_perform_278 : decode m_M_perform.2.1 278 = .ok (.aload_n 1, 1) := by decide +kernel
theorem d_M_perform_279 : decode m_M_perform.2.1 279 = .ok (.iload_n 3, 1) := by decide +kernel
theorem d_M_perform_280 : decode m_M_perform.2.1 280 = .ok (.new 57, 3) := by decide +kernel
theorem d_M_perform_283 : decode m_M_perform.2.1 283 = .ok (.dup, 1) := by decide +kernel
theorem d_M_perform_284 : decode m_M_perform.2.1 284 = .ok (.iconst 0, 1) := by decide +kernel
theorem d_M_perform_285 : decode m_M_perform.2.1 285 = .ok (.aload 6, 2) := by decide +kernel
theorem d_M_perform_287 : decode m_M_perform.2.1 287 = .ok (.iload 4, 2) := by decide +kernel
theorem d_M_perform_289 : decode m_M_perform.2.1 289 = .ok (.aaload, 1) := by decide +kernel
theorem d_M_perform_290 : decode m_M_perform.2.1 290 = .ok (.getfield 87, 3) := by decide +kernel
theorem d_M_perform_293 : decode m_M_perform.2.1 293 = .ok (.aload 6, 2) := by decide +kernel
theorem d_M_perform_295 : decode m_M_perform.2.1 295 = .ok (.iload 5, 2) := by decide +kernel
theorem d_M_perform_297 : decode m_M_perform.2.1 297 = .ok (.aaload, 1) := by decide +kernel
theorem d_M_perform_298 : decode m_M_perform.2.1 298 = .ok (.getfield 87, 3) := by decide +kernel
theorem d_M_perform_301 : decode m_M_perform.2.1 301 = .ok (.iadd, 1) := by decide +kernel
theorem d_M_perform_302 : decode m_M_perform.2.1 302 = .ok (.invokespecial 59, 3) := by decide +kernel
theorem d_M_perform_305 : decode m_M_perform.2.1 305 = .ok (.invokevirtual 62, 3) := by decide +kernel
theorem d_M_perform_308 : decode m_M_perform.2.1 308 = .ok (.ifCond .eq 7, 3) := by decide +kernel
theorem d_M_perform_311 : decode m_M_perform.2.1 311 = .ok (.iconst 1, 1) := by decide +kernel
theorem d_M_perform_312 : decode m_M_perform.2.1 312 = .ok (.goto 4, 3) := by decide +kernel
theorem d_M_perform_315 : decode m_M_perform.2.1 315 = .ok (.iconst 0, 1) := by decide +kernel
theorem d_M_perform_316 : decode m_M_perform.2.1 316 = .ok (.ireturn, 1) := by decide +kernel
theorem d_M_perform_317 : decode m_M_perform.2.1 317 = .ok (.aload 6, 2) := by decide +kernel
theorem d_M_perform_319 : decode m_M_perform.2.1 319 = .ok (.iload 4, 2) := by decide +kernel
theorem d_M_perform_321 : decode m_M_perform.2.1 321 = .ok (.aaload, 1) := by decide +kernel
theorem d_M_perform_322 : decode m_M_perform.2.1 322 = .ok (.aload 6, 2) := by decide +kernel
theorem d_M_perform_324 : decode m_M_perform.2.1 324 = .ok (.iload 5, 2) := by decide +kernel
theorem d_M_perform_326 : decode m_M_perform.2.1 326 = .ok (.aaload, 1) := by decide +kernel
theorem d_M_perform_327 : decode m_M_perform.2.1 327 = .ok (.invokestatic 83, 3) := by decide +kernel
theorem d_M_perform_330 : decode m_M_perform.2.1 330 = .ok (.ifCond .eq 40, 3) := by decide +kernel
theorem d_M_perform_333 : decode m_M_perform.2.1 333 = .ok (.aload_n 1, 1) := by decide +kernel
theorem d_M_perform_334 : decode m_M_perform.2.1 334 = .ok (.iload_n 3, 1) := by decide +kernel
theorem d_M_perform_335 : decode m_M_perform.2.1 335 = .ok (.new 57, 3) := by decide +kernel
theorem d_M_perform_338 : decode m_M_perform.2.1 338 = .ok (.dup, 1) := by decide +kernel
theorem d_M_perform_339 : decode m_M_perform.2.1 339 = .ok (.iconst 0, 1) := by decide +kernel
theorem d_M_perform_340 : decode m_M_perform.2.1 340 = .ok (.aload 6, 2) := by decide +kernel
theorem d_M_perform_342 : decode m_M_perform.2.1 342 = .ok (.iload 4, 2) := by decide +kernel
theorem d_M_perform_344 : decode m_M_perform.2.1 344 = .ok (.aaload, 1) := by decide +kernel
theorem d_M_perform_345 : decode m_M_perform.2.1 345 = .ok (.getfield 87, 3) := by decide +kernel
theorem d_M_perform_348 : decode m_M_perform.2.1 348 = .ok (.aload 6, 2) := by decide +kernel
theorem d_M_perform_350 : decode m_M_perform.2.1 350 = .ok (.iload 5, 2) := by decide +kernel
theorem d_M_perform_352 : decode m_M_perform.2.1 352 = .ok (.aaload, 1) := by decide +kernel
theorem d_M_perform_353 : decode m_M_perform.2.1 353 = .ok (.getfield 87, 3) := by decide +kernel
theorem d_M_perform_356 : decode m_M_perform.2.1 356 = .ok (.isub, 1) := by decide +kernel
theorem d_M_perform_357 : decode m_M_perform.2.1 357 = .ok (.invokespecial 59, 3) := by decide +kernel
theorem d_M_perform_360 : decode m_M_perform.2.1 360 = .ok (.invokevirtual 62, 3) := by decide +kernel
theorem d_M_perform_363 : decode m_M_perform.2.1 363 = .ok (.ifCond .eq 7, 3) := by decide +kernel
theorem d_M_perform_366 : decode m_M_perform.2.1 366 = .ok (.iconst 1, 1) := by decide +kernel
theorem d_M_perform_367 : decode m_M_perform.2.1 367 = .ok (.goto 4, 3) := by decide +kernel
theorem d_M_perform_370 : decode m_M_perform.2.1 370 = .ok (.iconst 0, 1) := by decide +kernel
theorem d_M_perform_371 : decode m_M_perform.2.1 371 = .ok (.ireturn, 1) := by decide +kernel
theorem d_M_perform_372 : decode m_M_perform.2.1 372 = .ok (.aload 6, 2) := by decide +kernel
theorem d_M_perform_374 : decode m_M_perform.2.1 374 = .ok (.iload_n 3, 1) := by decide +kernel
theorem d_M_perform_375 : decode m_M_perform.2.1 375 = .ok (.aaload, 1) := by decide +kernel
theorem d_M_perform_376 : decode m_M_perform.2.1 376 = .ok (.aload 6, 2) := by decide +kernel
theorem d_M_perform_378 : decode m_M_perform.2.1 378 = .ok (.iload 4, 2) := by decide +kernel
theorem d_M_perform_380 : decode m_M_perform.2.1 380 = .ok (.aaload, 1) := by decide +kernel
theorem d_M_perform_381 : decode m_M_perform.2.1 381 = .ok (.invokestatic 83, 3) := by decide +kernel
theorem d_M_perform_384 : decode m_M_perform.2.1 384 = .ok (.ifCond .eq 39, 3) := by decide +kernel
theorem d_M_perform_387 : decode m_M_perform.2.1 387 = .ok (.aload_n 1, 1) := by decide +kernel
theorem d_M_perform_388 : decode m_M_perform.2.1 388 = .ok (.aload 6, 2) := by decide +kernel
theorem d_M_perform_390 : decode m_M_perform.2.1 390 = .ok (.iload_n 3, 1) := by decide +kernel
theorem d_M_perform_391 : decode m_M_perform.2.1 391 = .ok (.aaload, 1) := by decide +kernel
theorem d_M_perform_392 : decode m_M_perform.2.1 392 = .ok (.getfield 87, 3) := by decide +kernel
theorem d_M_perform_395 : decode m_M_perform.2.1 395 = .ok (.aload 6, 2) := by decide +kernel
theorem d_M_perform_397 : decode m_M_perform.2.1 397 = .ok (.iload 4, 2) := by decide +kernel
theorem d_M_perform_399 : decode m_M_perform.2.1 399 = .ok (.aaload, 1) := by decide +kernel
theorem d_M_perform_400 : decode m_M_perform.2.1 400 = .ok (.getfield 87, 3) := by decide +kernel
theorem d_M_perform_403 : decode m_M_perform.2.1 403 = .ok (.if_icmp .ge 7, 3) := by decide +kernel
theorem d_M_perform_406 : decode m_M_perform.2.1 406 = .ok (.iconst 1, 1) := by decide +kernel
theorem d_M_perform_407 : decode m_M_perform.2.1 407 = .ok (.goto 4, 3) := by decide +kernel
theorem d_M_perform_410 : decode m_M_perform.2.1 410 = .ok (.iconst 0, 1) := by decide +kernel
theorem d_M_perform_411 : decode m_M_perform.2.1 411 = .ok (.iload 5, 2) := by decide +kernel
theorem d_M_perform_413 : decode m_M_perform.2.1 413 = .ok (.invokestatic 90, 3) := by decide +kernel
theorem d_M_perform_416 : decode m_M_perform.2.1 416 = .ok (.ifCond .eq 7, 3) := by decide +kernel
theorem d_M_perform_419 : decode m_M_perform.2.1 419 = .ok (.iconst 1, 1) := by decide +kernel
theorem d_M_perform_420 : decode m_M_perform.2.1 420 = .ok (.goto 4, 3) := by decide +kernel
theorem d_M_perform_423 : decode m_M_perform.2.1 423 = .ok (.iconst 0, 1) := by decide +kernel
end
section
/-! Decode rows (printed by wip/gen/dec.py). -/
theorem d_M_perform_424 : decode m_M_perform.2.1 424 = .ok (.ireturn, 1) := by decide +kernel
theorem d_M_perform_425 : decode m_M_perform.2.1 425 = .ok (.aload_n 1, 1) := by decide +kernel
theorem d_M_perform_426 : decode m_M_perform.2.1 426 = .ok (.aload 6, 2) := by decide +kernel
theorem d_M_perform_428 : decode m_M_perform.2.1 428 = .ok (.iload_n 3, 1) := by decide +kernel
theorem d_M_perform_429 : decode m_M_perform.2.1 429 = .ok (.aaload, 1) := by decide +kernel
theorem d_M_perform_430 : decode m_M_perform.2.1 430 = .ok (.aload 6, 2) := by decide +kernel
theorem d_M_perform_432 : decode m_M_perform.2.1 432 = .ok (.iload 4, 2) := by decide +kernel
theorem d_M_perform_434 : decode m_M_perform.2.1 434 = .ok (.aaload, 1) := by decide +kernel
theorem d_M_perform_435 : decode m_M_perform.2.1 435 = .ok (.invokestatic 94, 3) := by decide +kernel
theorem d_M_perform_438 : decode m_M_perform.2.1 438 = .ok (.iload 5, 2) := by decide +kernel
theorem d_M_perform_440 : decode m_M_perform.2.1 440 = .ok (.invokestatic 90, 3) := by decide +kernel
theorem d_M_perform_443 : decode m_M_perform.2.1 443 = .ok (.ireturn, 1) := by decide +kernel
theorem d_M_perform_444 : decode m_M_perform.2.1 444 = .ok (.aload_n 1, 1) := by decide +kernel
theorem d_M_perform_445 : decode m_M_perform.2.1 445 = .ok (.aload 6, 2) := by decide +kernel
theorem d_M_perform_447 : decode m_M_perform.2.1 447 = .ok (.iload_n 3, 1) := by decide +kernel
theorem d_M_perform_448 : decode m_M_perform.2.1 448 = .ok (.aaload, 1) := by decide +kernel
theorem d_M_perform_449 : decode m_M_perform.2.1 449 = .ok (.getfield 97, 3) := by decide +kernel
theorem d_M_perform_452 : decode m_M_perform.2.1 452 = .ok (.iload 4, 2) := by decide +kernel
theorem d_M_perform_454 : decode m_M_perform.2.1 454 = .ok (.if_icmp .ne 7, 3) := by decide +kernel
theorem d_M_perform_457 : decode m_M_perform.2.1 457 = .ok (.iconst 1, 1) := by decide +kernel
theorem d_M_perform_458 : decode m_M_perform.2.1 458 = .ok (.goto 4, 3) := by decide +kernel
theorem d_M_perform_461 : decode m_M_perform.2.1 461 = .ok (.iconst 0, 1) := by decide +kernel
theorem d_M_perform_462 : decode m_M_perform.2.1 462 = .ok (.iload 5, 2) := by decide +kernel
theorem d_M_perform_464 : decode m_M_perform.2.1 464 = .ok (.invokestatic 90, 3) := by decide +kernel
theorem d_M_perform_467 : decode m_M_perform.2.1 467 = .ok (.ireturn, 1) := by decide +kernel
theorem d_M_perform_468 : decode m_M_perform.2.1 468 = .ok (.aload_n 1, 1) := by decide +kernel
theorem d_M_perform_469 : decode m_M_perform.2.1 469 = .ok (.iload_n 3, 1) := by decide +kernel
theorem d_M_perform_470 : decode m_M_perform.2.1 470 = .ok (.invokevirtual 100, 3) := by decide +kernel
theorem d_M_perform_473 : decode m_M_perform.2.1 473 = .ok (.ireturn, 1) := by decide +kernel
theorem d_M_perform_474 : decode m_M_perform.2.1 474 = .ok (.aload_n 1, 1) := by decide +kernel
theorem d_M_perform_475 : decode m_M_perform.2.1 475 = .ok (.invokevirtual 103, 3) := by decide +kernel
theorem d_M_perform_478 : decode m_M_perform.2.1 478 = .ok (.ifCond .eq 15, 3) := by decide +kernel
theorem d_M_perform_481 : decode m_M_perform.2.1 481 = .ok (.aload_n 1, 1) := by decide +kernel
theorem d_M_perform_482 : decode m_M_perform.2.1 482 = .ok (.iload_n 3, 1) := by decide +kernel
theorem d_M_perform_483 : decode m_M_perform.2.1 483 = .ok (.invokevirtual 100, 3) := by decide +kernel
theorem d_M_perform_486 : decode m_M_perform.2.1 486 = .ok (.ifCond .eq 7, 3) := by decide +kernel
theorem d_M_perform_489 : decode m_M_perform.2.1 489 = .ok (.iconst 1, 1) := by decide +kernel
theorem d_M_perform_490 : decode m_M_perform.2.1 490 = .ok (.goto 4, 3) := by decide +kernel
theorem d_M_perform_493 : decode m_M_perform.2.1 493 = .ok (.iconst 0, 1) := by decide +kernel
theorem d_M_perform_494 : decode m_M_perform.2.1 494 = .ok (.ireturn, 1) := by decide +kernel
theorem d_M_perform_495 : decode m_M_perform.2.1 495 = .ok (.aload_n 0, 1) := by decide +kernel
theorem d_M_perform_496 : decode m_M_perform.2.1 496 = .ok (.aload_n 1, 1) := by decide +kernel
theorem d_M_perform_497 : decode m_M_perform.2.1 497 = .ok (.invokevirtual 107, 3) := by decide +kernel
theorem d_M_perform_500 : decode m_M_perform.2.1 500 = .ok (.ireturn, 1) := by decide +kernel
theorem d_M_perform_501 : decode m_M_perform.2.1 501 = .ok (.aload_n 0, 1) := by decide +kernel
theorem d_M_perform_502 : decode m_M_perform.2.1 502 = .ok (.aload_n 0, 1) := by decide +kernel
theorem d_M_perform_503 : decode m_M_perform.2.1 503 = .ok (.getfield 21, 3) := by decide +kernel
theorem d_M_perform_506 : decode m_M_perform.2.1 506 = .ok (.aload 6, 2) := by decide +kernel
theorem d_M_perform_508 : decode m_M_perform.2.1 508 = .ok (.iload_n 3, 1) := by decide +kernel
theorem d_M_perform_509 : decode m_M_perform.2.1 509 = .ok (.aaload, 1) := by decide +kernel
theorem d_M_perform_510 : decode m_M_perform.2.1 510 = .ok (.invokevirtual 111, 3) := by decide +kernel
theorem d_M_perform_513 : decode m_M_perform.2.1 513 = .ok (.aload 6, 2) := by decide +kernel
theorem d_M_perform_515 : decode m_M_perform.2.1 515 = .ok (.iload 4, 2) := by decide +kernel
theorem d_M_perform_517 : decode m_M_perform.2.1 517 = .ok (.aaload, 1) := by decide +kernel
theorem d_M_perform_518 : decode m_M_perform.2.1 518 = .ok (.invokevirtual 115, 3) := by decide +kernel
theorem d_M_perform_521 : decode m_M_perform.2.1 521 = .ok (.ireturn, 1) := by decide +kernel
theorem d_M_perform_522 : decode m_M_perform.2.1 522 = .ok (.aload_n 1, 1) := by decide +kernel
theorem d_M_perform_523 : decode m_M_perform.2.1 523 = .ok (.aload_n 1, 1) := by decide +kernel
theorem d_M_perform_524 : decode m_M_perform.2.1 524 = .ok (.iload_n 3, 1) := by decide +kernel
theorem d_M_perform_525 : decode m_M_perform.2.1 525 = .ok (.aload_n 1, 1) := by decide +kernel
theorem d_M_perform_526 : decode m_M_perform.2.1 526 = .ok (.getfield 119, 3) := by decide +kernel
theorem d_M_perform_529 : decode m_M_perform.2.1 529 = .ok (.invokevirtual 123, 3) := by decide +kernel
theorem d_M_perform_532 : decode m_M_perform.2.1 532 = .ok (.invokevirtual 62, 3) := by decide +kernel
theorem d_M_perform_535 : decode m_M_perform.2.1 535 = .ok (.iload 4, 2) := by decide +kernel
theorem d_M_perform_537 : decode m_M_perform.2.1 537 = .ok (.invokestatic 90, 3) := by decide +kernel
theorem d_M_perform_540 : decode m_M_perform.2.1 540 = .ok (.ireturn, 1) := by decide +kernel
theorem d_M_perform_541 : decode m_M_perform.2.1 541 = .ok (.aload_n 1, 1) := by decide +kernel
theorem d_M_perform_542 : decode m_M_perform.2.1 542 = .ok (.getfield 119, 3) := by decide +kernel
theorem d_M_perform_545 : decode m_M_perform.2.1 545 = .ok (.invokevirtual 129, 3) := by decide +kernel
theorem d_M_perform_548 : decode m_M_perform.2.1 548 = .ok (.ireturn, 1) := by decide +kernel
theorem d_M_perform_549 : decode m_M_perform.2.1 549 = .ok (.aload_n 1, 1) := by decide +kernel
theorem d_M_perform_550 : decode m_M_perform.2.1 550 = .ok (.iload_n 3, 1) := by decide +kernel
theorem d_M_perform_551 : decode m_M_perform.2.1 551 = .ok (.invokestatic 132, 3) := by decide +kernel
theorem d_M_perform_554 : decode m_M_perform.2.1 554 = .ok (.ireturn, 1) := by decide +kernel
theorem d_M_perform_555 : decode m_M_perform.2.1 555 = .ok (.aload_n 0, 1) := by decide +kernel
theorem d_M_perform_556 : decode m_M_perform.2.1 556 = .ok (.aload_n 1, 1) := by decide +kernel
theorem d_M_perform_557 : decode m_M_perform.2.1 557 = .ok (.iload_n 3, 1) := by decide +kernel
theorem d_M_perform_558 : decode m_M_perform.2.1 558 = .ok (.invokevirtual 136, 3) := by decide +kernel
theorem d_M_perform_561 : decode m_M_perform.2.1 561 = .ok (.ireturn, 1) := by decide +kernel
theorem d_M_perform_562 : decode m_M_perform.2.1 562 = .ok (.aload_n 0, 1) := by decide +kernel
theorem d_M_perform_563 : decode m_M_perform.2.1 563 = .ok (.aload_n 1, 1) := by decide +kernel
theorem d_M_perform_564 : decode m_M_perform.2.1 564 = .ok (.iload_n 3, 1) := by decide +kernel
theorem d_M_perform_565 : decode m_M_perform.2.1 565 = .ok (.iload 4, 2) := by decide +kernel
theorem d_M_perform_567 : decode m_M_perform.2.1 567 = .ok (.aload 6, 2) := by decide +kernel
theorem d_M_perform_569 : decode m_M_perform.2.1 569 = .ok (.iload 5, 2) := by decide +kernel
theorem d_M_perform_571 : decode m_M_perform.2.1 571 = .ok (.aaload, 1) := by decide +kernel
theorem d_M_perform_572 : decode m_M_perform.2.1 572 = .ok (.invokevirtual 139, 3) := by decide +kernel
theorem d_M_perform_575 : decode m_M_perform.2.1 575 = .ok (.ireturn, 1) := by decide +kernel
theorem d_M_perform_576 : decode m_M_perform.2.1 576 = .ok (.aload_n 0, 1) := by decide +kernel
theorem d_M_perform_577 : decode m_M_perform.2.1 577 = .ok (.aload_n 1, 1) := by decide +kernel
theorem d_M_perform_578 : decode m_M_perform.2.1 578 = .ok (.aload_n 0, 1) := by decide +kernel
theorem d_M_perform_579 : decode m_M_perform.2.1 579 = .ok (.getfield 21, 3) := by decide +kernel
theorem d_M_perform_582 : decode m_M_perform.2.1 582 = .ok (.aload 6, 2) := by decide +kernel
theorem d_M_perform_584 : decode m_M_perform.2.1 584 = .ok (.iload_n 3, 1) := by decide +kernel
theorem d_M_perform_585 : decode m_M_perform.2.1 585 = .ok (.aaload, 1) := by decide +kernel
theorem d_M_perform_586 : decode m_M_perform.2.1 586 = .ok (.invokevirtual 111, 3) := by decide +kernel
theorem d_M_perform_589 : decode m_M_perform.2.1 589 = .ok (.invokevirtual 143, 3) := by decide +kernel
theorem d_M_perform_592 : decode m_M_perform.2.1 592 = .ok (.ireturn, 1) := by decide +kernel
theorem d_M_perform_593 : decode m_M_perform.2.1 593 = .ok (.aload_n 1, 1) := by decide +kernel
theorem d_M_perform_594 : decode m_M_perform.2.1 594 = .ok (.iload_n 3, 1) := by decide +kernel
theorem d_M_perform_595 : decode m_M_perform.2.1 595 = .ok (.iconst 1, 1) := by decide +kernel
theorem d_M_perform_596 : decode m_M_perform.2.1 596 = .ok (.if_icmp .ne 7, 3) := by decide +kernel
theorem d_M_perform_599 : decode m_M_perform.2.1 599 = .ok (.iconst 1, 1) := by decide +kernel
theorem d_M_perform_600 : decode m_M_perform.2.1 600 = .ok (.goto 4, 3) := by decide +kernel
theorem d_M_perform_603 : decode m_M_perform.2.1 603 = .ok (.iconst 0, 1) := by decide +kernel
theorem d_M_perform_604 : decode m_M_perform.2.1 604 = .ok (.invokestatic 147, 3) := by decide +kernel
theorem d_M_perform_607 : decode m_M_perform.2.1 607 = .ok (.ireturn, 1) := by decide +kernel
theorem d_M_perform_608 : decode m_M_perform.2.1 608 = .ok (.aload_n 0, 1) := by decide +kernel
theorem d_M_perform_609 : decode m_M_perform.2.1 609 = .ok (.aload_n 1, 1) := by decide +kernel
theorem d_M_perform_610 : decode m_M_perform.2.1 610 = .ok (.aload 6, 2) := by decide +kernel
theorem d_M_perform_612 : decode m_M_perform.2.1 612 = .ok (.iload_n 3, 1) := by decide +kernel
theorem d_M_perform_613 : decode m_M_perform.2.1 613 = .ok (.aaload, 1) := by decide +kernel
theorem d_M_perform_614 : decode m_M_perform.2.1 614 = .ok (.invokevirtual 151, 3) := by decide +kernel
theorem d_M_perform_617 : decode m_M_perform.2.1 617 = .ok (.ireturn, 1) := by decide +kernel
theorem d_M_perform_618 : decode m_M_perform.2.1 618 = .ok (.aload_n 0, 1) := by decide +kernel
theorem d_M_perform_619 : decode m_M_perform.2.1 619 = .ok (.aload_n 1, 1) := by decide +kernel
theorem d_M_perform_620 : decode m_M_perform.2.1 620 = .ok (.aload_n 0, 1) := by decide +kernel
theorem d_M_perform_621 : decode m_M_perform.2.1 621 = .ok (.getfield 21, 3) := by decide +kernel
theorem d_M_perform_624 : decode m_M_perform.2.1 624 = .ok (.aload 6, 2) := by decide +kernel
theorem d_M_perform_626 : decode m_M_perform.2.1 626 = .ok (.iload_n 3, 1) := by decide +kernel
theorem d_M_perform_627 : decode m_M_perform.2.1 627 = .ok (.aaload, 1) := by decide +kernel
theorem d_M_perform_628 : decode m_M_perform.2.1 628 = .ok (.invokevirtual 111, 3) := by decide +kernel
theorem d_M_perform_631 : decode m_M_perform.2.1 631 = .ok (.invokevirtual 154, 3) := by decide +kernel
theorem d_M_perform_634 : decode m_M_perform.2.1 634 = .ok (.ireturn, 1) := by decide +kernel
theorem d_M_perform_635 : decode m_M_perform.2.1 635 = .ok (.iconst 0, 1) := by decide +kernel
theorem d_M_perform_636 : decode m_M_perform.2.1 636 = .ok (.ireturn, 1) := by decide +kernel
theorem d_M_areInts_0 : decode m_M_areInts.2.1 0 = .ok (.aload_n 0, 1) := by decide +kernel
theorem d_M_areInts_1 : decode m_M_areInts.2.1 1 = .ok (.getfield 97, 3) := by decide +kernel
theorem d_M_areInts_4 : decode m_M_areInts.2.1 4 = .ok (.ifCond .ne 14, 3) := by decide +kernel
theorem d_M_areInts_7 : decode m_M_areInts.2.1 7 = .ok (.aload_n 1, 1) := by decide +kernel
theorem d_M_areInts_8 : decode m_M_areInts.2.1 8 = .ok (.getfield 97, 3) := by decide +kernel
theorem d_M_areInts_11 : decode m_M_areInts.2.1 11 = .ok (.ifCond .ne 7, 3) := by decide +kernel
theorem d_M_areInts_14 : decode m_M_areInts.2.1 14 = .ok (.iconst 1, 1) := by decide +kernel
theorem d_M_areInts_15 : decode m_M_areInts.2.1 15 = .ok (.goto 4, 3) := by decide +kernel
theorem d_M_areInts_18 : decode m_M_areInts.2.1 18 = .ok (.iconst 0, 1) := by decide +kernel
theorem d_M_areInts_19 : decode m_M_areInts.2.1 19 = .ok (.ireturn, 1) := by decide +kernel
theorem d_M_goUnless_0 : decode m_M_goUnless.2.1 0 = .ok (.iload_n 1, 1) := by decide +kernel
theorem d_M_goUnless_1 : decode m_M_goUnless.2.1 1 = .ok (.ifCond .ne 11, 3) := by decide +kernel
theorem d_M_goUnless_4 : decode m_M_goUnless.2.1 4 = .ok (.aload_n 0, 1) := by decide +kernel
theorem d_M_goUnless_5 : decode m_M_goUnless.2.1 5 = .ok (.iload_n 2, 1) := by decide +kernel
theorem d_M_goUnless_6 : decode m_M_goUnless.2.1 6 = .ok (.invokevirtual 100, 3) := by decide +kernel
theorem d_M_goUnless_9 : decode m_M_goUnless.2.1 9 = .ok (.ifCond .eq 7, 3) := by decide +kernel
theorem d_M_goUnless_12 : decode m_M_goUnless.2.1 12 = .ok (.iconst 1, 1) := by decide +kernel
theorem d_M_goUnless_13 : decode m_M_goUnless.2.1 13 = .ok (.goto 4, 3) := by decide +kernel
theorem d_M_goUnless_16 : decode m_M_goUnless.2.1 16 = .ok (.iconst 0, 1) := by decide +kernel
theorem d_M_goUnless_17 : decode m_M_goUnless.2.1 17 = .ok (.ireturn, 1) := by decide +kernel
theorem d_M_goBack_0 : decode m_M_goBack.2.1 0 = .ok (.aload_n 1, 1) := by decide +kernel
theorem d_M_goBack_1 : decode m_M_goBack.2.1 1 = .ok (.getfield 157, 3) := by decide +kernel
theorem d_M_goBack_4 : decode m_M_goBack.2.1 4 = .ok (.ifCond .gt 23, 3) := by decide +kernel
theorem d_M_goBack_7 : decode m_M_goBack.2.1 7 = .ok (.aload_n 0, 1) := by decide +kernel
theorem d_M_goBack_8 : decode m_M_goBack.2.1 8 = .ok (.getfield 21, 3) := by decide +kernel
theorem d_M_goBack_11 : decode m_M_goBack.2.1 11 = .ok (.aload_n 1, 1) := by decide +kernel
theorem d_M_goBack_12 : decode m_M_goBack.2.1 12 = .ok (.aload_n 0, 1) := by decide +kernel
theorem d_M_goBack_13 : decode m_M_goBack.2.1 13 = .ok (.getfield 21, 3) := by decide +kernel
theorem d_M_goBack_16 : decode m_M_goBack.2.1 16 = .ok (.getfield 38, 3) := by decide +kernel
theorem d_M_goBack_19 : decode m_M_goBack.2.1 19 = .ok (.bipush 14, 2) := by decide +kernel
theorem d_M_goBack_21 : decode m_M_goBack.2.1 21 = .ok (.aaload, 1) := by decide +kernel
theorem d_M_goBack_22 : decode m_M_goBack.2.1 22 = .ok (.invokevirtual 42, 3) := by decide +kernel
theorem d_M_goBack_25 : decode m_M_goBack.2.1 25 = .ok (.iconst 1, 1) := by decide +kernel
theorem d_M_goBack_26 : decode m_M_goBack.2.1 26 = .ok (.ireturn, 1) := by decide +kernel
theorem d_M_goBack_27 : decode m_M_goBack.2.1 27 = .ok (.aload_n 1, 1) := by decide +kernel
theorem d_M_goBack_28 : decode m_M_goBack.2.1 28 = .ok (.dup, 1) := by decide +kernel
theorem d_M_goBack_29 : decode m_M_goBack.2.1 29 = .ok (.getfield 157, 3) := by decide +kernel
theorem d_M_goBack_32 : decode m_M_goBack.2.1 32 = .ok (.iconst 1, 1) := by decide +kernel
theorem d_M_goBack_33 : decode m_M_goBack.2.1 33 = .ok (.isub, 1) := by decide +kernel
theorem d_M_goBack_34 : decode m_M_goBack.2.1 34 = .ok (.putfield 157, 3) := by decide +kernel
theorem d_M_goBack_37 : decode m_M_goBack.2.1 37 = .ok (.aload_n 1, 1) := by decide +kernel
theorem d_M_goBack_38 : decode m_M_goBack.2.1 38 = .ok (.aload_n 1, 1) := by decide +kernel
theorem d_M_goBack_39 : decode m_M_goBack.2.1 39 = .ok (.getfield 160, 3) := by decide +kernel
theorem d_M_goBack_42 : decode m_M_goBack.2.1 42 = .ok (.aload_n 1, 1) := by decide +kernel
theorem d_M_goBack_43 : decode m_M_goBack.2.1 43 = .ok (.getfield 157, 3) := by decide +kernel
theorem d_M_goBack_46 : decode m_M_goBack.2.1 46 = .ok (.iaload, 1) := by decide +kernel
theorem d_M_goBack_47 : decode m_M_goBack.2.1 47 = .ok (.invokevirtual 100, 3) := by decide +kernel
theorem d_M_goBack_50 : decode m_M_goBack.2.1 50 = .ok (.ireturn, 1) := by decide +kernel
theorem d_M_send_0 : decode m_M_send.2.1 0 = .ok (.aload_n 1, 1) := by decide +kernel
theorem d_M_send_1 : decode m_M_send.2.1 1 = .ok (.ifnonnull 5, 3) := by decide +kernel
theorem d_M_send_4 : decode m_M_send.2.1 4 = .ok (.iconst 0, 1) := by decide +kernel
theorem d_M_send_5 : decode m_M_send.2.1 5 = .ok (.ireturn, 1) := by decide +kernel
theorem d_M_send_6 : decode m_M_send.2.1 6 = .ok (.aload_n 0, 1) := by decide +kernel
theorem d_M_send_7 : decode m_M_send.2.1 7 = .ok (.getfield 21, 3) := by decide +kernel
theorem d_M_send_10 : decode m_M_send.2.1 10 = .ok (.aload_n 1, 1) := by decide +kernel
theorem d_M_send_11 : decode m_M_send.2.1 11 = .ok (.aload_n 2, 1) := by decide +kernel
theorem d_M_send_12 : decode m_M_send.2.1 12 = .ok (.invokevirtual 163, 3) := by decide +kernel
theorem d_M_send_15 : decode m_M_send.2.1 15 = .ok (.iconst 1, 1) := by decide +kernel
theorem d_M_send_16 : decode m_M_send.2.1 16 = .ok (.ireturn, 1) := by decide +kernel
theorem d_M_passOver_0 : decode m_M_passOver.2.1 0 = .ok (.aload_n 0, 1) := by decide +kernel
theorem d_M_passOver_1 : decode m_M_passOver.2.1 1 = .ok (.getfield 119, 3) := by decide +kernel
theorem d_M_passOver_4 : decode m_M_passOver.2.1 4 = .ok (.dup, 1) := by decide +kernel
theorem d_M_passOver_5 : decode m_M_passOver.2.1 5 = .ok (.getfield 166, 3) := by decide +kernel
theorem d_M_passOver_8 : decode m_M_passOver.2.1 8 = .ok (.iconst 1, 1) := by decide +kernel
theorem d_M_passOver_9 : decode m_M_passOver.2.1 9 = .ok (.iadd, 1) := by decide +kernel
theorem d_M_passOver_10 : decode m_M_passOver.2.1 10 = .ok (.putfield 166, 3) := by decide +kernel
theorem d_M_passOver_13 : decode m_M_passOver.2.1 13 = .ok (.aload_n 0, 1) := by decide +kernel
theorem d_M_passOver_14 : decode m_M_passOver.2.1 14 = .ok (.iload_n 1, 1) := by decide +kernel
theorem d_M_passOver_15 : decode m_M_passOver.2.1 15 = .ok (.invokevirtual 100, 3) := by decide +kernel
theorem d_M_passOver_18 : decode m_M_passOver.2.1 18 = .ok (.ireturn, 1) := by decide +kernel
theorem d_M_waitOrGoOn_0 : decode m_M_waitOrGoOn.2.1 0 = .ok (.aload_n 1, 1) := by decide +kernel
theorem d_M_waitOrGoOn_1 : decode m_M_waitOrGoOn.2.1 1 = .ok (.getfield 119, 3) := by decide +kernel
theorem d_M_waitOrGoOn_4 : decode m_M_waitOrGoOn.2.1 4 = .ok (.invokevirtual 123, 3) := by decide +kernel
theorem d_M_waitOrGoOn_7 : decode m_M_waitOrGoOn.2.1 7 = .ok (.ifnonnull 11, 3) := by decide +kernel
theorem d_M_waitOrGoOn_10 : decode m_M_waitOrGoOn.2.1 10 = .ok (.aload_n 0, 1) := by decide +kernel
theorem d_M_waitOrGoOn_11 : decode m_M_waitOrGoOn.2.1 11 = .ok (.getfield 21, 3) := by decide +kernel
theorem d_M_waitOrGoOn_14 : decode m_M_waitOrGoOn.2.1 14 = .ok (.aload_n 1, 1) := by decide +kernel
theorem d_M_waitOrGoOn_15 : decode m_M_waitOrGoOn.2.1 15 = .ok (.invokevirtual 169, 3) := by decide +kernel
theorem d_M_waitOrGoOn_18 : decode m_M_waitOrGoOn.2.1 18 = .ok (.aload_n 1, 1) := by decide +kernel
theorem d_M_waitOrGoOn_19 : decode m_M_waitOrGoOn.2.1 19 = .ok (.iload_n 2, 1) := by decide +kernel
theorem d_M_waitOrGoOn_20 : decode m_M_waitOrGoOn.2.1 20 = .ok (.invokevirtual 100, 3) := by decide +kernel
theorem d_M_waitOrGoOn_23 : decode m_M_waitOrGoOn.2.1 23 = .ok (.ireturn, 1) := by decide +kernel
theorem d_M_spawn_0 : decode m_M_spawn.2.1 0 = .ok (.aload_n 0, 1) := by decide +kernel
theorem d_M_spawn_1 : decode m_M_spawn.2.1 1 = .ok (.getfield 21, 3) := by decide +kernel
theorem d_M_spawn_4 : decode m_M_spawn.2.1 4 = .ok (.iload_n 3, 1) := by decide +kernel
theorem d_M_spawn_5 : decode m_M_spawn.2.1 5 = .ok (.aload 4, 2) := by decide +kernel
theorem d_M_spawn_7 : decode m_M_spawn.2.1 7 = .ok (.invokevirtual 173, 3) := by decide +kernel
theorem d_M_spawn_10 : decode m_M_spawn.2.1 10 = .ok (.astore 5, 2) := by decide +kernel
theorem d_M_spawn_12 : decode m_M_spawn.2.1 12 = .ok (.aload 5, 2) := by decide +kernel
theorem d_M_spawn_14 : decode m_M_spawn.2.1 14 = .ok (.ifnull 20, 3) := by decide +kernel
theorem d_M_spawn_17 : decode m_M_spawn.2.1 17 = .ok (.aload_n 1, 1) := by decide +kernel
theorem d_M_spawn_18 : decode m_M_spawn.2.1 18 = .ok (.iload_n 2, 1) := by decide +kernel
theorem d_M_spawn_19 : decode m_M_spawn.2.1 19 = .ok (.aload 5, 2) := by decide +kernel
theorem d_M_spawn_21 : decode m_M_spawn.2.1 21 = .ok (.getfield 66, 3) := by decide +kernel
theorem d_M_spawn_24 : decode m_M_spawn.2.1 24 = .ok (.invokevirtual 62, 3) := by decide +kernel
theorem d_M_spawn_27 : decode m_M_spawn.2.1 27 = .ok (.ifCond .eq 7, 3) := by decide +kernel
theorem d_M_spawn_30 : decode m_M_spawn.2.1 30 = .ok (.iconst 1, 1) := by decide +kernel
theorem d_M_spawn_31 : decode m_M_spawn.2.1 31 = .ok (.goto 4, 3) := by decide +kernel
theorem d_M_spawn_34 : decode m_M_spawn.2.1 34 = .ok (.iconst 0, 1) := by decide +kernel
theorem d_M_spawn_35 : decode m_M_spawn.2.1 35 = .ok (.ireturn, 1) := by decide +kernel
theorem d_M_link_0 : decode m_M_link.2.1 0 = .ok (.aload_n 2, 1) := by decide +kernel
theorem d_M_link_1 : decode m_M_link.2.1 1 = .ok (.ifnonnull 5, 3) := by decide +kernel
theorem d_M_link_4 : decode m_M_link.2.1 4 = .ok (.iconst 0, 1) := by decide +kernel
theorem d_M_link_5 : decode m_M_link.2.1 5 = .ok (.ireturn, 1) := by decide +kernel
theorem d_M_link_6 : decode m_M_link.2.1 6 = .ok (.aload_n 2, 1) := by decide +kernel
theorem d_M_link_7 : decode m_M_link.2.1 7 = .ok (.getfield 177, 3) := by decide +kernel
theorem d_M_link_10 : decode m_M_link.2.1 10 = .ok (.iconst 3, 1) := by decide +kernel
theorem d_M_link_11 : decode m_M_link.2.1 11 = .ok (.if_icmp .ne 25, 3) := by decide +kernel
theorem d_M_link_14 : decode m_M_link.2.1 14 = .ok (.aload_n 0, 1) := by decide +kernel
theorem d_M_link_15 : decode m_M_link.2.1 15 = .ok (.getfield 21, 3) := by decide +kernel
theorem d_M_link_18 : decode m_M_link.2.1 18 = .ok (.aload_n 2, 1) := by decide +kernel
theorem d_M_link_19 : decode m_M_link.2.1 19 = .ok (.aload_n 1, 1) := by decide +kernel
theorem d_M_link_20 : decode m_M_link.2.1 20 = .ok (.aload_n 0, 1) := by decide +kernel
theorem d_M_link_21 : decode m_M_link.2.1 21 = .ok (.getfield 21, 3) := by decide +kernel
theorem d_M_link_24 : decode m_M_link.2.1 24 = .ok (.getfield 38, 3) := by decide +kernel
theorem d_M_link_27 : decode m_M_link.2.1 27 = .ok (.bipush 13, 2) := by decide +kernel
theorem d_M_link_29 : decode m_M_link.2.1 29 = .ok (.aaload, 1) := by decide +kernel
theorem d_M_link_30 : decode m_M_link.2.1 30 = .ok (.invokevirtual 180, 3) := by decide +kernel
theorem d_M_link_33 : decode m_M_link.2.1 33 = .ok (.goto 17, 3) := by decide +kernel
theorem d_M_link_36 : decode m_M_link.2.1 36 = .ok (.aload_n 2, 1) := by decide +kernel
theorem d_M_link_37 : decode m_M_link.2.1 37 = .ok (.aload_n 1, 1) := by decide +kernel
theorem d_M_link_38 : decode m_M_link.2.1 38 = .ok (.if_acmp .eq 12, 3) := by decide +kernel
theorem d_M_link_41 : decode m_M_link.2.1 41 = .ok (.aload_n 0, 1) := by decide +kernel
theorem d_M_link_42 : decode m_M_link.2.1 42 = .ok (.getfield 21, 3) := by decide +kernel
theorem d_M_link_45 : decode m_M_link.2.1 45 = .ok (.aload_n 1, 1) := by decide +kernel
theorem d_M_link_46 : decode m_M_link.2.1 46 = .ok (.aload_n 2, 1) := by decide +kernel
theorem d_M_link_47 : decode m_M_link.2.1 47 = .ok (.invokevirtual 184, 3) := by decide +kernel
theorem d_M_link_50 : decode m_M_link.2.1 50 = .ok (.iconst 1, 1) := by decide +kernel
theorem d_M_link_51 : decode m_M_link.2.1 51 = .ok (.ireturn, 1) := by decide +kernel
theorem d_M_trap_0 : decode m_M_trap.2.1 0 = .ok (.aload_n 0, 1) := by decide +kernel
theorem d_M_trap_1 : decode m_M_trap.2.1 1 = .ok (.iload_n 1, 1) := by decide +kernel
theorem d_M_trap_2 : decode m_M_trap.2.1 2 = .ok (.putfield 188, 3) := by decide +kernel
theorem d_M_trap_5 : decode m_M_trap.2.1 5 = .ok (.iconst 1, 1) := by decide +kernel
theorem d_M_trap_6 : decode m_M_trap.2.1 6 = .ok (.ireturn, 1) := by decide +kernel
theorem d_M_finish_0 : decode m_M_finish.2.1 0 = .ok (.aload_n 0, 1) := by decide +kernel
theorem d_M_finish_1 : decode m_M_finish.2.1 1 = .ok (.getfield 21, 3) := by decide +kernel
theorem d_M_finish_4 : decode m_M_finish.2.1 4 = .ok (.aload_n 1, 1) := by decide +kernel
theorem d_M_finish_5 : decode m_M_finish.2.1 5 = .ok (.aload_n 2, 1) := by decide +kernel
theorem d_M_finish_6 : decode m_M_finish.2.1 6 = .ok (.invokevirtual 42, 3) := by decide +kernel
theorem d_M_finish_9 : decode m_M_finish.2.1 9 = .ok (.iconst 1, 1) := by decide +kernel
theorem d_M_finish_10 : decode m_M_finish.2.1 10 = .ok (.ireturn, 1) := by decide +kernel
theorem d_M_stop_0 : decode m_M_stop.2.1 0 = .ok (.aload_n 2, 1) := by decide +kernel
theorem d_M_stop_1 : decode m_M_stop.2.1 1 = .ok (.ifnonnull 5, 3) := by decide +kernel
theorem d_M_stop_4 : decode m_M_stop.2.1 4 = .ok (.iconst 0, 1) := by decide +kernel
theorem d_M_stop_5 : decode m_M_stop.2.1 5 = .ok (.ireturn, 1) := by decide +kernel
theorem d_M_stop_6 : decode m_M_stop.2.1 6 = .ok (.aload_n 0, 1) := by decide +kernel
theorem d_M_stop_7 : decode m_M_stop.2.1 7 = .ok (.getfield 21, 3) := by decide +kernel
theorem d_M_stop_10 : decode m_M_stop.2.1 10 = .ok (.aload_n 1, 1) := by decide +kernel
theorem d_M_stop_11 : decode m_M_stop.2.1 11 = .ok (.aload_n 2, 1) := by decide +kernel
theorem d_M_stop_12 : decode m_M_stop.2.1 12 = .ok (.aload_n 0, 1) := by decide +kernel
theorem d_M_stop_13 : decode m_M_stop.2.1 13 = .ok (.getfield 21, 3) := by decide +kernel
theorem d_M_stop_16 : decode m_M_stop.2.1 16 = .ok (.getfield 38, 3) := by decide +kernel
theorem d_M_stop_19 : decode m_M_stop.2.1 19 = .ok (.bipush 12, 2) := by decide +kernel
theorem d_M_stop_21 : decode m_M_stop.2.1 21 = .ok (.aaload, 1) := by decide +kernel
theorem d_M_stop_22 : decode m_M_stop.2.1 22 = .ok (.invokevirtual 180, 3) := by decide +kernel
theorem d_M_stop_25 : decode m_M_stop.2.1 25 = .ok (.iconst 1, 1) := by decide +kernel
theorem d_M_stop_26 : decode m_M_stop.2.1 26 = .ok (.ireturn, 1) := by decide +kernel
theorem d_B_init_0 : decode m_B_init.2.1 0 = .ok (.aload_n 0, 1) := by decide +kernel
theorem d_B_init_1 : decode m_B_init.2.1 1 = .ok (.invokespecial 3, 3) := by decide +kernel
theorem d_B_init_4 : decode m_B_init.2.1 4 = .ok (.aload_n 0, 1) := by decide +kernel
theorem d_B_init_5 : decode m_B_init.2.1 5 = .ok (.bipush 12, 2) := by decide +kernel
theorem d_B_init_7 : decode m_B_init.2.1 7 = .ok (.anewarray 9, 3) := by decide +kernel
theorem d_B_init_10 : decode m_B_init.2.1 10 = .ok (.putfield 11, 3) := by decide +kernel
theorem d_B_init_13 : decode m_B_init.2.1 13 = .ok (.aload_n 0, 1) := by decide +kernel
theorem d_B_init_14 : decode m_B_init.2.1 14 = .ok (.iconst 0, 1) := by decide +kernel
theorem d_B_init_15 : decode m_B_init.2.1 15 = .ok (.putfield 17, 3) := by decide +kernel
theorem d_B_init_18 : decode m_B_init.2.1 18 = .ok (.aload_n 0, 1) := by decide +kernel
theorem d_B_init_19 : decode m_B_init.2.1 19 = .ok (.iconst 0, 1) := by decide +kernel
theorem d_B_init_20 : decode m_B_init.2.1 20 = .ok (.putfield 21, 3) := by decide +kernel
theorem d_B_init_23 : decode m_B_init.2.1 23 = .ok (.return_, 1) := by decide +kernel
theorem d_B_empty_0 : decode m_B_empty.2.1 0 = .ok (.aload_n 0, 1) := by decide +kernel
theorem d_B_empty_1 : decode m_B_empty.2.1 1 = .ok (.iconst 0, 1) := by decide +kernel
theorem d_B_empty_2 : decode m_B_empty.2.1 2 = .ok (.putfield 17, 3) := by decide +kernel
theorem d_B_empty_5 : decode m_B_empty.2.1 5 = .ok (.aload_n 0, 1) := by decide +kernel
theorem d_B_empty_6 : decode m_B_empty.2.1 6 = .ok (.iconst 0, 1) := by decide +kernel
theorem d_B_empty_7 : decode m_B_empty.2.1 7 = .ok (.putfield 21, 3) := by decide +kernel
theorem d_B_empty_10 : decode m_B_empty.2.1 10 = .ok (.return_, 1) := by decide +kernel
theorem d_B_at_0 : decode m_B_at.2.1 0 = .ok (.iload_n 1, 1) := by decide +kernel
theorem d_B_at_1 : decode m_B_at.2.1 1 = .ok (.ifCond .lt 20, 3) := by decide +kernel
theorem d_B_at_4 : decode m_B_at.2.1 4 = .ok (.iload_n 1, 1) := by decide +kernel
theorem d_B_at_5 : decode m_B_at.2.1 5 = .ok (.aload_n 0, 1) := by decide +kernel
theorem d_B_at_6 : decode m_B_at.2.1 6 = .ok (.getfield 17, 3) := by decide +kernel
theorem d_B_at_9 : decode m_B_at.2.1 9 = .ok (.if_icmp .ge 12, 3) := by decide +kernel
theorem d_B_at_12 : decode m_B_at.2.1 12 = .ok (.aload_n 0, 1) := by decide +kernel
theorem d_B_at_13 : decode m_B_at.2.1 13 = .ok (.getfield 11, 3) := by decide +kernel
theorem d_B_at_16 : decode m_B_at.2.1 16 = .ok (.iload_n 1, 1) := by decide +kernel
theorem d_B_at_17 : decode m_B_at.2.1 17 = .ok (.aaload, 1) := by decide +kernel
theorem d_B_at_18 : decode m_B_at.2.1 18 = .ok (.goto 4, 3) := by decide +kernel
theorem d_B_at_21 : decode m_B_at.2.1 21 = .ok (.aconst_null, 1) := by decide +kernel
theorem d_B_at_22 : decode m_B_at.2.1 22 = .ok (.areturn, 1) := by decide +kernel
theorem d_B_marked_0 : decode m_B_marked.2.1 0 = .ok (.aload_n 0, 1) := by decide +kernel
theorem d_B_marked_1 : decode m_B_marked.2.1 1 = .ok (.aload_n 0, 1) := by decide +kernel
theorem d_B_marked_2 : decode m_B_marked.2.1 2 = .ok (.getfield 21, 3) := by decide +kernel
theorem d_B_marked_5 : decode m_B_marked.2.1 5 = .ok (.invokevirtual 24, 3) := by decide +kernel
theorem d_B_marked_8 : decode m_B_marked.2.1 8 = .ok (.areturn, 1) := by decide +kernel
theorem d_B_put_0 : decode m_B_put.2.1 0 = .ok (.aload_n 0, 1) := by decide +kernel
theorem d_B_put_1 : decode m_B_put.2.1 1 = .ok (.getfield 17, 3) := by decide +kernel
theorem d_B_put_4 : decode m_B_put.2.1 4 = .ok (.bipush 12, 2) := by decide +kernel
theorem d_B_put_6 : decode m_B_put.2.1 6 = .ok (.if_icmp .lt 5, 3) := by decide +kernel
theorem d_B_put_9 : decode m_B_put.2.1 9 = .ok (.iconst 0, 1) := by decide +kernel
theorem d_B_put_10 : decode m_B_put.2.1 10 = .ok (.ireturn, 1) := by decide +kernel
theorem d_B_put_11 : decode m_B_put.2.1 11 = .ok (.aload_n 0, 1) := by decide +kernel
theorem d_B_put_12 : decode m_B_put.2.1 12 = .ok (.getfield 11, 3) := by decide +kernel
theorem d_B_put_15 : decode m_B_put.2.1 15 = .ok (.aload_n 0, 1) := by decide +kernel
theorem d_B_put_16 : decode m_B_put.2.1 16 = .ok (.getfield 17, 3) := by decide +kernel
theorem d_B_put_19 : decode m_B_put.2.1 19 = .ok (.aload_n 1, 1) := by decide +kernel
theorem d_B_put_20 : decode m_B_put.2.1 20 = .ok (.aastore, 1) := by decide +kernel
theorem d_B_put_21 : decode m_B_put.2.1 21 = .ok (.aload_n 0, 1) := by decide +kernel
theorem d_B_put_22 : decode m_B_put.2.1 22 = .ok (.dup, 1) := by decide +kernel
theorem d_B_put_23 : decode m_B_put.2.1 23 = .ok (.getfield 17, 3) := by decide +kernel
theorem d_B_put_26 : decode m_B_put.2.1 26 = .ok (.iconst 1, 1) := by decide +kernel
theorem d_B_put_27 : decode m_B_put.2.1 27 = .ok (.iadd, 1) := by decide +kernel
theorem d_B_put_28 : decode m_B_put.2.1 28 = .ok (.putfield 17, 3) := by decide +kernel
theorem d_B_put_31 : decode m_B_put.2.1 31 = .ok (.iconst 1, 1) := by decide +kernel
theorem d_B_put_32 : decode m_B_put.2.1 32 = .ok (.ireturn, 1) := by decide +kernel
theorem d_B_take_0 : decode m_B_take.2.1 0 = .ok (.aload_n 0, 1) := by decide +kernel
theorem d_B_take_1 : decode m_B_take.2.1 1 = .ok (.invokevirtual 28, 3) := by decide +kernel
theorem d_B_take_4 : decode m_B_take.2.1 4 = .ok (.ifnonnull 5, 3) := by decide +kernel
theorem d_B_take_7 : decode m_B_take.2.1 7 = .ok (.iconst 0, 1) := by decide +kernel
theorem d_B_take_8 : decode m_B_take.2.1 8 = .ok (.ireturn, 1) := by decide +kernel
theorem d_B_take_9 : decode m_B_take.2.1 9 = .ok (.aload_n 0, 1) := by decide +kernel
theorem d_B_take_10 : decode m_B_take.2.1 10 = .ok (.getfield 21, 3) := by decide +kernel
theorem d_B_take_13 : decode m_B_take.2.1 13 = .ok (.iconst 1, 1) := by decide +kernel
theorem d_B_take_14 : decode m_B_take.2.1 14 = .ok (.iadd, 1) := by decide +kernel
theorem d_B_take_15 : decode m_B_take.2.1 15 = .ok (.istore_n 1, 1) := by decide +kernel
theorem d_B_take_16 : decode m_B_take.2.1 16 = .ok (.iload_n 1, 1) := by decide +kernel
theorem d_B_take_17 : decode m_B_take.2.1 17 = .ok (.aload_n 0, 1) := by decide +kernel
theorem d_B_take_18 : decode m_B_take.2.1 18 = .ok (.getfield 17, 3) := by decide +kernel
theorem d_B_take_21 : decode m_B_take.2.1 21 = .ok (.if_icmp .ge 23, 3) := by decide +kernel
theorem d_B_take_24 : decode m_B_take.2.1 24 = .ok (.aload_n 0, 1) := by decide +kernel
theorem d_B_take_25 : decode m_B_take.2.1 25 = .ok (.getfield 11, 3) := by decide +kernel
theorem d_B_take_28 : decode m_B_take.2.1 28 = .ok (.iload_n 1, 1) := by decide +kernel
theorem d_B_take_29 : decode m_B_take.2.1 29 = .ok (.iconst 1, 1) := by decide +kernel
theorem d_B_take_30 : decode m_B_take.2.1 30 = .ok (.isub, 1) := by decide +kernel
theorem d_B_take_31 : decode m_B_take.2.1 31 = .ok (.aload_n 0, 1) := by decide +kernel
theorem d_B_take_32 : decode m_B_take.2.1 32 = .ok (.getfield 11, 3) := by decide +kernel
theorem d_B_take_35 : decode m_B_take.2.1 35 = .ok (.iload_n 1, 1) := by decide +kernel
theorem d_B_take_36 : decode m_B_take.2.1 36 = .ok (.aaload, 1) := by decide +kernel
theorem d_B_take_37 : decode m_B_take.2.1 37 = .ok (.aastore, 1) := by decide +kernel
theorem d_B_take_38 : decode m_B_take.2.1 38 = .ok (.iinc 1 1, 3) := by decide +kernel
theorem d_B_take_41 : decode m_B_take.2.1 41 = .ok (.goto (-25), 3) := by decide +kernel
theorem d_B_take_44 : decode m_B_take.2.1 44 = .ok (.aload_n 0, 1) := by decide +kernel
theorem d_B_take_45 : decode m_B_take.2.1 45 = .ok (.dup, 1) := by decide +kernel
theorem d_B_take_46 : decode m_B_take.2.1 46 = .ok (.getfield 17, 3) := by decide +kernel
theorem d_B_take_49 : decode m_B_take.2.1 49 = .ok (.iconst 1, 1) := by decide +kernel
theorem d_B_take_50 : decode m_B_take.2.1 50 = .ok (.isub, 1) := by decide +kernel
theorem d_B_take_51 : decode m_B_take.2.1 51 = .ok (.putfield 17, 3) := by decide +kernel
theorem d_B_take_54 : decode m_B_take.2.1 54 = .ok (.aload_n 0, 1) := by decide +kernel
theorem d_B_take_55 : decode m_B_take.2.1 55 = .ok (.iconst 0, 1) := by decide +kernel
theorem d_B_take_56 : decode m_B_take.2.1 56 = .ok (.putfield 21, 3) := by decide +kernel
theorem d_B_take_59 : decode m_B_take.2.1 59 = .ok (.iconst 1, 1) := by decide +kernel
theorem d_B_take_60 : decode m_B_take.2.1 60 = .ok (.ireturn, 1) := by decide +kernel
theorem d_G_init_0 : decode m_G_init.2.1 0 = .ok (.aload_n 0, 1) := by decide +kernel
theorem d_G_init_1 : decode m_G_init.2.1 1 = .ok (.invokespecial 3, 3) := by decide +kernel
theorem d_G_init_4 : decode m_G_init.2.1 4 = .ok (.aload_n 0, 1) := by decide +kernel
theorem d_G_init_5 : decode m_G_init.2.1 5 = .ok (.sipush 192, 3) := by decide +kernel
theorem d_G_init_8 : decode m_G_init.2.1 8 = .ok (.newarray .int, 2) := by decide +kernel
theorem d_G_init_10 : decode m_G_init.2.1 10 = .ok (.putfield 9, 3) := by decide +kernel
theorem d_G_init_13 : decode m_G_init.2.1 13 = .ok (.aload_n 0, 1) := by decide +kernel
theorem d_G_init_14 : decode m_G_init.2.1 14 = .ok (.iconst 0, 1) := by decide +kernel
theorem d_G_init_15 : decode m_G_init.2.1 15 = .ok (.putfield 15, 3) := by decide +kernel
theorem d_G_init_18 : decode m_G_init.2.1 18 = .ok (.return_, 1) := by decide +kernel
theorem d_G_append_0 : decode m_G_append.2.1 0 = .ok (.aload_n 0, 1) := by decide +kernel
theorem d_G_append_1 : decode m_G_append.2.1 1 = .ok (.getfield 15, 3) := by decide +kernel
theorem d_G_append_4 : decode m_G_append.2.1 4 = .ok (.bipush 48, 2) := by decide +kernel
theorem d_G_append_6 : decode m_G_append.2.1 6 = .ok (.if_icmp .ge 13, 3) := by decide +kernel
theorem d_G_append_9 : decode m_G_append.2.1 9 = .ok (.iload_n 1, 1) := by decide +kernel
theorem d_G_append_10 : decode m_G_append.2.1 10 = .ok (.ifCond .lt 9, 3) := by decide +kernel
theorem d_G_append_13 : decode m_G_append.2.1 13 = .ok (.iload_n 1, 1) := by decide +kernel
theorem d_G_append_14 : decode m_G_append.2.1 14 = .ok (.bipush 27, 2) := by decide +kernel
theorem d_G_append_16 : decode m_G_append.2.1 16 = .ok (.if_icmp .lt 5, 3) := by decide +kernel
theorem d_G_append_19 : decode m_G_append.2.1 19 = .ok (.iconst (-1), 1) := by decide +kernel
theorem d_G_append_20 : decode m_G_append.2.1 20 = .ok (.ireturn, 1) := by decide +kernel
theorem d_G_append_21 : decode m_G_append.2.1 21 = .ok (.iconst 3, 1) := by decide +kernel
theorem d_G_append_22 : decode m_G_append.2.1 22 = .ok (.iload_n 1, 1) := by decide +kernel
theorem d_G_append_23 : decode m_G_append.2.1 23 = .ok (.imul, 1) := by decide +kernel
theorem d_G_append_24 : decode m_G_append.2.1 24 = .ok (.istore 5, 2) := by decide +kernel
theorem d_G_append_26 : decode m_G_append.2.1 26 = .ok (.iload_n 2, 1) := by decide +kernel
theorem d_G_append_27 : decode m_G_append.2.1 27 = .ok (.getstatic 19, 3) := by decide +kernel
theorem d_G_append_30 : decode m_G_append.2.1 30 = .ok (.iload 5, 2) := by decide +kernel
theorem d_G_append_32 : decode m_G_append.2.1 32 = .ok (.iaload, 1) := by decide +kernel
theorem d_G_append_33 : decode m_G_append.2.1 33 = .ok (.invokestatic 22, 3) := by decide +kernel
theorem d_G_append_36 : decode m_G_append.2.1 36 = .ok (.ifCond .eq 34, 3) := by decide +kernel
theorem d_G_append_39 : decode m_G_append.2.1 39 = .ok (.iload_n 3, 1) := by decide +kernel
theorem d_G_append_40 : decode m_G_append.2.1 40 = .ok (.getstatic 19, 3) := by decide +kernel
theorem d_G_append_43 : decode m_G_append.2.1 43 = .ok (.iload 5, 2) := by decide +kernel
theorem d_G_append_45 : decode m_G_append.2.1 45 = .ok (.iconst 1, 1) := by decide +kernel
theorem d_G_append_46 : decode m_G_append.2.1 46 = .ok (.iadd, 1) := by decide +kernel
theorem d_G_append_47 : decode m_G_append.2.1 47 = .ok (.iaload, 1) := by decide +kernel
theorem d_G_append_48 : decode m_G_append.2.1 48 = .ok (.invokestatic 22, 3) := by decide +kernel
theorem d_G_append_51 : decode m_G_append.2.1 51 = .ok (.ifCond .eq 19, 3) := by decide +kernel
theorem d_G_append_54 : decode m_G_append.2.1 54 = .ok (.iload 4, 2) := by decide +kernel
theorem d_G_append_56 : decode m_G_append.2.1 56 = .ok (.getstatic 19, 3) := by decide +kernel
theorem d_G_append_59 : decode m_G_append.2.1 59 = .ok (.iload 5, 2) := by decide +kernel
theorem d_G_append_61 : decode m_G_append.2.1 61 = .ok (.iconst 2, 1) := by decide +kernel
theorem d_G_append_62 : decode m_G_append.2.1 62 = .ok (.iadd, 1) := by decide +kernel
theorem d_G_append_63 : decode m_G_append.2.1 63 = .ok (.iaload, 1) := by decide +kernel
theorem d_G_append_64 : decode m_G_append.2.1 64 = .ok (.invokestatic 22, 3) := by decide +kernel
theorem d_G_append_67 : decode m_G_append.2.1 67 = .ok (.ifCond .ne 5, 3) := by decide +kernel
theorem d_G_append_70 : decode m_G_append.2.1 70 = .ok (.iconst (-1), 1) := by decide +kernel
theorem d_G_append_71 : decode m_G_append.2.1 71 = .ok (.ireturn, 1) := by decide +kernel
theorem d_G_append_72 : decode m_G_append.2.1 72 = .ok (.iconst 4, 1) := by decide +kernel
theorem d_G_append_73 : decode m_G_append.2.1 73 = .ok (.aload_n 0, 1) := by decide +kernel
theorem d_G_append_74 : decode m_G_append.2.1 74 = .ok (.getfield 15, 3) := by decide +kernel
theorem d_G_append_77 : decode m_G_append.2.1 77 = .ok (.imul, 1) := by decide +kernel
theorem d_G_append_78 : decode m_G_append.2.1 78 = .ok (.istore 6, 2) := by decide +kernel
theorem d_G_append_80 : decode m_G_append.2.1 80 = .ok (.aload_n 0, 1) := by decide +kernel
theorem d_G_append_81 : decode m_G_append.2.1 81 = .ok (.getfield 9, 3) := by decide +kernel
theorem d_G_append_84 : decode m_G_append.2.1 84 = .ok (.iload 6, 2) := by decide +kernel
theorem d_G_append_86 : decode m_G_append.2.1 86 = .ok (.iload_n 1, 1) := by decide +kernel
theorem d_G_append_87 : decode m_G_append.2.1 87 = .ok (.iastore, 1) := by decide +kernel
theorem d_G_append_88 : decode m_G_append.2.1 88 = .ok (.aload_n 0, 1) := by decide +kernel
theorem d_G_append_89 : decode m_G_append.2.1 89 = .ok (.getfield 9, 3) := by decide +kernel
theorem d_G_append_92 : decode m_G_append.2.1 92 = .ok (.iload 6, 2) := by decide +kernel
theorem d_G_append_94 : decode m_G_append.2.1 94 = .ok (.iconst 1, 1) := by decide +kernel
theorem d_G_append_95 : decode m_G_append.2.1 95 = .ok (.iadd, 1) := by decide +kernel
theorem d_G_append_96 : decode m_G_append.2.1 96 = .ok (.iload_n 2, 1) := by decide +kernel
theorem d_G_append_97 : decode m_G_append.2.1 97 = .ok (.iastore, 1) := by decide +kernel
theorem d_G_append_98 : decode m_G_append.2.1 98 = .ok (.aload_n 0, 1) := by decide +kernel
theorem d_G_append_99 : decode m_G_append.2.1 99 = .ok (.getfield 9, 3) := by decide +kernel
theorem d_G_append_102 : decode m_G_append.2.1 102 = .ok (.iload 6, 2) := by decide +kernel
theorem d_G_append_104 : decode m_G_append.2.1 104 = .ok (.iconst 2, 1) := by decide +kernel
theorem d_G_append_105 : decode m_G_append.2.1 105 = .ok (.iadd, 1) := by decide +kernel
theorem d_G_append_106 : decode m_G_append.2.1 106 = .ok (.iload_n 3, 1) := by decide +kernel
theorem d_G_append_107 : decode m_G_append.2.1 107 = .ok (.iastore, 1) := by decide +kernel
theorem d_G_append_108 : decode m_G_append.2.1 108 = .ok (.aload_n 0, 1) := by decide +kernel
theorem d_G_append_109 : decode m_G_append.2.1 109 = .ok (.getfield 9, 3) := by decide +kernel
theorem d_G_append_112 : decode m_G_append.2.1 112 = .ok (.iload 6, 2) := by decide +kernel
theorem d_G_append_114 : decode m_G_append.2.1 114 = .ok (.iconst 3, 1) := by decide +kernel
theorem d_G_append_115 : decode m_G_append.2.1 115 = .ok (.iadd, 1) := by decide +kernel
theorem d_G_append_116 : decode m_G_append.2.1 116 = .ok (.iload 4, 2) := by decide +kernel
theorem d_G_append_118 : decode m_G_append.2.1 118 = .ok (.iastore, 1) := by decide +kernel
theorem d_G_append_119 : decode m_G_append.2.1 119 = .ok (.aload_n 0, 1) := by decide +kernel
theorem d_G_append_120 : decode m_G_append.2.1 120 = .ok (.dup, 1) := by decide +kernel
theorem d_G_append_121 : decode m_G_append.2.1 121 = .ok (.getfield 15, 3) := by decide +kernel
theorem d_G_append_124 : decode m_G_append.2.1 124 = .ok (.iconst 1, 1) := by decide +kernel
theorem d_G_append_125 : decode m_G_append.2.1 125 = .ok (.iadd, 1) := by decide +kernel
theorem d_G_append_126 : decode m_G_append.2.1 126 = .ok (.putfield 15, 3) := by decide +kernel
theorem d_G_append_129 : decode m_G_append.2.1 129 = .ok (.aload_n 0, 1) := by decide +kernel
theorem d_G_append_130 : decode m_G_append.2.1 130 = .ok (.getfield 15, 3) := by decide +kernel
theorem d_G_append_133 : decode m_G_append.2.1 133 = .ok (.iconst 1, 1) := by decide +kernel
theorem d_G_append_134 : decode m_G_append.2.1 134 = .ok (.isub, 1) := by decide +kernel
theorem d_G_append_135 : decode m_G_append.2.1 135 = .ok (.ireturn, 1) := by decide +kernel
theorem d_G_fits_0 : decode m_G_fits.2.1 0 = .ok (.iload_n 1, 1) := by decide +kernel
theorem d_G_fits_1 : decode m_G_fits.2.1 1 = .ok (.ifCond .eq 12, 3) := by decide +kernel
theorem d_G_fits_4 : decode m_G_fits.2.1 4 = .ok (.iload_n 0, 1) := by decide +kernel
theorem d_G_fits_5 : decode m_G_fits.2.1 5 = .ok (.ifCond .lt 12, 3) := by decide +kernel
theorem d_G_fits_8 : decode m_G_fits.2.1 8 = .ok (.iload_n 0, 1) := by decide +kernel
theorem d_G_fits_9 : decode m_G_fits.2.1 9 = .ok (.iload_n 1, 1) := by decide +kernel
theorem d_G_fits_10 : decode m_G_fits.2.1 10 = .ok (.if_icmp .ge 7, 3) := by decide +kernel
theorem d_G_fits_13 : decode m_G_fits.2.1 13 = .ok (.iconst 1, 1) := by decide +kernel
theorem d_G_fits_14 : decode m_G_fits.2.1 14 = .ok (.goto 4, 3) := by decide +kernel
theorem d_G_fits_17 : decode m_G_fits.2.1 17 = .ok (.iconst 0, 1) := by decide +kernel
theorem d_G_fits_18 : decode m_G_fits.2.1 18 = .ok (.ireturn, 1) := by decide +kernel
theorem d_G_reaches_0 : decode m_G_reaches.2.1 0 = .ok (.iload_n 1, 1) := by decide +kernel
theorem d_G_reaches_1 : decode m_G_reaches.2.1 1 = .ok (.ifCond .lt 15, 3) := by decide +kernel
theorem d_G_reaches_4 : decode m_G_reaches.2.1 4 = .ok (.iload_n 1, 1) := by decide +kernel
theorem d_G_reaches_5 : decode m_G_reaches.2.1 5 = .ok (.aload_n 0, 1) := by decide +kernel
theorem d_G_reaches_6 : decode m_G_reaches.2.1 6 = .ok (.getfield 15, 3) := by decide +kernel
theorem d_G_reaches_9 : decode m_G_reaches.2.1 9 = .ok (.if_icmp .ge 7, 3) := by decide +kernel
theorem d_G_reaches_12 : decode m_G_reaches.2.1 12 = .ok (.iconst 1, 1) := by decide +kernel
theorem d_G_reaches_13 : decode m_G_reaches.2.1 13 = .ok (.goto 4, 3) := by decide +kernel
theorem d_G_reaches_16 : decode m_G_reaches.2.1 16 = .ok (.iconst 0, 1) := by decide +kernel
theorem d_G_reaches_17 : decode m_G_reaches.2.1 17 = .ok (.ireturn, 1) := by decide +kernel
theorem d_G_wipe_0 : decode m_G_wipe.2.1 0 = .ok (.aload_n 0, 1) := by decide +kernel
theorem d_G_wipe_1 : decode m_G_wipe.2.1 1 = .ok (.iconst 0, 1) := by decide +kernel
theorem d_G_wipe_2 : decode m_G_wipe.2.1 2 = .ok (.putfield 15, 3) := by decide +kernel
theorem d_G_wipe_5 : decode m_G_wipe.2.1 5 = .ok (.return_, 1) := by decide +kernel
theorem d_S_init_0 : decode m_S_init.2.1 0 = .ok (.aload_n 0, 1) := by decide +kernel
theorem d_S_init_1 : decode m_S_init.2.1 1 = .ok (.invokespecial 3, 3) := by decide +kernel
theorem d_S_init_4 : decode m_S_init.2.1 4 = .ok (.aload_n 0, 1) := by decide +kernel
theorem d_S_init_5 : decode m_S_init.2.1 5 = .ok (.bipush 12, 2) := by decide +kernel
theorem d_S_init_7 : decode m_S_init.2.1 7 = .ok (.anewarray 9, 3) := by decide +kernel
theorem d_S_init_10 : decode m_S_init.2.1 10 = .ok (.putfield 11, 3) := by decide +kernel
theorem d_S_init_13 : decode m_S_init.2.1 13 = .ok (.iconst 0, 1) := by decide +kernel
theorem d_S_init_14 : decode m_S_init.2.1 14 = .ok (.istore_n 1, 1) := by decide +kernel
theorem d_S_init_15 : decode m_S_init.2.1 15 = .ok (.iload_n 1, 1) := by decide +kernel
theorem d_S_init_16 : decode m_S_init.2.1 16 = .ok (.bipush 12, 2) := by decide +kernel
theorem d_S_init_18 : decode m_S_init.2.1 18 = .ok (.if_icmp .ge 23, 3) := by decide +kernel
theorem d_S_init_21 : decode m_S_init.2.1 21 = .ok (.aload_n 0, 1) := by decide +kernel
theorem d_S_init_22 : decode m_S_init.2.1 22 = .ok (.getfield 11, 3) := by decide +kernel
theorem d_S_init_25 : decode m_S_init.2.1 25 = .ok (.iload_n 1, 1) := by decide +kernel
theorem d_S_init_26 : decode m_S_init.2.1 26 = .ok (.new 9, 3) := by decide +kernel
theorem d_S_init_29 : decode m_S_init.2.1 29 = .ok (.dup, 1) := by decide +kernel
theorem d_S_init_30 : decode m_S_init.2.1 30 = .ok (.iload_n 1, 1) := by decide +kernel
theorem d_S_init_31 : decode m_S_init.2.1 31 = .ok (.invokespecial 17, 3) := by decide +kernel
theorem d_S_init_34 : decode m_S_init.2.1 34 = .ok (.aastore, 1) := by decide +kernel
theorem d_S_init_35 : decode m_S_init.2.1 35 = .ok (.iinc 1 1, 3) := by decide +kernel
theorem d_S_init_38 : decode m_S_init.2.1 38 = .ok (.goto (-23), 3) := by decide +kernel
theorem d_S_init_41 : decode m_S_init.2.1 41 = .ok (.aload_n 0, 1) := by decide +kernel
theorem d_S_init_42 : decode m_S_init.2.1 42 = .ok (.new 20, 3) := by decide +kernel
theorem d_S_init_45 : decode m_S_init.2.1 45 = .ok (.dup, 1) := by decide +kernel
theorem d_S_init_46 : decode m_S_init.2.1 46 = .ok (.invokespecial 22, 3) := by decide +kernel
theorem d_S_init_49 : decode m_S_init.2.1 49 = .ok (.putfield 23, 3) := by decide +kernel
theorem d_S_init_52 : decode m_S_init.2.1 52 = .ok (.aload_n 0, 1) := by decide +kernel
theorem d_S_init_53 : decode m_S_init.2.1 53 = .ok (.new 27, 3) := by decide +kernel
theorem d_S_init_56 : decode m_S_init.2.1 56 = .ok (.dup, 1) := by decide +kernel
theorem d_S_init_57 : decode m_S_init.2.1 57 = .ok (.iconst 3, 1) := by decide +kernel
theorem d_S_init_58 : decode m_S_init.2.1 58 = .ok (.iconst 0, 1) := by decide +kernel
theorem d_S_init_59 : decode m_S_init.2.1 59 = .ok (.invokespecial 29, 3) := by decide +kernel
theorem d_S_init_62 : decode m_S_init.2.1 62 = .ok (.putfield 32, 3) := by decide +kernel
theorem d_S_init_65 : decode m_S_init.2.1 65 = .ok (.aload_n 0, 1) := by decide +kernel
theorem d_S_init_66 : decode m_S_init.2.1 66 = .ok (.bipush 16, 2) := by decide +kernel
theorem d_S_init_68 : decode m_S_init.2.1 68 = .ok (.anewarray 27, 3) := by decide +kernel
theorem d_S_init_71 : decode m_S_init.2.1 71 = .ok (.putfield 36, 3) := by decide +kernel
theorem d_S_init_74 : decode m_S_init.2.1 74 = .ok (.iconst 0, 1) := by decide +kernel
theorem d_S_init_75 : decode m_S_init.2.1 75 = .ok (.istore_n 1, 1) := by decide +kernel
theorem d_S_init_76 : decode m_S_init.2.1 76 = .ok (.iload_n 1, 1) := by decide +kernel
theorem d_S_init_77 : decode m_S_init.2.1 77 = .ok (.bipush 16, 2) := by decide +kernel
theorem d_S_init_79 : decode m_S_init.2.1 79 = .ok (.if_icmp .ge 24, 3) := by decide +kernel
theorem d_S_init_82 : decode m_S_init.2.1 82 = .ok (.aload_n 0, 1) := by decide +kernel
theorem d_S_init_83 : decode m_S_init.2.1 83 = .ok (.getfield 36, 3) := by decide +kernel
theorem d_S_init_86 : decode m_S_init.2.1 86 = .ok (.iload_n 1, 1) := by decide +kernel
theorem d_S_init_87 : decode m_S_init.2.1 87 = .ok (.new 27, 3) := by decide +kernel
theorem d_S_init_90 : decode m_S_init.2.1 90 = .ok (.dup, 1) := by decide +kernel
theorem d_S_init_91 : decode m_S_init.2.1 91 = .ok (.iconst 1, 1) := by decide +kernel
theorem d_S_init_92 : decode m_S_init.2.1 92 = .ok (.iload_n 1, 1) := by decide +kernel
theorem d_S_init_93 : decode m_S_init.2.1 93 = .ok (.invokespecial 29, 3) := by decide +kernel
theorem d_S_init_96 : decode m_S_init.2.1 96 = .ok (.aastore, 1) := by decide +kernel
theorem d_S_init_97 : decode m_S_init.2.1 97 = .ok (.iinc 1 1, 3) := by decide +kernel
theorem d_S_init_100 : decode m_S_init.2.1 100 = .ok (.goto (-24), 3) := by decide +kernel
theorem d_S_init_103 : decode m_S_init.2.1 103 = .ok (.aload_n 0, 1) := by decide +kernel
theorem d_S_init_104 : decode m_S_init.2.1 104 = .ok (.iconst 0, 1) := by decide +kernel
theorem d_S_init_105 : decode m_S_init.2.1 105 = .ok (.putfield 40, 3) := by decide +kernel
theorem d_S_init_108 : decode m_S_init.2.1 108 = .ok (.return_, 1) := by decide +kernel
theorem d_S_dissolve_0 : decode m_S_dissolve.2.1 0 = .ok (.aload_n 0, 1) := by decide +kernel
theorem d_S_dissolve_1 : decode m_S_dissolve.2.1 1 = .ok (.iconst 0, 1) := by decide +kernel
theorem d_S_dissolve_2 : decode m_S_dissolve.2.1 2 = .ok (.putfield 40, 3) := by decide +kernel
theorem d_S_dissolve_5 : decode m_S_dissolve.2.1 5 = .ok (.aload_n 0, 1) := by decide +kernel
theorem d_S_dissolve_6 : decode m_S_dissolve.2.1 6 = .ok (.getfield 23, 3) := by decide +kernel
theorem d_S_dissolve_9 : decode m_S_dissolve.2.1 9 = .ok (.invokevirtual 44, 3) := by decide +kernel
theorem d_S_dissolve_12 : decode m_S_dissolve.2.1 12 = .ok (.return_, 1) := by decide +kernel
theorem d_S_numbered_0 : decode m_S_numbered.2.1 0 = .ok (.iload_n 1, 1) := by decide +kernel
theorem d_S_numbered_1 : decode m_S_numbered.2.1 1 = .ok (.ifCond .lt 20, 3) := by decide +kernel
theorem d_S_numbered_4 : decode m_S_numbered.2.1 4 = .ok (.iload_n 1, 1) := by decide +kernel
theorem d_S_numbered_5 : decode m_S_numbered.2.1 5 = .ok (.aload_n 0, 1) := by decide +kernel
theorem d_S_numbered_6 : decode m_S_numbered.2.1 6 = .ok (.getfield 40, 3) := by decide +kernel
theorem d_S_numbered_9 : decode m_S_numbered.2.1 9 = .ok (.if_icmp .ge 12, 3) := by decide +kernel
theorem d_S_numbered_12 : decode m_S_numbered.2.1 12 = .ok (.aload_n 0, 1) := by decide +kernel
theorem d_S_numbered_13 : decode m_S_numbered.2.1 13 = .ok (.getfield 11, 3) := by decide +kernel
theorem d_S_numbered_16 : decode m_S_numbered.2.1 16 = .ok (.iload_n 1, 1) := by decide +kernel
theorem d_S_numbered_17 : decode m_S_numbered.2.1 17 = .ok (.aaload, 1) := by decide +kernel
theorem d_S_numbered_18 : decode m_S_numbered.2.1 18 = .ok (.goto 4, 3) := by decide +kernel
theorem d_S_numbered_21 : decode m_S_numbered.2.1 21 = .ok (.aconst_null, 1) := by decide +kernel
theorem d_S_numbered_22 : decode m_S_numbered.2.1 22 = .ok (.areturn, 1) := by decide +kernel
theorem d_S_bearing_0 : decode m_S_bearing.2.1 0 = .ok (.aload_n 1, 1) := by decide +kernel
theorem d_S_bearing_1 : decode m_S_bearing.2.1 1 = .ok (.getfield 47, 3) := by decide +kernel
theorem d_S_bearing_4 : decode m_S_bearing.2.1 4 = .ok (.iconst 2, 1) := by decide +kernel
theorem d_S_bearing_5 : decode m_S_bearing.2.1 5 = .ok (.if_icmp .ne 14, 3) := by decide +kernel
theorem d_S_bearing_8 : decode m_S_bearing.2.1 8 = .ok (.aload_n 0, 1) := by decide +kernel
theorem d_S_bearing_9 : decode m_S_bearing.2.1 9 = .ok (.aload_n 1, 1) := by decide +kernel
theorem d_S_bearing_10 : decode m_S_bearing.2.1 10 = .ok (.getfield 50, 3) := by decide +kernel
theorem d_S_bearing_13 : decode m_S_bearing.2.1 13 = .ok (.invokevirtual 53, 3) := by decide +kernel
theorem d_S_bearing_16 : decode m_S_bearing.2.1 16 = .ok (.goto 4, 3) := by decide +kernel
theorem d_S_bearing_19 : decode m_S_bearing.2.1 19 = .ok (.aconst_null, 1) := by decide +kernel
theorem d_S_bearing_20 : decode m_S_bearing.2.1 20 = .ok (.areturn, 1) := by decide +kernel
theorem d_S_start_0 : decode m_S_start.2.1 0 = .ok (.aload_n 0, 1) := by decide +kernel
theorem d_S_start_1 : decode m_S_start.2.1 1 = .ok (.getfield 40, 3) := by decide +kernel
theorem d_S_start_4 : decode m_S_start.2.1 4 = .ok (.bipush 12, 2) := by decide +kernel
theorem d_S_start_6 : decode m_S_start.2.1 6 = .ok (.if_icmp .lt 5, 3) := by decide +kernel
theorem d_S_start_9 : decode m_S_start.2.1 9 = .ok (.aconst_null, 1) := by decide +kernel
theorem d_S_start_10 : decode m_S_start.2.1 10 = .ok (.areturn, 1) := by decide +kernel
theorem d_S_start_11 : decode m_S_start.2.1 11 = .ok (.aload_n 0, 1) := by decide +kernel
theorem d_S_start_12 : decode m_S_start.2.1 12 = .ok (.getfield 11, 3) := by decide +kernel
theorem d_S_start_15 : decode m_S_start.2.1 15 = .ok (.aload_n 0, 1) := by decide +kernel
theorem d_S_start_16 : decode m_S_start.2.1 16 = .ok (.getfield 40, 3) := by decide +kernel
theorem d_S_start_19 : decode m_S_start.2.1 19 = .ok (.aaload, 1) := by decide +kernel
theorem d_S_start_20 : decode m_S_start.2.1 20 = .ok (.astore_n 3, 1) := by decide +kernel
theorem d_S_start_21 : decode m_S_start.2.1 21 = .ok (.aload_n 0, 1) := by decide +kernel
theorem d_S_start_22 : decode m_S_start.2.1 22 = .ok (.dup, 1) := by decide +kernel
theorem d_S_start_23 : decode m_S_start.2.1 23 = .ok (.getfield 40, 3) := by decide +kernel
theorem d_S_start_26 : decode m_S_start.2.1 26 = .ok (.iconst 1, 1) := by decide +kernel
theorem d_S_start_27 : decode m_S_start.2.1 27 = .ok (.iadd, 1) := by decide +kernel
theorem d_S_start_28 : decode m_S_start.2.1 28 = .ok (.putfield 40, 3) := by decide +kernel
theorem d_S_start_31 : decode m_S_start.2.1 31 = .ok (.aload_n 3, 1) := by decide +kernel
theorem d_S_start_32 : decode m_S_start.2.1 32 = .ok (.iload_n 1, 1) := by decide +kernel
theorem d_S_start_33 : decode m_S_start.2.1 33 = .ok (.aload_n 2, 1) := by decide +kernel
theorem d_S_start_34 : decode m_S_start.2.1 34 = .ok (.aload_n 0, 1) := by decide +kernel
theorem d_S_start_35 : decode m_S_start.2.1 35 = .ok (.getfield 32, 3) := by decide +kernel
theorem d_S_start_38 : decode m_S_start.2.1 38 = .ok (.invokevirtual 57, 3) := by decide +kernel
theorem d_S_start_41 : decode m_S_start.2.1 41 = .ok (.aload_n 0, 1) := by decide +kernel
theorem d_S_start_42 : decode m_S_start.2.1 42 = .ok (.getfield 23, 3) := by decide +kernel
theorem d_S_start_45 : decode m_S_start.2.1 45 = .ok (.aload_n 3, 1) := by decide +kernel
theorem d_S_start_46 : decode m_S_start.2.1 46 = .ok (.getfield 61, 3) := by decide +kernel
theorem d_S_start_49 : decode m_S_start.2.1 49 = .ok (.invokevirtual 62, 3) := by decide +kernel
theorem d_S_start_52 : decode m_S_start.2.1 52 = .ok (.aload_n 3, 1) := by decide +kernel
theorem d_S_start_53 : decode m_S_start.2.1 53 = .ok (.areturn, 1) := by decide +kernel
theorem d_S_deliver_0 : decode m_S_deliver.2.1 0 = .ok (.aload_n 1, 1) := by decide +kernel
theorem d_S_deliver_1 : decode m_S_deliver.2.1 1 = .ok (.getfield 65, 3) := by decide +kernel
theorem d_S_deliver_4 : decode m_S_deliver.2.1 4 = .ok (.iconst 3, 1) := by decide +kernel
theorem d_S_deliver_5 : decode m_S_deliver.2.1 5 = .ok (.if_icmp .eq 14, 3) := by decide +kernel
theorem d_S_deliver_8 : decode m_S_deliver.2.1 8 = .ok (.aload_n 1, 1) := by decide +kernel
theorem d_S_deliver_9 : decode m_S_deliver.2.1 9 = .ok (.getfield 68, 3) := by decide +kernel
theorem d_S_deliver_12 : decode m_S_deliver.2.1 12 = .ok (.aload_n 2, 1) := by decide +kernel
theorem d_S_deliver_13 : decode m_S_deliver.2.1 13 = .ok (.invokevirtual 72, 3) := by decide +kernel
theorem d_S_deliver_16 : decode m_S_deliver.2.1 16 = .ok (.ifCond .ne 4, 3) := by decide +kernel
theorem d_S_deliver_19 : decode m_S_deliver.2.1 19 = .ok (.return_, 1) := by decide +kernel
theorem d_S_deliver_20 : decode m_S_deliver.2.1 20 = .ok (.aload_n 1, 1) := by decide +kernel
theorem d_S_deliver_21 : decode m_S_deliver.2.1 21 = .ok (.getfield 65, 3) := by decide +kernel
theorem d_S_deliver_24 : decode m_S_deliver.2.1 24 = .ok (.iconst 2, 1) := by decide +kernel
theorem d_S_deliver_25 : decode m_S_deliver.2.1 25 = .ok (.if_icmp .ne 19, 3) := by decide +kernel
theorem d_S_deliver_28 : decode m_S_deliver.2.1 28 = .ok (.aload_n 1, 1) := by decide +kernel
theorem d_S_deliver_29 : decode m_S_deliver.2.1 29 = .ok (.iconst 1, 1) := by decide +kernel
theorem d_S_deliver_30 : decode m_S_deliver.2.1 30 = .ok (.putfield 65, 3) := by decide +kernel
theorem d_S_deliver_33 : decode m_S_deliver.2.1 33 = .ok (.aload_n 0, 1) := by decide +kernel
theorem d_S_deliver_34 : decode m_S_deliver.2.1 34 = .ok (.getfield 23, 3) := by decide +kernel
theorem d_S_deliver_37 : decode m_S_deliver.2.1 37 = .ok (.aload_n 1, 1) := by decide +kernel
theorem d_S_deliver_38 : decode m_S_deliver.2.1 38 = .ok (.getfield 61, 3) := by decide +kernel
theorem d_S_deliver_41 : decode m_S_deliver.2.1 41 = .ok (.invokevirtual 62, 3) := by decide +kernel
theorem d_S_deliver_44 : decode m_S_deliver.2.1 44 = .ok (.return_, 1) := by decide +kernel
theorem d_S_suspend_0 : decode m_S_suspend.2.1 0 = .ok (.aload_n 1, 1) := by decide +kernel
theorem d_S_suspend_1 : decode m_S_suspend.2.1 1 = .ok (.iconst 2, 1) := by decide +kernel
theorem d_S_suspend_2 : decode m_S_suspend.2.1 2 = .ok (.putfield 65, 3) := by decide +kernel
theorem d_S_suspend_5 : decode m_S_suspend.2.1 5 = .ok (.aload_n 0, 1) := by decide +kernel
theorem d_S_suspend_6 : decode m_S_suspend.2.1 6 = .ok (.getfield 23, 3) := by decide +kernel
theorem d_S_suspend_9 : decode m_S_suspend.2.1 9 = .ok (.aload_n 1, 1) := by decide +kernel
theorem d_S_suspend_10 : decode m_S_suspend.2.1 10 = .ok (.getfield 61, 3) := by decide +kernel
theorem d_S_suspend_13 : decode m_S_suspend.2.1 13 = .ok (.invokevirtual 78, 3) := by decide +kernel
theorem d_S_suspend_16 : decode m_S_suspend.2.1 16 = .ok (.return_, 1) := by decide +kernel
theorem d_S_tie_0 : decode m_S_tie.2.1 0 = .ok (.aload_n 1, 1) := by decide +kernel
theorem d_S_tie_1 : decode m_S_tie.2.1 1 = .ok (.dup, 1) := by decide +kernel
theorem d_S_tie_2 : decode m_S_tie.2.1 2 = .ok (.getfield 81, 3) := by decide +kernel
theorem d_S_tie_5 : decode m_S_tie.2.1 5 = .ok (.iconst 1, 1) := by decide +kernel
theorem d_S_tie_6 : decode m_S_tie.2.1 6 = .ok (.aload_n 2, 1) := by decide +kernel
theorem d_S_tie_7 : decode m_S_tie.2.1 7 = .ok (.getfield 61, 3) := by decide +kernel
theorem d_S_tie_10 : decode m_S_tie.2.1 10 = .ok (.ishl, 1) := by decide +kernel
theorem d_S_tie_11 : decode m_S_tie.2.1 11 = .ok (.ior, 1) := by decide +kernel
theorem d_S_tie_12 : decode m_S_tie.2.1 12 = .ok (.putfield 81, 3) := by decide +kernel
theorem d_S_tie_15 : decode m_S_tie.2.1 15 = .ok (.aload_n 2, 1) := by decide +kernel
theorem d_S_tie_16 : decode m_S_tie.2.1 16 = .ok (.dup, 1) := by decide +kernel
theorem d_S_tie_17 : decode m_S_tie.2.1 17 = .ok (.getfield 81, 3) := by decide +kernel
theorem d_S_tie_20 : decode m_S_tie.2.1 20 = .ok (.iconst 1, 1) := by decide +kernel
theorem d_S_tie_21 : decode m_S_tie.2.1 21 = .ok (.aload_n 1, 1) := by decide +kernel
theorem d_S_tie_22 : decode m_S_tie.2.1 22 = .ok (.getfield 61, 3) := by decide +kernel
theorem d_S_tie_25 : decode m_S_tie.2.1 25 = .ok (.ishl, 1) := by decide +kernel
theorem d_S_tie_26 : decode m_S_tie.2.1 26 = .ok (.ior, 1) := by decide +kernel
theorem d_S_tie_27 : decode m_S_tie.2.1 27 = .ok (.putfield 81, 3) := by decide +kernel
theorem d_S_tie_30 : decode m_S_tie.2.1 30 = .ok (.return_, 1) := by decide +kernel
theorem d_S_untie_0 : decode m_S_untie.2.1 0 = .ok (.aload_n 1, 1) := by decide +kernel
theorem d_S_untie_1 : decode m_S_untie.2.1 1 = .ok (.dup, 1) := by decide +kernel
theorem d_S_untie_2 : decode m_S_untie.2.1 2 = .ok (.getfield 81, 3) := by decide +kernel
theorem d_S_untie_5 : decode m_S_untie.2.1 5 = .ok (.iconst 1, 1) := by decide +kernel
theorem d_S_untie_6 : decode m_S_untie.2.1 6 = .ok (.aload_n 2, 1) := by decide +kernel
theorem d_S_untie_7 : decode m_S_untie.2.1 7 = .ok (.getfield 61, 3) := by decide +kernel
theorem d_S_untie_10 : decode m_S_untie.2.1 10 = .ok (.ishl, 1) := by decide +kernel
theorem d_S_untie_11 : decode m_S_untie.2.1 11 = .ok (.iconst (-1), 1) := by decide +kernel
theorem d_S_untie_12 : decode m_S_untie.2.1 12 = .ok (.ixor, 1) := by decide +kernel
theorem d_S_untie_13 : decode m_S_untie.2.1 13 = .ok (.iand, 1) := by decide +kernel
theorem d_S_untie_14 : decode m_S_untie.2.1 14 = .ok (.putfield 81, 3) := by decide +kernel
theorem d_S_untie_17 : decode m_S_untie.2.1 17 = .ok (.aload_n 2, 1) := by decide +kernel
theorem d_S_untie_18 : decode m_S_untie.2.1 18 = .ok (.dup, 1) := by decide +kernel
theorem d_S_untie_19 : decode m_S_untie.2.1 19 = .ok (.getfield 81, 3) := by decide +kernel
theorem d_S_untie_22 : decode m_S_untie.2.1 22 = .ok (.iconst 1, 1) := by decide +kernel
theorem d_S_untie_23 : decode m_S_untie.2.1 23 = .ok (.aload_n 1, 1) := by decide +kernel
theorem d_S_untie_24 : decode m_S_untie.2.1 24 = .ok (.getfield 61, 3) := by decide +kernel
theorem d_S_untie_27 : decode m_S_untie.2.1 27 = .ok (.ishl, 1) := by decide +kernel
theorem d_S_untie_28 : decode m_S_untie.2.1 28 = .ok (.iconst (-1), 1) := by decide +kernel
theorem d_S_untie_29 : decode m_S_untie.2.1 29 = .ok (.ixor, 1) := by decide +kernel
theorem d_S_untie_30 : decode m_S_untie.2.1 30 = .ok (.iand, 1) := by decide +kernel
theorem d_S_untie_31 : decode m_S_untie.2.1 31 = .ok (.putfield 81, 3) := by decide +kernel
theorem d_S_untie_34 : decode m_S_untie.2.1 34 = .ok (.return_, 1) := by decide +kernel
theorem d_S_end_0 : decode m_S_end.2.1 0 = .ok (.aload_n 1, 1) := by decide +kernel
theorem d_S_end_1 : decode m_S_end.2.1 1 = .ok (.getfield 65, 3) := by decide +kernel
theorem d_S_end_4 : decode m_S_end.2.1 4 = .ok (.iconst 3, 1) := by decide +kernel
theorem d_S_end_5 : decode m_S_end.2.1 5 = .ok (.if_icmp .ne 4, 3) := by decide +kernel
theorem d_S_end_8 : decode m_S_end.2.1 8 = .ok (.return_, 1) := by decide +kernel
theorem d_S_end_9 : decode m_S_end.2.1 9 = .ok (.aload_n 1, 1) := by decide +kernel
theorem d_S_end_10 : decode m_S_end.2.1 10 = .ok (.iconst 3, 1) := by decide +kernel
theorem d_S_end_11 : decode m_S_end.2.1 11 = .ok (.putfield 65, 3) := by decide +kernel
theorem d_S_end_14 : decode m_S_end.2.1 14 = .ok (.aload_n 1, 1) := by decide +kernel
theorem d_S_end_15 : decode m_S_end.2.1 15 = .ok (.aload_n 2, 1) := by decide +kernel
theorem d_S_end_16 : decode m_S_end.2.1 16 = .ok (.putfield 84, 3) := by decide +kernel
theorem d_S_end_19 : decode m_S_end.2.1 19 = .ok (.aload_n 0, 1) := by decide +kernel
theorem d_S_end_20 : decode m_S_end.2.1 20 = .ok (.getfield 23, 3) := by decide +kernel
end
section
/-! Decode rows (printed by wip/gen/dec.py). -/
theorem d_S_end_23 : decode m_S_end.2.1 23 = .ok (.aload_n 1, 1) := by decide +kernel
theorem d_S_end_24 : decode m_S_end.2.1 24 = .ok (.getfield 61, 3) := by decide +kernel
theorem d_S_end_27 : decode m_S_end.2.1 27 = .ok (.invokevirtual 78, 3) := by decide +kernel
theorem d_S_end_30 : decode m_S_end.2.1 30 = .ok (.iconst 0, 1) := by decide +kernel
theorem d_S_end_31 : decode m_S_end.2.1 31 = .ok (.istore_n 3, 1) := by decide +kernel
theorem d_S_end_32 : decode m_S_end.2.1 32 = .ok (.iload_n 3, 1) := by decide +kernel
theorem d_S_end_33 : decode m_S_end.2.1 33 = .ok (.aload_n 0, 1) := by decide +kernel
theorem d_S_end_34 : decode m_S_end.2.1 34 = .ok (.getfield 40, 3) := by decide +kernel
theorem d_S_end_37 : decode m_S_end.2.1 37 = .ok (.if_icmp .ge 43, 3) := by decide +kernel
theorem d_S_end_40 : decode m_S_end.2.1 40 = .ok (.aload_n 1, 1) := by decide +kernel
theorem d_S_end_41 : decode m_S_end.2.1 41 = .ok (.getfield 81, 3) := by decide +kernel
theorem d_S_end_44 : decode m_S_end.2.1 44 = .ok (.iconst 1, 1) := by decide +kernel
theorem d_S_end_45 : decode m_S_end.2.1 45 = .ok (.iload_n 3, 1) := by decide +kernel
theorem d_S_end_46 : decode m_S_end.2.1 46 = .ok (.ishl, 1) := by decide +kernel
theorem d_S_end_47 : decode m_S_end.2.1 47 = .ok (.iand, 1) := by decide +kernel
theorem d_S_end_48 : decode m_S_end.2.1 48 = .ok (.ifCond .eq 26, 3) := by decide +kernel
theorem d_S_end_51 : decode m_S_end.2.1 51 = .ok (.aload_n 0, 1) := by decide +kernel
theorem d_S_end_52 : decode m_S_end.2.1 52 = .ok (.aload_n 1, 1) := by decide +kernel
theorem d_S_end_53 : decode m_S_end.2.1 53 = .ok (.aload_n 0, 1) := by decide +kernel
theorem d_S_end_54 : decode m_S_end.2.1 54 = .ok (.getfield 11, 3) := by decide +kernel
theorem d_S_end_57 : decode m_S_end.2.1 57 = .ok (.iload_n 3, 1) := by decide +kernel
theorem d_S_end_58 : decode m_S_end.2.1 58 = .ok (.aaload, 1) := by decide +kernel
theorem d_S_end_59 : decode m_S_end.2.1 59 = .ok (.invokevirtual 87, 3) := by decide +kernel
theorem d_S_end_62 : decode m_S_end.2.1 62 = .ok (.aload_n 0, 1) := by decide +kernel
theorem d_S_end_63 : decode m_S_end.2.1 63 = .ok (.aload_n 1, 1) := by decide +kernel
theorem d_S_end_64 : decode m_S_end.2.1 64 = .ok (.aload_n 0, 1) := by decide +kernel
theorem d_S_end_65 : decode m_S_end.2.1 65 = .ok (.getfield 11, 3) := by decide +kernel
theorem d_S_end_68 : decode m_S_end.2.1 68 = .ok (.iload_n 3, 1) := by decide +kernel
theorem d_S_end_69 : decode m_S_end.2.1 69 = .ok (.aaload, 1) := by decide +kernel
theorem d_S_end_70 : decode m_S_end.2.1 70 = .ok (.aload_n 2, 1) := by decide +kernel
theorem d_S_end_71 : decode m_S_end.2.1 71 = .ok (.invokevirtual 91, 3) := by decide +kernel
theorem d_S_end_74 : decode m_S_end.2.1 74 = .ok (.iinc 3 1, 3) := by decide +kernel
theorem d_S_end_77 : decode m_S_end.2.1 77 = .ok (.goto (-45), 3) := by decide +kernel
theorem d_S_end_80 : decode m_S_end.2.1 80 = .ok (.return_, 1) := by decide +kernel
theorem d_S_signal_0 : decode m_S_signal.2.1 0 = .ok (.aload_n 2, 1) := by decide +kernel
theorem d_S_signal_1 : decode m_S_signal.2.1 1 = .ok (.getfield 65, 3) := by decide +kernel
theorem d_S_signal_4 : decode m_S_signal.2.1 4 = .ok (.iconst 3, 1) := by decide +kernel
theorem d_S_signal_5 : decode m_S_signal.2.1 5 = .ok (.if_icmp .ne 4, 3) := by decide +kernel
theorem d_S_signal_8 : decode m_S_signal.2.1 8 = .ok (.return_, 1) := by decide +kernel
theorem d_S_signal_9 : decode m_S_signal.2.1 9 = .ok (.aload_n 2, 1) := by decide +kernel
theorem d_S_signal_10 : decode m_S_signal.2.1 10 = .ok (.getfield 95, 3) := by decide +kernel
theorem d_S_signal_13 : decode m_S_signal.2.1 13 = .ok (.ifCond .eq 17, 3) := by decide +kernel
theorem d_S_signal_16 : decode m_S_signal.2.1 16 = .ok (.aload_n 0, 1) := by decide +kernel
theorem d_S_signal_17 : decode m_S_signal.2.1 17 = .ok (.aload_n 2, 1) := by decide +kernel
theorem d_S_signal_18 : decode m_S_signal.2.1 18 = .ok (.aload_n 0, 1) := by decide +kernel
theorem d_S_signal_19 : decode m_S_signal.2.1 19 = .ok (.aload_n 1, 1) := by decide +kernel
theorem d_S_signal_20 : decode m_S_signal.2.1 20 = .ok (.aload_n 3, 1) := by decide +kernel
theorem d_S_signal_21 : decode m_S_signal.2.1 21 = .ok (.invokevirtual 99, 3) := by decide +kernel
theorem d_S_signal_24 : decode m_S_signal.2.1 24 = .ok (.invokevirtual 103, 3) := by decide +kernel
theorem d_S_signal_27 : decode m_S_signal.2.1 27 = .ok (.goto 23, 3) := by decide +kernel
theorem d_S_signal_30 : decode m_S_signal.2.1 30 = .ok (.aload_n 3, 1) := by decide +kernel
theorem d_S_signal_31 : decode m_S_signal.2.1 31 = .ok (.aload_n 0, 1) := by decide +kernel
theorem d_S_signal_32 : decode m_S_signal.2.1 32 = .ok (.getfield 36, 3) := by decide +kernel
theorem d_S_signal_35 : decode m_S_signal.2.1 35 = .ok (.bipush 14, 2) := by decide +kernel
theorem d_S_signal_37 : decode m_S_signal.2.1 37 = .ok (.aaload, 1) := by decide +kernel
theorem d_S_signal_38 : decode m_S_signal.2.1 38 = .ok (.invokestatic 107, 3) := by decide +kernel
theorem d_S_signal_41 : decode m_S_signal.2.1 41 = .ok (.ifCond .ne 9, 3) := by decide +kernel
theorem d_S_signal_44 : decode m_S_signal.2.1 44 = .ok (.aload_n 0, 1) := by decide +kernel
theorem d_S_signal_45 : decode m_S_signal.2.1 45 = .ok (.aload_n 2, 1) := by decide +kernel
theorem d_S_signal_46 : decode m_S_signal.2.1 46 = .ok (.aload_n 3, 1) := by decide +kernel
theorem d_S_signal_47 : decode m_S_signal.2.1 47 = .ok (.invokevirtual 111, 3) := by decide +kernel
theorem d_S_signal_50 : decode m_S_signal.2.1 50 = .ok (.return_, 1) := by decide +kernel
theorem d_S_exitNotice_0 : decode m_S_exitNotice.2.1 0 = .ok (.aload_n 2, 1) := by decide +kernel
theorem d_S_exitNotice_1 : decode m_S_exitNotice.2.1 1 = .ok (.getfield 114, 3) := by decide +kernel
theorem d_S_exitNotice_4 : decode m_S_exitNotice.2.1 4 = .ok (.iconst 4, 1) := by decide +kernel
theorem d_S_exitNotice_5 : decode m_S_exitNotice.2.1 5 = .ok (.iadd, 1) := by decide +kernel
theorem d_S_exitNotice_6 : decode m_S_exitNotice.2.1 6 = .ok (.bipush 15, 2) := by decide +kernel
theorem d_S_exitNotice_8 : decode m_S_exitNotice.2.1 8 = .ok (.if_icmp .le 13, 3) := by decide +kernel
theorem d_S_exitNotice_11 : decode m_S_exitNotice.2.1 11 = .ok (.aload_n 0, 1) := by decide +kernel
theorem d_S_exitNotice_12 : decode m_S_exitNotice.2.1 12 = .ok (.getfield 36, 3) := by decide +kernel
theorem d_S_exitNotice_15 : decode m_S_exitNotice.2.1 15 = .ok (.bipush 13, 2) := by decide +kernel
theorem d_S_exitNotice_17 : decode m_S_exitNotice.2.1 17 = .ok (.aaload, 1) := by decide +kernel
theorem d_S_exitNotice_18 : decode m_S_exitNotice.2.1 18 = .ok (.goto 4, 3) := by decide +kernel
theorem d_S_exitNotice_21 : decode m_S_exitNotice.2.1 21 = .ok (.aload_n 2, 1) := by decide +kernel
theorem d_S_exitNotice_22 : decode m_S_exitNotice.2.1 22 = .ok (.astore_n 3, 1) := by decide +kernel
theorem d_S_exitNotice_23 : decode m_S_exitNotice.2.1 23 = .ok (.new 27, 3) := by decide +kernel
theorem d_S_exitNotice_26 : decode m_S_exitNotice.2.1 26 = .ok (.dup, 1) := by decide +kernel
theorem d_S_exitNotice_27 : decode m_S_exitNotice.2.1 27 = .ok (.iconst 5, 1) := by decide +kernel
theorem d_S_exitNotice_28 : decode m_S_exitNotice.2.1 28 = .ok (.aload_n 0, 1) := by decide +kernel
theorem d_S_exitNotice_29 : decode m_S_exitNotice.2.1 29 = .ok (.getfield 36, 3) := by decide +kernel
theorem d_S_exitNotice_32 : decode m_S_exitNotice.2.1 32 = .ok (.bipush 15, 2) := by decide +kernel
theorem d_S_exitNotice_34 : decode m_S_exitNotice.2.1 34 = .ok (.aaload, 1) := by decide +kernel
theorem d_S_exitNotice_35 : decode m_S_exitNotice.2.1 35 = .ok (.new 27, 3) := by decide +kernel
theorem d_S_exitNotice_38 : decode m_S_exitNotice.2.1 38 = .ok (.dup, 1) := by decide +kernel
theorem d_S_exitNotice_39 : decode m_S_exitNotice.2.1 39 = .ok (.iconst 5, 1) := by decide +kernel
theorem d_S_exitNotice_40 : decode m_S_exitNotice.2.1 40 = .ok (.aload_n 1, 1) := by decide +kernel
theorem d_S_exitNotice_41 : decode m_S_exitNotice.2.1 41 = .ok (.getfield 117, 3) := by decide +kernel
theorem d_S_exitNotice_44 : decode m_S_exitNotice.2.1 44 = .ok (.aload_n 3, 1) := by decide +kernel
theorem d_S_exitNotice_45 : decode m_S_exitNotice.2.1 45 = .ok (.invokespecial 120, 3) := by decide +kernel
theorem d_S_exitNotice_48 : decode m_S_exitNotice.2.1 48 = .ok (.invokespecial 120, 3) := by decide +kernel
theorem d_S_exitNotice_51 : decode m_S_exitNotice.2.1 51 = .ok (.areturn, 1) := by decide +kernel
theorem d_T_init_0 : decode m_T_init.2.1 0 = .ok (.aload_n 0, 1) := by decide +kernel
theorem d_T_init_1 : decode m_T_init.2.1 1 = .ok (.invokespecial 3, 3) := by decide +kernel
theorem d_T_init_4 : decode m_T_init.2.1 4 = .ok (.aload_n 0, 1) := by decide +kernel
theorem d_T_init_5 : decode m_T_init.2.1 5 = .ok (.iload_n 1, 1) := by decide +kernel
theorem d_T_init_6 : decode m_T_init.2.1 6 = .ok (.putfield 9, 3) := by decide +kernel
theorem d_T_init_9 : decode m_T_init.2.1 9 = .ok (.aload_n 0, 1) := by decide +kernel
theorem d_T_init_10 : decode m_T_init.2.1 10 = .ok (.iload_n 2, 1) := by decide +kernel
theorem d_T_init_11 : decode m_T_init.2.1 11 = .ok (.putfield 15, 3) := by decide +kernel
theorem d_T_init_14 : decode m_T_init.2.1 14 = .ok (.aload_n 0, 1) := by decide +kernel
theorem d_T_init_15 : decode m_T_init.2.1 15 = .ok (.aconst_null, 1) := by decide +kernel
theorem d_T_init_16 : decode m_T_init.2.1 16 = .ok (.putfield 18, 3) := by decide +kernel
theorem d_T_init_19 : decode m_T_init.2.1 19 = .ok (.aload_n 0, 1) := by decide +kernel
theorem d_T_init_20 : decode m_T_init.2.1 20 = .ok (.aconst_null, 1) := by decide +kernel
theorem d_T_init_21 : decode m_T_init.2.1 21 = .ok (.putfield 22, 3) := by decide +kernel
theorem d_T_init_24 : decode m_T_init.2.1 24 = .ok (.aload_n 0, 1) := by decide +kernel
theorem d_T_init_25 : decode m_T_init.2.1 25 = .ok (.iconst 1, 1) := by decide +kernel
theorem d_T_init_26 : decode m_T_init.2.1 26 = .ok (.putfield 25, 3) := by decide +kernel
theorem d_T_init_29 : decode m_T_init.2.1 29 = .ok (.return_, 1) := by decide +kernel
theorem d_T_init2_0 : decode m_T_init2.2.1 0 = .ok (.aload_n 0, 1) := by decide +kernel
theorem d_T_init2_1 : decode m_T_init2.2.1 1 = .ok (.invokespecial 3, 3) := by decide +kernel
theorem d_T_init2_4 : decode m_T_init2.2.1 4 = .ok (.aload_n 0, 1) := by decide +kernel
theorem d_T_init2_5 : decode m_T_init2.2.1 5 = .ok (.iload_n 1, 1) := by decide +kernel
theorem d_T_init2_6 : decode m_T_init2.2.1 6 = .ok (.putfield 9, 3) := by decide +kernel
theorem d_T_init2_9 : decode m_T_init2.2.1 9 = .ok (.aload_n 0, 1) := by decide +kernel
theorem d_T_init2_10 : decode m_T_init2.2.1 10 = .ok (.iconst 0, 1) := by decide +kernel
theorem d_T_init2_11 : decode m_T_init2.2.1 11 = .ok (.putfield 15, 3) := by decide +kernel
theorem d_T_init2_14 : decode m_T_init2.2.1 14 = .ok (.aload_n 0, 1) := by decide +kernel
theorem d_T_init2_15 : decode m_T_init2.2.1 15 = .ok (.aload_n 2, 1) := by decide +kernel
theorem d_T_init2_16 : decode m_T_init2.2.1 16 = .ok (.putfield 18, 3) := by decide +kernel
theorem d_T_init2_19 : decode m_T_init2.2.1 19 = .ok (.aload_n 0, 1) := by decide +kernel
theorem d_T_init2_20 : decode m_T_init2.2.1 20 = .ok (.aload_n 3, 1) := by decide +kernel
theorem d_T_init2_21 : decode m_T_init2.2.1 21 = .ok (.putfield 22, 3) := by decide +kernel
theorem d_T_init2_24 : decode m_T_init2.2.1 24 = .ok (.aload_n 0, 1) := by decide +kernel
theorem d_T_init2_25 : decode m_T_init2.2.1 25 = .ok (.iconst 1, 1) := by decide +kernel
theorem d_T_init2_26 : decode m_T_init2.2.1 26 = .ok (.aload_n 2, 1) := by decide +kernel
theorem d_T_init2_27 : decode m_T_init2.2.1 27 = .ok (.getfield 25, 3) := by decide +kernel
theorem d_T_init2_30 : decode m_T_init2.2.1 30 = .ok (.iadd, 1) := by decide +kernel
theorem d_T_init2_31 : decode m_T_init2.2.1 31 = .ok (.aload_n 3, 1) := by decide +kernel
theorem d_T_init2_32 : decode m_T_init2.2.1 32 = .ok (.getfield 25, 3) := by decide +kernel
theorem d_T_init2_35 : decode m_T_init2.2.1 35 = .ok (.iadd, 1) := by decide +kernel
theorem d_T_init2_36 : decode m_T_init2.2.1 36 = .ok (.putfield 25, 3) := by decide +kernel
theorem d_T_init2_39 : decode m_T_init2.2.1 39 = .ok (.return_, 1) := by decide +kernel
theorem d_T_joined_0 : decode m_T_joined.2.1 0 = .ok (.iconst 1, 1) := by decide +kernel
theorem d_T_joined_1 : decode m_T_joined.2.1 1 = .ok (.aload_n 1, 1) := by decide +kernel
theorem d_T_joined_2 : decode m_T_joined.2.1 2 = .ok (.getfield 25, 3) := by decide +kernel
theorem d_T_joined_5 : decode m_T_joined.2.1 5 = .ok (.iadd, 1) := by decide +kernel
theorem d_T_joined_6 : decode m_T_joined.2.1 6 = .ok (.aload_n 2, 1) := by decide +kernel
theorem d_T_joined_7 : decode m_T_joined.2.1 7 = .ok (.getfield 25, 3) := by decide +kernel
theorem d_T_joined_10 : decode m_T_joined.2.1 10 = .ok (.iadd, 1) := by decide +kernel
theorem d_T_joined_11 : decode m_T_joined.2.1 11 = .ok (.bipush 15, 2) := by decide +kernel
theorem d_T_joined_13 : decode m_T_joined.2.1 13 = .ok (.if_icmp .le 7, 3) := by decide +kernel
theorem d_T_joined_16 : decode m_T_joined.2.1 16 = .ok (.aconst_null, 1) := by decide +kernel
theorem d_T_joined_17 : decode m_T_joined.2.1 17 = .ok (.goto 13, 3) := by decide +kernel
theorem d_T_joined_20 : decode m_T_joined.2.1 20 = .ok (.new 10, 3) := by decide +kernel
theorem d_T_joined_23 : decode m_T_joined.2.1 23 = .ok (.dup, 1) := by decide +kernel
theorem d_T_joined_24 : decode m_T_joined.2.1 24 = .ok (.iload_n 0, 1) := by decide +kernel
theorem d_T_joined_25 : decode m_T_joined.2.1 25 = .ok (.aload_n 1, 1) := by decide +kernel
theorem d_T_joined_26 : decode m_T_joined.2.1 26 = .ok (.aload_n 2, 1) := by decide +kernel
theorem d_T_joined_27 : decode m_T_joined.2.1 27 = .ok (.invokespecial 28, 3) := by decide +kernel
theorem d_T_joined_30 : decode m_T_joined.2.1 30 = .ok (.areturn, 1) := by decide +kernel
theorem d_T_hasParts_0 : decode m_T_hasParts.2.1 0 = .ok (.aload_n 0, 1) := by decide +kernel
theorem d_T_hasParts_1 : decode m_T_hasParts.2.1 1 = .ok (.getfield 18, 3) := by decide +kernel
theorem d_T_hasParts_4 : decode m_T_hasParts.2.1 4 = .ok (.ifnull 14, 3) := by decide +kernel
theorem d_T_hasParts_7 : decode m_T_hasParts.2.1 7 = .ok (.aload_n 0, 1) := by decide +kernel
theorem d_T_hasParts_8 : decode m_T_hasParts.2.1 8 = .ok (.getfield 22, 3) := by decide +kernel
theorem d_T_hasParts_11 : decode m_T_hasParts.2.1 11 = .ok (.ifnull 7, 3) := by decide +kernel
theorem d_T_hasParts_14 : decode m_T_hasParts.2.1 14 = .ok (.iconst 1, 1) := by decide +kernel
theorem d_T_hasParts_15 : decode m_T_hasParts.2.1 15 = .ok (.goto 4, 3) := by decide +kernel
theorem d_T_hasParts_18 : decode m_T_hasParts.2.1 18 = .ok (.iconst 0, 1) := by decide +kernel
theorem d_T_hasParts_19 : decode m_T_hasParts.2.1 19 = .ok (.ireturn, 1) := by decide +kernel
theorem d_T_hasNumber_0 : decode m_T_hasNumber.2.1 0 = .ok (.aload_n 0, 1) := by decide +kernel
theorem d_T_hasNumber_1 : decode m_T_hasNumber.2.1 1 = .ok (.getfield 9, 3) := by decide +kernel
theorem d_T_hasNumber_4 : decode m_T_hasNumber.2.1 4 = .ok (.ifCond .eq 19, 3) := by decide +kernel
theorem d_T_hasNumber_7 : decode m_T_hasNumber.2.1 7 = .ok (.aload_n 0, 1) := by decide +kernel
theorem d_T_hasNumber_8 : decode m_T_hasNumber.2.1 8 = .ok (.getfield 9, 3) := by decide +kernel
theorem d_T_hasNumber_11 : decode m_T_hasNumber.2.1 11 = .ok (.iconst 1, 1) := by decide +kernel
theorem d_T_hasNumber_12 : decode m_T_hasNumber.2.1 12 = .ok (.if_icmp .eq 11, 3) := by decide +kernel
theorem d_T_hasNumber_15 : decode m_T_hasNumber.2.1 15 = .ok (.aload_n 0, 1) := by decide +kernel
theorem d_T_hasNumber_16 : decode m_T_hasNumber.2.1 16 = .ok (.getfield 9, 3) := by decide +kernel
theorem d_T_hasNumber_19 : decode m_T_hasNumber.2.1 19 = .ok (.iconst 2, 1) := by decide +kernel
theorem d_T_hasNumber_20 : decode m_T_hasNumber.2.1 20 = .ok (.if_icmp .ne 7, 3) := by decide +kernel
theorem d_T_hasNumber_23 : decode m_T_hasNumber.2.1 23 = .ok (.iconst 1, 1) := by decide +kernel
theorem d_T_hasNumber_24 : decode m_T_hasNumber.2.1 24 = .ok (.goto 4, 3) := by decide +kernel
theorem d_T_hasNumber_27 : decode m_T_hasNumber.2.1 27 = .ok (.iconst 0, 1) := by decide +kernel
theorem d_T_hasNumber_28 : decode m_T_hasNumber.2.1 28 = .ok (.ireturn, 1) := by decide +kernel
theorem d_T_summary_0 : decode m_T_summary.2.1 0 = .ok (.aload_n 0, 1) := by decide +kernel
theorem d_T_summary_1 : decode m_T_summary.2.1 1 = .ok (.invokevirtual 31, 3) := by decide +kernel
theorem d_T_summary_4 : decode m_T_summary.2.1 4 = .ok (.ifCond .eq 15, 3) := by decide +kernel
theorem d_T_summary_7 : decode m_T_summary.2.1 7 = .ok (.aload_n 0, 1) := by decide +kernel
theorem d_T_summary_8 : decode m_T_summary.2.1 8 = .ok (.getfield 15, 3) := by decide +kernel
theorem d_T_summary_11 : decode m_T_summary.2.1 11 = .ok (.bipush 100, 2) := by decide +kernel
theorem d_T_summary_13 : decode m_T_summary.2.1 13 = .ok (.invokestatic 35, 3) := by decide +kernel
theorem d_T_summary_16 : decode m_T_summary.2.1 16 = .ok (.goto 4, 3) := by decide +kernel
theorem d_T_summary_19 : decode m_T_summary.2.1 19 = .ok (.iconst 0, 1) := by decide +kernel
theorem d_T_summary_20 : decode m_T_summary.2.1 20 = .ok (.istore_n 1, 1) := by decide +kernel
theorem d_T_summary_21 : decode m_T_summary.2.1 21 = .ok (.ldc 41, 2) := by decide +kernel
theorem d_T_summary_23 : decode m_T_summary.2.1 23 = .ok (.aload_n 0, 1) := by decide +kernel
theorem d_T_summary_24 : decode m_T_summary.2.1 24 = .ok (.getfield 9, 3) := by decide +kernel
theorem d_T_summary_27 : decode m_T_summary.2.1 27 = .ok (.imul, 1) := by decide +kernel
theorem d_T_summary_28 : decode m_T_summary.2.1 28 = .ok (.bipush 100, 2) := by decide +kernel
theorem d_T_summary_30 : decode m_T_summary.2.1 30 = .ok (.aload_n 0, 1) := by decide +kernel
theorem d_T_summary_31 : decode m_T_summary.2.1 31 = .ok (.getfield 25, 3) := by decide +kernel
theorem d_T_summary_34 : decode m_T_summary.2.1 34 = .ok (.imul, 1) := by decide +kernel
theorem d_T_summary_35 : decode m_T_summary.2.1 35 = .ok (.iadd, 1) := by decide +kernel
theorem d_T_summary_36 : decode m_T_summary.2.1 36 = .ok (.iload_n 1, 1) := by decide +kernel
theorem d_T_summary_37 : decode m_T_summary.2.1 37 = .ok (.iadd, 1) := by decide +kernel
theorem d_T_summary_38 : decode m_T_summary.2.1 38 = .ok (.ireturn, 1) := by decide +kernel
theorem d_T_alike_0 : decode m_T_alike.2.1 0 = .ok (.aload_n 0, 1) := by decide +kernel
theorem d_T_alike_1 : decode m_T_alike.2.1 1 = .ok (.getfield 9, 3) := by decide +kernel
theorem d_T_alike_4 : decode m_T_alike.2.1 4 = .ok (.aload_n 1, 1) := by decide +kernel
theorem d_T_alike_5 : decode m_T_alike.2.1 5 = .ok (.getfield 9, 3) := by decide +kernel
theorem d_T_alike_8 : decode m_T_alike.2.1 8 = .ok (.if_icmp .ne 14, 3) := by decide +kernel
theorem d_T_alike_11 : decode m_T_alike.2.1 11 = .ok (.aload_n 0, 1) := by decide +kernel
theorem d_T_alike_12 : decode m_T_alike.2.1 12 = .ok (.getfield 15, 3) := by decide +kernel
theorem d_T_alike_15 : decode m_T_alike.2.1 15 = .ok (.aload_n 1, 1) := by decide +kernel
theorem d_T_alike_16 : decode m_T_alike.2.1 16 = .ok (.getfield 15, 3) := by decide +kernel
theorem d_T_alike_19 : decode m_T_alike.2.1 19 = .ok (.if_icmp .eq 5, 3) := by decide +kernel
theorem d_T_alike_22 : decode m_T_alike.2.1 22 = .ok (.iconst 0, 1) := by decide +kernel
theorem d_T_alike_23 : decode m_T_alike.2.1 23 = .ok (.ireturn, 1) := by decide +kernel
theorem d_T_alike_24 : decode m_T_alike.2.1 24 = .ok (.aload_n 0, 1) := by decide +kernel
theorem d_T_alike_25 : decode m_T_alike.2.1 25 = .ok (.invokevirtual 42, 3) := by decide +kernel
theorem d_T_alike_28 : decode m_T_alike.2.1 28 = .ok (.ifCond .eq 10, 3) := by decide +kernel
theorem d_T_alike_31 : decode m_T_alike.2.1 31 = .ok (.aload_n 1, 1) := by decide +kernel
theorem d_T_alike_32 : decode m_T_alike.2.1 32 = .ok (.invokevirtual 42, 3) := by decide +kernel
theorem d_T_alike_35 : decode m_T_alike.2.1 35 = .ok (.ifCond .ne 5, 3) := by decide +kernel
theorem d_T_alike_38 : decode m_T_alike.2.1 38 = .ok (.iconst 1, 1) := by decide +kernel
theorem d_T_alike_39 : decode m_T_alike.2.1 39 = .ok (.ireturn, 1) := by decide +kernel
theorem d_T_alike_40 : decode m_T_alike.2.1 40 = .ok (.aload_n 0, 1) := by decide +kernel
theorem d_T_alike_41 : decode m_T_alike.2.1 41 = .ok (.getfield 18, 3) := by decide +kernel
theorem d_T_alike_44 : decode m_T_alike.2.1 44 = .ok (.aload_n 1, 1) := by decide +kernel
theorem d_T_alike_45 : decode m_T_alike.2.1 45 = .ok (.getfield 18, 3) := by decide +kernel
theorem d_T_alike_48 : decode m_T_alike.2.1 48 = .ok (.invokestatic 45, 3) := by decide +kernel
theorem d_T_alike_51 : decode m_T_alike.2.1 51 = .ok (.ifCond .eq 21, 3) := by decide +kernel
theorem d_T_alike_54 : decode m_T_alike.2.1 54 = .ok (.aload_n 0, 1) := by decide +kernel
theorem d_T_alike_55 : decode m_T_alike.2.1 55 = .ok (.getfield 22, 3) := by decide +kernel
theorem d_T_alike_58 : decode m_T_alike.2.1 58 = .ok (.aload_n 1, 1) := by decide +kernel
theorem d_T_alike_59 : decode m_T_alike.2.1 59 = .ok (.getfield 22, 3) := by decide +kernel
theorem d_T_alike_62 : decode m_T_alike.2.1 62 = .ok (.invokestatic 45, 3) := by decide +kernel
theorem d_T_alike_65 : decode m_T_alike.2.1 65 = .ok (.ifCond .eq 7, 3) := by decide +kernel
theorem d_T_alike_68 : decode m_T_alike.2.1 68 = .ok (.iconst 1, 1) := by decide +kernel
theorem d_T_alike_69 : decode m_T_alike.2.1 69 = .ok (.goto 4, 3) := by decide +kernel
theorem d_T_alike_72 : decode m_T_alike.2.1 72 = .ok (.iconst 0, 1) := by decide +kernel
theorem d_T_alike_73 : decode m_T_alike.2.1 73 = .ok (.ireturn, 1) := by decide +kernel
theorem d_T_mixed_0 : decode m_T_mixed.2.1 0 = .ok (.iload_n 0, 1) := by decide +kernel
theorem d_T_mixed_1 : decode m_T_mixed.2.1 1 = .ok (.bipush 31, 2) := by decide +kernel
theorem d_T_mixed_3 : decode m_T_mixed.2.1 3 = .ok (.imul, 1) := by decide +kernel
theorem d_T_mixed_4 : decode m_T_mixed.2.1 4 = .ok (.aload_n 1, 1) := by decide +kernel
theorem d_T_mixed_5 : decode m_T_mixed.2.1 5 = .ok (.getfield 9, 3) := by decide +kernel
theorem d_T_mixed_8 : decode m_T_mixed.2.1 8 = .ok (.iadd, 1) := by decide +kernel
theorem d_T_mixed_9 : decode m_T_mixed.2.1 9 = .ok (.iconst 1, 1) := by decide +kernel
theorem d_T_mixed_10 : decode m_T_mixed.2.1 10 = .ok (.iadd, 1) := by decide +kernel
theorem d_T_mixed_11 : decode m_T_mixed.2.1 11 = .ok (.istore_n 2, 1) := by decide +kernel
theorem d_T_mixed_12 : decode m_T_mixed.2.1 12 = .ok (.aload_n 1, 1) := by decide +kernel
theorem d_T_mixed_13 : decode m_T_mixed.2.1 13 = .ok (.invokevirtual 31, 3) := by decide +kernel
theorem d_T_mixed_16 : decode m_T_mixed.2.1 16 = .ok (.ifCond .eq 13, 3) := by decide +kernel
theorem d_T_mixed_19 : decode m_T_mixed.2.1 19 = .ok (.iload_n 2, 1) := by decide +kernel
theorem d_T_mixed_20 : decode m_T_mixed.2.1 20 = .ok (.bipush 31, 2) := by decide +kernel
theorem d_T_mixed_22 : decode m_T_mixed.2.1 22 = .ok (.imul, 1) := by decide +kernel
theorem d_T_mixed_23 : decode m_T_mixed.2.1 23 = .ok (.aload_n 1, 1) := by decide +kernel
theorem d_T_mixed_24 : decode m_T_mixed.2.1 24 = .ok (.getfield 15, 3) := by decide +kernel
theorem d_T_mixed_27 : decode m_T_mixed.2.1 27 = .ok (.iadd, 1) := by decide +kernel
theorem d_T_mixed_28 : decode m_T_mixed.2.1 28 = .ok (.ireturn, 1) := by decide +kernel
theorem d_T_mixed_29 : decode m_T_mixed.2.1 29 = .ok (.aload_n 1, 1) := by decide +kernel
theorem d_T_mixed_30 : decode m_T_mixed.2.1 30 = .ok (.invokevirtual 42, 3) := by decide +kernel
theorem d_T_mixed_33 : decode m_T_mixed.2.1 33 = .ok (.ifCond .ne 5, 3) := by decide +kernel
theorem d_T_mixed_36 : decode m_T_mixed.2.1 36 = .ok (.iload_n 2, 1) := by decide +kernel
theorem d_T_mixed_37 : decode m_T_mixed.2.1 37 = .ok (.ireturn, 1) := by decide +kernel
theorem d_T_mixed_38 : decode m_T_mixed.2.1 38 = .ok (.iload_n 2, 1) := by decide +kernel
theorem d_T_mixed_39 : decode m_T_mixed.2.1 39 = .ok (.aload_n 1, 1) := by decide +kernel
theorem d_T_mixed_40 : decode m_T_mixed.2.1 40 = .ok (.getfield 18, 3) := by decide +kernel
theorem d_T_mixed_43 : decode m_T_mixed.2.1 43 = .ok (.invokestatic 49, 3) := by decide +kernel
theorem d_T_mixed_46 : decode m_T_mixed.2.1 46 = .ok (.aload_n 1, 1) := by decide +kernel
theorem d_T_mixed_47 : decode m_T_mixed.2.1 47 = .ok (.getfield 22, 3) := by decide +kernel
theorem d_T_mixed_50 : decode m_T_mixed.2.1 50 = .ok (.invokestatic 49, 3) := by decide +kernel
theorem d_T_mixed_53 : decode m_T_mixed.2.1 53 = .ok (.ireturn, 1) := by decide +kernel
theorem d_W_cell_0 : decode m_W_cell.2.1 0 = .ok (.iload_n 1, 1) := by decide +kernel
theorem d_W_cell_1 : decode m_W_cell.2.1 1 = .ok (.aload_n 0, 1) := by decide +kernel
theorem d_W_cell_2 : decode m_W_cell.2.1 2 = .ok (.arraylength, 1) := by decide +kernel
theorem d_W_cell_3 : decode m_W_cell.2.1 3 = .ok (.if_icmp .ge 9, 3) := by decide +kernel
theorem d_W_cell_6 : decode m_W_cell.2.1 6 = .ok (.aload_n 0, 1) := by decide +kernel
theorem d_W_cell_7 : decode m_W_cell.2.1 7 = .ok (.iload_n 1, 1) := by decide +kernel
theorem d_W_cell_8 : decode m_W_cell.2.1 8 = .ok (.iaload, 1) := by decide +kernel
theorem d_W_cell_9 : decode m_W_cell.2.1 9 = .ok (.goto 4, 3) := by decide +kernel
theorem d_W_cell_12 : decode m_W_cell.2.1 12 = .ok (.iconst 0, 1) := by decide +kernel
theorem d_W_cell_13 : decode m_W_cell.2.1 13 = .ok (.ireturn, 1) := by decide +kernel
theorem d_W_law_0 : decode m_W_law.2.1 0 = .ok (.new 7, 3) := by decide +kernel
theorem d_W_law_3 : decode m_W_law.2.1 3 = .ok (.dup, 1) := by decide +kernel
theorem d_W_law_4 : decode m_W_law.2.1 4 = .ok (.aload_n 0, 1) := by decide +kernel
theorem d_W_law_5 : decode m_W_law.2.1 5 = .ok (.iconst 0, 1) := by decide +kernel
theorem d_W_law_6 : decode m_W_law.2.1 6 = .ok (.invokestatic 9, 3) := by decide +kernel
theorem d_W_law_9 : decode m_W_law.2.1 9 = .ok (.invokespecial 15, 3) := by decide +kernel
theorem d_W_law_12 : decode m_W_law.2.1 12 = .ok (.astore_n 1, 1) := by decide +kernel
theorem d_W_law_13 : decode m_W_law.2.1 13 = .ok (.new 18, 3) := by decide +kernel
theorem d_W_law_16 : decode m_W_law.2.1 16 = .ok (.dup, 1) := by decide +kernel
theorem d_W_law_17 : decode m_W_law.2.1 17 = .ok (.aload_n 0, 1) := by decide +kernel
theorem d_W_law_18 : decode m_W_law.2.1 18 = .ok (.iconst 0, 1) := by decide +kernel
theorem d_W_law_19 : decode m_W_law.2.1 19 = .ok (.invokestatic 9, 3) := by decide +kernel
theorem d_W_law_22 : decode m_W_law.2.1 22 = .ok (.invokespecial 20, 3) := by decide +kernel
theorem d_W_law_25 : decode m_W_law.2.1 25 = .ok (.astore_n 2, 1) := by decide +kernel
theorem d_W_law_26 : decode m_W_law.2.1 26 = .ok (.iconst 1, 1) := by decide +kernel
theorem d_W_law_27 : decode m_W_law.2.1 27 = .ok (.istore_n 3, 1) := by decide +kernel
theorem d_W_law_28 : decode m_W_law.2.1 28 = .ok (.iload_n 3, 1) := by decide +kernel
theorem d_W_law_29 : decode m_W_law.2.1 29 = .ok (.aload_n 0, 1) := by decide +kernel
theorem d_W_law_30 : decode m_W_law.2.1 30 = .ok (.arraylength, 1) := by decide +kernel
theorem d_W_law_31 : decode m_W_law.2.1 31 = .ok (.iconst 5, 1) := by decide +kernel
theorem d_W_law_32 : decode m_W_law.2.1 32 = .ok (.isub, 1) := by decide +kernel
theorem d_W_law_33 : decode m_W_law.2.1 33 = .ok (.if_icmp .gt 385, 3) := by decide +kernel
theorem d_W_law_36 : decode m_W_law.2.1 36 = .ok (.aload_n 0, 1) := by decide +kernel
theorem d_W_law_37 : decode m_W_law.2.1 37 = .ok (.iload_n 3, 1) := by decide +kernel
theorem d_W_law_38 : decode m_W_law.2.1 38 = .ok (.iaload, 1) := by decide +kernel
theorem d_W_law_39 : decode m_W_law.2.1 39 = .ok (.bipush 15, 2) := by decide +kernel
theorem d_W_law_41 : decode m_W_law.2.1 41 = .ok (.iand, 1) := by decide +kernel
theorem d_W_law_42 : decode m_W_law.2.1 42 = .ok (.tableswitch 370 0 9 #[54, 107, 140, 173, 196, 235, 268, 291, 304, 337], 54) := by decide +kernel
theorem d_W_law_96 : decode m_W_law.2.1 96 = .ok (.aload_n 1, 1) := by decide +kernel
theorem d_W_law_97 : decode m_W_law.2.1 97 = .ok (.aload_n 0, 1) := by decide +kernel
theorem d_W_law_98 : decode m_W_law.2.1 98 = .ok (.iload_n 3, 1) := by decide +kernel
theorem d_W_law_99 : decode m_W_law.2.1 99 = .ok (.iconst 1, 1) := by decide +kernel
theorem d_W_law_100 : decode m_W_law.2.1 100 = .ok (.iadd, 1) := by decide +kernel
theorem d_W_law_101 : decode m_W_law.2.1 101 = .ok (.iaload, 1) := by decide +kernel
theorem d_W_law_102 : decode m_W_law.2.1 102 = .ok (.aload_n 0, 1) := by decide +kernel
theorem d_W_law_103 : decode m_W_law.2.1 103 = .ok (.iload_n 3, 1) := by decide +kernel
theorem d_W_law_104 : decode m_W_law.2.1 104 = .ok (.iconst 2, 1) := by decide +kernel
theorem d_W_law_105 : decode m_W_law.2.1 105 = .ok (.iadd, 1) := by decide +kernel
theorem d_W_law_106 : decode m_W_law.2.1 106 = .ok (.iaload, 1) := by decide +kernel
theorem d_W_law_107 : decode m_W_law.2.1 107 = .ok (.aload_n 0, 1) := by decide +kernel
theorem d_W_law_108 : decode m_W_law.2.1 108 = .ok (.iload_n 3, 1) := by decide +kernel
theorem d_W_law_109 : decode m_W_law.2.1 109 = .ok (.iconst 3, 1) := by decide +kernel
theorem d_W_law_110 : decode m_W_law.2.1 110 = .ok (.iadd, 1) := by decide +kernel
theorem d_W_law_111 : decode m_W_law.2.1 111 = .ok (.iaload, 1) := by decide +kernel
theorem d_W_law_112 : decode m_W_law.2.1 112 = .ok (.aload_n 0, 1) := by decide +kernel
theorem d_W_law_113 : decode m_W_law.2.1 113 = .ok (.iload_n 3, 1) := by decide +kernel
theorem d_W_law_114 : decode m_W_law.2.1 114 = .ok (.iconst 4, 1) := by decide +kernel
theorem d_W_law_115 : decode m_W_law.2.1 115 = .ok (.iadd, 1) := by decide +kernel
theorem d_W_law_116 : decode m_W_law.2.1 116 = .ok (.iaload, 1) := by decide +kernel
theorem d_W_law_117 : decode m_W_law.2.1 117 = .ok (.invokevirtual 21, 3) := by decide +kernel
theorem d_W_law_120 : decode m_W_law.2.1 120 = .ok (.aload_n 2, 1) := by decide +kernel
theorem d_W_law_121 : decode m_W_law.2.1 121 = .ok (.aload_n 0, 1) := by decide +kernel
theorem d_W_law_122 : decode m_W_law.2.1 122 = .ok (.iload_n 3, 1) := by decide +kernel
theorem d_W_law_123 : decode m_W_law.2.1 123 = .ok (.iconst 1, 1) := by decide +kernel
theorem d_W_law_124 : decode m_W_law.2.1 124 = .ok (.iadd, 1) := by decide +kernel
theorem d_W_law_125 : decode m_W_law.2.1 125 = .ok (.iaload, 1) := by decide +kernel
theorem d_W_law_126 : decode m_W_law.2.1 126 = .ok (.aload_n 0, 1) := by decide +kernel
theorem d_W_law_127 : decode m_W_law.2.1 127 = .ok (.iload_n 3, 1) := by decide +kernel
theorem d_W_law_128 : decode m_W_law.2.1 128 = .ok (.iconst 2, 1) := by decide +kernel
theorem d_W_law_129 : decode m_W_law.2.1 129 = .ok (.iadd, 1) := by decide +kernel
theorem d_W_law_130 : decode m_W_law.2.1 130 = .ok (.iaload, 1) := by decide +kernel
theorem d_W_law_131 : decode m_W_law.2.1 131 = .ok (.aload_n 0, 1) := by decide +kernel
theorem d_W_law_132 : decode m_W_law.2.1 132 = .ok (.iload_n 3, 1) := by decide +kernel
theorem d_W_law_133 : decode m_W_law.2.1 133 = .ok (.iconst 3, 1) := by decide +kernel
theorem d_W_law_134 : decode m_W_law.2.1 134 = .ok (.iadd, 1) := by decide +kernel
theorem d_W_law_135 : decode m_W_law.2.1 135 = .ok (.iaload, 1) := by decide +kernel
theorem d_W_law_136 : decode m_W_law.2.1 136 = .ok (.aload_n 0, 1) := by decide +kernel
theorem d_W_law_137 : decode m_W_law.2.1 137 = .ok (.iload_n 3, 1) := by decide +kernel
theorem d_W_law_138 : decode m_W_law.2.1 138 = .ok (.iconst 4, 1) := by decide +kernel
theorem d_W_law_139 : decode m_W_law.2.1 139 = .ok (.iadd, 1) := by decide +kernel
theorem d_W_law_140 : decode m_W_law.2.1 140 = .ok (.iaload, 1) := by decide +kernel
theorem d_W_law_141 : decode m_W_law.2.1 141 = .ok (.invokevirtual 25, 3) := by decide +kernel
theorem d_W_law_144 : decode m_W_law.2.1 144 = .ok (.if_icmp .eq 268, 3) := by decide +kernel
theorem d_W_law_147 : decode m_W_law.2.1 147 = .ok (.iconst 0, 1) := by decide +kernel
theorem d_W_law_148 : decode m_W_law.2.1 148 = .ok (.ireturn, 1) := by decide +kernel
theorem d_W_law_149 : decode m_W_law.2.1 149 = .ok (.aload_n 1, 1) := by decide +kernel
theorem d_W_law_150 : decode m_W_law.2.1 150 = .ok (.aload_n 0, 1) := by decide +kernel
theorem d_W_law_151 : decode m_W_law.2.1 151 = .ok (.iload_n 3, 1) := by decide +kernel
theorem d_W_law_152 : decode m_W_law.2.1 152 = .ok (.iconst 1, 1) := by decide +kernel
theorem d_W_law_153 : decode m_W_law.2.1 153 = .ok (.iadd, 1) := by decide +kernel
theorem d_W_law_154 : decode m_W_law.2.1 154 = .ok (.iaload, 1) := by decide +kernel
theorem d_W_law_155 : decode m_W_law.2.1 155 = .ok (.aload_n 0, 1) := by decide +kernel
theorem d_W_law_156 : decode m_W_law.2.1 156 = .ok (.iload_n 3, 1) := by decide +kernel
theorem d_W_law_157 : decode m_W_law.2.1 157 = .ok (.iconst 2, 1) := by decide +kernel
theorem d_W_law_158 : decode m_W_law.2.1 158 = .ok (.iadd, 1) := by decide +kernel
theorem d_W_law_159 : decode m_W_law.2.1 159 = .ok (.iaload, 1) := by decide +kernel
theorem d_W_law_160 : decode m_W_law.2.1 160 = .ok (.invokevirtual 26, 3) := by decide +kernel
theorem d_W_law_163 : decode m_W_law.2.1 163 = .ok (.aload_n 2, 1) := by decide +kernel
theorem d_W_law_164 : decode m_W_law.2.1 164 = .ok (.aload_n 0, 1) := by decide +kernel
theorem d_W_law_165 : decode m_W_law.2.1 165 = .ok (.iload_n 3, 1) := by decide +kernel
theorem d_W_law_166 : decode m_W_law.2.1 166 = .ok (.iconst 1, 1) := by decide +kernel
theorem d_W_law_167 : decode m_W_law.2.1 167 = .ok (.iadd, 1) := by decide +kernel
theorem d_W_law_168 : decode m_W_law.2.1 168 = .ok (.iaload, 1) := by decide +kernel
theorem d_W_law_169 : decode m_W_law.2.1 169 = .ok (.aload_n 0, 1) := by decide +kernel
theorem d_W_law_170 : decode m_W_law.2.1 170 = .ok (.iload_n 3, 1) := by decide +kernel
theorem d_W_law_171 : decode m_W_law.2.1 171 = .ok (.iconst 2, 1) := by decide +kernel
theorem d_W_law_172 : decode m_W_law.2.1 172 = .ok (.iadd, 1) := by decide +kernel
theorem d_W_law_173 : decode m_W_law.2.1 173 = .ok (.iaload, 1) := by decide +kernel
theorem d_W_law_174 : decode m_W_law.2.1 174 = .ok (.invokevirtual 30, 3) := by decide +kernel
theorem d_W_law_177 : decode m_W_law.2.1 177 = .ok (.if_icmp .eq 235, 3) := by decide +kernel
theorem d_W_law_180 : decode m_W_law.2.1 180 = .ok (.iconst 0, 1) := by decide +kernel
theorem d_W_law_181 : decode m_W_law.2.1 181 = .ok (.ireturn, 1) := by decide +kernel
theorem d_W_law_182 : decode m_W_law.2.1 182 = .ok (.aload_n 1, 1) := by decide +kernel
theorem d_W_law_183 : decode m_W_law.2.1 183 = .ok (.aload_n 0, 1) := by decide +kernel
theorem d_W_law_184 : decode m_W_law.2.1 184 = .ok (.iload_n 3, 1) := by decide +kernel
theorem d_W_law_185 : decode m_W_law.2.1 185 = .ok (.iconst 1, 1) := by decide +kernel
theorem d_W_law_186 : decode m_W_law.2.1 186 = .ok (.iadd, 1) := by decide +kernel
theorem d_W_law_187 : decode m_W_law.2.1 187 = .ok (.iaload, 1) := by decide +kernel
theorem d_W_law_188 : decode m_W_law.2.1 188 = .ok (.aload_n 0, 1) := by decide +kernel
theorem d_W_law_189 : decode m_W_law.2.1 189 = .ok (.iload_n 3, 1) := by decide +kernel
theorem d_W_law_190 : decode m_W_law.2.1 190 = .ok (.iconst 2, 1) := by decide +kernel
theorem d_W_law_191 : decode m_W_law.2.1 191 = .ok (.iadd, 1) := by decide +kernel
theorem d_W_law_192 : decode m_W_law.2.1 192 = .ok (.iaload, 1) := by decide +kernel
theorem d_W_law_193 : decode m_W_law.2.1 193 = .ok (.invokevirtual 31, 3) := by decide +kernel
theorem d_W_law_196 : decode m_W_law.2.1 196 = .ok (.aload_n 2, 1) := by decide +kernel
theorem d_W_law_197 : decode m_W_law.2.1 197 = .ok (.aload_n 0, 1) := by decide +kernel
theorem d_W_law_198 : decode m_W_law.2.1 198 = .ok (.iload_n 3, 1) := by decide +kernel
theorem d_W_law_199 : decode m_W_law.2.1 199 = .ok (.iconst 1, 1) := by decide +kernel
theorem d_W_law_200 : decode m_W_law.2.1 200 = .ok (.iadd, 1) := by decide +kernel
theorem d_W_law_201 : decode m_W_law.2.1 201 = .ok (.iaload, 1) := by decide +kernel
theorem d_W_law_202 : decode m_W_law.2.1 202 = .ok (.aload_n 0, 1) := by decide +kernel
theorem d_W_law_203 : decode m_W_law.2.1 203 = .ok (.iload_n 3, 1) := by decide +kernel
theorem d_W_law_204 : decode m_W_law.2.1 204 = .ok (.iconst 2, 1) := by decide +kernel
theorem d_W_law_205 : decode m_W_law.2.1 205 = .ok (.iadd, 1) := by decide +kernel
theorem d_W_law_206 : decode m_W_law.2.1 206 = .ok (.iaload, 1) := by decide +kernel
theorem d_W_law_207 : decode m_W_law.2.1 207 = .ok (.invokevirtual 35, 3) := by decide +kernel
theorem d_W_law_210 : decode m_W_law.2.1 210 = .ok (.if_icmp .eq 202, 3) := by decide +kernel
theorem d_W_law_213 : decode m_W_law.2.1 213 = .ok (.iconst 0, 1) := by decide +kernel
theorem d_W_law_214 : decode m_W_law.2.1 214 = .ok (.ireturn, 1) := by decide +kernel
theorem d_W_law_215 : decode m_W_law.2.1 215 = .ok (.aload_n 1, 1) := by decide +kernel
theorem d_W_law_216 : decode m_W_law.2.1 216 = .ok (.aload_n 0, 1) := by decide +kernel
theorem d_W_law_217 : decode m_W_law.2.1 217 = .ok (.iload_n 3, 1) := by decide +kernel
theorem d_W_law_218 : decode m_W_law.2.1 218 = .ok (.iconst 1, 1) := by decide +kernel
theorem d_W_law_219 : decode m_W_law.2.1 219 = .ok (.iadd, 1) := by decide +kernel
theorem d_W_law_220 : decode m_W_law.2.1 220 = .ok (.iaload, 1) := by decide +kernel
theorem d_W_law_221 : decode m_W_law.2.1 221 = .ok (.invokevirtual 36, 3) := by decide +kernel
theorem d_W_law_224 : decode m_W_law.2.1 224 = .ok (.aload_n 2, 1) := by decide +kernel
theorem d_W_law_225 : decode m_W_law.2.1 225 = .ok (.aload_n 0, 1) := by decide +kernel
theorem d_W_law_226 : decode m_W_law.2.1 226 = .ok (.iload_n 3, 1) := by decide +kernel
theorem d_W_law_227 : decode m_W_law.2.1 227 = .ok (.iconst 1, 1) := by decide +kernel
theorem d_W_law_228 : decode m_W_law.2.1 228 = .ok (.iadd, 1) := by decide +kernel
theorem d_W_law_229 : decode m_W_law.2.1 229 = .ok (.iaload, 1) := by decide +kernel
theorem d_W_law_230 : decode m_W_law.2.1 230 = .ok (.invokevirtual 40, 3) := by decide +kernel
theorem d_W_law_233 : decode m_W_law.2.1 233 = .ok (.if_icmp .eq 179, 3) := by decide +kernel
theorem d_W_law_236 : decode m_W_law.2.1 236 = .ok (.iconst 0, 1) := by decide +kernel
theorem d_W_law_237 : decode m_W_law.2.1 237 = .ok (.ireturn, 1) := by decide +kernel
theorem d_W_law_238 : decode m_W_law.2.1 238 = .ok (.aload_n 1, 1) := by decide +kernel
theorem d_W_law_239 : decode m_W_law.2.1 239 = .ok (.aload_n 0, 1) := by decide +kernel
theorem d_W_law_240 : decode m_W_law.2.1 240 = .ok (.iload_n 3, 1) := by decide +kernel
theorem d_W_law_241 : decode m_W_law.2.1 241 = .ok (.iconst 1, 1) := by decide +kernel
theorem d_W_law_242 : decode m_W_law.2.1 242 = .ok (.iadd, 1) := by decide +kernel
theorem d_W_law_243 : decode m_W_law.2.1 243 = .ok (.iaload, 1) := by decide +kernel
theorem d_W_law_244 : decode m_W_law.2.1 244 = .ok (.ifCond .eq 7, 3) := by decide +kernel
theorem d_W_law_247 : decode m_W_law.2.1 247 = .ok (.iconst 1, 1) := by decide +kernel
theorem d_W_law_248 : decode m_W_law.2.1 248 = .ok (.goto 4, 3) := by decide +kernel
theorem d_W_law_251 : decode m_W_law.2.1 251 = .ok (.iconst 0, 1) := by decide +kernel
theorem d_W_law_252 : decode m_W_law.2.1 252 = .ok (.invokevirtual 41, 3) := by decide +kernel
theorem d_W_law_255 : decode m_W_law.2.1 255 = .ok (.aload_n 2, 1) := by decide +kernel
theorem d_W_law_256 : decode m_W_law.2.1 256 = .ok (.aload_n 0, 1) := by decide +kernel
theorem d_W_law_257 : decode m_W_law.2.1 257 = .ok (.iload_n 3, 1) := by decide +kernel
theorem d_W_law_258 : decode m_W_law.2.1 258 = .ok (.iconst 1, 1) := by decide +kernel
theorem d_W_law_259 : decode m_W_law.2.1 259 = .ok (.iadd, 1) := by decide +kernel
theorem d_W_law_260 : decode m_W_law.2.1 260 = .ok (.iaload, 1) := by decide +kernel
theorem d_W_law_261 : decode m_W_law.2.1 261 = .ok (.ifCond .eq 7, 3) := by decide +kernel
theorem d_W_law_264 : decode m_W_law.2.1 264 = .ok (.iconst 1, 1) := by decide +kernel
theorem d_W_law_265 : decode m_W_law.2.1 265 = .ok (.goto 4, 3) := by decide +kernel
theorem d_W_law_268 : decode m_W_law.2.1 268 = .ok (.iconst 0, 1) := by decide +kernel
theorem d_W_law_269 : decode m_W_law.2.1 269 = .ok (.invokevirtual 45, 3) := by decide +kernel
theorem d_W_law_272 : decode m_W_law.2.1 272 = .ok (.if_icmp .eq 140, 3) := by decide +kernel
theorem d_W_law_275 : decode m_W_law.2.1 275 = .ok (.iconst 0, 1) := by decide +kernel
theorem d_W_law_276 : decode m_W_law.2.1 276 = .ok (.ireturn, 1) := by decide +kernel
theorem d_W_law_277 : decode m_W_law.2.1 277 = .ok (.aload_n 1, 1) := by decide +kernel
theorem d_W_law_278 : decode m_W_law.2.1 278 = .ok (.aload_n 0, 1) := by decide +kernel
theorem d_W_law_279 : decode m_W_law.2.1 279 = .ok (.iload_n 3, 1) := by decide +kernel
theorem d_W_law_280 : decode m_W_law.2.1 280 = .ok (.iconst 1, 1) := by decide +kernel
theorem d_W_law_281 : decode m_W_law.2.1 281 = .ok (.iadd, 1) := by decide +kernel
theorem d_W_law_282 : decode m_W_law.2.1 282 = .ok (.iaload, 1) := by decide +kernel
theorem d_W_law_283 : decode m_W_law.2.1 283 = .ok (.aload_n 0, 1) := by decide +kernel
theorem d_W_law_284 : decode m_W_law.2.1 284 = .ok (.iload_n 3, 1) := by decide +kernel
theorem d_W_law_285 : decode m_W_law.2.1 285 = .ok (.iconst 2, 1) := by decide +kernel
theorem d_W_law_286 : decode m_W_law.2.1 286 = .ok (.iadd, 1) := by decide +kernel
theorem d_W_law_287 : decode m_W_law.2.1 287 = .ok (.iaload, 1) := by decide +kernel
theorem d_W_law_288 : decode m_W_law.2.1 288 = .ok (.invokevirtual 46, 3) := by decide +kernel
theorem d_W_law_291 : decode m_W_law.2.1 291 = .ok (.aload_n 2, 1) := by decide +kernel
theorem d_W_law_292 : decode m_W_law.2.1 292 = .ok (.aload_n 0, 1) := by decide +kernel
theorem d_W_law_293 : decode m_W_law.2.1 293 = .ok (.iload_n 3, 1) := by decide +kernel
theorem d_W_law_294 : decode m_W_law.2.1 294 = .ok (.iconst 1, 1) := by decide +kernel
theorem d_W_law_295 : decode m_W_law.2.1 295 = .ok (.iadd, 1) := by decide +kernel
theorem d_W_law_296 : decode m_W_law.2.1 296 = .ok (.iaload, 1) := by decide +kernel
theorem d_W_law_297 : decode m_W_law.2.1 297 = .ok (.aload_n 0, 1) := by decide +kernel
theorem d_W_law_298 : decode m_W_law.2.1 298 = .ok (.iload_n 3, 1) := by decide +kernel
theorem d_W_law_299 : decode m_W_law.2.1 299 = .ok (.iconst 2, 1) := by decide +kernel
theorem d_W_law_300 : decode m_W_law.2.1 300 = .ok (.iadd, 1) := by decide +kernel
theorem d_W_law_301 : decode m_W_law.2.1 301 = .ok (.iaload, 1) := by decide +kernel
theorem d_W_law_302 : decode m_W_law.2.1 302 = .ok (.invokevirtual 49, 3) := by decide +kernel
theorem d_W_law_305 : decode m_W_law.2.1 305 = .ok (.if_icmp .eq 107, 3) := by decide +kernel
theorem d_W_law_308 : decode m_W_law.2.1 308 = .ok (.iconst 0, 1) := by decide +kernel
theorem d_W_law_309 : decode m_W_law.2.1 309 = .ok (.ireturn, 1) := by decide +kernel
theorem d_W_law_310 : decode m_W_law.2.1 310 = .ok (.aload_n 1, 1) := by decide +kernel
theorem d_W_law_311 : decode m_W_law.2.1 311 = .ok (.aload_n 0, 1) := by decide +kernel
theorem d_W_law_312 : decode m_W_law.2.1 312 = .ok (.iload_n 3, 1) := by decide +kernel
theorem d_W_law_313 : decode m_W_law.2.1 313 = .ok (.iconst 1, 1) := by decide +kernel
theorem d_W_law_314 : decode m_W_law.2.1 314 = .ok (.iadd, 1) := by decide +kernel
theorem d_W_law_315 : decode m_W_law.2.1 315 = .ok (.iaload, 1) := by decide +kernel
theorem d_W_law_316 : decode m_W_law.2.1 316 = .ok (.invokevirtual 50, 3) := by decide +kernel
theorem d_W_law_319 : decode m_W_law.2.1 319 = .ok (.aload_n 2, 1) := by decide +kernel
theorem d_W_law_320 : decode m_W_law.2.1 320 = .ok (.aload_n 0, 1) := by decide +kernel
theorem d_W_law_321 : decode m_W_law.2.1 321 = .ok (.iload_n 3, 1) := by decide +kernel
theorem d_W_law_322 : decode m_W_law.2.1 322 = .ok (.iconst 1, 1) := by decide +kernel
theorem d_W_law_323 : decode m_W_law.2.1 323 = .ok (.iadd, 1) := by decide +kernel
theorem d_W_law_324 : decode m_W_law.2.1 324 = .ok (.iaload, 1) := by decide +kernel
theorem d_W_law_325 : decode m_W_law.2.1 325 = .ok (.invokevirtual 53, 3) := by decide +kernel
theorem d_W_law_328 : decode m_W_law.2.1 328 = .ok (.if_icmp .eq 84, 3) := by decide +kernel
theorem d_W_law_331 : decode m_W_law.2.1 331 = .ok (.iconst 0, 1) := by decide +kernel
theorem d_W_law_332 : decode m_W_law.2.1 332 = .ok (.ireturn, 1) := by decide +kernel
theorem d_W_law_333 : decode m_W_law.2.1 333 = .ok (.aload_n 1, 1) := by decide +kernel
theorem d_W_law_334 : decode m_W_law.2.1 334 = .ok (.invokevirtual 54, 3) := by decide +kernel
theorem d_W_law_337 : decode m_W_law.2.1 337 = .ok (.aload_n 2, 1) := by decide +kernel
theorem d_W_law_338 : decode m_W_law.2.1 338 = .ok (.invokevirtual 58, 3) := by decide +kernel
theorem d_W_law_341 : decode m_W_law.2.1 341 = .ok (.if_icmp .eq 71, 3) := by decide +kernel
theorem d_W_law_344 : decode m_W_law.2.1 344 = .ok (.iconst 0, 1) := by decide +kernel
theorem d_W_law_345 : decode m_W_law.2.1 345 = .ok (.ireturn, 1) := by decide +kernel
theorem d_W_law_346 : decode m_W_law.2.1 346 = .ok (.aload_n 1, 1) := by decide +kernel
theorem d_W_law_347 : decode m_W_law.2.1 347 = .ok (.aload_n 0, 1) := by decide +kernel
theorem d_W_law_348 : decode m_W_law.2.1 348 = .ok (.iload_n 3, 1) := by decide +kernel
theorem d_W_law_349 : decode m_W_law.2.1 349 = .ok (.iconst 1, 1) := by decide +kernel
theorem d_W_law_350 : decode m_W_law.2.1 350 = .ok (.iadd, 1) := by decide +kernel
theorem d_W_law_351 : decode m_W_law.2.1 351 = .ok (.iaload, 1) := by decide +kernel
theorem d_W_law_352 : decode m_W_law.2.1 352 = .ok (.aload_n 0, 1) := by decide +kernel
theorem d_W_law_353 : decode m_W_law.2.1 353 = .ok (.iload_n 3, 1) := by decide +kernel
theorem d_W_law_354 : decode m_W_law.2.1 354 = .ok (.iconst 2, 1) := by decide +kernel
theorem d_W_law_355 : decode m_W_law.2.1 355 = .ok (.iadd, 1) := by decide +kernel
theorem d_W_law_356 : decode m_W_law.2.1 356 = .ok (.iaload, 1) := by decide +kernel
theorem d_W_law_357 : decode m_W_law.2.1 357 = .ok (.invokevirtual 59, 3) := by decide +kernel
theorem d_W_law_360 : decode m_W_law.2.1 360 = .ok (.aload_n 2, 1) := by decide +kernel
theorem d_W_law_361 : decode m_W_law.2.1 361 = .ok (.aload_n 0, 1) := by decide +kernel
theorem d_W_law_362 : decode m_W_law.2.1 362 = .ok (.iload_n 3, 1) := by decide +kernel
theorem d_W_law_363 : decode m_W_law.2.1 363 = .ok (.iconst 1, 1) := by decide +kernel
theorem d_W_law_364 : decode m_W_law.2.1 364 = .ok (.iadd, 1) := by decide +kernel
theorem d_W_law_365 : decode m_W_law.2.1 365 = .ok (.iaload, 1) := by decide +kernel
theorem d_W_law_366 : decode m_W_law.2.1 366 = .ok (.aload_n 0, 1) := by decide +kernel
theorem d_W_law_367 : decode m_W_law.2.1 367 = .ok (.iload_n 3, 1) := by decide +kernel
theorem d_W_law_368 : decode m_W_law.2.1 368 = .ok (.iconst 2, 1) := by decide +kernel
theorem d_W_law_369 : decode m_W_law.2.1 369 = .ok (.iadd, 1) := by decide +kernel
theorem d_W_law_370 : decode m_W_law.2.1 370 = .ok (.iaload, 1) := by decide +kernel
theorem d_W_law_371 : decode m_W_law.2.1 371 = .ok (.invokevirtual 62, 3) := by decide +kernel
theorem d_W_law_374 : decode m_W_law.2.1 374 = .ok (.if_icmp .eq 38, 3) := by decide +kernel
theorem d_W_law_377 : decode m_W_law.2.1 377 = .ok (.iconst 0, 1) := by decide +kernel
theorem d_W_law_378 : decode m_W_law.2.1 378 = .ok (.ireturn, 1) := by decide +kernel
theorem d_W_law_379 : decode m_W_law.2.1 379 = .ok (.aload_n 1, 1) := by decide +kernel
theorem d_W_law_380 : decode m_W_law.2.1 380 = .ok (.aload_n 0, 1) := by decide +kernel
theorem d_W_law_381 : decode m_W_law.2.1 381 = .ok (.iload_n 3, 1) := by decide +kernel
theorem d_W_law_382 : decode m_W_law.2.1 382 = .ok (.iconst 1, 1) := by decide +kernel
theorem d_W_law_383 : decode m_W_law.2.1 383 = .ok (.iadd, 1) := by decide +kernel
theorem d_W_law_384 : decode m_W_law.2.1 384 = .ok (.iaload, 1) := by decide +kernel
theorem d_W_law_385 : decode m_W_law.2.1 385 = .ok (.aload_n 0, 1) := by decide +kernel
theorem d_W_law_386 : decode m_W_law.2.1 386 = .ok (.iload_n 3, 1) := by decide +kernel
theorem d_W_law_387 : decode m_W_law.2.1 387 = .ok (.iconst 2, 1) := by decide +kernel
theorem d_W_law_388 : decode m_W_law.2.1 388 = .ok (.iadd, 1) := by decide +kernel
theorem d_W_law_389 : decode m_W_law.2.1 389 = .ok (.iaload, 1) := by decide +kernel
theorem d_W_law_390 : decode m_W_law.2.1 390 = .ok (.invokevirtual 63, 3) := by decide +kernel
theorem d_W_law_393 : decode m_W_law.2.1 393 = .ok (.aload_n 2, 1) := by decide +kernel
theorem d_W_law_394 : decode m_W_law.2.1 394 = .ok (.aload_n 0, 1) := by decide +kernel
theorem d_W_law_395 : decode m_W_law.2.1 395 = .ok (.iload_n 3, 1) := by decide +kernel
theorem d_W_law_396 : decode m_W_law.2.1 396 = .ok (.iconst 1, 1) := by decide +kernel
theorem d_W_law_397 : decode m_W_law.2.1 397 = .ok (.iadd, 1) := by decide +kernel
theorem d_W_law_398 : decode m_W_law.2.1 398 = .ok (.iaload, 1) := by decide +kernel
theorem d_W_law_399 : decode m_W_law.2.1 399 = .ok (.aload_n 0, 1) := by decide +kernel
theorem d_W_law_400 : decode m_W_law.2.1 400 = .ok (.iload_n 3, 1) := by decide +kernel
theorem d_W_law_401 : decode m_W_law.2.1 401 = .ok (.iconst 2, 1) := by decide +kernel
theorem d_W_law_402 : decode m_W_law.2.1 402 = .ok (.iadd, 1) := by decide +kernel
theorem d_W_law_403 : decode m_W_law.2.1 403 = .ok (.iaload, 1) := by decide +kernel
theorem d_W_law_404 : decode m_W_law.2.1 404 = .ok (.invokevirtual 66, 3) := by decide +kernel
theorem d_W_law_407 : decode m_W_law.2.1 407 = .ok (.if_icmp .eq 5, 3) := by decide +kernel
theorem d_W_law_410 : decode m_W_law.2.1 410 = .ok (.iconst 0, 1) := by decide +kernel
theorem d_W_law_411 : decode m_W_law.2.1 411 = .ok (.ireturn, 1) := by decide +kernel
theorem d_W_law_412 : decode m_W_law.2.1 412 = .ok (.iinc 3 5, 3) := by decide +kernel
theorem d_W_law_415 : decode m_W_law.2.1 415 = .ok (.goto (-387), 3) := by decide +kernel
theorem d_W_law_418 : decode m_W_law.2.1 418 = .ok (.iconst 1, 1) := by decide +kernel
theorem d_W_law_419 : decode m_W_law.2.1 419 = .ok (.ireturn, 1) := by decide +kernel
theorem d_J_floorMod_0 : decode m_J_floorMod.2.1 0 = .ok (.iload_n 0, 1) := by decide +kernel
theorem d_J_floorMod_1 : decode m_J_floorMod.2.1 1 = .ok (.iload_n 1, 1) := by decide +kernel
theorem d_J_floorMod_2 : decode m_J_floorMod.2.1 2 = .ok (.irem, 1) := by decide +kernel
theorem d_J_floorMod_3 : decode m_J_floorMod.2.1 3 = .ok (.istore_n 2, 1) := by decide +kernel
theorem d_J_floorMod_4 : decode m_J_floorMod.2.1 4 = .ok (.iload_n 0, 1) := by decide +kernel
theorem d_J_floorMod_5 : decode m_J_floorMod.2.1 5 = .ok (.iload_n 1, 1) := by decide +kernel
theorem d_J_floorMod_6 : decode m_J_floorMod.2.1 6 = .ok (.ixor, 1) := by decide +kernel
theorem d_J_floorMod_7 : decode m_J_floorMod.2.1 7 = .ok (.ifCond .ge 11, 3) := by decide +kernel
theorem d_J_floorMod_10 : decode m_J_floorMod.2.1 10 = .ok (.iload_n 2, 1) := by decide +kernel
theorem d_J_floorMod_11 : decode m_J_floorMod.2.1 11 = .ok (.ifCond .eq 7, 3) := by decide +kernel
theorem d_J_floorMod_14 : decode m_J_floorMod.2.1 14 = .ok (.iload_n 2, 1) := by decide +kernel
theorem d_J_floorMod_15 : decode m_J_floorMod.2.1 15 = .ok (.iload_n 1, 1) := by decide +kernel
theorem d_J_floorMod_16 : decode m_J_floorMod.2.1 16 = .ok (.iadd, 1) := by decide +kernel
theorem d_J_floorMod_17 : decode m_J_floorMod.2.1 17 = .ok (.ireturn, 1) := by decide +kernel
theorem d_J_floorMod_18 : decode m_J_floorMod.2.1 18 = .ok (.iload_n 2, 1) := by decide +kernel
theorem d_J_floorMod_19 : decode m_J_floorMod.2.1 19 = .ok (.ireturn, 1) := by decide +kernel
end
section
/-! Line: the queue's cells (printed by wip/gen/mod_line.py). -/
/-- an exact end: this answer, this heap -/
abbrev Ex (V : Option Value) (H' : th_H) : Option Value → th_H → Prop := fun v h' => v = V ∧ H' = h'
/-- all elements of an array at once -/
def gsA (h : th_H) (t a : Nat) (f : Nat → Value) : th_H := (gk h, gF h, fun t' a' i => if t' = t ∧ a' = a then f i else gA h t' a' i, gz h)
theorem gk_sA (h : th_H) (t a : Nat) (f : Nat → Value) : gk (gsA h t a f) = gk h := id rfl
theorem gF_sA (h : th_H) (t a : Nat) (f : Nat → Value) : gF (gsA h t a f) = gF h := id rfl
theorem gz_sA (h : th_H) (t a : Nat) (f : Nat → Value) : gz (gsA h t a f) = gz h := id rfl
theorem gA_sA (h : th_H) (t a : Nat) (f : Nat → Value) (t' a' i : Nat) : gA (gsA h t a f) t' a' i = if t' = t ∧ a' = a then f i else gA h t' a' i := id rfl
theorem gpA_sA (h : th_H) (t a : Nat) (f : Nat → Value) (i : Nat) (v : Value) : gpA (gsA h t a f) t a i v = gsA h t a (fun j => if j = i then v else f j) := by
  unfold gpA gsA
  refine Prod.ext rfl (Prod.ext rfl (Prod.ext ?_ rfl))
  funext t' a' j
  show up3 _ _ _ _ _ _ _ _ = _
  simp only [up3, gA]
  by_cases h1 : t' = t <;> by_cases h2 : a' = a <;> by_cases h3 : j = i <;> simp [h1, h2, h3]
theorem gsA_self (h : th_H) (t a : Nat) : gsA h t a (gA h t a) = h := by
  unfold gsA
  refine Prod.ext rfl (Prod.ext rfl (Prod.ext ?_ rfl))
  funext t' a' j
  show (if t' = t ∧ a' = a then _ else _) = _
  by_cases h1 : t' = t <;> by_cases h2 : a' = a <;> simp [h1, h2, gA]
theorem nI_neg1 {k : Int32} (h : ¬ k < 0) : ∃ j : Nat, j < 2 ^ 31 ∧ k = nI j := nI_of h
theorem nI_cl {n : Nat} (h : n < 2 ^ 31) : (nI n).toNatClampNeg = n := nI_clamp h
theorem c_L_empty {E : th_E} {h : th_H} {ln na n : Nat} {q : Nat → Int32} (k1 : gk h ln = some (.inl 3)) (k2 : gk h na = some (.inr (1, 12))) (f0 : gF h 3 0 ln = .ref na) (f1 : gF h 3 1 ln = .int (nI n)) : Xc E m_L_empty 0 0 0 [.ref ln] h (Ex none (gpF h 3 1 ln (.int 0))) := by
  refine Xc.of (by decide) (by simp [Value.category]) (Nat.le_of_ble_eq_true rfl) ?_
  show Xw E m_L_empty 0 0 0 0 [some (.ref ln)] [] h _
  refine x_aload_n d_L_empty_0 rfl rfl ?_
  refine x_iconst (v := 0) d_L_empty_1 (by decide) ?_
  refine x_putf d_L_empty_2 lp_L_15 k1 ⟨_, rfl⟩ ?_
  exact x_ret ⟨rfl, rfl⟩ rfl d_L_empty_5
theorem c_L_at {E : th_E} {h : th_H} {ln na n : Nat} {q : Nat → Int32} (k1 : gk h ln = some (.inl 3)) (k2 : gk h na = some (.inr (1, 12))) (f0 : gF h 3 0 ln = .ref na) (f1 : gF h 3 1 ln = .int (nI n)) (hn : n ≤ 12) (fq : ∀ i, i < n → gA h 1 na i = .int (q i)) (k r : Int32) (hr : (k < 0 ∨ nI n ≤ k → r = -1) ∧ ∀ j, j < n → k = nI j → r = q j) : Xc E m_L_at 0 0 0 [.ref ln, .int k] h (Ex (some (.int r)) h) := by
  refine Xc.of (by decide) (by simp [Value.category]) (Nat.le_of_ble_eq_true rfl) ?_
  show Xw E m_L_at 0 0 0 0 [some (.ref ln), some (.int k)] [] h _
  refine x_iload_n d_L_at_0 rfl rfl ?_
  refine x_if_lt (tgt := 21) d_L_at_1 rfl (fun q1 => ?_) (fun q1 => ?_)
  · obtain rfl : r = -1 := hr.1 (Or.inl q1)
    refine x_iconst (v := -1) d_L_at_21 (by decide) ?_
    exact x_iret d_L_at_22 rfl rfl ⟨rfl, rfl⟩
  · refine x_iload_n d_L_at_4 rfl rfl ?_
    refine x_aload_n d_L_at_5 rfl rfl ?_
    refine x_getf (v := .int (nI n)) d_L_at_6 lf_L_15 k1 f1 ?_
    refine x_icmp_ge (tgt := 21) d_L_at_9 rfl (fun q9 => ?_) (fun q9 => ?_)
    · obtain rfl : r = -1 := hr.1 (Or.inr q9)
      refine x_iconst (v := -1) d_L_at_21 (by decide) ?_
      exact x_iret d_L_at_22 rfl rfl ⟨rfl, rfl⟩
    · obtain ⟨j, hj, rfl⟩ := nI_of q1
      have hjn : j < n := Nat.lt_of_not_le (fun z => q9 (nI_le z hj))
      obtain rfl : r = q j := hr.2 j hjn rfl
      refine x_aload_n d_L_at_12 rfl rfl ?_
      refine x_getf (v := .ref na) d_L_at_13 lf_L_9 k1 f0 ?_
      refine x_iload_n d_L_at_16 rfl rfl ?_
      refine x_iald (v := .int (q j)) d_L_at_17 k2 rfl (vp_in_nI (by omega) (by decide)) (by rw [nI_cl hj]; exact fq j hjn) ?_
      refine x_goto (tgt := 22) d_L_at_18 rfl ?_
      exact x_iret d_L_at_22 rfl rfl ⟨rfl, rfl⟩
theorem c_L_append {E : th_E} {h : th_H} {ln na n : Nat} {q : Nat → Int32} (k1 : gk h ln = some (.inl 3)) (k2 : gk h na = some (.inr (1, 12))) (f0 : gF h 3 0 ln = .ref na) (f1 : gF h 3 1 ln = .int (nI n)) (hn : n < 12) (p : Int32) : Xc E m_L_append 0 0 0 [.ref ln, .int p] h (Ex none (gpF (gpA h 1 na n (.int p)) 3 1 ln (.int (nI (n + 1))))) := by
  refine Xc.of (by decide) (by simp [Value.category]) (Nat.le_of_ble_eq_true rfl) ?_
  show Xw E m_L_append 0 0 0 0 [some (.ref ln), some (.int p)] [] h _
  refine x_aload_n d_L_append_0 rfl rfl ?_
  refine x_getf (v := .int (nI n)) d_L_append_1 lf_L_15 k1 f1 ?_
  refine x_bipush (v := 12) d_L_append_4 (by decide) ?_
  refine x_icmp_ge (tgt := 29) d_L_append_6 rfl (fun q => absurd q (nI_ge (b := 12) hn (by decide))) (fun q6 => ?_)
  refine x_aload_n d_L_append_9 rfl rfl ?_
  refine x_getf (v := .ref na) d_L_append_10 lf_L_9 k1 f0 ?_
  refine x_aload_n d_L_append_13 rfl rfl ?_
  refine x_getf (v := .int (nI n)) d_L_append_14 lf_L_15 k1 f1 ?_
  refine x_iload_n d_L_append_17 rfl rfl ?_
  refine x_iast d_L_append_18 k2 rfl (vp_in_nI hn (by decide)) ?_
  rw [nI_cl (by omega)]
  refine x_aload_n d_L_append_19 rfl rfl ?_
  refine x_dup d_L_append_20 rfl ?_
  refine x_getf (v := .int (nI n)) d_L_append_21 lf_L_15 k1 (by simp [gF_pF, gF_pA, gF_nO, gF_nA, f1]) ?_
  refine x_iconst (v := 1) d_L_append_24 (by decide) ?_
  refine x_iadd (v := (nI (n + 1))) d_L_append_25 (nI_1 _) ?_
  refine x_putf d_L_append_26 lp_L_15 k1 ⟨_, rfl⟩ ?_
  exact x_ret ⟨rfl, rfl⟩ rfl d_L_append_29
end
section
/-! Line.leave and the mailbox (printed by wip/gen/mod_leave.py). -/
theorem take_one {α : Type} {l : List α} {k : Nat} {x : α} (h : l[k]? = some x) : l.take (k + 1) = l.take k ++ [x] := by
  rw [List.take_add_one, h]; rfl
theorem get_some {α : Type} {l : List α} {k : Nat} (h : k < l.length) : ∃ x, l[k]? = some x := ⟨l[k], List.getElem?_eq_getElem h⟩
theorem nI_inj {a b : Nat} (ha : a < 2 ^ 31) (hb : b < 2 ^ 31) (h : nI a = nI b) : a = b := (nI_eq ha hb).mp h

theorem c_L_leave_loop {E : th_E} {h : th_H} {ln na p : Nat} {qs : List Nat} (k1 : gk h ln = some (.inl 3)) (k2 : gk h na = some (.inr (1, 12))) (f0 : gF h 3 0 ln = .ref na) (f1 : gF h 3 1 ln = .int (nI qs.length)) (hn : qs.length ≤ 12) (hq : ∀ x ∈ qs, x < 12) (hp : p < 12) : ∀ (m k : Nat) (f : Nat → Value), k + m = qs.length → ∀ kp : Nat, kp = ((qs.take k).filter (fun x => x ≠ p)).length → (∀ i x, ((qs.take k).filter (fun x => x ≠ p))[i]? = some x → f i = .int (nI x)) → (∀ j x, k ≤ j → qs[j]? = some x → f j = .int (nI x)) → Xw E m_L_leave 0 0 0 4 [some (.ref ln), some (.int (nI p)), some (.int (nI kp)), some (.int (nI k))] [] (gsA h 1 na f) (fun v h' => v = none ∧ ∃ f' : Nat → Value, h' = gpF (gsA h 1 na f') 3 1 ln (.int (nI (qs.filter (fun x => x ≠ p)).length)) ∧ ∀ i x, (qs.filter (fun x => x ≠ p))[i]? = some x → f' i = .int (nI x)) := by
  intro m
  induction m with
  | zero =>
    intro k f hk kp hkp i1 i2
    refine x_iload_n d_L_leave_4 rfl rfl ?_
    refine x_aload_n d_L_leave_5 rfl rfl ?_
    refine x_getf (v := .int (nI qs.length)) d_L_leave_6 lf_L_15 k1 f1 ?_
    refine x_icmp_ge (tgt := 43) d_L_leave_9 rfl (fun q9 => ?_) (fun q => absurd (nI_le (by omega) (by omega)) q)
    refine x_aload_n d_L_leave_43 rfl rfl ?_
    refine x_iload_n d_L_leave_44 rfl rfl ?_
    refine x_putf d_L_leave_45 lp_L_15 k1 ⟨_, rfl⟩ ?_
    exact x_ret ⟨rfl, f, by rw [hkp, show qs.take k = qs from List.take_of_length_le (by omega)], by rw [show qs.take k = qs from List.take_of_length_le (by omega)] at i1; exact i1⟩ rfl d_L_leave_48
  | succ m ih =>
    intro k f hk kp hkp i1 i2
    have hkl : kp ≤ k := by rw [hkp]; exact Nat.le_trans (List.length_filter_le _ _) (by rw [List.length_take]; omega)
    obtain ⟨x, hx⟩ := get_some (l := qs) (k := k) (by omega)
    have hx12 := hq x (List.mem_of_getElem? hx)
    refine x_iload_n d_L_leave_4 rfl rfl ?_
    refine x_aload_n d_L_leave_5 rfl rfl ?_
    refine x_getf (v := .int (nI qs.length)) d_L_leave_6 lf_L_15 k1 f1 ?_
    refine x_icmp_ge (tgt := 43) d_L_leave_9 rfl (fun q => absurd q (nI_ge (by omega) (by omega))) (fun q9 => ?_)
    refine x_aload_n d_L_leave_12 rfl rfl ?_
    refine x_getf (v := .ref na) d_L_leave_13 lf_L_9 k1 f0 ?_
    refine x_iload_n d_L_leave_16 rfl rfl ?_
    refine x_iald (v := .int (nI x)) d_L_leave_17 k2 rfl (vp_in_nI (by omega) (by decide)) (by rw [nI_cl (by omega), gA_sA, if_pos ⟨rfl, rfl⟩]; exact i2 k x (Nat.le_refl _) hx) ?_
    refine x_iload_n d_L_leave_18 rfl rfl ?_
    refine x_icmp_eq (tgt := 37) d_L_leave_19 rfl (fun q19 => ?_) (fun q19 => ?_)
    · have hxp : x = p := nI_inj (by omega) (by omega) q19
      refine x_iinc d_L_leave_37 rfl (v := (nI (k + 1))) (nI_1 _) (by decide) (L' := [some (.ref ln), some (.int (nI p)), some (.int (nI kp)), some (.int (nI (k + 1)))]) rfl ?_
      refine x_goto (tgt := 4) d_L_leave_40 rfl ?_
      exact ih (k + 1) f (by omega) kp (by rw [take_one hx, List.filter_append]; simpa [hxp] using hkp) (by rw [take_one hx, List.filter_append]; simpa [hxp] using i1) (fun j y hj hy => i2 j y (by omega) hy)
    · have hxp : x ≠ p := fun z => q19 (by rw [z])
      refine x_aload_n d_L_leave_22 rfl rfl ?_
      refine x_getf (v := .ref na) d_L_leave_23 lf_L_9 k1 f0 ?_
      refine x_iload_n d_L_leave_26 rfl rfl ?_
      refine x_aload_n d_L_leave_27 rfl rfl ?_
      refine x_getf (v := .ref na) d_L_leave_28 lf_L_9 k1 f0 ?_
      refine x_iload_n d_L_leave_31 rfl rfl ?_
      refine x_iald (v := .int (nI x)) d_L_leave_32 k2 rfl (vp_in_nI (by omega) (by decide)) (by rw [nI_cl (by omega), gA_sA, if_pos ⟨rfl, rfl⟩]; exact i2 k x (Nat.le_refl _) hx) ?_
      refine x_iast d_L_leave_33 k2 rfl (vp_in_nI (by omega) (by decide)) ?_
      rw [nI_cl (by omega), gpA_sA]
      refine x_iinc d_L_leave_34 rfl (v := (nI (kp + 1))) (nI_1 _) (by decide) (L' := [some (.ref ln), some (.int (nI p)), some (.int (nI (kp + 1))), some (.int (nI k))]) rfl ?_
      refine x_iinc d_L_leave_37 rfl (v := (nI (k + 1))) (nI_1 _) (by decide) (L' := [some (.ref ln), some (.int (nI p)), some (.int (nI (kp + 1))), some (.int (nI (k + 1)))]) rfl ?_
      refine x_goto (tgt := 4) d_L_leave_40 rfl ?_
      exact ih (k + 1) _ (by omega) (kp + 1) (by rw [take_one hx, List.filter_append, List.filter_cons_of_pos (by simpa using hxp)]; simp [hkp]) (fun i y hi => by
        rw [take_one hx, List.filter_append, List.filter_cons_of_pos (by simpa using hxp), List.filter_nil] at hi
        by_cases hik : i = kp
        · rw [if_pos hik]
          rw [hik, hkp, List.getElem?_append_right (Nat.le_refl _), Nat.sub_self] at hi
          cases hi
          rfl
        · rw [if_neg hik]
          have hlt := (List.getElem?_eq_some_iff.mp hi).1
          simp only [List.length_append, List.length_cons, List.length_nil] at hlt
          rw [List.getElem?_append_left (by omega)] at hi
          exact i1 i y hi) (fun j y hj hy => by rw [if_neg (by omega)]; exact i2 j y (by omega) hy)
theorem c_L_leave {E : th_E} {h : th_H} {ln na p : Nat} {qs : List Nat} (k1 : gk h ln = some (.inl 3)) (k2 : gk h na = some (.inr (1, 12))) (f0 : gF h 3 0 ln = .ref na) (f1 : gF h 3 1 ln = .int (nI qs.length)) (hn : qs.length ≤ 12) (hq : ∀ x ∈ qs, x < 12) (hp : p < 12) (fq : ∀ i x, qs[i]? = some x → gA h 1 na i = .int (nI x)) : Xc E m_L_leave 0 0 0 [.ref ln, .int (nI p)] h (fun v h' => v = none ∧ ∃ f' : Nat → Value, h' = gpF (gsA h 1 na f') 3 1 ln (.int (nI (qs.filter (fun x => x ≠ p)).length)) ∧ ∀ i x, (qs.filter (fun x => x ≠ p))[i]? = some x → f' i = .int (nI x)) := by
  refine Xc.of (by decide) (by simp [Value.category]) (Nat.le_of_ble_eq_true rfl) ?_
  show Xw E m_L_leave 0 0 0 0 [some (.ref ln), some (.int (nI p)), none, none] [] h _
  refine x_iconst (v := 0) d_L_leave_0 (by decide) ?_
  refine x_istore_n d_L_leave_1 rfl (by decide) (L' := [some (.ref ln), some (.int (nI p)), some (.int 0), none]) rfl ?_
  refine x_iconst (v := 0) d_L_leave_2 (by decide) ?_
  refine x_istore_n d_L_leave_3 rfl (by decide) (L' := [some (.ref ln), some (.int (nI p)), some (.int 0), some (.int 0)]) rfl ?_
  have hh := c_L_leave_loop (E := E) k1 k2 f0 f1 hn hq hp qs.length 0 (gA h 1 na) (by omega) 0 rfl (by simp) (fun j x _ hx => fq j x hx)
  rw [gsA_self] at hh
  exact hh
theorem c_B_empty {E : th_E} {h : th_H} {mb : Nat} (k1 : gk h mb = some (.inl 1)) : Xc E m_B_empty 0 0 0 [.ref mb] h (Ex none (gpF (gpF h 1 1 mb (.int 0)) 1 2 mb (.int 0))) := by
  refine Xc.of (by decide) (by simp [Value.category]) (Nat.le_of_ble_eq_true rfl) ?_
  show Xw E m_B_empty 0 0 0 0 [some (.ref mb)] [] h _
  refine x_aload_n d_B_empty_0 rfl rfl ?_
  refine x_iconst (v := 0) d_B_empty_1 (by decide) ?_
  refine x_putf d_B_empty_2 lp_B_17 k1 ⟨_, rfl⟩ ?_
  refine x_aload_n d_B_empty_5 rfl rfl ?_
  refine x_iconst (v := 0) d_B_empty_6 (by decide) ?_
  refine x_putf d_B_empty_7 lp_B_21 k1 ⟨_, rfl⟩ ?_
  exact x_ret ⟨rfl, rfl⟩ rfl d_B_empty_10
theorem c_B_at {E : th_E} {h : th_H} {mb ma mk : Nat} {ms : List Nat} (k1 : gk h mb = some (.inl 1)) (k2 : gk h ma = some (.inr (2, 12))) (f0 : gF h 1 0 mb = .ref ma) (f1 : gF h 1 1 mb = .int (nI ms.length)) (f2 : gF h 1 2 mb = .int (nI mk)) (hn : ms.length ≤ 12) (fm : ∀ i x, ms[i]? = some x → gA h 2 ma i = .ref x) (k : Int32) (r : Value) (hr : (k < 0 ∨ nI ms.length ≤ k → r = .null) ∧ ∀ j x, ms[j]? = some x → k = nI j → r = .ref x) : Xc E m_B_at 0 0 0 [.ref mb, .int k] h (Ex (some r) h) := by
  refine Xc.of (by decide) (by simp [Value.category]) (Nat.le_of_ble_eq_true rfl) ?_
  show Xw E m_B_at 0 0 0 0 [some (.ref mb), some (.int k)] [] h _
  refine x_iload_n d_B_at_0 rfl rfl ?_
  refine x_if_lt (tgt := 21) d_B_at_1 rfl (fun q1 => ?_) (fun q1 => ?_)
  · obtain rfl : r = .null := hr.1 (Or.inl q1)
    refine x_null d_B_at_21 ?_
    exact x_aret d_B_at_22 rfl (Or.inl ⟨_, rfl⟩) (Or.inl rfl) ⟨rfl, rfl⟩
  · refine x_iload_n d_B_at_4 rfl rfl ?_
    refine x_aload_n d_B_at_5 rfl rfl ?_
    refine x_getf (v := .int (nI ms.length)) d_B_at_6 lf_B_17 k1 f1 ?_
    refine x_icmp_ge (tgt := 21) d_B_at_9 rfl (fun q9 => ?_) (fun q9 => ?_)
    · obtain rfl : r = .null := hr.1 (Or.inr q9)
      refine x_null d_B_at_21 ?_
      exact x_aret d_B_at_22 rfl (Or.inl ⟨_, rfl⟩) (Or.inl rfl) ⟨rfl, rfl⟩
    · obtain ⟨j, hj, rfl⟩ := nI_of q1
      have hjn : j < ms.length := Nat.lt_of_not_le (fun z => q9 (nI_le z hj))
      obtain ⟨x, hx⟩ := get_some hjn
      obtain rfl : r = .ref x := hr.2 j x hx rfl
      refine x_aload_n d_B_at_12 rfl rfl ?_
      refine x_getf (v := .ref ma) d_B_at_13 lf_B_11 k1 f0 ?_
      refine x_iload_n d_B_at_16 rfl rfl ?_
      refine x_aald (v := .ref x) d_B_at_17 k2 rfl (vp_in_nI (by omega) (by decide)) (by rw [nI_cl hj]; exact fm j x hx) ?_
      refine x_goto (tgt := 22) d_B_at_18 rfl ?_
      exact x_aret d_B_at_22 rfl (Or.inl ⟨_, rfl⟩) (Or.inr ⟨_, rfl⟩) ⟨rfl, rfl⟩
theorem c_B_marked {E : th_E} {h : th_H} {mb ma mk : Nat} {ms : List Nat} (k1 : gk h mb = some (.inl 1)) (k2 : gk h ma = some (.inr (2, 12))) (f0 : gF h 1 0 mb = .ref ma) (f1 : gF h 1 1 mb = .int (nI ms.length)) (f2 : gF h 1 2 mb = .int (nI mk)) (hn : ms.length ≤ 12) (fm : ∀ i x, ms[i]? = some x → gA h 2 ma i = .ref x) (r : Value) (hv : r = .null ∨ ∃ a, r = .ref a) (hr : (nI mk < 0 ∨ nI ms.length ≤ nI mk → r = .null) ∧ ∀ j x, ms[j]? = some x → nI mk = nI j → r = .ref x) : Xc E m_B_marked 1 0 0 [.ref mb] h (Ex (some r) h) := by
  refine Xc.of (by decide) (by simp [Value.category]) (Nat.le_of_ble_eq_true rfl) ?_
  show Xw E m_B_marked 1 0 0 0 [some (.ref mb)] [] h _
  refine x_aload_n d_B_marked_0 rfl rfl ?_
  refine x_aload_n d_B_marked_1 rfl rfl ?_
  refine x_getf (v := .int (nI mk)) d_B_marked_2 lf_B_21 k1 f2 ?_
  refine x_invv d_B_marked_5 lm_B_24 (as := [.int (nI mk)]) (S := []) (c_B_at k1 k2 f0 f1 f2 hn fm (nI mk) r hr) k1 rfl rfl rfl (Nat.le_of_ble_eq_true rfl) (Nat.le_refl 1) (Nat.le_refl 0) (Nat.le_refl 0) ?_
  rintro _ _ ⟨rfl, rfl⟩
  exact x_aret d_B_marked_8 rfl (Or.inl ⟨_, rfl⟩) hv ⟨rfl, rfl⟩
theorem c_B_put_full {E : th_E} {h : th_H} {mb ma mk : Nat} {ms : List Nat} (k1 : gk h mb = some (.inl 1)) (k2 : gk h ma = some (.inr (2, 12))) (f0 : gF h 1 0 mb = .ref ma) (f1 : gF h 1 1 mb = .int (nI ms.length)) (f2 : gF h 1 2 mb = .int (nI mk)) (hn : ms.length ≤ 12) (fm : ∀ i x, ms[i]? = some x → gA h 2 ma i = .ref x) (x : Nat) (hf : 12 ≤ ms.length) : Xc E m_B_put 0 0 0 [.ref mb, .ref x] h (Ex (some (.int 0)) h) := by
  refine Xc.of (by decide) (by simp [Value.category]) (Nat.le_of_ble_eq_true rfl) ?_
  show Xw E m_B_put 0 0 0 0 [some (.ref mb), some (.ref x)] [] h _
  refine x_aload_n d_B_put_0 rfl rfl ?_
  refine x_getf (v := .int (nI ms.length)) d_B_put_1 lf_B_17 k1 f1 ?_
  refine x_bipush (v := 12) d_B_put_4 (by decide) ?_
  refine x_icmp_lt (tgt := 11) d_B_put_6 rfl (fun q => absurd q (nI_nlt (b := 12) hf (by omega))) (fun q6 => ?_)
  refine x_iconst (v := 0) d_B_put_9 (by decide) ?_
  exact x_iret d_B_put_10 rfl rfl ⟨rfl, rfl⟩
theorem c_B_put {E : th_E} {h : th_H} {mb ma mk : Nat} {ms : List Nat} (k1 : gk h mb = some (.inl 1)) (k2 : gk h ma = some (.inr (2, 12))) (f0 : gF h 1 0 mb = .ref ma) (f1 : gF h 1 1 mb = .int (nI ms.length)) (f2 : gF h 1 2 mb = .int (nI mk)) (hn : ms.length ≤ 12) (fm : ∀ i x, ms[i]? = some x → gA h 2 ma i = .ref x) (x : Nat) (kx : gk h x = some (.inl 0)) (hf : ms.length < 12) : Xc E m_B_put 0 0 0 [.ref mb, .ref x] h (Ex (some (.int 1)) (gpF (gpA h 2 ma ms.length (.ref x)) 1 1 mb (.int (nI (ms.length + 1))))) := by
  refine Xc.of (by decide) (by simp [Value.category]) (Nat.le_of_ble_eq_true rfl) ?_
  show Xw E m_B_put 0 0 0 0 [some (.ref mb), some (.ref x)] [] h _
  refine x_aload_n d_B_put_0 rfl rfl ?_
  refine x_getf (v := .int (nI ms.length)) d_B_put_1 lf_B_17 k1 f1 ?_
  refine x_bipush (v := 12) d_B_put_4 (by decide) ?_
  refine x_icmp_lt (tgt := 11) d_B_put_6 rfl (fun q6 => ?_) (fun q => absurd (nI_lt (b := 12) hf (by decide)) q)
  refine x_aload_n d_B_put_11 rfl rfl ?_
  refine x_getf (v := .ref ma) d_B_put_12 lf_B_11 k1 f0 ?_
  refine x_aload_n d_B_put_15 rfl rfl ?_
  refine x_getf (v := .int (nI ms.length)) d_B_put_16 lf_B_17 k1 f1 ?_
  refine x_aload_n d_B_put_19 rfl rfl ?_
  refine x_aast d_B_put_20 k2 rfl kx rfl (vp_in_nI hf (by decide)) ?_
  rw [nI_cl (by omega)]
  refine x_aload_n d_B_put_21 rfl rfl ?_
  refine x_dup d_B_put_22 rfl ?_
  refine x_getf (v := .int (nI ms.length)) d_B_put_23 lf_B_17 k1 (by simp [gF_pF, gF_pA, gF_nO, gF_nA, f1]) ?_
  refine x_iconst (v := 1) d_B_put_26 (by decide) ?_
  refine x_iadd (v := (nI (ms.length + 1))) d_B_put_27 (nI_1 _) ?_
  refine x_putf d_B_put_28 lp_B_17 k1 ⟨_, rfl⟩ ?_
  refine x_iconst (v := 1) d_B_put_31 (by decide) ?_
  exact x_iret d_B_put_32 rfl rfl ⟨rfl, rfl⟩
theorem c_B_take_none {E : th_E} {h : th_H} {mb ma mk : Nat} {ms : List Nat} (k1 : gk h mb = some (.inl 1)) (k2 : gk h ma = some (.inr (2, 12))) (f0 : gF h 1 0 mb = .ref ma) (f1 : gF h 1 1 mb = .int (nI ms.length)) (f2 : gF h 1 2 mb = .int (nI mk)) (hn : ms.length ≤ 12) (fm : ∀ i x, ms[i]? = some x → gA h 2 ma i = .ref x) (hmk : mk < 2 ^ 31) (hf : ms.length ≤ mk) : Xc E m_B_take 2 0 0 [.ref mb] h (Ex (some (.int 0)) h) := by
  refine Xc.of (by decide) (by simp [Value.category]) (Nat.le_of_ble_eq_true rfl) ?_
  show Xw E m_B_take 2 0 0 0 [some (.ref mb), none] [] h _
  refine x_aload_n d_B_take_0 rfl rfl ?_
  refine x_invv d_B_take_1 lm_B_28 (as := []) (S := []) (c_B_marked k1 k2 f0 f1 f2 hn fm .null (Or.inl rfl) ⟨fun _ => rfl, fun j x hx e => absurd (List.getElem?_eq_some_iff.mp hx).1 (by have := nI_inj hmk (by have := (List.getElem?_eq_some_iff.mp hx).1; omega) e; omega)⟩) k1 rfl rfl rfl (Nat.le_of_ble_eq_true rfl) (Nat.le_refl 2) (Nat.le_refl 0) (Nat.le_refl 0) ?_
  rintro _ _ ⟨rfl, rfl⟩
  refine x_ifnonnullN d_B_take_4 ?_
  refine x_iconst (v := 0) d_B_take_7 (by decide) ?_
  exact x_iret d_B_take_8 rfl rfl ⟨rfl, rfl⟩
theorem c_B_take_loop {E : th_E} {h : th_H} {mb ma mk : Nat} {ms : List Nat} (k1 : gk h mb = some (.inl 1)) (k2 : gk h ma = some (.inr (2, 12))) (f0 : gF h 1 0 mb = .ref ma) (f1 : gF h 1 1 mb = .int (nI ms.length)) (f2 : gF h 1 2 mb = .int (nI mk)) (hn : ms.length ≤ 12) (fm : ∀ i x, ms[i]? = some x → gA h 2 ma i = .ref x) (kx : ∀ x ∈ ms, gk h x = some (.inl 0)) (hf : mk < ms.length) : ∀ (m k : Nat) (f : Nat → Value), k + m = ms.length → mk < k → (∀ j x, k ≤ j → ms[j]? = some x → f j = .ref x) → (∀ i x, i + 1 < k → (ms.eraseIdx mk)[i]? = some x → f i = .ref x) → Xw E m_B_take 2 0 0 16 [some (.ref mb), some (.int (nI k))] [] (gsA h 2 ma f) (fun v h' => v = some (.int 1) ∧ ∃ f' : Nat → Value, h' = gpF (gpF (gsA h 2 ma f') 1 1 mb (.int (nI (ms.length - 1)))) 1 2 mb (.int 0) ∧ ∀ i x, (ms.eraseIdx mk)[i]? = some x → f' i = .ref x) := by
  intro m
  induction m with
  | zero =>
    intro k f hk hmk i1 i2
    refine x_iload_n d_B_take_16 rfl rfl ?_
    refine x_aload_n d_B_take_17 rfl rfl ?_
    refine x_getf (v := .int (nI ms.length)) d_B_take_18 lf_B_17 k1 f1 ?_
    refine x_icmp_ge (tgt := 44) d_B_take_21 rfl (fun q21 => ?_) (fun q => absurd (nI_le (by omega) (by omega)) q)
    refine x_aload_n d_B_take_44 rfl rfl ?_
    refine x_dup d_B_take_45 rfl ?_
    refine x_getf (v := .int (nI ms.length)) d_B_take_46 lf_B_17 k1 f1 ?_
    refine x_iconst (v := 1) d_B_take_49 (by decide) ?_
    refine x_isub (v := (nI (ms.length - 1))) d_B_take_50 (by rw [show (1 : Int32) = nI 1 from rfl, pk_sub (by omega)]) ?_
    refine x_putf d_B_take_51 lp_B_17 k1 ⟨_, rfl⟩ ?_
    refine x_aload_n d_B_take_54 rfl rfl ?_
    refine x_iconst (v := 0) d_B_take_55 (by decide) ?_
    refine x_putf d_B_take_56 lp_B_21 k1 ⟨_, rfl⟩ ?_
    refine x_iconst (v := 1) d_B_take_59 (by decide) ?_
    exact x_iret d_B_take_60 rfl rfl ⟨rfl, f, rfl, fun i x hi => i2 i x (by have := (List.getElem?_eq_some_iff.mp hi).1; rw [List.length_eraseIdx, if_pos hf] at this; omega) hi⟩
  | succ m ih =>
    intro k f hk hmk i1 i2
    obtain ⟨x, hx⟩ := get_some (l := ms) (k := k) (by omega)
    refine x_iload_n d_B_take_16 rfl rfl ?_
    refine x_aload_n d_B_take_17 rfl rfl ?_
    refine x_getf (v := .int (nI ms.length)) d_B_take_18 lf_B_17 k1 f1 ?_
    refine x_icmp_ge (tgt := 44) d_B_take_21 rfl (fun q => absurd q (nI_ge (by omega) (by omega))) (fun q21 => ?_)
    refine x_aload_n d_B_take_24 rfl rfl ?_
    refine x_getf (v := .ref ma) d_B_take_25 lf_B_11 k1 f0 ?_
    refine x_iload_n d_B_take_28 rfl rfl ?_
    refine x_iconst (v := 1) d_B_take_29 (by decide) ?_
    refine x_isub (v := (nI (k - 1))) d_B_take_30 (by rw [show (1 : Int32) = nI 1 from rfl, pk_sub (by omega)]) ?_
    refine x_aload_n d_B_take_31 rfl rfl ?_
    refine x_getf (v := .ref ma) d_B_take_32 lf_B_11 k1 f0 ?_
    refine x_iload_n d_B_take_35 rfl rfl ?_
    refine x_aald (v := .ref x) d_B_take_36 k2 rfl (vp_in_nI (by omega) (by decide)) (by rw [nI_cl (by omega), gA_sA, if_pos ⟨rfl, rfl⟩]; exact i1 k x (Nat.le_refl _) hx) ?_
    refine x_aast d_B_take_37 k2 rfl (kx x (List.mem_of_getElem? hx)) rfl (vp_in_nI (by omega) (by decide)) ?_
    rw [nI_cl (by omega), gpA_sA]
    refine x_iinc d_B_take_38 rfl (v := (nI (k + 1))) (nI_1 _) (by decide) (L' := [some (.ref mb), some (.int (nI (k + 1)))]) rfl ?_
    refine x_goto (tgt := 16) d_B_take_41 rfl ?_
    exact ih (k + 1) _ (by omega) (by omega) (fun j y hj hy => by rw [if_neg (by omega)]; exact i1 j y (by omega) hy) (fun i y hi hy => by
      by_cases hik : i = k - 1
      · rw [if_pos hik]
        rw [hik, List.getElem?_eraseIdx_of_ge (by omega), Nat.sub_add_cancel (by omega), hx] at hy
        cases hy
        rfl
      · rw [if_neg hik]
        exact i2 i y (by omega) hy)
theorem c_B_take {E : th_E} {h : th_H} {mb ma mk : Nat} {ms : List Nat} (k1 : gk h mb = some (.inl 1)) (k2 : gk h ma = some (.inr (2, 12))) (f0 : gF h 1 0 mb = .ref ma) (f1 : gF h 1 1 mb = .int (nI ms.length)) (f2 : gF h 1 2 mb = .int (nI mk)) (hn : ms.length ≤ 12) (fm : ∀ i x, ms[i]? = some x → gA h 2 ma i = .ref x) (kx : ∀ x ∈ ms, gk h x = some (.inl 0)) (hf : mk < ms.length) : Xc E m_B_take 2 0 0 [.ref mb] h (fun v h' => v = some (.int 1) ∧ ∃ f' : Nat → Value, h' = gpF (gpF (gsA h 2 ma f') 1 1 mb (.int (nI (ms.length - 1)))) 1 2 mb (.int 0) ∧ ∀ i x, (ms.eraseIdx mk)[i]? = some x → f' i = .ref x) := by
  obtain ⟨y, hy⟩ := get_some hf
  refine Xc.of (by decide) (by simp [Value.category]) (Nat.le_of_ble_eq_true rfl) ?_
  show Xw E m_B_take 2 0 0 0 [some (.ref mb), none] [] h _
  refine x_aload_n d_B_take_0 rfl rfl ?_
  refine x_invv d_B_take_1 lm_B_28 (as := []) (S := []) (c_B_marked k1 k2 f0 f1 f2 hn fm (.ref y) (Or.inr ⟨_, rfl⟩) ⟨fun z => absurd z (by rintro (z | z); exact nI_pos (by omega) z; exact nI_ge hf (by omega) z), fun j x hx e => by have := nI_inj (by omega) (by have := (List.getElem?_eq_some_iff.mp hx).1; omega) e; subst this; rw [hy] at hx; cases hx; rfl⟩) k1 rfl rfl rfl (Nat.le_of_ble_eq_true rfl) (Nat.le_refl 2) (Nat.le_refl 0) (Nat.le_refl 0) ?_
  rintro _ _ ⟨rfl, rfl⟩
  refine x_ifnonnull (tgt := 9) d_B_take_4 rfl ?_
  refine x_aload_n d_B_take_9 rfl rfl ?_
  refine x_getf (v := .int (nI mk)) d_B_take_10 lf_B_21 k1 f2 ?_
  refine x_iconst (v := 1) d_B_take_13 (by decide) ?_
  refine x_iadd (v := (nI (mk + 1))) d_B_take_14 (nI_1 _) ?_
  refine x_istore_n d_B_take_15 rfl (by decide) (L' := [some (.ref mb), some (.int (nI (mk + 1)))]) rfl ?_
  have hh := c_B_take_loop (E := E) k1 k2 f0 f1 f2 hn fm kx hf (ms.length - (mk + 1)) (mk + 1) (gA h 2 ma) (by omega) (by omega) (fun j x _ hx => fm j x hx) (fun i x hi hx => by rw [List.getElem?_eraseIdx_of_lt (by omega)] at hx; exact fm i x hx)
  rw [gsA_self] at hh
  exact hh
end
section
/-! Terms: the mathematical ones, and the class's (printed by wip/gen/mod_term.py). -/
abbrev Tm : Type := Lean.RArray (Int32 × Int32)
def tW : Tm → Nat
  | .leaf _ => 1
  | .branch _ l r => 1 + tW l + tW r
def tS : Tm → Int32
  | .leaf q => q.1
  | .branch k _ _ => nI k
def tN : Tm → Int32
  | .leaf q => q.2
  | .branch _ _ _ => 0
/-- well made: sorts 0 .. 3 without parts (nil's number is 0), 4 and 5 with two -/
def tOk : Tm → Prop
  | .leaf q => (q.1 = 0 ∨ q.1 = 1 ∨ q.1 = 2) ∨ q = (3, 0)
  | .branch k l r => (k = 4 ∨ k = 5) ∧ tOk l ∧ tOk r
def tB : Tm → Bool
  | .leaf _ => false
  | .branch _ _ _ => true
/-- the term t lies at the address a -/
def TR (h : th_H) : Tm → Nat → Prop
  | .leaf q, a => gk h a = some (.inl 0) ∧ gF h 0 0 a = .int q.1 ∧ gF h 0 1 a = .int q.2 ∧ gF h 0 2 a = .null ∧ gF h 0 3 a = .null ∧ gF h 0 4 a = .int (nI 1)
  | .branch k l r, a => gk h a = some (.inl 0) ∧ gF h 0 0 a = .int (nI k) ∧ gF h 0 1 a = .int 0 ∧ (∃ x, gF h 0 2 a = .ref x ∧ TR h l x) ∧ (∃ y, gF h 0 3 a = .ref y ∧ TR h r y) ∧ gF h 0 4 a = .int (nI (1 + tW l + tW r))
theorem TR.k {h : th_H} {t : Tm} {a : Nat} (q : TR h t a) : gk h a = some (.inl 0) := by cases t <;> exact q.1
theorem TR.s {h : th_H} {t : Tm} {a : Nat} (q : TR h t a) : gF h 0 0 a = .int (tS t) := by cases t <;> exact q.2.1
theorem TR.n {h : th_H} {t : Tm} {a : Nat} (q : TR h t a) : gF h 0 1 a = .int (tN t) := by cases t <;> exact q.2.2.1
theorem TR.w {h : th_H} {t : Tm} {a : Nat} (q : TR h t a) : gF h 0 4 a = .int (nI (tW t)) := by cases t <;> exact q.2.2.2.2.2
theorem tW_pos (t : Tm) : 1 ≤ tW t := by cases t <;> simp [tW] <;> omega
/-- terms stay -/
def TE (h h' : th_H) : Prop := ∀ a, gk h a = some (.inl 0) → gk h' a = some (.inl 0) ∧ ∀ k, gF h' 0 k a = gF h 0 k a
theorem TE.rf (h : th_H) : TE h h := fun _ q => ⟨q, fun _ => rfl⟩
theorem TE.tr {h h1 h2 : th_H} (a : TE h h1) (b : TE h1 h2) : TE h h2 := fun x q => ⟨(b x (a x q).1).1, fun k => ((b x (a x q).1).2 k).trans ((a x q).2 k)⟩
theorem TE.pF {h h1 : th_H} {ci k a : Nat} {v : Value} (e : TE h h1) (hc : ci ≠ 0) : TE h (gpF h1 ci k a v) := fun x q => ⟨(e x q).1, fun j => by rw [gF_pF, if_neg (fun z => hc z.1.symm)]; exact (e x q).2 j⟩
theorem TE.pA {h h1 : th_H} {t a i : Nat} {v : Value} (e : TE h h1) : TE h (gpA h1 t a i v) := e
theorem TE.sA {h h1 : th_H} {t a : Nat} {f : Nat → Value} (e : TE h h1) : TE h (gsA h1 t a f) := e
theorem TR.mono {h h' : th_H} (e : TE h h') : ∀ (t : Tm) (a : Nat), TR h t a → TR h' t a
  | .leaf q, a, ⟨q1, q2, q3, q4, q5, q6⟩ => ⟨(e a q1).1, by rw [(e a q1).2]; exact q2, by rw [(e a q1).2]; exact q3, by rw [(e a q1).2]; exact q4, by rw [(e a q1).2]; exact q5, by rw [(e a q1).2]; exact q6⟩
  | .branch k l r, a, ⟨q1, q2, q3, ⟨x, q4, q5⟩, ⟨y, q6, q7⟩, q8⟩ => ⟨(e a q1).1, by rw [(e a q1).2]; exact q2, by rw [(e a q1).2]; exact q3, ⟨x, by rw [(e a q1).2]; exact q4, TR.mono e l x q5⟩, ⟨y, by rw [(e a q1).2]; exact q6, TR.mono e r y q7⟩, by rw [(e a q1).2]; exact q8⟩
def WFh (h : th_H) : Prop := ∀ a k, gk h a = some k → a < gz h
theorem Xw.wf {E : th_E} {M : th_M} {d cz cs pc : Nat} {L : List (Option Value)} {S : List Value} {h : th_H} {Post : Option Value → th_H → Prop} (w : WFh h → Xw E M d cz cs pc L S h Post) : Xw E M d cz cs pc L S h Post := by
  intro p l e R s m args below meth c H locs cells slots ls Q Y
  exact w (fun a k q => Y.2.1.lt q) p l e R s m args below meth c H locs cells slots ls Q Y
/-- the fields of a term are set -/
def gT (h : th_H) (a : Nat) (s n : Int32) (x y : Value) (w : Int32) : th_H := gpF (gpF (gpF (gpF (gpF h 0 0 a (.int s)) 0 1 a (.int n)) 0 2 a x) 0 3 a y) 0 4 a (.int w)
/-- a new term -/
def gnT (h : th_H) (s n : Int32) (x y : Value) (w : Int32) : th_H := gT (gnO h 0 dv_T) (gz h) s n x y w
theorem gk_nT (h : th_H) (s n : Int32) (x y : Value) (w : Int32) (a : Nat) : gk (gnT h s n x y w) a = if a = gz h then some (.inl 0) else gk h a := id rfl
theorem gA_nT (h : th_H) (s n : Int32) (x y : Value) (w : Int32) : gA (gnT h s n x y w) = gA h := id rfl
theorem gz_nT (h : th_H) (s n : Int32) (x y : Value) (w : Int32) : gz (gnT h s n x y w) = gz h + 1 := id rfl
theorem gF_nT (h : th_H) (s n : Int32) (x y : Value) (w : Int32) (c k a : Nat) (q : c ≠ 0 ∨ a ≠ gz h) : gF (gnT h s n x y w) c k a = gF h c k a := by
  unfold gnT gT
  simp only [gF_pF, gF_nO]
  rcases q with q | q <;> simp [q]
theorem TE.nT {h h1 : th_H} {s n : Int32} {x y : Value} {w : Int32} (wf : WFh h) (e : TE h h1) (hz : gz h ≤ gz h1) : TE h (gnT h1 s n x y w) := fun a q => by
  have ha := wf a _ q
  refine ⟨?_, fun k => ?_⟩
  · rw [gk_nT, if_neg (by omega)]; exact (e a q).1
  · rw [gF_nT _ _ _ _ _ _ _ _ _ (Or.inr (by omega))]; exact (e a q).2 k
theorem gF_gT (h : th_H) (a : Nat) (s n : Int32) (x y : Value) (w : Int32) (k : Nat) : gF (gT h a s n x y w) 0 k a = if k = 4 then .int w else if k = 3 then y else if k = 2 then x else if k = 1 then .int n else if k = 0 then .int s else gF h 0 k a := by
  unfold gT
  simp only [gF_pF, true_and, and_true]
theorem gF_nT0 (h : th_H) (s n : Int32) (x y : Value) (w : Int32) (k : Nat) : gF (gnT h s n x y w) 0 k (gz h) = if k = 4 then .int w else if k = 3 then y else if k = 2 then x else if k = 1 then .int n else if k = 0 then .int s else dv_T k := by
  unfold gnT
  rw [gF_gT]
  simp only [gF_nO, true_and, if_true]
theorem TR_leaf (h : th_H) (s n : Int32) : TR (gnT h s n .null .null (nI 1)) (.leaf (s, n)) (gz h) := by
  unfold TR
  refine ⟨by rw [gk_nT, if_pos rfl], ?_, ?_, ?_, ?_, ?_⟩ <;> rw [gF_nT0] <;> simp only [if_true] <;> rfl
theorem TR_branch {h : th_H} (wf : WFh h) {k : Nat} {l r : Tm} {x y : Nat} (ql : TR h l x) (qr : TR h r y) : TR (gnT h (nI k) 0 (.ref x) (.ref y) (nI (1 + tW l + tW r))) (.branch k l r) (gz h) := by
  have e : TE h (gnT h (nI k) 0 (.ref x) (.ref y) (nI (1 + tW l + tW r))) := TE.nT wf (TE.rf h) (Nat.le_refl _)
  unfold TR
  refine ⟨by rw [gk_nT, if_pos rfl], ?_, ?_, ⟨x, ?_, TR.mono e l x ql⟩, ⟨y, ?_, TR.mono e r y qr⟩, ?_⟩ <;> rw [gF_nT0] <;> simp only [if_true] <;> rfl
theorem WFh.nT {h : th_H} {s n : Int32} {x y : Value} {w : Int32} (wf : WFh h) : WFh (gnT h s n x y w) := fun a k q => by
  rw [gz_nT]
  rw [gk_nT] at q
  by_cases ha : a = gz h
  · omega
  · rw [if_neg ha] at q
    have := wf a k q
    omega
theorem c_T_init {E : th_E} {h : th_H} {a : Nat} (s n : Int32) (k1 : gk h a = some (.inl 0)) : Xc E m_T_init 1 0 0 [.ref a, .int s, .int n] h (Ex none (gT h a s n .null .null (nI 1))) := by
  refine Xc.of (by decide) (by simp [Value.category]) (Nat.le_of_ble_eq_true rfl) ?_
  show Xw E m_T_init 1 0 0 0 [some (.ref a), some (.int s), some (.int n)] [] h _
  refine x_aload_n d_T_init_0 rfl rfl ?_
  refine x_objinit d_T_init_1 lo_T_3 k_oi1 k_oi2 (Nat.le_refl 1) (Nat.le_of_ble_eq_true rfl) ?_
  refine x_aload_n d_T_init_4 rfl rfl ?_
  refine x_iload_n d_T_init_5 rfl rfl ?_
  refine x_putfF d_T_init_6 rfl lp_T_9 k1 ⟨_, rfl⟩ ?_
  refine x_aload_n d_T_init_9 rfl rfl ?_
  refine x_iload_n d_T_init_10 rfl rfl ?_
  refine x_putfF d_T_init_11 rfl lp_T_15 k1 ⟨_, rfl⟩ ?_
  refine x_aload_n d_T_init_14 rfl rfl ?_
  refine x_null d_T_init_15 ?_
  refine x_putfF d_T_init_16 rfl lp_T_18 k1 (Or.inl rfl) ?_
  refine x_aload_n d_T_init_19 rfl rfl ?_
  refine x_null d_T_init_20 ?_
  refine x_putfF d_T_init_21 rfl lp_T_22 k1 (Or.inl rfl) ?_
  refine x_aload_n d_T_init_24 rfl rfl ?_
  refine x_iconst (v := 1) d_T_init_25 (by decide) ?_
  refine x_putfF d_T_init_26 rfl lp_T_25 k1 ⟨_, rfl⟩ ?_
  exact x_ret ⟨rfl, rfl⟩ rfl d_T_init_29
theorem c_T_init2 {E : th_E} {h : th_H} {a x y wx wy : Nat} (s : Int32) (k1 : gk h a = some (.inl 0)) (kx : gk h x = some (.inl 0)) (ky : gk h y = some (.inl 0)) (fx : gF h 0 4 x = .int (nI wx)) (fy : gF h 0 4 y = .int (nI wy)) : Xc E m_T_init2 1 0 0 [.ref a, .int s, .ref x, .ref y] h (Ex none (gT h a s 0 (.ref x) (.ref y) (nI (1 + wx + wy)))) := by
  refine Xc.of (by decide) (by simp [Value.category]) (Nat.le_of_ble_eq_true rfl) ?_
  show Xw E m_T_init2 1 0 0 0 [some (.ref a), some (.int s), some (.ref x), some (.ref y)] [] h _
  refine x_aload_n d_T_init2_0 rfl rfl ?_
  refine x_objinit d_T_init2_1 lo_T_3 k_oi1 k_oi2 (Nat.le_refl 1) (Nat.le_of_ble_eq_true rfl) ?_
  refine x_aload_n d_T_init2_4 rfl rfl ?_
  refine x_iload_n d_T_init2_5 rfl rfl ?_
  refine x_putfF d_T_init2_6 rfl lp_T_9 k1 ⟨_, rfl⟩ ?_
  refine x_aload_n d_T_init2_9 rfl rfl ?_
  refine x_iconst (v := 0) d_T_init2_10 (by decide) ?_
  refine x_putfF d_T_init2_11 rfl lp_T_15 k1 ⟨_, rfl⟩ ?_
  refine x_aload_n d_T_init2_14 rfl rfl ?_
  refine x_aload_n d_T_init2_15 rfl rfl ?_
  refine x_putfF d_T_init2_16 rfl lp_T_18 k1 (Or.inr ⟨_, rfl⟩) ?_
  refine x_aload_n d_T_init2_19 rfl rfl ?_
  refine x_aload_n d_T_init2_20 rfl rfl ?_
  refine x_putfF d_T_init2_21 rfl lp_T_22 k1 (Or.inr ⟨_, rfl⟩) ?_
  refine x_aload_n d_T_init2_24 rfl rfl ?_
  refine x_iconst (v := 1) d_T_init2_25 (by decide) ?_
  refine x_aload_n d_T_init2_26 rfl rfl ?_
  refine x_getf (v := .int (nI wx)) d_T_init2_27 lf_T_25 kx (by simp [gF_pF, gF_pA, gF_nO, gF_nA, fx]) ?_
  refine x_iadd (v := (nI (1 + wx))) d_T_init2_30 (nI_add 1 wx) ?_
  refine x_aload_n d_T_init2_31 rfl rfl ?_
  refine x_getf (v := .int (nI wy)) d_T_init2_32 lf_T_25 ky (by simp [gF_pF, gF_pA, gF_nO, gF_nA, fy]) ?_
  refine x_iadd (v := (nI (1 + wx + wy))) d_T_init2_35 (nI_add _ _) ?_
  refine x_putfF d_T_init2_36 rfl lp_T_25 k1 ⟨_, rfl⟩ ?_
  exact x_ret ⟨rfl, rfl⟩ rfl d_T_init2_39
theorem c_T_joined_no {E : th_E} {h : th_H} {x y wx wy : Nat} (s : Int32) (kx : gk h x = some (.inl 0)) (ky : gk h y = some (.inl 0)) (fx : gF h 0 4 x = .int (nI wx)) (fy : gF h 0 4 y = .int (nI wy)) (hw : 15 < 1 + wx + wy) (hb : 1 + wx + wy < 2 ^ 31) : Xc E m_T_joined 2 0 0 [.int s, .ref x, .ref y] h (Ex (some .null) h) := by
  refine Xc.of (by decide) (by simp [Value.category]) (Nat.le_of_ble_eq_true rfl) ?_
  show Xw E m_T_joined 2 0 0 0 [some (.int s), some (.ref x), some (.ref y)] [] h _
  refine x_iconst (v := 1) d_T_joined_0 (by decide) ?_
  refine x_aload_n d_T_joined_1 rfl rfl ?_
  refine x_getf (v := .int (nI wx)) d_T_joined_2 lf_T_25 kx fx ?_
  refine x_iadd (v := (nI (1 + wx))) d_T_joined_5 (nI_add 1 wx) ?_
  refine x_aload_n d_T_joined_6 rfl rfl ?_
  refine x_getf (v := .int (nI wy)) d_T_joined_7 lf_T_25 ky fy ?_
  refine x_iadd (v := (nI (1 + wx + wy))) d_T_joined_10 (nI_add _ _) ?_
  refine x_bipush (v := 15) d_T_joined_11 (by decide) ?_
  refine x_icmp_le (tgt := 20) d_T_joined_13 rfl (fun q => absurd q (nI_ge (a := 15) hw hb)) (fun q13 => ?_)
  refine x_null d_T_joined_16 ?_
  refine x_goto (tgt := 30) d_T_joined_17 rfl ?_
  exact x_aret d_T_joined_30 rfl (Or.inl ⟨_, rfl⟩) (Or.inl rfl) ⟨rfl, rfl⟩
theorem c_T_joined {E : th_E} {h : th_H} {x y wx wy : Nat} (s : Int32) (kx : gk h x = some (.inl 0)) (ky : gk h y = some (.inl 0)) (fx : gF h 0 4 x = .int (nI wx)) (fy : gF h 0 4 y = .int (nI wy)) (hw : 1 + wx + wy ≤ 15) : Xc E m_T_joined 2 1 5 [.int s, .ref x, .ref y] h (Ex (some (.ref (gz h))) (gnT h s 0 (.ref x) (.ref y) (nI (1 + wx + wy)))) := by
  refine Xc.of (by decide) (by simp [Value.category]) (Nat.le_of_ble_eq_true rfl) ?_
  show Xw E m_T_joined 2 1 5 0 [some (.int s), some (.ref x), some (.ref y)] [] h _
  refine Xw.wf (fun wf => ?_)
  refine x_iconst (v := 1) d_T_joined_0 (by decide) ?_
  refine x_aload_n d_T_joined_1 rfl rfl ?_
  refine x_getf (v := .int (nI wx)) d_T_joined_2 lf_T_25 kx fx ?_
  refine x_iadd (v := (nI (1 + wx))) d_T_joined_5 (nI_add 1 wx) ?_
  refine x_aload_n d_T_joined_6 rfl rfl ?_
  refine x_getf (v := .int (nI wy)) d_T_joined_7 lf_T_25 ky fy ?_
  refine x_iadd (v := (nI (1 + wx + wy))) d_T_joined_10 (nI_add _ _) ?_
  refine x_bipush (v := 15) d_T_joined_11 (by decide) ?_
  refine x_icmp_le (tgt := 20) d_T_joined_13 rfl (fun q13 => ?_) (fun q => absurd (nI_le (b := 15) hw (by decide)) q)
  refine x_new d_T_joined_20 ln_T_10 (cz' := 0) (Nat.le_refl 1) (cs' := 0) (Nat.le_refl 5) ?_
  refine x_dup d_T_joined_23 rfl ?_
  refine x_iload_n d_T_joined_24 rfl rfl ?_
  refine x_aload_n d_T_joined_25 rfl rfl ?_
  refine x_aload_n d_T_joined_26 rfl rfl ?_
  refine x_invi d_T_joined_27 lm_T_28 (as := [.int s, .ref x, .ref y]) (S := [.ref (gz h)]) (c_T_init2 s (by rw [gk_nO, if_pos rfl]) (by rw [gk_nO, if_neg (Nat.ne_of_lt (wf x _ kx))]; exact kx) (by rw [gk_nO, if_neg (Nat.ne_of_lt (wf y _ ky))]; exact ky) (by rw [gF_nO, if_neg (fun z => Nat.ne_of_lt (wf x _ kx) z.2)]; exact fx) (by rw [gF_nO, if_neg (fun z => Nat.ne_of_lt (wf y _ ky) z.2)]; exact fy)) rfl rfl (Nat.le_of_ble_eq_true rfl) (Nat.le_refl 2) (Nat.le_refl 0) (Nat.le_refl 0) ?_
  rintro _ _ ⟨rfl, rfl⟩
  exact x_aret d_T_joined_30 rfl (Or.inl ⟨_, rfl⟩) (Or.inr ⟨_, rfl⟩) ⟨rfl, rfl⟩
theorem c_T_hasParts {E : th_E} {h : th_H} {a : Nat} {t : Tm} (q : TR h t a) : Xc E m_T_hasParts 0 0 0 [.ref a] h (Ex (some (.int (if tB t then 1 else 0))) h) := by
  refine Xc.of (by decide) (by simp [Value.category]) (Nat.le_of_ble_eq_true rfl) ?_
  show Xw E m_T_hasParts 0 0 0 0 [some (.ref a)] [] h _
  cases t with
  | leaf u =>
    refine x_aload_n d_T_hasParts_0 rfl rfl ?_
    refine x_getf (v := .null) d_T_hasParts_1 lf_T_18 q.1 q.2.2.2.1 ?_
    refine x_ifnullN (tgt := 18) d_T_hasParts_4 rfl ?_
    refine x_iconst (v := 0) d_T_hasParts_18 (by decide) ?_
    exact x_iret d_T_hasParts_19 rfl rfl ⟨rfl, rfl⟩
  | branch k l r =>
    obtain ⟨x, hx, -⟩ := q.2.2.2.1
    obtain ⟨y, hy, -⟩ := q.2.2.2.2.1
    refine x_aload_n d_T_hasParts_0 rfl rfl ?_
    refine x_getf (v := .ref x) d_T_hasParts_1 lf_T_18 q.1 hx ?_
    refine x_ifnull d_T_hasParts_4 ?_
    refine x_aload_n d_T_hasParts_7 rfl rfl ?_
    refine x_getf (v := .ref y) d_T_hasParts_8 lf_T_22 q.1 hy ?_
    refine x_ifnull d_T_hasParts_11 ?_
    refine x_iconst (v := 1) d_T_hasParts_14 (by decide) ?_
    refine x_goto (tgt := 19) d_T_hasParts_15 rfl ?_
    exact x_iret d_T_hasParts_19 rfl rfl ⟨rfl, rfl⟩
theorem c_T_hasNumber {E : th_E} {h : th_H} {a : Nat} {s r : Int32} (k1 : gk h a = some (.inl 0)) (fs : gF h 0 0 a = .int s) (hr : (s = 0 ∨ s = 1 ∨ s = 2 → r = 1) ∧ (¬ (s = 0 ∨ s = 1 ∨ s = 2) → r = 0)) : Xc E m_T_hasNumber 0 0 0 [.ref a] h (Ex (some (.int r)) h) := by
  refine Xc.of (by decide) (by simp [Value.category]) (Nat.le_of_ble_eq_true rfl) ?_
  show Xw E m_T_hasNumber 0 0 0 0 [some (.ref a)] [] h _
  refine x_aload_n d_T_hasNumber_0 rfl rfl ?_
  refine x_getf (v := .int s) d_T_hasNumber_1 lf_T_9 k1 fs ?_
  refine x_if_eq (tgt := 23) d_T_hasNumber_4 rfl (fun q4 => ?_) (fun q4 => ?_)
  · obtain rfl : r = 1 := hr.1 (Or.inl q4)
    refine x_iconst (v := 1) d_T_hasNumber_23 (by decide) ?_
    refine x_goto (tgt := 28) d_T_hasNumber_24 rfl ?_
    exact x_iret d_T_hasNumber_28 rfl rfl ⟨rfl, rfl⟩
  · refine x_aload_n d_T_hasNumber_7 rfl rfl ?_
    refine x_getf (v := .int s) d_T_hasNumber_8 lf_T_9 k1 fs ?_
    refine x_iconst (v := 1) d_T_hasNumber_11 (by decide) ?_
    refine x_icmp_eq (tgt := 23) d_T_hasNumber_12 rfl (fun q12 => ?_) (fun q12 => ?_)
    · obtain rfl : r = 1 := hr.1 (Or.inr (Or.inl q12))
      refine x_iconst (v := 1) d_T_hasNumber_23 (by decide) ?_
      refine x_goto (tgt := 28) d_T_hasNumber_24 rfl ?_
      exact x_iret d_T_hasNumber_28 rfl rfl ⟨rfl, rfl⟩
    · refine x_aload_n d_T_hasNumber_15 rfl rfl ?_
      refine x_getf (v := .int s) d_T_hasNumber_16 lf_T_9 k1 fs ?_
      refine x_iconst (v := 2) d_T_hasNumber_19 (by decide) ?_
      refine x_icmp_ne (tgt := 27) d_T_hasNumber_20 rfl (fun q20 => ?_) (fun q20 => ?_)
      · obtain rfl : r = 0 := hr.2 (fun z => z.elim q4 (fun z => z.elim q12 q20))
        refine x_iconst (v := 0) d_T_hasNumber_27 (by decide) ?_
        exact x_iret d_T_hasNumber_28 rfl rfl ⟨rfl, rfl⟩
      · obtain rfl : r = 1 := hr.1 (Or.inr (Or.inr q20))
        refine x_iconst (v := 1) d_T_hasNumber_23 (by decide) ?_
        refine x_goto (tgt := 28) d_T_hasNumber_24 rfl ?_
        exact x_iret d_T_hasNumber_28 rfl rfl ⟨rfl, rfl⟩
def jfm (x y : Int32) : Int32 := if (x ^^^ y) < 0 ∧ ¬ x - x / y * y = 0 then x - x / y * y + y else x - x / y * y
def tNum (t : Tm) : Bool := tS t = 0 ∨ tS t = 1 ∨ tS t = 2
theorem i32_nl {x : Int32} (h : 0 ≤ x) : ¬ x < 0 := fun z => by
  have h1 := Int32.le_iff_toInt_le.mp h
  have h2 := Int32.lt_iff_toInt_lt.mp z
  omega
theorem i32_nge {x : Int32} (h : ¬ 0 ≤ x) : x < 0 := by
  refine Int32.lt_iff_toInt_lt.mpr ?_
  have h1 : ¬ (0 : Int32).toInt ≤ x.toInt := fun z => h (Int32.le_iff_toInt_le.mpr z)
  omega
theorem c_J_floorMod {E : th_E} {h : th_H} (x y : Int32) (hy : ¬ y = 0) : Xc E m_J_floorMod 0 0 0 [.int x, .int y] h (Ex (some (.int (jfm x y))) h) := by
  refine Xc.ofF (by decide +kernel) (by simp [Value.category]) (Nat.le_of_ble_eq_true rfl) ?_
  show Xw E m_J_floorMod 0 0 0 0 [some (.int x), some (.int y), none] [] h _
  refine x_iload_n d_J_floorMod_0 rfl rfl ?_
  refine x_iload_n d_J_floorMod_1 rfl rfl ?_
  refine x_irem (v := (x - x / y * y)) d_J_floorMod_2 hy rfl ?_
  refine x_istore_n d_J_floorMod_3 rfl (by decide) (L' := [some (.int x), some (.int y), some (.int (x - x / y * y))]) rfl ?_
  refine x_iload_n d_J_floorMod_4 rfl rfl ?_
  refine x_iload_n d_J_floorMod_5 rfl rfl ?_
  refine x_ixor (v := (x ^^^ y)) d_J_floorMod_6 rfl ?_
  refine x_if_ge (tgt := 18) d_J_floorMod_7 rfl (fun q7 => ?_) (fun q7 => ?_)
  · refine x_iload_n d_J_floorMod_18 rfl rfl ?_
    exact x_iret d_J_floorMod_19 rfl rfl ⟨by rw [jfm, if_neg (fun z => i32_nl q7 z.1)], rfl⟩
  · refine x_iload_n d_J_floorMod_10 rfl rfl ?_
    refine x_if_eq (tgt := 18) d_J_floorMod_11 rfl (fun q11 => ?_) (fun q11 => ?_)
    · refine x_iload_n d_J_floorMod_18 rfl rfl ?_
      exact x_iret d_J_floorMod_19 rfl rfl ⟨by rw [jfm, if_neg (fun z => z.2 q11)], rfl⟩
    · refine x_iload_n d_J_floorMod_14 rfl rfl ?_
      refine x_iload_n d_J_floorMod_15 rfl rfl ?_
      refine x_iadd (v := ((x - x / y * y) + y)) d_J_floorMod_16 rfl ?_
      exact x_iret d_J_floorMod_17 rfl rfl ⟨by rw [jfm, if_pos ⟨i32_nge q7, q11⟩], rfl⟩
def tSum (t : Tm) : Int32 := 1000000 * tS t + 100 * nI (tW t) + (if tS t = 0 ∨ tS t = 1 ∨ tS t = 2 then jfm (tN t) 100 else 0)
theorem c_T_summary {E : th_E} {h : th_H} {a : Nat} {t : Tm} (q : TR h t a) : Xc E m_T_summary 1 0 0 [.ref a] h (Ex (some (.int (tSum t))) h) := by
  refine Xc.of (by decide) (by simp [Value.category]) (Nat.le_of_ble_eq_true rfl) ?_
  show Xw E m_T_summary 1 0 0 0 [some (.ref a), none] [] h _
  by_cases hn : tS t = 0 ∨ tS t = 1 ∨ tS t = 2
  · refine x_aload_n d_T_summary_0 rfl rfl ?_
    refine x_invv d_T_summary_1 lm_T_31 (as := []) (S := []) (c_T_hasNumber q.k q.s ⟨fun _ => rfl, fun z => absurd hn z⟩) q.k rfl rfl rfl (Nat.le_of_ble_eq_true rfl) (Nat.le_refl 1) (Nat.le_refl 0) (Nat.le_refl 0) ?_
    rintro _ _ ⟨rfl, rfl⟩
    refine x_if_eq (tgt := 19) d_T_summary_4 rfl (fun q => absurd q (by decide)) (fun q4 => ?_)
    refine x_aload_n d_T_summary_7 rfl rfl ?_
    refine x_getf (v := .int (tN t)) d_T_summary_8 lf_T_15 q.k q.n ?_
    refine x_bipush (v := 100) d_T_summary_11 (by decide) ?_
    refine x_invs d_T_summary_13 lm_T_35 (as := [.int (tN t), .int 100]) (S := []) (c_J_floorMod (tN t) 100 (by decide)) rfl rfl (Nat.le_of_ble_eq_true rfl) (Nat.le_refl 1) (Nat.le_refl 0) (Nat.le_refl 0) ?_
    rintro _ _ ⟨rfl, rfl⟩
    refine x_goto (tgt := 20) d_T_summary_16 rfl ?_
    refine x_istore_n d_T_summary_20 rfl (by decide) (L' := [some (.ref a), some (.int (jfm (tN t) 100))]) rfl ?_
    refine x_ldc d_T_summary_21 lk_T_41 ?_
    refine x_aload_n d_T_summary_23 rfl rfl ?_
    refine x_getf (v := .int (tS t)) d_T_summary_24 lf_T_9 q.k q.s ?_
    refine x_imul (v := (1000000 * (tS t))) d_T_summary_27 rfl ?_
    refine x_bipush (v := 100) d_T_summary_28 (by decide) ?_
    refine x_aload_n d_T_summary_30 rfl rfl ?_
    refine x_getf (v := .int (nI (tW t))) d_T_summary_31 lf_T_25 q.k q.w ?_
    refine x_imul (v := (100 * (nI (tW t)))) d_T_summary_34 rfl ?_
    refine x_iadd (v := ((1000000 * (tS t)) + (100 * (nI (tW t))))) d_T_summary_35 rfl ?_
    refine x_iload_n d_T_summary_36 rfl rfl ?_
    refine x_iadd (v := (((1000000 * (tS t)) + (100 * (nI (tW t)))) + (jfm (tN t) 100))) d_T_summary_37 rfl ?_
    exact x_iret d_T_summary_38 rfl rfl ⟨by rw [tSum, if_pos hn], rfl⟩
  · refine x_aload_n d_T_summary_0 rfl rfl ?_
    refine x_invv d_T_summary_1 lm_T_31 (as := []) (S := []) (c_T_hasNumber q.k q.s ⟨fun z => absurd z hn, fun _ => rfl⟩) q.k rfl rfl rfl (Nat.le_of_ble_eq_true rfl) (Nat.le_refl 1) (Nat.le_refl 0) (Nat.le_refl 0) ?_
    rintro _ _ ⟨rfl, rfl⟩
    refine x_if_eq (tgt := 19) d_T_summary_4 rfl (fun q4 => ?_) (fun q => absurd rfl q)
    refine x_iconst (v := 0) d_T_summary_19 (by decide) ?_
    refine x_istore_n d_T_summary_20 rfl (by decide) (L' := [some (.ref a), some (.int 0)]) rfl ?_
    refine x_ldc d_T_summary_21 lk_T_41 ?_
    refine x_aload_n d_T_summary_23 rfl rfl ?_
    refine x_getf (v := .int (tS t)) d_T_summary_24 lf_T_9 q.k q.s ?_
    refine x_imul (v := (1000000 * (tS t))) d_T_summary_27 rfl ?_
    refine x_bipush (v := 100) d_T_summary_28 (by decide) ?_
    refine x_aload_n d_T_summary_30 rfl rfl ?_
    refine x_getf (v := .int (nI (tW t))) d_T_summary_31 lf_T_25 q.k q.w ?_
    refine x_imul (v := (100 * (nI (tW t)))) d_T_summary_34 rfl ?_
    refine x_iadd (v := ((1000000 * (tS t)) + (100 * (nI (tW t))))) d_T_summary_35 rfl ?_
    refine x_iload_n d_T_summary_36 rfl rfl ?_
    refine x_iadd (v := (((1000000 * (tS t)) + (100 * (nI (tW t)))) + 0)) d_T_summary_37 rfl ?_
    exact x_iret d_T_summary_38 rfl rfl ⟨by rw [tSum, if_neg hn], rfl⟩
end
section
/-! Terms: alike, mixed (printed by wip/gen/mod_term2.py). -/
theorem c_T_hasParts0 {E : th_E} {h : th_H} {a : Nat} {u : Int32 × Int32} (q : TR h (.leaf u) a) : Xc E m_T_hasParts 0 0 0 [.ref a] h (Ex (some (.int 0)) h) := c_T_hasParts q
theorem c_T_hasParts1 {E : th_E} {h : th_H} {a k : Nat} {l r : Tm} (q : TR h (.branch k l r) a) : Xc E m_T_hasParts 0 0 0 [.ref a] h (Ex (some (.int 1)) h) := c_T_hasParts q
theorem tOk_leaf {q : Int32 × Int32} (h : tOk (.leaf q)) : q.1 = 0 ∨ q.1 = 1 ∨ q.1 = 2 ∨ q.1 = 3 := by
  rcases h with (h | h | h) | h
  · exact Or.inl h
  · exact Or.inr (Or.inl h)
  · exact Or.inr (Or.inr (Or.inl h))
  · exact Or.inr (Or.inr (Or.inr (by rw [h])))
theorem tOk_apart {q : Int32 × Int32} {k : Nat} {l r : Tm} (h : tOk (.leaf q)) (h2 : tOk (.branch k l r)) : q.1 ≠ nI k := by
  rcases tOk_leaf h with h | h | h | h <;> rcases h2.1 with rfl | rfl <;> rw [h] <;> decide
theorem tOk_br {k : Nat} {l r : Tm} (h2 : tOk (.branch k l r)) : ¬ (nI k = 0 ∨ nI k = 1 ∨ nI k = 2) := by
  rcases h2.1 with rfl | rfl <;> decide
theorem c_T_alike_s {E : th_E} {h : th_H} {a b d : Nat} {t u : Tm} (q : TR h t a) (q2 : TR h u b) {r : Int32} (hr : (t = u → r = 1) ∧ (¬ t = u → r = 0)) (hs : ¬ tS t = tS u) : Xc E m_T_alike d 0 0 [.ref a, .ref b] h (Ex (some (.int r)) h) := by
  refine Xc.of (by decide) (by simp [Value.category]) (Nat.le_of_ble_eq_true rfl) ?_
  show Xw E m_T_alike d 0 0 0 [some (.ref a), some (.ref b)] [] h _
  refine x_aload_n d_T_alike_0 rfl rfl ?_
  refine x_getf (v := .int (tS t)) d_T_alike_1 lf_T_9 q.k q.s ?_
  refine x_aload_n d_T_alike_4 rfl rfl ?_
  refine x_getf (v := .int (tS u)) d_T_alike_5 lf_T_9 q2.k q2.s ?_
  refine x_icmp_ne (tgt := 22) d_T_alike_8 rfl (fun q8 => ?_) (fun q => absurd q hs)
  refine x_iconst (v := 0) d_T_alike_22 (by decide) ?_
  exact x_iret d_T_alike_23 rfl rfl ⟨by rw [hr.2 (fun z => hs (by rw [z]))], rfl⟩
theorem c_T_alike_n {E : th_E} {h : th_H} {a b d : Nat} {t u : Tm} (q : TR h t a) (q2 : TR h u b) {r : Int32} (hr : (t = u → r = 1) ∧ (¬ t = u → r = 0)) (hs : tS t = tS u) (hn : ¬ tN t = tN u) : Xc E m_T_alike d 0 0 [.ref a, .ref b] h (Ex (some (.int r)) h) := by
  refine Xc.of (by decide) (by simp [Value.category]) (Nat.le_of_ble_eq_true rfl) ?_
  show Xw E m_T_alike d 0 0 0 [some (.ref a), some (.ref b)] [] h _
  refine x_aload_n d_T_alike_0 rfl rfl ?_
  refine x_getf (v := .int (tS t)) d_T_alike_1 lf_T_9 q.k q.s ?_
  refine x_aload_n d_T_alike_4 rfl rfl ?_
  refine x_getf (v := .int (tS u)) d_T_alike_5 lf_T_9 q2.k q2.s ?_
  refine x_icmp_ne (tgt := 22) d_T_alike_8 rfl (fun q => absurd hs q) (fun q8 => ?_)
  refine x_aload_n d_T_alike_11 rfl rfl ?_
  refine x_getf (v := .int (tN t)) d_T_alike_12 lf_T_15 q.k q.n ?_
  refine x_aload_n d_T_alike_15 rfl rfl ?_
  refine x_getf (v := .int (tN u)) d_T_alike_16 lf_T_15 q2.k q2.n ?_
  refine x_icmp_eq (tgt := 24) d_T_alike_19 rfl (fun q => absurd q hn) (fun q19 => ?_)
  refine x_iconst (v := 0) d_T_alike_22 (by decide) ?_
  exact x_iret d_T_alike_23 rfl rfl ⟨by rw [hr.2 (fun z => hn (by rw [z]))], rfl⟩
theorem c_T_alike_l {E : th_E} {h : th_H} {a b d : Nat} {t : Int32 × Int32} {u : Tm} (q : TR h (.leaf t) a) (q2 : TR h u b) {r : Int32} (hr : (.leaf t = u → r = 1) ∧ (¬ .leaf t = u → r = 0)) (hs : t.1 = tS u) (hn : t.2 = tN u) (he : .leaf t = u) (hd1 : 0 + 1 ≤ d) : Xc E m_T_alike d 0 0 [.ref a, .ref b] h (Ex (some (.int r)) h) := by
  refine Xc.of (by decide) (by simp [Value.category]) (Nat.le_of_ble_eq_true rfl) ?_
  show Xw E m_T_alike d 0 0 0 [some (.ref a), some (.ref b)] [] h _
  refine x_aload_n d_T_alike_0 rfl rfl ?_
  refine x_getf (v := .int (t.1)) d_T_alike_1 lf_T_9 q.k q.s ?_
  refine x_aload_n d_T_alike_4 rfl rfl ?_
  refine x_getf (v := .int (tS u)) d_T_alike_5 lf_T_9 q2.k q2.s ?_
  refine x_icmp_ne (tgt := 22) d_T_alike_8 rfl (fun q => absurd hs q) (fun q8 => ?_)
  refine x_aload_n d_T_alike_11 rfl rfl ?_
  refine x_getf (v := .int (t.2)) d_T_alike_12 lf_T_15 q.k q.n ?_
  refine x_aload_n d_T_alike_15 rfl rfl ?_
  refine x_getf (v := .int (tN u)) d_T_alike_16 lf_T_15 q2.k q2.n ?_
  refine x_icmp_eq (tgt := 24) d_T_alike_19 rfl (fun q19 => ?_) (fun q => absurd hn q)
  refine x_aload_n d_T_alike_24 rfl rfl ?_
  refine x_invv d_T_alike_25 lm_T_42 (as := []) (S := []) (c_T_hasParts0 q) q.k rfl rfl rfl (Nat.le_of_ble_eq_true rfl) hd1 (Nat.le_refl 0) (Nat.le_refl 0) ?_
  rintro _ _ ⟨rfl, rfl⟩
  refine x_if_eq (tgt := 38) d_T_alike_28 rfl (fun q28 => ?_) (fun q => absurd rfl q)
  refine x_iconst (v := 1) d_T_alike_38 (by decide) ?_
  exact x_iret d_T_alike_39 rfl rfl ⟨by rw [hr.1 he], rfl⟩
theorem c_T_alike {E : th_E} {h : th_H} : ∀ (t u : Tm) (a b d : Nat) (r : Int32), TR h t a → TR h u b → tOk t → tOk u → tW t ≤ d → ((t = u → r = 1) ∧ (¬ t = u → r = 0)) → Xc E m_T_alike d 0 0 [.ref a, .ref b] h (Ex (some (.int r)) h) := by
  intro t
  induction t with
  | leaf t =>
    intro u a b d r q q2 ok ok2 hd hr
    simp only [tW] at hd
    by_cases hs : t.1 = tS u
    · by_cases hn : t.2 = tN u
      · cases u with
        | leaf u => exact c_T_alike_l q q2 hr hs hn (by rw [show t = u from Prod.ext hs hn]) (by omega)
        | branch k l r => exact absurd hs (tOk_apart ok ok2)
      · exact c_T_alike_n q q2 hr hs hn
    · exact c_T_alike_s q q2 hr hs
  | branch k l r' ihl ihr =>
    intro u a b d r q q2 ok ok2 hd hr
    simp only [tW] at hd
    have hwl := tW_pos l
    have hwr := tW_pos r'
    cases u with
    | leaf u => exact c_T_alike_s q q2 hr (fun z => tOk_apart ok2 ok z.symm)
    | branch k2 l2 r2 =>
      by_cases hk : nI k = nI k2
      · have hkk : k = k2 := nI_inj (by rcases ok.1 with rfl | rfl <;> decide) (by rcases ok2.1 with rfl | rfl <;> decide) hk
        obtain ⟨x1, g1, p1⟩ := q.2.2.2.1
        obtain ⟨y1, g2, p2⟩ := q.2.2.2.2.1
        obtain ⟨x2, g3, p3⟩ := q2.2.2.2.1
        obtain ⟨y2, g4, p4⟩ := q2.2.2.2.2.1
        refine Xc.of (by decide) (by simp [Value.category]) (Nat.le_of_ble_eq_true rfl) ?_
        show Xw E m_T_alike d 0 0 0 [some (.ref a), some (.ref b)] [] h _
        by_cases e1 : l = l2
        · by_cases e2 : r' = r2
          · refine x_aload_n d_T_alike_0 rfl rfl ?_
            refine x_getf (v := .int (nI k)) d_T_alike_1 lf_T_9 q.1 q.2.1 ?_
            refine x_aload_n d_T_alike_4 rfl rfl ?_
            refine x_getf (v := .int (nI k2)) d_T_alike_5 lf_T_9 q2.1 q2.2.1 ?_
            refine x_icmp_ne (tgt := 22) d_T_alike_8 rfl (fun q => absurd hk q) (fun q8 => ?_)
            refine x_aload_n d_T_alike_11 rfl rfl ?_
            refine x_getf (v := .int 0) d_T_alike_12 lf_T_15 q.1 q.2.2.1 ?_
            refine x_aload_n d_T_alike_15 rfl rfl ?_
            refine x_getf (v := .int 0) d_T_alike_16 lf_T_15 q2.1 q2.2.2.1 ?_
            refine x_icmp_eq (tgt := 24) d_T_alike_19 rfl (fun q19 => ?_) (fun q => absurd rfl q)
            refine x_aload_n d_T_alike_24 rfl rfl ?_
            refine x_invv d_T_alike_25 lm_T_42 (as := []) (S := []) (c_T_hasParts1 q) q.1 rfl rfl rfl (Nat.le_of_ble_eq_true rfl) (by omega) (Nat.le_refl 0) (Nat.le_refl 0) ?_
            rintro _ _ ⟨rfl, rfl⟩
            refine x_if_eq (tgt := 38) d_T_alike_28 rfl (fun q => absurd q (by decide)) (fun q28 => ?_)
            refine x_aload_n d_T_alike_31 rfl rfl ?_
            refine x_invv d_T_alike_32 lm_T_42 (as := []) (S := []) (c_T_hasParts1 q2) q2.1 rfl rfl rfl (Nat.le_of_ble_eq_true rfl) (by omega) (Nat.le_refl 0) (Nat.le_refl 0) ?_
            rintro _ _ ⟨rfl, rfl⟩
            refine x_if_ne (tgt := 40) d_T_alike_35 rfl (fun q35 => ?_) (fun q => absurd q (by decide))
            refine x_aload_n d_T_alike_40 rfl rfl ?_
            refine x_getf (v := .ref x1) d_T_alike_41 lf_T_18 q.1 g1 ?_
            refine x_aload_n d_T_alike_44 rfl rfl ?_
            refine x_getf (v := .ref x2) d_T_alike_45 lf_T_18 q2.1 g3 ?_
            refine x_invs d_T_alike_48 lm_T_45 (as := [.ref x1, .ref x2]) (S := []) (ihl _ x1 x2 (d - 1) 1 p1 p3 ok.2.1 ok2.2.1 (by omega) ⟨fun _ => rfl, fun z => absurd e1 z⟩) rfl rfl (Nat.le_of_ble_eq_true rfl) (by omega) (Nat.le_refl 0) (Nat.le_refl 0) ?_
            rintro _ _ ⟨rfl, rfl⟩
            refine x_if_eq (tgt := 72) d_T_alike_51 rfl (fun q => absurd q (by decide)) (fun q51 => ?_)
            refine x_aload_n d_T_alike_54 rfl rfl ?_
            refine x_getf (v := .ref y1) d_T_alike_55 lf_T_22 q.1 g2 ?_
            refine x_aload_n d_T_alike_58 rfl rfl ?_
            refine x_getf (v := .ref y2) d_T_alike_59 lf_T_22 q2.1 g4 ?_
            refine x_invs d_T_alike_62 lm_T_45 (as := [.ref y1, .ref y2]) (S := []) (ihr _ y1 y2 (d - 1) 1 p2 p4 ok.2.2 ok2.2.2 (by omega) ⟨fun _ => rfl, fun z => absurd e2 z⟩) rfl rfl (Nat.le_of_ble_eq_true rfl) (by omega) (Nat.le_refl 0) (Nat.le_refl 0) ?_
            rintro _ _ ⟨rfl, rfl⟩
            refine x_if_eq (tgt := 72) d_T_alike_65 rfl (fun q => absurd q (by decide)) (fun q65 => ?_)
            refine x_iconst (v := 1) d_T_alike_68 (by decide) ?_
            refine x_goto (tgt := 73) d_T_alike_69 rfl ?_
            exact x_iret d_T_alike_73 rfl rfl ⟨by rw [hr.1 (by rw [e1, e2, hkk])], rfl⟩
          · refine x_aload_n d_T_alike_0 rfl rfl ?_
            refine x_getf (v := .int (nI k)) d_T_alike_1 lf_T_9 q.1 q.2.1 ?_
            refine x_aload_n d_T_alike_4 rfl rfl ?_
            refine x_getf (v := .int (nI k2)) d_T_alike_5 lf_T_9 q2.1 q2.2.1 ?_
            refine x_icmp_ne (tgt := 22) d_T_alike_8 rfl (fun q => absurd hk q) (fun q8 => ?_)
            refine x_aload_n d_T_alike_11 rfl rfl ?_
            refine x_getf (v := .int 0) d_T_alike_12 lf_T_15 q.1 q.2.2.1 ?_
            refine x_aload_n d_T_alike_15 rfl rfl ?_
            refine x_getf (v := .int 0) d_T_alike_16 lf_T_15 q2.1 q2.2.2.1 ?_
            refine x_icmp_eq (tgt := 24) d_T_alike_19 rfl (fun q19 => ?_) (fun q => absurd rfl q)
            refine x_aload_n d_T_alike_24 rfl rfl ?_
            refine x_invv d_T_alike_25 lm_T_42 (as := []) (S := []) (c_T_hasParts1 q) q.1 rfl rfl rfl (Nat.le_of_ble_eq_true rfl) (by omega) (Nat.le_refl 0) (Nat.le_refl 0) ?_
            rintro _ _ ⟨rfl, rfl⟩
            refine x_if_eq (tgt := 38) d_T_alike_28 rfl (fun q => absurd q (by decide)) (fun q28 => ?_)
            refine x_aload_n d_T_alike_31 rfl rfl ?_
            refine x_invv d_T_alike_32 lm_T_42 (as := []) (S := []) (c_T_hasParts1 q2) q2.1 rfl rfl rfl (Nat.le_of_ble_eq_true rfl) (by omega) (Nat.le_refl 0) (Nat.le_refl 0) ?_
            rintro _ _ ⟨rfl, rfl⟩
            refine x_if_ne (tgt := 40) d_T_alike_35 rfl (fun q35 => ?_) (fun q => absurd q (by decide))
            refine x_aload_n d_T_alike_40 rfl rfl ?_
            refine x_getf (v := .ref x1) d_T_alike_41 lf_T_18 q.1 g1 ?_
            refine x_aload_n d_T_alike_44 rfl rfl ?_
            refine x_getf (v := .ref x2) d_T_alike_45 lf_T_18 q2.1 g3 ?_
            refine x_invs d_T_alike_48 lm_T_45 (as := [.ref x1, .ref x2]) (S := []) (ihl _ x1 x2 (d - 1) 1 p1 p3 ok.2.1 ok2.2.1 (by omega) ⟨fun _ => rfl, fun z => absurd e1 z⟩) rfl rfl (Nat.le_of_ble_eq_true rfl) (by omega) (Nat.le_refl 0) (Nat.le_refl 0) ?_
            rintro _ _ ⟨rfl, rfl⟩
            refine x_if_eq (tgt := 72) d_T_alike_51 rfl (fun q => absurd q (by decide)) (fun q51 => ?_)
            refine x_aload_n d_T_alike_54 rfl rfl ?_
            refine x_getf (v := .ref y1) d_T_alike_55 lf_T_22 q.1 g2 ?_
            refine x_aload_n d_T_alike_58 rfl rfl ?_
            refine x_getf (v := .ref y2) d_T_alike_59 lf_T_22 q2.1 g4 ?_
            refine x_invs d_T_alike_62 lm_T_45 (as := [.ref y1, .ref y2]) (S := []) (ihr _ y1 y2 (d - 1) 0 p2 p4 ok.2.2 ok2.2.2 (by omega) ⟨fun z => absurd z e2, fun _ => rfl⟩) rfl rfl (Nat.le_of_ble_eq_true rfl) (by omega) (Nat.le_refl 0) (Nat.le_refl 0) ?_
            rintro _ _ ⟨rfl, rfl⟩
            refine x_if_eq (tgt := 72) d_T_alike_65 rfl (fun q65 => ?_) (fun q => absurd rfl q)
            refine x_iconst (v := 0) d_T_alike_72 (by decide) ?_
            exact x_iret d_T_alike_73 rfl rfl ⟨by rw [hr.2 (fun z => e2 (by injection z))], rfl⟩
        · refine x_aload_n d_T_alike_0 rfl rfl ?_
          refine x_getf (v := .int (nI k)) d_T_alike_1 lf_T_9 q.1 q.2.1 ?_
          refine x_aload_n d_T_alike_4 rfl rfl ?_
          refine x_getf (v := .int (nI k2)) d_T_alike_5 lf_T_9 q2.1 q2.2.1 ?_
          refine x_icmp_ne (tgt := 22) d_T_alike_8 rfl (fun q => absurd hk q) (fun q8 => ?_)
          refine x_aload_n d_T_alike_11 rfl rfl ?_
          refine x_getf (v := .int 0) d_T_alike_12 lf_T_15 q.1 q.2.2.1 ?_
          refine x_aload_n d_T_alike_15 rfl rfl ?_
          refine x_getf (v := .int 0) d_T_alike_16 lf_T_15 q2.1 q2.2.2.1 ?_
          refine x_icmp_eq (tgt := 24) d_T_alike_19 rfl (fun q19 => ?_) (fun q => absurd rfl q)
          refine x_aload_n d_T_alike_24 rfl rfl ?_
          refine x_invv d_T_alike_25 lm_T_42 (as := []) (S := []) (c_T_hasParts1 q) q.1 rfl rfl rfl (Nat.le_of_ble_eq_true rfl) (by omega) (Nat.le_refl 0) (Nat.le_refl 0) ?_
          rintro _ _ ⟨rfl, rfl⟩
          refine x_if_eq (tgt := 38) d_T_alike_28 rfl (fun q => absurd q (by decide)) (fun q28 => ?_)
          refine x_aload_n d_T_alike_31 rfl rfl ?_
          refine x_invv d_T_alike_32 lm_T_42 (as := []) (S := []) (c_T_hasParts1 q2) q2.1 rfl rfl rfl (Nat.le_of_ble_eq_true rfl) (by omega) (Nat.le_refl 0) (Nat.le_refl 0) ?_
          rintro _ _ ⟨rfl, rfl⟩
          refine x_if_ne (tgt := 40) d_T_alike_35 rfl (fun q35 => ?_) (fun q => absurd q (by decide))
          refine x_aload_n d_T_alike_40 rfl rfl ?_
          refine x_getf (v := .ref x1) d_T_alike_41 lf_T_18 q.1 g1 ?_
          refine x_aload_n d_T_alike_44 rfl rfl ?_
          refine x_getf (v := .ref x2) d_T_alike_45 lf_T_18 q2.1 g3 ?_
          refine x_invs d_T_alike_48 lm_T_45 (as := [.ref x1, .ref x2]) (S := []) (ihl _ x1 x2 (d - 1) 0 p1 p3 ok.2.1 ok2.2.1 (by omega) ⟨fun z => absurd z e1, fun _ => rfl⟩) rfl rfl (Nat.le_of_ble_eq_true rfl) (by omega) (Nat.le_refl 0) (Nat.le_refl 0) ?_
          rintro _ _ ⟨rfl, rfl⟩
          refine x_if_eq (tgt := 72) d_T_alike_51 rfl (fun q51 => ?_) (fun q => absurd rfl q)
          refine x_iconst (v := 0) d_T_alike_72 (by decide) ?_
          exact x_iret d_T_alike_73 rfl rfl ⟨by rw [hr.2 (fun z => e1 (by injection z))], rfl⟩
      · exact c_T_alike_s q q2 hr hk
def mixM : Int32 → Tm → Int32
  | s, .leaf q => if q.1 = 0 ∨ q.1 = 1 ∨ q.1 = 2 then (s * 31 + q.1 + 1) * 31 + q.2 else s * 31 + q.1 + 1
  | s, .branch k l r => mixM (mixM (s * 31 + nI k + 1) l) r
theorem c_T_mixed {E : th_E} {h : th_H} : ∀ (t : Tm) (a : Nat) (s : Int32) (d : Nat), TR h t a → tOk t → tW t ≤ d → Xc E m_T_mixed d 0 0 [.int s, .ref a] h (Ex (some (.int (mixM s t))) h) := by
  intro t
  induction t with
  | leaf u =>
    intro a s d q ok hd
    simp only [tW] at hd
    refine Xc.of (by decide) (by simp [Value.category]) (Nat.le_of_ble_eq_true rfl) ?_
    show Xw E m_T_mixed d 0 0 0 [some (.int s), some (.ref a), none] [] h _
    by_cases hn : u.1 = 0 ∨ u.1 = 1 ∨ u.1 = 2
    · refine x_iload_n d_T_mixed_0 rfl rfl ?_
      refine x_bipush (v := 31) d_T_mixed_1 (by decide) ?_
      refine x_imul (v := (s * 31)) d_T_mixed_3 rfl ?_
      refine x_aload_n d_T_mixed_4 rfl rfl ?_
      refine x_getf (v := .int u.1) d_T_mixed_5 lf_T_9 q.1 q.2.1 ?_
      refine x_iadd (v := ((s * 31) + u.1)) d_T_mixed_8 rfl ?_
      refine x_iconst (v := 1) d_T_mixed_9 (by decide) ?_
      refine x_iadd (v := (((s * 31) + u.1) + 1)) d_T_mixed_10 rfl ?_
      refine x_istore_n d_T_mixed_11 rfl (by decide) (L' := [some (.int s), some (.ref a), some (.int (((s * 31) + u.1) + 1))]) rfl ?_
      refine x_aload_n d_T_mixed_12 rfl rfl ?_
      refine x_invv d_T_mixed_13 lm_T_31 (as := []) (S := []) (c_T_hasNumber q.1 q.2.1 ⟨fun _ => rfl, fun z => absurd hn z⟩) q.1 rfl rfl rfl (Nat.le_of_ble_eq_true rfl) (by omega) (Nat.le_refl 0) (Nat.le_refl 0) ?_
      rintro _ _ ⟨rfl, rfl⟩
      refine x_if_eq (tgt := 29) d_T_mixed_16 rfl (fun q => absurd q (by decide)) (fun q16 => ?_)
      refine x_iload_n d_T_mixed_19 rfl rfl ?_
      refine x_bipush (v := 31) d_T_mixed_20 (by decide) ?_
      refine x_imul (v := ((((s * 31) + u.1) + 1) * 31)) d_T_mixed_22 rfl ?_
      refine x_aload_n d_T_mixed_23 rfl rfl ?_
      refine x_getf (v := .int u.2) d_T_mixed_24 lf_T_15 q.1 q.2.2.1 ?_
      refine x_iadd (v := (((((s * 31) + u.1) + 1) * 31) + u.2)) d_T_mixed_27 rfl ?_
      exact x_iret d_T_mixed_28 rfl rfl ⟨by rw [mixM, if_pos hn], rfl⟩
    · refine x_iload_n d_T_mixed_0 rfl rfl ?_
      refine x_bipush (v := 31) d_T_mixed_1 (by decide) ?_
      refine x_imul (v := (s * 31)) d_T_mixed_3 rfl ?_
      refine x_aload_n d_T_mixed_4 rfl rfl ?_
      refine x_getf (v := .int u.1) d_T_mixed_5 lf_T_9 q.1 q.2.1 ?_
      refine x_iadd (v := ((s * 31) + u.1)) d_T_mixed_8 rfl ?_
      refine x_iconst (v := 1) d_T_mixed_9 (by decide) ?_
      refine x_iadd (v := (((s * 31) + u.1) + 1)) d_T_mixed_10 rfl ?_
      refine x_istore_n d_T_mixed_11 rfl (by decide) (L' := [some (.int s), some (.ref a), some (.int (((s * 31) + u.1) + 1))]) rfl ?_
      refine x_aload_n d_T_mixed_12 rfl rfl ?_
      refine x_invv d_T_mixed_13 lm_T_31 (as := []) (S := []) (c_T_hasNumber q.1 q.2.1 ⟨fun z => absurd z hn, fun _ => rfl⟩) q.1 rfl rfl rfl (Nat.le_of_ble_eq_true rfl) (by omega) (Nat.le_refl 0) (Nat.le_refl 0) ?_
      rintro _ _ ⟨rfl, rfl⟩
      refine x_if_eq (tgt := 29) d_T_mixed_16 rfl (fun q16 => ?_) (fun q => absurd rfl q)
      refine x_aload_n d_T_mixed_29 rfl rfl ?_
      refine x_invv d_T_mixed_30 lm_T_42 (as := []) (S := []) (c_T_hasParts0 q) q.1 rfl rfl rfl (Nat.le_of_ble_eq_true rfl) (by omega) (Nat.le_refl 0) (Nat.le_refl 0) ?_
      rintro _ _ ⟨rfl, rfl⟩
      refine x_if_ne (tgt := 38) d_T_mixed_33 rfl (fun q => absurd rfl q) (fun q33 => ?_)
      refine x_iload_n d_T_mixed_36 rfl rfl ?_
      exact x_iret d_T_mixed_37 rfl rfl ⟨by rw [mixM, if_neg hn], rfl⟩
  | branch k l r ihl ihr =>
    intro a s d q ok hd
    simp only [tW] at hd
    have hwl := tW_pos l
    have hwr := tW_pos r
    have hn := tOk_br ok
    obtain ⟨x1, g1, p1⟩ := q.2.2.2.1
    obtain ⟨y1, g2, p2⟩ := q.2.2.2.2.1
    refine Xc.of (by decide) (by simp [Value.category]) (Nat.le_of_ble_eq_true rfl) ?_
    show Xw E m_T_mixed d 0 0 0 [some (.int s), some (.ref a), none] [] h _
    refine x_iload_n d_T_mixed_0 rfl rfl ?_
    refine x_bipush (v := 31) d_T_mixed_1 (by decide) ?_
    refine x_imul (v := (s * 31)) d_T_mixed_3 rfl ?_
    refine x_aload_n d_T_mixed_4 rfl rfl ?_
    refine x_getf (v := .int (nI k)) d_T_mixed_5 lf_T_9 q.1 q.2.1 ?_
    refine x_iadd (v := ((s * 31) + (nI k))) d_T_mixed_8 rfl ?_
    refine x_iconst (v := 1) d_T_mixed_9 (by decide) ?_
    refine x_iadd (v := (((s * 31) + (nI k)) + 1)) d_T_mixed_10 rfl ?_
    refine x_istore_n d_T_mixed_11 rfl (by decide) (L' := [some (.int s), some (.ref a), some (.int (((s * 31) + (nI k)) + 1))]) rfl ?_
    refine x_aload_n d_T_mixed_12 rfl rfl ?_
    refine x_invv d_T_mixed_13 lm_T_31 (as := []) (S := []) (c_T_hasNumber q.1 q.2.1 ⟨fun z => absurd z hn, fun _ => rfl⟩) q.1 rfl rfl rfl (Nat.le_of_ble_eq_true rfl) (by omega) (Nat.le_refl 0) (Nat.le_refl 0) ?_
    rintro _ _ ⟨rfl, rfl⟩
    refine x_if_eq (tgt := 29) d_T_mixed_16 rfl (fun q16 => ?_) (fun q => absurd rfl q)
    refine x_aload_n d_T_mixed_29 rfl rfl ?_
    refine x_invv d_T_mixed_30 lm_T_42 (as := []) (S := []) (c_T_hasParts1 q) q.1 rfl rfl rfl (Nat.le_of_ble_eq_true rfl) (by omega) (Nat.le_refl 0) (Nat.le_refl 0) ?_
    rintro _ _ ⟨rfl, rfl⟩
    refine x_if_ne (tgt := 38) d_T_mixed_33 rfl (fun q33 => ?_) (fun q => absurd q (by decide))
    refine x_iload_n d_T_mixed_38 rfl rfl ?_
    refine x_aload_n d_T_mixed_39 rfl rfl ?_
    refine x_getf (v := .ref x1) d_T_mixed_40 lf_T_18 q.1 g1 ?_
    refine x_invs d_T_mixed_43 lm_T_49 (as := [.int (((s * 31) + (nI k)) + 1), .ref x1]) (S := []) (ihl x1 (s * 31 + nI k + 1) (d - 1) p1 ok.2.1 (by omega)) rfl rfl (Nat.le_of_ble_eq_true rfl) (by omega) (Nat.le_refl 0) (Nat.le_refl 0) ?_
    rintro _ _ ⟨rfl, rfl⟩
    refine x_aload_n d_T_mixed_46 rfl rfl ?_
    refine x_getf (v := .ref y1) d_T_mixed_47 lf_T_22 q.1 g2 ?_
    refine x_invs d_T_mixed_50 lm_T_49 (as := [.int (mixM (s * 31 + nI k + 1) l), .ref y1]) (S := []) (ihr y1 (mixM (s * 31 + nI k + 1) l) (d - 1) p2 ok.2.2 (by omega)) rfl rfl (Nat.le_of_ble_eq_true rfl) (by omega) (Nat.le_refl 0) (Nat.le_refl 0) ?_
    rintro _ _ ⟨rfl, rfl⟩
    exact x_iret d_T_mixed_53 rfl rfl ⟨rfl, rfl⟩
end
section
/-! Program (printed by wip/gen/mod_prog.py). -/
/-- an operand that its limit lets through -/
def fitP (lim v : Int32) : Prop := lim = 0 ∨ (¬ v < 0 ∧ v < lim)
theorem i32_nlt {x y : Int32} (h : ¬ y ≤ x) : x < y := by
  refine Int32.lt_iff_toInt_lt.mpr ?_
  have h1 : ¬ y.toInt ≤ x.toInt := fun z => h (Int32.le_iff_toInt_le.mpr z)
  omega
theorem i32_nle {x y : Int32} (h : y ≤ x) : ¬ x < y := fun z => by
  have h1 := Int32.le_iff_toInt_le.mp h
  have h2 := Int32.lt_iff_toInt_lt.mp z
  omega
theorem c_G_fits {E : th_E} {h : th_H} (v lim r : Int32) (hr : (fitP lim v → r = 1) ∧ (¬ fitP lim v → r = 0)) : Xc E m_G_fits 0 0 0 [.int v, .int lim] h (Ex (some (.int r)) h) := by
  refine Xc.of (by decide) (by simp [Value.category]) (Nat.le_of_ble_eq_true rfl) ?_
  show Xw E m_G_fits 0 0 0 0 [some (.int v), some (.int lim)] [] h _
  refine x_iload_n d_G_fits_0 rfl rfl ?_
  refine x_if_eq (tgt := 13) d_G_fits_1 rfl (fun q1 => ?_) (fun q1 => ?_)
  · obtain rfl : r = 1 := hr.1 (Or.inl q1)
    refine x_iconst (v := 1) d_G_fits_13 (by decide) ?_
    refine x_goto (tgt := 18) d_G_fits_14 rfl ?_
    exact x_iret d_G_fits_18 rfl rfl ⟨rfl, rfl⟩
  · refine x_iload_n d_G_fits_4 rfl rfl ?_
    refine x_if_lt (tgt := 17) d_G_fits_5 rfl (fun q5 => ?_) (fun q5 => ?_)
    · obtain rfl : r = 0 := hr.2 (fun z => z.elim q1 (fun z => z.1 q5))
      refine x_iconst (v := 0) d_G_fits_17 (by decide) ?_
      exact x_iret d_G_fits_18 rfl rfl ⟨rfl, rfl⟩
    · refine x_iload_n d_G_fits_8 rfl rfl ?_
      refine x_iload_n d_G_fits_9 rfl rfl ?_
      refine x_icmp_ge (tgt := 17) d_G_fits_10 rfl (fun q10 => ?_) (fun q10 => ?_)
      · obtain rfl : r = 0 := hr.2 (fun z => z.elim q1 (fun z => i32_nle q10 z.2))
        refine x_iconst (v := 0) d_G_fits_17 (by decide) ?_
        exact x_iret d_G_fits_18 rfl rfl ⟨rfl, rfl⟩
      · obtain rfl : r = 1 := hr.1 (Or.inr ⟨q5, i32_nlt q10⟩)
        refine x_iconst (v := 1) d_G_fits_13 (by decide) ?_
        refine x_goto (tgt := 18) d_G_fits_14 rfl ?_
        exact x_iret d_G_fits_18 rfl rfl ⟨rfl, rfl⟩
theorem c_G_append_no {E : th_E} {h : th_H} {g ga tl n : Nat} {lim : Nat → Int32} (k1 : gk h g = some (.inl 5)) (k2 : gk h ga = some (.inr (1, 192))) (f0 : gF h 5 0 g = .ref ga) (f1 : gF h 5 1 g = .int (nI n)) (hn : n ≤ 48) (hE : E.2.2.2.2 0 = .ref tl) (k3 : gk h tl = some (.inr (0, 81))) (fl : ∀ i, i < 81 → gA h 0 tl i = .int (lim i)) (op a b c : Int32) (bad : 48 ≤ n ∨ op < 0 ∨ 27 ≤ op ∨ ∃ o : Nat, o < 27 ∧ op = nI o ∧ ¬ (fitP (lim (3 * o)) a ∧ fitP (lim (3 * o + 1)) b ∧ fitP (lim (3 * o + 2)) c)) : Xc E m_G_append 1 0 0 [.ref g, .int op, .int a, .int b, .int c] h (Ex (some (.int (-1))) h) := by
  rcases bad with hb | hb | hb | ⟨o, ho, rfl, hb⟩
  · refine Xc.of (by decide) (by simp [Value.category]) (Nat.le_of_ble_eq_true rfl) ?_
    show Xw E m_G_append 1 0 0 0 [some (.ref g), some (.int op), some (.int a), some (.int b), some (.int c), none, none] [] h _
    refine x_aload_n d_G_append_0 rfl rfl ?_
    refine x_getf (v := .int (nI n)) d_G_append_1 lf_G_15 k1 f1 ?_
    refine x_bipush (v := 48) d_G_append_4 (by decide) ?_
    refine x_icmp_ge (tgt := 19) d_G_append_6 rfl (fun q6 => ?_) (fun q => absurd (nI_le (a := 48) hb (by omega)) q)
    refine x_iconst (v := (-1)) d_G_append_19 (by decide) ?_
    exact x_iret d_G_append_20 rfl rfl ⟨rfl, rfl⟩
  · by_cases hn48 : n < 48
    · refine Xc.of (by decide) (by simp [Value.category]) (Nat.le_of_ble_eq_true rfl) ?_
      show Xw E m_G_append 1 0 0 0 [some (.ref g), some (.int op), some (.int a), some (.int b), some (.int c), none, none] [] h _
      refine x_aload_n d_G_append_0 rfl rfl ?_
      refine x_getf (v := .int (nI n)) d_G_append_1 lf_G_15 k1 f1 ?_
      refine x_bipush (v := 48) d_G_append_4 (by decide) ?_
      refine x_icmp_ge (tgt := 19) d_G_append_6 rfl (fun q => absurd q (nI_ge (b := 48) hn48 (by decide))) (fun q6 => ?_)
      refine x_iload_n d_G_append_9 rfl rfl ?_
      refine x_if_lt (tgt := 19) d_G_append_10 rfl (fun q10 => ?_) (fun q => absurd hb q)
      refine x_iconst (v := (-1)) d_G_append_19 (by decide) ?_
      exact x_iret d_G_append_20 rfl rfl ⟨rfl, rfl⟩
    · have hb : 48 ≤ n := by omega
      refine Xc.of (by decide) (by simp [Value.category]) (Nat.le_of_ble_eq_true rfl) ?_
      show Xw E m_G_append 1 0 0 0 [some (.ref g), some (.int op), some (.int a), some (.int b), some (.int c), none, none] [] h _
      refine x_aload_n d_G_append_0 rfl rfl ?_
      refine x_getf (v := .int (nI n)) d_G_append_1 lf_G_15 k1 f1 ?_
      refine x_bipush (v := 48) d_G_append_4 (by decide) ?_
      refine x_icmp_ge (tgt := 19) d_G_append_6 rfl (fun q6 => ?_) (fun q => absurd (nI_le (a := 48) hb (by omega)) q)
      refine x_iconst (v := (-1)) d_G_append_19 (by decide) ?_
      exact x_iret d_G_append_20 rfl rfl ⟨rfl, rfl⟩
  · by_cases hn48 : n < 48
    · by_cases hop : op < 0
      · have hb := hop
        refine Xc.of (by decide) (by simp [Value.category]) (Nat.le_of_ble_eq_true rfl) ?_
        show Xw E m_G_append 1 0 0 0 [some (.ref g), some (.int op), some (.int a), some (.int b), some (.int c), none, none] [] h _
        refine x_aload_n d_G_append_0 rfl rfl ?_
        refine x_getf (v := .int (nI n)) d_G_append_1 lf_G_15 k1 f1 ?_
        refine x_bipush (v := 48) d_G_append_4 (by decide) ?_
        refine x_icmp_ge (tgt := 19) d_G_append_6 rfl (fun q => absurd q (nI_ge (b := 48) hn48 (by decide))) (fun q6 => ?_)
        refine x_iload_n d_G_append_9 rfl rfl ?_
        refine x_if_lt (tgt := 19) d_G_append_10 rfl (fun q10 => ?_) (fun q => absurd hb q)
        refine x_iconst (v := (-1)) d_G_append_19 (by decide) ?_
        exact x_iret d_G_append_20 rfl rfl ⟨rfl, rfl⟩
      · refine Xc.of (by decide) (by simp [Value.category]) (Nat.le_of_ble_eq_true rfl) ?_
        show Xw E m_G_append 1 0 0 0 [some (.ref g), some (.int op), some (.int a), some (.int b), some (.int c), none, none] [] h _
        refine x_aload_n d_G_append_0 rfl rfl ?_
        refine x_getf (v := .int (nI n)) d_G_append_1 lf_G_15 k1 f1 ?_
        refine x_bipush (v := 48) d_G_append_4 (by decide) ?_
        refine x_icmp_ge (tgt := 19) d_G_append_6 rfl (fun q => absurd q (nI_ge (b := 48) hn48 (by decide))) (fun q6 => ?_)
        refine x_iload_n d_G_append_9 rfl rfl ?_
        refine x_if_lt (tgt := 19) d_G_append_10 rfl (fun q => absurd q hop) (fun q10 => ?_)
        refine x_iload_n d_G_append_13 rfl rfl ?_
        refine x_bipush (v := 27) d_G_append_14 (by decide) ?_
        refine x_icmp_lt (tgt := 21) d_G_append_16 rfl (fun q => absurd q (i32_nle hb)) (fun q16 => ?_)
        refine x_iconst (v := (-1)) d_G_append_19 (by decide) ?_
        exact x_iret d_G_append_20 rfl rfl ⟨rfl, rfl⟩
    · have hb : 48 ≤ n := by omega
      refine Xc.of (by decide) (by simp [Value.category]) (Nat.le_of_ble_eq_true rfl) ?_
      show Xw E m_G_append 1 0 0 0 [some (.ref g), some (.int op), some (.int a), some (.int b), some (.int c), none, none] [] h _
      refine x_aload_n d_G_append_0 rfl rfl ?_
      refine x_getf (v := .int (nI n)) d_G_append_1 lf_G_15 k1 f1 ?_
      refine x_bipush (v := 48) d_G_append_4 (by decide) ?_
      refine x_icmp_ge (tgt := 19) d_G_append_6 rfl (fun q6 => ?_) (fun q => absurd (nI_le (a := 48) hb (by omega)) q)
      refine x_iconst (v := (-1)) d_G_append_19 (by decide) ?_
      exact x_iret d_G_append_20 rfl rfl ⟨rfl, rfl⟩
  · by_cases hn48 : n < 48
    · by_cases ha : fitP (lim (3 * o)) a
      · by_cases hbb : fitP (lim (3 * o + 1)) b
        · have hb : ¬ fitP (lim (3 * o + 2)) c := fun z => hb ⟨ha, hbb, z⟩
          refine Xc.of (by decide) (by simp [Value.category]) (Nat.le_of_ble_eq_true rfl) ?_
          show Xw E m_G_append 1 0 0 0 [some (.ref g), some (.int (nI o)), some (.int a), some (.int b), some (.int c), none, none] [] h _
          refine x_aload_n d_G_append_0 rfl rfl ?_
          refine x_getf (v := .int (nI n)) d_G_append_1 lf_G_15 k1 f1 ?_
          refine x_bipush (v := 48) d_G_append_4 (by decide) ?_
          refine x_icmp_ge (tgt := 19) d_G_append_6 rfl (fun q => absurd q (nI_ge (b := 48) hn48 (by decide))) (fun q6 => ?_)
          refine x_iload_n d_G_append_9 rfl rfl ?_
          refine x_if_lt (tgt := 19) d_G_append_10 rfl (fun q => absurd q (nI_pos (by omega))) (fun q10 => ?_)
          refine x_iload_n d_G_append_13 rfl rfl ?_
          refine x_bipush (v := 27) d_G_append_14 (by decide) ?_
          refine x_icmp_lt (tgt := 21) d_G_append_16 rfl (fun q16 => ?_) (fun q => absurd (nI_lt (b := 27) ho (by decide)) q)
          refine x_iconst (v := 3) d_G_append_21 (by decide) ?_
          refine x_iload_n d_G_append_22 rfl rfl ?_
          refine x_imul (v := (nI (3 * o))) d_G_append_23 (pk_mul 3 o) ?_
          refine x_istore d_G_append_24 (by decide) (L' := [some (.ref g), some (.int (nI o)), some (.int a), some (.int b), some (.int c), some (.int (nI (3 * o))), none]) rfl ?_
          refine x_iload_n d_G_append_26 rfl rfl ?_
          refine x_getsN (k := 0) d_G_append_27 rfl (tbl1 (List.mem_of_getElem? (i := 226) rfl)) ?_
          rw [hE]
          refine x_iload d_G_append_30 rfl ?_
          refine x_iald (v := .int (lim (3 * o))) d_G_append_32 k3 rfl (vp_in_nI (by omega) (by decide)) (by rw [nI_cl (by omega)]; exact fl (3 * o) (by omega)) ?_
          refine x_invs d_G_append_33 lm_G_22 (as := [.int a, .int (lim (3 * o))]) (S := []) (c_G_fits a (lim (3 * o)) 1 ⟨fun _ => rfl, fun z => absurd ha z⟩) rfl rfl (Nat.le_of_ble_eq_true rfl) (Nat.le_refl 1) (Nat.le_refl 0) (Nat.le_refl 0) ?_
          rintro _ _ ⟨rfl, rfl⟩
          refine x_if_eq (tgt := 70) d_G_append_36 rfl (fun q => absurd q (by decide)) (fun q36 => ?_)
          refine x_iload_n d_G_append_39 rfl rfl ?_
          refine x_getsN (k := 0) d_G_append_40 rfl (tbl1 (List.mem_of_getElem? (i := 226) rfl)) ?_
          rw [hE]
          refine x_iload d_G_append_43 rfl ?_
          refine x_iconst (v := 1) d_G_append_45 (by decide) ?_
          refine x_iadd (v := (nI (3 * o + 1))) d_G_append_46 (nI_1 _) ?_
          refine x_iald (v := .int (lim (3 * o + 1))) d_G_append_47 k3 rfl (vp_in_nI (by omega) (by decide)) (by rw [nI_cl (by omega)]; exact fl (3 * o + 1) (by omega)) ?_
          refine x_invs d_G_append_48 lm_G_22 (as := [.int b, .int (lim (3 * o + 1))]) (S := []) (c_G_fits b (lim (3 * o + 1)) 1 ⟨fun _ => rfl, fun z => absurd hbb z⟩) rfl rfl (Nat.le_of_ble_eq_true rfl) (Nat.le_refl 1) (Nat.le_refl 0) (Nat.le_refl 0) ?_
          rintro _ _ ⟨rfl, rfl⟩
          refine x_if_eq (tgt := 70) d_G_append_51 rfl (fun q => absurd q (by decide)) (fun q51 => ?_)
          refine x_iload d_G_append_54 rfl ?_
          refine x_getsN (k := 0) d_G_append_56 rfl (tbl1 (List.mem_of_getElem? (i := 226) rfl)) ?_
          rw [hE]
          refine x_iload d_G_append_59 rfl ?_
          refine x_iconst (v := 2) d_G_append_61 (by decide) ?_
          refine x_iadd (v := (nI (3 * o + 2))) d_G_append_62 (nI_add (3 * o) 2) ?_
          refine x_iald (v := .int (lim (3 * o + 2))) d_G_append_63 k3 rfl (vp_in_nI (by omega) (by decide)) (by rw [nI_cl (by omega)]; exact fl (3 * o + 2) (by omega)) ?_
          refine x_invs d_G_append_64 lm_G_22 (as := [.int c, .int (lim (3 * o + 2))]) (S := []) (c_G_fits c (lim (3 * o + 2)) 0 ⟨fun z => absurd z hb, fun _ => rfl⟩) rfl rfl (Nat.le_of_ble_eq_true rfl) (Nat.le_refl 1) (Nat.le_refl 0) (Nat.le_refl 0) ?_
          rintro _ _ ⟨rfl, rfl⟩
          refine x_if_ne (tgt := 72) d_G_append_67 rfl (fun q => absurd rfl q) (fun q67 => ?_)
          refine x_iconst (v := (-1)) d_G_append_70 (by decide) ?_
          exact x_iret d_G_append_71 rfl rfl ⟨rfl, rfl⟩
        · have hb := hbb
          refine Xc.of (by decide) (by simp [Value.category]) (Nat.le_of_ble_eq_true rfl) ?_
          show Xw E m_G_append 1 0 0 0 [some (.ref g), some (.int (nI o)), some (.int a), some (.int b), some (.int c), none, none] [] h _
          refine x_aload_n d_G_append_0 rfl rfl ?_
          refine x_getf (v := .int (nI n)) d_G_append_1 lf_G_15 k1 f1 ?_
          refine x_bipush (v := 48) d_G_append_4 (by decide) ?_
          refine x_icmp_ge (tgt := 19) d_G_append_6 rfl (fun q => absurd q (nI_ge (b := 48) hn48 (by decide))) (fun q6 => ?_)
          refine x_iload_n d_G_append_9 rfl rfl ?_
          refine x_if_lt (tgt := 19) d_G_append_10 rfl (fun q => absurd q (nI_pos (by omega))) (fun q10 => ?_)
          refine x_iload_n d_G_append_13 rfl rfl ?_
          refine x_bipush (v := 27) d_G_append_14 (by decide) ?_
          refine x_icmp_lt (tgt := 21) d_G_append_16 rfl (fun q16 => ?_) (fun q => absurd (nI_lt (b := 27) ho (by decide)) q)
          refine x_iconst (v := 3) d_G_append_21 (by decide) ?_
          refine x_iload_n d_G_append_22 rfl rfl ?_
          refine x_imul (v := (nI (3 * o))) d_G_append_23 (pk_mul 3 o) ?_
          refine x_istore d_G_append_24 (by decide) (L' := [some (.ref g), some (.int (nI o)), some (.int a), some (.int b), some (.int c), some (.int (nI (3 * o))), none]) rfl ?_
          refine x_iload_n d_G_append_26 rfl rfl ?_
          refine x_getsN (k := 0) d_G_append_27 rfl (tbl1 (List.mem_of_getElem? (i := 226) rfl)) ?_
          rw [hE]
          refine x_iload d_G_append_30 rfl ?_
          refine x_iald (v := .int (lim (3 * o))) d_G_append_32 k3 rfl (vp_in_nI (by omega) (by decide)) (by rw [nI_cl (by omega)]; exact fl (3 * o) (by omega)) ?_
          refine x_invs d_G_append_33 lm_G_22 (as := [.int a, .int (lim (3 * o))]) (S := []) (c_G_fits a (lim (3 * o)) 1 ⟨fun _ => rfl, fun z => absurd ha z⟩) rfl rfl (Nat.le_of_ble_eq_true rfl) (Nat.le_refl 1) (Nat.le_refl 0) (Nat.le_refl 0) ?_
          rintro _ _ ⟨rfl, rfl⟩
          refine x_if_eq (tgt := 70) d_G_append_36 rfl (fun q => absurd q (by decide)) (fun q36 => ?_)
          refine x_iload_n d_G_append_39 rfl rfl ?_
          refine x_getsN (k := 0) d_G_append_40 rfl (tbl1 (List.mem_of_getElem? (i := 226) rfl)) ?_
          rw [hE]
          refine x_iload d_G_append_43 rfl ?_
          refine x_iconst (v := 1) d_G_append_45 (by decide) ?_
          refine x_iadd (v := (nI (3 * o + 1))) d_G_append_46 (nI_1 _) ?_
          refine x_iald (v := .int (lim (3 * o + 1))) d_G_append_47 k3 rfl (vp_in_nI (by omega) (by decide)) (by rw [nI_cl (by omega)]; exact fl (3 * o + 1) (by omega)) ?_
          refine x_invs d_G_append_48 lm_G_22 (as := [.int b, .int (lim (3 * o + 1))]) (S := []) (c_G_fits b (lim (3 * o + 1)) 0 ⟨fun z => absurd z hb, fun _ => rfl⟩) rfl rfl (Nat.le_of_ble_eq_true rfl) (Nat.le_refl 1) (Nat.le_refl 0) (Nat.le_refl 0) ?_
          rintro _ _ ⟨rfl, rfl⟩
          refine x_if_eq (tgt := 70) d_G_append_51 rfl (fun q51 => ?_) (fun q => absurd rfl q)
          refine x_iconst (v := (-1)) d_G_append_70 (by decide) ?_
          exact x_iret d_G_append_71 rfl rfl ⟨rfl, rfl⟩
      · have hb := ha
        refine Xc.of (by decide) (by simp [Value.category]) (Nat.le_of_ble_eq_true rfl) ?_
        show Xw E m_G_append 1 0 0 0 [some (.ref g), some (.int (nI o)), some (.int a), some (.int b), some (.int c), none, none] [] h _
        refine x_aload_n d_G_append_0 rfl rfl ?_
        refine x_getf (v := .int (nI n)) d_G_append_1 lf_G_15 k1 f1 ?_
        refine x_bipush (v := 48) d_G_append_4 (by decide) ?_
        refine x_icmp_ge (tgt := 19) d_G_append_6 rfl (fun q => absurd q (nI_ge (b := 48) hn48 (by decide))) (fun q6 => ?_)
        refine x_iload_n d_G_append_9 rfl rfl ?_
        refine x_if_lt (tgt := 19) d_G_append_10 rfl (fun q => absurd q (nI_pos (by omega))) (fun q10 => ?_)
        refine x_iload_n d_G_append_13 rfl rfl ?_
        refine x_bipush (v := 27) d_G_append_14 (by decide) ?_
        refine x_icmp_lt (tgt := 21) d_G_append_16 rfl (fun q16 => ?_) (fun q => absurd (nI_lt (b := 27) ho (by decide)) q)
        refine x_iconst (v := 3) d_G_append_21 (by decide) ?_
        refine x_iload_n d_G_append_22 rfl rfl ?_
        refine x_imul (v := (nI (3 * o))) d_G_append_23 (pk_mul 3 o) ?_
        refine x_istore d_G_append_24 (by decide) (L' := [some (.ref g), some (.int (nI o)), some (.int a), some (.int b), some (.int c), some (.int (nI (3 * o))), none]) rfl ?_
        refine x_iload_n d_G_append_26 rfl rfl ?_
        refine x_getsN (k := 0) d_G_append_27 rfl (tbl1 (List.mem_of_getElem? (i := 226) rfl)) ?_
        rw [hE]
        refine x_iload d_G_append_30 rfl ?_
        refine x_iald (v := .int (lim (3 * o))) d_G_append_32 k3 rfl (vp_in_nI (by omega) (by decide)) (by rw [nI_cl (by omega)]; exact fl (3 * o) (by omega)) ?_
        refine x_invs d_G_append_33 lm_G_22 (as := [.int a, .int (lim (3 * o))]) (S := []) (c_G_fits a (lim (3 * o)) 0 ⟨fun z => absurd z hb, fun _ => rfl⟩) rfl rfl (Nat.le_of_ble_eq_true rfl) (Nat.le_refl 1) (Nat.le_refl 0) (Nat.le_refl 0) ?_
        rintro _ _ ⟨rfl, rfl⟩
        refine x_if_eq (tgt := 70) d_G_append_36 rfl (fun q36 => ?_) (fun q => absurd rfl q)
        refine x_iconst (v := (-1)) d_G_append_70 (by decide) ?_
        exact x_iret d_G_append_71 rfl rfl ⟨rfl, rfl⟩
    · have hb : 48 ≤ n := by omega
      refine Xc.of (by decide) (by simp [Value.category]) (Nat.le_of_ble_eq_true rfl) ?_
      show Xw E m_G_append 1 0 0 0 [some (.ref g), some (.int (nI o)), some (.int a), some (.int b), some (.int c), none, none] [] h _
      refine x_aload_n d_G_append_0 rfl rfl ?_
      refine x_getf (v := .int (nI n)) d_G_append_1 lf_G_15 k1 f1 ?_
      refine x_bipush (v := 48) d_G_append_4 (by decide) ?_
      refine x_icmp_ge (tgt := 19) d_G_append_6 rfl (fun q6 => ?_) (fun q => absurd (nI_le (a := 48) hb (by omega)) q)
      refine x_iconst (v := (-1)) d_G_append_19 (by decide) ?_
      exact x_iret d_G_append_20 rfl rfl ⟨rfl, rfl⟩
theorem c_G_append {E : th_E} {h : th_H} {g ga tl n : Nat} {lim : Nat → Int32} (k1 : gk h g = some (.inl 5)) (k2 : gk h ga = some (.inr (1, 192))) (f0 : gF h 5 0 g = .ref ga) (f1 : gF h 5 1 g = .int (nI n)) (hn : n ≤ 48) (hE : E.2.2.2.2 0 = .ref tl) (k3 : gk h tl = some (.inr (0, 81))) (fl : ∀ i, i < 81 → gA h 0 tl i = .int (lim i)) (o : Nat) (ho : o < 27) (a b c : Int32) (hn48 : n < 48) (ha : fitP (lim (3 * o)) a) (hb : fitP (lim (3 * o + 1)) b) (hc : fitP (lim (3 * o + 2)) c) : Xc E m_G_append 1 0 0 [.ref g, .int (nI o), .int a, .int b, .int c] h (Ex (some (.int (nI n))) (gpF (gpA (gpA (gpA (gpA h 1 ga (4 * n) (.int (nI o))) 1 ga (4 * n + 1) (.int a)) 1 ga (4 * n + 2) (.int b)) 1 ga (4 * n + 3) (.int c)) 5 1 g (.int (nI (n + 1))))) := by
  refine Xc.of (by decide) (by simp [Value.category]) (Nat.le_of_ble_eq_true rfl) ?_
  show Xw E m_G_append 1 0 0 0 [some (.ref g), some (.int (nI o)), some (.int a), some (.int b), some (.int c), none, none] [] h _
  refine x_aload_n d_G_append_0 rfl rfl ?_
  refine x_getf (v := .int (nI n)) d_G_append_1 lf_G_15 k1 f1 ?_
  refine x_bipush (v := 48) d_G_append_4 (by decide) ?_
  refine x_icmp_ge (tgt := 19) d_G_append_6 rfl (fun q => absurd q (nI_ge (b := 48) hn48 (by decide))) (fun q6 => ?_)
  refine x_iload_n d_G_append_9 rfl rfl ?_
  refine x_if_lt (tgt := 19) d_G_append_10 rfl (fun q => absurd q (nI_pos (by omega))) (fun q10 => ?_)
  refine x_iload_n d_G_append_13 rfl rfl ?_
  refine x_bipush (v := 27) d_G_append_14 (by decide) ?_
  refine x_icmp_lt (tgt := 21) d_G_append_16 rfl (fun q16 => ?_) (fun q => absurd (nI_lt (b := 27) ho (by decide)) q)
  refine x_iconst (v := 3) d_G_append_21 (by decide) ?_
  refine x_iload_n d_G_append_22 rfl rfl ?_
  refine x_imul (v := (nI (3 * o))) d_G_append_23 (pk_mul 3 o) ?_
  refine x_istore d_G_append_24 (by decide) (L' := [some (.ref g), some (.int (nI o)), some (.int a), some (.int b), some (.int c), some (.int (nI (3 * o))), none]) rfl ?_
  refine x_iload_n d_G_append_26 rfl rfl ?_
  refine x_getsN (k := 0) d_G_append_27 rfl (tbl1 (List.mem_of_getElem? (i := 226) rfl)) ?_
  rw [hE]
  refine x_iload d_G_append_30 rfl ?_
  refine x_iald (v := .int (lim (3 * o))) d_G_append_32 k3 rfl (vp_in_nI (by omega) (by decide)) (by rw [nI_cl (by omega)]; exact fl (3 * o) (by omega)) ?_
  refine x_invs d_G_append_33 lm_G_22 (as := [.int a, .int (lim (3 * o))]) (S := []) (c_G_fits a (lim (3 * o)) 1 ⟨fun _ => rfl, fun z => absurd ha z⟩) rfl rfl (Nat.le_of_ble_eq_true rfl) (Nat.le_refl 1) (Nat.le_refl 0) (Nat.le_refl 0) ?_
  rintro _ _ ⟨rfl, rfl⟩
  refine x_if_eq (tgt := 70) d_G_append_36 rfl (fun q => absurd q (by decide)) (fun q36 => ?_)
  refine x_iload_n d_G_append_39 rfl rfl ?_
  refine x_getsN (k := 0) d_G_append_40 rfl (tbl1 (List.mem_of_getElem? (i := 226) rfl)) ?_
  rw [hE]
  refine x_iload d_G_append_43 rfl ?_
  refine x_iconst (v := 1) d_G_append_45 (by decide) ?_
  refine x_iadd (v := (nI (3 * o + 1))) d_G_append_46 (nI_1 _) ?_
  refine x_iald (v := .int (lim (3 * o + 1))) d_G_append_47 k3 rfl (vp_in_nI (by omega) (by decide)) (by rw [nI_cl (by omega)]; exact fl (3 * o + 1) (by omega)) ?_
  refine x_invs d_G_append_48 lm_G_22 (as := [.int b, .int (lim (3 * o + 1))]) (S := []) (c_G_fits b (lim (3 * o + 1)) 1 ⟨fun _ => rfl, fun z => absurd hb z⟩) rfl rfl (Nat.le_of_ble_eq_true rfl) (Nat.le_refl 1) (Nat.le_refl 0) (Nat.le_refl 0) ?_
  rintro _ _ ⟨rfl, rfl⟩
  refine x_if_eq (tgt := 70) d_G_append_51 rfl (fun q => absurd q (by decide)) (fun q51 => ?_)
  refine x_iload d_G_append_54 rfl ?_
  refine x_getsN (k := 0) d_G_append_56 rfl (tbl1 (List.mem_of_getElem? (i := 226) rfl)) ?_
  rw [hE]
  refine x_iload d_G_append_59 rfl ?_
  refine x_iconst (v := 2) d_G_append_61 (by decide) ?_
  refine x_iadd (v := (nI (3 * o + 2))) d_G_append_62 (nI_add (3 * o) 2) ?_
  refine x_iald (v := .int (lim (3 * o + 2))) d_G_append_63 k3 rfl (vp_in_nI (by omega) (by decide)) (by rw [nI_cl (by omega)]; exact fl (3 * o + 2) (by omega)) ?_
  refine x_invs d_G_append_64 lm_G_22 (as := [.int c, .int (lim (3 * o + 2))]) (S := []) (c_G_fits c (lim (3 * o + 2)) 1 ⟨fun _ => rfl, fun z => absurd hc z⟩) rfl rfl (Nat.le_of_ble_eq_true rfl) (Nat.le_refl 1) (Nat.le_refl 0) (Nat.le_refl 0) ?_
  rintro _ _ ⟨rfl, rfl⟩
  refine x_if_ne (tgt := 72) d_G_append_67 rfl (fun q67 => ?_) (fun q => absurd q (by decide))
  refine x_iconst (v := 4) d_G_append_72 (by decide) ?_
  refine x_aload_n d_G_append_73 rfl rfl ?_
  refine x_getf (v := .int (nI n)) d_G_append_74 lf_G_15 k1 f1 ?_
  refine x_imul (v := (nI (4 * n))) d_G_append_77 (pk_mul 4 n) ?_
  refine x_istore d_G_append_78 (by decide) (L' := [some (.ref g), some (.int (nI o)), some (.int a), some (.int b), some (.int c), some (.int (nI (3 * o))), some (.int (nI (4 * n)))]) rfl ?_
  refine x_aload_n d_G_append_80 rfl rfl ?_
  refine x_getf (v := .ref ga) d_G_append_81 lf_G_9 k1 f0 ?_
  refine x_iload d_G_append_84 rfl ?_
  refine x_iload_n d_G_append_86 rfl rfl ?_
  refine x_iast d_G_append_87 k2 rfl (vp_in_nI (by omega) (by decide)) ?_
  rw [nI_cl (by omega)]
  refine x_aload_n d_G_append_88 rfl rfl ?_
  refine x_getf (v := .ref ga) d_G_append_89 lf_G_9 k1 (by simp [gF_pF, gF_pA, gF_nO, gF_nA, f0]) ?_
  refine x_iload d_G_append_92 rfl ?_
  refine x_iconst (v := 1) d_G_append_94 (by decide) ?_
  refine x_iadd (v := (nI (4 * n + 1))) d_G_append_95 (nI_1 _) ?_
  refine x_iload_n d_G_append_96 rfl rfl ?_
  refine x_iast d_G_append_97 k2 rfl (vp_in_nI (by omega) (by decide)) ?_
  rw [nI_cl (by omega)]
  refine x_aload_n d_G_append_98 rfl rfl ?_
  refine x_getf (v := .ref ga) d_G_append_99 lf_G_9 k1 (by simp [gF_pF, gF_pA, gF_nO, gF_nA, f0]) ?_
  refine x_iload d_G_append_102 rfl ?_
  refine x_iconst (v := 2) d_G_append_104 (by decide) ?_
  refine x_iadd (v := (nI (4 * n + 2))) d_G_append_105 (nI_add (4 * n) 2) ?_
  refine x_iload_n d_G_append_106 rfl rfl ?_
  refine x_iast d_G_append_107 k2 rfl (vp_in_nI (by omega) (by decide)) ?_
  rw [nI_cl (by omega)]
  refine x_aload_n d_G_append_108 rfl rfl ?_
  refine x_getf (v := .ref ga) d_G_append_109 lf_G_9 k1 (by simp [gF_pF, gF_pA, gF_nO, gF_nA, f0]) ?_
  refine x_iload d_G_append_112 rfl ?_
  refine x_iconst (v := 3) d_G_append_114 (by decide) ?_
  refine x_iadd (v := (nI (4 * n + 3))) d_G_append_115 (nI_add (4 * n) 3) ?_
  refine x_iload d_G_append_116 rfl ?_
  refine x_iast d_G_append_118 k2 rfl (vp_in_nI (by omega) (by decide)) ?_
  rw [nI_cl (by omega)]
  refine x_aload_n d_G_append_119 rfl rfl ?_
  refine x_dup d_G_append_120 rfl ?_
  refine x_getf (v := .int (nI n)) d_G_append_121 lf_G_15 k1 (by simp [gF_pF, gF_pA, gF_nO, gF_nA, f1]) ?_
  refine x_iconst (v := 1) d_G_append_124 (by decide) ?_
  refine x_iadd (v := (nI (n + 1))) d_G_append_125 (nI_1 _) ?_
  refine x_putf d_G_append_126 lp_G_15 k1 ⟨_, rfl⟩ ?_
  refine x_aload_n d_G_append_129 rfl rfl ?_
  refine x_getf (v := .int (nI (n + 1))) d_G_append_130 lf_G_15 k1 (by simp [gF_pF, gF_pA, gF_nO, gF_nA]) ?_
  refine x_iconst (v := 1) d_G_append_133 (by decide) ?_
  refine x_isub (v := (nI n)) d_G_append_134 (nI_pred n) ?_
  exact x_iret d_G_append_135 rfl rfl ⟨rfl, rfl⟩
theorem c_G_reaches {E : th_E} {h : th_H} {g n : Nat} (k1 : gk h g = some (.inl 5)) (f1 : gF h 5 1 g = .int (nI n)) (k r : Int32) (hr : (¬ k < 0 ∧ k < nI n → r = 1) ∧ (¬ (¬ k < 0 ∧ k < nI n) → r = 0)) : Xc E m_G_reaches 0 0 0 [.ref g, .int k] h (Ex (some (.int r)) h) := by
  refine Xc.of (by decide) (by simp [Value.category]) (Nat.le_of_ble_eq_true rfl) ?_
  show Xw E m_G_reaches 0 0 0 0 [some (.ref g), some (.int k)] [] h _
  refine x_iload_n d_G_reaches_0 rfl rfl ?_
  refine x_if_lt (tgt := 16) d_G_reaches_1 rfl (fun q1 => ?_) (fun q1 => ?_)
  · obtain rfl : r = 0 := hr.2 (fun z => z.1 q1)
    refine x_iconst (v := 0) d_G_reaches_16 (by decide) ?_
    exact x_iret d_G_reaches_17 rfl rfl ⟨rfl, rfl⟩
  · refine x_iload_n d_G_reaches_4 rfl rfl ?_
    refine x_aload_n d_G_reaches_5 rfl rfl ?_
    refine x_getf (v := .int (nI n)) d_G_reaches_6 lf_G_15 k1 f1 ?_
    refine x_icmp_ge (tgt := 16) d_G_reaches_9 rfl (fun q9 => ?_) (fun q9 => ?_)
    · obtain rfl : r = 0 := hr.2 (fun z => i32_nle q9 z.2)
      refine x_iconst (v := 0) d_G_reaches_16 (by decide) ?_
      exact x_iret d_G_reaches_17 rfl rfl ⟨rfl, rfl⟩
    · obtain rfl : r = 1 := hr.1 (⟨q1, i32_nlt q9⟩)
      refine x_iconst (v := 1) d_G_reaches_12 (by decide) ?_
      refine x_goto (tgt := 17) d_G_reaches_13 rfl ?_
      exact x_iret d_G_reaches_17 rfl rfl ⟨rfl, rfl⟩
theorem c_G_wipe {E : th_E} {h : th_H} {g n : Nat} (k1 : gk h g = some (.inl 5)) : Xc E m_G_wipe 0 0 0 [.ref g] h (Ex none (gpF h 5 1 g (.int 0))) := by
  refine Xc.of (by decide) (by simp [Value.category]) (Nat.le_of_ble_eq_true rfl) ?_
  show Xw E m_G_wipe 0 0 0 0 [some (.ref g)] [] h _
  refine x_aload_n d_G_wipe_0 rfl rfl ?_
  refine x_iconst (v := 0) d_G_wipe_1 (by decide) ?_
  refine x_putf d_G_wipe_2 lp_G_15 k1 ⟨_, rfl⟩ ?_
  exact x_ret ⟨rfl, rfl⟩ rfl d_G_wipe_5
end
section
/-! HostProcess (printed by wip/gen/mod_proc.py). -/
theorem i32_out {k : Int32} {n : Nat} (hn : n < 2 ^ 31) (h : ∀ j : Nat, j < n → ¬ k = nI j) : k.toInt < 0 ∨ (n : Int) - 1 < k.toInt := by
  by_cases h0 : k < 0
  · left
    have := Int32.lt_iff_toInt_lt.mp h0
    simpa using this
  · right
    obtain ⟨j, hj, rfl⟩ := nI_of h0
    rw [nI_toInt hj]
    by_cases hjn : j < n
    · exact absurd rfl (h j hjn)
    · omega
theorem c_P_goTo {E : th_E} {h : th_H} {p : Nat} (k1 : gk h p = some (.inl 2)) (l : Int32) : Xc E m_P_goTo 0 0 0 [.ref p, .int l] h (Ex (some (.int 1)) (gpF h 2 6 p (.int l))) := by
  refine Xc.of (by decide) (by simp [Value.category]) (Nat.le_of_ble_eq_true rfl) ?_
  show Xw E m_P_goTo 0 0 0 0 [some (.ref p), some (.int l)] [] h _
  refine x_aload_n d_P_goTo_0 rfl rfl ?_
  refine x_iload_n d_P_goTo_1 rfl rfl ?_
  refine x_putf d_P_goTo_2 lp_P_45 k1 ⟨_, rfl⟩ ?_
  refine x_iconst (v := 1) d_P_goTo_5 (by decide) ?_
  exact x_iret d_P_goTo_6 rfl rfl ⟨rfl, rfl⟩
theorem c_P_set_null {E : th_E} {h : th_H} {p : Nat} (k1 : gk h p = some (.inl 2)) (r : Int32) : Xc E m_P_set 0 0 0 [.ref p, .int r, .null] h (Ex (some (.int 0)) h) := by
  refine Xc.of (by decide) (by simp [Value.category]) (Nat.le_of_ble_eq_true rfl) ?_
  show Xw E m_P_set 0 0 0 0 [some (.ref p), some (.int r), some (.null)] [] h _
  refine x_aload_nN d_P_set_0 rfl rfl ?_
  refine x_ifnonnullN d_P_set_1 ?_
  refine x_iconst (v := 0) d_P_set_4 (by decide) ?_
  exact x_iret d_P_set_5 rfl rfl ⟨rfl, rfl⟩
theorem c_P_set {E : th_E} {h : th_H} {p : Nat} (k1 : gk h p = some (.inl 2)) {ra r x : Nat} (k2 : gk h ra = some (.inr (2, 8))) (f2 : gF h 2 2 p = .ref ra) (hr : r < 8) (kx : gk h x = some (.inl 0)) : Xc E m_P_set 0 0 0 [.ref p, .int (nI r), .ref x] h (Ex (some (.int 1)) (gpA h 2 ra r (.ref x))) := by
  refine Xc.of (by decide) (by simp [Value.category]) (Nat.le_of_ble_eq_true rfl) ?_
  show Xw E m_P_set 0 0 0 0 [some (.ref p), some (.int (nI r)), some (.ref x)] [] h _
  refine x_aload_n d_P_set_0 rfl rfl ?_
  refine x_ifnonnull (tgt := 6) d_P_set_1 rfl ?_
  refine x_aload_n d_P_set_6 rfl rfl ?_
  refine x_getf (v := .ref ra) d_P_set_7 lf_P_24 k1 f2 ?_
  refine x_iload_n d_P_set_10 rfl rfl ?_
  refine x_aload_n d_P_set_11 rfl rfl ?_
  refine x_aast d_P_set_12 k2 rfl kx rfl (vp_in_nI hr (by decide)) ?_
  rw [nI_cl (by omega)]
  refine x_iconst (v := 1) d_P_set_13 (by decide) ?_
  exact x_iret d_P_set_14 rfl rfl ⟨rfl, rfl⟩
theorem c_P_push_no {E : th_E} {h : th_H} {p : Nat} (k1 : gk h p = some (.inl 2)) {ta n : Nat} {pl : Int32} (k2 : gk h ta = some (.inr (1, 6))) (f3 : gF h 2 3 p = .ref ta) (f5 : gF h 2 5 p = .int (nI n)) (f6 : gF h 2 6 p = .int pl) (hn : 6 ≤ n) (hb : n < 2 ^ 31) : Xc E m_P_pushReturn 0 0 0 [.ref p] h (Ex (some (.int 0)) h) := by
  refine Xc.of (by decide) (by simp [Value.category]) (Nat.le_of_ble_eq_true rfl) ?_
  show Xw E m_P_pushReturn 0 0 0 0 [some (.ref p)] [] h _
  refine x_aload_n d_P_pushReturn_0 rfl rfl ?_
  refine x_getf (v := .int (nI n)) d_P_pushReturn_1 lf_P_42 k1 f5 ?_
  refine x_bipush (v := 6) d_P_pushReturn_4 (by decide) ?_
  refine x_icmp_lt (tgt := 11) d_P_pushReturn_6 rfl (fun q => absurd q (nI_nlt (b := 6) hn hb)) (fun q6 => ?_)
  refine x_iconst (v := 0) d_P_pushReturn_9 (by decide) ?_
  exact x_iret d_P_pushReturn_10 rfl rfl ⟨rfl, rfl⟩
theorem c_P_push {E : th_E} {h : th_H} {p : Nat} (k1 : gk h p = some (.inl 2)) {ta n : Nat} {pl : Int32} (k2 : gk h ta = some (.inr (1, 6))) (f3 : gF h 2 3 p = .ref ta) (f5 : gF h 2 5 p = .int (nI n)) (f6 : gF h 2 6 p = .int pl) (hn : n < 6) : Xc E m_P_pushReturn 0 0 0 [.ref p] h (Ex (some (.int 1)) (gpF (gpA h 1 ta n (.int pl)) 2 5 p (.int (nI (n + 1))))) := by
  refine Xc.of (by decide) (by simp [Value.category]) (Nat.le_of_ble_eq_true rfl) ?_
  show Xw E m_P_pushReturn 0 0 0 0 [some (.ref p)] [] h _
  refine x_aload_n d_P_pushReturn_0 rfl rfl ?_
  refine x_getf (v := .int (nI n)) d_P_pushReturn_1 lf_P_42 k1 f5 ?_
  refine x_bipush (v := 6) d_P_pushReturn_4 (by decide) ?_
  refine x_icmp_lt (tgt := 11) d_P_pushReturn_6 rfl (fun q6 => ?_) (fun q => absurd (nI_lt (b := 6) hn (by decide)) q)
  refine x_aload_n d_P_pushReturn_11 rfl rfl ?_
  refine x_getf (v := .ref ta) d_P_pushReturn_12 lf_P_28 k1 f3 ?_
  refine x_aload_n d_P_pushReturn_15 rfl rfl ?_
  refine x_getf (v := .int (nI n)) d_P_pushReturn_16 lf_P_42 k1 f5 ?_
  refine x_aload_n d_P_pushReturn_19 rfl rfl ?_
  refine x_getf (v := .int pl) d_P_pushReturn_20 lf_P_45 k1 f6 ?_
  refine x_iast d_P_pushReturn_23 k2 rfl (vp_in_nI hn (by decide)) ?_
  rw [nI_cl (by omega)]
  refine x_aload_n d_P_pushReturn_24 rfl rfl ?_
  refine x_dup d_P_pushReturn_25 rfl ?_
  refine x_getf (v := .int (nI n)) d_P_pushReturn_26 lf_P_42 k1 (by simp [gF_pF, gF_pA, gF_nO, gF_nA, gF_sA, f5]) ?_
  refine x_iconst (v := 1) d_P_pushReturn_29 (by decide) ?_
  refine x_iadd (v := (nI (n + 1))) d_P_pushReturn_30 (nI_1 _) ?_
  refine x_putf d_P_pushReturn_31 lp_P_42 k1 ⟨_, rfl⟩ ?_
  refine x_iconst (v := 1) d_P_pushReturn_34 (by decide) ?_
  exact x_iret d_P_pushReturn_35 rfl rfl ⟨rfl, rfl⟩
theorem c_P_answer {E : th_E} {h : th_H} {p : Nat} (k1 : gk h p = some (.inl 2)) {mb : Nat} {st pl mk mc rc lk tr dn : Int32} (k2 : gk h mb = some (.inl 1)) (f9 : gF h 2 9 p = .int st) (f6 : gF h 2 6 p = .int pl) (f4 : gF h 2 4 p = .ref mb) (g2 : gF h 1 2 mb = .int mk) (g1 : gF h 1 1 mb = .int mc) (f5 : gF h 2 5 p = .int rc) (f7 : gF h 2 7 p = .int lk) (f8 : gF h 2 8 p = .int tr) (f11 : gF h 2 11 p = .int dn) (htr : tr = 0 ∨ tr = 1) (k r : Int32) (hr : (k = 0 → r = st) ∧ (k = 1 → r = pl) ∧ (k = 2 → r = mk) ∧ (k = 3 → r = mc) ∧ (k = 4 → r = rc) ∧ (k = 5 → r = lk) ∧ (k = 6 → r = tr) ∧ (k = 7 → r = dn) ∧ ((∀ j : Nat, j < 8 → ¬ k = nI j) → r = -1)) : Xc E m_P_answer 0 0 0 [.ref p, .int k] h (Ex (some (.int r)) h) := by
  by_cases h0 : k = 0
  · subst h0
    have hr := hr.1 rfl
    refine Xc.of (by decide) (by simp [Value.category]) (Nat.le_of_ble_eq_true rfl) ?_
    show Xw E m_P_answer 0 0 0 0 [some (.ref p), some (.int 0)] [] h _
    refine x_iload_n d_P_answer_0 rfl rfl ?_
    refine x_tableIn (tgt := 48) (off := 47) d_P_answer_1 (by decide) (by decide) rfl rfl ?_
    refine x_aload_n d_P_answer_48 rfl rfl ?_
    refine x_getf (v := .int st) d_P_answer_49 lf_P_55 k1 f9 ?_
    exact x_iret d_P_answer_52 rfl rfl ⟨by rw [hr], rfl⟩
  by_cases h1 : k = 1
  · subst h1
    have hr := hr.2.1 rfl
    refine Xc.of (by decide) (by simp [Value.category]) (Nat.le_of_ble_eq_true rfl) ?_
    show Xw E m_P_answer 0 0 0 0 [some (.ref p), some (.int 1)] [] h _
    refine x_iload_n d_P_answer_0 rfl rfl ?_
    refine x_tableIn (tgt := 53) (off := 52) d_P_answer_1 (by decide) (by decide) rfl rfl ?_
    refine x_aload_n d_P_answer_53 rfl rfl ?_
    refine x_getf (v := .int pl) d_P_answer_54 lf_P_45 k1 f6 ?_
    exact x_iret d_P_answer_57 rfl rfl ⟨by rw [hr], rfl⟩
  by_cases h2 : k = 2
  · subst h2
    have hr := hr.2.2.1 rfl
    refine Xc.of (by decide) (by simp [Value.category]) (Nat.le_of_ble_eq_true rfl) ?_
    show Xw E m_P_answer 0 0 0 0 [some (.ref p), some (.int 2)] [] h _
    refine x_iload_n d_P_answer_0 rfl rfl ?_
    refine x_tableIn (tgt := 58) (off := 57) d_P_answer_1 (by decide) (by decide) rfl rfl ?_
    refine x_aload_n d_P_answer_58 rfl rfl ?_
    refine x_getf (v := .ref mb) d_P_answer_59 lf_P_35 k1 f4 ?_
    refine x_getf (v := .int mk) d_P_answer_62 lf_P_64 k2 g2 ?_
    exact x_iret d_P_answer_65 rfl rfl ⟨by rw [hr], rfl⟩
  by_cases h3 : k = 3
  · subst h3
    have hr := hr.2.2.2.1 rfl
    refine Xc.of (by decide) (by simp [Value.category]) (Nat.le_of_ble_eq_true rfl) ?_
    show Xw E m_P_answer 0 0 0 0 [some (.ref p), some (.int 3)] [] h _
    refine x_iload_n d_P_answer_0 rfl rfl ?_
    refine x_tableIn (tgt := 66) (off := 65) d_P_answer_1 (by decide) (by decide) rfl rfl ?_
    refine x_aload_n d_P_answer_66 rfl rfl ?_
    refine x_getf (v := .ref mb) d_P_answer_67 lf_P_35 k1 f4 ?_
    refine x_getf (v := .int mc) d_P_answer_70 lf_P_67 k2 g1 ?_
    exact x_iret d_P_answer_73 rfl rfl ⟨by rw [hr], rfl⟩
  by_cases h4 : k = 4
  · subst h4
    have hr := hr.2.2.2.2.1 rfl
    refine Xc.of (by decide) (by simp [Value.category]) (Nat.le_of_ble_eq_true rfl) ?_
    show Xw E m_P_answer 0 0 0 0 [some (.ref p), some (.int 4)] [] h _
    refine x_iload_n d_P_answer_0 rfl rfl ?_
    refine x_tableIn (tgt := 74) (off := 73) d_P_answer_1 (by decide) (by decide) rfl rfl ?_
    refine x_aload_n d_P_answer_74 rfl rfl ?_
    refine x_getf (v := .int rc) d_P_answer_75 lf_P_42 k1 f5 ?_
    exact x_iret d_P_answer_78 rfl rfl ⟨by rw [hr], rfl⟩
  by_cases h5 : k = 5
  · subst h5
    have hr := hr.2.2.2.2.2.1 rfl
    refine Xc.of (by decide) (by simp [Value.category]) (Nat.le_of_ble_eq_true rfl) ?_
    show Xw E m_P_answer 0 0 0 0 [some (.ref p), some (.int 5)] [] h _
    refine x_iload_n d_P_answer_0 rfl rfl ?_
    refine x_tableIn (tgt := 79) (off := 78) d_P_answer_1 (by decide) (by decide) rfl rfl ?_
    refine x_aload_n d_P_answer_79 rfl rfl ?_
    refine x_getf (v := .int lk) d_P_answer_80 lf_P_48 k1 f7 ?_
    exact x_iret d_P_answer_83 rfl rfl ⟨by rw [hr], rfl⟩
  by_cases h6 : k = 6
  · subst h6
    refine Xc.of (by decide) (by simp [Value.category]) (Nat.le_of_ble_eq_true rfl) ?_
    show Xw E m_P_answer 0 0 0 0 [some (.ref p), some (.int 6)] [] h _
    refine x_iload_n d_P_answer_0 rfl rfl ?_
    refine x_tableIn (tgt := 84) (off := 83) d_P_answer_1 (by decide) (by decide) rfl rfl ?_
    refine x_aload_n d_P_answer_84 rfl rfl ?_
    refine x_getf (v := .int tr) d_P_answer_85 lf_P_51 k1 f8 ?_
    refine x_if_eq (tgt := 95) d_P_answer_88 rfl (fun q88 => ?_) (fun q88 => ?_)
    · obtain rfl : r = 0 := by rw [hr.2.2.2.2.2.2.1 rfl]; exact q88
      refine x_iconst (v := 0) d_P_answer_95 (by decide) ?_
      exact x_iret d_P_answer_96 rfl rfl ⟨rfl, rfl⟩
    · obtain rfl : r = 1 := by rw [hr.2.2.2.2.2.2.1 rfl]; exact htr.resolve_left q88
      refine x_iconst (v := 1) d_P_answer_91 (by decide) ?_
      refine x_goto (tgt := 96) d_P_answer_92 rfl ?_
      exact x_iret d_P_answer_96 rfl rfl ⟨rfl, rfl⟩
  by_cases h7 : k = 7
  · subst h7
    have hr := hr.2.2.2.2.2.2.2.1 rfl
    refine Xc.of (by decide) (by simp [Value.category]) (Nat.le_of_ble_eq_true rfl) ?_
    show Xw E m_P_answer 0 0 0 0 [some (.ref p), some (.int 7)] [] h _
    refine x_iload_n d_P_answer_0 rfl rfl ?_
    refine x_tableIn (tgt := 97) (off := 96) d_P_answer_1 (by decide) (by decide) rfl rfl ?_
    refine x_aload_n d_P_answer_97 rfl rfl ?_
    refine x_getf (v := .int dn) d_P_answer_98 lf_P_61 k1 f11 ?_
    exact x_iret d_P_answer_101 rfl rfl ⟨by rw [hr], rfl⟩
  have hr := hr.2.2.2.2.2.2.2.2 (by intro j hj e; rcases (show j = 0 ∨ j = 1 ∨ j = 2 ∨ j = 3 ∨ j = 4 ∨ j = 5 ∨ j = 6 ∨ j = 7 by omega) with rfl | rfl | rfl | rfl | rfl | rfl | rfl | rfl <;> exact absurd e (by assumption))
  refine Xc.of (by decide) (by simp [Value.category]) (Nat.le_of_ble_eq_true rfl) ?_
  show Xw E m_P_answer 0 0 0 0 [some (.ref p), some (.int k)] [] h _
  refine x_iload_n d_P_answer_0 rfl rfl ?_
  refine x_tableOut (tgt := 102) d_P_answer_1 (i32_out (n := 8) (by decide) (fun j hj => by rcases (show j = 0 ∨ j = 1 ∨ j = 2 ∨ j = 3 ∨ j = 4 ∨ j = 5 ∨ j = 6 ∨ j = 7 by omega) with rfl | rfl | rfl | rfl | rfl | rfl | rfl | rfl <;> assumption)) rfl ?_
  refine x_iconst (v := (-1)) d_P_answer_102 (by decide) ?_
  exact x_iret d_P_answer_103 rfl rfl ⟨by rw [hr], rfl⟩
theorem c_P_termAt {E : th_E} {h : th_H} {p : Nat} (k1 : gk h p = some (.inl 2)) {ra mb ma mk : Nat} {rs : Value} {rg : Nat → Nat} {ms : List Nat} (k2 : gk h ra = some (.inr (2, 8))) (k3 : gk h mb = some (.inl 1)) (k4 : gk h ma = some (.inr (2, 12))) (f2 : gF h 2 2 p = .ref ra) (f4 : gF h 2 4 p = .ref mb) (f10 : gF h 2 10 p = rs) (hrs : rs = .null ∨ ∃ a, rs = .ref a) (g0 : gF h 1 0 mb = .ref ma) (g1 : gF h 1 1 mb = .int (nI ms.length)) (g2 : gF h 1 2 mb = .int (nI mk)) (hn : ms.length ≤ 12) (fr : ∀ j, j < 8 → gA h 2 ra j = .ref (rg j)) (fm : ∀ i x, ms[i]? = some x → gA h 2 ma i = .ref x) (k : Int32) (r : Value) (hr : (k < 0 → r = .null) ∧ (∀ j, j < 8 → k = nI j → r = .ref (rg j)) ∧ (k = 8 → r = rs) ∧ (∀ j, j < ms.length → k = nI (9 + j) → ∃ x, ms[j]? = some x ∧ r = .ref x) ∧ (¬ k < nI (9 + ms.length) → r = .null)) : Xc E m_P_termAt 1 0 0 [.ref p, .int k] h (Ex (some r) h) := by
  by_cases c0 : k < 0
  · refine Xc.of (by decide) (by simp [Value.category]) (Nat.le_of_ble_eq_true rfl) ?_
    show Xw E m_P_termAt 1 0 0 0 [some (.ref p), some (.int k)] [] h _
    refine x_iload_n d_P_termAt_0 rfl rfl ?_
    refine x_if_ge (tgt := 6) d_P_termAt_1 rfl (fun q => absurd q (fun z => i32_nl z c0)) (fun q1 => ?_)
    refine x_null d_P_termAt_4 ?_
    exact x_aret d_P_termAt_5 rfl (Or.inl ⟨_, rfl⟩) (Or.inl rfl) ⟨by rw [hr.1 c0], rfl⟩
  obtain ⟨j, hj31, rfl⟩ := nI_of c0
  by_cases c1 : j < 8
  · refine Xc.of (by decide) (by simp [Value.category]) (Nat.le_of_ble_eq_true rfl) ?_
    show Xw E m_P_termAt 1 0 0 0 [some (.ref p), some (.int (nI j))] [] h _
    refine x_iload_n d_P_termAt_0 rfl rfl ?_
    refine x_if_ge (tgt := 6) d_P_termAt_1 rfl (fun q1 => ?_) (fun q => absurd (nI_pos' hj31) q)
    refine x_iload_n d_P_termAt_6 rfl rfl ?_
    refine x_bipush (v := 8) d_P_termAt_7 (by decide) ?_
    refine x_icmp_ge (tgt := 19) d_P_termAt_9 rfl (fun q => absurd q (nI_ge (b := 8) c1 (by decide))) (fun q9 => ?_)
    refine x_aload_n d_P_termAt_12 rfl rfl ?_
    refine x_getf (v := .ref ra) d_P_termAt_13 lf_P_24 k1 f2 ?_
    refine x_iload_n d_P_termAt_16 rfl rfl ?_
    refine x_aald (v := .ref (rg j)) d_P_termAt_17 k2 rfl (vp_in_nI c1 (by decide)) (by rw [nI_cl hj31]; exact fr j c1) ?_
    exact x_aret d_P_termAt_18 rfl (Or.inl ⟨_, rfl⟩) (Or.inr ⟨_, rfl⟩) ⟨by rw [hr.2.1 j c1 rfl], rfl⟩
  by_cases c2 : j = 8
  · subst c2
    refine Xc.of (by decide) (by simp [Value.category]) (Nat.le_of_ble_eq_true rfl) ?_
    show Xw E m_P_termAt 1 0 0 0 [some (.ref p), some (.int 8)] [] h _
    refine x_iload_n d_P_termAt_0 rfl rfl ?_
    refine x_if_ge (tgt := 6) d_P_termAt_1 rfl (fun q1 => ?_) (fun q => absurd (by decide) q)
    refine x_iload_n d_P_termAt_6 rfl rfl ?_
    refine x_bipush (v := 8) d_P_termAt_7 (by decide) ?_
    refine x_icmp_ge (tgt := 19) d_P_termAt_9 rfl (fun q9 => ?_) (fun q => absurd (by decide) q)
    refine x_iload_n d_P_termAt_19 rfl rfl ?_
    refine x_bipush (v := 8) d_P_termAt_20 (by decide) ?_
    refine x_icmp_ne (tgt := 32) d_P_termAt_22 rfl (fun q => absurd rfl q) (fun q22 => ?_)
    refine x_aload_n d_P_termAt_25 rfl rfl ?_
    refine x_getf (v := rs) d_P_termAt_26 lf_P_58 k1 f10 ?_
    refine x_goto (tgt := 43) d_P_termAt_29 rfl ?_
    exact x_aret d_P_termAt_43 rfl (Or.inl ⟨_, rfl⟩) hrs ⟨by rw [hr.2.2.1 rfl], rfl⟩
  have hvr : r = .null ∨ ∃ a, r = .ref a := by
    by_cases c3 : j < 9 + ms.length
    · obtain ⟨x, -, e⟩ := hr.2.2.2.1 (j - 9) (by omega) (by rw [show 9 + (j - 9) = j by omega])
      exact Or.inr ⟨x, e⟩
    · exact Or.inl (hr.2.2.2.2 (nI_nlt (by omega) hj31))
  refine Xc.of (by decide) (by simp [Value.category]) (Nat.le_of_ble_eq_true rfl) ?_
  show Xw E m_P_termAt 1 0 0 0 [some (.ref p), some (.int (nI j))] [] h _
  refine x_iload_n d_P_termAt_0 rfl rfl ?_
  refine x_if_ge (tgt := 6) d_P_termAt_1 rfl (fun q1 => ?_) (fun q => absurd (nI_pos' hj31) q)
  refine x_iload_n d_P_termAt_6 rfl rfl ?_
  refine x_bipush (v := 8) d_P_termAt_7 (by decide) ?_
  refine x_icmp_ge (tgt := 19) d_P_termAt_9 rfl (fun q9 => ?_) (fun q => absurd (nI_le (a := 8) (by omega) hj31) q)
  refine x_iload_n d_P_termAt_19 rfl rfl ?_
  refine x_bipush (v := 8) d_P_termAt_20 (by decide) ?_
  refine x_icmp_ne (tgt := 32) d_P_termAt_22 rfl (fun q22 => ?_) (fun q => absurd q (fun z => c2 (nI_inj hj31 (by decide) z)))
  refine x_aload_n d_P_termAt_32 rfl rfl ?_
  refine x_getf (v := .ref mb) d_P_termAt_33 lf_P_35 k1 f4 ?_
  refine x_iload_n d_P_termAt_36 rfl rfl ?_
  refine x_bipush (v := 9) d_P_termAt_37 (by decide) ?_
  refine x_isub (v := (nI (j - 9))) d_P_termAt_39 (pk_sub (b := 9) (by omega)) ?_
  refine x_invv d_P_termAt_40 lm_P_70 (as := [.int (nI (j - 9))]) (S := []) (c_B_at k3 k4 g0 g1 g2 hn fm (nI (j - 9)) r ⟨fun z => hr.2.2.2.2 (by rcases z with z | z; exact absurd z (nI_pos (by omega)); exact nI_nlt (by have := (nI_leI (by omega) (by omega)).mp z; omega) hj31), fun i x hx e => by obtain ⟨y, hy, e2⟩ := hr.2.2.2.1 i (List.getElem?_eq_some_iff.mp hx).1 (by have hl := (List.getElem?_eq_some_iff.mp hx).1; have := nI_inj (by omega) (by omega) e; rw [show j = 9 + i by omega]); rw [hx] at hy; cases hy; exact e2⟩) k3 rfl rfl rfl (Nat.le_of_ble_eq_true rfl) (Nat.le_refl 1) (Nat.le_refl 0) (Nat.le_refl 0) ?_
  rintro _ _ ⟨rfl, rfl⟩
  exact x_aret d_P_termAt_43 rfl (Or.inl ⟨_, rfl⟩) hvr ⟨rfl, rfl⟩
/-- the heap behind renew -/
def gRen (h : th_H) (p ra mb x nl : Nat) (l : Int32) : th_H := (gpF (gpF (gpF (gpF (gpF (gpF (gpF (gpF (gpF (gsA h 2 ra (fun i => if i = 0 then .ref x else if i < 8 then .ref nl else gA h 2 ra i)) 1 1 mb (.int 0)) 1 2 mb (.int 0)) 2 5 p (.int 0)) 2 6 p (.int l)) 2 7 p (.int 0)) 2 8 p (.int 0)) 2 9 p (.int 1)) 2 10 p .null) 2 11 p (.int 0))
theorem c_P_renew_loop {E : th_E} {h : th_H} {p : Nat} (k1 : gk h p = some (.inl 2)) {ra mb x nl : Nat} (k2 : gk h ra = some (.inr (2, 8))) (k3 : gk h mb = some (.inl 1)) (kx : gk h x = some (.inl 0)) (kn : gk h nl = some (.inl 0)) (f2 : gF h 2 2 p = .ref ra) (f4 : gF h 2 4 p = .ref mb) (l : Int32) : ∀ (m k : Nat), k + m = 8 → Xw E m_P_renew 1 0 0 3 [some (.ref p), some (.int l), some (.ref x), some (.ref nl), some (.int (nI k))] [] (gsA h 2 ra (fun i => if i < k then .ref nl else gA h 2 ra i)) (Ex none (gRen h p ra mb x nl l)) := by
  intro m
  induction m with
  | zero =>
    intro k hk
    refine x_iload d_P_renew_3 rfl ?_
    refine x_bipush (v := 8) d_P_renew_5 (by decide) ?_
    refine x_icmp_ge (tgt := 24) d_P_renew_7 rfl (fun q7 => ?_) (fun q => absurd (nI_le (a := 8) (by omega) (by omega)) q)
    refine x_aload_n d_P_renew_24 rfl rfl ?_
    refine x_getf (v := .ref ra) d_P_renew_25 lf_P_24 k1 f2 ?_
    refine x_iconst (v := 0) d_P_renew_28 (by decide) ?_
    refine x_aload_n d_P_renew_29 rfl rfl ?_
    refine x_aast d_P_renew_30 k2 rfl kx rfl (vp_in_nI (n := 0) (by decide) (by decide)) ?_
    rw [show (0 : Int32).toNatClampNeg = 0 by decide, gpA_sA, show (fun j => if j = 0 then Value.ref x else if j < k then .ref nl else gA h 2 ra j) = (fun i => if i = 0 then .ref x else if i < 8 then .ref nl else gA h 2 ra i) by rw [show k = 8 by omega]]
    refine x_aload_n d_P_renew_31 rfl rfl ?_
    refine x_getf (v := .ref mb) d_P_renew_32 lf_P_35 k1 (by simp [gF_pF, gF_pA, gF_nO, gF_nA, gF_sA, f4]) ?_
    refine x_invv d_P_renew_35 lm_P_39 (as := []) (S := []) (c_B_empty k3) k3 rfl rfl rfl (Nat.le_of_ble_eq_true rfl) (Nat.le_refl 1) (Nat.le_refl 0) (Nat.le_refl 0) ?_
    rintro _ _ ⟨rfl, rfl⟩
    refine x_aload_n d_P_renew_38 rfl rfl ?_
    refine x_iconst (v := 0) d_P_renew_39 (by decide) ?_
    refine x_putf d_P_renew_40 lp_P_42 k1 ⟨_, rfl⟩ ?_
    refine x_aload_n d_P_renew_43 rfl rfl ?_
    refine x_iload_n d_P_renew_44 rfl rfl ?_
    refine x_putf d_P_renew_45 lp_P_45 k1 ⟨_, rfl⟩ ?_
    refine x_aload_n d_P_renew_48 rfl rfl ?_
    refine x_iconst (v := 0) d_P_renew_49 (by decide) ?_
    refine x_putf d_P_renew_50 lp_P_48 k1 ⟨_, rfl⟩ ?_
    refine x_aload_n d_P_renew_53 rfl rfl ?_
    refine x_iconst (v := 0) d_P_renew_54 (by decide) ?_
    refine x_putf d_P_renew_55 lp_P_51 k1 (Or.inl rfl) ?_
    refine x_aload_n d_P_renew_58 rfl rfl ?_
    refine x_iconst (v := 1) d_P_renew_59 (by decide) ?_
    refine x_putf d_P_renew_60 lp_P_55 k1 ⟨_, rfl⟩ ?_
    refine x_aload_n d_P_renew_63 rfl rfl ?_
    refine x_null d_P_renew_64 ?_
    refine x_putf d_P_renew_65 lp_P_58 k1 (Or.inl rfl) ?_
    refine x_aload_n d_P_renew_68 rfl rfl ?_
    refine x_iconst (v := 0) d_P_renew_69 (by decide) ?_
    refine x_putf d_P_renew_70 lp_P_61 k1 ⟨_, rfl⟩ ?_
    exact x_ret ⟨rfl, rfl⟩ rfl d_P_renew_73
  | succ m ih =>
    intro k hk
    refine x_iload d_P_renew_3 rfl ?_
    refine x_bipush (v := 8) d_P_renew_5 (by decide) ?_
    refine x_icmp_ge (tgt := 24) d_P_renew_7 rfl (fun q => absurd q (nI_ge (b := 8) (by omega) (by decide))) (fun q7 => ?_)
    refine x_aload_n d_P_renew_10 rfl rfl ?_
    refine x_getf (v := .ref ra) d_P_renew_11 lf_P_24 k1 f2 ?_
    refine x_iload d_P_renew_14 rfl ?_
    refine x_aload_n d_P_renew_16 rfl rfl ?_
    refine x_aast d_P_renew_17 k2 rfl kn rfl (vp_in_nI (by omega) (by decide)) ?_
    rw [nI_cl (by omega), gpA_sA, show (fun j => if j = k then Value.ref nl else if j < k then .ref nl else gA h 2 ra j) = (fun i => if i < k + 1 then .ref nl else gA h 2 ra i) by funext j; by_cases a1 : j = k <;> by_cases a2 : j < k <;> simp [a1, a2] <;> omega]
    refine x_iinc d_P_renew_18 rfl (v := (nI (k + 1))) (nI_1 _) (by decide) (L' := [some (.ref p), some (.int l), some (.ref x), some (.ref nl), some (.int (nI (k + 1)))]) rfl ?_
    refine x_goto (tgt := 3) d_P_renew_21 rfl ?_
    exact ih (k + 1) (by omega)
theorem c_P_renew {E : th_E} {h : th_H} {p : Nat} (k1 : gk h p = some (.inl 2)) {ra mb x nl : Nat} (k2 : gk h ra = some (.inr (2, 8))) (k3 : gk h mb = some (.inl 1)) (kx : gk h x = some (.inl 0)) (kn : gk h nl = some (.inl 0)) (f2 : gF h 2 2 p = .ref ra) (f4 : gF h 2 4 p = .ref mb) (l : Int32) : Xc E m_P_renew 1 0 0 [.ref p, .int l, .ref x, .ref nl] h (Ex none (gRen h p ra mb x nl l)) := by
  refine Xc.of (by decide) (by simp [Value.category]) (Nat.le_of_ble_eq_true rfl) ?_
  show Xw E m_P_renew 1 0 0 0 [some (.ref p), some (.int l), some (.ref x), some (.ref nl), none] [] h _
  refine x_iconst (v := 0) d_P_renew_0 (by decide) ?_
  refine x_istore d_P_renew_1 (by decide) (L' := [some (.ref p), some (.int l), some (.ref x), some (.ref nl), some (.int 0)]) rfl ?_
  have hh := c_P_renew_loop (E := E) k1 k2 k3 kx kn f2 f4 l 8 0 rfl
  rw [show (fun i => if i < 0 then Value.ref nl else gA h 2 ra i) = gA h 2 ra by funext i; simp, gsA_self] at hh
  exact hh
end
section
/-! The mathematical host: processes, queue, code; what each operation does to it. -/
/-- a process: registers, place, returns, messages, mark, links, traps, state, reason, reductions -/
abbrev Pr : Type := (Nat → Tm) × Nat × List Nat × List Tm × Nat × Int32 × Bool × Nat × Option Tm × Int32
abbrev pRg (P : Pr) : Nat → Tm := P.1
abbrev pPl (P : Pr) : Nat := P.2.1
abbrev pRe (P : Pr) : List Nat := P.2.2.1
abbrev pMs (P : Pr) : List Tm := P.2.2.2.1
abbrev pMk (P : Pr) : Nat := P.2.2.2.2.1
abbrev pLk (P : Pr) : Int32 := P.2.2.2.2.2.1
abbrev pTr (P : Pr) : Bool := P.2.2.2.2.2.2.1
abbrev pSt (P : Pr) : Nat := P.2.2.2.2.2.2.2.1
abbrev pRs (P : Pr) : Option Tm := P.2.2.2.2.2.2.2.2.1
abbrev pDn (P : Pr) : Int32 := P.2.2.2.2.2.2.2.2.2
abbrev sRg (P : Pr) (k : Nat) (t : Tm) : Pr := (va_up P.1 k t, P.2)
abbrev sPl (P : Pr) (l : Nat) : Pr := (P.1, l, P.2.2)
abbrev sRe (P : Pr) (l : List Nat) : Pr := (P.1, P.2.1, l, P.2.2.2)
abbrev sMs (P : Pr) (l : List Tm) : Pr := (P.1, P.2.1, P.2.2.1, l, P.2.2.2.2)
abbrev sMk (P : Pr) (m : Nat) : Pr := (P.1, P.2.1, P.2.2.1, P.2.2.2.1, m, P.2.2.2.2.2)
abbrev sLk (P : Pr) (x : Int32) : Pr := (P.1, P.2.1, P.2.2.1, P.2.2.2.1, P.2.2.2.2.1, x, P.2.2.2.2.2.2)
abbrev sTr (P : Pr) (b : Bool) : Pr := (P.1, P.2.1, P.2.2.1, P.2.2.2.1, P.2.2.2.2.1, P.2.2.2.2.2.1, b, P.2.2.2.2.2.2.2)
abbrev sSt (P : Pr) (n : Nat) : Pr := (P.1, P.2.1, P.2.2.1, P.2.2.2.1, P.2.2.2.2.1, P.2.2.2.2.2.1, P.2.2.2.2.2.2.1, n, P.2.2.2.2.2.2.2.2)
abbrev sRs (P : Pr) (r : Option Tm) : Pr := (P.1, P.2.1, P.2.2.1, P.2.2.2.1, P.2.2.2.2.1, P.2.2.2.2.2.1, P.2.2.2.2.2.2.1, P.2.2.2.2.2.2.2.1, r, P.2.2.2.2.2.2.2.2.2)
abbrev sDn (P : Pr) (x : Int32) : Pr := (P.1, P.2.1, P.2.2.1, P.2.2.2.1, P.2.2.2.2.1, P.2.2.2.2.2.1, P.2.2.2.2.2.2.1, P.2.2.2.2.2.2.2.1, P.2.2.2.2.2.2.2.2.1, x)
/-- the host: quota, spent, code, queue, how many processes, the processes -/
abbrev Ho : Type := Int32 × Nat × List (Nat × Int32 × Int32 × Int32) × List Nat × Nat × (Nat → Pr)
abbrev oQt (σ : Ho) : Int32 := σ.1
abbrev oSp (σ : Ho) : Nat := σ.2.1
abbrev oCd (σ : Ho) : List (Nat × Int32 × Int32 × Int32) := σ.2.2.1
abbrev oQu (σ : Ho) : List Nat := σ.2.2.2.1
abbrev oCt (σ : Ho) : Nat := σ.2.2.2.2.1
abbrev oPr (σ : Ho) : Nat → Pr := σ.2.2.2.2.2
abbrev sSp (σ : Ho) (n : Nat) : Ho := (σ.1, n, σ.2.2)
abbrev sCd (σ : Ho) (l : List (Nat × Int32 × Int32 × Int32)) : Ho := (σ.1, σ.2.1, l, σ.2.2.2)
abbrev sQu (σ : Ho) (l : List Nat) : Ho := (σ.1, σ.2.1, σ.2.2.1, l, σ.2.2.2.2)
abbrev sCt (σ : Ho) (n : Nat) : Ho := (σ.1, σ.2.1, σ.2.2.1, σ.2.2.2.1, n, σ.2.2.2.2.2)
abbrev sPr (σ : Ho) (p : Nat) (P : Pr) : Ho := (σ.1, σ.2.1, σ.2.2.1, σ.2.2.2.1, σ.2.2.2.2.1, va_up σ.2.2.2.2.2 p P)
def leaveM (σ : Ho) (p : Nat) : Ho := sQu σ ((oQu σ).filter (fun x => x ≠ p))
def comeM (σ : Ho) (p : Nat) : Ho := sQu σ (oQu σ ++ [p])
/-- a message comes -/
def deliverM (σ : Ho) (q : Nat) (t : Tm) : Ho :=
  if pSt (oPr σ q) = 3 ∨ 12 ≤ (pMs (oPr σ q)).length then σ
  else if pSt (oPr σ q) = 2 then comeM (sPr σ q (sSt (sMs (oPr σ q) (pMs (oPr σ q) ++ [t])) 1)) q
  else sPr σ q (sMs (oPr σ q) (pMs (oPr σ q) ++ [t]))
def bitM (q : Nat) : Int32 := 1 <<< (nI q &&& 31)
def linkedM (σ : Ho) (p q : Nat) : Prop := ¬ pLk (oPr σ p) &&& bitM q = 0
def tieM (σ : Ho) (p q : Nat) : Ho :=
  let σ1 := sPr σ p (sLk (oPr σ p) (pLk (oPr σ p) ||| bitM q))
  sPr σ1 q (sLk (oPr σ1 q) (pLk (oPr σ1 q) ||| bitM p))
def untieM (σ : Ho) (p q : Nat) : Ho :=
  let σ1 := sPr σ p (sLk (oPr σ p) (pLk (oPr σ p) &&& (bitM q ^^^ -1)))
  sPr σ1 q (sLk (oPr σ1 q) (pLk (oPr σ1 q) &&& (bitM p ^^^ -1)))
def aNormal : Tm := .leaf (1, 14)
def aFault : Tm := .leaf (1, 13)
def aKilled : Tm := .leaf (1, 12)
def aExit : Tm := .leaf (1, 15)
def nilT : Tm := .leaf (3, 0)
/-- what a process that traps is told -/
def noticeM (p : Nat) (r : Tm) : Tm := .branch 5 aExit (.branch 5 (.leaf (2, nI p)) (if 15 < tW r + 4 then aFault else r))
/-- it stops: state, reason, queue -/
def stopM (σ : Ho) (p : Nat) (r : Tm) : Ho := leaveM (sPr σ p (sRs (sSt (oPr σ p) 3) (some r))) p
end
section
/-! The class's picture of the host (printed by wip/gen/mod_rep.py). -/
/-- the fields that change behind the constructors -/
def cmut (c k : Nat) : Bool := match c with
  | 1 => k == 1 || k == 2
  | 2 => 5 ≤ k
  | 3 => k == 1
  | 4 => k == 4
  | 5 => k == 1
  | 7 => k == 4
  | _ => false
/-- the object's own cells o .. o + 97 may have changed, there what may change; nothing else; new cells may have come -/
def Chg (o : Nat) (h h' : th_H) : Prop := gz h ≤ gz h' ∧ (∀ a, a < gz h → gk h' a = gk h a) ∧ (∀ c k a, a < gz h → ¬ (o ≤ a ∧ a < o + 98 ∧ cmut c k = true) → gF h' c k a = gF h c k a) ∧ (∀ t a i, a < gz h → ¬ (o ≤ a ∧ a < o + 98 ∧ (t = 1 ∨ t = 2) ∧ a ≠ o + 81) → gA h' t a i = gA h t a i)
theorem Chg.rf (o : Nat) (h : th_H) : Chg o h h := ⟨Nat.le_refl _, fun _ _ => rfl, fun _ _ _ _ _ => rfl, fun _ _ _ _ _ => rfl⟩
theorem Chg.tr {o : Nat} {h h1 h2 : th_H} (a : Chg o h h1) (b : Chg o h1 h2) : Chg o h h2 := ⟨Nat.le_trans a.1 b.1, fun x hx => (b.2.1 x (Nat.lt_of_lt_of_le hx a.1)).trans (a.2.1 x hx), fun c k x hx q => (b.2.2.1 c k x (Nat.lt_of_lt_of_le hx a.1) q).trans (a.2.2.1 c k x hx q), fun t x i hx q => (b.2.2.2 t x i (Nat.lt_of_lt_of_le hx a.1) q).trans (a.2.2.2 t x i hx q)⟩
theorem Chg.pF {o : Nat} {h h1 : th_H} {ci k a : Nat} {v : Value} (e : Chg o h h1) (ha : o ≤ a ∧ a < o + 98) (hm : cmut ci k = true) : Chg o h (gpF h1 ci k a v) := ⟨e.1, e.2.1, fun c j x hx q => by rw [gF_pF, if_neg (fun z => q ⟨by omega, by omega, by rw [z.1, z.2.1]; exact hm⟩)]; exact e.2.2.1 c j x hx q, e.2.2.2⟩
theorem Chg.pA {o : Nat} {h h1 : th_H} {t a i : Nat} {v : Value} (e : Chg o h h1) (ha : o ≤ a ∧ a < o + 98 ∧ a ≠ o + 81) (ht : t = 1 ∨ t = 2) : Chg o h (gpA h1 t a i v) := ⟨e.1, e.2.1, e.2.2.1, fun t' x j hx q => by rw [gA_pA, if_neg (fun z => q ⟨by omega, by omega, by rw [z.1]; exact ht, by omega⟩)]; exact e.2.2.2 t' x j hx q⟩
theorem Chg.sA {o : Nat} {h h1 : th_H} {t a : Nat} {f : Nat → Value} (e : Chg o h h1) (ha : o ≤ a ∧ a < o + 98 ∧ a ≠ o + 81) (ht : t = 1 ∨ t = 2) : Chg o h (gsA h1 t a f) := ⟨e.1, e.2.1, e.2.2.1, fun t' x j hx q => by rw [gA_sA, if_neg (fun z => q ⟨by omega, by omega, by rw [z.1]; exact ht, by omega⟩)]; exact e.2.2.2 t' x j hx q⟩
theorem Chg.nO {o : Nat} {h h1 : th_H} {ci : Nat} {dv : Nat → Value} (e : Chg o h h1) : Chg o h (gnO h1 ci dv) := by
  have e1 := e.1
  exact ⟨by rw [gz_nO]; omega, fun x hx => by rw [gk_nO, if_neg (by omega)]; exact e.2.1 x hx, fun c k x hx q => by rw [gF_nO, if_neg (fun z => by omega)]; exact e.2.2.1 c k x hx q, e.2.2.2⟩
theorem Chg.t5 {o : Nat} {h h1 : th_H} {a : Nat} {s n : Int32} {x y : Value} {w : Int32} (e : Chg o h h1) (ha : gz h ≤ a) : Chg o h (gT h1 a s n x y w) := ⟨e.1, e.2.1, fun c k b hb q => by
    have : b ≠ a := by omega
    unfold gT
    simp only [gF_pF, this, and_false, if_false]
    exact e.2.2.1 c k b hb q, e.2.2.2⟩
theorem Chg.nT {o : Nat} {h h1 : th_H} {s n : Int32} {x y : Value} {w : Int32} (e : Chg o h h1) : Chg o h (gnT h1 s n x y w) := Chg.t5 e.nO e.1
theorem Chg.te {o : Nat} {h h' : th_H} (wf : WFh h) (e : Chg o h h') : TE h h' := fun a q => ⟨by rw [e.2.1 a (wf a _ q)]; exact q, fun k => e.2.2.1 0 k a (wf a _ q) (by simp [cmut])⟩

def cTop (o : Nat) (h : th_H) : Prop := (gk h o = some (.inl 7)) ∧ (gF h 7 1 o = .ref (o + 1)) ∧ (gF h 7 2 o = .ref (o + 2)) ∧ (gF h 7 3 o = .ref (o + 4)) ∧ (gk h (o + 1) = some (.inl 6)) ∧ (gF h 6 0 (o + 1) = .ref (o + 2)) ∧ (gF h 6 1 (o + 1) = .ref (o + 4)) ∧ (gk h (o + 2) = some (.inl 5)) ∧ (gF h 5 0 (o + 2) = .ref (o + 3)) ∧ (gk h (o + 3) = some (.inr (1, 192))) ∧ (gk h (o + 4) = some (.inl 4)) ∧ (gF h 4 0 (o + 4) = .ref (o + 5)) ∧ (gF h 4 1 (o + 4) = .ref (o + 78)) ∧ (gF h 4 2 (o + 4) = .ref (o + 80)) ∧ (gF h 4 3 (o + 4) = .ref (o + 81)) ∧ (gk h (o + 5) = some (.inr (3, 12))) ∧ (gk h (o + 78) = some (.inl 3)) ∧ (gF h 3 0 (o + 78) = .ref (o + 79)) ∧ (gk h (o + 79) = some (.inr (1, 12))) ∧ (gk h (o + 81) = some (.inr (2, 16))) ∧ (TR h nilT (o + 80)) ∧ (∀ a : Nat, a < 16 → gA h 2 (o + 81) a = .ref (o + 82 + a) ∧ TR h (.leaf (1, nI a)) (o + 82 + a)) ∧ (∀ p : Nat, p < 12 → gA h 3 (o + 5) p = .ref (o + 6 + 6 * p))
def cRow (o p : Nat) (h : th_H) : Prop := (gk h (o + 6 + 6 * p) = some (.inl 2)) ∧ (gF h 2 0 (o + 6 + 6 * p) = .int (nI p)) ∧ (gF h 2 1 (o + 6 + 6 * p) = .ref (o + 7 + 6 * p)) ∧ (TR h (.leaf (2, nI p)) (o + 7 + 6 * p)) ∧ (gF h 2 2 (o + 6 + 6 * p) = .ref (o + 8 + 6 * p)) ∧ (gk h (o + 8 + 6 * p) = some (.inr (2, 8))) ∧ (gF h 2 3 (o + 6 + 6 * p) = .ref (o + 9 + 6 * p)) ∧ (gk h (o + 9 + 6 * p) = some (.inr (1, 6))) ∧ (gF h 2 4 (o + 6 + 6 * p) = .ref (o + 10 + 6 * p)) ∧ (gk h (o + 10 + 6 * p) = some (.inl 1)) ∧ (gF h 1 0 (o + 10 + 6 * p) = .ref (o + 11 + 6 * p)) ∧ (gk h (o + 11 + 6 * p) = some (.inr (2, 12)))
theorem cTop.kO {o : Nat} {h : th_H} (z : cTop o h) : gk h o = some (.inl 7) := z.1
theorem cTop.H1 {o : Nat} {h : th_H} (z : cTop o h) : gF h 7 1 o = .ref (o + 1) := z.2.1
theorem cTop.H2 {o : Nat} {h : th_H} (z : cTop o h) : gF h 7 2 o = .ref (o + 2) := z.2.2.1
theorem cTop.H3 {o : Nat} {h : th_H} (z : cTop o h) : gF h 7 3 o = .ref (o + 4) := z.2.2.2.1
theorem cTop.kM {o : Nat} {h : th_H} (z : cTop o h) : gk h (o + 1) = some (.inl 6) := z.2.2.2.2.1
theorem cTop.M0 {o : Nat} {h : th_H} (z : cTop o h) : gF h 6 0 (o + 1) = .ref (o + 2) := z.2.2.2.2.2.1
theorem cTop.M1 {o : Nat} {h : th_H} (z : cTop o h) : gF h 6 1 (o + 1) = .ref (o + 4) := z.2.2.2.2.2.2.1
theorem cTop.kG {o : Nat} {h : th_H} (z : cTop o h) : gk h (o + 2) = some (.inl 5) := z.2.2.2.2.2.2.2.1
theorem cTop.G0 {o : Nat} {h : th_H} (z : cTop o h) : gF h 5 0 (o + 2) = .ref (o + 3) := z.2.2.2.2.2.2.2.2.1
theorem cTop.kGa {o : Nat} {h : th_H} (z : cTop o h) : gk h (o + 3) = some (.inr (1, 192)) := z.2.2.2.2.2.2.2.2.2.1
theorem cTop.kS {o : Nat} {h : th_H} (z : cTop o h) : gk h (o + 4) = some (.inl 4) := z.2.2.2.2.2.2.2.2.2.2.1
theorem cTop.S0 {o : Nat} {h : th_H} (z : cTop o h) : gF h 4 0 (o + 4) = .ref (o + 5) := z.2.2.2.2.2.2.2.2.2.2.2.1
theorem cTop.S1 {o : Nat} {h : th_H} (z : cTop o h) : gF h 4 1 (o + 4) = .ref (o + 78) := z.2.2.2.2.2.2.2.2.2.2.2.2.1
theorem cTop.S2 {o : Nat} {h : th_H} (z : cTop o h) : gF h 4 2 (o + 4) = .ref (o + 80) := z.2.2.2.2.2.2.2.2.2.2.2.2.2.1
theorem cTop.S3 {o : Nat} {h : th_H} (z : cTop o h) : gF h 4 3 (o + 4) = .ref (o + 81) := z.2.2.2.2.2.2.2.2.2.2.2.2.2.2.1
theorem cTop.kT {o : Nat} {h : th_H} (z : cTop o h) : gk h (o + 5) = some (.inr (3, 12)) := z.2.2.2.2.2.2.2.2.2.2.2.2.2.2.2.1
theorem cTop.kL {o : Nat} {h : th_H} (z : cTop o h) : gk h (o + 78) = some (.inl 3) := z.2.2.2.2.2.2.2.2.2.2.2.2.2.2.2.2.1
theorem cTop.L0 {o : Nat} {h : th_H} (z : cTop o h) : gF h 3 0 (o + 78) = .ref (o + 79) := z.2.2.2.2.2.2.2.2.2.2.2.2.2.2.2.2.2.1
theorem cTop.kLa {o : Nat} {h : th_H} (z : cTop o h) : gk h (o + 79) = some (.inr (1, 12)) := z.2.2.2.2.2.2.2.2.2.2.2.2.2.2.2.2.2.2.1
theorem cTop.kAt {o : Nat} {h : th_H} (z : cTop o h) : gk h (o + 81) = some (.inr (2, 16)) := z.2.2.2.2.2.2.2.2.2.2.2.2.2.2.2.2.2.2.2.1
theorem cTop.nil {o : Nat} {h : th_H} (z : cTop o h) : TR h nilT (o + 80) := z.2.2.2.2.2.2.2.2.2.2.2.2.2.2.2.2.2.2.2.2.1
theorem cTop.at {o : Nat} {h : th_H} (z : cTop o h) : ∀ a : Nat, a < 16 → gA h 2 (o + 81) a = .ref (o + 82 + a) ∧ TR h (.leaf (1, nI a)) (o + 82 + a) := z.2.2.2.2.2.2.2.2.2.2.2.2.2.2.2.2.2.2.2.2.2.1
theorem cTop.tab {o : Nat} {h : th_H} (z : cTop o h) : ∀ p : Nat, p < 12 → gA h 3 (o + 5) p = .ref (o + 6 + 6 * p) := z.2.2.2.2.2.2.2.2.2.2.2.2.2.2.2.2.2.2.2.2.2.2
theorem cRow.k {o p : Nat} {h : th_H} (z : cRow o p h) : gk h (o + 6 + 6 * p) = some (.inl 2) := z.1
theorem cRow.n {o p : Nat} {h : th_H} (z : cRow o p h) : gF h 2 0 (o + 6 + 6 * p) = .int (nI p) := z.2.1
theorem cRow.pid {o p : Nat} {h : th_H} (z : cRow o p h) : gF h 2 1 (o + 6 + 6 * p) = .ref (o + 7 + 6 * p) := z.2.2.1
theorem cRow.tp {o p : Nat} {h : th_H} (z : cRow o p h) : TR h (.leaf (2, nI p)) (o + 7 + 6 * p) := z.2.2.2.1
theorem cRow.rg {o p : Nat} {h : th_H} (z : cRow o p h) : gF h 2 2 (o + 6 + 6 * p) = .ref (o + 8 + 6 * p) := z.2.2.2.2.1
theorem cRow.kr {o p : Nat} {h : th_H} (z : cRow o p h) : gk h (o + 8 + 6 * p) = some (.inr (2, 8)) := z.2.2.2.2.2.1
theorem cRow.re {o p : Nat} {h : th_H} (z : cRow o p h) : gF h 2 3 (o + 6 + 6 * p) = .ref (o + 9 + 6 * p) := z.2.2.2.2.2.2.1
theorem cRow.kre {o p : Nat} {h : th_H} (z : cRow o p h) : gk h (o + 9 + 6 * p) = some (.inr (1, 6)) := z.2.2.2.2.2.2.2.1
theorem cRow.mb {o p : Nat} {h : th_H} (z : cRow o p h) : gF h 2 4 (o + 6 + 6 * p) = .ref (o + 10 + 6 * p) := z.2.2.2.2.2.2.2.2.1
theorem cRow.kmb {o p : Nat} {h : th_H} (z : cRow o p h) : gk h (o + 10 + 6 * p) = some (.inl 1) := z.2.2.2.2.2.2.2.2.2.1
theorem cRow.ma {o p : Nat} {h : th_H} (z : cRow o p h) : gF h 1 0 (o + 10 + 6 * p) = .ref (o + 11 + 6 * p) := z.2.2.2.2.2.2.2.2.2.2.1
theorem cRow.kma {o p : Nat} {h : th_H} (z : cRow o p h) : gk h (o + 11 + 6 * p) = some (.inr (2, 12)) := z.2.2.2.2.2.2.2.2.2.2.2
def cLay (o : Nat) (h : th_H) : Prop := cTop o h ∧ ∀ p : Nat, p < 12 → cRow o p h
theorem cLay.chg {o : Nat} {h h' : th_H} (z : cLay o h) (wf : WFh h) (e : Chg o h h') : cLay o h' := by
  obtain ⟨z, y⟩ := z
  refine ⟨⟨by rw [e.2.1 _ (wf _ _ z.kO)]; exact z.kO, by rw [e.2.2.1 _ _ _ (wf _ _ z.kO) (by simp [cmut])]; exact z.H1, by rw [e.2.2.1 _ _ _ (wf _ _ z.kO) (by simp [cmut])]; exact z.H2, by rw [e.2.2.1 _ _ _ (wf _ _ z.kO) (by simp [cmut])]; exact z.H3, by rw [e.2.1 _ (wf _ _ z.kM)]; exact z.kM, by rw [e.2.2.1 _ _ _ (wf _ _ z.kM) (by simp [cmut])]; exact z.M0, by rw [e.2.2.1 _ _ _ (wf _ _ z.kM) (by simp [cmut])]; exact z.M1, by rw [e.2.1 _ (wf _ _ z.kG)]; exact z.kG, by rw [e.2.2.1 _ _ _ (wf _ _ z.kG) (by simp [cmut])]; exact z.G0, by rw [e.2.1 _ (wf _ _ z.kGa)]; exact z.kGa, by rw [e.2.1 _ (wf _ _ z.kS)]; exact z.kS, by rw [e.2.2.1 _ _ _ (wf _ _ z.kS) (by simp [cmut])]; exact z.S0, by rw [e.2.2.1 _ _ _ (wf _ _ z.kS) (by simp [cmut])]; exact z.S1, by rw [e.2.2.1 _ _ _ (wf _ _ z.kS) (by simp [cmut])]; exact z.S2, by rw [e.2.2.1 _ _ _ (wf _ _ z.kS) (by simp [cmut])]; exact z.S3, by rw [e.2.1 _ (wf _ _ z.kT)]; exact z.kT, by rw [e.2.1 _ (wf _ _ z.kL)]; exact z.kL, by rw [e.2.2.1 _ _ _ (wf _ _ z.kL) (by simp [cmut])]; exact z.L0, by rw [e.2.1 _ (wf _ _ z.kLa)]; exact z.kLa, by rw [e.2.1 _ (wf _ _ z.kAt)]; exact z.kAt, TR.mono (e.te wf) _ _ z.nil, fun a ha => ⟨by rw [e.2.2.2 _ _ _ (wf _ _ z.kAt) (by simp)]; exact (z.at a ha).1, TR.mono (e.te wf) _ _ (z.at a ha).2⟩, fun p hp => by rw [e.2.2.2 _ _ _ (wf _ _ z.kT) (by simp)]; exact z.tab p hp⟩, fun p hp => ?_⟩
  have y := y p hp
  exact ⟨by rw [e.2.1 _ (wf _ _ y.k)]; exact y.k, by rw [e.2.2.1 _ _ _ (wf _ _ y.k) (by simp [cmut])]; exact y.n, by rw [e.2.2.1 _ _ _ (wf _ _ y.k) (by simp [cmut])]; exact y.pid, TR.mono (e.te wf) _ _ y.tp, by rw [e.2.2.1 _ _ _ (wf _ _ y.k) (by simp [cmut])]; exact y.rg, by rw [e.2.1 _ (wf _ _ y.kr)]; exact y.kr, by rw [e.2.2.1 _ _ _ (wf _ _ y.k) (by simp [cmut])]; exact y.re, by rw [e.2.1 _ (wf _ _ y.kre)]; exact y.kre, by rw [e.2.2.1 _ _ _ (wf _ _ y.k) (by simp [cmut])]; exact y.mb, by rw [e.2.1 _ (wf _ _ y.kmb)]; exact y.kmb, by rw [e.2.2.1 _ _ _ (wf _ _ y.kmb) (by simp [cmut])]; exact y.ma, by rw [e.2.1 _ (wf _ _ y.kma)]; exact y.kma⟩
/-- a process in its cells -/
def cPr (o p : Nat) (P : Pr) (h : th_H) : Prop :=
  (∀ k : Nat, k < 8 → ∃ a, gA h 2 (o + 8 + 6 * p) k = .ref a ∧ TR h (pRg P k) a) ∧
  gF h 2 6 (o + 6 + 6 * p) = .int (nI (pPl P)) ∧
  (gF h 2 5 (o + 6 + 6 * p) = .int (nI (pRe P).length) ∧ ∀ i x, (pRe P)[i]? = some x → gA h 1 (o + 9 + 6 * p) i = .int (nI x)) ∧
  (gF h 1 1 (o + 10 + 6 * p) = .int (nI (pMs P).length) ∧ ∀ i t, (pMs P)[i]? = some t → ∃ a, gA h 2 (o + 11 + 6 * p) i = .ref a ∧ TR h t a) ∧
  gF h 1 2 (o + 10 + 6 * p) = .int (nI (pMk P)) ∧
  gF h 2 7 (o + 6 + 6 * p) = .int (pLk P) ∧
  gF h 2 8 (o + 6 + 6 * p) = .int (if pTr P then 1 else 0) ∧
  gF h 2 9 (o + 6 + 6 * p) = .int (nI (pSt P)) ∧
  ((pRs P = none → gF h 2 10 (o + 6 + 6 * p) = .null) ∧ ∀ t, pRs P = some t → ∃ a, gF h 2 10 (o + 6 + 6 * p) = .ref a ∧ TR h t a) ∧
  gF h 2 11 (o + 6 + 6 * p) = .int (pDn P)
def cCd (o : Nat) (l : List (Nat × Int32 × Int32 × Int32)) (h : th_H) : Prop := gF h 5 1 (o + 2) = .int (nI l.length) ∧ ∀ i q, l[i]? = some q → gA h 1 (o + 3) (4 * i) = .int (nI q.1) ∧ gA h 1 (o + 3) (4 * i + 1) = .int q.2.1 ∧ gA h 1 (o + 3) (4 * i + 2) = .int q.2.2.1 ∧ gA h 1 (o + 3) (4 * i + 3) = .int q.2.2.2
def cQu (o : Nat) (l : List Nat) (h : th_H) : Prop := gF h 3 1 (o + 78) = .int (nI l.length) ∧ ∀ i x, l[i]? = some x → gA h 1 (o + 79) i = .int (nI x)
/-- the class's object at o holds the host σ -/
def CR (o : Nat) (σ : Ho) (h : th_H) : Prop := cLay o h ∧ (gF h 7 0 o = .int (oQt σ) ∧ gF h 7 4 o = .int (nI (oSp σ))) ∧ cCd o (oCd σ) h ∧ cQu o (oQu σ) h ∧ gF h 4 4 (o + 4) = .int (nI (oCt σ)) ∧ ∀ p : Nat, p < oCt σ → cPr o p (oPr σ p) h
/-- the process p's cells are as they were -/
def Same (o p : Nat) (h h' : th_H) : Prop := (∀ k, gF h' 2 k (o + 6 + 6 * p) = gF h 2 k (o + 6 + 6 * p)) ∧ (∀ k, gF h' 1 k (o + 10 + 6 * p) = gF h 1 k (o + 10 + 6 * p)) ∧ (∀ i, gA h' 2 (o + 8 + 6 * p) i = gA h 2 (o + 8 + 6 * p) i) ∧ (∀ i, gA h' 1 (o + 9 + 6 * p) i = gA h 1 (o + 9 + 6 * p) i) ∧ ∀ i, gA h' 2 (o + 11 + 6 * p) i = gA h 2 (o + 11 + 6 * p) i
theorem Same.rf (o p : Nat) (h : th_H) : Same o p h h := ⟨fun _ => rfl, fun _ => rfl, fun _ => rfl, fun _ => rfl, fun _ => rfl⟩
theorem Same.tr {o p : Nat} {h h1 h2 : th_H} (a : Same o p h h1) (b : Same o p h1 h2) : Same o p h h2 := ⟨fun k => (b.1 k).trans (a.1 k), fun k => (b.2.1 k).trans (a.2.1 k), fun k => (b.2.2.1 k).trans (a.2.2.1 k), fun k => (b.2.2.2.1 k).trans (a.2.2.2.1 k), fun k => (b.2.2.2.2 k).trans (a.2.2.2.2 k)⟩
theorem cPr.same {o p : Nat} {P : Pr} {h h' : th_H} (z : cPr o p P h) (e : TE h h') (s : Same o p h h') : cPr o p P h' := by
  obtain ⟨z1, z2, ⟨z3, z4⟩, ⟨z5, z6⟩, z7, z8, z9, z10, ⟨z11, z12⟩, z13⟩ := z
  obtain ⟨s1, s2, s3, s4, s5⟩ := s
  refine ⟨fun k hk => ?_, by rw [s1]; exact z2, ⟨by rw [s1]; exact z3, fun i x hx => by rw [s4]; exact z4 i x hx⟩, ⟨by rw [s2]; exact z5, fun i t ht => ?_⟩, by rw [s2]; exact z7, by rw [s1]; exact z8, by rw [s1]; exact z9, by rw [s1]; exact z10, ⟨fun q => by rw [s1]; exact z11 q, fun t q => ?_⟩, by rw [s1]; exact z13⟩
  · obtain ⟨a, q1, q2⟩ := z1 k hk
    exact ⟨a, by rw [s3]; exact q1, TR.mono e _ _ q2⟩
  · obtain ⟨a, q1, q2⟩ := z6 i t ht
    exact ⟨a, by rw [s5]; exact q1, TR.mono e _ _ q2⟩
  · obtain ⟨a, q1, q2⟩ := z12 t q
    exact ⟨a, by rw [s1]; exact q1, TR.mono e _ _ q2⟩
theorem Same.pF {o p : Nat} {h h1 : th_H} {ci k a : Nat} {v : Value} (e : Same o p h h1) (hn : ¬ (ci = 2 ∧ a = o + 6 + 6 * p) ∧ ¬ (ci = 1 ∧ a = o + 10 + 6 * p)) : Same o p h (gpF h1 ci k a v) := ⟨fun j => by rw [gF_pF, if_neg (fun z => hn.1 ⟨z.1.symm, z.2.2.symm⟩)]; exact e.1 j, fun j => by rw [gF_pF, if_neg (fun z => hn.2 ⟨z.1.symm, z.2.2.symm⟩)]; exact e.2.1 j, e.2.2.1, e.2.2.2.1, e.2.2.2.2⟩
theorem Same.pA {o p : Nat} {h h1 : th_H} {t a i : Nat} {v : Value} (e : Same o p h h1) (hn : ¬ (t = 2 ∧ (a = o + 8 + 6 * p ∨ a = o + 11 + 6 * p)) ∧ ¬ (t = 1 ∧ a = o + 9 + 6 * p)) : Same o p h (gpA h1 t a i v) := ⟨e.1, e.2.1, fun j => by rw [gA_pA, if_neg (fun z => hn.1 ⟨z.1.symm, Or.inl z.2.1.symm⟩)]; exact e.2.2.1 j, fun j => by rw [gA_pA, if_neg (fun z => hn.2 ⟨z.1.symm, z.2.1.symm⟩)]; exact e.2.2.2.1 j, fun j => by rw [gA_pA, if_neg (fun z => hn.1 ⟨z.1.symm, Or.inr z.2.1.symm⟩)]; exact e.2.2.2.2 j⟩
theorem Same.sA {o p : Nat} {h h1 : th_H} {t a : Nat} {f : Nat → Value} (e : Same o p h h1) (hn : ¬ (t = 2 ∧ (a = o + 8 + 6 * p ∨ a = o + 11 + 6 * p)) ∧ ¬ (t = 1 ∧ a = o + 9 + 6 * p)) : Same o p h (gsA h1 t a f) := ⟨e.1, e.2.1, fun j => by rw [gA_sA, if_neg (fun z => hn.1 ⟨z.1.symm, Or.inl z.2.symm⟩)]; exact e.2.2.1 j, fun j => by rw [gA_sA, if_neg (fun z => hn.2 ⟨z.1.symm, z.2.symm⟩)]; exact e.2.2.2.1 j, fun j => by rw [gA_sA, if_neg (fun z => hn.1 ⟨z.1.symm, Or.inr z.2.symm⟩)]; exact e.2.2.2.2 j⟩
theorem CR.to {o : Nat} {σ : Ho} {h : th_H} {σ' : Ho} {h' : th_H} (z : CR o σ h) (wf : WFh h) (e : Chg o h h') (h1 : gF h' 7 0 o = .int (oQt σ')) (h2 : gF h' 7 4 o = .int (nI (oSp σ'))) (h3 : cCd o (oCd σ') h') (h4 : cQu o (oQu σ') h') (h5 : gF h' 4 4 (o + 4) = .int (nI (oCt σ'))) (h6 : ∀ p : Nat, p < oCt σ' → cPr o p (oPr σ' p) h') : CR o σ' h' := ⟨z.1.chg wf e, ⟨h1, h2⟩, h3, h4, h5, h6⟩
/-- the addresses in an array of references -/
def refOf : Value → Nat
  | .ref a => a
  | _ => 0
def refsOf (h : th_H) (t a n : Nat) : List Nat := (List.range n).map (fun i => refOf (gA h t a i))
theorem refsOf_len (h : th_H) (t a n : Nat) : (refsOf h t a n).length = n := by simp [refsOf]
theorem refsOf_at {h : th_H} {t a n i x : Nat} (q : (refsOf h t a n)[i]? = some x) : i < n ∧ x = refOf (gA h t a i) := by
  have hi : i < n := by have := (List.getElem?_eq_some_iff.mp q).1; rw [refsOf_len] at this; exact this
  refine ⟨hi, ?_⟩
  simp [refsOf, hi] at q
  exact q.symm
end
section
/-! The class's picture: what the single stores do to it (printed by wip/gen/mod_rep2.py). -/
def Keep (o : Nat) (h h' : th_H) : Prop := (∀ k, gF h' 7 k o = gF h 7 k o) ∧ gF h' 5 1 (o + 2) = gF h 5 1 (o + 2) ∧ (∀ i, gA h' 1 (o + 3) i = gA h 1 (o + 3) i) ∧ gF h' 4 4 (o + 4) = gF h 4 4 (o + 4)
def KeepQ (o : Nat) (h h' : th_H) : Prop := gF h' 3 1 (o + 78) = gF h 3 1 (o + 78) ∧ ∀ i, gA h' 1 (o + 79) i = gA h 1 (o + 79) i
theorem Keep.rf (o : Nat) (h : th_H) : Keep o h h := ⟨fun _ => rfl, rfl, fun _ => rfl, rfl⟩
theorem KeepQ.rf (o : Nat) (h : th_H) : KeepQ o h h := ⟨rfl, fun _ => rfl⟩
theorem Keep.tr {o : Nat} {h h1 h2 : th_H} (a : Keep o h h1) (b : Keep o h1 h2) : Keep o h h2 := ⟨fun k => (b.1 k).trans (a.1 k), b.2.1.trans a.2.1, fun k => (b.2.2.1 k).trans (a.2.2.1 k), b.2.2.2.trans a.2.2.2⟩
theorem KeepQ.tr {o : Nat} {h h1 h2 : th_H} (a : KeepQ o h h1) (b : KeepQ o h1 h2) : KeepQ o h h2 := ⟨b.1.trans a.1, fun k => (b.2 k).trans (a.2 k)⟩
theorem Keep.pF {o : Nat} {h h1 : th_H} {ci k a : Nat} {v : Value} (e : Keep o h h1) (hc : ci = 1 ∨ ci = 2 ∨ ci = 3) : Keep o h (gpF h1 ci k a v) := ⟨fun j => by rw [gF_pF, if_neg (fun z => by omega)]; exact e.1 j, by rw [gF_pF, if_neg (fun z => by omega)]; exact e.2.1, e.2.2.1, by rw [gF_pF, if_neg (fun z => by omega)]; exact e.2.2.2⟩
theorem Keep.pA {o : Nat} {h h1 : th_H} {t a i : Nat} {v : Value} (e : Keep o h h1) (ha : a ≠ o + 3) : Keep o h (gpA h1 t a i v) := ⟨e.1, e.2.1, fun j => by rw [gA_pA, if_neg (fun z => ha z.2.1.symm)]; exact e.2.2.1 j, e.2.2.2⟩
theorem Keep.sA {o : Nat} {h h1 : th_H} {t a : Nat} {f : Nat → Value} (e : Keep o h h1) (ha : a ≠ o + 3) : Keep o h (gsA h1 t a f) := ⟨e.1, e.2.1, fun j => by rw [gA_sA, if_neg (fun z => ha z.2.symm)]; exact e.2.2.1 j, e.2.2.2⟩
theorem KeepQ.pF {o : Nat} {h h1 : th_H} {ci k a : Nat} {v : Value} (e : KeepQ o h h1) (hc : ci ≠ 3) : KeepQ o h (gpF h1 ci k a v) := ⟨by rw [gF_pF, if_neg (fun z => hc z.1.symm)]; exact e.1, e.2⟩
theorem KeepQ.pA {o : Nat} {h h1 : th_H} {t a i : Nat} {v : Value} (e : KeepQ o h h1) (ha : a ≠ o + 79) : KeepQ o h (gpA h1 t a i v) := ⟨e.1, fun j => by rw [gA_pA, if_neg (fun z => ha z.2.1.symm)]; exact e.2 j⟩
theorem KeepQ.sA {o : Nat} {h h1 : th_H} {t a : Nat} {f : Nat → Value} (e : KeepQ o h h1) (ha : a ≠ o + 79) : KeepQ o h (gsA h1 t a f) := ⟨e.1, fun j => by rw [gA_sA, if_neg (fun z => ha z.2.symm)]; exact e.2 j⟩
theorem cQu.keep {o : Nat} {l : List Nat} {h h' : th_H} (z : cQu o l h) (e : KeepQ o h h') : cQu o l h' := ⟨by rw [e.1]; exact z.1, fun i x q => by rw [e.2]; exact z.2 i x q⟩
theorem cCd.keep {o : Nat} {l : List (Nat × Int32 × Int32 × Int32)} {h h' : th_H} (z : cCd o l h) (e : Keep o h h') : cCd o l h' := ⟨by rw [e.2.1]; exact z.1, fun i x q => by rw [e.2.2.1, e.2.2.1, e.2.2.1, e.2.2.1]; exact z.2 i x q⟩
/-- one process changes -/
theorem CR.sPr {o : Nat} {σ : Ho} {h h' : th_H} {p : Nat} {P' : Pr} (z : CR o σ h) (wf : WFh h) (e : Chg o h h') (k : Keep o h h') (kq : KeepQ o h h') (hp : cPr o p P' h') (hs : ∀ q : Nat, q < oCt σ → q ≠ p → Same o q h h') : CR o (sPr σ p P') h' := by
  refine CR.to z wf e (by rw [k.1]; exact z.2.1.1) (by rw [k.1]; exact z.2.1.2) (z.2.2.1.keep k) (z.2.2.2.1.keep kq) (by rw [k.2.2.2]; exact z.2.2.2.2.1) (fun q hq => ?_)
  show cPr o q (va_up (oPr σ) p P' q) h'
  by_cases hqp : q = p
  · rw [hqp, va_up_self]; exact hp
  · rw [va_up_ne _ _ hqp]; exact (z.2.2.2.2.2 q hq).same (e.te wf) (hs q hq hqp)
/-- the queue changes -/
theorem CR.sQu {o : Nat} {σ : Ho} {h h' : th_H} {l : List Nat} (z : CR o σ h) (wf : WFh h) (e : Chg o h h') (k : Keep o h h') (hq : cQu o l h') (hs : ∀ q : Nat, q < oCt σ → Same o q h h') : CR o (sQu σ l) h' :=
  CR.to z wf e (by rw [k.1]; exact z.2.1.1) (by rw [k.1]; exact z.2.1.2) (z.2.2.1.keep k) hq (by rw [k.2.2.2]; exact z.2.2.2.2.1) (fun q h9 => (z.2.2.2.2.2 q h9).same (e.te wf) (hs q h9))
theorem cPr.ms {o p : Nat} {P : Pr} {h : th_H} (z : cPr o p P h) {i x : Nat} (q : (refsOf h 2 (o + 11 + 6 * p) (pMs P).length)[i]? = some x) : gA h 2 (o + 11 + 6 * p) i = .ref x ∧ ∃ t, (pMs P)[i]? = some t ∧ TR h t x := by
  obtain ⟨hi, hx⟩ := refsOf_at q
  obtain ⟨t, ht⟩ := get_some hi
  obtain ⟨a, h1, h2⟩ := z.2.2.2.1.2 i t ht
  rw [h1] at hx
  have : x = a := hx
  subst this
  exact ⟨h1, t, ht, h2⟩
theorem cPr.rg {o p : Nat} {P : Pr} {h : th_H} (z : cPr o p P h) {k : Nat} (hk : k < 8) : gA h 2 (o + 8 + 6 * p) k = .ref (refOf (gA h 2 (o + 8 + 6 * p) k)) ∧ TR h (pRg P k) (refOf (gA h 2 (o + 8 + 6 * p) k)) := by
  obtain ⟨a, h1, h2⟩ := z.1 k hk
  rw [h1]
  exact ⟨rfl, h2⟩
theorem cPr_pl {o p : Nat} {P : Pr} {h : th_H} (l : Nat) (z : cPr o p P h) : cPr o p (sPl P l) (gpF h 2 6 (o + 6 + 6 * p) (.int (nI l))) := by
  obtain ⟨z1, z2, ⟨z3, z4⟩, ⟨z5, z6⟩, z7, z8, z9, z10, ⟨z11, z12⟩, z13⟩ := z
  exact ⟨fun j hj => (z1 j hj).imp (fun a q => ⟨q.1, TR.mono (TE.pF (TE.rf h) (by decide)) _ _ q.2⟩), by rw [gF_pF, if_pos ⟨rfl, rfl, rfl⟩], ⟨by rw [gF_pF, if_neg (fun z => absurd z.2.1 (by decide))]; exact z3, z4⟩, ⟨by rw [gF_pF, if_neg (fun z => absurd z.1 (by decide))]; exact z5, fun i t ht => (z6 i t ht).imp (fun a q => ⟨q.1, TR.mono (TE.pF (TE.rf h) (by decide)) _ _ q.2⟩)⟩, by rw [gF_pF, if_neg (fun z => absurd z.1 (by decide))]; exact z7, by rw [gF_pF, if_neg (fun z => absurd z.2.1 (by decide))]; exact z8, by rw [gF_pF, if_neg (fun z => absurd z.2.1 (by decide))]; exact z9, by rw [gF_pF, if_neg (fun z => absurd z.2.1 (by decide))]; exact z10, ⟨fun q => by rw [gF_pF, if_neg (fun z => absurd z.2.1 (by decide))]; exact z11 q, fun t q => (z12 t q).imp (fun a q => ⟨by rw [gF_pF, if_neg (fun z => absurd z.2.1 (by decide))]; exact q.1, TR.mono (TE.pF (TE.rf h) (by decide)) _ _ q.2⟩)⟩, by rw [gF_pF, if_neg (fun z => absurd z.2.1 (by decide))]; exact z13⟩
theorem cPr_lk {o p : Nat} {P : Pr} {h : th_H} (x : Int32) (z : cPr o p P h) : cPr o p (sLk P x) (gpF h 2 7 (o + 6 + 6 * p) (.int x)) := by
  obtain ⟨z1, z2, ⟨z3, z4⟩, ⟨z5, z6⟩, z7, z8, z9, z10, ⟨z11, z12⟩, z13⟩ := z
  exact ⟨fun j hj => (z1 j hj).imp (fun a q => ⟨q.1, TR.mono (TE.pF (TE.rf h) (by decide)) _ _ q.2⟩), by rw [gF_pF, if_neg (fun z => absurd z.2.1 (by decide))]; exact z2, ⟨by rw [gF_pF, if_neg (fun z => absurd z.2.1 (by decide))]; exact z3, z4⟩, ⟨by rw [gF_pF, if_neg (fun z => absurd z.1 (by decide))]; exact z5, fun i t ht => (z6 i t ht).imp (fun a q => ⟨q.1, TR.mono (TE.pF (TE.rf h) (by decide)) _ _ q.2⟩)⟩, by rw [gF_pF, if_neg (fun z => absurd z.1 (by decide))]; exact z7, by rw [gF_pF, if_pos ⟨rfl, rfl, rfl⟩], by rw [gF_pF, if_neg (fun z => absurd z.2.1 (by decide))]; exact z9, by rw [gF_pF, if_neg (fun z => absurd z.2.1 (by decide))]; exact z10, ⟨fun q => by rw [gF_pF, if_neg (fun z => absurd z.2.1 (by decide))]; exact z11 q, fun t q => (z12 t q).imp (fun a q => ⟨by rw [gF_pF, if_neg (fun z => absurd z.2.1 (by decide))]; exact q.1, TR.mono (TE.pF (TE.rf h) (by decide)) _ _ q.2⟩)⟩, by rw [gF_pF, if_neg (fun z => absurd z.2.1 (by decide))]; exact z13⟩
theorem cPr_tr {o p : Nat} {P : Pr} {h : th_H} (b : Bool) (z : cPr o p P h) : cPr o p (sTr P b) (gpF h 2 8 (o + 6 + 6 * p) (.int (if b then 1 else 0))) := by
  obtain ⟨z1, z2, ⟨z3, z4⟩, ⟨z5, z6⟩, z7, z8, z9, z10, ⟨z11, z12⟩, z13⟩ := z
  exact ⟨fun j hj => (z1 j hj).imp (fun a q => ⟨q.1, TR.mono (TE.pF (TE.rf h) (by decide)) _ _ q.2⟩), by rw [gF_pF, if_neg (fun z => absurd z.2.1 (by decide))]; exact z2, ⟨by rw [gF_pF, if_neg (fun z => absurd z.2.1 (by decide))]; exact z3, z4⟩, ⟨by rw [gF_pF, if_neg (fun z => absurd z.1 (by decide))]; exact z5, fun i t ht => (z6 i t ht).imp (fun a q => ⟨q.1, TR.mono (TE.pF (TE.rf h) (by decide)) _ _ q.2⟩)⟩, by rw [gF_pF, if_neg (fun z => absurd z.1 (by decide))]; exact z7, by rw [gF_pF, if_neg (fun z => absurd z.2.1 (by decide))]; exact z8, by rw [gF_pF, if_pos ⟨rfl, rfl, rfl⟩], by rw [gF_pF, if_neg (fun z => absurd z.2.1 (by decide))]; exact z10, ⟨fun q => by rw [gF_pF, if_neg (fun z => absurd z.2.1 (by decide))]; exact z11 q, fun t q => (z12 t q).imp (fun a q => ⟨by rw [gF_pF, if_neg (fun z => absurd z.2.1 (by decide))]; exact q.1, TR.mono (TE.pF (TE.rf h) (by decide)) _ _ q.2⟩)⟩, by rw [gF_pF, if_neg (fun z => absurd z.2.1 (by decide))]; exact z13⟩
theorem cPr_st {o p : Nat} {P : Pr} {h : th_H} (n : Nat) (z : cPr o p P h) : cPr o p (sSt P n) (gpF h 2 9 (o + 6 + 6 * p) (.int (nI n))) := by
  obtain ⟨z1, z2, ⟨z3, z4⟩, ⟨z5, z6⟩, z7, z8, z9, z10, ⟨z11, z12⟩, z13⟩ := z
  exact ⟨fun j hj => (z1 j hj).imp (fun a q => ⟨q.1, TR.mono (TE.pF (TE.rf h) (by decide)) _ _ q.2⟩), by rw [gF_pF, if_neg (fun z => absurd z.2.1 (by decide))]; exact z2, ⟨by rw [gF_pF, if_neg (fun z => absurd z.2.1 (by decide))]; exact z3, z4⟩, ⟨by rw [gF_pF, if_neg (fun z => absurd z.1 (by decide))]; exact z5, fun i t ht => (z6 i t ht).imp (fun a q => ⟨q.1, TR.mono (TE.pF (TE.rf h) (by decide)) _ _ q.2⟩)⟩, by rw [gF_pF, if_neg (fun z => absurd z.1 (by decide))]; exact z7, by rw [gF_pF, if_neg (fun z => absurd z.2.1 (by decide))]; exact z8, by rw [gF_pF, if_neg (fun z => absurd z.2.1 (by decide))]; exact z9, by rw [gF_pF, if_pos ⟨rfl, rfl, rfl⟩], ⟨fun q => by rw [gF_pF, if_neg (fun z => absurd z.2.1 (by decide))]; exact z11 q, fun t q => (z12 t q).imp (fun a q => ⟨by rw [gF_pF, if_neg (fun z => absurd z.2.1 (by decide))]; exact q.1, TR.mono (TE.pF (TE.rf h) (by decide)) _ _ q.2⟩)⟩, by rw [gF_pF, if_neg (fun z => absurd z.2.1 (by decide))]; exact z13⟩
theorem cPr_dn {o p : Nat} {P : Pr} {h : th_H} (x : Int32) (z : cPr o p P h) : cPr o p (sDn P x) (gpF h 2 11 (o + 6 + 6 * p) (.int x)) := by
  obtain ⟨z1, z2, ⟨z3, z4⟩, ⟨z5, z6⟩, z7, z8, z9, z10, ⟨z11, z12⟩, z13⟩ := z
  exact ⟨fun j hj => (z1 j hj).imp (fun a q => ⟨q.1, TR.mono (TE.pF (TE.rf h) (by decide)) _ _ q.2⟩), by rw [gF_pF, if_neg (fun z => absurd z.2.1 (by decide))]; exact z2, ⟨by rw [gF_pF, if_neg (fun z => absurd z.2.1 (by decide))]; exact z3, z4⟩, ⟨by rw [gF_pF, if_neg (fun z => absurd z.1 (by decide))]; exact z5, fun i t ht => (z6 i t ht).imp (fun a q => ⟨q.1, TR.mono (TE.pF (TE.rf h) (by decide)) _ _ q.2⟩)⟩, by rw [gF_pF, if_neg (fun z => absurd z.1 (by decide))]; exact z7, by rw [gF_pF, if_neg (fun z => absurd z.2.1 (by decide))]; exact z8, by rw [gF_pF, if_neg (fun z => absurd z.2.1 (by decide))]; exact z9, by rw [gF_pF, if_neg (fun z => absurd z.2.1 (by decide))]; exact z10, ⟨fun q => by rw [gF_pF, if_neg (fun z => absurd z.2.1 (by decide))]; exact z11 q, fun t q => (z12 t q).imp (fun a q => ⟨by rw [gF_pF, if_neg (fun z => absurd z.2.1 (by decide))]; exact q.1, TR.mono (TE.pF (TE.rf h) (by decide)) _ _ q.2⟩)⟩, by rw [gF_pF, if_pos ⟨rfl, rfl, rfl⟩]⟩
theorem cPr_mk {o p : Nat} {P : Pr} {h : th_H} (n : Nat) (z : cPr o p P h) : cPr o p (sMk P n) (gpF h 1 2 (o + 10 + 6 * p) (.int (nI n))) := by
  obtain ⟨z1, z2, ⟨z3, z4⟩, ⟨z5, z6⟩, z7, z8, z9, z10, ⟨z11, z12⟩, z13⟩ := z
  exact ⟨fun j hj => (z1 j hj).imp (fun a q => ⟨q.1, TR.mono (TE.pF (TE.rf h) (by decide)) _ _ q.2⟩), by rw [gF_pF, if_neg (fun z => absurd z.1 (by decide))]; exact z2, ⟨by rw [gF_pF, if_neg (fun z => absurd z.1 (by decide))]; exact z3, z4⟩, ⟨by rw [gF_pF, if_neg (fun z => absurd z.2.1 (by decide))]; exact z5, fun i t ht => (z6 i t ht).imp (fun a q => ⟨q.1, TR.mono (TE.pF (TE.rf h) (by decide)) _ _ q.2⟩)⟩, by rw [gF_pF, if_pos ⟨rfl, rfl, rfl⟩], by rw [gF_pF, if_neg (fun z => absurd z.1 (by decide))]; exact z8, by rw [gF_pF, if_neg (fun z => absurd z.1 (by decide))]; exact z9, by rw [gF_pF, if_neg (fun z => absurd z.1 (by decide))]; exact z10, ⟨fun q => by rw [gF_pF, if_neg (fun z => absurd z.1 (by decide))]; exact z11 q, fun t q => (z12 t q).imp (fun a q => ⟨by rw [gF_pF, if_neg (fun z => absurd z.1 (by decide))]; exact q.1, TR.mono (TE.pF (TE.rf h) (by decide)) _ _ q.2⟩)⟩, by rw [gF_pF, if_neg (fun z => absurd z.1 (by decide))]; exact z13⟩
theorem cPr_rs {o p : Nat} {P : Pr} {h : th_H} {t : Tm} {a : Nat} (q : TR h t a) (z : cPr o p P h) : cPr o p (sRs P (some t)) (gpF h 2 10 (o + 6 + 6 * p) (.ref a)) := by
  obtain ⟨z1, z2, ⟨z3, z4⟩, ⟨z5, z6⟩, z7, z8, z9, z10, ⟨z11, z12⟩, z13⟩ := z
  exact ⟨fun j hj => (z1 j hj).imp (fun a q => ⟨q.1, TR.mono (TE.pF (TE.rf h) (by decide)) _ _ q.2⟩), by rw [gF_pF, if_neg (fun z => absurd z.2.1 (by decide))]; exact z2, ⟨by rw [gF_pF, if_neg (fun z => absurd z.2.1 (by decide))]; exact z3, z4⟩, ⟨by rw [gF_pF, if_neg (fun z => absurd z.1 (by decide))]; exact z5, fun i t ht => (z6 i t ht).imp (fun a q => ⟨q.1, TR.mono (TE.pF (TE.rf h) (by decide)) _ _ q.2⟩)⟩, by rw [gF_pF, if_neg (fun z => absurd z.1 (by decide))]; exact z7, by rw [gF_pF, if_neg (fun z => absurd z.2.1 (by decide))]; exact z8, by rw [gF_pF, if_neg (fun z => absurd z.2.1 (by decide))]; exact z9, by rw [gF_pF, if_neg (fun z => absurd z.2.1 (by decide))]; exact z10, ⟨fun q => (by cases q), fun t2 q2 => by cases q2; exact ⟨a, by rw [gF_pF, if_pos ⟨rfl, rfl, rfl⟩], TR.mono (TE.pF (TE.rf h) (by decide)) _ _ q⟩⟩, by rw [gF_pF, if_neg (fun z => absurd z.2.1 (by decide))]; exact z13⟩
theorem cPr_pop {o p : Nat} {P : Pr} {h : th_H} {l : List Nat} (hl : ∀ i x : Nat, l[i]? = some x → (pRe P)[i]? = some x) (z : cPr o p P h) : cPr o p (sRe P l) (gpF h 2 5 (o + 6 + 6 * p) (.int (nI l.length))) := by
  obtain ⟨z1, z2, ⟨z3, z4⟩, ⟨z5, z6⟩, z7, z8, z9, z10, ⟨z11, z12⟩, z13⟩ := z
  exact ⟨fun j hj => (z1 j hj).imp (fun a q => ⟨q.1, TR.mono (TE.pF (TE.rf h) (by decide)) _ _ q.2⟩), by rw [gF_pF, if_neg (fun z => absurd z.2.1 (by decide))]; exact z2, ⟨by rw [gF_pF, if_pos ⟨rfl, rfl, rfl⟩], fun i x q => z4 i x (hl i x q)⟩, ⟨by rw [gF_pF, if_neg (fun z => absurd z.1 (by decide))]; exact z5, fun i t ht => (z6 i t ht).imp (fun a q => ⟨q.1, TR.mono (TE.pF (TE.rf h) (by decide)) _ _ q.2⟩)⟩, by rw [gF_pF, if_neg (fun z => absurd z.1 (by decide))]; exact z7, by rw [gF_pF, if_neg (fun z => absurd z.2.1 (by decide))]; exact z8, by rw [gF_pF, if_neg (fun z => absurd z.2.1 (by decide))]; exact z9, by rw [gF_pF, if_neg (fun z => absurd z.2.1 (by decide))]; exact z10, ⟨fun q => by rw [gF_pF, if_neg (fun z => absurd z.2.1 (by decide))]; exact z11 q, fun t q => (z12 t q).imp (fun a q => ⟨by rw [gF_pF, if_neg (fun z => absurd z.2.1 (by decide))]; exact q.1, TR.mono (TE.pF (TE.rf h) (by decide)) _ _ q.2⟩)⟩, by rw [gF_pF, if_neg (fun z => absurd z.2.1 (by decide))]; exact z13⟩
theorem cPr_put {o p : Nat} {P : Pr} {h : th_H} {t : Tm} {a : Nat} (q : TR h t a) (z : cPr o p P h) : cPr o p (sMs P (pMs P ++ [t])) (gpF (gpA h 2 (o + 11 + 6 * p) (pMs P).length (.ref a)) 1 1 (o + 10 + 6 * p) (.int (nI ((pMs P).length + 1)))) := by
  obtain ⟨z1, z2, ⟨z3, z4⟩, ⟨z5, z6⟩, z7, z8, z9, z10, ⟨z11, z12⟩, z13⟩ := z
  have te : TE h (gpF (gpA h 2 (o + 11 + 6 * p) (pMs P).length (.ref a)) 1 1 (o + 10 + 6 * p) (.int (nI ((pMs P).length + 1)))) := TE.pF (TE.pA (TE.rf h)) (by decide)
  have n2 : ∀ k b, gF (gpF (gpA h 2 (o + 11 + 6 * p) (pMs P).length (.ref a)) 1 1 (o + 10 + 6 * p) (.int (nI ((pMs P).length + 1)))) 2 k b = gF h 2 k b := fun k b => by rw [gF_pF, if_neg (fun z => absurd z.1 (by decide)), gF_pA]
  refine ⟨fun j hj => ?_, by rw [n2]; exact z2, ⟨by rw [n2]; exact z3, fun i x hx => ?_⟩, ⟨?_, fun i t2 ht => ?_⟩, ?_, by rw [n2]; exact z8, by rw [n2]; exact z9, by rw [n2]; exact z10, ⟨fun q => by rw [n2]; exact z11 q, fun t2 q2 => ?_⟩, by rw [n2]; exact z13⟩
  · obtain ⟨b, h1, h2⟩ := z1 j hj
    exact ⟨b, by rw [gA_pF, gA_pA, if_neg (fun z => by omega)]; exact h1, TR.mono te _ _ h2⟩
  · rw [gA_pF, gA_pA, if_neg (fun z => by omega)]; exact z4 i x hx
  · rw [gF_pF, if_pos ⟨rfl, rfl, rfl⟩, List.length_append]; rfl
  · by_cases hi : i = (pMs P).length
    · rw [hi, List.getElem?_append_right (Nat.le_refl _), Nat.sub_self] at ht
      cases ht
      exact ⟨a, by rw [gA_pF, gA_pA, if_pos ⟨rfl, rfl, hi⟩], TR.mono te _ _ q⟩
    · have hl : i < (pMs P ++ [t]).length := (List.getElem?_eq_some_iff.mp ht).1
      simp only [List.length_append, List.length_cons, List.length_nil] at hl
      rw [List.getElem?_append_left (by omega)] at ht
      obtain ⟨b, h1, h2⟩ := z6 i t2 ht
      exact ⟨b, by rw [gA_pF, gA_pA, if_neg (fun z => hi z.2.2)]; exact h1, TR.mono te _ _ h2⟩
  · rw [gF_pF, if_neg (fun z => absurd z.2.1 (by decide)), gF_pA]; exact z7
  · obtain ⟨b, h1, h2⟩ := z12 t2 q2
    exact ⟨b, by rw [n2]; exact h1, TR.mono te _ _ h2⟩
theorem cPr_reg {o p : Nat} {P : Pr} {h : th_H} {t : Tm} {a r : Nat} (q : TR h t a) (z : cPr o p P h) : cPr o p (sRg P r t) (gpA h 2 (o + 8 + 6 * p) r (.ref a)) := by
  obtain ⟨z1, z2, ⟨z3, z4⟩, ⟨z5, z6⟩, z7, z8, z9, z10, ⟨z11, z12⟩, z13⟩ := z
  have te : TE h (gpA h 2 (o + 8 + 6 * p) r (.ref a)) := TE.pA (TE.rf h)
  refine ⟨fun j hj => ?_, z2, ⟨z3, fun i x hx => ?_⟩, ⟨z5, fun i t2 ht => ?_⟩, z7, z8, z9, z10, ⟨z11, fun t2 q2 => (z12 t2 q2).imp (fun b q => ⟨q.1, TR.mono te _ _ q.2⟩)⟩, z13⟩
  · show ∃ b, _ ∧ TR _ (va_up (pRg P) r t j) b
    by_cases hj2 : j = r
    · rw [hj2, va_up_self]
      exact ⟨a, by rw [gA_pA, if_pos ⟨rfl, rfl, rfl⟩], TR.mono te _ _ q⟩
    · rw [va_up_ne _ _ hj2]
      obtain ⟨b, h1, h2⟩ := z1 j hj
      exact ⟨b, by rw [gA_pA, if_neg (fun z => hj2 z.2.2)]; exact h1, TR.mono te _ _ h2⟩
  · rw [gA_pA, if_neg (fun z => by omega)]; exact z4 i x hx
  · obtain ⟨b, h1, h2⟩ := z6 i t2 ht
    exact ⟨b, by rw [gA_pA, if_neg (fun z => by omega)]; exact h1, TR.mono te _ _ h2⟩
theorem cPr_push {o p : Nat} {P : Pr} {h : th_H} {x : Nat} (z : cPr o p P h) : cPr o p (sRe P (pRe P ++ [x])) (gpF (gpA h 1 (o + 9 + 6 * p) (pRe P).length (.int (nI x))) 2 5 (o + 6 + 6 * p) (.int (nI ((pRe P).length + 1)))) := by
  obtain ⟨z1, z2, ⟨z3, z4⟩, ⟨z5, z6⟩, z7, z8, z9, z10, ⟨z11, z12⟩, z13⟩ := z
  have te : TE h (gpF (gpA h 1 (o + 9 + 6 * p) (pRe P).length (.int (nI x))) 2 5 (o + 6 + 6 * p) (.int (nI ((pRe P).length + 1)))) := TE.pF (TE.pA (TE.rf h)) (by decide)
  have n2 : ∀ k b, k ≠ 5 → gF (gpF (gpA h 1 (o + 9 + 6 * p) (pRe P).length (.int (nI x))) 2 5 (o + 6 + 6 * p) (.int (nI ((pRe P).length + 1)))) 2 k b = gF h 2 k b := fun k b hk => by rw [gF_pF, if_neg (fun z => hk z.2.1), gF_pA]
  have n1 : ∀ k b, gF (gpF (gpA h 1 (o + 9 + 6 * p) (pRe P).length (.int (nI x))) 2 5 (o + 6 + 6 * p) (.int (nI ((pRe P).length + 1)))) 1 k b = gF h 1 k b := fun k b => by rw [gF_pF, if_neg (fun z => absurd z.1 (by decide)), gF_pA]
  refine ⟨fun j hj => ?_, by rw [n2 _ _ (by decide)]; exact z2, ⟨?_, fun i y hy => ?_⟩, ⟨by rw [n1]; exact z5, fun i t2 ht => ?_⟩, by rw [n1]; exact z7, by rw [n2 _ _ (by decide)]; exact z8, by rw [n2 _ _ (by decide)]; exact z9, by rw [n2 _ _ (by decide)]; exact z10, ⟨fun q => by rw [n2 _ _ (by decide)]; exact z11 q, fun t2 q2 => ?_⟩, by rw [n2 _ _ (by decide)]; exact z13⟩
  · obtain ⟨b, h1, h2⟩ := z1 j hj
    exact ⟨b, by rw [gA_pF, gA_pA, if_neg (fun z => by omega)]; exact h1, TR.mono te _ _ h2⟩
  · rw [gF_pF, if_pos ⟨rfl, rfl, rfl⟩, List.length_append]; rfl
  · by_cases hi : i = (pRe P).length
    · rw [hi, List.getElem?_append_right (Nat.le_refl _), Nat.sub_self] at hy
      cases hy
      rw [gA_pF, gA_pA, if_pos ⟨rfl, rfl, hi⟩]
    · have hl : i < (pRe P ++ [x]).length := (List.getElem?_eq_some_iff.mp hy).1
      simp only [List.length_append, List.length_cons, List.length_nil] at hl
      rw [List.getElem?_append_left (by omega)] at hy
      rw [gA_pF, gA_pA, if_neg (fun z => hi z.2.2)]; exact z4 i y hy
  · obtain ⟨b, h1, h2⟩ := z6 i t2 ht
    exact ⟨b, by rw [gA_pF, gA_pA, if_neg (fun z => by omega)]; exact h1, TR.mono te _ _ h2⟩
  · obtain ⟨b, h1, h2⟩ := z12 t2 q2
    exact ⟨b, by rw [n2 _ _ (by decide)]; exact h1, TR.mono te _ _ h2⟩
theorem cQu_add {o : Nat} {l : List Nat} {h : th_H} {p : Nat} (z : cQu o l h) : cQu o (l ++ [p]) (gpF (gpA h 1 (o + 79) l.length (.int (nI p))) 3 1 (o + 78) (.int (nI (l.length + 1)))) := by
  refine ⟨by rw [gF_pF, if_pos ⟨rfl, rfl, rfl⟩, List.length_append]; rfl, fun i x q => ?_⟩
  by_cases hi : i = l.length
  · rw [hi, List.getElem?_append_right (Nat.le_refl _), Nat.sub_self] at q
    cases q
    rw [gA_pF, gA_pA, if_pos ⟨rfl, rfl, hi⟩]
  · have hl := (List.getElem?_eq_some_iff.mp q).1
    simp only [List.length_append, List.length_cons, List.length_nil] at hl
    rw [List.getElem?_append_left (by omega)] at q
    rw [gA_pF, gA_pA, if_neg (fun z => hi z.2.2)]; exact z.2 i x q
theorem cQu_set {o : Nat} {l : List Nat} {h : th_H} {f : Nat → Value} (hf : ∀ i x, l[i]? = some x → f i = .int (nI x)) : cQu o l (gpF (gsA h 1 (o + 79) f) 3 1 (o + 78) (.int (nI l.length))) := by
  refine ⟨by rw [gF_pF, if_pos ⟨rfl, rfl, rfl⟩], fun i x q => ?_⟩
  rw [gA_pF, gA_sA, if_pos ⟨rfl, rfl⟩]; exact hf i x q
end
section
/-! Society, first part (printed by wip/gen/mod_soc.py). -/
/-- an end: this answer, the object holds σ', nothing else has changed -/
abbrev Mv (o : Nat) (h : th_H) (V : Option Value) (σ' : Ho) : Option Value → th_H → Prop := fun v h' => v = V ∧ CR o σ' h' ∧ Chg o h h'
theorem c_S_numbered {E : th_E} {h : th_H} {o : Nat} {σ : Ho} (z : CR o σ h) (hc : oCt σ ≤ 12) (k : Int32) (r : Value) (hr : (k < 0 ∨ nI (oCt σ) ≤ k → r = .null) ∧ ∀ j : Nat, j < oCt σ → k = nI j → r = .ref (o + 6 + 6 * j)) : Xc E m_S_numbered 0 0 0 [.ref (o + 4), .int k] h (Ex (some r) h) := by
  refine Xc.of (by decide) (by simp [Value.category]) (Nat.le_of_ble_eq_true rfl) ?_
  show Xw E m_S_numbered 0 0 0 0 [some (.ref (o + 4)), some (.int k)] [] h _
  refine x_iload_n d_S_numbered_0 rfl rfl ?_
  refine x_if_lt (tgt := 21) d_S_numbered_1 rfl (fun q1 => ?_) (fun q1 => ?_)
  · obtain rfl : r = .null := hr.1 (Or.inl q1)
    refine x_null d_S_numbered_21 ?_
    exact x_aret d_S_numbered_22 rfl (Or.inl ⟨_, rfl⟩) (Or.inl rfl) ⟨rfl, rfl⟩
  · refine x_iload_n d_S_numbered_4 rfl rfl ?_
    refine x_aload_n d_S_numbered_5 rfl rfl ?_
    refine x_getf (v := .int (nI (oCt σ))) d_S_numbered_6 lf_S_40 z.1.1.kS z.2.2.2.2.1 ?_
    refine x_icmp_ge (tgt := 21) d_S_numbered_9 rfl (fun q9 => ?_) (fun q9 => ?_)
    · obtain rfl : r = .null := hr.1 (Or.inr q9)
      refine x_null d_S_numbered_21 ?_
      exact x_aret d_S_numbered_22 rfl (Or.inl ⟨_, rfl⟩) (Or.inl rfl) ⟨rfl, rfl⟩
    · obtain ⟨j, hj, rfl⟩ := nI_of q1
      have hjn : j < oCt σ := Nat.lt_of_not_le (fun z => q9 (nI_le z hj))
      obtain rfl : r = .ref (o + 6 + 6 * j) := hr.2 j hjn rfl
      refine x_aload_n d_S_numbered_12 rfl rfl ?_
      refine x_getf (v := .ref (o + 5)) d_S_numbered_13 lf_S_11 z.1.1.kS z.1.1.S0 ?_
      refine x_iload_n d_S_numbered_16 rfl rfl ?_
      refine x_aald (v := .ref (o + 6 + 6 * j)) d_S_numbered_17 z.1.1.kT rfl (vp_in_nI (by omega) (by decide)) (by rw [nI_cl hj]; exact z.1.1.tab j (by omega)) ?_
      refine x_goto (tgt := 22) d_S_numbered_18 rfl ?_
      exact x_aret d_S_numbered_22 rfl (Or.inl ⟨_, rfl⟩) (Or.inr ⟨_, rfl⟩) ⟨rfl, rfl⟩
theorem c_S_bearing {E : th_E} {h : th_H} {o : Nat} {σ : Ho} (z : CR o σ h) (hc : oCt σ ≤ 12) {t : Tm} {x : Nat} (q : TR h t x) (r : Value) (hv : r = .null ∨ ∃ a, r = .ref a) (hr : (¬ tS t = 2 → r = .null) ∧ (tS t = 2 → tN t < 0 ∨ nI (oCt σ) ≤ tN t → r = .null) ∧ ∀ j : Nat, tS t = 2 → j < oCt σ → tN t = nI j → r = .ref (o + 6 + 6 * j)) : Xc E m_S_bearing 1 0 0 [.ref (o + 4), .ref x] h (Ex (some r) h) := by
  refine Xc.of (by decide) (by simp [Value.category]) (Nat.le_of_ble_eq_true rfl) ?_
  show Xw E m_S_bearing 1 0 0 0 [some (.ref (o + 4)), some (.ref x)] [] h _
  by_cases hs : tS t = 2
  · refine x_aload_n d_S_bearing_0 rfl rfl ?_
    refine x_getf (v := .int (tS t)) d_S_bearing_1 lf_S_47 q.k q.s ?_
    refine x_iconst (v := 2) d_S_bearing_4 (by decide) ?_
    refine x_icmp_ne (tgt := 19) d_S_bearing_5 rfl (fun q => absurd hs q) (fun q5 => ?_)
    refine x_aload_n d_S_bearing_8 rfl rfl ?_
    refine x_aload_n d_S_bearing_9 rfl rfl ?_
    refine x_getf (v := .int (tN t)) d_S_bearing_10 lf_S_50 q.k q.n ?_
    refine x_invv d_S_bearing_13 lm_S_53 (as := [.int (tN t)]) (S := []) (c_S_numbered z hc (tN t) r ⟨fun a => hr.2.1 hs a, fun j hj e => hr.2.2 j hs hj e⟩) z.1.1.kS rfl rfl rfl (Nat.le_of_ble_eq_true rfl) (Nat.le_refl 1) (Nat.le_refl 0) (Nat.le_refl 0) ?_
    rintro _ _ ⟨rfl, rfl⟩
    refine x_goto (tgt := 20) d_S_bearing_16 rfl ?_
    exact x_aret d_S_bearing_20 rfl (Or.inl ⟨_, rfl⟩) hv ⟨rfl, rfl⟩
  · refine x_aload_n d_S_bearing_0 rfl rfl ?_
    refine x_getf (v := .int (tS t)) d_S_bearing_1 lf_S_47 q.k q.s ?_
    refine x_iconst (v := 2) d_S_bearing_4 (by decide) ?_
    refine x_icmp_ne (tgt := 19) d_S_bearing_5 rfl (fun q5 => ?_) (fun q => absurd q hs)
    refine x_null d_S_bearing_19 ?_
    exact x_aret d_S_bearing_20 rfl (Or.inl ⟨_, rfl⟩) (Or.inl rfl) ⟨by rw [hr.1 hs], rfl⟩
theorem c_S_tie {E : th_E} {h : th_H} {o : Nat} {σ : Ho} (z : CR o σ h) (hc : oCt σ ≤ 12) {p q : Nat} (hp : p < oCt σ) (hq : q < oCt σ) (hpq : p ≠ q) : Xc E m_S_tie 0 0 0 [.ref (o + 4), .ref (o + 6 + 6 * p), .ref (o + 6 + 6 * q)] h (Mv o h none (tieM σ p q)) := by
  have hp12 : p < 12 := by omega
  have hq12 : q < 12 := by omega
  refine Xc.of (by decide) (by simp [Value.category]) (Nat.le_of_ble_eq_true rfl) ?_
  show Xw E m_S_tie 0 0 0 0 [some (.ref (o + 4)), some (.ref (o + 6 + 6 * p)), some (.ref (o + 6 + 6 * q))] [] h _
  refine Xw.wf (fun wf => ?_)
  have chg1 : Chg o h (gpF h 2 7 (o + 6 + 6 * p) (.int (pLk (oPr σ p) ||| bitM q))) := (Chg.rf o h).pF ⟨by omega, by omega⟩ rfl
  have chg : Chg o h (gpF (gpF h 2 7 (o + 6 + 6 * p) (.int (pLk (oPr σ p) ||| bitM q))) 2 7 (o + 6 + 6 * q) (.int (pLk (oPr σ q) ||| bitM p))) := chg1.pF ⟨by omega, by omega⟩ rfl
  have c1 : CR o (sPr σ p (sLk (oPr σ p) (pLk (oPr σ p) ||| bitM q))) (gpF h 2 7 (o + 6 + 6 * p) (.int (pLk (oPr σ p) ||| bitM q))) := z.sPr wf chg1 ((Keep.rf o h).pF (by omega)) ((KeepQ.rf o h).pF (by decide)) (cPr_lk _ (z.2.2.2.2.2 p hp)) (fun r _ hr => (Same.rf o r h).pF ⟨by omega, by omega⟩)
  have e1 : oPr (sPr σ p (sLk (oPr σ p) (pLk (oPr σ p) ||| bitM q))) q = oPr σ q := va_up_ne _ _ (Ne.symm hpq)
  have fin : CR o (tieM σ p q) (gpF (gpF h 2 7 (o + 6 + 6 * p) (.int (pLk (oPr σ p) ||| bitM q))) 2 7 (o + 6 + 6 * q) (.int (pLk (oPr σ q) ||| bitM p))) := by
    unfold tieM
    simp only [e1]
    exact c1.sPr wf ((Chg.rf o _).pF ⟨by omega, by omega⟩ rfl) ((Keep.rf o _).pF (by omega)) ((KeepQ.rf o _).pF (by decide)) (cPr_lk _ (by rw [← e1]; exact c1.2.2.2.2.2 q hq)) (fun r _ hr => (Same.rf o r _).pF ⟨by omega, by omega⟩)
  refine x_aload_n d_S_tie_0 rfl rfl ?_
  refine x_dup d_S_tie_1 rfl ?_
  refine x_getf (v := .int (pLk (oPr σ p))) d_S_tie_2 lf_S_81 (z.1.2 p hp12).k (z.2.2.2.2.2 p hp).2.2.2.2.2.1 ?_
  refine x_iconst (v := 1) d_S_tie_5 (by decide) ?_
  refine x_aload_n d_S_tie_6 rfl rfl ?_
  refine x_getf (v := .int (nI q)) d_S_tie_7 lf_S_61 (z.1.2 q hq12).k (z.1.2 q hq12).n ?_
  refine x_ishl (v := (1 <<< ((nI q) &&& 31))) d_S_tie_10 rfl ?_
  refine x_ior (v := ((pLk (oPr σ p)) ||| (1 <<< ((nI q) &&& 31)))) d_S_tie_11 rfl ?_
  refine x_putf d_S_tie_12 lp_S_81 (z.1.2 p hp12).k ⟨_, rfl⟩ ?_
  refine x_aload_n d_S_tie_15 rfl rfl ?_
  refine x_dup d_S_tie_16 rfl ?_
  refine x_getf (v := .int (pLk (oPr σ q))) d_S_tie_17 lf_S_81 (z.1.2 q hq12).k (by simp [gF_pF, gF_pA, gF_nO, gF_nA, gF_sA, show ¬ (6 * q = 6 * p) by omega, (z.2.2.2.2.2 q hq).2.2.2.2.2.1]) ?_
  refine x_iconst (v := 1) d_S_tie_20 (by decide) ?_
  refine x_aload_n d_S_tie_21 rfl rfl ?_
  refine x_getf (v := .int (nI p)) d_S_tie_22 lf_S_61 (z.1.2 p hp12).k (by simp [gF_pF, gF_pA, gF_nO, gF_nA, gF_sA, (z.1.2 p hp12).n]) ?_
  refine x_ishl (v := (1 <<< ((nI p) &&& 31))) d_S_tie_25 rfl ?_
  refine x_ior (v := ((pLk (oPr σ q)) ||| (1 <<< ((nI p) &&& 31)))) d_S_tie_26 rfl ?_
  refine x_putf d_S_tie_27 lp_S_81 (z.1.2 q hq12).k ⟨_, rfl⟩ ?_
  exact x_ret ⟨rfl, fin, chg⟩ rfl d_S_tie_30
theorem c_S_untie {E : th_E} {h : th_H} {o : Nat} {σ : Ho} (z : CR o σ h) (hc : oCt σ ≤ 12) {p q : Nat} (hp : p < oCt σ) (hq : q < oCt σ) (hpq : p ≠ q) : Xc E m_S_untie 0 0 0 [.ref (o + 4), .ref (o + 6 + 6 * p), .ref (o + 6 + 6 * q)] h (Mv o h none (untieM σ p q)) := by
  have hp12 : p < 12 := by omega
  have hq12 : q < 12 := by omega
  refine Xc.of (by decide) (by simp [Value.category]) (Nat.le_of_ble_eq_true rfl) ?_
  show Xw E m_S_untie 0 0 0 0 [some (.ref (o + 4)), some (.ref (o + 6 + 6 * p)), some (.ref (o + 6 + 6 * q))] [] h _
  refine Xw.wf (fun wf => ?_)
  have chg1 : Chg o h (gpF h 2 7 (o + 6 + 6 * p) (.int (pLk (oPr σ p) &&& (bitM q ^^^ -1)))) := (Chg.rf o h).pF ⟨by omega, by omega⟩ rfl
  have chg : Chg o h (gpF (gpF h 2 7 (o + 6 + 6 * p) (.int (pLk (oPr σ p) &&& (bitM q ^^^ -1)))) 2 7 (o + 6 + 6 * q) (.int (pLk (oPr σ q) &&& (bitM p ^^^ -1)))) := chg1.pF ⟨by omega, by omega⟩ rfl
  have c1 : CR o (sPr σ p (sLk (oPr σ p) (pLk (oPr σ p) &&& (bitM q ^^^ -1)))) (gpF h 2 7 (o + 6 + 6 * p) (.int (pLk (oPr σ p) &&& (bitM q ^^^ -1)))) := z.sPr wf chg1 ((Keep.rf o h).pF (by omega)) ((KeepQ.rf o h).pF (by decide)) (cPr_lk _ (z.2.2.2.2.2 p hp)) (fun r _ hr => (Same.rf o r h).pF ⟨by omega, by omega⟩)
  have e1 : oPr (sPr σ p (sLk (oPr σ p) (pLk (oPr σ p) &&& (bitM q ^^^ -1)))) q = oPr σ q := va_up_ne _ _ (Ne.symm hpq)
  have fin : CR o (untieM σ p q) (gpF (gpF h 2 7 (o + 6 + 6 * p) (.int (pLk (oPr σ p) &&& (bitM q ^^^ -1)))) 2 7 (o + 6 + 6 * q) (.int (pLk (oPr σ q) &&& (bitM p ^^^ -1)))) := by
    unfold untieM
    simp only [e1]
    exact c1.sPr wf ((Chg.rf o _).pF ⟨by omega, by omega⟩ rfl) ((Keep.rf o _).pF (by omega)) ((KeepQ.rf o _).pF (by decide)) (cPr_lk _ (by rw [← e1]; exact c1.2.2.2.2.2 q hq)) (fun r _ hr => (Same.rf o r _).pF ⟨by omega, by omega⟩)
  refine x_aload_n d_S_untie_0 rfl rfl ?_
  refine x_dup d_S_untie_1 rfl ?_
  refine x_getf (v := .int (pLk (oPr σ p))) d_S_untie_2 lf_S_81 (z.1.2 p hp12).k (z.2.2.2.2.2 p hp).2.2.2.2.2.1 ?_
  refine x_iconst (v := 1) d_S_untie_5 (by decide) ?_
  refine x_aload_n d_S_untie_6 rfl rfl ?_
  refine x_getf (v := .int (nI q)) d_S_untie_7 lf_S_61 (z.1.2 q hq12).k (z.1.2 q hq12).n ?_
  refine x_ishl (v := (1 <<< ((nI q) &&& 31))) d_S_untie_10 rfl ?_
  refine x_iconst (v := (-1)) d_S_untie_11 (by decide) ?_
  refine x_ixor (v := ((1 <<< ((nI q) &&& 31)) ^^^ (-1))) d_S_untie_12 rfl ?_
  refine x_iand (v := ((pLk (oPr σ p)) &&& ((1 <<< ((nI q) &&& 31)) ^^^ (-1)))) d_S_untie_13 rfl ?_
  refine x_putf d_S_untie_14 lp_S_81 (z.1.2 p hp12).k ⟨_, rfl⟩ ?_
  refine x_aload_n d_S_untie_17 rfl rfl ?_
  refine x_dup d_S_untie_18 rfl ?_
  refine x_getf (v := .int (pLk (oPr σ q))) d_S_untie_19 lf_S_81 (z.1.2 q hq12).k (by simp [gF_pF, gF_pA, gF_nO, gF_nA, gF_sA, show ¬ (6 * q = 6 * p) by omega, (z.2.2.2.2.2 q hq).2.2.2.2.2.1]) ?_
  refine x_iconst (v := 1) d_S_untie_22 (by decide) ?_
  refine x_aload_n d_S_untie_23 rfl rfl ?_
  refine x_getf (v := .int (nI p)) d_S_untie_24 lf_S_61 (z.1.2 p hp12).k (by simp [gF_pF, gF_pA, gF_nO, gF_nA, gF_sA, (z.1.2 p hp12).n]) ?_
  refine x_ishl (v := (1 <<< ((nI p) &&& 31))) d_S_untie_27 rfl ?_
  refine x_iconst (v := (-1)) d_S_untie_28 (by decide) ?_
  refine x_ixor (v := ((1 <<< ((nI p) &&& 31)) ^^^ (-1))) d_S_untie_29 rfl ?_
  refine x_iand (v := ((pLk (oPr σ q)) &&& ((1 <<< ((nI p) &&& 31)) ^^^ (-1)))) d_S_untie_30 rfl ?_
  refine x_putf d_S_untie_31 lp_S_81 (z.1.2 q hq12).k ⟨_, rfl⟩ ?_
  exact x_ret ⟨rfl, fin, chg⟩ rfl d_S_untie_34
def suspendM (σ : Ho) (p : Nat) : Ho := leaveM (sPr σ p (sSt (oPr σ p) 2)) p
theorem c_S_suspend {E : th_E} {h : th_H} {o : Nat} {σ : Ho} (z : CR o σ h) (hc : oCt σ ≤ 12) {p : Nat} (hp : p < oCt σ) (hql : (oQu σ).length ≤ 12) (hqm : ∀ x ∈ oQu σ, x < 12) : Xc E m_S_suspend 1 0 0 [.ref (o + 4), .ref (o + 6 + 6 * p)] h (Mv o h none (suspendM σ p)) := by
  have hp12 : p < 12 := by omega
  refine Xc.of (by decide) (by simp [Value.category]) (Nat.le_of_ble_eq_true rfl) ?_
  show Xw E m_S_suspend 1 0 0 0 [some (.ref (o + 4)), some (.ref (o + 6 + 6 * p))] [] h _
  refine Xw.wf (fun wf => ?_)
  have chg1 : Chg o h (gpF h 2 9 (o + 6 + 6 * p) (.int (nI 2))) := (Chg.rf o h).pF ⟨by omega, by omega⟩ rfl
  have c1 : CR o (sPr σ p (sSt (oPr σ p) 2)) (gpF h 2 9 (o + 6 + 6 * p) (.int (nI 2))) := z.sPr wf chg1 ((Keep.rf o h).pF (by omega)) ((KeepQ.rf o h).pF (by decide)) (cPr_st 2 (z.2.2.2.2.2 p hp)) (fun r _ hr => (Same.rf o r h).pF ⟨by omega, by omega⟩)
  refine x_aload_n d_S_suspend_0 rfl rfl ?_
  refine x_iconst (v := (nI 2)) d_S_suspend_1 (by decide) ?_
  refine x_putf d_S_suspend_2 lp_S_65 (z.1.2 p hp12).k ⟨_, rfl⟩ ?_
  refine x_aload_n d_S_suspend_5 rfl rfl ?_
  refine x_getf (v := .ref (o + 78)) d_S_suspend_6 lf_S_23 z.1.1.kS (by simp [gF_pF, gF_pA, gF_nO, gF_nA, gF_sA, z.1.1.S1]) ?_
  refine x_aload_n d_S_suspend_9 rfl rfl ?_
  refine x_getf (v := .int (nI p)) d_S_suspend_10 lf_S_61 (z.1.2 p hp12).k (by simp [gF_pF, gF_pA, gF_nO, gF_nA, gF_sA, (z.1.2 p hp12).n]) ?_
  refine x_invv d_S_suspend_13 lm_S_78 (as := [.int (nI p)]) (S := []) (c_L_leave (h := (gpF h 2 9 (o + 6 + 6 * p) (.int (nI 2)))) (ln := o + 78) (na := o + 79) (qs := oQu σ) z.1.1.kL z.1.1.kLa (by simp [gF_pF, z.1.1.L0]) (by simp [gF_pF, z.2.2.2.1.1]) hql hqm hp12 (fun i x hx => z.2.2.2.1.2 i x hx)) z.1.1.kL rfl rfl rfl (Nat.le_of_ble_eq_true rfl) (Nat.le_refl 1) (Nat.le_refl 0) (Nat.le_refl 0) ?_
  rintro _ _ ⟨rfl, f', rfl, hf⟩
  have chg : Chg o h (gpF (gsA (gpF h 2 9 (o + 6 + 6 * p) (.int (nI 2))) 1 (o + 79) f') 3 1 (o + 78) (.int (nI ((oQu σ).filter (fun x => x ≠ p)).length))) := (chg1.sA ⟨by omega, by omega, by omega⟩ (Or.inl rfl)).pF ⟨by omega, by omega⟩ rfl
  have fin : CR o (suspendM σ p) (gpF (gsA (gpF h 2 9 (o + 6 + 6 * p) (.int (nI 2))) 1 (o + 79) f') 3 1 (o + 78) (.int (nI ((oQu σ).filter (fun x => x ≠ p)).length))) := c1.sQu wf (((Chg.rf o _).sA ⟨by omega, by omega, by omega⟩ (Or.inl rfl)).pF ⟨by omega, by omega⟩ rfl) (((Keep.rf o _).sA (by omega)).pF (by omega)) (cQu_set hf) (fun r hr => ((Same.rf o r _).sA ⟨by omega, by have : r < oCt σ := hr; omega⟩).pF ⟨by omega, by omega⟩)
  exact x_ret ⟨rfl, fin, chg⟩ rfl d_S_suspend_16
theorem c_S_deliver {E : th_E} {h : th_H} {o : Nat} {σ : Ho} (z : CR o σ h) (hc : oCt σ ≤ 12) {q : Nat} (hq : q < oCt σ) (hms : (pMs (oPr σ q)).length ≤ 12) (hst : pSt (oPr σ q) < 2 ^ 31) (hql : pSt (oPr σ q) = 2 → (oQu σ).length < 12) {t : Tm} {x : Nat} (hx : TR h t x) : Xc E m_S_deliver 1 0 0 [.ref (o + 4), .ref (o + 6 + 6 * q), .ref x] h (Mv o h none (deliverM σ q t)) := by
  have hq12 : q < 12 := by omega
  have zq := z.2.2.2.2.2 q hq
  refine Xc.of (by decide) (by simp [Value.category]) (Nat.le_of_ble_eq_true rfl) ?_
  show Xw E m_S_deliver 1 0 0 0 [some (.ref (o + 4)), some (.ref (o + 6 + 6 * q)), some (.ref x)] [] h _
  refine Xw.wf (fun wf => ?_)
  by_cases h3 : pSt (oPr σ q) = 3
  · refine x_aload_n d_S_deliver_0 rfl rfl ?_
    refine x_getf (v := .int (nI (pSt (oPr σ q)))) d_S_deliver_1 lf_S_65 (z.1.2 q hq12).k zq.2.2.2.2.2.2.2.1 ?_
    refine x_iconst (v := 3) d_S_deliver_4 (by decide) ?_
    refine x_icmp_eq (tgt := 19) d_S_deliver_5 rfl (fun q5 => ?_) (fun q => absurd (by rw [h3]; rfl) q)
    exact x_ret ⟨rfl, by rw [deliverM, if_pos (Or.inl h3)]; exact z, Chg.rf o h⟩ rfl d_S_deliver_19
  by_cases hf : 12 ≤ (pMs (oPr σ q)).length
  · refine x_aload_n d_S_deliver_0 rfl rfl ?_
    refine x_getf (v := .int (nI (pSt (oPr σ q)))) d_S_deliver_1 lf_S_65 (z.1.2 q hq12).k zq.2.2.2.2.2.2.2.1 ?_
    refine x_iconst (v := 3) d_S_deliver_4 (by decide) ?_
    refine x_icmp_eq (tgt := 19) d_S_deliver_5 rfl (fun q => absurd q (fun e => h3 (nI_inj hst (by decide) e))) (fun q5 => ?_)
    refine x_aload_n d_S_deliver_8 rfl rfl ?_
    refine x_getf (v := .ref (o + 10 + 6 * q)) d_S_deliver_9 lf_S_68 (z.1.2 q hq12).k (z.1.2 q hq12).mb ?_
    refine x_aload_n d_S_deliver_12 rfl rfl ?_
    refine x_invv d_S_deliver_13 lm_S_72 (as := [.ref x]) (S := []) (c_B_put_full (k1 := (z.1.2 q hq12).kmb) (k2 := (z.1.2 q hq12).kma) (f0 := (z.1.2 q hq12).ma) (f1 := (by rw [refsOf_len]; exact zq.2.2.2.1.1)) (f2 := zq.2.2.2.2.1) (hn := (by rw [refsOf_len]; exact hms)) (fm := (fun i y hy => (zq.ms hy).1)) (x := x) (hf := (by rw [refsOf_len]; exact hf))) (z.1.2 q hq12).kmb rfl rfl rfl (Nat.le_of_ble_eq_true rfl) (Nat.le_refl 1) (Nat.le_refl 0) (Nat.le_refl 0) ?_
    rintro _ _ ⟨rfl, rfl⟩
    refine x_if_ne (tgt := 20) d_S_deliver_16 rfl (fun q => absurd rfl q) (fun q16 => ?_)
    exact x_ret ⟨rfl, by rw [deliverM, if_pos (Or.inr hf)]; exact z, Chg.rf o h⟩ rfl d_S_deliver_19
  have chgA : Chg o h (gpF (gpA h 2 (o + 11 + 6 * q) (pMs (oPr σ q)).length (.ref x)) 1 1 (o + 10 + 6 * q) (.int (nI ((pMs (oPr σ q)).length + 1)))) := ((Chg.rf o h).pA ⟨by omega, by omega, by omega⟩ (Or.inr rfl)).pF ⟨by omega, by omega⟩ rfl
  by_cases h2 : pSt (oPr σ q) = 2
  · have chgB : Chg o h (gpF (gpF (gpA h 2 (o + 11 + 6 * q) (pMs (oPr σ q)).length (.ref x)) 1 1 (o + 10 + 6 * q) (.int (nI ((pMs (oPr σ q)).length + 1)))) 2 9 (o + 6 + 6 * q) (.int (nI 1))) := chgA.pF ⟨by omega, by omega⟩ rfl
    have cB : CR o (sPr σ q (sSt (sMs (oPr σ q) (pMs (oPr σ q) ++ [t])) 1)) (gpF (gpF (gpA h 2 (o + 11 + 6 * q) (pMs (oPr σ q)).length (.ref x)) 1 1 (o + 10 + 6 * q) (.int (nI ((pMs (oPr σ q)).length + 1)))) 2 9 (o + 6 + 6 * q) (.int (nI 1))) := z.sPr wf chgB ((((Keep.rf o h).pA (by omega)).pF (by omega)).pF (by omega)) ((((KeepQ.rf o h).pA (by omega)).pF (by decide)).pF (by decide)) (cPr_st 1 (cPr_put hx zq)) (fun r _ hr => (((Same.rf o r h).pA ⟨by omega, by omega⟩).pF ⟨by omega, by omega⟩).pF ⟨by omega, by omega⟩)
    have chgC : Chg o h (gpF (gpA (gpF (gpF (gpA h 2 (o + 11 + 6 * q) (pMs (oPr σ q)).length (.ref x)) 1 1 (o + 10 + 6 * q) (.int (nI ((pMs (oPr σ q)).length + 1)))) 2 9 (o + 6 + 6 * q) (.int (nI 1))) 1 (o + 79) (oQu σ).length (.int (nI q))) 3 1 (o + 78) (.int (nI ((oQu σ).length + 1)))) := (chgB.pA ⟨by omega, by omega, by omega⟩ (Or.inl rfl)).pF ⟨by omega, by omega⟩ rfl
    have cC : CR o (comeM (sPr σ q (sSt (sMs (oPr σ q) (pMs (oPr σ q) ++ [t])) 1)) q) (gpF (gpA (gpF (gpF (gpA h 2 (o + 11 + 6 * q) (pMs (oPr σ q)).length (.ref x)) 1 1 (o + 10 + 6 * q) (.int (nI ((pMs (oPr σ q)).length + 1)))) 2 9 (o + 6 + 6 * q) (.int (nI 1))) 1 (o + 79) (oQu σ).length (.int (nI q))) 3 1 (o + 78) (.int (nI ((oQu σ).length + 1)))) := cB.sQu wf (((Chg.rf o _).pA ⟨by omega, by omega, by omega⟩ (Or.inl rfl)).pF ⟨by omega, by omega⟩ rfl) (((Keep.rf o _).pA (by omega)).pF (by omega)) (cQu_add cB.2.2.2.1) (fun r hr => ((Same.rf o r _).pA ⟨by omega, by have : r < oCt σ := hr; omega⟩).pF ⟨by omega, by omega⟩)
    refine x_aload_n d_S_deliver_0 rfl rfl ?_
    refine x_getf (v := .int (nI (pSt (oPr σ q)))) d_S_deliver_1 lf_S_65 (z.1.2 q hq12).k zq.2.2.2.2.2.2.2.1 ?_
    refine x_iconst (v := 3) d_S_deliver_4 (by decide) ?_
    refine x_icmp_eq (tgt := 19) d_S_deliver_5 rfl (fun q => absurd q (fun e => h3 (nI_inj hst (by decide) e))) (fun q5 => ?_)
    refine x_aload_n d_S_deliver_8 rfl rfl ?_
    refine x_getf (v := .ref (o + 10 + 6 * q)) d_S_deliver_9 lf_S_68 (z.1.2 q hq12).k (z.1.2 q hq12).mb ?_
    refine x_aload_n d_S_deliver_12 rfl rfl ?_
    refine x_invv d_S_deliver_13 lm_S_72 (as := [.ref x]) (S := []) (c_B_put (k1 := (z.1.2 q hq12).kmb) (k2 := (z.1.2 q hq12).kma) (f0 := (z.1.2 q hq12).ma) (f1 := (by rw [refsOf_len]; exact zq.2.2.2.1.1)) (f2 := zq.2.2.2.2.1) (hn := (by rw [refsOf_len]; exact hms)) (fm := (fun i y hy => (zq.ms hy).1)) (x := x) (kx := hx.k) (hf := (by rw [refsOf_len]; omega))) (z.1.2 q hq12).kmb rfl rfl rfl (Nat.le_of_ble_eq_true rfl) (Nat.le_refl 1) (Nat.le_refl 0) (Nat.le_refl 0) ?_
    rintro _ _ ⟨rfl, rfl⟩
    rw [refsOf_len]
    refine x_if_ne (tgt := 20) d_S_deliver_16 rfl (fun q16 => ?_) (fun q => absurd q (by decide))
    refine x_aload_n d_S_deliver_20 rfl rfl ?_
    refine x_getf (v := .int (nI (pSt (oPr σ q)))) d_S_deliver_21 lf_S_65 (z.1.2 q hq12).k (by simp [gF_pF, gF_pA, zq.2.2.2.2.2.2.2.1]) ?_
    refine x_iconst (v := 2) d_S_deliver_24 (by decide) ?_
    refine x_icmp_ne (tgt := 44) d_S_deliver_25 rfl (fun q => absurd (by rw [h2]; rfl) q) (fun q25 => ?_)
    refine x_aload_n d_S_deliver_28 rfl rfl ?_
    refine x_iconst (v := (nI 1)) d_S_deliver_29 (by decide) ?_
    refine x_putf d_S_deliver_30 lp_S_65 (z.1.2 q hq12).k ⟨_, rfl⟩ ?_
    refine x_aload_n d_S_deliver_33 rfl rfl ?_
    refine x_getf (v := .ref (o + 78)) d_S_deliver_34 lf_S_23 z.1.1.kS (by simp [gF_pF, gF_pA, gF_nO, gF_nA, gF_sA, gF_pF, gF_pA, z.1.1.S1]) ?_
    refine x_aload_n d_S_deliver_37 rfl rfl ?_
    refine x_getf (v := .int (nI q)) d_S_deliver_38 lf_S_61 (z.1.2 q hq12).k (by simp [gF_pF, gF_pA, gF_nO, gF_nA, gF_sA, gF_pF, gF_pA, (z.1.2 q hq12).n]) ?_
    refine x_invv d_S_deliver_41 lm_S_62 (as := [.int (nI q)]) (S := []) (c_L_append (h := (gpF (gpF (gpA h 2 (o + 11 + 6 * q) (pMs (oPr σ q)).length (.ref x)) 1 1 (o + 10 + 6 * q) (.int (nI ((pMs (oPr σ q)).length + 1)))) 2 9 (o + 6 + 6 * q) (.int (nI 1)))) (ln := o + 78) (na := o + 79) (n := (oQu σ).length) (q := fun _ => 0) z.1.1.kL z.1.1.kLa (by simp [gF_pF, gF_pA, z.1.1.L0]) (by simp [gF_pF, gF_pA, z.2.2.2.1.1]) (hql h2) (nI q)) z.1.1.kL rfl rfl rfl (Nat.le_of_ble_eq_true rfl) (Nat.le_refl 1) (Nat.le_refl 0) (Nat.le_refl 0) ?_
    rintro _ _ ⟨rfl, rfl⟩
    exact x_ret ⟨rfl, by rw [deliverM, if_neg (fun a => a.elim h3 hf), if_pos h2]; exact cC, chgC⟩ rfl d_S_deliver_44
  · have cA : CR o (sPr σ q (sMs (oPr σ q) (pMs (oPr σ q) ++ [t]))) (gpF (gpA h 2 (o + 11 + 6 * q) (pMs (oPr σ q)).length (.ref x)) 1 1 (o + 10 + 6 * q) (.int (nI ((pMs (oPr σ q)).length + 1)))) := z.sPr wf chgA (((Keep.rf o h).pA (by omega)).pF (by omega)) (((KeepQ.rf o h).pA (by omega)).pF (by decide)) (cPr_put hx zq) (fun r _ hr => ((Same.rf o r h).pA ⟨by omega, by omega⟩).pF ⟨by omega, by omega⟩)
    refine x_aload_n d_S_deliver_0 rfl rfl ?_
    refine x_getf (v := .int (nI (pSt (oPr σ q)))) d_S_deliver_1 lf_S_65 (z.1.2 q hq12).k zq.2.2.2.2.2.2.2.1 ?_
    refine x_iconst (v := 3) d_S_deliver_4 (by decide) ?_
    refine x_icmp_eq (tgt := 19) d_S_deliver_5 rfl (fun q => absurd q (fun e => h3 (nI_inj hst (by decide) e))) (fun q5 => ?_)
    refine x_aload_n d_S_deliver_8 rfl rfl ?_
    refine x_getf (v := .ref (o + 10 + 6 * q)) d_S_deliver_9 lf_S_68 (z.1.2 q hq12).k (z.1.2 q hq12).mb ?_
    refine x_aload_n d_S_deliver_12 rfl rfl ?_
    refine x_invv d_S_deliver_13 lm_S_72 (as := [.ref x]) (S := []) (c_B_put (k1 := (z.1.2 q hq12).kmb) (k2 := (z.1.2 q hq12).kma) (f0 := (z.1.2 q hq12).ma) (f1 := (by rw [refsOf_len]; exact zq.2.2.2.1.1)) (f2 := zq.2.2.2.2.1) (hn := (by rw [refsOf_len]; exact hms)) (fm := (fun i y hy => (zq.ms hy).1)) (x := x) (kx := hx.k) (hf := (by rw [refsOf_len]; omega))) (z.1.2 q hq12).kmb rfl rfl rfl (Nat.le_of_ble_eq_true rfl) (Nat.le_refl 1) (Nat.le_refl 0) (Nat.le_refl 0) ?_
    rintro _ _ ⟨rfl, rfl⟩
    rw [refsOf_len]
    refine x_if_ne (tgt := 20) d_S_deliver_16 rfl (fun q16 => ?_) (fun q => absurd q (by decide))
    refine x_aload_n d_S_deliver_20 rfl rfl ?_
    refine x_getf (v := .int (nI (pSt (oPr σ q)))) d_S_deliver_21 lf_S_65 (z.1.2 q hq12).k (by simp [gF_pF, gF_pA, zq.2.2.2.2.2.2.2.1]) ?_
    refine x_iconst (v := 2) d_S_deliver_24 (by decide) ?_
    refine x_icmp_ne (tgt := 44) d_S_deliver_25 rfl (fun q25 => ?_) (fun q => absurd q (fun e => h2 (nI_inj hst (by decide) e)))
    exact x_ret ⟨rfl, by rw [deliverM, if_neg (fun a => a.elim h3 hf), if_neg h2]; exact cA, chgA⟩ rfl d_S_deliver_44
end
section
/-! Pure rows: new cells, validity, what ends do. -/
/-- nothing old has changed -/
def New (h h' : th_H) : Prop := gz h ≤ gz h' ∧ (∀ a, a < gz h → gk h' a = gk h a) ∧ (∀ c k a, a < gz h → gF h' c k a = gF h c k a) ∧ ∀ t a i, a < gz h → gA h' t a i = gA h t a i
theorem New.rf (h : th_H) : New h h := ⟨Nat.le_refl _, fun _ _ => rfl, fun _ _ _ _ => rfl, fun _ _ _ _ => rfl⟩
theorem New.nO {h h1 : th_H} {ci : Nat} {dv : Nat → Value} (e : New h h1) : New h (gnO h1 ci dv) := by
  have e1 := e.1
  exact ⟨by rw [gz_nO]; omega, fun x hx => by rw [gk_nO, if_neg (by omega)]; exact e.2.1 x hx, fun c k x hx => by rw [gF_nO, if_neg (fun z => by omega)]; exact e.2.2.1 c k x hx, e.2.2.2⟩
theorem New.t5 {h h1 : th_H} {a : Nat} {s n : Int32} {x y : Value} {w : Int32} (e : New h h1) (ha : gz h ≤ a) : New h (gT h1 a s n x y w) := ⟨e.1, e.2.1, fun c k b hb => by
    have : b ≠ a := by omega
    unfold gT
    simp only [gF_pF, this, and_false, if_false]
    exact e.2.2.1 c k b hb, e.2.2.2⟩
theorem New.nT {h h1 : th_H} {s n : Int32} {x y : Value} {w : Int32} (e : New h h1) : New h (gnT h1 s n x y w) := New.t5 e.nO e.1
theorem New.chg {h h' : th_H} (o : Nat) (e : New h h') : Chg o h h' := ⟨e.1, e.2.1, fun c k a ha _ => e.2.2.1 c k a ha, fun t a i ha _ => e.2.2.2 t a i ha⟩
theorem CR.new {o : Nat} {σ : Ho} {h h' : th_H} (z : CR o σ h) (hc : oCt σ ≤ 12) (wf : WFh h) (e : New h h') : CR o σ h' := by
  have t := z.1.1
  refine CR.to z wf (e.chg o) (by rw [e.2.2.1 _ _ _ (wf _ _ t.kO)]; exact z.2.1.1) (by rw [e.2.2.1 _ _ _ (wf _ _ t.kO)]; exact z.2.1.2) ⟨by rw [e.2.2.1 _ _ _ (wf _ _ t.kG)]; exact z.2.2.1.1, fun i q hq => by rw [e.2.2.2 _ _ _ (wf _ _ t.kGa), e.2.2.2 _ _ _ (wf _ _ t.kGa), e.2.2.2 _ _ _ (wf _ _ t.kGa), e.2.2.2 _ _ _ (wf _ _ t.kGa)]; exact z.2.2.1.2 i q hq⟩ ⟨by rw [e.2.2.1 _ _ _ (wf _ _ t.kL)]; exact z.2.2.2.1.1, fun i x hx => by rw [e.2.2.2 _ _ _ (wf _ _ t.kLa)]; exact z.2.2.2.1.2 i x hx⟩ (by rw [e.2.2.1 _ _ _ (wf _ _ t.kS)]; exact z.2.2.2.2.1) (fun p hp => ?_)
  have y := z.1.2 p (by omega)
  exact (z.2.2.2.2.2 p hp).same ((e.chg o).te wf) ⟨fun k => e.2.2.1 _ _ _ (wf _ _ y.k), fun k => e.2.2.1 _ _ _ (wf _ _ y.kmb), fun i => e.2.2.2 _ _ _ (wf _ _ y.kr), fun i => e.2.2.2 _ _ _ (wf _ _ y.kre), fun i => e.2.2.2 _ _ _ (wf _ _ y.kma)⟩
theorem nodup_len : ∀ (n : Nat) (l : List Nat), l.Nodup → (∀ x ∈ l, x < n) → l.length ≤ n
  | 0, l, _, h => by
    cases l with
    | nil => exact Nat.le_refl _
    | cons a l => exact absurd (h a List.mem_cons_self) (Nat.not_lt_zero _)
  | n + 1, l, hd, h => by
    have ih := nodup_len n (l.erase n) (hd.erase n) (fun x hx => by
      have h1 := (hd.mem_erase_iff).mp hx
      have h2 := h x h1.2
      have h3 : x ≠ n := h1.1
      omega)
    rw [List.length_erase] at ih
    split at ih <;> omega
theorem nodup_lt {n : Nat} {l : List Nat} (hd : l.Nodup) (h : ∀ x ∈ l, x < n) {q : Nat} (hq : q < n) (hn : q ∉ l) : l.length < n := by
  have := nodup_len n (q :: l) (List.nodup_cons.mpr ⟨hn, hd⟩) (fun x hx => by
    rcases List.mem_cons.mp hx with rfl | hx
    · exact hq
    · exact h x hx)
  simp only [List.length_cons] at this
  omega
/-- a term as the document has them -/
def vTm (t : Tm) : Prop := tOk t ∧ tW t ≤ 15
/-- a valid process; its mark is at most N -/
def vPr (N : Nat) (P : Pr) : Prop := (∀ k, vTm (pRg P k)) ∧ pPl P ≤ 48 ∧ ((pRe P).length ≤ 6 ∧ ∀ x ∈ pRe P, x ≤ 48) ∧ ((pMs P).length ≤ 12 ∧ ∀ t ∈ pMs P, vTm t) ∧ pMk P ≤ N ∧ (pSt P = 1 ∨ pSt P = 2 ∨ pSt P = 3) ∧ (∀ t, pRs P = some t → vTm t) ∧ (pSt P = 3 ↔ ∃ t, pRs P = some t)
/-- valid processes, and a queue of those that are ready -/
def vPs (N : Nat) (σ : Ho) : Prop := oCt σ ≤ 12 ∧ ((oQu σ).Nodup ∧ (∀ x ∈ oQu σ, x < oCt σ ∧ pSt (oPr σ x) = 1) ∧ ∀ x, x < oCt σ → pSt (oPr σ x) = 1 → x ∈ oQu σ) ∧ ∀ p, p < oCt σ → vPr N (oPr σ p)
theorem vPs.len {N : Nat} {σ : Ho} (v : vPs N σ) : (oQu σ).length ≤ 12 := Nat.le_trans (nodup_len _ _ v.2.1.1 (fun x hx => (v.2.1.2.1 x hx).1)) v.1
theorem vPs.room {N : Nat} {σ : Ho} (v : vPs N σ) {q : Nat} (hq : q < oCt σ) (h2 : ¬ pSt (oPr σ q) = 1) : (oQu σ).length < 12 := Nat.lt_of_lt_of_le (nodup_lt v.2.1.1 (fun x hx => (v.2.1.2.1 x hx).1) hq (fun z => h2 (v.2.1.2.1 q z).2)) v.1
/-- a process changes, but not whether it is ready -/
theorem vPs.setP {N : Nat} {σ : Ho} (v : vPs N σ) {p : Nat} {P' : Pr} (hv : vPr N P') (hs : p < oCt σ → (pSt P' = 1 ↔ pSt (oPr σ p) = 1)) : vPs N (sPr σ p P') := by
  have key : ∀ x, x < oCt σ → (pSt (va_up (oPr σ) p P' x) = 1 ↔ pSt (oPr σ x) = 1) := fun x hx => by
    by_cases h : x = p
    · subst h; rw [va_up_self]; exact hs hx
    · rw [va_up_ne _ _ h]
  refine ⟨v.1, ⟨v.2.1.1, fun x hx => ⟨(v.2.1.2.1 x hx).1, (key x (v.2.1.2.1 x hx).1).mpr (v.2.1.2.1 x hx).2⟩, fun x hx h => v.2.1.2.2 x hx ((key x hx).mp h)⟩, fun x hx => ?_⟩
  show vPr N (va_up (oPr σ) p P' x)
  by_cases h : x = p
  · rw [h, va_up_self]; exact hv
  · rw [va_up_ne _ _ h]; exact v.2.2 x hx
theorem vPs.untie {N : Nat} {σ : Ho} (v : vPs N σ) {p q : Nat} (hp : p < oCt σ) (hq : q < oCt σ) : vPs N (untieM σ p q) := by
  unfold untieM
  have v1 : vPs N (sPr σ p (sLk (oPr σ p) (pLk (oPr σ p) &&& (bitM q ^^^ -1)))) := v.setP (v.2.2 p hp) (fun _ => Iff.rfl)
  exact v1.setP (v1.2.2 q hq) (fun _ => Iff.rfl)
theorem vPs.tie {N : Nat} {σ : Ho} (v : vPs N σ) {p q : Nat} (hp : p < oCt σ) (hq : q < oCt σ) : vPs N (tieM σ p q) := by
  unfold tieM
  have v1 : vPs N (sPr σ p (sLk (oPr σ p) (pLk (oPr σ p) ||| bitM q))) := v.setP (v.2.2 p hp) (fun _ => Iff.rfl)
  exact v1.setP (v1.2.2 q hq) (fun _ => Iff.rfl)
theorem vPs.deliver {N : Nat} {σ : Ho} (v : vPs N σ) {q : Nat} {t : Tm} (hq : q < oCt σ) (ht : vTm t) : vPs N (deliverM σ q t) := by
  unfold deliverM
  have w := v.2.2 q hq
  by_cases h1 : pSt (oPr σ q) = 3 ∨ 12 ≤ (pMs (oPr σ q)).length
  · rw [if_pos h1]; exact v
  rw [if_neg h1]
  have hl : (pMs (oPr σ q)).length < 12 := Nat.lt_of_not_le (fun z => h1 (Or.inr z))
  have hm : (pMs (oPr σ q) ++ [t]).length ≤ 12 ∧ ∀ u ∈ pMs (oPr σ q) ++ [t], vTm u := ⟨by rw [List.length_append]; exact hl, fun u hu => by
    rcases List.mem_append.mp hu with hu | hu
    · exact w.2.2.2.1.2 u hu
    · rw [List.mem_singleton.mp hu]; exact ht⟩
  by_cases h2 : pSt (oPr σ q) = 2
  · rw [if_pos h2]
    have hnq : q ∉ oQu σ := fun z => by have := (v.2.1.2.1 q z).2; omega
    have hrs : pRs (oPr σ q) = none := by
      cases hr : pRs (oPr σ q) with
      | none => rfl
      | some t => have := w.2.2.2.2.2.2.2.mpr ⟨t, hr⟩; omega
    refine ⟨v.1, ⟨?_, fun x hx => ?_, fun x hx hx1 => ?_⟩, fun x hx => ?_⟩
    · show (oQu σ ++ [q]).Nodup
      rw [List.nodup_append]
      exact ⟨v.2.1.1, by simp, fun a ha b hb => by rw [List.mem_singleton.mp hb]; exact fun z => hnq (z ▸ ha)⟩
    · rcases List.mem_append.mp hx with hx | hx
      · have h3 : x ≠ q := fun z => hnq (z ▸ hx)
        refine ⟨(v.2.1.2.1 x hx).1, ?_⟩
        show pSt (va_up (oPr σ) q _ x) = 1
        rw [va_up_ne _ _ h3]; exact (v.2.1.2.1 x hx).2
      · rw [List.mem_singleton.mp hx]
        refine ⟨hq, ?_⟩
        show pSt (va_up (oPr σ) q _ q) = 1
        rw [va_up_self]
    · show x ∈ oQu σ ++ [q]
      by_cases h3 : x = q
      · rw [h3]; exact List.mem_append_right _ (List.mem_singleton.mpr rfl)
      · have hx1 : pSt (va_up (oPr σ) q (sSt (sMs (oPr σ q) (pMs (oPr σ q) ++ [t])) 1) x) = 1 := hx1
        rw [va_up_ne _ _ h3] at hx1
        exact List.mem_append_left _ (v.2.1.2.2 x hx hx1)
    · show vPr N (va_up (oPr σ) q _ x)
      by_cases h3 : x = q
      · rw [h3, va_up_self]
        exact ⟨w.1, w.2.1, w.2.2.1, hm, w.2.2.2.2.1, Or.inl rfl, w.2.2.2.2.2.2.1, ⟨fun z => absurd (show (1 : Nat) = 3 from z) (by decide), fun ⟨u, hu⟩ => by have : pRs (oPr σ q) = some u := hu; rw [hrs] at this; cases this⟩⟩
      · rw [va_up_ne _ _ h3]; exact v.2.2 x hx
  · rw [if_neg h2]
    exact v.setP ⟨w.1, w.2.1, w.2.2.1, hm, w.2.2.2.2⟩ (fun _ => Iff.rfl)
theorem vPs.stop {N : Nat} {σ : Ho} (v : vPs N σ) {p : Nat} {r : Tm} (hp : p < oCt σ) (hr : vTm r) : vPs N (stopM σ p r) := by
  have w := v.2.2 p hp
  refine ⟨v.1, ⟨v.2.1.1.filter _, fun x hx => ?_, fun x hx hx1 => ?_⟩, fun x hx => ?_⟩
  · have h1 := List.mem_filter.mp hx
    have h2 : x ≠ p := by simpa using h1.2
    refine ⟨(v.2.1.2.1 x h1.1).1, ?_⟩
    show pSt (va_up (oPr σ) p _ x) = 1
    rw [va_up_ne _ _ h2]; exact (v.2.1.2.1 x h1.1).2
  · have hx1 : pSt (va_up (oPr σ) p (sRs (sSt (oPr σ p) 3) (some r)) x) = 1 := hx1
    by_cases h2 : x = p
    · rw [h2, va_up_self] at hx1; cases hx1
    · rw [va_up_ne _ _ h2] at hx1
      exact List.mem_filter.mpr ⟨v.2.1.2.2 x hx hx1, by simpa using h2⟩
  · show vPr N (va_up (oPr σ) p _ x)
    by_cases h2 : x = p
    · rw [h2, va_up_self]
      exact ⟨w.1, w.2.1, w.2.2.1, w.2.2.2.1, w.2.2.2.2.1, Or.inr (Or.inr rfl), fun t ht => by cases ht; exact hr, ⟨fun _ => ⟨r, rfl⟩, fun _ => rfl⟩⟩
    · rw [va_up_ne _ _ h2]; exact v.2.2 x hx
/-- how many of the first n are alive -/
def liveN (f : Nat → Pr) : Nat → Nat
  | 0 => 0
  | n + 1 => liveN f n + (if pSt (f n) = 3 then 0 else 1)
abbrev live (σ : Ho) : Nat := liveN (oPr σ) (oCt σ)
theorem liveN_le (f : Nat → Pr) : ∀ n, liveN f n ≤ n
  | 0 => Nat.le_refl _
  | n + 1 => by have := liveN_le f n; simp only [liveN]; split <;> omega
theorem liveN_mono {f g : Nat → Pr} : ∀ n, (∀ x, x < n → pSt (f x) = 3 → pSt (g x) = 3) → liveN g n ≤ liveN f n
  | 0, _ => Nat.le_refl _
  | n + 1, h => by
    have ih := liveN_mono n (fun x hx => h x (by omega))
    have := h n (by omega)
    simp only [liveN]
    split <;> split <;> omega
theorem liveN_lt {f g : Nat → Pr} {q : Nat} (h3 : ¬ pSt (f q) = 3) (g3 : pSt (g q) = 3) : ∀ n, q < n → (∀ x, x < n → pSt (f x) = 3 → pSt (g x) = 3) → liveN g n < liveN f n
  | 0, hq, _ => absurd hq (Nat.not_lt_zero _)
  | n + 1, hq, h => by
    by_cases hn : q = n
    · subst hn
      have := liveN_mono q (fun x hx => h x (by omega))
      simp only [liveN, h3, g3, if_true, if_false]
      omega
    · have ih := liveN_lt h3 g3 n (by omega) (fun x hx => h x (by omega))
      have := h n (by omega)
      simp only [liveN]
      split <;> split <;> omega
theorem live_untie (σ : Ho) (p q : Nat) : live (untieM σ p q) ≤ live σ := by
  refine liveN_mono (f := oPr σ) (g := oPr (untieM σ p q)) (oCt σ) (fun x _ h => ?_)
  unfold untieM
  show pSt (va_up (va_up (oPr σ) p _) q _ x) = 3
  by_cases h1 : x = q
  · subst h1; rw [va_up_self]
    show pSt (va_up (oPr σ) p _ x) = 3
    by_cases h2 : x = p
    · subst h2; rw [va_up_self]; exact h
    · rw [va_up_ne _ _ h2]; exact h
  · rw [va_up_ne _ _ h1]
    by_cases h2 : x = p
    · subst h2; rw [va_up_self]; exact h
    · rw [va_up_ne _ _ h2]; exact h
theorem live_deliver (σ : Ho) (q : Nat) (t : Tm) : live (deliverM σ q t) ≤ live σ := by
  unfold deliverM
  by_cases h1 : pSt (oPr σ q) = 3 ∨ 12 ≤ (pMs (oPr σ q)).length
  · rw [if_pos h1]; exact Nat.le_refl _
  rw [if_neg h1]
  have h0 : ¬ pSt (oPr σ q) = 3 := fun z => h1 (Or.inl z)
  by_cases h2 : pSt (oPr σ q) = 2
  · rw [if_pos h2]
    refine liveN_mono (f := oPr σ) (oCt σ) (fun x _ h => ?_)
    show pSt (va_up (oPr σ) q _ x) = 3
    by_cases h3 : x = q
    · subst h3; exact absurd h h0
    · rw [va_up_ne _ _ h3]; exact h
  · rw [if_neg h2]
    refine liveN_mono (f := oPr σ) (oCt σ) (fun x _ h => ?_)
    show pSt (va_up (oPr σ) q _ x) = 3
    by_cases h3 : x = q
    · subst h3; exact absurd h h0
    · rw [va_up_ne _ _ h3]; exact h
theorem live_stop {σ : Ho} {p : Nat} {r : Tm} (hp : p < oCt σ) (h3 : ¬ pSt (oPr σ p) = 3) : live (stopM σ p r) < live σ := by
  refine liveN_lt (f := oPr σ) (q := p) h3 ?_ (oCt σ) hp (fun x _ h => ?_)
  · show pSt (va_up (oPr σ) p _ p) = 3
    rw [va_up_self]
  · show pSt (va_up (oPr σ) p _ x) = 3
    by_cases h2 : x = p
    · rw [h2, va_up_self]
    · rw [va_up_ne _ _ h2]; exact h
def isN (r : Tm) : Bool := !tB r && tS r == 1 && tN r == 14
theorem isN_iff (r : Tm) : isN r = true ↔ r = aNormal := by
  cases r with
  | leaf q =>
    obtain ⟨a, b⟩ := q
    simp [isN, tB, tS, tN, aNormal]
  | branch k l r => simp [isN, tB, aNormal]
/-- the links of p, which has stopped with r, from q on: what comes of them; and how many notices it takes -/
def loopM : Nat → Ho → Nat → Tm → Nat → Ho
  | 0, σ, _, _, _ => σ
  | n + 1, σ, p, r, q =>
    if oCt σ ≤ q then σ
    else if pLk (oPr σ p) &&& bitM q = 0 then loopM n σ p r (q + 1)
    else if pSt (oPr (untieM σ p q) q) = 3 then loopM n (untieM σ p q) p r (q + 1)
    else if pTr (oPr (untieM σ p q) q) = true then loopM n (deliverM (untieM σ p q) q (noticeM p r)) p r (q + 1)
    else if isN r = true then loopM n (untieM σ p q) p r (q + 1)
    else loopM n (loopM n (stopM (untieM σ p q) q r) q r 0) p r (q + 1)
def loopC : Nat → Ho → Nat → Tm → Nat → Nat
  | 0, _, _, _, _ => 0
  | n + 1, σ, p, r, q =>
    if oCt σ ≤ q then 0
    else if pLk (oPr σ p) &&& bitM q = 0 then loopC n σ p r (q + 1)
    else if pSt (oPr (untieM σ p q) q) = 3 then loopC n (untieM σ p q) p r (q + 1)
    else if pTr (oPr (untieM σ p q) q) = true then 1 + loopC n (deliverM (untieM σ p q) q (noticeM p r)) p r (q + 1)
    else if isN r = true then loopC n (untieM σ p q) p r (q + 1)
    else loopC n (stopM (untieM σ p q) q r) q r 0 + loopC n (loopM n (stopM (untieM σ p q) q r) q r 0) p r (q + 1)
theorem deliver_ct (σ : Ho) (q : Nat) (t : Tm) : oCt (deliverM σ q t) = oCt σ := by
  unfold deliverM
  split
  · rfl
  · split <;> rfl
theorem vNotice {p : Nat} {r : Tm} (hr : vTm r) : vTm (noticeM p r) := by
  unfold noticeM
  have a : tOk aExit := Or.inl (Or.inr (Or.inl rfl))
  have b : tOk (.leaf (2, nI p) : Tm) := Or.inl (Or.inr (Or.inr rfl))
  by_cases h : 15 < tW r + 4
  · rw [if_pos h]
    exact ⟨⟨Or.inr rfl, a, Or.inr rfl, b, Or.inl (Or.inr (Or.inl rfl))⟩, by simp [tW, aExit, aFault]⟩
  · rw [if_neg h]
    exact ⟨⟨Or.inr rfl, a, Or.inr rfl, b, hr.1⟩, by simp only [tW, aExit]; omega⟩
theorem loop_v {N : Nat} : ∀ (n : Nat) (σ : Ho) (p : Nat) (r : Tm) (q : Nat), vPs N σ → p < oCt σ → vTm r → vPs N (loopM n σ p r q) ∧ oCt (loopM n σ p r q) = oCt σ ∧ live (loopM n σ p r q) ≤ live σ
  | 0, σ, p, r, q, v, hp, hr => ⟨v, rfl, Nat.le_refl _⟩
  | n + 1, σ, p, r, q, v, hp, hr => by
    rw [loopM]
    by_cases h1 : oCt σ ≤ q
    · rw [if_pos h1]; exact ⟨v, rfl, Nat.le_refl _⟩
    rw [if_neg h1]
    by_cases h2 : pLk (oPr σ p) &&& bitM q = 0
    · rw [if_pos h2]; exact loop_v n σ p r (q + 1) v hp hr
    rw [if_neg h2]
    have hq : q < oCt σ := by omega
    have v1 := v.untie hp hq
    have l1 := live_untie σ p q
    have c1 : oCt (untieM σ p q) = oCt σ := rfl
    by_cases h3 : pSt (oPr (untieM σ p q) q) = 3
    · rw [if_pos h3]
      obtain ⟨a, b, c⟩ := loop_v n (untieM σ p q) p r (q + 1) v1 hp hr
      exact ⟨a, b, Nat.le_trans c l1⟩
    rw [if_neg h3]
    by_cases h4 : pTr (oPr (untieM σ p q) q) = true
    · rw [if_pos h4]
      have c2 : oCt (deliverM (untieM σ p q) q (noticeM p r)) = oCt σ := deliver_ct _ _ _
      obtain ⟨a, b, c⟩ := loop_v n (deliverM (untieM σ p q) q (noticeM p r)) p r (q + 1) (v1.deliver hq (vNotice hr)) (by rw [c2]; exact hp) hr
      exact ⟨a, b.trans c2, Nat.le_trans c (Nat.le_trans (live_deliver _ _ _) l1)⟩
    rw [if_neg h4]
    by_cases h5 : isN r = true
    · rw [if_pos h5]
      obtain ⟨a, b, c⟩ := loop_v n (untieM σ p q) p r (q + 1) v1 hp hr
      exact ⟨a, b, Nat.le_trans c l1⟩
    rw [if_neg h5]
    have l2 := live_stop (σ := untieM σ p q) (r := r) hq h3
    obtain ⟨a, b, c⟩ := loop_v n (stopM (untieM σ p q) q r) q r 0 (v1.stop hq hr) hq hr
    have b' : oCt (loopM n (stopM (untieM σ p q) q r) q r 0) = oCt σ := b
    obtain ⟨a2, b2, c3⟩ := loop_v n (loopM n (stopM (untieM σ p q) q r) q r 0) p r (q + 1) a (by rw [b']; exact hp) hr
    exact ⟨a2, b2.trans b', Nat.le_trans c3 (Nat.le_trans c (Nat.le_trans (Nat.le_of_lt l2) l1))⟩
end
section
/-! Society: untie of a process and itself, exitNotice, end and signal (printed by wip/gen/mod_end.py). -/
theorem c_S_untie_self {E : th_E} {h : th_H} {o : Nat} {σ : Ho} (z : CR o σ h) (hc : oCt σ ≤ 12) {p : Nat} (hp : p < oCt σ) : Xc E m_S_untie 0 0 0 [.ref (o + 4), .ref (o + 6 + 6 * p), .ref (o + 6 + 6 * p)] h (Mv o h none (untieM σ p p)) := by
  have hp12 : p < 12 := by omega
  refine Xc.of (by decide) (by simp [Value.category]) (Nat.le_of_ble_eq_true rfl) ?_
  show Xw E m_S_untie 0 0 0 0 [some (.ref (o + 4)), some (.ref (o + 6 + 6 * p)), some (.ref (o + 6 + 6 * p))] [] h _
  refine Xw.wf (fun wf => ?_)
  have chg1 : Chg o h (gpF h 2 7 (o + 6 + 6 * p) (.int (pLk (oPr σ p) &&& (bitM p ^^^ -1)))) := (Chg.rf o h).pF ⟨by omega, by omega⟩ rfl
  have chg : Chg o h (gpF (gpF h 2 7 (o + 6 + 6 * p) (.int (pLk (oPr σ p) &&& (bitM p ^^^ -1)))) 2 7 (o + 6 + 6 * p) (.int ((pLk (oPr σ p) &&& (bitM p ^^^ -1)) &&& (bitM p ^^^ -1)))) := chg1.pF ⟨by omega, by omega⟩ rfl
  have c1 : CR o (sPr σ p (sLk (oPr σ p) (pLk (oPr σ p) &&& (bitM p ^^^ -1)))) (gpF h 2 7 (o + 6 + 6 * p) (.int (pLk (oPr σ p) &&& (bitM p ^^^ -1)))) := z.sPr wf chg1 ((Keep.rf o h).pF (by omega)) ((KeepQ.rf o h).pF (by decide)) (cPr_lk _ (z.2.2.2.2.2 p hp)) (fun r _ hr => (Same.rf o r h).pF ⟨by omega, by omega⟩)
  have e1 : oPr (sPr σ p (sLk (oPr σ p) (pLk (oPr σ p) &&& (bitM p ^^^ -1)))) p = sLk (oPr σ p) (pLk (oPr σ p) &&& (bitM p ^^^ -1)) := va_up_self _ _ _
  have fin : CR o (untieM σ p p) (gpF (gpF h 2 7 (o + 6 + 6 * p) (.int (pLk (oPr σ p) &&& (bitM p ^^^ -1)))) 2 7 (o + 6 + 6 * p) (.int ((pLk (oPr σ p) &&& (bitM p ^^^ -1)) &&& (bitM p ^^^ -1)))) := by
    unfold untieM
    simp only [e1]
    exact c1.sPr wf ((Chg.rf o _).pF ⟨by omega, by omega⟩ rfl) ((Keep.rf o _).pF (by omega)) ((KeepQ.rf o _).pF (by decide)) (cPr_lk _ (by rw [← e1]; exact c1.2.2.2.2.2 p hp)) (fun r _ hr => (Same.rf o r _).pF ⟨by omega, by omega⟩)
  refine x_aload_n d_S_untie_0 rfl rfl ?_
  refine x_dup d_S_untie_1 rfl ?_
  refine x_getf (v := .int (pLk (oPr σ p))) d_S_untie_2 lf_S_81 (z.1.2 p hp12).k (z.2.2.2.2.2 p hp).2.2.2.2.2.1 ?_
  refine x_iconst (v := 1) d_S_untie_5 (by decide) ?_
  refine x_aload_n d_S_untie_6 rfl rfl ?_
  refine x_getf (v := .int (nI p)) d_S_untie_7 lf_S_61 (z.1.2 p hp12).k (z.1.2 p hp12).n ?_
  refine x_ishl (v := ((1 : Int32) <<< ((nI p) &&& 31))) d_S_untie_10 rfl ?_
  refine x_iconst (v := (-1)) d_S_untie_11 (by decide) ?_
  refine x_ixor (v := (((1 : Int32) <<< ((nI p) &&& 31)) ^^^ (-1))) d_S_untie_12 rfl ?_
  refine x_iand (v := ((pLk (oPr σ p)) &&& (((1 : Int32) <<< ((nI p) &&& 31)) ^^^ (-1)))) d_S_untie_13 rfl ?_
  refine x_putf d_S_untie_14 lp_S_81 (z.1.2 p hp12).k ⟨_, rfl⟩ ?_
  refine x_aload_n d_S_untie_17 rfl rfl ?_
  refine x_dup d_S_untie_18 rfl ?_
  refine x_getf (v := .int ((pLk (oPr σ p)) &&& (((1 : Int32) <<< ((nI p) &&& 31)) ^^^ (-1)))) d_S_untie_19 lf_S_81 (z.1.2 p hp12).k (by simp [gF_pF, gF_pA, gF_nO, gF_nA, gF_sA]) ?_
  refine x_iconst (v := 1) d_S_untie_22 (by decide) ?_
  refine x_aload_n d_S_untie_23 rfl rfl ?_
  refine x_getf (v := .int (nI p)) d_S_untie_24 lf_S_61 (z.1.2 p hp12).k (by simp [gF_pF, gF_pA, gF_nO, gF_nA, gF_sA, (z.1.2 p hp12).n]) ?_
  refine x_ishl (v := ((1 : Int32) <<< ((nI p) &&& 31))) d_S_untie_27 rfl ?_
  refine x_iconst (v := (-1)) d_S_untie_28 (by decide) ?_
  refine x_ixor (v := (((1 : Int32) <<< ((nI p) &&& 31)) ^^^ (-1))) d_S_untie_29 rfl ?_
  refine x_iand (v := (((pLk (oPr σ p)) &&& (((1 : Int32) <<< ((nI p) &&& 31)) ^^^ (-1))) &&& (((1 : Int32) <<< ((nI p) &&& 31)) ^^^ (-1)))) d_S_untie_30 rfl ?_
  refine x_putf d_S_untie_31 lp_S_81 (z.1.2 p hp12).k ⟨_, rfl⟩ ?_
  exact x_ret ⟨rfl, fin, chg⟩ rfl d_S_untie_34
theorem gF_gTn {h : th_H} {a : Nat} {s n : Int32} {x y : Value} {w : Int32} {c k b : Nat} (hb : b ≠ a) : gF (gT h a s n x y w) c k b = gF h c k b := by
  unfold gT
  simp only [gF_pF, hb, and_false, if_false]
theorem gk_gT (h : th_H) (a : Nat) (s n : Int32) (x y : Value) (w : Int32) : gk (gT h a s n x y w) = gk h := rfl
/-- the heap behind exitNotice -/
def gNo (h : th_H) (ex px y w : Nat) : th_H := gT (gT (gnO (gnO h 0 dv_T) 0 dv_T) (gz h + 1) (nI 5) 0 (.ref px) (.ref y) (nI (1 + 1 + w))) (gz h) (nI 5) 0 (.ref ex) (.ref (gz h + 1)) (nI (1 + 1 + (1 + 1 + w)))
theorem gNo_new (h : th_H) (ex px y w : Nat) : New h (gNo h ex px y w) := ((New.rf h).nO.nO.t5 (by omega)).t5 (Nat.le_refl _)
theorem gNo_te {h : th_H} (wf : WFh h) (ex px y w : Nat) : TE h (gNo h ex px y w) := fun a q => ⟨by rw [(gNo_new h ex px y w).2.1 a (wf a _ q)]; exact q, fun k => (gNo_new h ex px y w).2.2.1 0 k a (wf a _ q)⟩
theorem TR_notice {h : th_H} (wf : WFh h) {ex px y : Nat} {n : Int32} {u : Tm} (q1 : TR h aExit ex) (q2 : TR h (.leaf (2, n)) px) (q3 : TR h u y) : TR (gNo h ex px y (tW u)) (.branch 5 aExit (.branch 5 (.leaf (2, n)) u)) (gz h) := by
  have te := gNo_te wf ex px y (tW u)
  have k0 : gk (gNo h ex px y (tW u)) (gz h) = some (.inl 0) := by
    show gk (gnO (gnO h 0 dv_T) 0 dv_T) (gz h) = _
    rw [gk_nO, gz_nO, if_neg (by omega), gk_nO, if_pos rfl]
  have k1 : gk (gNo h ex px y (tW u)) (gz h + 1) = some (.inl 0) := by
    show gk (gnO (gnO h 0 dv_T) 0 dv_T) (gz h + 1) = _
    rw [gk_nO, gz_nO, if_pos rfl]
  have f0 : ∀ k, gF (gNo h ex px y (tW u)) 0 k (gz h) = _ := fun k => gF_gT _ _ _ _ _ _ _ k
  have f1 : ∀ k, gF (gNo h ex px y (tW u)) 0 k (gz h + 1) = _ := fun k => (gF_gTn (by omega)).trans (gF_gT _ _ _ _ _ _ _ k)
  unfold TR
  refine ⟨k0, ?_, ?_, ⟨ex, ?_, TR.mono te _ _ q1⟩, ⟨gz h + 1, ?_, ?_⟩, ?_⟩
  · rw [f0]; simp only [if_true]; rfl
  · rw [f0]; simp only [if_true]; rfl
  · rw [f0]; simp only [if_true]; rfl
  · rw [f0]; simp only [if_true]; rfl
  · unfold TR
    refine ⟨k1, ?_, ?_, ⟨px, ?_, TR.mono te _ _ q2⟩, ⟨y, ?_, TR.mono te _ _ q3⟩, ?_⟩
    · rw [f1]; simp only [if_true]; rfl
    · rw [f1]; simp only [if_true]; rfl
    · rw [f1]; simp only [if_true]; rfl
    · rw [f1]; simp only [if_true]; rfl
    · rw [f1]; simp only [if_true]; rfl
  · rw [f0]; simp only [if_true]; rfl
theorem c_S_exitNotice {E : th_E} {h : th_H} {o : Nat} {σ : Ho} (z : CR o σ h) (hc : oCt σ ≤ 12) {p : Nat} (hp : p < oCt σ) {r : Tm} {x : Nat} (hx : TR h r x) (hw : tW r ≤ 15) : Xc E m_S_exitNotice 2 2 10 [.ref (o + 4), .ref (o + 6 + 6 * p), .ref x] h (fun v h' => v = some (.ref (gz h)) ∧ New h h' ∧ TR h' (noticeM p r) (gz h)) := by
  have hp12 : p < 12 := by omega
  refine Xc.of (by decide) (by simp [Value.category]) (Nat.le_of_ble_eq_true rfl) ?_
  show Xw E m_S_exitNotice 2 2 10 0 [some (.ref (o + 4)), some (.ref (o + 6 + 6 * p)), some (.ref x), none] [] h _
  refine Xw.wf (fun wf => ?_)
  have K1 : ∀ a k, gk h a = some k → gk (gnO h 0 dv_T) a = some k := fun a k q => by rw [gk_nO, if_neg (Nat.ne_of_lt (wf a k q))]; exact q
  have K2 : ∀ a k, gk h a = some k → gk (gnO (gnO h 0 dv_T) 0 dv_T) a = some k := fun a k q => by rw [gk_nO, if_neg (by have := wf a k q; rw [gz_nO]; omega)]; exact K1 a k q
  have F2 : ∀ c k a, a < gz h → gF (gnO (gnO h 0 dv_T) 0 dv_T) c k a = gF h c k a := fun c k a ha => (New.rf h).nO.nO.2.2.1 c k a ha
  by_cases hv : 15 < tW r + 4
  · refine x_aload_n d_S_exitNotice_0 rfl rfl ?_
    refine x_getf (v := .int (nI (tW r))) d_S_exitNotice_1 lf_S_114 hx.k hx.w ?_
    refine x_iconst (v := 4) d_S_exitNotice_4 (by decide) ?_
    refine x_iadd (v := (nI (tW r + 4))) d_S_exitNotice_5 (nI_add _ 4) ?_
    refine x_bipush (v := 15) d_S_exitNotice_6 (by decide) ?_
    refine x_icmp_le (tgt := 21) d_S_exitNotice_8 rfl (fun q => absurd q (nI_ge (a := 15) hv (by omega))) (fun q8 => ?_)
    refine x_aload_n d_S_exitNotice_11 rfl rfl ?_
    refine x_getf (v := .ref (o + 81)) d_S_exitNotice_12 lf_S_36 z.1.1.kS z.1.1.S3 ?_
    refine x_bipush (v := 13) d_S_exitNotice_15 (by decide) ?_
    refine x_aald (v := .ref (o + 82 + 13)) d_S_exitNotice_17 z.1.1.kAt rfl (vp_in_nI (n := 13) (by decide) (by decide)) (by rw [show (13 : Int32).toNatClampNeg = 13 by decide]; exact (z.1.1.at 13 (by decide)).1) ?_
    refine x_goto (tgt := 22) d_S_exitNotice_18 rfl ?_
    refine x_astore_n d_S_exitNotice_22 rfl (by decide) (L' := [some (.ref (o + 4)), some (.ref (o + 6 + 6 * p)), some (.ref x), some (.ref (o + 82 + 13))]) rfl ?_
    refine x_new d_S_exitNotice_23 ln_S_27 (cz' := 1) (Nat.le_refl 2) (cs' := 5) (Nat.le_refl 10) ?_
    refine x_dup d_S_exitNotice_26 rfl ?_
    refine x_iconst (v := (nI 5)) d_S_exitNotice_27 (by decide) ?_
    refine x_aload_n d_S_exitNotice_28 rfl rfl ?_
    refine x_getf (v := .ref (o + 81)) d_S_exitNotice_29 lf_S_36 (K1 _ _ z.1.1.kS) (by simp [gF_nO, z.1.1.S3]) ?_
    refine x_bipush (v := 15) d_S_exitNotice_32 (by decide) ?_
    refine x_aald (v := .ref (o + 82 + 15)) d_S_exitNotice_34 (K1 _ _ z.1.1.kAt) rfl (vp_in_nI (n := 15) (by decide) (by decide)) (by rw [gA_nO, show (15 : Int32).toNatClampNeg = 15 by decide]; exact (z.1.1.at 15 (by decide)).1) ?_
    refine x_new d_S_exitNotice_35 ln_S_27 (cz' := 0) (Nat.le_refl 1) (cs' := 0) (Nat.le_refl 5) ?_
    rw [gz_nO]
    refine x_dup d_S_exitNotice_38 rfl ?_
    refine x_iconst (v := (nI 5)) d_S_exitNotice_39 (by decide) ?_
    refine x_aload_n d_S_exitNotice_40 rfl rfl ?_
    refine x_getf (v := .ref (o + 7 + 6 * p)) d_S_exitNotice_41 lf_S_117 (K2 _ _ (z.1.2 p hp12).k) (by simp [gF_nO, (z.1.2 p hp12).pid]) ?_
    refine x_aload_n d_S_exitNotice_44 rfl rfl ?_
    refine x_invi d_S_exitNotice_45 lm_S_120 (as := [.int (nI 5), .ref (o + 7 + 6 * p), .ref (o + 82 + 13)]) (S := [.ref (gz h + 1), .ref (o + 82 + 15), .int (nI 5), .ref (gz h), .ref (gz h)]) (c_T_init2 (a := gz h + 1) (x := o + 7 + 6 * p) (y := (o + 82 + 13)) (wx := 1) (wy := tW aFault) (nI 5) (by rw [gk_nO, gz_nO, if_pos rfl]) (K2 _ _ (z.1.2 p hp12).tp.k) (K2 _ _ (z.1.1.at 13 (by decide)).2.k) (by rw [F2 _ _ _ (wf _ _ (z.1.2 p hp12).tp.k)]; exact (z.1.2 p hp12).tp.w) (by rw [F2 _ _ _ (wf _ _ (z.1.1.at 13 (by decide)).2.k)]; exact (z.1.1.at 13 (by decide)).2.w)) rfl rfl (Nat.le_of_ble_eq_true rfl) (Nat.le_refl 2) (Nat.le_refl 0) (Nat.le_refl 0) ?_
    rintro _ _ ⟨rfl, rfl⟩
    refine x_invi d_S_exitNotice_48 lm_S_120 (as := [.int (nI 5), .ref (o + 82 + 15), .ref (gz h + 1)]) (S := [.ref (gz h)]) (c_T_init2 (a := gz h) (x := o + 82 + 15) (y := gz h + 1) (wx := 1) (wy := 1 + 1 + tW aFault) (nI 5) (by rw [gk_gT, gk_nO, gz_nO, if_neg (by omega), gk_nO, if_pos rfl]) (by rw [gk_gT]; exact K2 _ _ (z.1.1.at 15 (by decide)).2.k) (by rw [gk_gT, gk_nO, gz_nO, if_pos rfl]) (by rw [gF_gTn (by have := wf _ _ (z.1.1.at 15 (by decide)).2.k; omega), F2 _ _ _ (wf _ _ (z.1.1.at 15 (by decide)).2.k)]; exact (z.1.1.at 15 (by decide)).2.w) (by rw [gF_gT]; rfl)) rfl rfl (Nat.le_of_ble_eq_true rfl) (Nat.le_refl 2) (Nat.le_refl 0) (Nat.le_refl 0) ?_
    rintro _ _ ⟨rfl, rfl⟩
    exact x_aret d_S_exitNotice_51 rfl (Or.inl ⟨_, rfl⟩) (Or.inr ⟨_, rfl⟩) ⟨rfl, gNo_new h _ _ _ _, by rw [noticeM, if_pos hv]; exact TR_notice wf (z.1.1.at 15 (by decide)).2 (z.1.2 p hp12).tp (z.1.1.at 13 (by decide)).2⟩
  · refine x_aload_n d_S_exitNotice_0 rfl rfl ?_
    refine x_getf (v := .int (nI (tW r))) d_S_exitNotice_1 lf_S_114 hx.k hx.w ?_
    refine x_iconst (v := 4) d_S_exitNotice_4 (by decide) ?_
    refine x_iadd (v := (nI (tW r + 4))) d_S_exitNotice_5 (nI_add _ 4) ?_
    refine x_bipush (v := 15) d_S_exitNotice_6 (by decide) ?_
    refine x_icmp_le (tgt := 21) d_S_exitNotice_8 rfl (fun q8 => ?_) (fun q => absurd (nI_le (b := 15) (by omega) (by decide)) q)
    refine x_aload_n d_S_exitNotice_21 rfl rfl ?_
    refine x_astore_n d_S_exitNotice_22 rfl (by decide) (L' := [some (.ref (o + 4)), some (.ref (o + 6 + 6 * p)), some (.ref x), some (.ref x)]) rfl ?_
    refine x_new d_S_exitNotice_23 ln_S_27 (cz' := 1) (Nat.le_refl 2) (cs' := 5) (Nat.le_refl 10) ?_
    refine x_dup d_S_exitNotice_26 rfl ?_
    refine x_iconst (v := (nI 5)) d_S_exitNotice_27 (by decide) ?_
    refine x_aload_n d_S_exitNotice_28 rfl rfl ?_
    refine x_getf (v := .ref (o + 81)) d_S_exitNotice_29 lf_S_36 (K1 _ _ z.1.1.kS) (by simp [gF_nO, z.1.1.S3]) ?_
    refine x_bipush (v := 15) d_S_exitNotice_32 (by decide) ?_
    refine x_aald (v := .ref (o + 82 + 15)) d_S_exitNotice_34 (K1 _ _ z.1.1.kAt) rfl (vp_in_nI (n := 15) (by decide) (by decide)) (by rw [gA_nO, show (15 : Int32).toNatClampNeg = 15 by decide]; exact (z.1.1.at 15 (by decide)).1) ?_
    refine x_new d_S_exitNotice_35 ln_S_27 (cz' := 0) (Nat.le_refl 1) (cs' := 0) (Nat.le_refl 5) ?_
    rw [gz_nO]
    refine x_dup d_S_exitNotice_38 rfl ?_
    refine x_iconst (v := (nI 5)) d_S_exitNotice_39 (by decide) ?_
    refine x_aload_n d_S_exitNotice_40 rfl rfl ?_
    refine x_getf (v := .ref (o + 7 + 6 * p)) d_S_exitNotice_41 lf_S_117 (K2 _ _ (z.1.2 p hp12).k) (by simp [gF_nO, (z.1.2 p hp12).pid]) ?_
    refine x_aload_n d_S_exitNotice_44 rfl rfl ?_
    refine x_invi d_S_exitNotice_45 lm_S_120 (as := [.int (nI 5), .ref (o + 7 + 6 * p), .ref x]) (S := [.ref (gz h + 1), .ref (o + 82 + 15), .int (nI 5), .ref (gz h), .ref (gz h)]) (c_T_init2 (a := gz h + 1) (x := o + 7 + 6 * p) (y := x) (wx := 1) (wy := tW r) (nI 5) (by rw [gk_nO, gz_nO, if_pos rfl]) (K2 _ _ (z.1.2 p hp12).tp.k) (K2 _ _ hx.k) (by rw [F2 _ _ _ (wf _ _ (z.1.2 p hp12).tp.k)]; exact (z.1.2 p hp12).tp.w) (by rw [F2 _ _ _ (wf _ _ hx.k)]; exact hx.w)) rfl rfl (Nat.le_of_ble_eq_true rfl) (Nat.le_refl 2) (Nat.le_refl 0) (Nat.le_refl 0) ?_
    rintro _ _ ⟨rfl, rfl⟩
    refine x_invi d_S_exitNotice_48 lm_S_120 (as := [.int (nI 5), .ref (o + 82 + 15), .ref (gz h + 1)]) (S := [.ref (gz h)]) (c_T_init2 (a := gz h) (x := o + 82 + 15) (y := gz h + 1) (wx := 1) (wy := 1 + 1 + tW r) (nI 5) (by rw [gk_gT, gk_nO, gz_nO, if_neg (by omega), gk_nO, if_pos rfl]) (by rw [gk_gT]; exact K2 _ _ (z.1.1.at 15 (by decide)).2.k) (by rw [gk_gT, gk_nO, gz_nO, if_pos rfl]) (by rw [gF_gTn (by have := wf _ _ (z.1.1.at 15 (by decide)).2.k; omega), F2 _ _ _ (wf _ _ (z.1.1.at 15 (by decide)).2.k)]; exact (z.1.1.at 15 (by decide)).2.w) (by rw [gF_gT]; rfl)) rfl rfl (Nat.le_of_ble_eq_true rfl) (Nat.le_refl 2) (Nat.le_refl 0) (Nat.le_refl 0) ?_
    rintro _ _ ⟨rfl, rfl⟩
    exact x_aret d_S_exitNotice_51 rfl (Or.inl ⟨_, rfl⟩) (Or.inr ⟨_, rfl⟩) ⟨rfl, gNo_new h _ _ _ _, by rw [noticeM, if_neg hv]; exact TR_notice wf (z.1.1.at 15 (by decide)).2 (z.1.2 p hp12).tp hx⟩
def sigM (n : Nat) (σ : Ho) (p q : Nat) (r : Tm) : Ho := if pSt (oPr σ q) = 3 then σ else if pTr (oPr σ q) = true then deliverM σ q (noticeM p r) else if isN r = true then σ else loopM n (stopM σ q r) q r 0
def sigC (n : Nat) (σ : Ho) (p q : Nat) (r : Tm) : Nat := if pSt (oPr σ q) = 3 then 0 else if pTr (oPr σ q) = true then 1 else if isN r = true then 0 else loopC n (stopM σ q r) q r 0
theorem loopM_link {n : Nat} {σ : Ho} {p q : Nat} {r : Tm} (h1 : ¬ oCt σ ≤ q) (h2 : ¬ pLk (oPr σ p) &&& bitM q = 0) : loopM (n + 1) σ p r q = loopM n (sigM n (untieM σ p q) p q r) p r (q + 1) := by
  rw [loopM, if_neg h1, if_neg h2, sigM]
  split
  · rfl
  · split
    · rfl
    · split <;> rfl
theorem loopC_link {n : Nat} {σ : Ho} {p q : Nat} {r : Tm} (h1 : ¬ oCt σ ≤ q) (h2 : ¬ pLk (oPr σ p) &&& bitM q = 0) : loopC (n + 1) σ p r q = sigC n (untieM σ p q) p q r + loopC n (sigM n (untieM σ p q) p q r) p r (q + 1) := by
  rw [loopC, if_neg h1, if_neg h2, sigM, sigC]
  split
  · rw [Nat.zero_add]
  · split
    · rfl
    · split
      · rw [Nat.zero_add]
      · rfl
theorem sig_v {N n : Nat} {σ : Ho} {p q : Nat} {r : Tm} (v : vPs N σ) (hp : p < oCt σ) (hq : q < oCt σ) (hr : vTm r) : vPs N (sigM n σ p q r) ∧ oCt (sigM n σ p q r) = oCt σ ∧ live (sigM n σ p q r) ≤ live σ := by
  unfold sigM
  by_cases h3 : pSt (oPr σ q) = 3
  · rw [if_pos h3]; exact ⟨v, rfl, Nat.le_refl _⟩
  rw [if_neg h3]
  by_cases h4 : pTr (oPr σ q) = true
  · rw [if_pos h4]; exact ⟨v.deliver hq (vNotice hr), deliver_ct _ _ _, live_deliver _ _ _⟩
  rw [if_neg h4]
  by_cases h5 : isN r = true
  · rw [if_pos h5]; exact ⟨v, rfl, Nat.le_refl _⟩
  rw [if_neg h5]
  obtain ⟨a, b, c⟩ := loop_v (N := N) n (stopM σ q r) q r 0 (v.stop hq hr) hq hr
  exact ⟨a, b, Nat.le_trans c (Nat.le_of_lt (live_stop hq h3))⟩
/-- end's loop, at fuel n -/
def Lp (E : th_E) (o N n : Nat) : Prop := ∀ (σ : Ho) (h : th_H) (p : Nat) (r : Tm) (x q d : Nat), CR o σ h → vPs N σ → p < oCt σ → vTm r → TR h r x → q ≤ oCt σ → 13 * live σ + 13 ≤ n + q → 2 * live σ + 20 ≤ d → Xw E m_S_end d (2 * loopC n σ p r q) (10 * loopC n σ p r q) 32 [some (.ref (o + 4)), some (.ref (o + 6 + 6 * p)), some (.ref x), some (.int (nI q))] [] h (Mv o h none (loopM n σ p r q))
theorem c_S_end_of {E : th_E} {h : th_H} {o : Nat} {σ : Ho} (z : CR o σ h) {N n p x d : Nat} {r : Tm} (lp : Lp E o N n) (v : vPs N σ) (hp : p < oCt σ) (hr : vTm r) (hx : TR h r x) (h3 : ¬ pSt (oPr σ p) = 3) (hn : 13 * live (stopM σ p r) + 13 ≤ n + 0) (hd : 2 * live (stopM σ p r) + 20 ≤ d) : Xc E m_S_end d (2 * loopC n (stopM σ p r) p r 0) (10 * loopC n (stopM σ p r) p r 0) [.ref (o + 4), .ref (o + 6 + 6 * p), .ref x] h (Mv o h none (loopM n (stopM σ p r) p r 0)) := by
  have hp12 : p < 12 := by have := v.1; omega
  have zp := z.2.2.2.2.2 p hp
  refine Xc.of (by decide) (by simp [Value.category]) (Nat.le_of_ble_eq_true rfl) ?_
  show Xw E m_S_end d (2 * loopC n (stopM σ p r) p r 0) (10 * loopC n (stopM σ p r) p r 0) 0 [some (.ref (o + 4)), some (.ref (o + 6 + 6 * p)), some (.ref x), none] [] h _
  refine Xw.wf (fun wf => ?_)
  have chg1 : Chg o h (gpF (gpF h 2 9 (o + 6 + 6 * p) (.int (nI 3))) 2 10 (o + 6 + 6 * p) (.ref x)) := ((Chg.rf o h).pF ⟨by omega, by omega⟩ rfl).pF ⟨by omega, by omega⟩ rfl
  have c1 : CR o (sPr σ p (sRs (sSt (oPr σ p) 3) (some r))) (gpF (gpF h 2 9 (o + 6 + 6 * p) (.int (nI 3))) 2 10 (o + 6 + 6 * p) (.ref x)) := z.sPr wf chg1 (((Keep.rf o h).pF (by omega)).pF (by omega)) (((KeepQ.rf o h).pF (by decide)).pF (by decide)) (cPr_rs (TR.mono (TE.pF (TE.rf h) (by decide)) _ _ hx) (cPr_st 3 zp)) (fun y _ hy => ((Same.rf o y h).pF ⟨by omega, by omega⟩).pF ⟨by omega, by omega⟩)
  refine x_aload_n d_S_end_0 rfl rfl ?_
  refine x_getf (v := .int (nI (pSt (oPr σ p)))) d_S_end_1 lf_S_65 (z.1.2 p hp12).k zp.2.2.2.2.2.2.2.1 ?_
  refine x_iconst (v := (nI 3)) d_S_end_4 (by decide) ?_
  refine x_icmp_ne (tgt := 9) d_S_end_5 rfl (fun q5 => ?_) (fun q => absurd q (fun e => h3 (nI_inj (by have := (v.2.2 p hp).2.2.2.2.2.1; omega) (by decide) e)))
  refine x_aload_n d_S_end_9 rfl rfl ?_
  refine x_iconst (v := (nI 3)) d_S_end_10 (by decide) ?_
  refine x_putf d_S_end_11 lp_S_65 (z.1.2 p hp12).k ⟨_, rfl⟩ ?_
  refine x_aload_n d_S_end_14 rfl rfl ?_
  refine x_aload_n d_S_end_15 rfl rfl ?_
  refine x_putf d_S_end_16 lp_S_84 (z.1.2 p hp12).k (Or.inr ⟨_, rfl⟩) ?_
  refine x_aload_n d_S_end_19 rfl rfl ?_
  refine x_getf (v := .ref (o + 78)) d_S_end_20 lf_S_23 z.1.1.kS (by simp [gF_pF, gF_pA, gF_nO, gF_nA, gF_sA, z.1.1.S1]) ?_
  refine x_aload_n d_S_end_23 rfl rfl ?_
  refine x_getf (v := .int (nI p)) d_S_end_24 lf_S_61 (z.1.2 p hp12).k (by simp [gF_pF, gF_pA, gF_nO, gF_nA, gF_sA, (z.1.2 p hp12).n]) ?_
  refine x_invv d_S_end_27 lm_S_78 (as := [.int (nI p)]) (S := []) (cz' := 2 * loopC n (stopM σ p r) p r 0) (cs' := 10 * loopC n (stopM σ p r) p r 0) (c_L_leave (h := (gpF (gpF h 2 9 (o + 6 + 6 * p) (.int (nI 3))) 2 10 (o + 6 + 6 * p) (.ref x))) (ln := o + 78) (na := o + 79) (qs := oQu σ) z.1.1.kL z.1.1.kLa (by simp [gF_pF, z.1.1.L0]) (by simp [gF_pF, z.2.2.2.1.1]) v.len (fun y hy => by have := (v.2.1.2.1 y hy).1; have := v.1; omega) hp12 (fun i y hy => z.2.2.2.1.2 i y hy)) z.1.1.kL rfl rfl rfl (Nat.le_of_ble_eq_true rfl) (by omega) (by omega) (by omega) ?_
  rintro _ _ ⟨rfl, f', rfl, hf⟩
  have chg2 : Chg o h (gpF (gsA (gpF (gpF h 2 9 (o + 6 + 6 * p) (.int (nI 3))) 2 10 (o + 6 + 6 * p) (.ref x)) 1 (o + 79) f') 3 1 (o + 78) (.int (nI ((oQu σ).filter (fun y => y ≠ p)).length))) := (chg1.sA ⟨by omega, by omega, by omega⟩ (Or.inl rfl)).pF ⟨by omega, by omega⟩ rfl
  have c2 : CR o (stopM σ p r) (gpF (gsA (gpF (gpF h 2 9 (o + 6 + 6 * p) (.int (nI 3))) 2 10 (o + 6 + 6 * p) (.ref x)) 1 (o + 79) f') 3 1 (o + 78) (.int (nI ((oQu σ).filter (fun y => y ≠ p)).length))) := c1.sQu wf (((Chg.rf o _).sA ⟨by omega, by omega, by omega⟩ (Or.inl rfl)).pF ⟨by omega, by omega⟩ rfl) (((Keep.rf o _).sA (by omega)).pF (by omega)) (cQu_set hf) (fun y hy => ((Same.rf o y _).sA ⟨by omega, by have : y < oCt σ := hy; have := v.1; omega⟩).pF ⟨by omega, by omega⟩)
  refine x_iconst (v := (nI 0)) d_S_end_30 (by decide) ?_
  refine x_istore_n d_S_end_31 rfl (by decide) (L' := [some (.ref (o + 4)), some (.ref (o + 6 + 6 * p)), some (.ref x), some (.int (nI 0))]) rfl ?_
  exact (lp (stopM σ p r) _ p r x 0 d c2 (v.stop hp hr) hp hr (TR.mono (chg2.te wf) _ _ hx) (Nat.zero_le _) hn hd).post (fun u h' q => ⟨q.1, q.2.1, chg2.tr q.2.2⟩)
end
section
/-! Society: signal, end (printed by wip/gen/mod_end2.py). -/
theorem c_S_signal_of {E : th_E} {h : th_H} {o : Nat} {σ : Ho} (z : CR o σ h) {N n p q x d : Nat} {r : Tm} (lp : Lp E o N n) (v : vPs N σ) (hp : p < oCt σ) (hq : q < oCt σ) (hr : vTm r) (hx : TR h r x) (hn : ¬ pSt (oPr σ q) = 3 → ¬ pTr (oPr σ q) = true → ¬ isN r = true → 13 * live (stopM σ q r) + 13 ≤ n + 0) (hd0 : 18 ≤ d) (hd : ¬ pSt (oPr σ q) = 3 → ¬ pTr (oPr σ q) = true → ¬ isN r = true → 2 * live (stopM σ q r) + 21 ≤ d) : Xc E m_S_signal d (2 * sigC n σ p q r) (10 * sigC n σ p q r) [.ref (o + 4), .ref (o + 6 + 6 * p), .ref (o + 6 + 6 * q), .ref x] h (Mv o h none (sigM n σ p q r)) := by
  have hp12 : p < 12 := by have := v.1; omega
  have hq12 : q < 12 := by have := v.1; omega
  by_cases h3 : pSt (oPr σ q) = 3
  · rw [show sigM n σ p q r = σ by rw [sigM, if_pos h3], show sigC n σ p q r = 0 by rw [sigC, if_pos h3]]
    refine Xc.of (by decide) (by simp [Value.category]) (Nat.le_of_ble_eq_true rfl) ?_
    show Xw E m_S_signal d (2 * 0) (10 * 0) 0 [some (.ref (o + 4)), some (.ref (o + 6 + 6 * p)), some (.ref (o + 6 + 6 * q)), some (.ref x)] [] h _
    refine Xw.wf (fun wf => ?_)
    refine x_aload_n d_S_signal_0 rfl rfl ?_
    refine x_getf (v := .int (nI (pSt (oPr σ q)))) d_S_signal_1 lf_S_65 (z.1.2 q hq12).k (z.2.2.2.2.2 q hq).2.2.2.2.2.2.2.1 ?_
    refine x_iconst (v := (nI 3)) d_S_signal_4 (by decide) ?_
    refine x_icmp_ne (tgt := 9) d_S_signal_5 rfl (fun w_ => absurd (by rw [h3]) w_) (fun q5 => ?_)
    exact x_ret ⟨rfl, z, Chg.rf o h⟩ rfl d_S_signal_8
  by_cases h4 : pTr (oPr σ q) = true
  · rw [show sigM n σ p q r = deliverM σ q (noticeM p r) by rw [sigM, if_neg h3, if_pos h4], show sigC n σ p q r = 1 by rw [sigC, if_neg h3, if_pos h4]]
    refine Xc.of (by decide) (by simp [Value.category]) (Nat.le_of_ble_eq_true rfl) ?_
    show Xw E m_S_signal d (2 * 1) (10 * 1) 0 [some (.ref (o + 4)), some (.ref (o + 6 + 6 * p)), some (.ref (o + 6 + 6 * q)), some (.ref x)] [] h _
    refine Xw.wf (fun wf => ?_)
    refine x_aload_n d_S_signal_0 rfl rfl ?_
    refine x_getf (v := .int (nI (pSt (oPr σ q)))) d_S_signal_1 lf_S_65 (z.1.2 q hq12).k (z.2.2.2.2.2 q hq).2.2.2.2.2.2.2.1 ?_
    refine x_iconst (v := (nI 3)) d_S_signal_4 (by decide) ?_
    refine x_icmp_ne (tgt := 9) d_S_signal_5 rfl (fun q5 => ?_) (fun w_ => absurd w_ (fun e => h3 (nI_inj (by have := (v.2.2 q hq).2.2.2.2.2.1; omega) (by decide) e)))
    refine x_aload_n d_S_signal_9 rfl rfl ?_
    refine x_getf (v := .int 1) d_S_signal_10 lf_S_95 (z.1.2 q hq12).k (by rw [(z.2.2.2.2.2 q hq).2.2.2.2.2.2.1, h4]; rfl) ?_
    refine x_if_eq (tgt := 30) d_S_signal_13 rfl (fun w_ => absurd w_ (by decide)) (fun q13 => ?_)
    refine x_aload_n d_S_signal_16 rfl rfl ?_
    refine x_aload_n d_S_signal_17 rfl rfl ?_
    refine x_aload_n d_S_signal_18 rfl rfl ?_
    refine x_aload_n d_S_signal_19 rfl rfl ?_
    refine x_aload_n d_S_signal_20 rfl rfl ?_
    refine x_invv d_S_signal_21 lm_S_99 (as := [.ref (o + 6 + 6 * p), .ref x]) (S := [.ref (o + 6 + 6 * q), .ref (o + 4)]) (cz' := 0) (cs' := 0) (c_S_exitNotice z v.1 hp hx hr.2) z.1.1.kS rfl rfl rfl (Nat.le_of_ble_eq_true rfl) (by omega) (by omega) (by omega) ?_
    rintro _ h1 ⟨rfl, hnew, hno⟩
    have z1 := z.new v.1 wf hnew
    refine x_invv d_S_signal_24 lm_S_103 (as := [.ref (o + 6 + 6 * q), .ref (gz h)]) (S := []) (cz' := 0) (cs' := 0) (c_S_deliver z1 v.1 hq (v.2.2 q hq).2.2.2.1.1 (by have := (v.2.2 q hq).2.2.2.2.2.1; omega) (fun e => v.room hq (by omega)) hno) z1.1.1.kS rfl rfl rfl (Nat.le_of_ble_eq_true rfl) (by omega) (by omega) (by omega) ?_
    rintro _ h2 ⟨rfl, z2, chg2⟩
    refine x_goto (tgt := 50) d_S_signal_27 rfl ?_
    exact x_ret ⟨rfl, z2, (hnew.chg o).tr chg2⟩ rfl d_S_signal_50
  by_cases h5 : isN r = true
  · rw [show sigM n σ p q r = σ by rw [sigM, if_neg h3, if_neg h4, if_pos h5], show sigC n σ p q r = 0 by rw [sigC, if_neg h3, if_neg h4, if_pos h5]]
    refine Xc.of (by decide) (by simp [Value.category]) (Nat.le_of_ble_eq_true rfl) ?_
    show Xw E m_S_signal d (2 * 0) (10 * 0) 0 [some (.ref (o + 4)), some (.ref (o + 6 + 6 * p)), some (.ref (o + 6 + 6 * q)), some (.ref x)] [] h _
    refine Xw.wf (fun wf => ?_)
    refine x_aload_n d_S_signal_0 rfl rfl ?_
    refine x_getf (v := .int (nI (pSt (oPr σ q)))) d_S_signal_1 lf_S_65 (z.1.2 q hq12).k (z.2.2.2.2.2 q hq).2.2.2.2.2.2.2.1 ?_
    refine x_iconst (v := (nI 3)) d_S_signal_4 (by decide) ?_
    refine x_icmp_ne (tgt := 9) d_S_signal_5 rfl (fun q5 => ?_) (fun w_ => absurd w_ (fun e => h3 (nI_inj (by have := (v.2.2 q hq).2.2.2.2.2.1; omega) (by decide) e)))
    refine x_aload_n d_S_signal_9 rfl rfl ?_
    refine x_getf (v := .int 0) d_S_signal_10 lf_S_95 (z.1.2 q hq12).k (by rw [(z.2.2.2.2.2 q hq).2.2.2.2.2.2.1, eq_false_of_ne_true h4]; rfl) ?_
    refine x_if_eq (tgt := 30) d_S_signal_13 rfl (fun q13 => ?_) (fun w_ => absurd rfl w_)
    refine x_aload_n d_S_signal_30 rfl rfl ?_
    refine x_aload_n d_S_signal_31 rfl rfl ?_
    refine x_getf (v := .ref (o + 81)) d_S_signal_32 lf_S_36 z.1.1.kS z.1.1.S3 ?_
    refine x_bipush (v := 14) d_S_signal_35 (by decide) ?_
    refine x_aald (v := .ref (o + 82 + 14)) d_S_signal_37 z.1.1.kAt rfl (vp_in_nI (n := 14) (by decide) (by decide)) (by rw [show (14 : Int32).toNatClampNeg = 14 by decide]; exact (z.1.1.at 14 (by decide)).1) ?_
    refine x_invsN d_S_signal_38 lm_S_107 (as := [.ref x, .ref (o + 82 + 14)]) (S := []) (cz' := 2 * 0) (cs' := 10 * 0) (c_T_alike r aNormal x (o + 82 + 14) (d - 1) 1 hx (z.1.1.at 14 (by decide)).2 hr.1 (Or.inl (Or.inr (Or.inl rfl))) (by have := hr.2; omega) ⟨fun _ => rfl, fun e => absurd ((isN_iff r).mp h5) e⟩) rfl rfl (Nat.le_of_ble_eq_true rfl) (by omega) (by omega) (by omega) ?_
    rintro _ _ ⟨rfl, rfl⟩
    refine x_if_ne (tgt := 50) d_S_signal_41 rfl (fun q41 => ?_) (fun w_ => absurd w_ (by decide))
    exact x_ret ⟨rfl, z, Chg.rf o h⟩ rfl d_S_signal_50
  have hn := hn h3 h4 h5
  have hd := hd h3 h4 h5
  rw [show sigM n σ p q r = loopM n (stopM σ q r) q r 0 by rw [sigM, if_neg h3, if_neg h4, if_neg h5], show sigC n σ p q r = loopC n (stopM σ q r) q r 0 by rw [sigC, if_neg h3, if_neg h4, if_neg h5]]
  refine Xc.of (by decide) (by simp [Value.category]) (Nat.le_of_ble_eq_true rfl) ?_
  show Xw E m_S_signal d (2 * (loopC n (stopM σ q r) q r 0)) (10 * (loopC n (stopM σ q r) q r 0)) 0 [some (.ref (o + 4)), some (.ref (o + 6 + 6 * p)), some (.ref (o + 6 + 6 * q)), some (.ref x)] [] h _
  refine Xw.wf (fun wf => ?_)
  refine x_aload_n d_S_signal_0 rfl rfl ?_
  refine x_getf (v := .int (nI (pSt (oPr σ q)))) d_S_signal_1 lf_S_65 (z.1.2 q hq12).k (z.2.2.2.2.2 q hq).2.2.2.2.2.2.2.1 ?_
  refine x_iconst (v := (nI 3)) d_S_signal_4 (by decide) ?_
  refine x_icmp_ne (tgt := 9) d_S_signal_5 rfl (fun q5 => ?_) (fun w_ => absurd w_ (fun e => h3 (nI_inj (by have := (v.2.2 q hq).2.2.2.2.2.1; omega) (by decide) e)))
  refine x_aload_n d_S_signal_9 rfl rfl ?_
  refine x_getf (v := .int 0) d_S_signal_10 lf_S_95 (z.1.2 q hq12).k (by rw [(z.2.2.2.2.2 q hq).2.2.2.2.2.2.1, eq_false_of_ne_true h4]; rfl) ?_
  refine x_if_eq (tgt := 30) d_S_signal_13 rfl (fun q13 => ?_) (fun w_ => absurd rfl w_)
  refine x_aload_n d_S_signal_30 rfl rfl ?_
  refine x_aload_n d_S_signal_31 rfl rfl ?_
  refine x_getf (v := .ref (o + 81)) d_S_signal_32 lf_S_36 z.1.1.kS z.1.1.S3 ?_
  refine x_bipush (v := 14) d_S_signal_35 (by decide) ?_
  refine x_aald (v := .ref (o + 82 + 14)) d_S_signal_37 z.1.1.kAt rfl (vp_in_nI (n := 14) (by decide) (by decide)) (by rw [show (14 : Int32).toNatClampNeg = 14 by decide]; exact (z.1.1.at 14 (by decide)).1) ?_
  refine x_invsN d_S_signal_38 lm_S_107 (as := [.ref x, .ref (o + 82 + 14)]) (S := []) (cz' := 2 * (loopC n (stopM σ q r) q r 0)) (cs' := 10 * (loopC n (stopM σ q r) q r 0)) (c_T_alike r aNormal x (o + 82 + 14) (d - 1) 0 hx (z.1.1.at 14 (by decide)).2 hr.1 (Or.inl (Or.inr (Or.inl rfl))) (by have := hr.2; omega) ⟨fun e => absurd ((isN_iff r).mpr e) h5, fun _ => rfl⟩) rfl rfl (Nat.le_of_ble_eq_true rfl) (by omega) (by omega) (by omega) ?_
  rintro _ _ ⟨rfl, rfl⟩
  refine x_if_ne (tgt := 50) d_S_signal_41 rfl (fun w_ => absurd rfl w_) (fun q41 => ?_)
  refine x_aload_n d_S_signal_44 rfl rfl ?_
  refine x_aload_n d_S_signal_45 rfl rfl ?_
  refine x_aload_n d_S_signal_46 rfl rfl ?_
  refine x_invv d_S_signal_47 lm_S_111 (as := [.ref (o + 6 + 6 * q), .ref x]) (S := []) (cz' := 0) (cs' := 0) (c_S_end_of (d := d - 1) z lp v hq hr hx h3 hn (by omega)) z.1.1.kS rfl rfl rfl (Nat.le_of_ble_eq_true rfl) (by omega) (by omega) (by omega) ?_
  rintro _ h2 ⟨rfl, z2, chg2⟩
  exact x_ret ⟨rfl, z2, chg2⟩ rfl d_S_signal_50
theorem Lp_step {E : th_E} {o N n : Nat} (lp : Lp E o N n) : Lp E o N (n + 1) := by
  intro σ h p r x q d z v hp hr hx hq hn hd
  have hp12 : p < 12 := by have := v.1; omega
  have hc := v.1
  by_cases c1 : oCt σ ≤ q
  · rw [show loopM (n + 1) σ p r q = σ by rw [loopM, if_pos c1], show loopC (n + 1) σ p r q = 0 by rw [loopC, if_pos c1]]
    refine x_iload_n d_S_end_32 rfl rfl ?_
    refine x_aload_n d_S_end_33 rfl rfl ?_
    refine x_getf (v := .int (nI (oCt σ))) d_S_end_34 lf_S_40 z.1.1.kS z.2.2.2.2.1 ?_
    refine x_icmp_ge (tgt := 80) d_S_end_37 rfl (fun q37 => ?_) (fun w_ => absurd (nI_le c1 (by omega)) w_)
    exact x_ret ⟨rfl, z, Chg.rf o h⟩ rfl d_S_end_80
  have hq12 : q < 12 := by omega
  have hq : q < oCt σ := by omega
  by_cases c2 : pLk (oPr σ p) &&& bitM q = 0
  · rw [show loopM (n + 1) σ p r q = loopM n σ p r (q + 1) by rw [loopM, if_neg c1, if_pos c2], show loopC (n + 1) σ p r q = loopC n σ p r (q + 1) by rw [loopC, if_neg c1, if_pos c2]]
    refine x_iload_n d_S_end_32 rfl rfl ?_
    refine x_aload_n d_S_end_33 rfl rfl ?_
    refine x_getf (v := .int (nI (oCt σ))) d_S_end_34 lf_S_40 z.1.1.kS z.2.2.2.2.1 ?_
    refine x_icmp_ge (tgt := 80) d_S_end_37 rfl (fun w_ => absurd w_ (nI_ge (by omega) (by omega))) (fun q37 => ?_)
    refine x_aload_n d_S_end_40 rfl rfl ?_
    refine x_getf (v := .int (pLk (oPr σ p))) d_S_end_41 lf_S_81 (z.1.2 p hp12).k (z.2.2.2.2.2 p hp).2.2.2.2.2.1 ?_
    refine x_iconst (v := 1) d_S_end_44 (by decide) ?_
    refine x_iload_n d_S_end_45 rfl rfl ?_
    refine x_ishl (v := ((1 : Int32) <<< ((nI q) &&& 31))) d_S_end_46 rfl ?_
    refine x_iand (v := ((pLk (oPr σ p)) &&& ((1 : Int32) <<< ((nI q) &&& 31)))) d_S_end_47 rfl ?_
    refine x_if_eq (tgt := 74) d_S_end_48 rfl (fun q48 => ?_) (fun w_ => absurd c2 w_)
    refine x_iinc d_S_end_74 rfl (v := (nI (q + 1))) (nI_1 _) (by decide) (L' := [some (.ref (o + 4)), some (.ref (o + 6 + 6 * p)), some (.ref x), some (.int (nI (q + 1)))]) rfl ?_
    refine x_goto (tgt := 32) d_S_end_77 rfl ?_
    exact lp σ h p r x (q + 1) d z v hp hr hx (by omega) (by omega) hd
  rw [loopM_link c1 c2, loopC_link c1 c2]
  refine Xw.wf (fun wf => ?_)
  have v1 := v.untie hp hq
  have l1 := live_untie σ p q
  obtain ⟨v2, ct2, l2⟩ := sig_v (n := n) v1 hp hq hr
  have hun : Xc E m_S_untie 0 0 0 [.ref (o + 4), .ref (o + 6 + 6 * p), .ref (o + 6 + 6 * q)] h (Mv o h none (untieM σ p q)) := by
    by_cases e : p = q
    · subst e; exact c_S_untie_self z v.1 hp
    · exact c_S_untie z v.1 hp hq e
  refine x_iload_n d_S_end_32 rfl rfl ?_
  refine x_aload_n d_S_end_33 rfl rfl ?_
  refine x_getf (v := .int (nI (oCt σ))) d_S_end_34 lf_S_40 z.1.1.kS z.2.2.2.2.1 ?_
  refine x_icmp_ge (tgt := 80) d_S_end_37 rfl (fun w_ => absurd w_ (nI_ge (by omega) (by omega))) (fun q37 => ?_)
  refine x_aload_n d_S_end_40 rfl rfl ?_
  refine x_getf (v := .int (pLk (oPr σ p))) d_S_end_41 lf_S_81 (z.1.2 p hp12).k (z.2.2.2.2.2 p hp).2.2.2.2.2.1 ?_
  refine x_iconst (v := 1) d_S_end_44 (by decide) ?_
  refine x_iload_n d_S_end_45 rfl rfl ?_
  refine x_ishl (v := ((1 : Int32) <<< ((nI q) &&& 31))) d_S_end_46 rfl ?_
  refine x_iand (v := ((pLk (oPr σ p)) &&& ((1 : Int32) <<< ((nI q) &&& 31)))) d_S_end_47 rfl ?_
  refine x_if_eq (tgt := 74) d_S_end_48 rfl (fun w_ => absurd w_ c2) (fun q48 => ?_)
  refine x_aload_n d_S_end_51 rfl rfl ?_
  refine x_aload_n d_S_end_52 rfl rfl ?_
  refine x_aload_n d_S_end_53 rfl rfl ?_
  refine x_getf (v := .ref (o + 5)) d_S_end_54 lf_S_11 z.1.1.kS z.1.1.S0 ?_
  refine x_iload_n d_S_end_57 rfl rfl ?_
  refine x_aald (v := .ref (o + 6 + 6 * q)) d_S_end_58 z.1.1.kT rfl (vp_in_nI (by omega) (by decide)) (by rw [nI_cl (by omega)]; exact z.1.1.tab q hq12) ?_
  refine x_invv d_S_end_59 lm_S_87 (as := [.ref (o + 6 + 6 * p), .ref (o + 6 + 6 * q)]) (S := []) (cz' := 2 * (sigC n (untieM σ p q) p q r + loopC n (sigM n (untieM σ p q) p q r) p r (q + 1))) (cs' := 10 * (sigC n (untieM σ p q) p q r + loopC n (sigM n (untieM σ p q) p q r) p r (q + 1))) hun z.1.1.kS rfl rfl rfl (Nat.le_of_ble_eq_true rfl) (by omega) (by omega) (by omega) ?_
  rintro _ h1 ⟨rfl, z1, chg1⟩
  refine x_aload_n d_S_end_62 rfl rfl ?_
  refine x_aload_n d_S_end_63 rfl rfl ?_
  refine x_aload_n d_S_end_64 rfl rfl ?_
  refine x_getf (v := .ref (o + 5)) d_S_end_65 lf_S_11 z1.1.1.kS z1.1.1.S0 ?_
  refine x_iload_n d_S_end_68 rfl rfl ?_
  refine x_aald (v := .ref (o + 6 + 6 * q)) d_S_end_69 z1.1.1.kT rfl (vp_in_nI (by omega) (by decide)) (by rw [nI_cl (by omega)]; exact z1.1.1.tab q hq12) ?_
  refine x_aload_n d_S_end_70 rfl rfl ?_
  refine x_invv d_S_end_71 lm_S_91 (as := [.ref (o + 6 + 6 * p), .ref (o + 6 + 6 * q), .ref x]) (S := []) (cz' := 2 * loopC n (sigM n (untieM σ p q) p q r) p r (q + 1)) (cs' := 10 * loopC n (sigM n (untieM σ p q) p q r) p r (q + 1)) (c_S_signal_of (d := d - 1) z1 lp v1 hp hq hr (TR.mono (chg1.te wf) _ _ hx) (fun e3 _ _ => by have := live_stop (σ := untieM σ p q) (r := r) hq e3; omega) (by omega) (fun e3 _ _ => by have := live_stop (σ := untieM σ p q) (r := r) hq e3; omega)) z1.1.1.kS rfl rfl rfl (Nat.le_of_ble_eq_true rfl) (by omega) (by omega) (by omega) ?_
  rintro _ h2 ⟨rfl, z2, chg2⟩
  refine x_iinc d_S_end_74 rfl (v := (nI (q + 1))) (nI_1 _) (by decide) (L' := [some (.ref (o + 4)), some (.ref (o + 6 + 6 * p)), some (.ref x), some (.int (nI (q + 1)))]) rfl ?_
  refine x_goto (tgt := 32) d_S_end_77 rfl ?_
  exact (lp _ h2 p r x (q + 1) d z2 v2 (by rw [ct2]; exact hp) hr (TR.mono ((chg1.tr chg2).te wf) _ _ hx) (by rw [ct2]; show q + 1 ≤ oCt σ; omega) (by omega) (by omega)).post (fun u h' y => ⟨y.1, y.2.1, (chg1.tr chg2).tr y.2.2⟩)
theorem Lp_all (E : th_E) (o N : Nat) : ∀ n, Lp E o N n
  | 0 => fun σ h p r x q d z v hp hr hx hq hn hd => by have := v.1; omega
  | n + 1 => Lp_step (Lp_all E o N n)
/-- enough for every end -/
abbrev FU : Nat := 170
def endM (σ : Ho) (p : Nat) (r : Tm) : Ho := if pSt (oPr σ p) = 3 then σ else loopM FU (stopM σ p r) p r 0
def endC (σ : Ho) (p : Nat) (r : Tm) : Nat := if pSt (oPr σ p) = 3 then 0 else loopC FU (stopM σ p r) p r 0
theorem live12 {N : Nat} {σ : Ho} (v : vPs N σ) : live σ ≤ 12 := Nat.le_trans (liveN_le _ _) v.1
theorem end_v {N : Nat} {σ : Ho} {p : Nat} {r : Tm} (v : vPs N σ) (hp : p < oCt σ) (hr : vTm r) : vPs N (endM σ p r) ∧ oCt (endM σ p r) = oCt σ := by
  unfold endM
  by_cases h3 : pSt (oPr σ p) = 3
  · rw [if_pos h3]; exact ⟨v, rfl⟩
  · rw [if_neg h3]
    obtain ⟨a, b, -⟩ := loop_v (N := N) FU (stopM σ p r) p r 0 (v.stop hp hr) hp hr
    exact ⟨a, b⟩
theorem c_S_end {E : th_E} {h : th_H} {o : Nat} {σ : Ho} (z : CR o σ h) {N p x : Nat} {r : Tm} (v : vPs N σ) (hp : p < oCt σ) (hr : vTm r) (hx : TR h r x) : Xc E m_S_end 50 (2 * endC σ p r) (10 * endC σ p r) [.ref (o + 4), .ref (o + 6 + 6 * p), .ref x] h (Mv o h none (endM σ p r)) := by
  have hp12 : p < 12 := by have := v.1; omega
  have h12 := live12 v
  by_cases h3 : pSt (oPr σ p) = 3
  · rw [show endM σ p r = σ by rw [endM, if_pos h3], show endC σ p r = 0 by rw [endC, if_pos h3]]
    refine Xc.of (by decide) (by simp [Value.category]) (Nat.le_of_ble_eq_true rfl) ?_
    show Xw E m_S_end 50 (2 * 0) (10 * 0) 0 [some (.ref (o + 4)), some (.ref (o + 6 + 6 * p)), some (.ref x), none] [] h _
    refine x_aload_n d_S_end_0 rfl rfl ?_
    refine x_getf (v := .int (nI (pSt (oPr σ p)))) d_S_end_1 lf_S_65 (z.1.2 p hp12).k (z.2.2.2.2.2 p hp).2.2.2.2.2.2.2.1 ?_
    refine x_iconst (v := (nI 3)) d_S_end_4 (by decide) ?_
    refine x_icmp_ne (tgt := 9) d_S_end_5 rfl (fun w_ => absurd (by rw [h3]) w_) (fun q5 => ?_)
    exact x_ret ⟨rfl, z, Chg.rf o h⟩ rfl d_S_end_8
  · have := live_stop (r := r) hp h3
    rw [show endM σ p r = loopM FU (stopM σ p r) p r 0 by rw [endM, if_neg h3], show endC σ p r = loopC FU (stopM σ p r) p r 0 by rw [endC, if_neg h3]]
    exact c_S_end_of z (Lp_all E o N FU) v hp hr hx h3 (by show _ ≤ 170 + 0; omega) (by omega)
theorem c_S_signal {E : th_E} {h : th_H} {o : Nat} {σ : Ho} (z : CR o σ h) {N p q x : Nat} {r : Tm} (v : vPs N σ) (hp : p < oCt σ) (hq : q < oCt σ) (hr : vTm r) (hx : TR h r x) : Xc E m_S_signal 51 (2 * sigC FU σ p q r) (10 * sigC FU σ p q r) [.ref (o + 4), .ref (o + 6 + 6 * p), .ref (o + 6 + 6 * q), .ref x] h (Mv o h none (sigM FU σ p q r)) := by
  have h12 := live12 v
  exact c_S_signal_of z (Lp_all E o N FU) v hp hq hr hx (fun e _ _ => by have := live_stop (r := r) hq e; show _ ≤ 170 + 0; omega) (by decide) (fun e _ _ => by have := live_stop (r := r) hq e; omega)
end
section
/-! Society: start, dissolve (printed by wip/gen/mod_start.py). -/
def newP (l : Nat) (t : Tm) : Pr := (va_up (fun _ => nilT) 0 t, l, [], [], 0, 0, false, 1, none, 0)
def startM (σ : Ho) (l : Nat) (t : Tm) : Ho := comeM (sCt (sPr σ (oCt σ) (newP l t)) (oCt σ + 1)) (oCt σ)
def dissolveM (σ : Ho) : Ho := sQu (sCt σ 0) []
theorem gA_ren (h : th_H) (p ra mb x nl : Nat) (l : Int32) : gA (gRen h p ra mb x nl l) = gA (gsA h 2 ra (fun i => if i = 0 then .ref x else if i < 8 then .ref nl else gA h 2 ra i)) := id rfl
theorem gF_ren {h : th_H} {p ra mb x nl : Nat} {l : Int32} {c k a : Nat} (hc : ¬ (c = 2 ∧ a = p) ∧ ¬ (c = 1 ∧ a = mb)) : gF (gRen h p ra mb x nl l) c k a = gF h c k a := by
  unfold gRen
  have h1 : ∀ j, ¬ (c = 2 ∧ k = j ∧ a = p) := fun j z => hc.1 ⟨z.1, z.2.2⟩
  have h2 : ∀ j, ¬ (c = 1 ∧ k = j ∧ a = mb) := fun j z => hc.2 ⟨z.1, z.2.2⟩
  simp only [gF_pF, h1, h2, if_false, gF_sA]
theorem Chg.ren {o : Nat} {h h1 : th_H} {p x nl : Nat} {l : Int32} (e : Chg o h h1) (hp : p < 12) : Chg o h (gRen h1 (o + 6 + 6 * p) (o + 8 + 6 * p) (o + 10 + 6 * p) x nl l) := by
  unfold gRen
  exact (((((((((e.sA ⟨by omega, by omega, by omega⟩ (Or.inr rfl)).pF ⟨by omega, by omega⟩ rfl).pF ⟨by omega, by omega⟩ rfl).pF ⟨by omega, by omega⟩ rfl).pF ⟨by omega, by omega⟩ rfl).pF ⟨by omega, by omega⟩ rfl).pF ⟨by omega, by omega⟩ rfl).pF ⟨by omega, by omega⟩ rfl).pF ⟨by omega, by omega⟩ rfl).pF ⟨by omega, by omega⟩ rfl
theorem TE.ren {h h1 : th_H} {p ra mb x nl : Nat} {l : Int32} (e : TE h h1) : TE h (gRen h1 p ra mb x nl l) := by
  unfold gRen
  exact ((((((((e.sA.pF (by decide)).pF (by decide)).pF (by decide)).pF (by decide)).pF (by decide)).pF (by decide)).pF (by decide)).pF (by decide)).pF (by decide)
theorem Same.ren {o q : Nat} {h h1 : th_H} {p x nl : Nat} {l : Int32} (e : Same o q h h1) (hq : q ≠ p) : Same o q h (gRen h1 (o + 6 + 6 * p) (o + 8 + 6 * p) (o + 10 + 6 * p) x nl l) := by
  refine ⟨fun k => ?_, fun k => ?_, fun i => ?_, fun i => ?_, fun i => ?_⟩
  · rw [gF_ren ⟨by omega, by omega⟩]; exact e.1 k
  · rw [gF_ren ⟨by omega, by omega⟩]; exact e.2.1 k
  · rw [gA_ren, gA_sA, if_neg (by omega)]; exact e.2.2.1 i
  · rw [gA_ren, gA_sA, if_neg (by omega)]; exact e.2.2.2.1 i
  · rw [gA_ren, gA_sA, if_neg (by omega)]; exact e.2.2.2.2 i
theorem cPr_new {o p : Nat} {h : th_H} {t : Tm} {x nl l : Nat} (qx : TR h t x) (qn : TR h nilT nl) : cPr o p (newP l t) (gRen h (o + 6 + 6 * p) (o + 8 + 6 * p) (o + 10 + 6 * p) x nl (nI l)) := by
  have te : TE h (gRen h (o + 6 + 6 * p) (o + 8 + 6 * p) (o + 10 + 6 * p) x nl (nI l)) := (TE.rf h).ren
  refine ⟨fun k hk => ?_, ?_, ⟨?_, fun i y hy => by simp [newP, pRe] at hy⟩, ⟨?_, fun i y hy => by simp [newP, pMs] at hy⟩, ?_, ?_, ?_, ?_, ⟨fun _ => ?_, fun y hy => by simp [newP, pRs] at hy⟩, ?_⟩
  · rw [gA_ren, gA_sA, if_pos ⟨rfl, rfl⟩]
    by_cases h0 : k = 0
    · rw [if_pos h0]
      refine ⟨x, rfl, ?_⟩
      show TR _ (va_up (fun _ => nilT) 0 t k) x
      rw [h0, va_up_self]; exact TR.mono te _ _ qx
    · rw [if_neg h0, if_pos hk]
      refine ⟨nl, rfl, ?_⟩
      show TR _ (va_up (fun _ => nilT) 0 t k) nl
      rw [va_up_ne _ _ h0]; exact TR.mono te _ _ qn
  all_goals (unfold gRen; simp [gF_pF, newP] <;> rfl)
theorem vPs.start {N : Nat} {σ : Ho} (v : vPs N σ) {l : Nat} {t : Tm} (hc : oCt σ < 12) (hl : l ≤ 48) (ht : vTm t) : vPs N (startM σ l t) := by
  have hnq : oCt σ ∉ oQu σ := fun z => by have := (v.2.1.2.1 _ z).1; omega
  refine ⟨hc, ⟨?_, fun x hx => ?_, fun x hx hx1 => ?_⟩, fun x hx => ?_⟩
  · show (oQu σ ++ [oCt σ]).Nodup
    rw [List.nodup_append]
    exact ⟨v.2.1.1, by simp, fun a ha b hb => by rw [List.mem_singleton.mp hb]; exact fun z => hnq (z ▸ ha)⟩
  · rcases List.mem_append.mp hx with hx | hx
    · have h1 := v.2.1.2.1 x hx
      refine ⟨show x < oCt σ + 1 by omega, ?_⟩
      show pSt (va_up (oPr σ) (oCt σ) _ x) = 1
      rw [va_up_ne _ _ (by omega)]; exact h1.2
    · rw [List.mem_singleton.mp hx]
      refine ⟨Nat.lt_succ_self _, ?_⟩
      show pSt (va_up (oPr σ) (oCt σ) _ (oCt σ)) = 1
      rw [va_up_self]; rfl
  · show x ∈ oQu σ ++ [oCt σ]
    have hx : x < oCt σ + 1 := hx
    have hx1 : pSt (va_up (oPr σ) (oCt σ) (newP l t) x) = 1 := hx1
    by_cases h3 : x = oCt σ
    · rw [h3]; exact List.mem_append_right _ (List.mem_singleton.mpr rfl)
    · rw [va_up_ne _ _ h3] at hx1
      exact List.mem_append_left _ (v.2.1.2.2 x (by omega) hx1)
  · have hx : x < oCt σ + 1 := hx
    show vPr N (va_up (oPr σ) (oCt σ) (newP l t) x)
    by_cases h3 : x = oCt σ
    · rw [h3, va_up_self]
      have vn : vTm nilT := ⟨Or.inr rfl, by decide⟩
      refine ⟨fun k => ?_, hl, ⟨Nat.zero_le _, (fun x hx => by cases hx)⟩, ⟨Nat.zero_le _, (fun x hx => by cases hx)⟩, Nat.zero_le _, Or.inl rfl, (fun t ht => by cases ht), ⟨fun z => absurd (show (1 : Nat) = 3 from z) (by decide), fun ⟨u, hu⟩ => by cases hu⟩⟩
      show vTm (va_up (fun _ => nilT) 0 t k)
      by_cases h0 : k = 0
      · rw [h0, va_up_self]; exact ht
      · rw [va_up_ne _ _ h0]; exact vn
    · rw [va_up_ne _ _ h3]; exact v.2.2 x (by omega)
theorem c_S_start_no {E : th_E} {h : th_H} {o : Nat} {σ : Ho} (z : CR o σ h) (hc : oCt σ ≤ 12) {l x : Nat} (hf : 12 ≤ oCt σ) : Xc E m_S_start 2 0 0 [.ref (o + 4), .int (nI l), .ref x] h (Ex (some .null) h) := by
  refine Xc.of (by decide) (by simp [Value.category]) (Nat.le_of_ble_eq_true rfl) ?_
  show Xw E m_S_start 2 0 0 0 [some (.ref (o + 4)), some (.int (nI l)), some (.ref x), none] [] h _
  refine x_aload_n d_S_start_0 rfl rfl ?_
  refine x_getf (v := .int (nI (oCt σ))) d_S_start_1 lf_S_40 z.1.1.kS z.2.2.2.2.1 ?_
  refine x_bipush (v := 12) d_S_start_4 (by decide) ?_
  refine x_icmp_lt (tgt := 11) d_S_start_6 rfl (fun w_ => absurd w_ (nI_nlt (b := 12) hf (by omega))) (fun q6 => ?_)
  refine x_null d_S_start_9 ?_
  exact x_aret d_S_start_10 rfl (Or.inl ⟨_, rfl⟩) (Or.inl rfl) ⟨rfl, rfl⟩
theorem c_S_start {E : th_E} {h : th_H} {o : Nat} {σ : Ho} (z : CR o σ h) {l x : Nat} {t : Tm} (hf : oCt σ < 12) (hql : (oQu σ).length < 12) (hx : TR h t x) : Xc E m_S_start 2 0 0 [.ref (o + 4), .int (nI l), .ref x] h (Mv o h (some (.ref (o + 6 + 6 * oCt σ))) (startM σ l t)) := by
  refine Xc.of (by decide) (by simp [Value.category]) (Nat.le_of_ble_eq_true rfl) ?_
  show Xw E m_S_start 2 0 0 0 [some (.ref (o + 4)), some (.int (nI l)), some (.ref x), none] [] h _
  refine Xw.wf (fun wf => ?_)
  have chg1 : Chg o h (gpF h 4 4 (o + 4) (.int (nI (oCt σ + 1)))) := (Chg.rf o h).pF ⟨by omega, by omega⟩ rfl
  have chg2 : Chg o h (gRen (gpF h 4 4 (o + 4) (.int (nI (oCt σ + 1)))) (o + 6 + 6 * oCt σ) (o + 8 + 6 * oCt σ) (o + 10 + 6 * oCt σ) x (o + 80) (nI l)) := chg1.ren hf
  have c2 : CR o (sCt (sPr σ (oCt σ) (newP l t)) (oCt σ + 1)) (gRen (gpF h 4 4 (o + 4) (.int (nI (oCt σ + 1)))) (o + 6 + 6 * oCt σ) (o + 8 + 6 * oCt σ) (o + 10 + 6 * oCt σ) x (o + 80) (nI l)) := by
    refine CR.to z wf chg2 (by rw [gF_ren ⟨by omega, by omega⟩]; simp [gF_pF, z.2.1.1]) (by rw [gF_ren ⟨by omega, by omega⟩]; simp [gF_pF, z.2.1.2]) ⟨by rw [gF_ren ⟨by omega, by omega⟩]; simp [gF_pF, z.2.2.1.1], fun i q hq => ?_⟩ ⟨by rw [gF_ren ⟨by omega, by omega⟩]; simp [gF_pF, z.2.2.2.1.1], fun i y hy => ?_⟩ (by rw [gF_ren ⟨by omega, by omega⟩, gF_pF, if_pos ⟨rfl, rfl, rfl⟩]) (fun q hq => ?_)
    · simp only [gA_ren, gA_sA, gA_pF]
      rw [if_neg (by omega), if_neg (by omega), if_neg (by omega), if_neg (by omega)]; exact z.2.2.1.2 i q hq
    · rw [gA_ren, gA_sA, if_neg (by omega), gA_pF]; exact z.2.2.2.1.2 i y hy
    · show cPr o q (va_up (oPr σ) (oCt σ) (newP l t) q) _
      have hq : q < oCt σ + 1 := hq
      by_cases e : q = oCt σ
      · rw [e, va_up_self]; exact cPr_new (TR.mono (TE.pF (TE.rf h) (by decide)) _ _ hx) (TR.mono (TE.pF (TE.rf h) (by decide)) _ _ z.1.1.nil)
      · rw [va_up_ne _ _ e]; exact (z.2.2.2.2.2 q (by omega)).same (chg2.te wf) (((Same.rf o q h).pF ⟨by omega, by omega⟩).ren e)
  have chg3 : Chg o h (gpF (gpA (gRen (gpF h 4 4 (o + 4) (.int (nI (oCt σ + 1)))) (o + 6 + 6 * oCt σ) (o + 8 + 6 * oCt σ) (o + 10 + 6 * oCt σ) x (o + 80) (nI l)) 1 (o + 79) (oQu σ).length (.int (nI (oCt σ)))) 3 1 (o + 78) (.int (nI ((oQu σ).length + 1)))) := (chg2.pA ⟨by omega, by omega, by omega⟩ (Or.inl rfl)).pF ⟨by omega, by omega⟩ rfl
  have c3 : CR o (startM σ l t) (gpF (gpA (gRen (gpF h 4 4 (o + 4) (.int (nI (oCt σ + 1)))) (o + 6 + 6 * oCt σ) (o + 8 + 6 * oCt σ) (o + 10 + 6 * oCt σ) x (o + 80) (nI l)) 1 (o + 79) (oQu σ).length (.int (nI (oCt σ)))) 3 1 (o + 78) (.int (nI ((oQu σ).length + 1)))) := c2.sQu wf (((Chg.rf o _).pA ⟨by omega, by omega, by omega⟩ (Or.inl rfl)).pF ⟨by omega, by omega⟩ rfl) (((Keep.rf o _).pA (by omega)).pF (by omega)) (cQu_add c2.2.2.2.1) (fun y hy => ((Same.rf o y _).pA ⟨by omega, by have : y < oCt σ + 1 := hy; omega⟩).pF ⟨by omega, by omega⟩)
  refine x_aload_n d_S_start_0 rfl rfl ?_
  refine x_getf (v := .int (nI (oCt σ))) d_S_start_1 lf_S_40 z.1.1.kS z.2.2.2.2.1 ?_
  refine x_bipush (v := 12) d_S_start_4 (by decide) ?_
  refine x_icmp_lt (tgt := 11) d_S_start_6 rfl (fun q6 => ?_) (fun w_ => absurd (nI_lt (b := 12) hf (by decide)) w_)
  refine x_aload_n d_S_start_11 rfl rfl ?_
  refine x_getf (v := .ref (o + 5)) d_S_start_12 lf_S_11 z.1.1.kS z.1.1.S0 ?_
  refine x_aload_n d_S_start_15 rfl rfl ?_
  refine x_getf (v := .int (nI (oCt σ))) d_S_start_16 lf_S_40 z.1.1.kS z.2.2.2.2.1 ?_
  refine x_aald (v := .ref (o + 6 + 6 * oCt σ)) d_S_start_19 z.1.1.kT rfl (vp_in_nI hf (by decide)) (by rw [nI_cl (by omega)]; exact z.1.1.tab _ hf) ?_
  refine x_astore_n d_S_start_20 rfl (by decide) (L' := [some (.ref (o + 4)), some (.int (nI l)), some (.ref x), some (.ref (o + 6 + 6 * oCt σ))]) rfl ?_
  refine x_aload_n d_S_start_21 rfl rfl ?_
  refine x_dup d_S_start_22 rfl ?_
  refine x_getf (v := .int (nI (oCt σ))) d_S_start_23 lf_S_40 z.1.1.kS z.2.2.2.2.1 ?_
  refine x_iconst (v := 1) d_S_start_26 (by decide) ?_
  refine x_iadd (v := (nI (oCt σ + 1))) d_S_start_27 (nI_1 _) ?_
  refine x_putf d_S_start_28 lp_S_40 z.1.1.kS ⟨_, rfl⟩ ?_
  refine x_aload_n d_S_start_31 rfl rfl ?_
  refine x_iload_n d_S_start_32 rfl rfl ?_
  refine x_aload_n d_S_start_33 rfl rfl ?_
  refine x_aload_n d_S_start_34 rfl rfl ?_
  refine x_getf (v := .ref (o + 80)) d_S_start_35 lf_S_32 z.1.1.kS (by simp [gF_pF, gF_pA, gF_nO, gF_nA, gF_sA, z.1.1.S2]) ?_
  refine x_invv d_S_start_38 lm_S_57 (as := [.int (nI l), .ref x, .ref (o + 80)]) (S := []) (c_P_renew (h := (gpF h 4 4 (o + 4) (.int (nI (oCt σ + 1))))) (ra := o + 8 + 6 * oCt σ) (mb := o + 10 + 6 * oCt σ) (z.1.2 _ hf).k (z.1.2 _ hf).kr (z.1.2 _ hf).kmb hx.k z.1.1.nil.k (by simp [gF_pF, (z.1.2 _ hf).rg]) (by simp [gF_pF, (z.1.2 _ hf).mb]) (nI l)) (z.1.2 _ hf).k rfl rfl rfl (Nat.le_of_ble_eq_true rfl) (Nat.le_refl 2) (Nat.le_refl 0) (Nat.le_refl 0) ?_
  rintro _ _ ⟨rfl, rfl⟩
  refine x_aload_n d_S_start_41 rfl rfl ?_
  refine x_getf (v := .ref (o + 78)) d_S_start_42 lf_S_23 z.1.1.kS (by rw [gF_ren ⟨by omega, by omega⟩]; simp [gF_pF, z.1.1.S1]) ?_
  refine x_aload_n d_S_start_45 rfl rfl ?_
  refine x_getf (v := .int (nI (oCt σ))) d_S_start_46 lf_S_61 (z.1.2 _ hf).k (by simp [gRen, gF_pF, gF_sA, (z.1.2 _ hf).n]) ?_
  refine x_invv d_S_start_49 lm_S_62 (as := [.int (nI (oCt σ))]) (S := []) (c_L_append (h := (gRen (gpF h 4 4 (o + 4) (.int (nI (oCt σ + 1)))) (o + 6 + 6 * oCt σ) (o + 8 + 6 * oCt σ) (o + 10 + 6 * oCt σ) x (o + 80) (nI l))) (ln := o + 78) (na := o + 79) (n := (oQu σ).length) (q := fun _ => 0) z.1.1.kL z.1.1.kLa (by rw [gF_ren ⟨by omega, by omega⟩]; simp [gF_pF, z.1.1.L0]) (by rw [gF_ren ⟨by omega, by omega⟩]; simp [gF_pF, z.2.2.2.1.1]) hql (nI (oCt σ))) z.1.1.kL rfl rfl rfl (Nat.le_of_ble_eq_true rfl) (by decide) (Nat.le_refl 0) (Nat.le_refl 0) ?_
  rintro _ _ ⟨rfl, rfl⟩
  refine x_aload_n d_S_start_52 rfl rfl ?_
  exact x_aret d_S_start_53 rfl (Or.inl ⟨_, rfl⟩) (Or.inr ⟨_, rfl⟩) ⟨rfl, c3, chg3⟩
theorem c_S_dissolve {E : th_E} {h : th_H} {o : Nat} {σ : Ho} (z : CR o σ h) : Xc E m_S_dissolve 1 0 0 [.ref (o + 4)] h (Mv o h none (dissolveM σ)) := by
  refine Xc.of (by decide) (by simp [Value.category]) (Nat.le_of_ble_eq_true rfl) ?_
  show Xw E m_S_dissolve 1 0 0 0 [some (.ref (o + 4))] [] h _
  refine Xw.wf (fun wf => ?_)
  have chg : Chg o h (gpF (gpF h 4 4 (o + 4) (.int (nI 0))) 3 1 (o + 78) (.int 0)) := ((Chg.rf o h).pF ⟨by omega, by omega⟩ rfl).pF ⟨by omega, by omega⟩ rfl
  have c2 : CR o (dissolveM σ) (gpF (gpF h 4 4 (o + 4) (.int (nI 0))) 3 1 (o + 78) (.int 0)) := CR.to z wf chg (by simp [gF_pF, z.2.1.1, dissolveM]) (by simp [gF_pF, z.2.1.2, dissolveM]) ⟨by simp [gF_pF, z.2.2.1.1, dissolveM], (fun i q hq => z.2.2.1.2 i q hq)⟩ ⟨by rw [gF_pF, if_pos ⟨rfl, rfl, rfl⟩]; rfl, (fun i y hy => by cases hy)⟩ (by rw [gF_pF, if_neg (by simp), gF_pF, if_pos ⟨rfl, rfl, rfl⟩]; rfl) (fun q hq => absurd hq (Nat.not_lt_zero _))
  refine x_aload_n d_S_dissolve_0 rfl rfl ?_
  refine x_iconst (v := (nI 0)) d_S_dissolve_1 (by decide) ?_
  refine x_putf d_S_dissolve_2 lp_S_40 z.1.1.kS ⟨_, rfl⟩ ?_
  refine x_aload_n d_S_dissolve_5 rfl rfl ?_
  refine x_getf (v := .ref (o + 78)) d_S_dissolve_6 lf_S_23 z.1.1.kS (by simp [gF_pF, gF_pA, gF_nO, gF_nA, gF_sA, z.1.1.S1]) ?_
  refine x_invv d_S_dissolve_9 lm_S_44 (as := []) (S := []) (c_L_empty (h := (gpF h 4 4 (o + 4) (.int (nI 0)))) (ln := o + 78) (na := o + 79) (n := (oQu σ).length) (q := fun _ => 0) z.1.1.kL z.1.1.kLa (by simp [gF_pF, z.1.1.L0]) (by simp [gF_pF, z.2.2.2.1.1])) z.1.1.kL rfl rfl rfl (Nat.le_of_ble_eq_true rfl) (Nat.le_refl 1) (Nat.le_refl 0) (Nat.le_refl 0) ?_
  rintro _ _ ⟨rfl, rfl⟩
  exact x_ret ⟨rfl, c2, chg⟩ rfl d_S_dissolve_12
end
section
/-! Machine's helpers (printed by wip/gen/mod_mach.py). -/
abbrev setP (σ : Ho) (p : Nat) (P : Pr) : Ho := sPr σ p P
theorem CR.reg {h : th_H} {o : Nat} {σ : Ho} (z : CR o σ h) (wf : WFh h) (hc : oCt σ ≤ 12) {p : Nat} (hp : p < oCt σ) {r a : Nat} {t : Tm} (q : TR h t a) : CR o (setP σ p (sRg (oPr σ p) r t)) (gpA h 2 (o + 8 + 6 * p) r (.ref a)) ∧ Chg o h (gpA h 2 (o + 8 + 6 * p) r (.ref a)) := ⟨z.sPr wf ((Chg.rf o h).pA ⟨by omega, by omega, by omega⟩ (Or.inr rfl)) ((Keep.rf o h).pA (by omega)) ((KeepQ.rf o h).pA (by omega)) (cPr_reg q (z.2.2.2.2.2 p hp)) (fun y _ hy => (Same.rf o y h).pA ⟨by omega, by omega⟩), (Chg.rf o h).pA ⟨by omega, by omega, by omega⟩ (Or.inr rfl)⟩
theorem CR.pl {h : th_H} {o : Nat} {σ : Ho} (z : CR o σ h) (wf : WFh h) (hc : oCt σ ≤ 12) {p : Nat} (hp : p < oCt σ) (l : Nat) : CR o (setP σ p (sPl (oPr σ p) l)) (gpF h 2 6 (o + 6 + 6 * p) (.int (nI l))) ∧ Chg o h (gpF h 2 6 (o + 6 + 6 * p) (.int (nI l))) := ⟨z.sPr wf ((Chg.rf o h).pF ⟨by omega, by omega⟩ rfl) ((Keep.rf o h).pF (by omega)) ((KeepQ.rf o h).pF (by decide)) (cPr_pl l (z.2.2.2.2.2 p hp)) (fun y _ hy => (Same.rf o y h).pF ⟨by omega, by omega⟩), (Chg.rf o h).pF ⟨by omega, by omega⟩ rfl⟩
theorem CR.trp {h : th_H} {o : Nat} {σ : Ho} (z : CR o σ h) (wf : WFh h) (hc : oCt σ ≤ 12) {p : Nat} (hp : p < oCt σ) (b : Bool) : CR o (setP σ p (sTr (oPr σ p) b)) (gpF h 2 8 (o + 6 + 6 * p) (.int (if b then 1 else 0))) ∧ Chg o h (gpF h 2 8 (o + 6 + 6 * p) (.int (if b then 1 else 0))) := ⟨z.sPr wf ((Chg.rf o h).pF ⟨by omega, by omega⟩ rfl) ((Keep.rf o h).pF (by omega)) ((KeepQ.rf o h).pF (by decide)) (cPr_tr b (z.2.2.2.2.2 p hp)) (fun y _ hy => (Same.rf o y h).pF ⟨by omega, by omega⟩), (Chg.rf o h).pF ⟨by omega, by omega⟩ rfl⟩
theorem CR.dn {h : th_H} {o : Nat} {σ : Ho} (z : CR o σ h) (wf : WFh h) (hc : oCt σ ≤ 12) {p : Nat} (hp : p < oCt σ) (x : Int32) : CR o (setP σ p (sDn (oPr σ p) x)) (gpF h 2 11 (o + 6 + 6 * p) (.int x)) ∧ Chg o h (gpF h 2 11 (o + 6 + 6 * p) (.int x)) := ⟨z.sPr wf ((Chg.rf o h).pF ⟨by omega, by omega⟩ rfl) ((Keep.rf o h).pF (by omega)) ((KeepQ.rf o h).pF (by decide)) (cPr_dn x (z.2.2.2.2.2 p hp)) (fun y _ hy => (Same.rf o y h).pF ⟨by omega, by omega⟩), (Chg.rf o h).pF ⟨by omega, by omega⟩ rfl⟩
theorem c_M_areInts {E : th_E} {h : th_H} {t u : Tm} {x y : Nat} (hx : TR h t x) (hy : TR h u y) {r : Int32} (hr : (tS t = 0 ∧ tS u = 0 → r = 1) ∧ (¬ (tS t = 0 ∧ tS u = 0) → r = 0)) : Xc E m_M_areInts 0 0 0 [.ref x, .ref y] h (Ex (some (.int r)) h) := by
  refine Xc.of (by decide) (by simp [Value.category]) (Nat.le_of_ble_eq_true rfl) ?_
  show Xw E m_M_areInts 0 0 0 0 [some (.ref x), some (.ref y)] [] h _
  refine x_aload_n d_M_areInts_0 rfl rfl ?_
  refine x_getf (v := .int (tS t)) d_M_areInts_1 lf_M_97 hx.k hx.s ?_
  refine x_if_ne (tgt := 18) d_M_areInts_4 rfl (fun q4 => ?_) (fun q4 => ?_)
  · obtain rfl : r = 0 := hr.2 (fun e => q4 e.1)
    refine x_iconst (v := 0) d_M_areInts_18 (by decide) ?_
    exact x_iret d_M_areInts_19 rfl rfl ⟨rfl, rfl⟩
  · refine x_aload_n d_M_areInts_7 rfl rfl ?_
    refine x_getf (v := .int (tS u)) d_M_areInts_8 lf_M_97 hy.k hy.s ?_
    refine x_if_ne (tgt := 18) d_M_areInts_11 rfl (fun q11 => ?_) (fun q11 => ?_)
    · obtain rfl : r = 0 := hr.2 (fun e => q11 e.2)
      refine x_iconst (v := 0) d_M_areInts_18 (by decide) ?_
      exact x_iret d_M_areInts_19 rfl rfl ⟨rfl, rfl⟩
    · obtain rfl : r = 1 := hr.1 ⟨q4, q11⟩
      refine x_iconst (v := 1) d_M_areInts_14 (by decide) ?_
      refine x_goto (tgt := 19) d_M_areInts_15 rfl ?_
      exact x_iret d_M_areInts_19 rfl rfl ⟨rfl, rfl⟩
theorem c_M_goUnless1 {E : th_E} {h : th_H} {p : Nat} (l : Int32) : Xc E m_M_goUnless 1 0 0 [.ref p, .int 1, .int l] h (Ex (some (.int 1)) h) := by
  refine Xc.of (by decide) (by simp [Value.category]) (Nat.le_of_ble_eq_true rfl) ?_
  show Xw E m_M_goUnless 1 0 0 0 [some (.ref p), some (.int 1), some (.int l)] [] h _
  refine x_iload_n d_M_goUnless_0 rfl rfl ?_
  refine x_if_ne (tgt := 12) d_M_goUnless_1 rfl (fun q1 => ?_) (fun w_ => absurd w_ (by decide))
  refine x_iconst (v := 1) d_M_goUnless_12 (by decide) ?_
  refine x_goto (tgt := 17) d_M_goUnless_13 rfl ?_
  exact x_iret d_M_goUnless_17 rfl rfl ⟨rfl, rfl⟩
theorem c_M_goUnless0 {E : th_E} {h : th_H} {p : Nat} (k1 : gk h p = some (.inl 2)) (l : Int32) : Xc E m_M_goUnless 1 0 0 [.ref p, .int 0, .int l] h (Ex (some (.int 1)) (gpF h 2 6 p (.int l))) := by
  refine Xc.of (by decide) (by simp [Value.category]) (Nat.le_of_ble_eq_true rfl) ?_
  show Xw E m_M_goUnless 1 0 0 0 [some (.ref p), some (.int 0), some (.int l)] [] h _
  refine x_iload_n d_M_goUnless_0 rfl rfl ?_
  refine x_if_ne (tgt := 12) d_M_goUnless_1 rfl (fun w_ => absurd rfl w_) (fun q1 => ?_)
  refine x_aload_n d_M_goUnless_4 rfl rfl ?_
  refine x_iload_n d_M_goUnless_5 rfl rfl ?_
  refine x_invv d_M_goUnless_6 lm_M_100 (as := [.int l]) (S := []) (c_P_goTo k1 l) k1 rfl rfl rfl (Nat.le_of_ble_eq_true rfl) (Nat.le_refl 1) (Nat.le_refl 0) (Nat.le_refl 0) ?_
  rintro _ _ ⟨rfl, rfl⟩
  refine x_if_eq (tgt := 16) d_M_goUnless_9 rfl (fun w_ => absurd w_ (by decide)) (fun q9 => ?_)
  refine x_iconst (v := 1) d_M_goUnless_12 (by decide) ?_
  refine x_goto (tgt := 17) d_M_goUnless_13 rfl ?_
  exact x_iret d_M_goUnless_17 rfl rfl ⟨rfl, rfl⟩
theorem c_M_goBack_end {E : th_E} {h : th_H} {o : Nat} {σ : Ho} (z : CR o σ h) {N p : Nat} (v : vPs N σ) (hp : p < oCt σ) (he : pRe (oPr σ p) = []) : Xc E m_M_goBack 51 (2 * endC σ p aNormal) (10 * endC σ p aNormal) [.ref (o + 1), .ref (o + 6 + 6 * p)] h (Mv o h (some (.int 1)) (endM σ p aNormal)) := by
  have hp12 : p < 12 := by have := v.1; omega
  have hc := v.1
  refine Xc.of (by decide) (by simp [Value.category]) (Nat.le_of_ble_eq_true rfl) ?_
  show Xw E m_M_goBack 51 (2 * endC σ p aNormal) (10 * endC σ p aNormal) 0 [some (.ref (o + 1)), some (.ref (o + 6 + 6 * p))] [] h _
  refine x_aload_n d_M_goBack_0 rfl rfl ?_
  refine x_getf (v := .int (nI (pRe (oPr σ p)).length)) d_M_goBack_1 lf_M_157 (z.1.2 p hp12).k (z.2.2.2.2.2 p hp).2.2.1.1 ?_
  refine x_if_gt (tgt := 27) d_M_goBack_4 rfl (fun w_ => absurd w_ (by rw [he]; decide)) (fun q4 => ?_)
  refine x_aload_n d_M_goBack_7 rfl rfl ?_
  refine x_getf (v := .ref (o + 4)) d_M_goBack_8 lf_M_21 z.1.1.kM z.1.1.M1 ?_
  refine x_aload_n d_M_goBack_11 rfl rfl ?_
  refine x_aload_n d_M_goBack_12 rfl rfl ?_
  refine x_getf (v := .ref (o + 4)) d_M_goBack_13 lf_M_21 z.1.1.kM z.1.1.M1 ?_
  refine x_getf (v := .ref (o + 81)) d_M_goBack_16 lf_M_38 z.1.1.kS z.1.1.S3 ?_
  refine x_bipush (v := 14) d_M_goBack_19 (by decide) ?_
  refine x_aald (v := .ref (o + 82 + 14)) d_M_goBack_21 z.1.1.kAt rfl (vp_in_nI (n := 14) (by decide) (by decide)) (by rw [show (14 : Int32).toNatClampNeg = 14 by decide]; exact (z.1.1.at 14 (by decide)).1) ?_
  refine x_invvN d_M_goBack_22 lm_M_42 (as := [.ref (o + 6 + 6 * p), .ref (o + 82 + 14)]) (S := []) (cz' := 0) (cs' := 0) (c_S_end z v hp (r := aNormal) ⟨Or.inl (Or.inr (Or.inl rfl)), by decide⟩ (z.1.1.at 14 (by decide)).2) z.1.1.kS rfl rfl rfl (Nat.le_of_ble_eq_true rfl) (by omega) (by omega) (by omega) ?_
  rintro _ h1 ⟨rfl, z1, chg1⟩
  refine x_iconst (v := 1) d_M_goBack_25 (by decide) ?_
  exact x_iret d_M_goBack_26 rfl rfl ⟨rfl, z1, chg1⟩
theorem c_M_goBack {E : th_E} {h : th_H} {o : Nat} {σ : Ho} (z : CR o σ h) {N p : Nat} (v : vPs N σ) (hp : p < oCt σ) {ys : List Nat} {x : Nat} (he : pRe (oPr σ p) = ys ++ [x]) (hl : ys.length < 6) : Xc E m_M_goBack 51 0 0 [.ref (o + 1), .ref (o + 6 + 6 * p)] h (Mv o h (some (.int 1)) (sPr σ p (sPl (sRe (oPr σ p) ys) x))) := by
  have hp12 : p < 12 := by have := v.1; omega
  have hc := v.1
  refine Xc.of (by decide) (by simp [Value.category]) (Nat.le_of_ble_eq_true rfl) ?_
  show Xw E m_M_goBack 51 0 0 0 [some (.ref (o + 1)), some (.ref (o + 6 + 6 * p))] [] h _
  refine Xw.wf (fun wf => ?_)
  have chg : Chg o h (gpF (gpF h 2 5 (o + 6 + 6 * p) (.int (nI ys.length))) 2 6 (o + 6 + 6 * p) (.int (nI x))) := ((Chg.rf o h).pF ⟨by omega, by omega⟩ rfl).pF ⟨by omega, by omega⟩ rfl
  have fin : CR o (sPr σ p (sPl (sRe (oPr σ p) ys) x)) (gpF (gpF h 2 5 (o + 6 + 6 * p) (.int (nI ys.length))) 2 6 (o + 6 + 6 * p) (.int (nI x))) := z.sPr wf chg (((Keep.rf o h).pF (by omega)).pF (by omega)) (((KeepQ.rf o h).pF (by decide)).pF (by decide)) (cPr_pl x (cPr_pop (l := ys) (fun i y hy => by rw [he, List.getElem?_append_left (List.getElem?_eq_some_iff.mp hy).1]; exact hy) (z.2.2.2.2.2 p hp))) (fun y _ hy => ((Same.rf o y h).pF ⟨by omega, by omega⟩).pF ⟨by omega, by omega⟩)
  refine x_aload_n d_M_goBack_0 rfl rfl ?_
  refine x_getf (v := .int (nI (ys.length + 1))) d_M_goBack_1 lf_M_157 (z.1.2 p hp12).k (by rw [(z.2.2.2.2.2 p hp).2.2.1.1, he, List.length_append]; rfl) ?_
  refine x_if_gt (tgt := 27) d_M_goBack_4 rfl (fun q4 => ?_) (fun w_ => absurd (nI_lt (a := 0) (by omega) (by omega)) w_)
  refine x_aload_n d_M_goBack_27 rfl rfl ?_
  refine x_dup d_M_goBack_28 rfl ?_
  refine x_getf (v := .int (nI (ys.length + 1))) d_M_goBack_29 lf_M_157 (z.1.2 p hp12).k (by rw [(z.2.2.2.2.2 p hp).2.2.1.1, he, List.length_append]; rfl) ?_
  refine x_iconst (v := 1) d_M_goBack_32 (by decide) ?_
  refine x_isub (v := (nI ys.length)) d_M_goBack_33 (nI_pred _) ?_
  refine x_putf d_M_goBack_34 lp_M_157 (z.1.2 p hp12).k ⟨_, rfl⟩ ?_
  refine x_aload_n d_M_goBack_37 rfl rfl ?_
  refine x_aload_n d_M_goBack_38 rfl rfl ?_
  refine x_getf (v := .ref (o + 9 + 6 * p)) d_M_goBack_39 lf_M_160 (z.1.2 p hp12).k (by simp [gF_pF, gF_pA, gF_nO, gF_nA, gF_sA, (z.1.2 p hp12).re]) ?_
  refine x_aload_n d_M_goBack_42 rfl rfl ?_
  refine x_getf (v := .int (nI ys.length)) d_M_goBack_43 lf_M_157 (z.1.2 p hp12).k (by simp [gF_pF]) ?_
  refine x_iald (v := .int (nI x)) d_M_goBack_46 (z.1.2 p hp12).kre rfl (vp_in_nI (by omega) (by decide)) (by rw [nI_cl (by omega), gA_pF]; exact (z.2.2.2.2.2 p hp).2.2.1.2 ys.length x (by rw [he]; simp)) ?_
  refine x_invv d_M_goBack_47 lm_M_100 (as := [.int (nI x)]) (S := []) (c_P_goTo (h := (gpF h 2 5 (o + 6 + 6 * p) (.int (nI ys.length)))) (z.1.2 p hp12).k (nI x)) (z.1.2 p hp12).k rfl rfl rfl (Nat.le_of_ble_eq_true rfl) (by decide) (Nat.le_refl 0) (Nat.le_refl 0) ?_
  rintro _ _ ⟨rfl, rfl⟩
  exact x_iret d_M_goBack_50 rfl rfl ⟨rfl, fin, chg⟩
theorem c_M_send_no {E : th_E} {h : th_H} {o x : Nat} : Xc E m_M_send 2 0 0 [.ref (o + 1), .null, .ref x] h (Ex (some (.int 0)) h) := by
  refine Xc.of (by decide) (by simp [Value.category]) (Nat.le_of_ble_eq_true rfl) ?_
  show Xw E m_M_send 2 0 0 0 [some (.ref (o + 1)), some (.null), some (.ref x)] [] h _
  refine x_aload_nN d_M_send_0 rfl rfl ?_
  refine x_ifnonnullN d_M_send_1 ?_
  refine x_iconst (v := 0) d_M_send_4 (by decide) ?_
  exact x_iret d_M_send_5 rfl rfl ⟨rfl, rfl⟩
theorem c_M_send {E : th_E} {h : th_H} {o : Nat} {σ : Ho} (z : CR o σ h) {N q x : Nat} {t : Tm} (v : vPs N σ) (hq : q < oCt σ) (hx : TR h t x) : Xc E m_M_send 2 0 0 [.ref (o + 1), .ref (o + 6 + 6 * q), .ref x] h (Mv o h (some (.int 1)) (deliverM σ q t)) := by
  refine Xc.of (by decide) (by simp [Value.category]) (Nat.le_of_ble_eq_true rfl) ?_
  show Xw E m_M_send 2 0 0 0 [some (.ref (o + 1)), some (.ref (o + 6 + 6 * q)), some (.ref x)] [] h _
  refine x_aload_n d_M_send_0 rfl rfl ?_
  refine x_ifnonnull (tgt := 6) d_M_send_1 rfl ?_
  refine x_aload_n d_M_send_6 rfl rfl ?_
  refine x_getf (v := .ref (o + 4)) d_M_send_7 lf_M_21 z.1.1.kM z.1.1.M1 ?_
  refine x_aload_n d_M_send_10 rfl rfl ?_
  refine x_aload_n d_M_send_11 rfl rfl ?_
  refine x_invv d_M_send_12 lm_M_163 (as := [.ref (o + 6 + 6 * q), .ref x]) (S := []) (c_S_deliver z v.1 hq (v.2.2 q hq).2.2.2.1.1 (by have := (v.2.2 q hq).2.2.2.2.2.1; omega) (fun e => v.room hq (by omega)) hx) z.1.1.kS rfl rfl rfl (Nat.le_of_ble_eq_true rfl) (Nat.le_refl 2) (Nat.le_refl 0) (Nat.le_refl 0) ?_
  rintro _ h1 ⟨rfl, z1, chg1⟩
  refine x_iconst (v := 1) d_M_send_15 (by decide) ?_
  exact x_iret d_M_send_16 rfl rfl ⟨rfl, z1, chg1⟩
theorem c_M_passOver {E : th_E} {h : th_H} {o : Nat} {σ : Ho} (z : CR o σ h) {N p : Nat} (v : vPs N σ) (hp : p < oCt σ) (l : Nat) : Xc E m_M_passOver 1 0 0 [.ref (o + 6 + 6 * p), .int (nI l)] h (Mv o h (some (.int 1)) (sPr σ p (sPl (sMk (oPr σ p) (pMk (oPr σ p) + 1)) l))) := by
  have hp12 : p < 12 := by have := v.1; omega
  have hc := v.1
  refine Xc.of (by decide) (by simp [Value.category]) (Nat.le_of_ble_eq_true rfl) ?_
  show Xw E m_M_passOver 1 0 0 0 [some (.ref (o + 6 + 6 * p)), some (.int (nI l))] [] h _
  refine Xw.wf (fun wf => ?_)
  have chg : Chg o h (gpF (gpF h 1 2 (o + 10 + 6 * p) (.int (nI (pMk (oPr σ p) + 1)))) 2 6 (o + 6 + 6 * p) (.int (nI l))) := ((Chg.rf o h).pF ⟨by omega, by omega⟩ rfl).pF ⟨by omega, by omega⟩ rfl
  have fin : CR o (sPr σ p (sPl (sMk (oPr σ p) (pMk (oPr σ p) + 1)) l)) (gpF (gpF h 1 2 (o + 10 + 6 * p) (.int (nI (pMk (oPr σ p) + 1)))) 2 6 (o + 6 + 6 * p) (.int (nI l))) := z.sPr wf chg (((Keep.rf o h).pF (by omega)).pF (by omega)) (((KeepQ.rf o h).pF (by decide)).pF (by decide)) (cPr_pl l (cPr_mk _ (z.2.2.2.2.2 p hp))) (fun y _ hy => ((Same.rf o y h).pF ⟨by omega, by omega⟩).pF ⟨by omega, by omega⟩)
  refine x_aload_n d_M_passOver_0 rfl rfl ?_
  refine x_getf (v := .ref (o + 10 + 6 * p)) d_M_passOver_1 lf_M_119 (z.1.2 p hp12).k (z.1.2 p hp12).mb ?_
  refine x_dup d_M_passOver_4 rfl ?_
  refine x_getf (v := .int (nI (pMk (oPr σ p)))) d_M_passOver_5 lf_M_166 (z.1.2 p hp12).kmb (z.2.2.2.2.2 p hp).2.2.2.2.1 ?_
  refine x_iconst (v := 1) d_M_passOver_8 (by decide) ?_
  refine x_iadd (v := (nI (pMk (oPr σ p) + 1))) d_M_passOver_9 (nI_1 _) ?_
  refine x_putf d_M_passOver_10 lp_M_166 (z.1.2 p hp12).kmb ⟨_, rfl⟩ ?_
  refine x_aload_n d_M_passOver_13 rfl rfl ?_
  refine x_iload_n d_M_passOver_14 rfl rfl ?_
  refine x_invv d_M_passOver_15 lm_M_100 (as := [.int (nI l)]) (S := []) (c_P_goTo (h := (gpF h 1 2 (o + 10 + 6 * p) (.int (nI (pMk (oPr σ p) + 1))))) (z.1.2 p hp12).k (nI l)) (z.1.2 p hp12).k rfl rfl rfl (Nat.le_of_ble_eq_true rfl) (Nat.le_refl 1) (Nat.le_refl 0) (Nat.le_refl 0) ?_
  rintro _ _ ⟨rfl, rfl⟩
  exact x_iret d_M_passOver_18 rfl rfl ⟨rfl, fin, chg⟩
theorem c_marked {E : th_E} {h : th_H} {o : Nat} {σ : Ho} (z : CR o σ h) {N p : Nat} (v : vPs N σ) (hN : N < 2 ^ 31) (hp : p < oCt σ) (r : Value) (hr : ((pMs (oPr σ p)).length ≤ pMk (oPr σ p) → r = .null) ∧ ∀ x, (refsOf h 2 (o + 11 + 6 * p) (pMs (oPr σ p)).length)[pMk (oPr σ p)]? = some x → r = .ref x) : Xc E m_B_marked 1 0 0 [.ref (o + 10 + 6 * p)] h (Ex (some r) h) := by
  have hp12 : p < 12 := by have := v.1; omega
  have zp := z.2.2.2.2.2 p hp
  have hms := (v.2.2 p hp).2.2.2.1.1
  have hmk := (v.2.2 p hp).2.2.2.2.1
  have hv : r = .null ∨ ∃ a, r = .ref a := by
    by_cases e : (pMs (oPr σ p)).length ≤ pMk (oPr σ p)
    · exact Or.inl (hr.1 e)
    · obtain ⟨x, hx⟩ := get_some (l := refsOf h 2 (o + 11 + 6 * p) (pMs (oPr σ p)).length) (k := pMk (oPr σ p)) (by rw [refsOf_len]; omega)
      exact Or.inr ⟨x, hr.2 x hx⟩
  refine c_B_marked (k1 := (z.1.2 p hp12).kmb) (k2 := (z.1.2 p hp12).kma) (f0 := (z.1.2 p hp12).ma) (f1 := (by rw [refsOf_len]; exact zp.2.2.2.1.1)) (f2 := zp.2.2.2.2.1) (hn := (by rw [refsOf_len]; exact hms)) (fm := (fun i y hy => (zp.ms hy).1)) r hv ⟨fun e => ?_, fun j x hx e => ?_⟩
  · rw [refsOf_len] at e
    rcases e with e | e
    · exact absurd e (nI_pos (by omega))
    · exact hr.1 ((nI_leI (by omega) (by omega)).mp e)
  · have hj := (refsOf_at hx).1
    have := nI_inj (by omega) (by omega) e
    subst this
    exact hr.2 x hx
theorem c_M_wait_go {E : th_E} {h : th_H} {o : Nat} {σ : Ho} (z : CR o σ h) {N p : Nat} (v : vPs N σ) (hp : p < oCt σ) (hN : N < 2 ^ 31) (l : Nat) (hm : pMk (oPr σ p) < (pMs (oPr σ p)).length) : Xc E m_M_waitOrGoOn 2 0 0 [.ref (o + 1), .ref (o + 6 + 6 * p), .int (nI l)] h (Mv o h (some (.int 1)) (sPr σ p (sPl (oPr σ p) l))) := by
  have hp12 : p < 12 := by have := v.1; omega
  have hc := v.1
  obtain ⟨x, hx⟩ := get_some (l := refsOf h 2 (o + 11 + 6 * p) (pMs (oPr σ p)).length) (k := pMk (oPr σ p)) (by rw [refsOf_len]; exact hm)
  refine Xc.of (by decide) (by simp [Value.category]) (Nat.le_of_ble_eq_true rfl) ?_
  show Xw E m_M_waitOrGoOn 2 0 0 0 [some (.ref (o + 1)), some (.ref (o + 6 + 6 * p)), some (.int (nI l))] [] h _
  refine Xw.wf (fun wf => ?_)
  refine x_aload_n d_M_waitOrGoOn_0 rfl rfl ?_
  refine x_getf (v := .ref (o + 10 + 6 * p)) d_M_waitOrGoOn_1 lf_M_119 (z.1.2 p hp12).k (z.1.2 p hp12).mb ?_
  refine x_invv d_M_waitOrGoOn_4 lm_M_123 (as := []) (S := []) (c_marked z v hN hp (.ref x) ⟨fun e => absurd e (by omega), fun y hy => by rw [hx] at hy; cases hy; rfl⟩) (z.1.2 p hp12).kmb rfl rfl rfl (Nat.le_of_ble_eq_true rfl) (Nat.le_refl 2) (Nat.le_refl 0) (Nat.le_refl 0) ?_
  rintro _ _ ⟨rfl, rfl⟩
  refine x_ifnonnull (tgt := 18) d_M_waitOrGoOn_7 rfl ?_
  refine x_aload_n d_M_waitOrGoOn_18 rfl rfl ?_
  refine x_iload_n d_M_waitOrGoOn_19 rfl rfl ?_
  refine x_invv d_M_waitOrGoOn_20 lm_M_100 (as := [.int (nI l)]) (S := []) (c_P_goTo (z.1.2 p hp12).k (nI l)) (z.1.2 p hp12).k rfl rfl rfl (Nat.le_of_ble_eq_true rfl) (by decide) (Nat.le_refl 0) (Nat.le_refl 0) ?_
  rintro _ _ ⟨rfl, rfl⟩
  exact x_iret d_M_waitOrGoOn_23 rfl rfl ⟨rfl, (z.pl wf hc hp l).1, (z.pl wf hc hp l).2⟩
theorem c_M_wait {E : th_E} {h : th_H} {o : Nat} {σ : Ho} (z : CR o σ h) {N p : Nat} (v : vPs N σ) (hp : p < oCt σ) (hN : N < 2 ^ 31) (l : Nat) (hm : (pMs (oPr σ p)).length ≤ pMk (oPr σ p)) : Xc E m_M_waitOrGoOn 2 0 0 [.ref (o + 1), .ref (o + 6 + 6 * p), .int (nI l)] h (Mv o h (some (.int 1)) (sPr (suspendM σ p) p (sPl (oPr (suspendM σ p) p) l))) := by
  have hp12 : p < 12 := by have := v.1; omega
  have hc := v.1
  refine Xc.of (by decide) (by simp [Value.category]) (Nat.le_of_ble_eq_true rfl) ?_
  show Xw E m_M_waitOrGoOn 2 0 0 0 [some (.ref (o + 1)), some (.ref (o + 6 + 6 * p)), some (.int (nI l))] [] h _
  refine Xw.wf (fun wf => ?_)
  refine x_aload_n d_M_waitOrGoOn_0 rfl rfl ?_
  refine x_getf (v := .ref (o + 10 + 6 * p)) d_M_waitOrGoOn_1 lf_M_119 (z.1.2 p hp12).k (z.1.2 p hp12).mb ?_
  refine x_invv d_M_waitOrGoOn_4 lm_M_123 (as := []) (S := []) (c_marked z v hN hp .null ⟨fun _ => rfl, fun y hy => absurd (refsOf_at hy).1 (by omega)⟩) (z.1.2 p hp12).kmb rfl rfl rfl (Nat.le_of_ble_eq_true rfl) (Nat.le_refl 2) (Nat.le_refl 0) (Nat.le_refl 0) ?_
  rintro _ _ ⟨rfl, rfl⟩
  refine x_ifnonnullN d_M_waitOrGoOn_7 ?_
  refine x_aload_n d_M_waitOrGoOn_10 rfl rfl ?_
  refine x_getf (v := .ref (o + 4)) d_M_waitOrGoOn_11 lf_M_21 z.1.1.kM z.1.1.M1 ?_
  refine x_aload_n d_M_waitOrGoOn_14 rfl rfl ?_
  refine x_invv d_M_waitOrGoOn_15 lm_M_169 (as := [.ref (o + 6 + 6 * p)]) (S := []) (c_S_suspend z hc hp v.len (fun y hy => by have := (v.2.1.2.1 y hy).1; omega)) z.1.1.kS rfl rfl rfl (Nat.le_of_ble_eq_true rfl) (Nat.le_refl 2) (Nat.le_refl 0) (Nat.le_refl 0) ?_
  rintro _ h1 ⟨rfl, z1, chg1⟩
  refine Xw.wf (fun wf1 => ?_)
  refine x_aload_n d_M_waitOrGoOn_18 rfl rfl ?_
  refine x_iload_n d_M_waitOrGoOn_19 rfl rfl ?_
  refine x_invv d_M_waitOrGoOn_20 lm_M_100 (as := [.int (nI l)]) (S := []) (c_P_goTo (z1.1.2 p hp12).k (nI l)) (z1.1.2 p hp12).k rfl rfl rfl (Nat.le_of_ble_eq_true rfl) (by decide) (Nat.le_refl 0) (Nat.le_refl 0) ?_
  rintro _ _ ⟨rfl, rfl⟩
  exact x_iret d_M_waitOrGoOn_23 rfl rfl ⟨rfl, (z1.pl wf1 hc hp l).1, chg1.tr (z1.pl wf1 hc hp l).2⟩
theorem c_M_trap1 {E : th_E} {h : th_H} {o : Nat} {σ : Ho} (z : CR o σ h) {N p : Nat} (v : vPs N σ) (hp : p < oCt σ) : Xc E m_M_trap 0 0 0 [.ref (o + 6 + 6 * p), .int 1] h (Mv o h (some (.int 1)) (sPr σ p (sTr (oPr σ p) true))) := by
  have hp12 : p < 12 := by have := v.1; omega
  have hc := v.1
  refine Xc.of (by decide) (by simp [Value.category]) (Nat.le_of_ble_eq_true rfl) ?_
  show Xw E m_M_trap 0 0 0 0 [some (.ref (o + 6 + 6 * p)), some (.int 1)] [] h _
  refine Xw.wf (fun wf => ?_)
  refine x_aload_n d_M_trap_0 rfl rfl ?_
  refine x_iload_n d_M_trap_1 rfl rfl ?_
  refine x_putf d_M_trap_2 lp_M_188 (z.1.2 p hp12).k (Or.inr rfl) ?_
  refine x_iconst (v := 1) d_M_trap_5 (by decide) ?_
  exact x_iret d_M_trap_6 rfl rfl ⟨rfl, (z.trp wf hc hp true).1, (z.trp wf hc hp true).2⟩
theorem c_M_trap0 {E : th_E} {h : th_H} {o : Nat} {σ : Ho} (z : CR o σ h) {N p : Nat} (v : vPs N σ) (hp : p < oCt σ) : Xc E m_M_trap 0 0 0 [.ref (o + 6 + 6 * p), .int 0] h (Mv o h (some (.int 1)) (sPr σ p (sTr (oPr σ p) false))) := by
  have hp12 : p < 12 := by have := v.1; omega
  have hc := v.1
  refine Xc.of (by decide) (by simp [Value.category]) (Nat.le_of_ble_eq_true rfl) ?_
  show Xw E m_M_trap 0 0 0 0 [some (.ref (o + 6 + 6 * p)), some (.int 0)] [] h _
  refine Xw.wf (fun wf => ?_)
  refine x_aload_n d_M_trap_0 rfl rfl ?_
  refine x_iload_n d_M_trap_1 rfl rfl ?_
  refine x_putf d_M_trap_2 lp_M_188 (z.1.2 p hp12).k (Or.inl rfl) ?_
  refine x_iconst (v := 1) d_M_trap_5 (by decide) ?_
  exact x_iret d_M_trap_6 rfl rfl ⟨rfl, (z.trp wf hc hp false).1, (z.trp wf hc hp false).2⟩
theorem c_M_finish {E : th_E} {h : th_H} {o : Nat} {σ : Ho} (z : CR o σ h) {N p : Nat} (v : vPs N σ) (hp : p < oCt σ) {r : Tm} {x : Nat} (hr : vTm r) (hx : TR h r x) : Xc E m_M_finish 51 (2 * endC σ p r) (10 * endC σ p r) [.ref (o + 1), .ref (o + 6 + 6 * p), .ref x] h (Mv o h (some (.int 1)) (endM σ p r)) := by
  have hp12 : p < 12 := by have := v.1; omega
  have hc := v.1
  refine Xc.of (by decide) (by simp [Value.category]) (Nat.le_of_ble_eq_true rfl) ?_
  show Xw E m_M_finish 51 (2 * endC σ p r) (10 * endC σ p r) 0 [some (.ref (o + 1)), some (.ref (o + 6 + 6 * p)), some (.ref x)] [] h _
  refine x_aload_n d_M_finish_0 rfl rfl ?_
  refine x_getf (v := .ref (o + 4)) d_M_finish_1 lf_M_21 z.1.1.kM z.1.1.M1 ?_
  refine x_aload_n d_M_finish_4 rfl rfl ?_
  refine x_aload_n d_M_finish_5 rfl rfl ?_
  refine x_invvN d_M_finish_6 lm_M_42 (as := [.ref (o + 6 + 6 * p), .ref x]) (S := []) (cz' := 0) (cs' := 0) (c_S_end z v hp hr hx) z.1.1.kS rfl rfl rfl (Nat.le_of_ble_eq_true rfl) (by omega) (by omega) (by omega) ?_
  rintro _ h1 ⟨rfl, z1, chg1⟩
  refine x_iconst (v := 1) d_M_finish_9 (by decide) ?_
  exact x_iret d_M_finish_10 rfl rfl ⟨rfl, z1, chg1⟩
theorem c_M_stop_no {E : th_E} {h : th_H} {o p : Nat} : Xc E m_M_stop 52 0 0 [.ref (o + 1), .ref (o + 6 + 6 * p), .null] h (Ex (some (.int 0)) h) := by
  refine Xc.of (by decide) (by simp [Value.category]) (Nat.le_of_ble_eq_true rfl) ?_
  show Xw E m_M_stop 52 0 0 0 [some (.ref (o + 1)), some (.ref (o + 6 + 6 * p)), some (.null)] [] h _
  refine x_aload_nN d_M_stop_0 rfl rfl ?_
  refine x_ifnonnullN d_M_stop_1 ?_
  refine x_iconst (v := 0) d_M_stop_4 (by decide) ?_
  exact x_iret d_M_stop_5 rfl rfl ⟨rfl, rfl⟩
theorem c_M_stop {E : th_E} {h : th_H} {o : Nat} {σ : Ho} (z : CR o σ h) {N p : Nat} (v : vPs N σ) (hp : p < oCt σ) {q : Nat} (hq : q < oCt σ) : Xc E m_M_stop 52 (2 * sigC FU σ p q aKilled) (10 * sigC FU σ p q aKilled) [.ref (o + 1), .ref (o + 6 + 6 * p), .ref (o + 6 + 6 * q)] h (Mv o h (some (.int 1)) (sigM FU σ p q aKilled)) := by
  have hp12 : p < 12 := by have := v.1; omega
  have hc := v.1
  refine Xc.of (by decide) (by simp [Value.category]) (Nat.le_of_ble_eq_true rfl) ?_
  show Xw E m_M_stop 52 (2 * sigC FU σ p q aKilled) (10 * sigC FU σ p q aKilled) 0 [some (.ref (o + 1)), some (.ref (o + 6 + 6 * p)), some (.ref (o + 6 + 6 * q))] [] h _
  refine x_aload_n d_M_stop_0 rfl rfl ?_
  refine x_ifnonnull (tgt := 6) d_M_stop_1 rfl ?_
  refine x_aload_n d_M_stop_6 rfl rfl ?_
  refine x_getf (v := .ref (o + 4)) d_M_stop_7 lf_M_21 z.1.1.kM z.1.1.M1 ?_
  refine x_aload_n d_M_stop_10 rfl rfl ?_
  refine x_aload_n d_M_stop_11 rfl rfl ?_
  refine x_aload_n d_M_stop_12 rfl rfl ?_
  refine x_getf (v := .ref (o + 4)) d_M_stop_13 lf_M_21 z.1.1.kM z.1.1.M1 ?_
  refine x_getf (v := .ref (o + 81)) d_M_stop_16 lf_M_38 z.1.1.kS z.1.1.S3 ?_
  refine x_bipush (v := 12) d_M_stop_19 (by decide) ?_
  refine x_aald (v := .ref (o + 82 + 12)) d_M_stop_21 z.1.1.kAt rfl (vp_in_nI (n := 12) (by decide) (by decide)) (by rw [show (12 : Int32).toNatClampNeg = 12 by decide]; exact (z.1.1.at 12 (by decide)).1) ?_
  refine x_invvN d_M_stop_22 lm_M_180 (as := [.ref (o + 6 + 6 * p), .ref (o + 6 + 6 * q), .ref (o + 82 + 12)]) (S := []) (cz' := 0) (cs' := 0) (c_S_signal z v hp hq (r := aKilled) ⟨Or.inl (Or.inr (Or.inl rfl)), by decide⟩ (z.1.1.at 12 (by decide)).2) z.1.1.kS rfl rfl rfl (Nat.le_of_ble_eq_true rfl) (by omega) (by omega) (by omega) ?_
  rintro _ h1 ⟨rfl, z1, chg1⟩
  refine x_iconst (v := 1) d_M_stop_25 (by decide) ?_
  exact x_iret d_M_stop_26 rfl rfl ⟨rfl, z1, chg1⟩
theorem c_M_link_no {E : th_E} {h : th_H} {o p : Nat} : Xc E m_M_link 52 0 0 [.ref (o + 1), .ref (o + 6 + 6 * p), .null] h (Ex (some (.int 0)) h) := by
  refine Xc.of (by decide) (by simp [Value.category]) (Nat.le_of_ble_eq_true rfl) ?_
  show Xw E m_M_link 52 0 0 0 [some (.ref (o + 1)), some (.ref (o + 6 + 6 * p)), some (.null)] [] h _
  refine x_aload_nN d_M_link_0 rfl rfl ?_
  refine x_ifnonnullN d_M_link_1 ?_
  refine x_iconst (v := 0) d_M_link_4 (by decide) ?_
  exact x_iret d_M_link_5 rfl rfl ⟨rfl, rfl⟩
def linkM (σ : Ho) (p q : Nat) : Ho := if pSt (oPr σ q) = 3 then sigM FU σ q p aFault else if q = p then σ else tieM σ p q
def linkC (σ : Ho) (p q : Nat) : Nat := if pSt (oPr σ q) = 3 then sigC FU σ q p aFault else 0
theorem c_M_link {E : th_E} {h : th_H} {o : Nat} {σ : Ho} (z : CR o σ h) {N p : Nat} (v : vPs N σ) (hp : p < oCt σ) {q : Nat} (hq : q < oCt σ) : Xc E m_M_link 52 (2 * linkC σ p q) (10 * linkC σ p q) [.ref (o + 1), .ref (o + 6 + 6 * p), .ref (o + 6 + 6 * q)] h (Mv o h (some (.int 1)) (linkM σ p q)) := by
  have hp12 : p < 12 := by have := v.1; omega
  have hc := v.1
  have hq12 : q < 12 := by omega
  by_cases h3 : pSt (oPr σ q) = 3
  · rw [show linkM σ p q = sigM FU σ q p aFault by rw [linkM, if_pos h3], show linkC σ p q = sigC FU σ q p aFault by rw [linkC, if_pos h3]]
    refine Xc.of (by decide) (by simp [Value.category]) (Nat.le_of_ble_eq_true rfl) ?_
    show Xw E m_M_link 52 (2 * (sigC FU σ q p aFault)) (10 * (sigC FU σ q p aFault)) 0 [some (.ref (o + 1)), some (.ref (o + 6 + 6 * p)), some (.ref (o + 6 + 6 * q))] [] h _
    refine x_aload_n d_M_link_0 rfl rfl ?_
    refine x_ifnonnull (tgt := 6) d_M_link_1 rfl ?_
    refine x_aload_n d_M_link_6 rfl rfl ?_
    refine x_getf (v := .int (nI (pSt (oPr σ q)))) d_M_link_7 lf_M_177 (z.1.2 q hq12).k (z.2.2.2.2.2 q hq).2.2.2.2.2.2.2.1 ?_
    refine x_iconst (v := (nI 3)) d_M_link_10 (by decide) ?_
    refine x_icmp_ne (tgt := 36) d_M_link_11 rfl (fun w_ => absurd (by rw [h3]) w_) (fun q11 => ?_)
    refine x_aload_n d_M_link_14 rfl rfl ?_
    refine x_getf (v := .ref (o + 4)) d_M_link_15 lf_M_21 z.1.1.kM z.1.1.M1 ?_
    refine x_aload_n d_M_link_18 rfl rfl ?_
    refine x_aload_n d_M_link_19 rfl rfl ?_
    refine x_aload_n d_M_link_20 rfl rfl ?_
    refine x_getf (v := .ref (o + 4)) d_M_link_21 lf_M_21 z.1.1.kM z.1.1.M1 ?_
    refine x_getf (v := .ref (o + 81)) d_M_link_24 lf_M_38 z.1.1.kS z.1.1.S3 ?_
    refine x_bipush (v := 13) d_M_link_27 (by decide) ?_
    refine x_aald (v := .ref (o + 82 + 13)) d_M_link_29 z.1.1.kAt rfl (vp_in_nI (n := 13) (by decide) (by decide)) (by rw [show (13 : Int32).toNatClampNeg = 13 by decide]; exact (z.1.1.at 13 (by decide)).1) ?_
    refine x_invvN d_M_link_30 lm_M_180 (as := [.ref (o + 6 + 6 * q), .ref (o + 6 + 6 * p), .ref (o + 82 + 13)]) (S := []) (cz' := 0) (cs' := 0) (c_S_signal z v hq hp (r := aFault) ⟨Or.inl (Or.inr (Or.inl rfl)), by decide⟩ (z.1.1.at 13 (by decide)).2) z.1.1.kS rfl rfl rfl (Nat.le_of_ble_eq_true rfl) (by omega) (by omega) (by omega) ?_
    rintro _ h1 ⟨rfl, z1, chg1⟩
    refine x_goto (tgt := 50) d_M_link_33 rfl ?_
    refine x_iconst (v := 1) d_M_link_50 (by decide) ?_
    exact x_iret d_M_link_51 rfl rfl ⟨rfl, z1, chg1⟩
  by_cases hqp : q = p
  · rw [show linkM σ p q = σ by rw [linkM, if_neg h3, if_pos hqp], show linkC σ p q = 0 by rw [linkC, if_neg h3]]
    refine Xc.of (by decide) (by simp [Value.category]) (Nat.le_of_ble_eq_true rfl) ?_
    show Xw E m_M_link 52 (2 * 0) (10 * 0) 0 [some (.ref (o + 1)), some (.ref (o + 6 + 6 * p)), some (.ref (o + 6 + 6 * q))] [] h _
    refine x_aload_n d_M_link_0 rfl rfl ?_
    refine x_ifnonnull (tgt := 6) d_M_link_1 rfl ?_
    refine x_aload_n d_M_link_6 rfl rfl ?_
    refine x_getf (v := .int (nI (pSt (oPr σ q)))) d_M_link_7 lf_M_177 (z.1.2 q hq12).k (z.2.2.2.2.2 q hq).2.2.2.2.2.2.2.1 ?_
    refine x_iconst (v := (nI 3)) d_M_link_10 (by decide) ?_
    refine x_icmp_ne (tgt := 36) d_M_link_11 rfl (fun q11 => ?_) (fun w_ => absurd w_ (fun e => h3 (nI_inj (by have := (v.2.2 q hq).2.2.2.2.2.1; omega) (by decide) e)))
    refine x_aload_n d_M_link_36 rfl rfl ?_
    refine x_aload_n d_M_link_37 rfl rfl ?_
    refine x_acmp_eq (tgt := 50) d_M_link_38 rfl (fun q38 => ?_) (fun w_ => absurd (by rw [hqp]) w_)
    refine x_iconst (v := 1) d_M_link_50 (by decide) ?_
    exact x_iret d_M_link_51 rfl rfl ⟨rfl, z, Chg.rf o h⟩
  rw [show linkM σ p q = tieM σ p q by rw [linkM, if_neg h3, if_neg hqp], show linkC σ p q = 0 by rw [linkC, if_neg h3]]
  refine Xc.of (by decide) (by simp [Value.category]) (Nat.le_of_ble_eq_true rfl) ?_
  show Xw E m_M_link 52 (2 * 0) (10 * 0) 0 [some (.ref (o + 1)), some (.ref (o + 6 + 6 * p)), some (.ref (o + 6 + 6 * q))] [] h _
  refine x_aload_n d_M_link_0 rfl rfl ?_
  refine x_ifnonnull (tgt := 6) d_M_link_1 rfl ?_
  refine x_aload_n d_M_link_6 rfl rfl ?_
  refine x_getf (v := .int (nI (pSt (oPr σ q)))) d_M_link_7 lf_M_177 (z.1.2 q hq12).k (z.2.2.2.2.2 q hq).2.2.2.2.2.2.2.1 ?_
  refine x_iconst (v := (nI 3)) d_M_link_10 (by decide) ?_
  refine x_icmp_ne (tgt := 36) d_M_link_11 rfl (fun q11 => ?_) (fun w_ => absurd w_ (fun e => h3 (nI_inj (by have := (v.2.2 q hq).2.2.2.2.2.1; omega) (by decide) e)))
  refine x_aload_n d_M_link_36 rfl rfl ?_
  refine x_aload_n d_M_link_37 rfl rfl ?_
  refine x_acmp_eq (tgt := 50) d_M_link_38 rfl (fun w_ => absurd w_ (by omega)) (fun q38 => ?_)
  refine x_aload_n d_M_link_41 rfl rfl ?_
  refine x_getf (v := .ref (o + 4)) d_M_link_42 lf_M_21 z.1.1.kM z.1.1.M1 ?_
  refine x_aload_n d_M_link_45 rfl rfl ?_
  refine x_aload_n d_M_link_46 rfl rfl ?_
  refine x_invv d_M_link_47 lm_M_184 (as := [.ref (o + 6 + 6 * p), .ref (o + 6 + 6 * q)]) (S := []) (cz' := 0) (cs' := 0) (c_S_tie z hc hp hq (Ne.symm hqp)) z.1.1.kS rfl rfl rfl (Nat.le_of_ble_eq_true rfl) (by omega) (by omega) (by omega) ?_
  rintro _ h1 ⟨rfl, z1, chg1⟩
  refine x_iconst (v := 1) d_M_link_50 (by decide) ?_
  exact x_iret d_M_link_51 rfl rfl ⟨rfl, z1, chg1⟩
theorem c_M_spawn_no {E : th_E} {h : th_H} {o : Nat} {σ : Ho} (z : CR o σ h) {N p : Nat} (v : vPs N σ) (hp : p < oCt σ) {a l x : Nat} (hf : 12 ≤ oCt σ) : Xc E m_M_spawn 3 0 0 [.ref (o + 1), .ref (o + 6 + 6 * p), .int (nI a), .int (nI l), .ref x] h (Ex (some (.int 0)) h) := by
  have hp12 : p < 12 := by have := v.1; omega
  have hc := v.1
  refine Xc.of (by decide) (by simp [Value.category]) (Nat.le_of_ble_eq_true rfl) ?_
  show Xw E m_M_spawn 3 0 0 0 [some (.ref (o + 1)), some (.ref (o + 6 + 6 * p)), some (.int (nI a)), some (.int (nI l)), some (.ref x), none] [] h _
  refine x_aload_n d_M_spawn_0 rfl rfl ?_
  refine x_getf (v := .ref (o + 4)) d_M_spawn_1 lf_M_21 z.1.1.kM z.1.1.M1 ?_
  refine x_iload_n d_M_spawn_4 rfl rfl ?_
  refine x_aload d_M_spawn_5 rfl ?_
  refine x_invv d_M_spawn_7 lm_M_173 (as := [.int (nI l), .ref x]) (S := []) (c_S_start_no z hc hf) z.1.1.kS rfl rfl rfl (Nat.le_of_ble_eq_true rfl) (Nat.le_refl 3) (Nat.le_refl 0) (Nat.le_refl 0) ?_
  rintro _ _ ⟨rfl, rfl⟩
  refine x_astoreN d_M_spawn_10 (by decide) (L' := [some (.ref (o + 1)), some (.ref (o + 6 + 6 * p)), some (.int (nI a)), some (.int (nI l)), some (.ref x), some (.null)]) rfl ?_
  refine x_aloadN d_M_spawn_12 rfl ?_
  refine x_ifnullN (tgt := 34) d_M_spawn_14 rfl ?_
  refine x_iconst (v := 0) d_M_spawn_34 (by decide) ?_
  exact x_iret d_M_spawn_35 rfl rfl ⟨rfl, rfl⟩
def spawnM (σ : Ho) (p a l : Nat) (t : Tm) : Ho := sPr (startM σ l t) p (sRg (oPr (startM σ l t) p) a (.leaf (2, nI (oCt σ))))
theorem nodup_room {N : Nat} {σ : Ho} (v : vPs N σ) (hf : oCt σ < 12) : (oQu σ).length < 12 := Nat.lt_of_le_of_lt (nodup_len _ _ v.2.1.1 (fun x hx => (v.2.1.2.1 x hx).1)) hf
theorem c_M_spawn {E : th_E} {h : th_H} {o : Nat} {σ : Ho} (z : CR o σ h) {N p : Nat} (v : vPs N σ) (hp : p < oCt σ) {a l x : Nat} {t : Tm} (hf : oCt σ < 12) (ha : a < 8) (hx : TR h t x) : Xc E m_M_spawn 3 0 0 [.ref (o + 1), .ref (o + 6 + 6 * p), .int (nI a), .int (nI l), .ref x] h (Mv o h (some (.int 1)) (spawnM σ p a l t)) := by
  have hp12 : p < 12 := by have := v.1; omega
  have hc := v.1
  refine Xc.of (by decide) (by simp [Value.category]) (Nat.le_of_ble_eq_true rfl) ?_
  show Xw E m_M_spawn 3 0 0 0 [some (.ref (o + 1)), some (.ref (o + 6 + 6 * p)), some (.int (nI a)), some (.int (nI l)), some (.ref x), none] [] h _
  refine x_aload_n d_M_spawn_0 rfl rfl ?_
  refine x_getf (v := .ref (o + 4)) d_M_spawn_1 lf_M_21 z.1.1.kM z.1.1.M1 ?_
  refine x_iload_n d_M_spawn_4 rfl rfl ?_
  refine x_aload d_M_spawn_5 rfl ?_
  refine x_invv d_M_spawn_7 lm_M_173 (as := [.int (nI l), .ref x]) (S := []) (c_S_start z hf (nodup_room v hf) hx) z.1.1.kS rfl rfl rfl (Nat.le_of_ble_eq_true rfl) (Nat.le_refl 3) (Nat.le_refl 0) (Nat.le_refl 0) ?_
  rintro _ h1 ⟨rfl, z1, chg1⟩
  refine Xw.wf (fun wf1 => ?_)
  refine x_astore d_M_spawn_10 (by decide) (L' := [some (.ref (o + 1)), some (.ref (o + 6 + 6 * p)), some (.int (nI a)), some (.int (nI l)), some (.ref x), some (.ref (o + 6 + 6 * oCt σ))]) rfl ?_
  refine x_aload d_M_spawn_12 rfl ?_
  refine x_ifnull d_M_spawn_14 ?_
  refine x_aload_n d_M_spawn_17 rfl rfl ?_
  refine x_iload_n d_M_spawn_18 rfl rfl ?_
  refine x_aload d_M_spawn_19 rfl ?_
  refine x_getf (v := .ref (o + 7 + 6 * oCt σ)) d_M_spawn_21 lf_M_66 (z1.1.2 _ hf).k (z1.1.2 _ hf).pid ?_
  refine x_invv d_M_spawn_24 lm_M_62 (as := [.int (nI a), .ref (o + 7 + 6 * oCt σ)]) (S := []) (c_P_set (z1.1.2 p hp12).k (z1.1.2 p hp12).kr (z1.1.2 p hp12).rg ha (z1.1.2 _ hf).tp.k) (z1.1.2 p hp12).k rfl rfl rfl (Nat.le_of_ble_eq_true rfl) (by decide) (Nat.le_refl 0) (Nat.le_refl 0) ?_
  rintro _ _ ⟨rfl, rfl⟩
  refine x_if_eq (tgt := 34) d_M_spawn_27 rfl (fun w_ => absurd w_ (by decide)) (fun q27 => ?_)
  refine x_iconst (v := 1) d_M_spawn_30 (by decide) ?_
  refine x_goto (tgt := 35) d_M_spawn_31 rfl ?_
  exact x_iret d_M_spawn_35 rfl rfl ⟨rfl, (z1.reg wf1 hf (show p < oCt σ + 1 by omega) (z1.1.2 _ hf).tp).1, chg1.tr (z1.reg wf1 hf (show p < oCt σ + 1 by omega) (z1.1.2 _ hf).tp).2⟩
end
