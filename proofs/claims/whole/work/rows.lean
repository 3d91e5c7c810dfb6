section
-- ===== PART A: goes FIRST, ahead of the names: the tables' words, and 'selects' of the private methods out of them =====
/-- a private method of a class that the tables say can be made, by its rows of tables_1 -/
def lw_okq (q : MethodName × Nat) : Prop := (q.1.cls ≠ "java/lang/invoke/MethodHandle" ∧ q.1.cls ≠ "java/lang/invoke/VarHandle") ∧ Cond.instantiable q.1.cls q.2 ∈ tables_1 ∧ Cond.privateMethod q.1 ∈ tables_1 ∧ Cond.instanceMethod q.1 ∈ tables_1
theorem lw_p0 : lw_okq (⟨"TurnHost$Society", "end", "(LTurnHost$HostProcess;LTurnHost$Term;)V"⟩, 5) := ⟨⟨by decide +kernel, by decide +kernel⟩, List.mem_of_getElem? (i := 41) (by decide +kernel), List.mem_of_getElem? (i := 286) (by decide +kernel), List.mem_of_getElem? (i := 287) (by decide +kernel)⟩
theorem lw_p1 : lw_okq (⟨"TurnHost$Society", "untie", "(LTurnHost$HostProcess;LTurnHost$HostProcess;)V"⟩, 5) := ⟨⟨by decide +kernel, by decide +kernel⟩, List.mem_of_getElem? (i := 41) (by decide +kernel), List.mem_of_getElem? (i := 294) (by decide +kernel), List.mem_of_getElem? (i := 295) (by decide +kernel)⟩
theorem lw_p2 : lw_okq (⟨"TurnHost$Society", "signal", "(LTurnHost$HostProcess;LTurnHost$HostProcess;LTurnHost$Term;)V"⟩, 5) := ⟨⟨by decide +kernel, by decide +kernel⟩, List.mem_of_getElem? (i := 41) (by decide +kernel), List.mem_of_getElem? (i := 298) (by decide +kernel), List.mem_of_getElem? (i := 299) (by decide +kernel)⟩
theorem lw_p3 : lw_okq (⟨"TurnHost$Society", "exitNotice", "(LTurnHost$HostProcess;LTurnHost$Term;)LTurnHost$Term;"⟩, 5) := ⟨⟨by decide +kernel, by decide +kernel⟩, List.mem_of_getElem? (i := 41) (by decide +kernel), List.mem_of_getElem? (i := 302) (by decide +kernel), List.mem_of_getElem? (i := 303) (by decide +kernel)⟩
theorem lw_p4 : lw_okq (⟨"TurnHost$Machine", "perform", "(LTurnHost$HostProcess;IIII)Z"⟩, 2) := ⟨⟨by decide +kernel, by decide +kernel⟩, List.mem_of_getElem? (i := 20) (by decide +kernel), List.mem_of_getElem? (i := 319) (by decide +kernel), List.mem_of_getElem? (i := 320) (by decide +kernel)⟩
theorem lw_p5 : lw_okq (⟨"TurnHost$Machine", "goBack", "(LTurnHost$HostProcess;)Z"⟩, 2) := ⟨⟨by decide +kernel, by decide +kernel⟩, List.mem_of_getElem? (i := 20) (by decide +kernel), List.mem_of_getElem? (i := 349) (by decide +kernel), List.mem_of_getElem? (i := 350) (by decide +kernel)⟩
theorem lw_p6 : lw_okq (⟨"TurnHost$Machine", "send", "(LTurnHost$HostProcess;LTurnHost$Term;)Z"⟩, 2) := ⟨⟨by decide +kernel, by decide +kernel⟩, List.mem_of_getElem? (i := 20) (by decide +kernel), List.mem_of_getElem? (i := 358) (by decide +kernel), List.mem_of_getElem? (i := 359) (by decide +kernel)⟩
theorem lw_p7 : lw_okq (⟨"TurnHost$Machine", "waitOrGoOn", "(LTurnHost$HostProcess;I)Z"⟩, 2) := ⟨⟨by decide +kernel, by decide +kernel⟩, List.mem_of_getElem? (i := 20) (by decide +kernel), List.mem_of_getElem? (i := 379) (by decide +kernel), List.mem_of_getElem? (i := 380) (by decide +kernel)⟩
theorem lw_p8 : lw_okq (⟨"TurnHost$Machine", "spawn", "(LTurnHost$HostProcess;IILTurnHost$Term;)Z"⟩, 2) := ⟨⟨by decide +kernel, by decide +kernel⟩, List.mem_of_getElem? (i := 20) (by decide +kernel), List.mem_of_getElem? (i := 387) (by decide +kernel), List.mem_of_getElem? (i := 388) (by decide +kernel)⟩
theorem lw_p9 : lw_okq (⟨"TurnHost$Machine", "link", "(LTurnHost$HostProcess;LTurnHost$HostProcess;)Z"⟩, 2) := ⟨⟨by decide +kernel, by decide +kernel⟩, List.mem_of_getElem? (i := 20) (by decide +kernel), List.mem_of_getElem? (i := 392) (by decide +kernel), List.mem_of_getElem? (i := 393) (by decide +kernel)⟩
theorem lw_p10 : lw_okq (⟨"TurnHost$Machine", "finish", "(LTurnHost$HostProcess;LTurnHost$Term;)Z"⟩, 2) := ⟨⟨by decide +kernel, by decide +kernel⟩, List.mem_of_getElem? (i := 20) (by decide +kernel), List.mem_of_getElem? (i := 404) (by decide +kernel), List.mem_of_getElem? (i := 405) (by decide +kernel)⟩
theorem lw_p11 : lw_okq (⟨"TurnHost$Machine", "stop", "(LTurnHost$HostProcess;LTurnHost$HostProcess;)Z"⟩, 2) := ⟨⟨by decide +kernel, by decide +kernel⟩, List.mem_of_getElem? (i := 20) (by decide +kernel), List.mem_of_getElem? (i := 408) (by decide +kernel), List.mem_of_getElem? (i := 409) (by decide +kernel)⟩
theorem lw_p12 : lw_okq (⟨"TurnHost", "countInTurn", "(LTurnHost$HostProcess;)V"⟩, 5) := ⟨⟨by decide +kernel, by decide +kernel⟩, List.mem_of_getElem? (i := 12) (by decide +kernel), List.mem_of_getElem? (i := 412) (by decide +kernel), List.mem_of_getElem? (i := 413) (by decide +kernel)⟩
theorem lw_p13 : lw_okq (⟨"TurnHost", "termOf", "(II)LTurnHost$Term;"⟩, 5) := ⟨⟨by decide +kernel, by decide +kernel⟩, List.mem_of_getElem? (i := 12) (by decide +kernel), List.mem_of_getElem? (i := 454) (by decide +kernel), List.mem_of_getElem? (i := 455) (by decide +kernel)⟩
theorem lw_p14 : lw_okq (⟨"TurnHostModel", "put", "(III)V"⟩, 22) := ⟨⟨by decide +kernel, by decide +kernel⟩, List.mem_of_getElem? (i := 486) (by decide +kernel), List.mem_of_getElem? (i := 583) (by decide +kernel), List.mem_of_getElem? (i := 584) (by decide +kernel)⟩
theorem lw_p15 : lw_okq (⟨"TurnHostModel", "start", "(II)I"⟩, 22) := ⟨⟨by decide +kernel, by decide +kernel⟩, List.mem_of_getElem? (i := 486) (by decide +kernel), List.mem_of_getElem? (i := 587) (by decide +kernel), List.mem_of_getElem? (i := 588) (by decide +kernel)⟩
def lw_privs_1 : List (MethodName × Nat) := [(⟨"TurnHost$Society", "end", "(LTurnHost$HostProcess;LTurnHost$Term;)V"⟩, 5), (⟨"TurnHost$Society", "untie", "(LTurnHost$HostProcess;LTurnHost$HostProcess;)V"⟩, 5), (⟨"TurnHost$Society", "signal", "(LTurnHost$HostProcess;LTurnHost$HostProcess;LTurnHost$Term;)V"⟩, 5), (⟨"TurnHost$Society", "exitNotice", "(LTurnHost$HostProcess;LTurnHost$Term;)LTurnHost$Term;"⟩, 5), (⟨"TurnHost$Machine", "perform", "(LTurnHost$HostProcess;IIII)Z"⟩, 2), (⟨"TurnHost$Machine", "goBack", "(LTurnHost$HostProcess;)Z"⟩, 2), (⟨"TurnHost$Machine", "send", "(LTurnHost$HostProcess;LTurnHost$Term;)Z"⟩, 2), (⟨"TurnHost$Machine", "waitOrGoOn", "(LTurnHost$HostProcess;I)Z"⟩, 2), (⟨"TurnHost$Machine", "spawn", "(LTurnHost$HostProcess;IILTurnHost$Term;)Z"⟩, 2), (⟨"TurnHost$Machine", "link", "(LTurnHost$HostProcess;LTurnHost$HostProcess;)Z"⟩, 2), (⟨"TurnHost$Machine", "finish", "(LTurnHost$HostProcess;LTurnHost$Term;)Z"⟩, 2), (⟨"TurnHost$Machine", "stop", "(LTurnHost$HostProcess;LTurnHost$HostProcess;)Z"⟩, 2), (⟨"TurnHost", "countInTurn", "(LTurnHost$HostProcess;)V"⟩, 5), (⟨"TurnHost", "termOf", "(II)LTurnHost$Term;"⟩, 5), (⟨"TurnHostModel", "put", "(III)V"⟩, 22), (⟨"TurnHostModel", "start", "(II)I"⟩, 22)]
theorem lw_r1 : ∀ q ∈ lw_privs_1, lw_okq q := List.forall_mem_cons.mpr ⟨lw_p0, List.forall_mem_cons.mpr ⟨lw_p1, List.forall_mem_cons.mpr ⟨lw_p2, List.forall_mem_cons.mpr ⟨lw_p3, List.forall_mem_cons.mpr ⟨lw_p4, List.forall_mem_cons.mpr ⟨lw_p5, List.forall_mem_cons.mpr ⟨lw_p6, List.forall_mem_cons.mpr ⟨lw_p7, List.forall_mem_cons.mpr ⟨lw_p8, List.forall_mem_cons.mpr ⟨lw_p9, List.forall_mem_cons.mpr ⟨lw_p10, List.forall_mem_cons.mpr ⟨lw_p11, List.forall_mem_cons.mpr ⟨lw_p12, List.forall_mem_cons.mpr ⟨lw_p13, List.forall_mem_cons.mpr ⟨lw_p14, List.forall_mem_cons.mpr ⟨lw_p15, fun _ h => absurd h List.not_mem_nil⟩⟩⟩⟩⟩⟩⟩⟩⟩⟩⟩⟩⟩⟩⟩⟩
theorem lw_p16 : lw_okq (⟨"TurnHostModel", "copy", "(II)V"⟩, 22) := ⟨⟨by decide +kernel, by decide +kernel⟩, List.mem_of_getElem? (i := 486) (by decide +kernel), List.mem_of_getElem? (i := 591) (by decide +kernel), List.mem_of_getElem? (i := 592) (by decide +kernel)⟩
theorem lw_p17 : lw_okq (⟨"TurnHostModel", "come", "(I)V"⟩, 22) := ⟨⟨by decide +kernel, by decide +kernel⟩, List.mem_of_getElem? (i := 486) (by decide +kernel), List.mem_of_getElem? (i := 595) (by decide +kernel), List.mem_of_getElem? (i := 596) (by decide +kernel)⟩
theorem lw_p18 : lw_okq (⟨"TurnHostModel", "deliver", "(II)V"⟩, 22) := ⟨⟨by decide +kernel, by decide +kernel⟩, List.mem_of_getElem? (i := 486) (by decide +kernel), List.mem_of_getElem? (i := 603) (by decide +kernel), List.mem_of_getElem? (i := 604) (by decide +kernel)⟩
theorem lw_p19 : lw_okq (⟨"TurnHostModel", "step", "(I)V"⟩, 22) := ⟨⟨by decide +kernel, by decide +kernel⟩, List.mem_of_getElem? (i := 486) (by decide +kernel), List.mem_of_getElem? (i := 611) (by decide +kernel), List.mem_of_getElem? (i := 612) (by decide +kernel)⟩
theorem lw_p20 : lw_okq (⟨"TurnHostModel", "make", "(IIIII)Z"⟩, 22) := ⟨⟨by decide +kernel, by decide +kernel⟩, List.mem_of_getElem? (i := 486) (by decide +kernel), List.mem_of_getElem? (i := 615) (by decide +kernel), List.mem_of_getElem? (i := 616) (by decide +kernel)⟩
theorem lw_p21 : lw_okq (⟨"TurnHostModel", "weight", "(I)I"⟩, 22) := ⟨⟨by decide +kernel, by decide +kernel⟩, List.mem_of_getElem? (i := 486) (by decide +kernel), List.mem_of_getElem? (i := 619) (by decide +kernel), List.mem_of_getElem? (i := 620) (by decide +kernel)⟩
theorem lw_p22 : lw_okq (⟨"TurnHostModel", "addParts", "(IIII)V"⟩, 22) := ⟨⟨by decide +kernel, by decide +kernel⟩, List.mem_of_getElem? (i := 486) (by decide +kernel), List.mem_of_getElem? (i := 623) (by decide +kernel), List.mem_of_getElem? (i := 624) (by decide +kernel)⟩
theorem lw_p23 : lw_okq (⟨"TurnHostModel", "sortOf", "(II)I"⟩, 22) := ⟨⟨by decide +kernel, by decide +kernel⟩, List.mem_of_getElem? (i := 486) (by decide +kernel), List.mem_of_getElem? (i := 627) (by decide +kernel), List.mem_of_getElem? (i := 628) (by decide +kernel)⟩
theorem lw_p24 : lw_okq (⟨"TurnHostModel", "numberOf", "(II)I"⟩, 22) := ⟨⟨by decide +kernel, by decide +kernel⟩, List.mem_of_getElem? (i := 486) (by decide +kernel), List.mem_of_getElem? (i := 631) (by decide +kernel), List.mem_of_getElem? (i := 632) (by decide +kernel)⟩
theorem lw_p25 : lw_okq (⟨"TurnHostModel", "append", "(III)V"⟩, 22) := ⟨⟨by decide +kernel, by decide +kernel⟩, List.mem_of_getElem? (i := 486) (by decide +kernel), List.mem_of_getElem? (i := 635) (by decide +kernel), List.mem_of_getElem? (i := 636) (by decide +kernel)⟩
theorem lw_p26 : lw_okq (⟨"TurnHostModel", "behind", "(II)I"⟩, 22) := ⟨⟨by decide +kernel, by decide +kernel⟩, List.mem_of_getElem? (i := 486) (by decide +kernel), List.mem_of_getElem? (i := 639) (by decide +kernel), List.mem_of_getElem? (i := 640) (by decide +kernel)⟩
theorem lw_p27 : lw_okq (⟨"TurnHostModel", "branch", "(IIIII)Z"⟩, 22) := ⟨⟨by decide +kernel, by decide +kernel⟩, List.mem_of_getElem? (i := 486) (by decide +kernel), List.mem_of_getElem? (i := 643) (by decide +kernel), List.mem_of_getElem? (i := 644) (by decide +kernel)⟩
theorem lw_p28 : lw_okq (⟨"TurnHostModel", "isSame", "(II)Z"⟩, 22) := ⟨⟨by decide +kernel, by decide +kernel⟩, List.mem_of_getElem? (i := 486) (by decide +kernel), List.mem_of_getElem? (i := 647) (by decide +kernel), List.mem_of_getElem? (i := 648) (by decide +kernel)⟩
theorem lw_p29 : lw_okq (⟨"TurnHostModel", "endBy", "(II)V"⟩, 22) := ⟨⟨by decide +kernel, by decide +kernel⟩, List.mem_of_getElem? (i := 486) (by decide +kernel), List.mem_of_getElem? (i := 651) (by decide +kernel), List.mem_of_getElem? (i := 652) (by decide +kernel)⟩
theorem lw_p30 : lw_okq (⟨"TurnHostModel", "end", "(II)V"⟩, 22) := ⟨⟨by decide +kernel, by decide +kernel⟩, List.mem_of_getElem? (i := 486) (by decide +kernel), List.mem_of_getElem? (i := 655) (by decide +kernel), List.mem_of_getElem? (i := 656) (by decide +kernel)⟩
theorem lw_p31 : lw_okq (⟨"TurnHostModel", "stop", "(II)V"⟩, 22) := ⟨⟨by decide +kernel, by decide +kernel⟩, List.mem_of_getElem? (i := 486) (by decide +kernel), List.mem_of_getElem? (i := 659) (by decide +kernel), List.mem_of_getElem? (i := 660) (by decide +kernel)⟩
def lw_privs_2 : List (MethodName × Nat) := [(⟨"TurnHostModel", "copy", "(II)V"⟩, 22), (⟨"TurnHostModel", "come", "(I)V"⟩, 22), (⟨"TurnHostModel", "deliver", "(II)V"⟩, 22), (⟨"TurnHostModel", "step", "(I)V"⟩, 22), (⟨"TurnHostModel", "make", "(IIIII)Z"⟩, 22), (⟨"TurnHostModel", "weight", "(I)I"⟩, 22), (⟨"TurnHostModel", "addParts", "(IIII)V"⟩, 22), (⟨"TurnHostModel", "sortOf", "(II)I"⟩, 22), (⟨"TurnHostModel", "numberOf", "(II)I"⟩, 22), (⟨"TurnHostModel", "append", "(III)V"⟩, 22), (⟨"TurnHostModel", "behind", "(II)I"⟩, 22), (⟨"TurnHostModel", "branch", "(IIIII)Z"⟩, 22), (⟨"TurnHostModel", "isSame", "(II)Z"⟩, 22), (⟨"TurnHostModel", "endBy", "(II)V"⟩, 22), (⟨"TurnHostModel", "end", "(II)V"⟩, 22), (⟨"TurnHostModel", "stop", "(II)V"⟩, 22)]
theorem lw_r2 : ∀ q ∈ lw_privs_2, lw_okq q := List.forall_mem_cons.mpr ⟨lw_p16, List.forall_mem_cons.mpr ⟨lw_p17, List.forall_mem_cons.mpr ⟨lw_p18, List.forall_mem_cons.mpr ⟨lw_p19, List.forall_mem_cons.mpr ⟨lw_p20, List.forall_mem_cons.mpr ⟨lw_p21, List.forall_mem_cons.mpr ⟨lw_p22, List.forall_mem_cons.mpr ⟨lw_p23, List.forall_mem_cons.mpr ⟨lw_p24, List.forall_mem_cons.mpr ⟨lw_p25, List.forall_mem_cons.mpr ⟨lw_p26, List.forall_mem_cons.mpr ⟨lw_p27, List.forall_mem_cons.mpr ⟨lw_p28, List.forall_mem_cons.mpr ⟨lw_p29, List.forall_mem_cons.mpr ⟨lw_p30, List.forall_mem_cons.mpr ⟨lw_p31, fun _ h => absurd h List.not_mem_nil⟩⟩⟩⟩⟩⟩⟩⟩⟩⟩⟩⟩⟩⟩⟩⟩
theorem lw_p32 : lw_okq (⟨"TurnHostModel", "leave", "(I)V"⟩, 22) := ⟨⟨by decide +kernel, by decide +kernel⟩, List.mem_of_getElem? (i := 486) (by decide +kernel), List.mem_of_getElem? (i := 663) (by decide +kernel), List.mem_of_getElem? (i := 664) (by decide +kernel)⟩
theorem lw_p33 : lw_okq (⟨"TurnHostModel", "signal", "(III)Z"⟩, 22) := ⟨⟨by decide +kernel, by decide +kernel⟩, List.mem_of_getElem? (i := 486) (by decide +kernel), List.mem_of_getElem? (i := 667) (by decide +kernel), List.mem_of_getElem? (i := 668) (by decide +kernel)⟩
theorem lw_p34 : lw_okq (⟨"TurnHostModel", "mail", "(IIII)Z"⟩, 22) := ⟨⟨by decide +kernel, by decide +kernel⟩, List.mem_of_getElem? (i := 486) (by decide +kernel), List.mem_of_getElem? (i := 671) (by decide +kernel), List.mem_of_getElem? (i := 672) (by decide +kernel)⟩
theorem lw_p35 : lw_okq (⟨"TurnHostModel", "named", "(I)I"⟩, 22) := ⟨⟨by decide +kernel, by decide +kernel⟩, List.mem_of_getElem? (i := 486) (by decide +kernel), List.mem_of_getElem? (i := 675) (by decide +kernel), List.mem_of_getElem? (i := 676) (by decide +kernel)⟩
theorem lw_p36 : lw_okq (⟨"TurnHostModel", "life", "(IIIII)Z"⟩, 22) := ⟨⟨by decide +kernel, by decide +kernel⟩, List.mem_of_getElem? (i := 486) (by decide +kernel), List.mem_of_getElem? (i := 679) (by decide +kernel), List.mem_of_getElem? (i := 680) (by decide +kernel)⟩
theorem lw_p37 : lw_okq (⟨"TurnHostModel", "isTerm", "(II)Z"⟩, 22) := ⟨⟨by decide +kernel, by decide +kernel⟩, List.mem_of_getElem? (i := 486) (by decide +kernel), List.mem_of_getElem? (i := 703) (by decide +kernel), List.mem_of_getElem? (i := 704) (by decide +kernel)⟩
def lw_privs_3 : List (MethodName × Nat) := [(⟨"TurnHostModel", "leave", "(I)V"⟩, 22), (⟨"TurnHostModel", "signal", "(III)Z"⟩, 22), (⟨"TurnHostModel", "mail", "(IIII)Z"⟩, 22), (⟨"TurnHostModel", "named", "(I)I"⟩, 22), (⟨"TurnHostModel", "life", "(IIIII)Z"⟩, 22), (⟨"TurnHostModel", "isTerm", "(II)Z"⟩, 22)]
theorem lw_r3 : ∀ q ∈ lw_privs_3, lw_okq q := List.forall_mem_cons.mpr ⟨lw_p32, List.forall_mem_cons.mpr ⟨lw_p33, List.forall_mem_cons.mpr ⟨lw_p34, List.forall_mem_cons.mpr ⟨lw_p35, List.forall_mem_cons.mpr ⟨lw_p36, List.forall_mem_cons.mpr ⟨lw_p37, fun _ h => absurd h List.not_mem_nil⟩⟩⟩⟩⟩⟩
def lw_privs : List (MethodName × Nat) := lw_privs_1 ++ (lw_privs_2 ++ (lw_privs_3))
def lw_tbl : List Cond := k2_sels lw_privs ++ tables_1
theorem lw_privs_ok : ∀ q ∈ lw_privs, lw_okq q := by
  show ∀ q ∈ lw_privs_1 ++ (lw_privs_2 ++ (lw_privs_3)), lw_okq q
  exact List.forall_mem_append.mpr ⟨lw_r1, List.forall_mem_append.mpr ⟨lw_r2, lw_r3⟩⟩
end
section
/-! Names and links (printed by wip/gen/names.py). -/
def R_T : String := "TurnHost$Term"
def F_T : u_T := fun k => match k with
  | 0 => ("TurnHost$Term", "sort", "I", true)
  | 1 => ("TurnHost$Term", "number", "I", true)
  | 2 => ("TurnHost$Term", "first", "LTurnHost$Term;", true)
  | 3 => ("TurnHost$Term", "second", "LTurnHost$Term;", true)
  | _ => ("TurnHost$Term", "weight", "I", true)
def ty_T : Nat → FieldType := fun k => match k with
  | 0 => .int
  | 1 => .int
  | 2 => .object "TurnHost$Term"
  | 3 => .object "TurnHost$Term"
  | _ => .int
theorem n_T : ∀ a, a < 5 → ∀ b, b < 5 → a ≠ b → (F_T a).2.1 ≠ (F_T b).2.1 := by decide +kernel
theorem ty_T_ok : ∀ k, k < 5 → parseFieldDescriptor (F_T k).2.2.1 = some (ty_T k) := by decide +kernel
def R_B : String := "TurnHost$Mailbox"
def F_B : u_T := fun k => match k with
  | 0 => ("TurnHost$Mailbox", "messages", "[LTurnHost$Term;", true)
  | 1 => ("TurnHost$Mailbox", "count", "I", false)
  | _ => ("TurnHost$Mailbox", "mark", "I", false)
def ty_B : Nat → FieldType := fun k => match k with
  | 0 => .array (.object "TurnHost$Term")
  | 1 => .int
  | _ => .int
theorem n_B : ∀ a, a < 3 → ∀ b, b < 3 → a ≠ b → (F_B a).2.1 ≠ (F_B b).2.1 := by decide +kernel
theorem ty_B_ok : ∀ k, k < 3 → parseFieldDescriptor (F_B k).2.2.1 = some (ty_B k) := by decide +kernel
def R_P : String := "TurnHost$HostProcess"
def F_P : u_T := fun k => match k with
  | 0 => ("TurnHost$HostProcess", "number", "I", true)
  | 1 => ("TurnHost$HostProcess", "pid", "LTurnHost$Term;", true)
  | 2 => ("TurnHost$HostProcess", "registers", "[LTurnHost$Term;", true)
  | 3 => ("TurnHost$HostProcess", "returns", "[I", true)
  | 4 => ("TurnHost$HostProcess", "mailbox", "LTurnHost$Mailbox;", true)
  | 5 => ("TurnHost$HostProcess", "returnCount", "I", false)
  | 6 => ("TurnHost$HostProcess", "place", "I", false)
  | 7 => ("TurnHost$HostProcess", "links", "I", false)
  | 8 => ("TurnHost$HostProcess", "traps", "Z", false)
  | 9 => ("TurnHost$HostProcess", "state", "I", false)
  | 10 => ("TurnHost$HostProcess", "reason", "LTurnHost$Term;", false)
  | _ => ("TurnHost$HostProcess", "reductions", "I", false)
def ty_P : Nat → FieldType := fun k => match k with
  | 0 => .int
  | 1 => .object "TurnHost$Term"
  | 2 => .array (.object "TurnHost$Term")
  | 3 => .array .int
  | 4 => .object "TurnHost$Mailbox"
  | 5 => .int
  | 6 => .int
  | 7 => .int
  | 8 => .boolean
  | 9 => .int
  | 10 => .object "TurnHost$Term"
  | _ => .int
theorem n_P : ∀ a, a < 12 → ∀ b, b < 12 → a ≠ b → (F_P a).2.1 ≠ (F_P b).2.1 := by decide +kernel
theorem ty_P_ok : ∀ k, k < 12 → parseFieldDescriptor (F_P k).2.2.1 = some (ty_P k) := by decide +kernel
def R_L : String := "TurnHost$Line"
def F_L : u_T := fun k => match k with
  | 0 => ("TurnHost$Line", "numbers", "[I", true)
  | _ => ("TurnHost$Line", "count", "I", false)
def ty_L : Nat → FieldType := fun k => match k with
  | 0 => .array .int
  | _ => .int
theorem n_L : ∀ a, a < 2 → ∀ b, b < 2 → a ≠ b → (F_L a).2.1 ≠ (F_L b).2.1 := by decide +kernel
theorem ty_L_ok : ∀ k, k < 2 → parseFieldDescriptor (F_L k).2.2.1 = some (ty_L k) := by decide +kernel
def R_S : String := "TurnHost$Society"
def F_S : u_T := fun k => match k with
  | 0 => ("TurnHost$Society", "table", "[LTurnHost$HostProcess;", true)
  | 1 => ("TurnHost$Society", "line", "LTurnHost$Line;", true)
  | 2 => ("TurnHost$Society", "nil", "LTurnHost$Term;", true)
  | 3 => ("TurnHost$Society", "atoms", "[LTurnHost$Term;", true)
  | _ => ("TurnHost$Society", "count", "I", false)
def ty_S : Nat → FieldType := fun k => match k with
  | 0 => .array (.object "TurnHost$HostProcess")
  | 1 => .object "TurnHost$Line"
  | 2 => .object "TurnHost$Term"
  | 3 => .array (.object "TurnHost$Term")
  | _ => .int
theorem n_S : ∀ a, a < 5 → ∀ b, b < 5 → a ≠ b → (F_S a).2.1 ≠ (F_S b).2.1 := by decide +kernel
theorem ty_S_ok : ∀ k, k < 5 → parseFieldDescriptor (F_S k).2.2.1 = some (ty_S k) := by decide +kernel
def R_G : String := "TurnHost$Program"
def F_G : u_T := fun k => match k with
  | 0 => ("TurnHost$Program", "cells", "[I", true)
  | _ => ("TurnHost$Program", "count", "I", false)
def ty_G : Nat → FieldType := fun k => match k with
  | 0 => .array .int
  | _ => .int
theorem n_G : ∀ a, a < 2 → ∀ b, b < 2 → a ≠ b → (F_G a).2.1 ≠ (F_G b).2.1 := by decide +kernel
theorem ty_G_ok : ∀ k, k < 2 → parseFieldDescriptor (F_G k).2.2.1 = some (ty_G k) := by decide +kernel
def R_M : String := "TurnHost$Machine"
def F_M : u_T := fun k => match k with
  | 0 => ("TurnHost$Machine", "program", "LTurnHost$Program;", true)
  | _ => ("TurnHost$Machine", "society", "LTurnHost$Society;", true)
def ty_M : Nat → FieldType := fun k => match k with
  | 0 => .object "TurnHost$Program"
  | _ => .object "TurnHost$Society"
theorem n_M : ∀ a, a < 2 → ∀ b, b < 2 → a ≠ b → (F_M a).2.1 ≠ (F_M b).2.1 := by decide +kernel
theorem ty_M_ok : ∀ k, k < 2 → parseFieldDescriptor (F_M k).2.2.1 = some (ty_M k) := by decide +kernel
def R_H : String := "TurnHost"
def F_H : u_T := fun k => match k with
  | 0 => ("TurnHost", "quota", "I", true)
  | 1 => ("TurnHost", "machine", "LTurnHost$Machine;", true)
  | 2 => ("TurnHost", "program", "LTurnHost$Program;", true)
  | 3 => ("TurnHost", "society", "LTurnHost$Society;", true)
  | _ => ("TurnHost", "spent", "I", false)
def ty_H : Nat → FieldType := fun k => match k with
  | 0 => .int
  | 1 => .object "TurnHost$Machine"
  | 2 => .object "TurnHost$Program"
  | 3 => .object "TurnHost$Society"
  | _ => .int
theorem n_H : ∀ a, a < 5 → ∀ b, b < 5 → a ≠ b → (F_H a).2.1 ≠ (F_H b).2.1 := by decide +kernel
theorem ty_H_ok : ∀ k, k < 5 → parseFieldDescriptor (F_H k).2.2.1 = some (ty_H k) := by decide +kernel
def R_N : String := "TurnHostModel"
def F_N : u_T := fun k => match k with
  | 0 => ("TurnHostModel", "quota", "I", true)
  | 1 => ("TurnHostModel", "size", "I", false)
  | 2 => ("TurnHostModel", "op", "[I", true)
  | 3 => ("TurnHostModel", "one", "[I", true)
  | 4 => ("TurnHostModel", "two", "[I", true)
  | 5 => ("TurnHostModel", "three", "[I", true)
  | 6 => ("TurnHostModel", "table", "[I", true)
  | 7 => ("TurnHostModel", "count", "I", false)
  | 8 => ("TurnHostModel", "state", "[I", true)
  | 9 => ("TurnHostModel", "place", "[I", true)
  | 10 => ("TurnHostModel", "mark", "[I", true)
  | 11 => ("TurnHostModel", "messages", "[I", true)
  | 12 => ("TurnHostModel", "calls", "[I", true)
  | 13 => ("TurnHostModel", "returns", "[I", true)
  | 14 => ("TurnHostModel", "links", "[I", true)
  | 15 => ("TurnHostModel", "traps", "[Z", true)
  | 16 => ("TurnHostModel", "done", "[I", true)
  | 17 => ("TurnHostModel", "waiting", "I", false)
  | 18 => ("TurnHostModel", "row", "[I", true)
  | 19 => ("TurnHostModel", "used", "I", false)
  | 20 => ("TurnHostModel", "telling", "[I", true)
  | _ => ("TurnHostModel", "next", "[I", true)
def ty_N : Nat → FieldType := fun k => match k with
  | 0 => .int
  | 1 => .int
  | 2 => .array .int
  | 3 => .array .int
  | 4 => .array .int
  | 5 => .array .int
  | 6 => .array .int
  | 7 => .int
  | 8 => .array .int
  | 9 => .array .int
  | 10 => .array .int
  | 11 => .array .int
  | 12 => .array .int
  | 13 => .array .int
  | 14 => .array .int
  | 15 => .array .boolean
  | 16 => .array .int
  | 17 => .int
  | 18 => .array .int
  | 19 => .int
  | 20 => .array .int
  | _ => .array .int
theorem n_N : ∀ a, a < 22 → ∀ b, b < 22 → a ≠ b → (F_N a).2.1 ≠ (F_N b).2.1 := by decide +kernel
theorem ty_N_ok : ∀ k, k < 22 → parseFieldDescriptor (F_N k).2.2.1 = some (ty_N k) := by decide +kernel
abbrev classes : List vw_C := [(R_T, F_T, 5), (R_B, F_B, 3), (R_P, F_P, 12), (R_L, F_L, 2), (R_S, F_S, 5), (R_G, F_G, 2), (R_M, F_M, 2), (R_H, F_H, 5), (R_N, F_N, 22)]
def th_tys : List FieldType := [.int, .int, .object "TurnHost$Term", .object "TurnHost$HostProcess", .boolean]
def th_sts : List (String × String × String) := [("TurnHost", "LIMITS", "[I")]
abbrev th_M : Type := MethodName × ByteArray × Nat × Option FieldType
def m_H_init : th_M := (⟨"TurnHost", "<init>", "(I)V"⟩, prog_1_method_1_code, 2, none)
def m_M_init : th_M := (⟨"TurnHost$Machine", "<init>", "()V"⟩, prog_4_method_1_code, 1, none)
def m_G_init : th_M := (⟨"TurnHost$Program", "<init>", "()V"⟩, prog_6_method_1_code, 1, none)
def m_S_init : th_M := (⟨"TurnHost$Society", "<init>", "()V"⟩, prog_7_method_1_code, 2, none)
def m_P_init : th_M := (⟨"TurnHost$HostProcess", "<init>", "(I)V"⟩, prog_2_method_1_code, 2, none)
def m_T_init : th_M := (⟨"TurnHost$Term", "<init>", "(II)V"⟩, prog_8_method_1_code, 3, none)
def m_B_init : th_M := (⟨"TurnHost$Mailbox", "<init>", "()V"⟩, prog_5_method_1_code, 1, none)
def m_L_init : th_M := (⟨"TurnHost$Line", "<init>", "()V"⟩, prog_3_method_1_code, 1, none)
def m_H_add : th_M := (⟨"TurnHost", "add", "(IIII)I"⟩, prog_1_method_2_code, 5, (some FieldType.int))
def m_G_append : th_M := (⟨"TurnHost$Program", "append", "(IIII)I"⟩, prog_6_method_2_code, 7, (some FieldType.int))
def m_G_fits : th_M := (⟨"TurnHost$Program", "fits", "(II)Z"⟩, prog_6_method_3_code, 2, (some FieldType.boolean))
def m_H_begin : th_M := (⟨"TurnHost", "begin", "(II)I"⟩, prog_1_method_3_code, 4, (some FieldType.int))
def m_S_start : th_M := (⟨"TurnHost$Society", "start", "(ILTurnHost$Term;)LTurnHost$HostProcess;"⟩, prog_7_method_5_code, 4, (some (FieldType.object "TurnHost$HostProcess")))
def m_P_renew : th_M := (⟨"TurnHost$HostProcess", "renew", "(ILTurnHost$Term;LTurnHost$Term;)V"⟩, prog_2_method_2_code, 5, none)
def m_B_empty : th_M := (⟨"TurnHost$Mailbox", "empty", "()V"⟩, prog_5_method_2_code, 1, none)
def m_L_append : th_M := (⟨"TurnHost$Line", "append", "(I)V"⟩, prog_3_method_4_code, 2, none)
def m_H_tell : th_M := (⟨"TurnHost", "tell", "(II)Z"⟩, prog_1_method_4_code, 4, (some FieldType.boolean))
def m_S_numbered : th_M := (⟨"TurnHost$Society", "numbered", "(I)LTurnHost$HostProcess;"⟩, prog_7_method_3_code, 2, (some (FieldType.object "TurnHost$HostProcess")))
def m_S_deliver : th_M := (⟨"TurnHost$Society", "deliver", "(LTurnHost$HostProcess;LTurnHost$Term;)V"⟩, prog_7_method_6_code, 3, none)
def m_B_put : th_M := (⟨"TurnHost$Mailbox", "put", "(LTurnHost$Term;)Z"⟩, prog_5_method_5_code, 2, (some FieldType.boolean))
def m_H_run : th_M := (⟨"TurnHost", "run", "(I)I"⟩, prog_1_method_5_code, 4, (some FieldType.int))
def m_L_at : th_M := (⟨"TurnHost$Line", "at", "(I)I"⟩, prog_3_method_3_code, 2, (some FieldType.int))
def m_M_reduce : th_M := (⟨"TurnHost$Machine", "reduce", "(LTurnHost$HostProcess;)V"⟩, prog_4_method_2_code, 4, none)
def m_G_reaches : th_M := (⟨"TurnHost$Program", "reaches", "(I)Z"⟩, prog_6_method_4_code, 2, (some FieldType.boolean))
def m_S_end : th_M := (⟨"TurnHost$Society", "end", "(LTurnHost$HostProcess;LTurnHost$Term;)V"⟩, prog_7_method_10_code, 4, none)
def m_L_leave : th_M := (⟨"TurnHost$Line", "leave", "(I)V"⟩, prog_3_method_5_code, 4, none)
def m_S_untie : th_M := (⟨"TurnHost$Society", "untie", "(LTurnHost$HostProcess;LTurnHost$HostProcess;)V"⟩, prog_7_method_9_code, 3, none)
def m_S_signal : th_M := (⟨"TurnHost$Society", "signal", "(LTurnHost$HostProcess;LTurnHost$HostProcess;LTurnHost$Term;)V"⟩, prog_7_method_11_code, 4, none)
def m_S_exitNotice : th_M := (⟨"TurnHost$Society", "exitNotice", "(LTurnHost$HostProcess;LTurnHost$Term;)LTurnHost$Term;"⟩, prog_7_method_12_code, 4, (some (FieldType.object "TurnHost$Term")))
def m_T_init2 : th_M := (⟨"TurnHost$Term", "<init>", "(ILTurnHost$Term;LTurnHost$Term;)V"⟩, prog_8_method_2_code, 4, none)
def m_T_alike : th_M := (⟨"TurnHost$Term", "alike", "(LTurnHost$Term;LTurnHost$Term;)Z"⟩, prog_8_method_7_code, 2, (some FieldType.boolean))
def m_T_hasParts : th_M := (⟨"TurnHost$Term", "hasParts", "()Z"⟩, prog_8_method_4_code, 1, (some FieldType.boolean))
def m_M_perform : th_M := (⟨"TurnHost$Machine", "perform", "(LTurnHost$HostProcess;IIII)Z"⟩, prog_4_method_3_code, 7, (some FieldType.boolean))
def m_P_set : th_M := (⟨"TurnHost$HostProcess", "set", "(ILTurnHost$Term;)Z"⟩, prog_2_method_3_code, 3, (some FieldType.boolean))
def m_T_joined : th_M := (⟨"TurnHost$Term", "joined", "(ILTurnHost$Term;LTurnHost$Term;)LTurnHost$Term;"⟩, prog_8_method_3_code, 3, (some (FieldType.object "TurnHost$Term")))
def m_M_areInts : th_M := (⟨"TurnHost$Machine", "areInts", "(LTurnHost$Term;LTurnHost$Term;)Z"⟩, prog_4_method_4_code, 2, (some FieldType.boolean))
def m_M_goUnless : th_M := (⟨"TurnHost$Machine", "goUnless", "(LTurnHost$HostProcess;ZI)Z"⟩, prog_4_method_5_code, 3, (some FieldType.boolean))
def m_P_goTo : th_M := (⟨"TurnHost$HostProcess", "goTo", "(I)Z"⟩, prog_2_method_4_code, 2, (some FieldType.boolean))
def m_P_pushReturn : th_M := (⟨"TurnHost$HostProcess", "pushReturn", "()Z"⟩, prog_2_method_5_code, 1, (some FieldType.boolean))
def m_M_goBack : th_M := (⟨"TurnHost$Machine", "goBack", "(LTurnHost$HostProcess;)Z"⟩, prog_4_method_6_code, 2, (some FieldType.boolean))
def m_S_bearing : th_M := (⟨"TurnHost$Society", "bearing", "(LTurnHost$Term;)LTurnHost$HostProcess;"⟩, prog_7_method_4_code, 2, (some (FieldType.object "TurnHost$HostProcess")))
def m_M_send : th_M := (⟨"TurnHost$Machine", "send", "(LTurnHost$HostProcess;LTurnHost$Term;)Z"⟩, prog_4_method_7_code, 3, (some FieldType.boolean))
def m_B_marked : th_M := (⟨"TurnHost$Mailbox", "marked", "()LTurnHost$Term;"⟩, prog_5_method_4_code, 1, (some (FieldType.object "TurnHost$Term")))
def m_B_at : th_M := (⟨"TurnHost$Mailbox", "at", "(I)LTurnHost$Term;"⟩, prog_5_method_3_code, 2, (some (FieldType.object "TurnHost$Term")))
def m_B_take : th_M := (⟨"TurnHost$Mailbox", "take", "()Z"⟩, prog_5_method_6_code, 2, (some FieldType.boolean))
def m_M_passOver : th_M := (⟨"TurnHost$Machine", "passOver", "(LTurnHost$HostProcess;I)Z"⟩, prog_4_method_8_code, 2, (some FieldType.boolean))
def m_M_waitOrGoOn : th_M := (⟨"TurnHost$Machine", "waitOrGoOn", "(LTurnHost$HostProcess;I)Z"⟩, prog_4_method_9_code, 3, (some FieldType.boolean))
def m_S_suspend : th_M := (⟨"TurnHost$Society", "suspend", "(LTurnHost$HostProcess;)V"⟩, prog_7_method_7_code, 2, none)
def m_M_spawn : th_M := (⟨"TurnHost$Machine", "spawn", "(LTurnHost$HostProcess;IILTurnHost$Term;)Z"⟩, prog_4_method_10_code, 6, (some FieldType.boolean))
def m_M_link : th_M := (⟨"TurnHost$Machine", "link", "(LTurnHost$HostProcess;LTurnHost$HostProcess;)Z"⟩, prog_4_method_11_code, 3, (some FieldType.boolean))
def m_S_tie : th_M := (⟨"TurnHost$Society", "tie", "(LTurnHost$HostProcess;LTurnHost$HostProcess;)V"⟩, prog_7_method_8_code, 3, none)
def m_M_trap : th_M := (⟨"TurnHost$Machine", "trap", "(LTurnHost$HostProcess;Z)Z"⟩, prog_4_method_12_code, 2, (some FieldType.boolean))
def m_M_finish : th_M := (⟨"TurnHost$Machine", "finish", "(LTurnHost$HostProcess;LTurnHost$Term;)Z"⟩, prog_4_method_13_code, 3, (some FieldType.boolean))
def m_M_stop : th_M := (⟨"TurnHost$Machine", "stop", "(LTurnHost$HostProcess;LTurnHost$HostProcess;)Z"⟩, prog_4_method_14_code, 3, (some FieldType.boolean))
def m_H_countInTurn : th_M := (⟨"TurnHost", "countInTurn", "(LTurnHost$HostProcess;)V"⟩, prog_1_method_13_code, 2, none)
def m_H_clear : th_M := (⟨"TurnHost", "clear", "(Z)I"⟩, prog_1_method_6_code, 3, (some FieldType.int))
def m_S_dissolve : th_M := (⟨"TurnHost$Society", "dissolve", "()V"⟩, prog_7_method_2_code, 1, none)
def m_L_empty : th_M := (⟨"TurnHost$Line", "empty", "()V"⟩, prog_3_method_2_code, 1, none)
def m_G_wipe : th_M := (⟨"TurnHost$Program", "wipe", "()V"⟩, prog_6_method_5_code, 1, none)
def m_H_process : th_M := (⟨"TurnHost", "process", "(II)I"⟩, prog_1_method_7_code, 4, (some FieldType.int))
def m_P_answer : th_M := (⟨"TurnHost$HostProcess", "answer", "(I)I"⟩, prog_2_method_6_code, 2, (some FieldType.int))
def m_H_queue : th_M := (⟨"TurnHost", "queue", "(I)I"⟩, prog_1_method_8_code, 2, (some FieldType.int))
def m_H_processes : th_M := (⟨"TurnHost", "processes", "()I"⟩, prog_1_method_9_code, 1, (some FieldType.int))
def m_H_term : th_M := (⟨"TurnHost", "term", "(II)I"⟩, prog_1_method_10_code, 4, (some FieldType.int))
def m_H_termOf : th_M := (⟨"TurnHost", "termOf", "(II)LTurnHost$Term;"⟩, prog_1_method_12_code, 4, (some (FieldType.object "TurnHost$Term")))
def m_P_termAt : th_M := (⟨"TurnHost$HostProcess", "termAt", "(I)LTurnHost$Term;"⟩, prog_2_method_7_code, 2, (some (FieldType.object "TurnHost$Term")))
def m_T_summary : th_M := (⟨"TurnHost$Term", "summary", "()I"⟩, prog_8_method_6_code, 2, (some FieldType.int))
def m_T_hasNumber : th_M := (⟨"TurnHost$Term", "hasNumber", "()Z"⟩, prog_8_method_5_code, 1, (some FieldType.boolean))
def m_J_floorMod : th_M := (⟨"java/lang/Math", "floorMod", "(II)I"⟩, prog_11_method_50_code, 3, (some FieldType.int))
def m_H_digest : th_M := (⟨"TurnHost", "digest", "(II)I"⟩, prog_1_method_11_code, 4, (some FieldType.int))
def m_T_mixed : th_M := (⟨"TurnHost$Term", "mixed", "(ILTurnHost$Term;)I"⟩, prog_8_method_8_code, 3, (some FieldType.int))
def m_W_cell : th_M := (⟨"TurnHostLaw", "cell", "([II)I"⟩, method_2_code, 2, (some FieldType.int))
def m_N_init : th_M := (⟨"TurnHostModel", "<init>", "(I)V"⟩, prog_10_method_1_code, 2, none)
def m_N_add : th_M := (⟨"TurnHostModel", "add", "(IIII)I"⟩, prog_10_method_16_code, 6, (some FieldType.int))
def m_N_in : th_M := (⟨"TurnHostModel", "in", "(III)Z"⟩, prog_10_method_2_code, 3, (some FieldType.boolean))
def m_N_firstNeeds : th_M := (⟨"TurnHostModel", "firstNeeds", "(I)I"⟩, prog_10_method_13_code, 1, (some FieldType.int))
def m_N_isRight : th_M := (⟨"TurnHostModel", "isRight", "(II)Z"⟩, prog_10_method_12_code, 2, (some FieldType.boolean))
def m_N_secondNeeds : th_M := (⟨"TurnHostModel", "secondNeeds", "(I)I"⟩, prog_10_method_14_code, 1, (some FieldType.int))
def m_N_thirdNeeds : th_M := (⟨"TurnHostModel", "thirdNeeds", "(I)I"⟩, prog_10_method_15_code, 1, (some FieldType.int))
def m_N_begin : th_M := (⟨"TurnHostModel", "begin", "(II)I"⟩, prog_10_method_31_code, 3, (some FieldType.int))
def m_N_put : th_M := (⟨"TurnHostModel", "put", "(III)V"⟩, prog_10_method_4_code, 4, none)
def m_N_start : th_M := (⟨"TurnHostModel", "start", "(II)I"⟩, prog_10_method_24_code, 5, (some FieldType.int))
def m_N_copy : th_M := (⟨"TurnHostModel", "copy", "(II)V"⟩, prog_10_method_3_code, 4, none)
def m_N_come : th_M := (⟨"TurnHostModel", "come", "(I)V"⟩, prog_10_method_17_code, 2, none)
def m_N_tell : th_M := (⟨"TurnHostModel", "tell", "(II)Z"⟩, prog_10_method_32_code, 3, (some FieldType.boolean))
def m_N_deliver : th_M := (⟨"TurnHostModel", "deliver", "(II)V"⟩, prog_10_method_19_code, 3, none)
def m_N_run : th_M := (⟨"TurnHostModel", "run", "(I)I"⟩, prog_10_method_33_code, 5, (some FieldType.int))
def m_N_step : th_M := (⟨"TurnHostModel", "step", "(I)V"⟩, prog_10_method_30_code, 5, none)
def m_N_make : th_M := (⟨"TurnHostModel", "make", "(IIIII)Z"⟩, prog_10_method_25_code, 9, (some FieldType.boolean))
def m_N_weight : th_M := (⟨"TurnHostModel", "weight", "(I)I"⟩, prog_10_method_7_code, 2, (some FieldType.int))
def m_N_addParts : th_M := (⟨"TurnHostModel", "addParts", "(IIII)V"⟩, prog_10_method_6_code, 6, none)
def m_N_sortOf : th_M := (⟨"TurnHostModel", "sortOf", "(II)I"⟩, prog_10_method_8_code, 3, (some FieldType.int))
def m_N_numberOf : th_M := (⟨"TurnHostModel", "numberOf", "(II)I"⟩, prog_10_method_9_code, 3, (some FieldType.int))
def m_N_append : th_M := (⟨"TurnHostModel", "append", "(III)V"⟩, prog_10_method_5_code, 5, none)
def m_N_behind : th_M := (⟨"TurnHostModel", "behind", "(II)I"⟩, prog_10_method_10_code, 5, (some FieldType.int))
def m_N_branch : th_M := (⟨"TurnHostModel", "branch", "(IIIII)Z"⟩, prog_10_method_26_code, 8, (some FieldType.boolean))
def m_N_isSame : th_M := (⟨"TurnHostModel", "isSame", "(II)Z"⟩, prog_10_method_11_code, 5, (some FieldType.boolean))
def m_N_endBy : th_M := (⟨"TurnHostModel", "endBy", "(II)V"⟩, prog_10_method_23_code, 3, none)
def m_N_end : th_M := (⟨"TurnHostModel", "end", "(II)V"⟩, prog_10_method_22_code, 6, none)
def m_N_stop : th_M := (⟨"TurnHostModel", "stop", "(II)V"⟩, prog_10_method_21_code, 3, none)
def m_N_leave : th_M := (⟨"TurnHostModel", "leave", "(I)V"⟩, prog_10_method_18_code, 4, none)
def m_N_signal : th_M := (⟨"TurnHostModel", "signal", "(III)Z"⟩, prog_10_method_20_code, 4, (some FieldType.boolean))
def m_N_mail : th_M := (⟨"TurnHostModel", "mail", "(IIII)Z"⟩, prog_10_method_28_code, 8, (some FieldType.boolean))
def m_N_named : th_M := (⟨"TurnHostModel", "named", "(I)I"⟩, prog_10_method_27_code, 2, (some FieldType.int))
def m_N_life : th_M := (⟨"TurnHostModel", "life", "(IIIII)Z"⟩, prog_10_method_29_code, 8, (some FieldType.boolean))
def m_N_clear : th_M := (⟨"TurnHostModel", "clear", "(Z)I"⟩, prog_10_method_34_code, 3, (some FieldType.int))
def m_N_process : th_M := (⟨"TurnHostModel", "process", "(II)I"⟩, prog_10_method_35_code, 3, (some FieldType.int))
def m_N_queue : th_M := (⟨"TurnHostModel", "queue", "(I)I"⟩, prog_10_method_36_code, 2, (some FieldType.int))
def m_N_processes : th_M := (⟨"TurnHostModel", "processes", "()I"⟩, prog_10_method_37_code, 1, (some FieldType.int))
def m_N_term : th_M := (⟨"TurnHostModel", "term", "(II)I"⟩, prog_10_method_39_code, 5, (some FieldType.int))
def m_N_isTerm : th_M := (⟨"TurnHostModel", "isTerm", "(II)Z"⟩, prog_10_method_38_code, 3, (some FieldType.boolean))
def m_N_digest : th_M := (⟨"TurnHostModel", "digest", "(II)I"⟩, prog_10_method_40_code, 6, (some FieldType.int))
end
section
/-! The typed heap, and the judgement Xw over it: the machine's W with its context put away; a rule an instruction. -/
abbrev th_K : Type := Nat ⊕ (Nat × Nat)
abbrev th_H : Type := (Nat → Option th_K) × (Nat → Nat → Nat → Value) × (Nat → Nat → Nat → Value) × Nat
/-- the kind of a cell: an object of a class (its number), an array (its type's number, its length; 0: ints that nobody writes) -/
def gk (h : th_H) : Nat → Option th_K := h.1
def gF (h : th_H) : Nat → Nat → Nat → Value := h.2.1
def gA (h : th_H) : Nat → Nat → Nat → Value := h.2.2.1
def gz (h : th_H) : Nat := h.2.2.2
def up3 (f : Nat → Nat → Nat → Value) (i j k : Nat) (v : Value) : Nat → Nat → Nat → Value := fun a b c => if a = i ∧ b = j ∧ c = k then v else f a b c
def gpF (h : th_H) (ci k a : Nat) (v : Value) : th_H := (gk h, up3 (gF h) ci k a v, gA h, gz h)
def gpA (h : th_H) (t a i : Nat) (v : Value) : th_H := (gk h, gF h, up3 (gA h) t a i v, gz h)
def gnO (h : th_H) (ci : Nat) (dv : Nat → Value) : th_H := (va_up (gk h) (gz h) (some (.inl ci)), fun c k a => if c = ci ∧ a = gz h then dv k else gF h c k a, gA h, gz h + 1)
def gnA (h : th_H) (t n : Nat) (d : Value) : th_H := (va_up (gk h) (gz h) (some (.inr (t, n))), gF h, fun t' a i => if t' = t ∧ a = gz h then d else gA h t' a i, gz h + 1)
theorem gk_pF (h : th_H) (ci k a : Nat) (v : Value) : gk (gpF h ci k a v) = gk h := rfl
theorem gA_pF (h : th_H) (ci k a : Nat) (v : Value) : gA (gpF h ci k a v) = gA h := rfl
theorem gz_pF (h : th_H) (ci k a : Nat) (v : Value) : gz (gpF h ci k a v) = gz h := rfl
theorem gF_pF (h : th_H) (ci k a : Nat) (v : Value) (c' k' a' : Nat) : gF (gpF h ci k a v) c' k' a' = if c' = ci ∧ k' = k ∧ a' = a then v else gF h c' k' a' := rfl
theorem gk_pA (h : th_H) (t a i : Nat) (v : Value) : gk (gpA h t a i v) = gk h := rfl
theorem gF_pA (h : th_H) (t a i : Nat) (v : Value) : gF (gpA h t a i v) = gF h := rfl
theorem gz_pA (h : th_H) (t a i : Nat) (v : Value) : gz (gpA h t a i v) = gz h := rfl
theorem gA_pA (h : th_H) (t a i : Nat) (v : Value) (t' a' i' : Nat) : gA (gpA h t a i v) t' a' i' = if t' = t ∧ a' = a ∧ i' = i then v else gA h t' a' i' := rfl
theorem gk_nO (h : th_H) (ci : Nat) (dv : Nat → Value) (a : Nat) : gk (gnO h ci dv) a = if a = gz h then some (.inl ci) else gk h a := rfl
theorem gF_nO (h : th_H) (ci : Nat) (dv : Nat → Value) (c k a : Nat) : gF (gnO h ci dv) c k a = if c = ci ∧ a = gz h then dv k else gF h c k a := rfl
theorem gA_nO (h : th_H) (ci : Nat) (dv : Nat → Value) : gA (gnO h ci dv) = gA h := rfl
theorem gz_nO (h : th_H) (ci : Nat) (dv : Nat → Value) : gz (gnO h ci dv) = gz h + 1 := rfl
theorem gk_nA (h : th_H) (t n : Nat) (d : Value) (a : Nat) : gk (gnA h t n d) a = if a = gz h then some (.inr (t, n)) else gk h a := rfl
theorem gF_nA (h : th_H) (t n : Nat) (d : Value) : gF (gnA h t n d) = gF h := rfl
theorem gA_nA (h : th_H) (t n : Nat) (d : Value) (t' a i : Nat) : gA (gnA h t n d) t' a i = if t' = t ∧ a = gz h then d else gA h t' a i := rfl
theorem gz_nA (h : th_H) (t n : Nat) (d : Value) : gz (gnA h t n d) = gz h + 1 := rfl
/-- what is fixed through a run: numbers of the classes, their slots, the array classes, the first new cell, what the static fields hold -/
abbrev th_E : Type := (Nat → ClassId) × (Nat → Nat → Nat) × (Nat → ClassId) × Nat × (Nat → Value)
def th_ty (E : th_E) : List (ClassId × FieldType) := th_tys.zipIdx.map (fun q => (E.2.2.1 q.2, q.1))
theorem th_ty_at {E : th_E} {t : Nat} {ty : FieldType} (h : th_tys[t]? = some ty) : (th_ty E)[t]? = some (E.2.2.1 t, ty) := by
  simp [th_ty, h]
def th_A (E : th_E) : Nat → Prop := fun q => E.2.2.2.1 ≤ q
def th_cell (E : th_E) (U : State) (h : th_H) (H : Heap) (a : Nat) : th_K → Prop
  | .inl ci => E.2.2.2.1 ≤ a ∧ ∃ r : vw_C, classes[ci]? = some r ∧ t_OB a (E.1 ci) r.2.2 (E.2.1 ci) H (fun j => gF h ci j a)
  | .inr (0, n) => ∃ scr : Cell, H[a]? = some scr ∧ U.isArrayOf scr .int ∧ scr.vm ≠ .unknown ∧ scr.slots.size = n ∧ ∀ j : Nat, j < n → scr.slots[j]? = some (gA h 0 a j)
  | .inr (t + 1, n) => E.2.2.2.1 ≤ a ∧ H[a]? = some (arrV (E.2.2.1 (t + 1)) n (gA h (t + 1) a))
def th_P (E : th_E) (U : State) (h : th_H) (H : Heap) : Prop := (H.size = gz h ∧ E.2.2.2.1 ≤ gz h) ∧ ∀ (a : Nat) (k : th_K), gk h a = some k → th_cell E U h H a k
theorem th_cell.lt {E : th_E} {U : State} {h : th_H} {H : Heap} {a : Nat} {k : th_K} (q : th_cell E U h H a k) : a < H.size := by
  match k, q with
  | .inl ci, ⟨_, r, _, c9, q2, _⟩ => exact (Array.getElem?_eq_some_iff.mp q2).1
  | .inr (0, n), ⟨scr, q2, _⟩ => exact (Array.getElem?_eq_some_iff.mp q2).1
  | .inr (t + 1, n), ⟨_, q2⟩ => exact (Array.getElem?_eq_some_iff.mp q2).1
theorem th_P.lt {E : th_E} {U : State} {h : th_H} {H : Heap} {a : Nat} {k : th_K} (q : th_P E U h H) (ha : gk h a = some k) : a < gz h := by
  have := (q.2 a k ha).lt
  rw [q.1.1] at this
  exact this
/-- a cell that isn't touched, in a heap and a picture that say the same of it -/
theorem th_cell.kept {E : th_E} {U : State} {h h1 : th_H} {H H1 : Heap} {a : Nat} {k : th_K} (q : th_cell E U h H a k) (e : H1[a]? = H[a]?) (eF : ∀ ci, k = .inl ci → ∀ j, gF h1 ci j a = gF h ci j a) (eA : ∀ t n, k = .inr (t, n) → ∀ j, gA h1 t a j = gA h t a j) : th_cell E U h1 H1 a k := by
  match k, q with
  | .inl ci, ⟨q0, r, q1, q2⟩ => exact ⟨q0, r, q1, (q2.kept e).to (fun j _ => (eF ci rfl j).symm)⟩
  | .inr (0, n), ⟨scr, q1, q2, q3, q4, q5⟩ => exact ⟨scr, by rw [e]; exact q1, q2, q3, q4, fun j hj => by rw [eA 0 n rfl j]; exact q5 j hj⟩
  | .inr (t + 1, n), ⟨q0, q1⟩ =>
    refine ⟨q0, ?_⟩
    rw [e, q1]
    congr 1
    congr 1
    funext j
    exact (eA (t + 1) n rfl j).symm
theorem th_P.moved {E : th_E} {u U : State} {h : th_H} {H : Heap} (hvm : u.vm.Alike U.vm) (q : th_P E u h H) : th_P E U h H := by
  refine ⟨q.1, fun a k ha => ?_⟩
  have := q.2 a k ha
  match k, this with
  | .inl ci, z => exact z
  | .inr (0, n), ⟨scr, q1, q2, q3⟩ => exact ⟨scr, q1, State.isArrayOf_alike hvm q2, q3⟩
  | .inr (t + 1, n), z => exact z
theorem th_P.putF {E : th_E} {U : State} {h : th_H} {H H1 : Heap} {a ci k : Nat} {v : Value} (q : th_P E U h H) (ha : gk h a = some (.inl ci)) (z : H1.size = H.size) (oq : ∀ b : Nat, b ≠ a → H1[b]? = H[b]?) (r : vw_C) (hr : classes[ci]? = some r) (hn : t_OB a (E.1 ci) r.2.2 (E.2.1 ci) H1 (updV (fun j => gF h ci j a) k v)) : th_P E U (gpF h ci k a v) H1 := by
  refine ⟨⟨by rw [z, gz_pF]; exact q.1.1, q.1.2⟩, fun b kb hb => ?_⟩
  rw [gk_pF] at hb
  by_cases hba : b = a
  · subst hba
    rw [ha] at hb
    cases hb
    refine ⟨(q.2 b _ ha).1, r, hr, hn.to (fun j _ => ?_)⟩
    show (if j = k then v else _) = _
    rw [gF_pF]
    by_cases hj : j = k <;> simp [hj]
  · refine (q.2 b kb hb).kept (oq b hba) (fun ci' _ j => ?_) (fun t n _ j => rfl)
    rw [gF_pF]
    simp [hba]
theorem th_P.putA {E : th_E} {U : State} {h : th_H} {H H1 : Heap} {a t n i : Nat} {v : Value} (q : th_P E U h H) (ha : gk h a = some (.inr (t + 1, n))) (z : H1.size = H.size) (oq : ∀ b : Nat, b ≠ a → H1[b]? = H[b]?) (hn : H1[a]? = some ((arrV (E.2.2.1 (t + 1)) n (gA h (t + 1) a)).setSlot i v)) : th_P E U (gpA h (t + 1) a i v) H1 := by
  refine ⟨⟨by rw [z, gz_pA]; exact q.1.1, q.1.2⟩, fun b kb hb => ?_⟩
  rw [gk_pA] at hb
  by_cases hba : b = a
  · subst hba
    rw [ha] at hb
    cases hb
    refine ⟨(q.2 b _ ha).1, ?_⟩
    rw [hn, arrV_store]
    congr 2
    funext j
    rw [gA_pA]
    by_cases hj : j = i <;> simp [updV, hj]
  · refine (q.2 b kb hb).kept (oq b hba) (fun ci' _ j => rfl) (fun t' n' _ j => ?_)
    rw [gA_pA]
    simp [hba]
theorem th_P.newO {E : th_E} {U : State} {h : th_H} {H H1 : Heap} {ci : Nat} {dv : Nat → Value} (q : th_P E U h H) (z : H1.size = H.size + 1) (oq : ∀ b : Nat, b < H.size → H1[b]? = H[b]?) (r : vw_C) (hr : classes[ci]? = some r) (hn : t_OB H.size (E.1 ci) r.2.2 (E.2.1 ci) H1 dv) : th_P E U (gnO h ci dv) H1 := by
  refine ⟨⟨by rw [z, gz_nO, q.1.1], by rw [gz_nO]; exact Nat.le_succ_of_le q.1.2⟩, fun b kb hb => ?_⟩
  rw [gk_nO] at hb
  by_cases hba : b = gz h
  · subst hba
    rw [if_pos rfl] at hb
    cases hb
    rw [q.1.1] at hn
    exact ⟨q.1.2, r, hr, hn.to (fun j _ => by rw [gF_nO]; simp)⟩
  · rw [if_neg hba] at hb
    have hq := q.2 b kb hb
    refine hq.kept (oq b hq.lt) (fun ci' _ j => ?_) (fun t n _ j => rfl)
    rw [gF_nO]
    simp [hba]
theorem th_P.newA {E : th_E} {U : State} {h : th_H} {H H1 : Heap} {t n : Nat} {d : Value} (q : th_P E U h H) (z : H1.size = H.size + 1) (oq : ∀ b : Nat, b < H.size → H1[b]? = H[b]?) (hn : H1[H.size]? = some (arrV (E.2.2.1 (t + 1)) n (fun _ => d))) : th_P E U (gnA h (t + 1) n d) H1 := by
  refine ⟨⟨by rw [z, gz_nA, q.1.1], by rw [gz_nA]; exact Nat.le_succ_of_le q.1.2⟩, fun b kb hb => ?_⟩
  rw [gk_nA] at hb
  by_cases hba : b = gz h
  · subst hba
    rw [if_pos rfl] at hb
    cases hb
    rw [q.1.1] at hn
    refine ⟨q.1.2, ?_⟩
    rw [hn]
    congr 2
    funext j
    rw [gA_nA]
    simp
  · rw [if_neg hba] at hb
    have hq := q.2 b kb hb
    refine hq.kept (oq b hq.lt) (fun ci' _ j => rfl) (fun t n _ j => ?_)
    rw [gA_nA]
    simp [hba]
/-- the tables' words that ride along everywhere -/
def th_gd (w : Jvm.Cond) : Bool := (w.onTables && w.keeps) || (match w with | .arrayClass _ => true | _ => false)
def th_tb : List Jvm.Cond := lw_tbl.filter th_gd
theorem th_tb_good {w : Jvm.Cond} (h : w ∈ th_tb) : (w.onTables && w.keeps) = true ∨ ∃ ty, w = .arrayClass ty := by
  have h2 := (List.mem_filter.mp h).2
  unfold th_gd at h2
  rw [Bool.or_eq_true] at h2
  rcases h2 with h2 | h2
  · exact Or.inl h2
  · right
    split at h2
    · exact ⟨_, rfl⟩
    · cases h2
/-- what holds of the tables at every state of the run -/
def th_C (E : th_E) (U : State) : Prop := va_K (E.1, E.2.1) classes (th_ty E) U ∧ (∀ a i b n d g, Jvm.Cond.fieldLinkNest a i b n d g ∈ lw_tbl → va_Nw (.fieldLinkNest a i b n d g) U) ∧ (∀ a i x g, Jvm.Cond.methodLinkNest a i x g ∈ lw_tbl → va_Nw (.methodLinkNest a i x g) U) ∧ (∀ C, Jvm.Cond.arrayOver (.object C) ∈ lw_tbl → va_AO C U)
theorem th_C.warm {E : th_E} {s U : State} (hW : s.WarmedH U.vm) (h : th_C E s) : th_C E U := ⟨va_K.moved hW.alike h.1, fun a i b n d g q => va_Nw.warmF hW (h.2.1 a i b n d g q), fun a i x g q => va_Nw.warmM hW (h.2.2.1 a i x g q), fun C q => (h.2.2.2 C q).moved hW.alike⟩
theorem th_C.same {E : th_E} {s U : State} (hv : s.vm = U.vm) (h : th_C E s) : th_C E U := ⟨va_K.moved (by rw [hv]; exact Vm.Alike.refl _) h.1, fun a i b n d g q => va_Nw.same rfl hv (h.2.1 a i b n d g q), fun a i x g q => va_Nw.same rfl hv (h.2.2.1 a i x g q), fun C q => (h.2.2.2 C q).moved (by rw [hv]; exact Vm.Alike.refl _)⟩
def th_Z (E : th_E) (U : State) (H : Heap) : Prop := ∀ (k : Nat) (q : String × String × String), th_sts[k]? = some q → va_Z q.1 q.2.1 q.2.2 (E.2.2.2.2 k) (th_A E) U H
/-- a state that the picture h speaks of -/
def th_S (E : th_E) (h : th_H) (U : State) : Prop := th_P E U h U.heap ∧ th_C E U ∧ th_Z E U U.heap
def th_ws (M : th_M) : List Jvm.Cond := .code M.1 M.2.1 M.2.2.1 M.2.2.2 :: th_tb
def th_X (E : th_E) (M : th_M) (p : Program) (s : State) (m : MethodId) (args : Array Value) (meth : Method) (c : Code) : Prop :=
  p.tables.exec = Jvm.exec ∧ c.code = M.2.1 ∧ c.maxLocals = M.2.2.1 ∧ s.vm.findClass M.1.cls = some m.cls ∧ (∀ w ∈ th_tb, w.before args s = true) ∧ meth.sig.returnType = M.2.2.2 ∧ meth.locks = false ∧ meth.name = M.1.name ∧ th_C E s ∧ th_Z E s s.heap
def th_L (ls : Array Slot) (n : Nat) (L : List (Option Value)) : Prop := L.length = n ∧ ∃ lv : List (Nat × Value), lv_has ls n lv ∧ ∀ (i : Nat) (v : Value), L[i]? = some (some v) → (i, v) ∈ lv ∧ v.category = 1
theorem th_L.at {ls : Array Slot} {n : Nat} {L : List (Option Value)} (h : th_L ls n L) {i : Nat} {v : Value} (hi : L[i]? = some (some v)) : ls[i]? = some (.val v) := by
  obtain ⟨-, lv, h1, h2⟩ := h
  exact h1.2.2 (i, v) (h2 i v hi).1
theorem th_L.set {ls : Array Slot} {n : Nat} {L : List (Option Value)} {lv : List (Nat × Value)} {i : Nat} {v : Value} (hL : L.length = n) (h2 : ∀ (i : Nat) (v : Value), L[i]? = some (some v) → (i, v) ∈ lv ∧ v.category = 1) (hc : v.category = 1) (hi : i < n)
    (h' : lv_has ls n ((i, v) :: lv.filter (fun q => !(q.1 == i) && !(q.1 + 1 == i && q.2.category == 2)))) : th_L ls n (L.set i (some v)) := by
  refine ⟨by rw [List.length_set]; exact hL, _, h', fun j w hj => ?_⟩
  by_cases hij : i = j
  · subst hij
    rw [List.getElem?_set_self (by omega)] at hj
    cases hj
    exact ⟨List.mem_cons_self, hc⟩
  · rw [List.getElem?_set_ne hij] at hj
    obtain ⟨q1, q2⟩ := h2 j w hj
    refine ⟨List.mem_cons_of_mem _ (List.mem_filter.mpr ⟨q1, ?_⟩), q2⟩
    simp [q2, Ne.symm hij]
/-- the instruction at pc gives back v -/
def th_R (M : th_M) (pc : Nat) (v : Option Value) : Prop :=
  (v = none ∧ M.2.2.2 = none ∧ decode M.2.1 pc = .ok (.return_, 1)) ∨
  (∃ (x : Int32) (ty : FieldType), v = some (.int x) ∧ M.2.2.2 = some ty ∧ narrow ty (.int x) = .int x ∧ decode M.2.1 pc = .ok (.ireturn, 1)) ∨
  (∃ (w : Value) (ty : FieldType), v = some w ∧ M.2.2.2 = some ty ∧ ((∃ n, ty = .object n) ∨ ∃ t, ty = .array t) ∧ (w = .null ∨ ∃ a, w = .ref a) ∧ decode M.2.1 pc = .ok (.areturn, 1))
def th_Y (E : th_E) (M : th_M) (d cz cs : Nat) (L : List (Option Value)) (h : th_H) (Post : Option Value → th_H → Prop) (p : Program) (l : Launch) (e : Env) (R : Room) (s : State) (m : MethodId) (args : Array Value) (below : List Frame) (meth : Method) (c : Code) (H : Heap) (locs : List Loc) (cells slots : Nat) (ls : Array Slot) (Q : State → Prop) : Prop :=
  th_X E M p s m args meth c ∧ th_P E s h H ∧ va_S (th_A E) s.heap H locs ∧ th_L ls M.2.2.1 L ∧ (d ≤ R.frames ∧ 64 * d ≤ R.locals) ∧ (cells + cz ≤ R.cells ∧ slots + cs ≤ R.slots) ∧
  ∀ (v : Option Value) (h' : th_H) (pc' : Nat) (ls' : Array Slot) (H' : Heap) (locs' : List Loc) (cells' slots' : Nat), Post v h' → th_R M pc' v → th_P E s h' H' → va_S (th_A E) s.heap H' locs' → cells' ≤ R.cells → slots' ≤ R.slots → W p l e R s m args below meth c H' locs' cells' slots' Q (F0 m pc' ls' v.toList)
/-- method M, at pc with locals L, stack S, in the picture h, with room for d calls deep, cz cells of cs slots, comes to an end with Post -/
def Xw (E : th_E) (M : th_M) (d cz cs pc : Nat) (L : List (Option Value)) (S : List Value) (h : th_H) (Post : Option Value → th_H → Prop) : Prop :=
  ∀ (p : Program) (l : Launch) (e : Env) (R : Room) (s : State) (m : MethodId) (args : Array Value) (below : List Frame) (meth : Method) (c : Code) (H : Heap) (locs : List Loc) (cells slots : Nat) (ls : Array Slot) (Q : State → Prop),
    th_Y E M d cz cs L h Post p l e R s m args below meth c H locs cells slots ls Q → W p l e R s m args below meth c H locs cells slots Q (F0 m pc ls S)
def th_Qc (E : th_E) (Post : Option Value → th_H → Prop) : Array Value → State → Outcome → State → Prop := fun _ st oc t => ∃ (v : Option Value) (h' : th_H), oc = .returned v ∧ Post v h' ∧ th_S E h' t ∧ va_F (th_A E) st t
/-- a method's contract at arguments as and picture h -/
def Xc (E : th_E) (M : th_M) (d cz cs : Nat) (as : List Value) (h : th_H) (Post : Option Value → th_H → Prop) : Prop :=
  ∀ l : Launch, Met l M.1 (th_ws M) { frames := d, cells := cz, slots := cs, locals := 64 * d } (va_Pc as (th_S E h)) (th_Qc E Post) cz cs (th_A E)
def th_ent (M : th_M) (as : List Value) : List (Option Value) := as.map some ++ List.replicate (M.2.2.1 - as.length) none
theorem th_args_mem : ∀ (as : List Value) (k i : Nat) (v : Value), (∀ w ∈ as, w.category = 1) → as[i]? = some v → (k + i, v) ∈ lv_args k as
  | [], k, i, v, _, h => by simp at h
  | a :: as, k, 0, v, hc, h => by
    simp at h
    subst h
    simp [lv_args]
  | a :: as, k, i + 1, v, hc, h => by
    have h1 : a.category = 1 := hc a List.mem_cons_self
    simp only [List.getElem?_cons_succ] at h
    have := th_args_mem as (k + 1) i v (fun w hw => hc w (List.mem_cons_of_mem _ hw)) h
    simp only [lv_args, h1]
    refine List.mem_cons_of_mem _ ?_
    rw [if_neg (by decide), show k + (i + 1) = k + 1 + i by omega]
    exact this
theorem th_sl_len : ∀ (as : List Value), (∀ w ∈ as, w.category = 1) → (lg_sl as).length = as.length
  | [], _ => rfl
  | a :: as, hc => by
    have h1 : a.category = 1 := hc a List.mem_cons_self
    have := th_sl_len as (fun w hw => hc w (List.mem_cons_of_mem _ hw))
    simp only [lg_sl, List.flatMap_cons, h1] at this ⊢
    rw [if_neg (by decide)]
    simp only [List.length_append, List.length_cons, List.length_nil, this]
    omega
theorem th_L.entry {as : List Value} {n : Nat} (hc : ∀ w ∈ as, w.category = 1) (hn : as.length ≤ n) : th_L ((lg_sl as ++ List.replicate (n - (lg_sl as).length) Slot.unset).toArray) n (as.map some ++ List.replicate (n - as.length) none) := by
  refine ⟨by simp; omega, lv_args 0 as, lv_entry as (by rw [th_sl_len as hc]; exact hn), fun i v hi => ?_⟩
  have hi2 : as[i]? = some v := by
    by_cases hl : i < as.length
    · rw [List.getElem?_append_left (by simpa using hl), List.getElem?_map] at hi
      cases hq : as[i]? with
      | none => rw [hq] at hi; cases hi
      | some w => rw [hq] at hi; cases hi; rfl
    · rw [List.getElem?_append_right (by simpa using hl), List.getElem?_replicate] at hi
      split at hi <;> cases hi
  refine ⟨?_, hc v (List.mem_of_getElem? hi2)⟩
  have := th_args_mem as 0 i v hc hi2
  rwa [Nat.zero_add] at this
/-- a contract out of the walk from the entry -/
theorem Xc.of {E : th_E} {M : th_M} {d cz cs : Nat} {as : List Value} {h : th_H} {Post : Option Value → th_H → Prop} (hpl : plainName M.1.cls = true) (hc : ∀ w ∈ as, w.category = 1) (hn : as.length ≤ M.2.2.1) (w : Xw E M d cz cs 0 (th_ent M as) [] h Post) : Xc E M d cz cs as h Post := by
  intro l
  refine Met.ofW (cc := M.2.1) (maxL := M.2.2.1) (ret := M.2.2.2) hpl rfl ?_
  intro p e s m args below meth c s₁ B hml hv
  obtain ⟨rfl, hP, hC, hZ⟩ := hv
  have hts := atoms_spec (ws := th_ws M) B.pre
  have hown : s.vm.findClass M.1.cls = some m.cls := findClass_of_methodNamed B.named
  have hlocks : meth.locks = false := B.notSynchronized
  rw [lg_entry_eq]
  refine w p l e _ s m _ below meth c s.heap [] 0 0 _ _ ⟨⟨B.exec, B.bytes, hml, hown, fun w hw => hts w (List.mem_cons_of_mem _ hw), B.returns, hlocks, (name_of_methodNamed B.named B.method).1, hC, hZ⟩, hP, va_S.rf, th_L.entry hc hn, ⟨Nat.le_refl _, Nat.le_refl _⟩, ⟨by show 0 + cz ≤ cz; omega, by show 0 + cs ≤ cs; omega⟩, ?_⟩
  intro v h' pc' ls' H' locs' cells' slots' hp hR hP' hS' hce hsl
  have hq : ∀ t : State, t.heap = H' → s.WarmedH t.vm → th_Qc E Post as.toArray s (.returned v) t := fun t ht hW => ⟨v, h', rfl, hp, ⟨by rw [ht]; exact hP'.moved hW.alike, hC.warm hW, fun k q hk => ((hZ k q hk).moved hW.alike).kept (fun a h1 h2 => by rw [ht]; exact hS'.2.1 a h1 h2)⟩, hS'.F ht⟩
  refine W.widen (k := cz) (n := cs) hce hsl ?_
  rcases hR with ⟨rfl, hr, hdg⟩ | ⟨x, ty, rfl, hr, hnr, hdg⟩ | ⟨w2, ty, rfl, hr, hty, hw2, hdg⟩
  · exact W.vret B.exec B.bytes (B.returns.trans hr) hq hS'.2.2 hdg hlocks
  · exact W.zret B.exec B.bytes (B.returns.trans hr) hnr hq hS'.2.2 hdg hlocks
  · exact W.aret B.exec B.bytes (B.returns.trans hr) hty hw2 hq hS'.2.2 hdg hlocks
end
section
/-! Rules of Xw, an instruction a rule (printed by wip/gen/rules.py). -/
theorem x_iconst {E : th_E} {M : th_M} {d cz cs pc : Nat} {L : List (Option Value)} {S : List Value} {h : th_H} {Post : Option Value → th_H → Prop} {n : Int} {v : Int32} (hd : decode M.2.1 pc = .ok (.iconst n, 1)) (hv : Int32.ofInt n = v) (kk : Xw E M d cz cs (pc + 1) L (.int v :: S) h Post) : Xw E M d cz cs pc L S h Post := by
  intro p l e R s m args below meth c H locs cells slots ls Q Y
  exact lv_iconst Y.1.1 Y.1.2.1 hd hv (kk p l e R s m args below meth c H locs cells slots ls Q Y)
theorem x_bipush {E : th_E} {M : th_M} {d cz cs pc : Nat} {L : List (Option Value)} {S : List Value} {h : th_H} {Post : Option Value → th_H → Prop} {n : Int} {v : Int32} (hd : decode M.2.1 pc = .ok (.bipush n, 2)) (hv : (Int8.ofInt n).toInt32 = v) (kk : Xw E M d cz cs (pc + 2) L (.int v :: S) h Post) : Xw E M d cz cs pc L S h Post := by
  intro p l e R s m args below meth c H locs cells slots ls Q Y
  exact lv_bipush Y.1.1 Y.1.2.1 hd hv (kk p l e R s m args below meth c H locs cells slots ls Q Y)
theorem x_sipush {E : th_E} {M : th_M} {d cz cs pc : Nat} {L : List (Option Value)} {S : List Value} {h : th_H} {Post : Option Value → th_H → Prop} {n : Int} {v : Int32} (hd : decode M.2.1 pc = .ok (.sipush n, 3)) (hv : (Int16.ofInt n).toInt32 = v) (kk : Xw E M d cz cs (pc + 3) L (.int v :: S) h Post) : Xw E M d cz cs pc L S h Post := by
  intro p l e R s m args below meth c H locs cells slots ls Q Y
  exact lv_sipush Y.1.1 Y.1.2.1 hd hv (kk p l e R s m args below meth c H locs cells slots ls Q Y)
theorem x_null {E : th_E} {M : th_M} {d cz cs pc : Nat} {L : List (Option Value)} {S : List Value} {h : th_H} {Post : Option Value → th_H → Prop}  (hd : decode M.2.1 pc = .ok (.aconst_null, 1)) (kk : Xw E M d cz cs (pc + 1) L (.null :: S) h Post) : Xw E M d cz cs pc L S h Post := by
  intro p l e R s m args below meth c H locs cells slots ls Q Y
  exact lv_null Y.1.1 Y.1.2.1 hd (kk p l e R s m args below meth c H locs cells slots ls Q Y)
theorem x_ldc {E : th_E} {M : th_M} {d cz cs pc : Nat} {L : List (Option Value)} {S : List Value} {h : th_H} {Post : Option Value → th_H → Prop} {n : Nat} {v : Int32} (hd : decode M.2.1 pc = .ok (.ldc n, 2)) (hc : Jvm.Cond.constant M.1.cls n v ∈ th_tb) (kk : Xw E M d cz cs (pc + 2) L (.int v :: S) h Post) : Xw E M d cz cs pc L S h Post := by
  intro p l e R s m args below meth c H locs cells slots ls Q Y
  exact lv_ldc Y.1.1 Y.1.2.1 Y.1.2.2.2.1 (Y.1.2.2.2.2.1 _ hc) hd (kk p l e R s m args below meth c H locs cells slots ls Q Y)
theorem x_ldcw {E : th_E} {M : th_M} {d cz cs pc : Nat} {L : List (Option Value)} {S : List Value} {h : th_H} {Post : Option Value → th_H → Prop} {n : Nat} {v : Int32} (hd : decode M.2.1 pc = .ok (.ldc_w n, 3)) (hc : Jvm.Cond.constant M.1.cls n v ∈ th_tb) (kk : Xw E M d cz cs (pc + 3) L (.int v :: S) h Post) : Xw E M d cz cs pc L S h Post := by
  intro p l e R s m args below meth c H locs cells slots ls Q Y
  exact lv_ldcw Y.1.1 Y.1.2.1 Y.1.2.2.2.1 (Y.1.2.2.2.2.1 _ hc) hd (kk p l e R s m args below meth c H locs cells slots ls Q Y)
theorem x_iload_n {E : th_E} {M : th_M} {d cz cs pc : Nat} {L : List (Option Value)} {S : List Value} {h : th_H} {Post : Option Value → th_H → Prop} {k : Fin 4} {i : Nat} {x : Int32} (hd : decode M.2.1 pc = .ok (.iload_n k, 1)) (hi : (k : Nat) = i) (hl : L[i]? = some (some (.int x))) (kk : Xw E M d cz cs (pc + 1) L (.int x :: S) h Post) : Xw E M d cz cs pc L S h Post := by
  intro p l e R s m args below meth c H locs cells slots ls Q Y
  exact lv_iload_n Y.1.1 Y.1.2.1 hd hi (Y.2.2.2.1.at hl) (kk p l e R s m args below meth c H locs cells slots ls Q Y)
theorem x_iload {E : th_E} {M : th_M} {d cz cs pc : Nat} {L : List (Option Value)} {S : List Value} {h : th_H} {Post : Option Value → th_H → Prop} {i : Nat} {x : Int32} (hd : decode M.2.1 pc = .ok (.iload i, 2)) (hl : L[i]? = some (some (.int x))) (kk : Xw E M d cz cs (pc + 2) L (.int x :: S) h Post) : Xw E M d cz cs pc L S h Post := by
  intro p l e R s m args below meth c H locs cells slots ls Q Y
  exact lv_iload Y.1.1 Y.1.2.1 hd (Y.2.2.2.1.at hl) (kk p l e R s m args below meth c H locs cells slots ls Q Y)
theorem x_aload_n {E : th_E} {M : th_M} {d cz cs pc : Nat} {L : List (Option Value)} {S : List Value} {h : th_H} {Post : Option Value → th_H → Prop} {k : Fin 4} {i : Nat} {x : Nat} (hd : decode M.2.1 pc = .ok (.aload_n k, 1)) (hi : (k : Nat) = i) (hl : L[i]? = some (some (.ref x))) (kk : Xw E M d cz cs (pc + 1) L (.ref x :: S) h Post) : Xw E M d cz cs pc L S h Post := by
  intro p l e R s m args below meth c H locs cells slots ls Q Y
  exact lv_aload_n Y.1.1 Y.1.2.1 hd hi (Y.2.2.2.1.at hl) (kk p l e R s m args below meth c H locs cells slots ls Q Y)
theorem x_aload {E : th_E} {M : th_M} {d cz cs pc : Nat} {L : List (Option Value)} {S : List Value} {h : th_H} {Post : Option Value → th_H → Prop} {i : Nat} {x : Nat} (hd : decode M.2.1 pc = .ok (.aload i, 2)) (hl : L[i]? = some (some (.ref x))) (kk : Xw E M d cz cs (pc + 2) L (.ref x :: S) h Post) : Xw E M d cz cs pc L S h Post := by
  intro p l e R s m args below meth c H locs cells slots ls Q Y
  exact lv_aload Y.1.1 Y.1.2.1 hd (Y.2.2.2.1.at hl) (kk p l e R s m args below meth c H locs cells slots ls Q Y)
theorem x_aload_nN {E : th_E} {M : th_M} {d cz cs pc : Nat} {L : List (Option Value)} {S : List Value} {h : th_H} {Post : Option Value → th_H → Prop} {k : Fin 4} {i : Nat} (hd : decode M.2.1 pc = .ok (.aload_n k, 1)) (hi : (k : Nat) = i) (hl : L[i]? = some (some (.null))) (kk : Xw E M d cz cs (pc + 1) L (.null :: S) h Post) : Xw E M d cz cs pc L S h Post := by
  intro p l e R s m args below meth c H locs cells slots ls Q Y
  exact lv_aload_nN Y.1.1 Y.1.2.1 hd hi (Y.2.2.2.1.at hl) (kk p l e R s m args below meth c H locs cells slots ls Q Y)
theorem x_aloadN {E : th_E} {M : th_M} {d cz cs pc : Nat} {L : List (Option Value)} {S : List Value} {h : th_H} {Post : Option Value → th_H → Prop} {i : Nat} (hd : decode M.2.1 pc = .ok (.aload i, 2)) (hl : L[i]? = some (some (.null))) (kk : Xw E M d cz cs (pc + 2) L (.null :: S) h Post) : Xw E M d cz cs pc L S h Post := by
  intro p l e R s m args below meth c H locs cells slots ls Q Y
  exact lv_aloadN Y.1.1 Y.1.2.1 hd (Y.2.2.2.1.at hl) (kk p l e R s m args below meth c H locs cells slots ls Q Y)
theorem x_istore_n {E : th_E} {M : th_M} {d cz cs pc : Nat} {L : List (Option Value)} {S : List Value} {h : th_H} {Post : Option Value → th_H → Prop} {k : Fin 4} {i : Nat} {x : Int32} (hd : decode M.2.1 pc = .ok (.istore_n k, 1)) (hi : (k : Nat) = i) (hlt : i < M.2.2.1) {L' : List (Option Value)} (hL : L.set i (some (.int x)) = L') (kk : Xw E M d cz cs (pc + 1) L' S h Post) : Xw E M d cz cs pc L (.int x :: S) h Post := by
  intro p l e R s m args below meth c H locs cells slots ls Q Y
  obtain ⟨hX, hP, hS, ⟨hL0, lv, hl1, hl2⟩, Y5⟩ := Y
  subst hL
  exact lv_istore_n hX.1 hX.2.1 hd hi hl1 hlt rfl (fun ls' h' => kk p l e R s m args below meth c H locs cells slots ls' Q ⟨hX, hP, hS, th_L.set hL0 hl2 rfl hlt h', Y5⟩)
theorem x_istore {E : th_E} {M : th_M} {d cz cs pc : Nat} {L : List (Option Value)} {S : List Value} {h : th_H} {Post : Option Value → th_H → Prop} {i : Nat} {x : Int32} (hd : decode M.2.1 pc = .ok (.istore i, 2)) (hlt : i < M.2.2.1) {L' : List (Option Value)} (hL : L.set i (some (.int x)) = L') (kk : Xw E M d cz cs (pc + 2) L' S h Post) : Xw E M d cz cs pc L (.int x :: S) h Post := by
  intro p l e R s m args below meth c H locs cells slots ls Q Y
  obtain ⟨hX, hP, hS, ⟨hL0, lv, hl1, hl2⟩, Y5⟩ := Y
  subst hL
  exact lv_istore hX.1 hX.2.1 hd hl1 hlt rfl (fun ls' h' => kk p l e R s m args below meth c H locs cells slots ls' Q ⟨hX, hP, hS, th_L.set hL0 hl2 rfl hlt h', Y5⟩)
theorem x_astore_n {E : th_E} {M : th_M} {d cz cs pc : Nat} {L : List (Option Value)} {S : List Value} {h : th_H} {Post : Option Value → th_H → Prop} {k : Fin 4} {i : Nat} {x : Nat} (hd : decode M.2.1 pc = .ok (.astore_n k, 1)) (hi : (k : Nat) = i) (hlt : i < M.2.2.1) {L' : List (Option Value)} (hL : L.set i (some (.ref x)) = L') (kk : Xw E M d cz cs (pc + 1) L' S h Post) : Xw E M d cz cs pc L (.ref x :: S) h Post := by
  intro p l e R s m args below meth c H locs cells slots ls Q Y
  obtain ⟨hX, hP, hS, ⟨hL0, lv, hl1, hl2⟩, Y5⟩ := Y
  subst hL
  exact lv_astore_n hX.1 hX.2.1 hd hi hl1 hlt rfl (fun ls' h' => kk p l e R s m args below meth c H locs cells slots ls' Q ⟨hX, hP, hS, th_L.set hL0 hl2 rfl hlt h', Y5⟩)
theorem x_astore {E : th_E} {M : th_M} {d cz cs pc : Nat} {L : List (Option Value)} {S : List Value} {h : th_H} {Post : Option Value → th_H → Prop} {i : Nat} {x : Nat} (hd : decode M.2.1 pc = .ok (.astore i, 2)) (hlt : i < M.2.2.1) {L' : List (Option Value)} (hL : L.set i (some (.ref x)) = L') (kk : Xw E M d cz cs (pc + 2) L' S h Post) : Xw E M d cz cs pc L (.ref x :: S) h Post := by
  intro p l e R s m args below meth c H locs cells slots ls Q Y
  obtain ⟨hX, hP, hS, ⟨hL0, lv, hl1, hl2⟩, Y5⟩ := Y
  subst hL
  exact lv_astore hX.1 hX.2.1 hd hl1 hlt rfl (fun ls' h' => kk p l e R s m args below meth c H locs cells slots ls' Q ⟨hX, hP, hS, th_L.set hL0 hl2 rfl hlt h', Y5⟩)
theorem x_astore_nN {E : th_E} {M : th_M} {d cz cs pc : Nat} {L : List (Option Value)} {S : List Value} {h : th_H} {Post : Option Value → th_H → Prop} {k : Fin 4} {i : Nat} (hd : decode M.2.1 pc = .ok (.astore_n k, 1)) (hi : (k : Nat) = i) (hlt : i < M.2.2.1) {L' : List (Option Value)} (hL : L.set i (some (.null)) = L') (kk : Xw E M d cz cs (pc + 1) L' S h Post) : Xw E M d cz cs pc L (.null :: S) h Post := by
  intro p l e R s m args below meth c H locs cells slots ls Q Y
  obtain ⟨hX, hP, hS, ⟨hL0, lv, hl1, hl2⟩, Y5⟩ := Y
  subst hL
  exact lv_astore_nN hX.1 hX.2.1 hd hi hl1 hlt rfl (fun ls' h' => kk p l e R s m args below meth c H locs cells slots ls' Q ⟨hX, hP, hS, th_L.set hL0 hl2 rfl hlt h', Y5⟩)
theorem x_astoreN {E : th_E} {M : th_M} {d cz cs pc : Nat} {L : List (Option Value)} {S : List Value} {h : th_H} {Post : Option Value → th_H → Prop} {i : Nat} (hd : decode M.2.1 pc = .ok (.astore i, 2)) (hlt : i < M.2.2.1) {L' : List (Option Value)} (hL : L.set i (some (.null)) = L') (kk : Xw E M d cz cs (pc + 2) L' S h Post) : Xw E M d cz cs pc L (.null :: S) h Post := by
  intro p l e R s m args below meth c H locs cells slots ls Q Y
  obtain ⟨hX, hP, hS, ⟨hL0, lv, hl1, hl2⟩, Y5⟩ := Y
  subst hL
  exact lv_astoreN hX.1 hX.2.1 hd hl1 hlt rfl (fun ls' h' => kk p l e R s m args below meth c H locs cells slots ls' Q ⟨hX, hP, hS, th_L.set hL0 hl2 rfl hlt h', Y5⟩)
theorem x_iinc {E : th_E} {M : th_M} {d cz cs pc : Nat} {L : List (Option Value)} {S : List Value} {h : th_H} {Post : Option Value → th_H → Prop} {i : Nat} {n : Int} {x v : Int32} (hd : decode M.2.1 pc = .ok (.iinc i n, 3)) (hl : L[i]? = some (some (.int x))) (hv : x + Int32.ofInt n = v) (hlt : i < M.2.2.1) {L' : List (Option Value)} (hL : L.set i (some (.int v)) = L') (kk : Xw E M d cz cs (pc + 3) L' S h Post) : Xw E M d cz cs pc L S h Post := by
  intro p l e R s m args below meth c H locs cells slots ls Q Y
  obtain ⟨hX, hP, hS, ⟨hL0, lv, hl1, hl2⟩, Y5⟩ := Y
  subst hL
  obtain ⟨k, hk⟩ := List.getElem?_of_mem (hl2 _ _ hl).1
  exact lv_iinc hX.1 hX.2.1 hd hl1 hk hv hlt rfl (fun ls' h' => kk p l e R s m args below meth c H locs cells slots ls' Q ⟨hX, hP, hS, th_L.set hL0 hl2 rfl hlt h', Y5⟩)
theorem x_iadd {E : th_E} {M : th_M} {d cz cs pc : Nat} {L : List (Option Value)} {S : List Value} {h : th_H} {Post : Option Value → th_H → Prop} {x y v : Int32} (hd : decode M.2.1 pc = .ok (.iadd, 1)) (hv : x + y = v) (kk : Xw E M d cz cs (pc + 1) L (.int v :: S) h Post) : Xw E M d cz cs pc L (.int y :: .int x :: S) h Post := by
  intro p l e R s m args below meth c H locs cells slots ls Q Y
  subst hv
  exact lv_iadd Y.1.1 Y.1.2.1 hd (kk p l e R s m args below meth c H locs cells slots ls Q Y)
theorem x_isub {E : th_E} {M : th_M} {d cz cs pc : Nat} {L : List (Option Value)} {S : List Value} {h : th_H} {Post : Option Value → th_H → Prop} {x y v : Int32} (hd : decode M.2.1 pc = .ok (.isub, 1)) (hv : x - y = v) (kk : Xw E M d cz cs (pc + 1) L (.int v :: S) h Post) : Xw E M d cz cs pc L (.int y :: .int x :: S) h Post := by
  intro p l e R s m args below meth c H locs cells slots ls Q Y
  subst hv
  exact lv_isub Y.1.1 Y.1.2.1 hd (kk p l e R s m args below meth c H locs cells slots ls Q Y)
theorem x_imul {E : th_E} {M : th_M} {d cz cs pc : Nat} {L : List (Option Value)} {S : List Value} {h : th_H} {Post : Option Value → th_H → Prop} {x y v : Int32} (hd : decode M.2.1 pc = .ok (.imul, 1)) (hv : x * y = v) (kk : Xw E M d cz cs (pc + 1) L (.int v :: S) h Post) : Xw E M d cz cs pc L (.int y :: .int x :: S) h Post := by
  intro p l e R s m args below meth c H locs cells slots ls Q Y
  subst hv
  exact lv_imul Y.1.1 Y.1.2.1 hd (kk p l e R s m args below meth c H locs cells slots ls Q Y)
theorem x_iand {E : th_E} {M : th_M} {d cz cs pc : Nat} {L : List (Option Value)} {S : List Value} {h : th_H} {Post : Option Value → th_H → Prop} {x y v : Int32} (hd : decode M.2.1 pc = .ok (.iand, 1)) (hv : x &&& y = v) (kk : Xw E M d cz cs (pc + 1) L (.int v :: S) h Post) : Xw E M d cz cs pc L (.int y :: .int x :: S) h Post := by
  intro p l e R s m args below meth c H locs cells slots ls Q Y
  subst hv
  exact lv_iand Y.1.1 Y.1.2.1 hd (kk p l e R s m args below meth c H locs cells slots ls Q Y)
theorem x_ior {E : th_E} {M : th_M} {d cz cs pc : Nat} {L : List (Option Value)} {S : List Value} {h : th_H} {Post : Option Value → th_H → Prop} {x y v : Int32} (hd : decode M.2.1 pc = .ok (.ior, 1)) (hv : x ||| y = v) (kk : Xw E M d cz cs (pc + 1) L (.int v :: S) h Post) : Xw E M d cz cs pc L (.int y :: .int x :: S) h Post := by
  intro p l e R s m args below meth c H locs cells slots ls Q Y
  subst hv
  exact lv_ior Y.1.1 Y.1.2.1 hd (kk p l e R s m args below meth c H locs cells slots ls Q Y)
theorem x_ixor {E : th_E} {M : th_M} {d cz cs pc : Nat} {L : List (Option Value)} {S : List Value} {h : th_H} {Post : Option Value → th_H → Prop} {x y v : Int32} (hd : decode M.2.1 pc = .ok (.ixor, 1)) (hv : x ^^^ y = v) (kk : Xw E M d cz cs (pc + 1) L (.int v :: S) h Post) : Xw E M d cz cs pc L (.int y :: .int x :: S) h Post := by
  intro p l e R s m args below meth c H locs cells slots ls Q Y
  subst hv
  exact lv_ixor Y.1.1 Y.1.2.1 hd (kk p l e R s m args below meth c H locs cells slots ls Q Y)
theorem x_ishl {E : th_E} {M : th_M} {d cz cs pc : Nat} {L : List (Option Value)} {S : List Value} {h : th_H} {Post : Option Value → th_H → Prop} {x y v : Int32} (hd : decode M.2.1 pc = .ok (.ishl, 1)) (hv : x <<< (y &&& 31) = v) (kk : Xw E M d cz cs (pc + 1) L (.int v :: S) h Post) : Xw E M d cz cs pc L (.int y :: .int x :: S) h Post := by
  intro p l e R s m args below meth c H locs cells slots ls Q Y
  subst hv
  exact lv_ishl Y.1.1 Y.1.2.1 hd (kk p l e R s m args below meth c H locs cells slots ls Q Y)
theorem x_ishr {E : th_E} {M : th_M} {d cz cs pc : Nat} {L : List (Option Value)} {S : List Value} {h : th_H} {Post : Option Value → th_H → Prop} {x y v : Int32} (hd : decode M.2.1 pc = .ok (.ishr, 1)) (hv : x >>> (y &&& 31) = v) (kk : Xw E M d cz cs (pc + 1) L (.int v :: S) h Post) : Xw E M d cz cs pc L (.int y :: .int x :: S) h Post := by
  intro p l e R s m args below meth c H locs cells slots ls Q Y
  subst hv
  exact lv_ishr Y.1.1 Y.1.2.1 hd (kk p l e R s m args below meth c H locs cells slots ls Q Y)
theorem x_iushr {E : th_E} {M : th_M} {d cz cs pc : Nat} {L : List (Option Value)} {S : List Value} {h : th_H} {Post : Option Value → th_H → Prop} {x y v : Int32} (hd : decode M.2.1 pc = .ok (.iushr, 1)) (hv : (x.toUInt32 >>> (y.toUInt32 &&& Int32.toUInt32 31)).toInt32 = v) (kk : Xw E M d cz cs (pc + 1) L (.int v :: S) h Post) : Xw E M d cz cs pc L (.int y :: .int x :: S) h Post := by
  intro p l e R s m args below meth c H locs cells slots ls Q Y
  exact lv_iushr Y.1.1 Y.1.2.1 hd hv (kk p l e R s m args below meth c H locs cells slots ls Q Y)
theorem x_idiv {E : th_E} {M : th_M} {d cz cs pc : Nat} {L : List (Option Value)} {S : List Value} {h : th_H} {Post : Option Value → th_H → Prop} {x y v : Int32} (hd : decode M.2.1 pc = .ok (.idiv, 1)) (hne : ¬ y = 0) (hv : x / y = v) (kk : Xw E M d cz cs (pc + 1) L (.int v :: S) h Post) : Xw E M d cz cs pc L (.int y :: .int x :: S) h Post := by
  intro p l e R s m args below meth c H locs cells slots ls Q Y
  subst hv
  exact lv_idiv Y.1.1 Y.1.2.1 hd hne (kk p l e R s m args below meth c H locs cells slots ls Q Y)
theorem x_irem {E : th_E} {M : th_M} {d cz cs pc : Nat} {L : List (Option Value)} {S : List Value} {h : th_H} {Post : Option Value → th_H → Prop} {x y v : Int32} (hd : decode M.2.1 pc = .ok (.irem, 1)) (hne : ¬ y = 0) (hv : x - x / y * y = v) (kk : Xw E M d cz cs (pc + 1) L (.int v :: S) h Post) : Xw E M d cz cs pc L (.int y :: .int x :: S) h Post := by
  intro p l e R s m args below meth c H locs cells slots ls Q Y
  subst hv
  exact lv_irem Y.1.1 Y.1.2.1 hd hne (kk p l e R s m args below meth c H locs cells slots ls Q Y)
theorem x_ineg {E : th_E} {M : th_M} {d cz cs pc : Nat} {L : List (Option Value)} {S : List Value} {h : th_H} {Post : Option Value → th_H → Prop} {x v : Int32} (hd : decode M.2.1 pc = .ok (.ineg, 1)) (hv : -x = v) (kk : Xw E M d cz cs (pc + 1) L (.int v :: S) h Post) : Xw E M d cz cs pc L (.int x :: S) h Post := by
  intro p l e R s m args below meth c H locs cells slots ls Q Y
  subst hv
  exact lv_ineg Y.1.1 Y.1.2.1 hd (kk p l e R s m args below meth c H locs cells slots ls Q Y)
theorem x_dup {E : th_E} {M : th_M} {d cz cs pc : Nat} {L : List (Option Value)} {S : List Value} {h : th_H} {Post : Option Value → th_H → Prop} {a : Value} (hd : decode M.2.1 pc = .ok (.dup, 1)) (ha : a.category = 1) (kk : Xw E M d cz cs (pc + 1) L (a :: a :: S) h Post) : Xw E M d cz cs pc L (a :: S) h Post := by
  intro p l e R s m args below meth c H locs cells slots ls Q Y
  exact lv_dup Y.1.1 Y.1.2.1 hd ha (kk p l e R s m args below meth c H locs cells slots ls Q Y)
theorem x_pop {E : th_E} {M : th_M} {d cz cs pc : Nat} {L : List (Option Value)} {S : List Value} {h : th_H} {Post : Option Value → th_H → Prop} {a : Value} (hd : decode M.2.1 pc = .ok (.pop, 1)) (ha : a.category = 1) (kk : Xw E M d cz cs (pc + 1) L S h Post) : Xw E M d cz cs pc L (a :: S) h Post := by
  intro p l e R s m args below meth c H locs cells slots ls Q Y
  exact lv_pop Y.1.1 Y.1.2.1 hd ha (kk p l e R s m args below meth c H locs cells slots ls Q Y)
theorem x_dup_x1 {E : th_E} {M : th_M} {d cz cs pc : Nat} {L : List (Option Value)} {S : List Value} {h : th_H} {Post : Option Value → th_H → Prop} {a b : Value} (hd : decode M.2.1 pc = .ok (.dup_x1, 1)) (ha : a.category = 1) (hb : b.category = 1) (kk : Xw E M d cz cs (pc + 1) L (a :: b :: a :: S) h Post) : Xw E M d cz cs pc L (a :: b :: S) h Post := by
  intro p l e R s m args below meth c H locs cells slots ls Q Y
  exact lv_dup_x1 Y.1.1 Y.1.2.1 hd ha hb (kk p l e R s m args below meth c H locs cells slots ls Q Y)
theorem x_dup_x2 {E : th_E} {M : th_M} {d cz cs pc : Nat} {L : List (Option Value)} {S : List Value} {h : th_H} {Post : Option Value → th_H → Prop} {a b g : Value} (hd : decode M.2.1 pc = .ok (.dup_x2, 1)) (ha : a.category = 1) (hb : b.category = 1) (hg : g.category = 1) (kk : Xw E M d cz cs (pc + 1) L (a :: b :: g :: a :: S) h Post) : Xw E M d cz cs pc L (a :: b :: g :: S) h Post := by
  intro p l e R s m args below meth c H locs cells slots ls Q Y
  exact lv_dup_x2 Y.1.1 Y.1.2.1 hd ha hb hg (kk p l e R s m args below meth c H locs cells slots ls Q Y)
theorem x_dup2 {E : th_E} {M : th_M} {d cz cs pc : Nat} {L : List (Option Value)} {S : List Value} {h : th_H} {Post : Option Value → th_H → Prop} {a b : Value} (hd : decode M.2.1 pc = .ok (.dup2, 1)) (ha : a.category = 1) (hb : b.category = 1) (kk : Xw E M d cz cs (pc + 1) L (a :: b :: a :: b :: S) h Post) : Xw E M d cz cs pc L (a :: b :: S) h Post := by
  intro p l e R s m args below meth c H locs cells slots ls Q Y
  exact lv_dup2_11 Y.1.1 Y.1.2.1 hd ha hb (kk p l e R s m args below meth c H locs cells slots ls Q Y)
theorem x_if_eq {E : th_E} {M : th_M} {d cz cs pc : Nat} {L : List (Option Value)} {S : List Value} {h : th_H} {Post : Option Value → th_H → Prop} {x : Int32} {off : Int} {tgt : Nat} (hd : decode M.2.1 pc = .ok (.ifCond .eq off, 3)) (ht : (pc : Int) + off = (tgt : Int)) (kt : x = 0 → Xw E M d cz cs tgt L S h Post) (kf : ¬ x = 0 → Xw E M d cz cs (pc + 3) L S h Post) : Xw E M d cz cs pc L (.int x :: S) h Post := by
  intro p l e R s m args below meth c H locs cells slots ls Q Y
  exact lv_if_eq Y.1.1 Y.1.2.1 hd ht (fun q => kt q p l e R s m args below meth c H locs cells slots ls Q Y) (fun q => kf q p l e R s m args below meth c H locs cells slots ls Q Y)
theorem x_icmp_eq {E : th_E} {M : th_M} {d cz cs pc : Nat} {L : List (Option Value)} {S : List Value} {h : th_H} {Post : Option Value → th_H → Prop} {x y : Int32} {off : Int} {tgt : Nat} (hd : decode M.2.1 pc = .ok (.if_icmp .eq off, 3)) (ht : (pc : Int) + off = (tgt : Int)) (kt : x = y → Xw E M d cz cs tgt L S h Post) (kf : ¬ x = y → Xw E M d cz cs (pc + 3) L S h Post) : Xw E M d cz cs pc L (.int y :: .int x :: S) h Post := by
  intro p l e R s m args below meth c H locs cells slots ls Q Y
  exact lv_icmp_eq Y.1.1 Y.1.2.1 hd ht (fun q => kt q p l e R s m args below meth c H locs cells slots ls Q Y) (fun q => kf q p l e R s m args below meth c H locs cells slots ls Q Y)
theorem x_if_ne {E : th_E} {M : th_M} {d cz cs pc : Nat} {L : List (Option Value)} {S : List Value} {h : th_H} {Post : Option Value → th_H → Prop} {x : Int32} {off : Int} {tgt : Nat} (hd : decode M.2.1 pc = .ok (.ifCond .ne off, 3)) (ht : (pc : Int) + off = (tgt : Int)) (kt : ¬ x = 0 → Xw E M d cz cs tgt L S h Post) (kf : x = 0 → Xw E M d cz cs (pc + 3) L S h Post) : Xw E M d cz cs pc L (.int x :: S) h Post := by
  intro p l e R s m args below meth c H locs cells slots ls Q Y
  exact lv_if_ne Y.1.1 Y.1.2.1 hd ht (fun q => kt q p l e R s m args below meth c H locs cells slots ls Q Y) (fun q => kf q p l e R s m args below meth c H locs cells slots ls Q Y)
theorem x_icmp_ne {E : th_E} {M : th_M} {d cz cs pc : Nat} {L : List (Option Value)} {S : List Value} {h : th_H} {Post : Option Value → th_H → Prop} {x y : Int32} {off : Int} {tgt : Nat} (hd : decode M.2.1 pc = .ok (.if_icmp .ne off, 3)) (ht : (pc : Int) + off = (tgt : Int)) (kt : ¬ x = y → Xw E M d cz cs tgt L S h Post) (kf : x = y → Xw E M d cz cs (pc + 3) L S h Post) : Xw E M d cz cs pc L (.int y :: .int x :: S) h Post := by
  intro p l e R s m args below meth c H locs cells slots ls Q Y
  exact lv_icmp_ne Y.1.1 Y.1.2.1 hd ht (fun q => kt q p l e R s m args below meth c H locs cells slots ls Q Y) (fun q => kf q p l e R s m args below meth c H locs cells slots ls Q Y)
theorem x_if_lt {E : th_E} {M : th_M} {d cz cs pc : Nat} {L : List (Option Value)} {S : List Value} {h : th_H} {Post : Option Value → th_H → Prop} {x : Int32} {off : Int} {tgt : Nat} (hd : decode M.2.1 pc = .ok (.ifCond .lt off, 3)) (ht : (pc : Int) + off = (tgt : Int)) (kt : x < 0 → Xw E M d cz cs tgt L S h Post) (kf : ¬ x < 0 → Xw E M d cz cs (pc + 3) L S h Post) : Xw E M d cz cs pc L (.int x :: S) h Post := by
  intro p l e R s m args below meth c H locs cells slots ls Q Y
  exact lv_if_lt Y.1.1 Y.1.2.1 hd ht (fun q => kt q p l e R s m args below meth c H locs cells slots ls Q Y) (fun q => kf q p l e R s m args below meth c H locs cells slots ls Q Y)
theorem x_icmp_lt {E : th_E} {M : th_M} {d cz cs pc : Nat} {L : List (Option Value)} {S : List Value} {h : th_H} {Post : Option Value → th_H → Prop} {x y : Int32} {off : Int} {tgt : Nat} (hd : decode M.2.1 pc = .ok (.if_icmp .lt off, 3)) (ht : (pc : Int) + off = (tgt : Int)) (kt : x < y → Xw E M d cz cs tgt L S h Post) (kf : ¬ x < y → Xw E M d cz cs (pc + 3) L S h Post) : Xw E M d cz cs pc L (.int y :: .int x :: S) h Post := by
  intro p l e R s m args below meth c H locs cells slots ls Q Y
  exact lv_icmp_lt Y.1.1 Y.1.2.1 hd ht (fun q => kt q p l e R s m args below meth c H locs cells slots ls Q Y) (fun q => kf q p l e R s m args below meth c H locs cells slots ls Q Y)
theorem x_if_ge {E : th_E} {M : th_M} {d cz cs pc : Nat} {L : List (Option Value)} {S : List Value} {h : th_H} {Post : Option Value → th_H → Prop} {x : Int32} {off : Int} {tgt : Nat} (hd : decode M.2.1 pc = .ok (.ifCond .ge off, 3)) (ht : (pc : Int) + off = (tgt : Int)) (kt : 0 ≤ x → Xw E M d cz cs tgt L S h Post) (kf : ¬ 0 ≤ x → Xw E M d cz cs (pc + 3) L S h Post) : Xw E M d cz cs pc L (.int x :: S) h Post := by
  intro p l e R s m args below meth c H locs cells slots ls Q Y
  exact lv_if_ge Y.1.1 Y.1.2.1 hd ht (fun q => kt q p l e R s m args below meth c H locs cells slots ls Q Y) (fun q => kf q p l e R s m args below meth c H locs cells slots ls Q Y)
theorem x_icmp_ge {E : th_E} {M : th_M} {d cz cs pc : Nat} {L : List (Option Value)} {S : List Value} {h : th_H} {Post : Option Value → th_H → Prop} {x y : Int32} {off : Int} {tgt : Nat} (hd : decode M.2.1 pc = .ok (.if_icmp .ge off, 3)) (ht : (pc : Int) + off = (tgt : Int)) (kt : y ≤ x → Xw E M d cz cs tgt L S h Post) (kf : ¬ y ≤ x → Xw E M d cz cs (pc + 3) L S h Post) : Xw E M d cz cs pc L (.int y :: .int x :: S) h Post := by
  intro p l e R s m args below meth c H locs cells slots ls Q Y
  exact lv_icmp_ge Y.1.1 Y.1.2.1 hd ht (fun q => kt q p l e R s m args below meth c H locs cells slots ls Q Y) (fun q => kf q p l e R s m args below meth c H locs cells slots ls Q Y)
theorem x_if_gt {E : th_E} {M : th_M} {d cz cs pc : Nat} {L : List (Option Value)} {S : List Value} {h : th_H} {Post : Option Value → th_H → Prop} {x : Int32} {off : Int} {tgt : Nat} (hd : decode M.2.1 pc = .ok (.ifCond .gt off, 3)) (ht : (pc : Int) + off = (tgt : Int)) (kt : 0 < x → Xw E M d cz cs tgt L S h Post) (kf : ¬ 0 < x → Xw E M d cz cs (pc + 3) L S h Post) : Xw E M d cz cs pc L (.int x :: S) h Post := by
  intro p l e R s m args below meth c H locs cells slots ls Q Y
  exact lv_if_gt Y.1.1 Y.1.2.1 hd ht (fun q => kt q p l e R s m args below meth c H locs cells slots ls Q Y) (fun q => kf q p l e R s m args below meth c H locs cells slots ls Q Y)
theorem x_icmp_gt {E : th_E} {M : th_M} {d cz cs pc : Nat} {L : List (Option Value)} {S : List Value} {h : th_H} {Post : Option Value → th_H → Prop} {x y : Int32} {off : Int} {tgt : Nat} (hd : decode M.2.1 pc = .ok (.if_icmp .gt off, 3)) (ht : (pc : Int) + off = (tgt : Int)) (kt : y < x → Xw E M d cz cs tgt L S h Post) (kf : ¬ y < x → Xw E M d cz cs (pc + 3) L S h Post) : Xw E M d cz cs pc L (.int y :: .int x :: S) h Post := by
  intro p l e R s m args below meth c H locs cells slots ls Q Y
  exact lv_icmp_gt Y.1.1 Y.1.2.1 hd ht (fun q => kt q p l e R s m args below meth c H locs cells slots ls Q Y) (fun q => kf q p l e R s m args below meth c H locs cells slots ls Q Y)
theorem x_if_le {E : th_E} {M : th_M} {d cz cs pc : Nat} {L : List (Option Value)} {S : List Value} {h : th_H} {Post : Option Value → th_H → Prop} {x : Int32} {off : Int} {tgt : Nat} (hd : decode M.2.1 pc = .ok (.ifCond .le off, 3)) (ht : (pc : Int) + off = (tgt : Int)) (kt : x ≤ 0 → Xw E M d cz cs tgt L S h Post) (kf : ¬ x ≤ 0 → Xw E M d cz cs (pc + 3) L S h Post) : Xw E M d cz cs pc L (.int x :: S) h Post := by
  intro p l e R s m args below meth c H locs cells slots ls Q Y
  exact lv_if_le Y.1.1 Y.1.2.1 hd ht (fun q => kt q p l e R s m args below meth c H locs cells slots ls Q Y) (fun q => kf q p l e R s m args below meth c H locs cells slots ls Q Y)
theorem x_icmp_le {E : th_E} {M : th_M} {d cz cs pc : Nat} {L : List (Option Value)} {S : List Value} {h : th_H} {Post : Option Value → th_H → Prop} {x y : Int32} {off : Int} {tgt : Nat} (hd : decode M.2.1 pc = .ok (.if_icmp .le off, 3)) (ht : (pc : Int) + off = (tgt : Int)) (kt : x ≤ y → Xw E M d cz cs tgt L S h Post) (kf : ¬ x ≤ y → Xw E M d cz cs (pc + 3) L S h Post) : Xw E M d cz cs pc L (.int y :: .int x :: S) h Post := by
  intro p l e R s m args below meth c H locs cells slots ls Q Y
  exact lv_icmp_le Y.1.1 Y.1.2.1 hd ht (fun q => kt q p l e R s m args below meth c H locs cells slots ls Q Y) (fun q => kf q p l e R s m args below meth c H locs cells slots ls Q Y)
theorem x_goto {E : th_E} {M : th_M} {d cz cs pc : Nat} {L : List (Option Value)} {S : List Value} {h : th_H} {Post : Option Value → th_H → Prop} {off : Int} {tgt : Nat} (hd : decode M.2.1 pc = .ok (.goto off, 3)) (ht : (pc : Int) + off = (tgt : Int)) (kk : Xw E M d cz cs tgt L S h Post) : Xw E M d cz cs pc L S h Post := by
  intro p l e R s m args below meth c H locs cells slots ls Q Y
  exact lv_goto Y.1.1 Y.1.2.1 hd ht (kk p l e R s m args below meth c H locs cells slots ls Q Y)
theorem x_ifnull {E : th_E} {M : th_M} {d cz cs pc : Nat} {L : List (Option Value)} {S : List Value} {h : th_H} {Post : Option Value → th_H → Prop} {x : Nat} {off : Int} (hd : decode M.2.1 pc = .ok (.ifnull off, 3)) (kk : Xw E M d cz cs (pc + 3) L S h Post) : Xw E M d cz cs pc L (.ref x :: S) h Post := by
  intro p l e R s m args below meth c H locs cells slots ls Q Y
  exact lv_ifnull Y.1.1 Y.1.2.1 hd (kk p l e R s m args below meth c H locs cells slots ls Q Y)
theorem x_ifnullN {E : th_E} {M : th_M} {d cz cs pc : Nat} {L : List (Option Value)} {S : List Value} {h : th_H} {Post : Option Value → th_H → Prop} {off : Int} {tgt : Nat} (hd : decode M.2.1 pc = .ok (.ifnull off, 3)) (ht : (pc : Int) + off = (tgt : Int)) (kk : Xw E M d cz cs tgt L S h Post) : Xw E M d cz cs pc L (.null :: S) h Post := by
  intro p l e R s m args below meth c H locs cells slots ls Q Y
  exact lv_ifnullN Y.1.1 Y.1.2.1 hd ht (kk p l e R s m args below meth c H locs cells slots ls Q Y)
theorem x_ifnonnull {E : th_E} {M : th_M} {d cz cs pc : Nat} {L : List (Option Value)} {S : List Value} {h : th_H} {Post : Option Value → th_H → Prop} {x : Nat} {off : Int} {tgt : Nat} (hd : decode M.2.1 pc = .ok (.ifnonnull off, 3)) (ht : (pc : Int) + off = (tgt : Int)) (kk : Xw E M d cz cs tgt L S h Post) : Xw E M d cz cs pc L (.ref x :: S) h Post := by
  intro p l e R s m args below meth c H locs cells slots ls Q Y
  exact lv_ifnonnull Y.1.1 Y.1.2.1 hd ht (kk p l e R s m args below meth c H locs cells slots ls Q Y)
theorem x_ifnonnullN {E : th_E} {M : th_M} {d cz cs pc : Nat} {L : List (Option Value)} {S : List Value} {h : th_H} {Post : Option Value → th_H → Prop} {off : Int} (hd : decode M.2.1 pc = .ok (.ifnonnull off, 3)) (kk : Xw E M d cz cs (pc + 3) L S h Post) : Xw E M d cz cs pc L (.null :: S) h Post := by
  intro p l e R s m args below meth c H locs cells slots ls Q Y
  exact lv_ifnonnullN Y.1.1 Y.1.2.1 hd (kk p l e R s m args below meth c H locs cells slots ls Q Y)
theorem x_acmp_eq {E : th_E} {M : th_M} {d cz cs pc : Nat} {L : List (Option Value)} {S : List Value} {h : th_H} {Post : Option Value → th_H → Prop} {x y : Nat} {off : Int} {tgt : Nat} (hd : decode M.2.1 pc = .ok (.if_acmp .eq off, 3)) (ht : (pc : Int) + off = (tgt : Int)) (kt : x = y → Xw E M d cz cs tgt L S h Post) (kf : ¬ x = y → Xw E M d cz cs (pc + 3) L S h Post) : Xw E M d cz cs pc L (.ref y :: .ref x :: S) h Post := by
  intro p l e R s m args below meth c H locs cells slots ls Q Y
  exact lv_acmp_eq (rx := some x) (ry := some y) Y.1.1 Y.1.2.1 hd ht (fun q => kt (by simpa using q) p l e R s m args below meth c H locs cells slots ls Q Y) (fun q => kf (by simpa using q) p l e R s m args below meth c H locs cells slots ls Q Y)
theorem x_acmp_ne {E : th_E} {M : th_M} {d cz cs pc : Nat} {L : List (Option Value)} {S : List Value} {h : th_H} {Post : Option Value → th_H → Prop} {x y : Nat} {off : Int} {tgt : Nat} (hd : decode M.2.1 pc = .ok (.if_acmp .ne off, 3)) (ht : (pc : Int) + off = (tgt : Int)) (kt : ¬ x = y → Xw E M d cz cs tgt L S h Post) (kf : x = y → Xw E M d cz cs (pc + 3) L S h Post) : Xw E M d cz cs pc L (.ref y :: .ref x :: S) h Post := by
  intro p l e R s m args below meth c H locs cells slots ls Q Y
  exact lv_acmp_ne (rx := some x) (ry := some y) Y.1.1 Y.1.2.1 hd ht (fun q => kt (by simpa using q) p l e R s m args below meth c H locs cells slots ls Q Y) (fun q => kf (by simpa using q) p l e R s m args below meth c H locs cells slots ls Q Y)
theorem x_tableOut {E : th_E} {M : th_M} {d cz cs pc : Nat} {L : List (Option Value)} {S : List Value} {h : th_H} {Post : Option Value → th_H → Prop} {df lo hi : Int} {offs : Array Int} {len tgt : Nat} {x : Int32} (hd : decode M.2.1 pc = .ok (.tableswitch df lo hi offs, len)) (hx : x.toInt < lo ∨ hi < x.toInt) (ht : (pc : Int) + df = (tgt : Int)) (kk : Xw E M d cz cs tgt L S h Post) : Xw E M d cz cs pc L (.int x :: S) h Post := by
  intro p l e R s m args below meth c H locs cells slots ls Q Y
  exact lv_tableOut Y.1.1 Y.1.2.1 hd hx ht (kk p l e R s m args below meth c H locs cells slots ls Q Y)
theorem x_tableIn {E : th_E} {M : th_M} {d cz cs pc : Nat} {L : List (Option Value)} {S : List Value} {h : th_H} {Post : Option Value → th_H → Prop} {df lo hi : Int} {offs : Array Int} {len tgt : Nat} {x : Int32} {off : Int} (hd : decode M.2.1 pc = .ok (.tableswitch df lo hi offs, len)) (h1 : ¬ x.toInt < lo) (h2 : ¬ hi < x.toInt) (ho : offs[(x.toInt - lo).toNat]? = some off) (ht : (pc : Int) + off = (tgt : Int)) (kk : Xw E M d cz cs tgt L S h Post) : Xw E M d cz cs pc L (.int x :: S) h Post := by
  intro p l e R s m args below meth c H locs cells slots ls Q Y
  exact lv_tableIn Y.1.1 Y.1.2.1 hd h1 h2 ho ht (kk p l e R s m args below meth c H locs cells slots ls Q Y)
theorem x_lookup {E : th_E} {M : th_M} {d cz cs pc : Nat} {L : List (Option Value)} {S : List Value} {h : th_H} {Post : Option Value → th_H → Prop} {df : Int} {ps : Array (Int × Int)} {len tgt : Nat} {x : Int32} {off : Int} (hd : decode M.2.1 pc = .ok (.lookupswitch df ps, len)) (hp : (ps.toList.zip (ps.toList.drop 1)).all (fun (a, next) => a.1 < next.1) = true) (ho : Op.lookupswitch.offset ps.toList df x.toInt = off) (ht : (pc : Int) + off = (tgt : Int)) (kk : Xw E M d cz cs tgt L S h Post) : Xw E M d cz cs pc L (.int x :: S) h Post := by
  intro p l e R s m args below meth c H locs cells slots ls Q Y
  exact lv_lookup Y.1.1 Y.1.2.1 hd hp ho ht (kk p l e R s m args below meth c H locs cells slots ls Q Y)
end
section
/-! Rules of Xw: fields, arrays, new cells, static fields, calls, answers. -/
def th_ok (ci : Nat) (C : String) (T : u_T) (N : Nat) (ty : Nat → FieldType) : Prop := classes[ci]? = some (C, T, N) ∧ (∀ w ∈ u_ws C T N, w ∈ th_tb) ∧ (∀ k, k < N → parseFieldDescriptor (T k).2.2.1 = some (ty k)) ∧ ∀ a, a < N → ∀ b, b < N → a ≠ b → (T a).2.1 ≠ (T b).2.1
/-- a field that the constant pool of own names at idx: class ci, place k -/
def th_lf (own : String) (idx ci k : Nat) : Prop := ∃ (C : String) (T : u_T) (N : Nat) (ty : Nat → FieldType), th_ok ci C T N ty ∧ k < N ∧ Jvm.Cond.fieldLink own idx (T k).1 (T k).2.1 (T k).2.2.1 ∈ th_tb
def th_lfN (own : String) (idx ci k : Nat) : Prop := ∃ (C : String) (T : u_T) (N : Nat) (ty : Nat → FieldType) (host : String), th_ok ci C T N ty ∧ k < N ∧ Jvm.Cond.fieldLinkNest own idx (T k).1 (T k).2.1 (T k).2.2.1 host ∈ lw_tbl
def th_fit (tc : Nat) (v : Value) : Prop := match tc with
  | 0 => ∃ x : Int32, v = .int x
  | 1 => v = .null ∨ ∃ a : Nat, v = .ref a
  | _ => v = .int 0 ∨ v = .int 1
def th_fty (tc : Nat) (ty : FieldType) : Prop := ∀ v : Value, th_fit tc v → narrow ty v = v ∧ fits ty v = true
theorem th_fty_i : th_fty 0 .int := by
  intro v h
  obtain ⟨x, rfl⟩ := h
  exact ⟨rfl, rfl⟩
theorem th_fty_o (C : String) : th_fty 1 (.object C) := by
  intro v h
  rcases h with rfl | ⟨a, rfl⟩ <;> exact ⟨rfl, rfl⟩
theorem th_fty_a (t : FieldType) : th_fty 1 (.array t) := by
  intro v h
  rcases h with rfl | ⟨a, rfl⟩ <;> exact ⟨rfl, rfl⟩
theorem th_fty_b : th_fty 2 .boolean := by
  intro v h
  rcases h with rfl | rfl <;> exact ⟨rfl, rfl⟩
/-- the same, of a field that is written: tc says what fits (0 ints, 1 references, 2 booleans) -/
def th_lp (own : String) (idx ci k tc : Nat) : Prop := ∃ (C : String) (T : u_T) (N : Nat) (ty : Nat → FieldType), th_ok ci C T N ty ∧ k < N ∧ Jvm.Cond.fieldLink own idx (T k).1 (T k).2.1 (T k).2.2.1 ∈ th_tb ∧ (T k).2.2.2 = false ∧ th_fty tc (ty k)
def th_lpN (own : String) (idx ci k tc : Nat) : Prop := ∃ (C : String) (T : u_T) (N : Nat) (ty : Nat → FieldType) (host : String), th_ok ci C T N ty ∧ k < N ∧ Jvm.Cond.fieldLinkNest own idx (T k).1 (T k).2.1 (T k).2.2.1 host ∈ lw_tbl ∧ (T k).2.2.2 = false ∧ th_fty tc (ty k)
def th_lpF (own : String) (idx ci k tc : Nat) : Prop := ∃ (C : String) (T : u_T) (N : Nat) (ty : Nat → FieldType), th_ok ci C T N ty ∧ k < N ∧ Jvm.Cond.fieldLink own idx (T k).1 (T k).2.1 (T k).2.2.1 ∈ th_tb ∧ (T k).2.2.2 = true ∧ (T k).1 = own ∧ th_fty tc (ty k)
def th_ln (own : String) (idx ci N : Nat) (dv : Nat → Value) : Prop := ∃ (C : String) (T : u_T) (ty : Nat → FieldType), th_ok ci C T N ty ∧ Jvm.Cond.classLink own idx C ∈ th_tb ∧ Jvm.Cond.instantiable C N ∈ th_tb ∧ Jvm.Cond.initialized C ∈ th_tb ∧ ∀ j, j < N → defaultValue (ty j) = dv j
section THR
variable {E : th_E} {M : th_M} {d cz cs pc : Nat} {L : List (Option Value)} {S : List Value} {h : th_H} {Post : Option Value → th_H → Prop}
theorem x_getf {idx ci k a : Nat} {v : Value} (hd : decode M.2.1 pc = .ok (.getfield idx, 3)) (lk : th_lf M.1.cls idx ci k) (ha : gk h a = some (.inl ci)) (hv : gF h ci k a = v) (kk : Xw E M d cz cs (pc + 3) L (v :: S) h Post) : Xw E M d cz cs pc L (.ref a :: S) h Post := by
  intro p l e R s m args below meth c H locs cells slots ls Q Y
  have k1 := kk p l e R s m args below meth c H locs cells slots ls Q Y
  obtain ⟨⟨hx, hb, hml, hown, hts, hr, hlk, hnm0, hC, hZ⟩, hP, hS, hL, hf, hcs, hQ⟩ := Y
  obtain ⟨C, T, N, ty, ⟨hc, hin, hty, hnm⟩, hkN, hl⟩ := lk
  obtain ⟨-, r, h1, cell, q1, q2, q3, q4⟩ := hP.2 a _ ha
  have hr : r = (C, T, N) := Option.some.inj (h1.symm.trans hc)
  subst hr
  obtain ⟨hSl, hfc, kC, hkC, hkind⟩ := hC.1.1 ci _ hc
  obtain ⟨cf, kf, fi, f, hi, hsl⟩ := hSl k hkN
  refine W.getf hx hb hown (hts _ hl) hi (u_facts hfc hkC (u_lays hts hin hkN) hi).1 q1 (by rw [q3]; exact fun h => by cases h) (v := v) ?_ rfl rfl hd k1
  rw [hsl]
  exact (q4 k hkN).trans (congrArg some hv)
theorem x_getfN {idx ci k a : Nat} {v : Value} (hd : decode M.2.1 pc = .ok (.getfield idx, 3)) (lk : th_lfN M.1.cls idx ci k) (ha : gk h a = some (.inl ci)) (hv : gF h ci k a = v) (kk : Xw E M d cz cs (pc + 3) L (v :: S) h Post) : Xw E M d cz cs pc L (.ref a :: S) h Post := by
  intro p l e R s m args below meth c H locs cells slots ls Q Y
  have k1 := kk p l e R s m args below meth c H locs cells slots ls Q Y
  obtain ⟨⟨hx, hb, hml, hown, hts, hr, hlk, hnm0, hC, hZ⟩, hP, hS, hL, hf, hcs, hQ⟩ := Y
  obtain ⟨C, T, N, ty, host, ⟨hc, hin, hty, hnm⟩, hkN, hl⟩ := lk
  obtain ⟨-, r, h1, cell, q1, q2, q3, q4⟩ := hP.2 a _ ha
  have hr : r = (C, T, N) := Option.some.inj (h1.symm.trans hc)
  subst hr
  obtain ⟨hSl, hfc, kC, hkC, hkind⟩ := hC.1.1 ci _ hc
  obtain ⟨cf, kf, fi, f, hi, hsl⟩ := hSl k hkN
  refine va_Wgetf hx hb hown (va_Nw.use rfl (hC.2.1 _ _ _ _ _ _ hl)) hi (u_facts hfc hkC (u_lays hts hin hkN) hi).1 q1 (by rw [q3]; exact fun h => by cases h) (v := v) ?_ rfl rfl hd k1
  rw [hsl]
  exact (q4 k hkN).trans (congrArg some hv)
theorem x_putf {idx ci k tc a : Nat} {v : Value} (hd : decode M.2.1 pc = .ok (.putfield idx, 3)) (lk : th_lp M.1.cls idx ci k tc) (ha : gk h a = some (.inl ci)) (hv : th_fit tc v) (kk : Xw E M d cz cs (pc + 3) L S (gpF h ci k a v) Post) : Xw E M d cz cs pc L (v :: .ref a :: S) h Post := by
  intro p l e R s m args below meth c H locs cells slots ls Q Y
  obtain ⟨hX, hP, hS, hL, hf, hcs, hQ⟩ := Y
  have hX2 := hX
  obtain ⟨hx, hb, hml, hown, hts, hr, hlk, hnm0, hC, hZ⟩ := hX
  obtain ⟨C, T, N, ty, ⟨hc, hin, hty, hnm⟩, hkN, hl, hfin, hfit⟩ := lk
  have hap := va_apart (own := M.1.cls) hts hin ty hty hnm hC.1 hc
  obtain ⟨hB, r, h1, cell, q1, q2, q3, q4⟩ := hP.2 a _ ha
  have hr : r = (C, T, N) := Option.some.inj (h1.symm.trans hc)
  subst hr
  obtain ⟨hSl, hfc, kC, hkC, hkind⟩ := hC.1.1 ci _ hc
  obtain ⟨cf, kf, fi, f, hi, hsl⟩ := hSl k hkN
  have hlay := hts _ (hin _ (u_in_lay hkN))
  unfold u_lay at hlay
  rw [if_neg (by rw [hfin]; decide)] at hlay
  have hst := (u_facts hfc hkC (u_lays hts hin hkN) hi).1
  have h6 := u_store hfc hkC hkind hlay hi (hty k hkN) (hfit v hv).1 (hfit v hv).2
  refine W.putK hx hb (f := f) ⟨hown, hts _ hl, ⟨_, _, _, hi⟩, hst⟩ (by rw [q2]; exact h6) q1 q3 (by rw [hsl]; exact k2_hasslot (q4 k hkN)) rfl rfl hd fun H' e1 e2 e3 => ?_
  rw [hsl] at e1
  exact kk p l e R s m args below meth c H' _ cells slots ls Q ⟨hX2, hP.putF ha e2 e3 _ hc ⟨_, e1, q2, q3, t_set q4 hap hkN v⟩, hS.put e2 e3 hB, hL, hf, hcs, hQ⟩
theorem x_putfN {idx ci k tc a : Nat} {v : Value} (hd : decode M.2.1 pc = .ok (.putfield idx, 3)) (lk : th_lpN M.1.cls idx ci k tc) (ha : gk h a = some (.inl ci)) (hv : th_fit tc v) (kk : Xw E M d cz cs (pc + 3) L S (gpF h ci k a v) Post) : Xw E M d cz cs pc L (v :: .ref a :: S) h Post := by
  intro p l e R s m args below meth c H locs cells slots ls Q Y
  obtain ⟨hX, hP, hS, hL, hf, hcs, hQ⟩ := Y
  have hX2 := hX
  obtain ⟨hx, hb, hml, hown, hts, hr, hlk, hnm0, hC, hZ⟩ := hX
  obtain ⟨C, T, N, ty, host, ⟨hc, hin, hty, hnm⟩, hkN, hl, hfin, hfit⟩ := lk
  have hap := va_apart (own := M.1.cls) hts hin ty hty hnm hC.1 hc
  obtain ⟨hB, r, h1, cell, q1, q2, q3, q4⟩ := hP.2 a _ ha
  have hr : r = (C, T, N) := Option.some.inj (h1.symm.trans hc)
  subst hr
  obtain ⟨hSl, hfc, kC, hkC, hkind⟩ := hC.1.1 ci _ hc
  obtain ⟨cf, kf, fi, f, hi, hsl⟩ := hSl k hkN
  have hlay := hts _ (hin _ (u_in_lay hkN))
  unfold u_lay at hlay
  rw [if_neg (by rw [hfin]; decide)] at hlay
  have hst := (u_facts hfc hkC (u_lays hts hin hkN) hi).1
  have h6 := u_store hfc hkC hkind hlay hi (hty k hkN) (hfit v hv).1 (hfit v hv).2
  refine va_WputK hx hb (f := f) hown (va_Nw.use rfl (hC.2.1 _ _ _ _ _ _ hl)) hi hst (by rw [q2]; exact h6) q1 q3 (by rw [hsl]; exact k2_hasslot (q4 k hkN)) rfl rfl hd fun H' e1 e2 e3 => ?_
  rw [hsl] at e1
  exact kk p l e R s m args below meth c H' _ cells slots ls Q ⟨hX2, hP.putF ha e2 e3 _ hc ⟨_, e1, q2, q3, t_set q4 hap hkN v⟩, hS.put e2 e3 hB, hL, hf, hcs, hQ⟩
theorem x_putfF {idx ci k tc a : Nat} {v : Value} (hd : decode M.2.1 pc = .ok (.putfield idx, 3)) (hi0 : M.1.name = "<init>") (lk : th_lpF M.1.cls idx ci k tc) (ha : gk h a = some (.inl ci)) (hv : th_fit tc v) (kk : Xw E M d cz cs (pc + 3) L S (gpF h ci k a v) Post) : Xw E M d cz cs pc L (v :: .ref a :: S) h Post := by
  intro p l e R s m args below meth c H locs cells slots ls Q Y
  obtain ⟨hX, hP, hS, hL, hf, hcs, hQ⟩ := Y
  have hX2 := hX
  obtain ⟨hx, hb, hml, hown, hts, hr, hlk, hnm0, hC, hZ⟩ := hX
  obtain ⟨C, T, N, ty, ⟨hc, hin, hty, hnm⟩, hkN, hl, hfin, hdecl, hfit⟩ := lk
  have hap := va_apart (own := M.1.cls) hts hin ty hty hnm hC.1 hc
  obtain ⟨hB, r, h1, cell, q1, q2, q3, q4⟩ := hP.2 a _ ha
  have hr : r = (C, T, N) := Option.some.inj (h1.symm.trans hc)
  subst hr
  obtain ⟨hSl, hfc, kC, hkC, hkind⟩ := hC.1.1 ci _ hc
  obtain ⟨cf, kf, fi, f, hi, hsl⟩ := hSl k hkN
  have hlay := hts _ (hin _ (u_in_lay hkN))
  unfold u_lay at hlay
  rw [if_pos hfin] at hlay
  have hst := (u_facts hfc hkC (u_lays hts hin hkN) hi).1
  have hcf : m.cls = cf := by
    obtain ⟨_, _, c', _, _, _, -, -, hf', -, -, -, hown2, -⟩ := Cond.laysFinal_spec hlay
    have e1 : c' = cf := by have := hi.symm.trans hf'; simp at this; exact this.1.symm
    rw [hdecl] at hown2
    rw [← e1]; exact Option.some.inj (hown.symm.trans hown2)
  have h6 := u_fits hfc hkC hkind (Or.inr hlay) hi (hty k hkN) (hfit v hv).1 (hfit v hv).2
  refine W.putFinK hx hb hown (hts _ hl) hi hst hcf (hnm0.trans hi0) (by rw [q2]; exact h6) q1 q3 (by rw [hsl]; exact k2_hasslot (q4 k hkN)) rfl rfl hd fun H' e1 e2 e3 => ?_
  rw [hsl] at e1
  exact kk p l e R s m args below meth c H' _ cells slots ls Q ⟨hX2, hP.putF ha e2 e3 _ hc ⟨_, e1, q2, q3, t_set q4 hap hkN v⟩, hS.put e2 e3 hB, hL, hf, hcs, hQ⟩
theorem x_new {idx ci N : Nat} {dv : Nat → Value} {cz' cs' : Nat} (hd : decode M.2.1 pc = .ok (.new idx, 3)) (lk : th_ln M.1.cls idx ci N dv) (hz1 : cz' + 1 ≤ cz) (hs1 : cs' + N ≤ cs) (kk : Xw E M d cz' cs' (pc + 3) L (.ref (gz h) :: S) (gnO h ci dv) Post) : Xw E M d cz cs pc L S h Post := by
  intro p l e R s m args below meth c H locs cells slots ls Q Y
  obtain ⟨hX, hP, hS, hL, hf, ⟨hc1, hc2⟩, hQ⟩ := Y
  have hX2 := hX
  obtain ⟨hx, hb, hml, hown, hts, hr, hlk, hnm0, hC, hZ⟩ := hX
  obtain ⟨C, T, ty, ⟨hc, hin, hty, hnm⟩, hcl, hins, hini, hdv⟩ := lk
  have hKn := hC.1.1 ci _ hc
  have hsz := hP.1.1
  refine W.newcK hx hb hown (hts _ hcl) (hts _ hins) (hts _ hini) rfl hd (by omega) (by omega) hKn.2.1 hsz fun H1 kC hkC e1 z1 o1 => ?_
  refine kk p l e R s m args below meth c H1 locs (cells + 1) (slots + N) ls Q ⟨hX2, hP.newO (by rw [z1, hsz]) (fun b hb => o1 b (by rw [← hsz]; exact hb)) _ hc ?_, ⟨Nat.le_trans hS.1 (by rw [z1, hsz]; omega), fun x h1 h2 => (o1 x (by rw [← hsz]; exact Nat.lt_of_lt_of_le h1 hS.1)).trans (hS.2.1 x h1 h2), hS.2.2⟩, hL, hf, ⟨by omega, by omega⟩, hQ⟩
  rw [hsz]
  exact (u_born ty hts hin hKn hkC e1 hty).to hdv
theorem x_newi {n : Int32} {N cz' cs' : Nat} (hd : decode M.2.1 pc = .ok (.newarray .int, 2)) (hw : Jvm.Cond.arrayClass .int ∈ th_tb) (hty : th_tys[1]? = some .int) (hn : ¬ n < 0) (hN : n.toNatClampNeg = N) (hb4 : N ≤ 100000) (hz1 : cz' + 1 ≤ cz) (hs1 : cs' + N ≤ cs) (kk : Xw E M d cz' cs' (pc + 2) L (.ref (gz h) :: S) (gnA h 1 N (.int 0)) Post) : Xw E M d cz cs pc L (.int n :: S) h Post := by
  intro p l e R s m args below meth c H locs cells slots ls Q Y
  obtain ⟨hX, hP, hS, hL, hf, ⟨hc1, hc2⟩, hQ⟩ := Y
  have hX2 := hX
  obtain ⟨hx, hb, hml, hown, hts, hr, hlk, hnm0, hC, hZ⟩ := hX
  have hsz := hP.1.1
  refine va_newaK (atype := .int) hx hb (hts _ hw) rfl hd rfl hn hN (by show N * 4 ≤ _; omega) (by omega) (by omega) hsz fun H1 cA e1 z1 o1 hAr hNm => ?_
  have hRA : s.vm.findClass ("[" ++ FieldType.int.toString) = some (E.2.2.1 1) := (hC.1.2 1 _ (th_ty_at hty)).2
  have hcA : cA = E.2.2.1 1 := Option.some.inj (hNm.symm.trans hRA)
  subst hcA
  exact kk p l e R s m args below meth c H1 locs (cells + 1) (slots + N) ls Q ⟨hX2, hP.newA (t := 0) (by rw [z1, hsz]) (fun b hb => o1 b (by rw [← hsz]; exact hb)) (by rw [hsz]; exact e1), ⟨Nat.le_trans hS.1 (by rw [z1, hsz]; omega), fun x h1 h2 => (o1 x (by rw [← hsz]; exact Nat.lt_of_lt_of_le h1 hS.1)).trans (hS.2.1 x h1 h2), hS.2.2⟩, hL, hf, ⟨by omega, by omega⟩, hQ⟩
theorem x_anew {idx t : Nat} {C : String} {n : Int32} {N cz' cs' : Nat} (hd : decode M.2.1 pc = .ok (.anewarray idx, 3)) (hcl : Jvm.Cond.classLink M.1.cls idx C ∈ th_tb) (hao : Jvm.Cond.arrayOver (.object C) ∈ lw_tbl) (hty : th_tys[t + 1]? = some (.object C)) (hn : ¬ n < 0) (hN : n.toNatClampNeg = N) (hb4 : N ≤ 100000) (hz1 : cz' + 1 ≤ cz) (hs1 : cs' + N ≤ cs) (kk : Xw E M d cz' cs' (pc + 3) L (.ref (gz h) :: S) (gnA h (t + 1) N .null) Post) : Xw E M d cz cs pc L (.int n :: S) h Post := by
  intro p l e R s m args below meth c H locs cells slots ls Q Y
  obtain ⟨hX, hP, hS, hL, hf, ⟨hc1, hc2⟩, hQ⟩ := Y
  have hX2 := hX
  obtain ⟨hx, hb, hml, hown, hts, hr, hlk, hnm0, hC, hZ⟩ := hX
  have hsz := hP.1.1
  subst hN
  refine W.anew hx hb hown (hts _ hcl) (hC.2.2.2 C hao).use rfl hd rfl hn (by omega) (by omega) (by omega) fun cA kA comp g1 g2 g3 g4 => ?_
  obtain ⟨kA', comp', r1, r2, r3, r4⟩ := (hC.1.2 (t + 1) _ (th_ty_at hty)).2
  have hcA : cA = E.2.2.1 (t + 1) := Option.some.inj (g1.symm.trans r4)
  subst hcA
  rw [arrV_new]
  have o1 : ∀ b : Nat, b < H.size → (H.push (arrV (E.2.2.1 (t + 1)) n.toNatClampNeg (fun _ => .null)))[b]? = H[b]? := fun b hb => by rw [Array.getElem?_push, if_neg (Nat.ne_of_lt hb)]
  rw [show H.size = gz h from hsz]
  exact kk p l e R s m args below meth c _ locs (cells + 1) (slots + n.toNatClampNeg) ls Q ⟨hX2, hP.newA (by simp) o1 (by simp), ⟨Nat.le_trans hS.1 (by simp), fun x h1 h2 => (o1 x (Nat.lt_of_lt_of_le h1 hS.1)).trans (hS.2.1 x h1 h2), hS.2.2⟩, hL, hf, ⟨by omega, by omega⟩, hQ⟩
theorem x_iald {t n a : Nat} {i : Int32} {v : Value} (hd : decode M.2.1 pc = .ok (.iaload, 1)) (ha : gk h a = some (.inr (t, n))) (hty : th_tys[t]? = some .int) (hin : vp_in i n) (hv : gA h t a i.toNatClampNeg = v) (kk : Xw E M d cz cs (pc + 1) L (v :: S) h Post) : Xw E M d cz cs pc L (.int i :: .ref a :: S) h Post := by
  intro p l e R s m args below meth c H locs cells slots ls Q Y
  have k1 := kk p l e R s m args below meth c H locs cells slots ls Q Y
  obtain ⟨⟨hx, hb, hml, hown, hts, hr, hlk, hnm0, hC, hZ⟩, hP, hS, hL, hf, hcs, hQ⟩ := Y
  have hlt : i.toNatClampNeg < n := Nat.not_le.mp fun q => hin (Or.inr q)
  have hq := hP.2 a _ ha
  match t, hq, hty, hv with
  | 0, ⟨scr, q1, q2, q3, q4, q5⟩, _, hv => exact W.iald (v := v) hx hb q1 q2 q3 (by rw [q4]; exact hin) ((q5 _ hlt).trans (congrArg some hv)) rfl rfl hd k1
  | t + 1, ⟨_, q1⟩, hty, hv => exact W.iald (v := v) hx hb q1 ((hC.1.2 (t + 1) _ (th_ty_at hty)).1 n _) (fun q => by cases q) (by rw [arrV_size]; exact hin) ((arrV_read _ _ hlt).trans (congrArg some hv)) rfl rfl hd k1
theorem x_aald {t n a : Nat} {C : String} {i : Int32} {v : Value} (hd : decode M.2.1 pc = .ok (.aaload, 1)) (ha : gk h a = some (.inr (t + 1, n))) (hty : th_tys[t + 1]? = some (.object C)) (hin : vp_in i n) (hv : gA h (t + 1) a i.toNatClampNeg = v) (kk : Xw E M d cz cs (pc + 1) L (v :: S) h Post) : Xw E M d cz cs pc L (.int i :: .ref a :: S) h Post := by
  intro p l e R s m args below meth c H locs cells slots ls Q Y
  have k1 := kk p l e R s m args below meth c H locs cells slots ls Q Y
  obtain ⟨⟨hx, hb, hml, hown, hts, hr, hlk, hnm0, hC, hZ⟩, hP, hS, hL, hf, hcs, hQ⟩ := Y
  have hlt : i.toNatClampNeg < n := Nat.not_le.mp fun q => hin (Or.inr q)
  obtain ⟨-, q1⟩ := hP.2 a _ ha
  exact W.aald (v := v) (ty := .object C) hx hb q1 ((hC.1.2 (t + 1) _ (th_ty_at hty)).1 n _) rfl (fun q => by cases q) (by rw [arrV_size]; exact hin) ((arrV_read _ _ hlt).trans (congrArg some hv)) rfl rfl hd k1
theorem x_alen {t n a : Nat} {ty : FieldType} {v : Int32} (hd : decode M.2.1 pc = .ok (.arraylength, 1)) (ha : gk h a = some (.inr (t, n))) (hty : th_tys[t]? = some ty) (hv : Int32.ofNat n = v) (kk : Xw E M d cz cs (pc + 1) L (.int v :: S) h Post) : Xw E M d cz cs pc L (.ref a :: S) h Post := by
  intro p l e R s m args below meth c H locs cells slots ls Q Y
  have k1 := kk p l e R s m args below meth c H locs cells slots ls Q Y
  obtain ⟨⟨hx, hb, hml, hown, hts, hr, hlk, hnm0, hC, hZ⟩, hP, hS, hL, hf, hcs, hQ⟩ := Y
  subst hv
  have hq := hP.2 a _ ha
  match t, hq, hty with
  | 0, ⟨scr, q1, q2, q3, q4, q5⟩, _ => exact W.alen (n := Int32.ofNat n) hx hb q1 q2 (by rw [q4] <;> rfl) rfl rfl hd k1
  | t + 1, ⟨_, q1⟩, hty => exact W.alen (n := Int32.ofNat n) hx hb q1 ((hC.1.2 (t + 1) _ (th_ty_at hty)).1 n _) (by rw [arrV_size] <;> rfl) rfl rfl hd k1
theorem x_iast {t n a : Nat} {i x : Int32} (hd : decode M.2.1 pc = .ok (.iastore, 1)) (ha : gk h a = some (.inr (t + 1, n))) (hty : th_tys[t + 1]? = some .int) (hin : vp_in i n) (kk : Xw E M d cz cs (pc + 1) L S (gpA h (t + 1) a i.toNatClampNeg (.int x)) Post) : Xw E M d cz cs pc L (.int x :: .int i :: .ref a :: S) h Post := by
  intro p l e R s m args below meth c H locs cells slots ls Q Y
  obtain ⟨hX, hP, hS, hL, hf, hcs, hQ⟩ := Y
  have hX2 := hX
  obtain ⟨hx, hb, hml, hown, hts, hr, hlk, hnm0, hC, hZ⟩ := hX
  obtain ⟨hB, q1⟩ := hP.2 a _ ha
  refine W.iast hx hb q1 ((hC.1.2 (t + 1) _ (th_ty_at hty)).1 n _) (fun q => by cases q) (by rw [arrV_size]; exact hin) rfl rfl hd fun H1 e1 z oq => ?_
  exact kk p l e R s m args below meth c H1 _ cells slots ls Q ⟨hX2, hP.putA ha z oq e1, hS.put z oq hB, hL, hf, hcs, hQ⟩
theorem x_aast {t n a b ci N : Nat} {C : String} {T : u_T} {i : Int32} (hd : decode M.2.1 pc = .ok (.aastore, 1)) (ha : gk h a = some (.inr (t + 1, n))) (hty : th_tys[t + 1]? = some (.object C)) (hbk : gk h b = some (.inl ci)) (hcl : classes[ci]? = some (C, T, N)) (hin : vp_in i n) (kk : Xw E M d cz cs (pc + 1) L S (gpA h (t + 1) a i.toNatClampNeg (.ref b)) Post) : Xw E M d cz cs pc L (.ref b :: .int i :: .ref a :: S) h Post := by
  intro p l e R s m args below meth c H locs cells slots ls Q Y
  obtain ⟨hX, hP, hS, hL, hf, hcs, hQ⟩ := Y
  have hX2 := hX
  obtain ⟨hx, hb, hml, hown, hts, hr, hlk, hnm0, hC, hZ⟩ := hX
  obtain ⟨hB, q1⟩ := hP.2 a _ ha
  have hlt : i.toNatClampNeg < n := Nat.not_le.mp fun q => hin (Or.inr q)
  have h0 : ¬ i < 0 := fun q => hin (Or.inl q)
  obtain ⟨-, r', hr', cellV, g1, g2, g3, -⟩ := hP.2 b _ hbk
  have hcls := (hC.1.1 ci _ hcl).2
  obtain ⟨kA, comp, k1, k2, k3, -⟩ := (hC.1.2 (t + 1) _ (th_ty_at hty)).2
  have hcomp : comp = E.1 ci := Option.some.inj (k3.symm.trans hcls.1)
  subst hcomp
  have hcls2 := hcls
  obtain ⟨-, kC, hkC, -⟩ := hcls
  refine W.aast hx hb q1 (fun q h => by cases h) (fun h => by cases h) k1 k2 rfl hkC ⟨h0, by rw [arrV_size]; exact hlt⟩ g1 (fun q h => by rw [g3] at h; cases h) (by rw [g2]; exact hkC) (by rw [g2]; exact va_assign hcls2) rfl rfl hd fun H1 e1 z oq => ?_
  exact kk p l e R s m args below meth c H1 _ cells slots ls Q ⟨hX2, hP.putA ha z oq e1, hS.put z oq hB, hL, hf, hcs, hQ⟩
theorem x_gets {idx k : Nat} {C n ds : String} (hd : decode M.2.1 pc = .ok (.getstatic idx, 3)) (hq : th_sts[k]? = some (C, n, ds)) (lk : Jvm.Cond.fieldLink M.1.cls idx C n ds ∈ th_tb) (kk : Xw E M d cz cs (pc + 3) L (E.2.2.2.2 k :: S) h Post) : Xw E M d cz cs pc L S h Post := by
  intro p l e R s m args below meth c H locs cells slots ls Q Y
  have k1 := kk p l e R s m args below meth c H locs cells slots ls Q Y
  obtain ⟨⟨hx, hb, hml, hown, hts, hr, hlk, hnm0, hC, hZ⟩, hP, hS, hL, hf, hcs, hQ⟩ := Y
  exact va_gets hx hb (hZ k _ hq) hS hown (hts _ lk) (fun _ q => q) hd k1
theorem x_getsN {idx k : Nat} {C n ds host : String} (hd : decode M.2.1 pc = .ok (.getstatic idx, 3)) (hq : th_sts[k]? = some (C, n, ds)) (lk : Jvm.Cond.fieldLinkNest M.1.cls idx C n ds host ∈ lw_tbl) (kk : Xw E M d cz cs (pc + 3) L (E.2.2.2.2 k :: S) h Post) : Xw E M d cz cs pc L S h Post := by
  intro p l e R s m args below meth c H locs cells slots ls Q Y
  have k1 := kk p l e R s m args below meth c H locs cells slots ls Q Y
  obtain ⟨⟨hx, hb, hml, hown, hts, hr, hlk, hnm0, hC, hZ⟩, hP, hS, hL, hf, hcs, hQ⟩ := Y
  exact va_getsN hx hb (hZ k _ hq) hS hown (va_Nw.use rfl (hC.2.1 _ _ _ _ _ _ lk)) (fun _ q => q) hd k1
theorem x_objinit {idx a : Nat} (hd : decode M.2.1 pc = .ok (.invokespecial idx, 3)) (l1 : Jvm.Cond.methodLink M.1.cls idx Lib.objectInit ∈ th_tb) (l2 : Jvm.Cond.instanceMethod Lib.objectInit ∈ th_tb) (l3 : Jvm.Cond.code Lib.objectInit ⟨#[0xb1]⟩ 1 none ∈ th_tb) (hd1 : 1 ≤ d) (hs8 : (S.map fun v => v.category).sum ≤ 8) (kk : Xw E M d cz cs (pc + 3) L S h Post) : Xw E M d cz cs pc L (.ref a :: S) h Post := by
  intro p l e R s m args below meth c H locs cells slots ls Q Y
  have k1 := kk p l e R s m args below meth c H locs cells slots ls Q Y
  obtain ⟨⟨hx, hb, hml, hown, hts, hr, hlk, hnm0, hC, hZ⟩, hP, hS, hL, ⟨hf1, hf2⟩, hcs, hQ⟩ := Y
  obtain ⟨-, lv, hl1, -⟩ := hL
  exact W.objInit hx hb hown (hts _ l1) (hts _ l2) (hts _ l3) rfl (by rw [hml]; exact hl1.1) rfl hd (by omega) (by show 2 * 0 + _ + 12 ≤ _; omega) k1
theorem x_ret (hp : Post none h) (hM : M.2.2.2 = none) (hd : decode M.2.1 pc = .ok (.return_, 1)) : Xw E M d cz cs pc L [] h Post := by
  intro p l e R s m args below meth c H locs cells slots ls Q Y
  exact Y.2.2.2.2.2.2 none h pc ls H locs cells slots hp (Or.inl ⟨rfl, hM, hd⟩) Y.2.1 Y.2.2.1 (by have := Y.2.2.2.2.2.1.1; omega) (by have := Y.2.2.2.2.2.1.2; omega)
theorem x_iret {x : Int32} {ty : FieldType} (hd : decode M.2.1 pc = .ok (.ireturn, 1)) (hM : M.2.2.2 = some ty) (hn : narrow ty (.int x) = .int x) (hp : Post (some (.int x)) h) : Xw E M d cz cs pc L [.int x] h Post := by
  intro p l e R s m args below meth c H locs cells slots ls Q Y
  exact Y.2.2.2.2.2.2 (some (.int x)) h pc ls H locs cells slots hp (Or.inr (Or.inl ⟨x, ty, rfl, hM, hn, hd⟩)) Y.2.1 Y.2.2.1 (by have := Y.2.2.2.2.2.1.1; omega) (by have := Y.2.2.2.2.2.1.2; omega)
theorem x_aret {w : Value} {ty : FieldType} (hd : decode M.2.1 pc = .ok (.areturn, 1)) (hM : M.2.2.2 = some ty) (hty : (∃ n, ty = .object n) ∨ ∃ t, ty = .array t) (hw : w = .null ∨ ∃ a, w = .ref a) (hp : Post (some w) h) : Xw E M d cz cs pc L [w] h Post := by
  intro p l e R s m args below meth c H locs cells slots ls Q Y
  exact Y.2.2.2.2.2.2 (some w) h pc ls H locs cells slots hp (Or.inr (Or.inr ⟨w, ty, rfl, hM, hty, hw, hd⟩)) Y.2.1 Y.2.2.1 (by have := Y.2.2.2.2.2.1.1; omega) (by have := Y.2.2.2.2.2.1.2; omega)
/-- a weaker goal behind the end -/
theorem Xw.post {Post' : Option Value → th_H → Prop} {pc : Nat} (w : Xw E M d cz cs pc L S h Post) (hp : ∀ v h', Post v h' → Post' v h') : Xw E M d cz cs pc L S h Post' := by
  intro p l e R s m args below meth c H locs cells slots ls Q Y
  exact w p l e R s m args below meth c H locs cells slots ls Q ⟨Y.1, Y.2.1, Y.2.2.1, Y.2.2.2.1, Y.2.2.2.2.1, Y.2.2.2.2.2.1, fun v h' pc' ls' H' locs' cells' slots' q => Y.2.2.2.2.2.2 v h' pc' ls' H' locs' cells' slots' (hp v h' q)⟩
/-- more room -/
theorem Xw.room {d' cz' cs' pc : Nat} (w : Xw E M d' cz' cs' pc L S h Post) (h1 : d' ≤ d) (h2 : cz' ≤ cz) (h3 : cs' ≤ cs) : Xw E M d cz cs pc L S h Post := by
  intro p l e R s m args below meth c H locs cells slots ls Q Y
  obtain ⟨hX, hP, hS, hL, ⟨hf1, hf2⟩, ⟨hc1, hc2⟩, hQ⟩ := Y
  exact w p l e R s m args below meth c H locs cells slots ls Q ⟨hX, hP, hS, hL, ⟨by omega, by omega⟩, ⟨by omega, by omega⟩, hQ⟩
end THR
theorem th_blind (E : th_E) (h : th_H) (as : List Value) : FrameBlind (va_Pc as (th_S E h)) := by
  intro a U g mk q
  obtain ⟨q0, q1, q2, q3⟩ := q
  exact ⟨q0, th_P.moved (u := U) (U := U.calling g mk a) (Vm.Alike.refl U.vm) q1, th_C.same (s := U) (U := U.calling g mk a) rfl q2, fun k z hk => va_Z.moved (u := U) (U := U.calling g mk a) (Vm.Alike.refl U.vm) (q3 k z hk)⟩
theorem th_pre {E : th_E} {h : th_H} {s : State} {H : Heap} {locs : List Loc} (hP : th_P E s h H) (hC : th_C E s) (hZ : th_Z E s s.heap) (hS : va_S (th_A E) s.heap H locs) (as : List Value) : ∀ U : State, U.heap = H → s.WarmedH U.vm → va_Pc as (th_S E h) as.toArray U :=
  fun U hU hW => ⟨rfl, by rw [hU]; exact hP.moved hW.alike, hC.warm hW, fun k q hk => ((hZ k q hk).moved hW.alike).kept (fun a h1 h2 => by rw [hU]; exact hS.2.1 a h1 h2)⟩
section THC
variable {p : Program} {l : Launch} {e : Env} {R : Room} {s : State} {m : MethodId} {args : Array Value} {below : List Frame} {meth : Method} {c : Code} {H : Heap} {locs : List Loc} {cells slots : Nat} {Q : State → Prop}
theorem th_call {E : th_E} {Post' : Option Value → th_H → Prop} {a : Array Value} {mc ms pc : Nat} {ls : Array Slot} {st0 rest : List Value} (hr : va_Run p l e R s m args below meth c H locs cells slots mc ms (F0 m pc ls st0) rest (th_Qc E Post' a) (th_A E)) (hS : va_S (th_A E) s.heap H locs)
    (kk : ∀ (v : Option Value) (h' : th_H) (H1 : Heap) (locs1 : List Loc), Post' v h' → th_P E s h' H1 → va_S (th_A E) s.heap H1 locs1 → W p l e R s m args below meth c H1 locs1 (cells + mc) (slots + ms) Q (F0 m (pc + 3) ls (v.toList ++ rest))) : W p l e R s m args below meth c H locs cells slots Q (F0 m pc ls st0) := by
  intro T hT X
  obtain ⟨v, st₀, t, T', L, h0, X', hL, e1, e2, ⟨v2, h', hv, hp, hxs, hz, hk⟩, st⟩ := hr T hT X
  cases hv
  rw [h0] at hz hk
  have hal : s.vm.Alike t.vm := by rw [← e2]; exact X'.warmed.alike
  obtain ⟨t2, a1, b1⟩ := kk v h' T'.heap (locs ++ L) hp (by rw [e1]; exact hxs.1.moved hal.symm)
    ⟨Nat.le_trans hS.1 (by rw [e1]; exact hz), fun q h1 h2 => by rw [e1, hk q (Nat.lt_of_lt_of_le h1 hS.1) h2]; exact hS.2.1 q h1 h2, fun q hq => by
      rcases List.mem_append.mp hq with h | h
      · exact hS.2.2 q h
      · exact hL q h⟩ T' rfl X'
  exact ⟨t2, st t2 a1, b1⟩
end THC
/-- a method that the constant pool of own names at idx -/
def th_md (M2 : th_M) (n : Nat) : Prop := (M2.1.cls ≠ "java/lang/invoke/MethodHandle" ∧ M2.1.cls ≠ "java/lang/invoke/VarHandle" ∧ (parseMethodDescriptor M2.1.desc).map (fun d => d.parameters.length) = some n) ∧ M2.2.2.1 ≤ 45 ∧ Jvm.Cond.initialized M2.1.cls ∈ th_tb ∧ Jvm.Cond.code M2.1 M2.2.1 M2.2.2.1 M2.2.2.2 ∈ th_tb
def th_mv (own : String) (idx : Nat) (M2 : th_M) (n : Nat) : Prop := th_md M2 n ∧ Jvm.Cond.methodLink own idx M2.1 ∈ th_tb ∧ Jvm.Cond.instanceMethod M2.1 ∈ th_tb ∧ Jvm.Cond.selects M2.1.cls M2.1 M2.1 ∈ th_tb
def th_ms (own : String) (idx : Nat) (M2 : th_M) (n : Nat) : Prop := th_md M2 n ∧ Jvm.Cond.methodLink own idx M2.1 ∈ th_tb ∧ Jvm.Cond.static M2.1 ∈ th_tb
def th_mi (own : String) (idx : Nat) (M2 : th_M) (n : Nat) : Prop := th_md M2 n ∧ Jvm.Cond.methodLink own idx M2.1 ∈ th_tb ∧ Jvm.Cond.instanceMethod M2.1 ∈ th_tb ∧ M2.1.name = "<init>" ∧ M2.2.2.2 = none
def th_mvN (own : String) (idx : Nat) (M2 : th_M) (n : Nat) : Prop := th_md M2 n ∧ (∃ host, Jvm.Cond.methodLinkNest own idx M2.1 host ∈ lw_tbl) ∧ Jvm.Cond.instanceMethod M2.1 ∈ th_tb ∧ Jvm.Cond.selects M2.1.cls M2.1 M2.1 ∈ th_tb
def th_msN (own : String) (idx : Nat) (M2 : th_M) (n : Nat) : Prop := th_md M2 n ∧ (∃ host, Jvm.Cond.methodLinkNest own idx M2.1 host ∈ lw_tbl) ∧ Jvm.Cond.static M2.1 ∈ th_tb
def th_miN (own : String) (idx : Nat) (M2 : th_M) (n : Nat) : Prop := th_md M2 n ∧ (∃ host, Jvm.Cond.methodLinkNest own idx M2.1 host ∈ lw_tbl) ∧ Jvm.Cond.instanceMethod M2.1 ∈ th_tb ∧ M2.1.name = "<init>" ∧ M2.2.2.2 = none
theorem th_md.good {M2 : th_M} {n : Nat} (h : th_md M2 n) : GoodIn th_tb (th_ws M2) := by
  intro w hw
  rcases List.mem_cons.mp hw with rfl | hw
  · exact ⟨h.2.2.2, th_tb_good h.2.2.2⟩
  · exact ⟨hw, th_tb_good hw⟩
theorem th_md.callB {M2 : th_M} {n d d2 cz cs : Nat} {R : Room} {s : State} {args : Array Value} {own : String} {idx : Nat} (h : th_md M2 n) (hts : ∀ w ∈ th_tb, w.before args s = true) (hl : Jvm.Cond.methodLink own idx M2.1 ∈ th_tb) (hf : d ≤ R.frames ∧ 64 * d ≤ R.locals) (hd2 : d2 + 1 ≤ d) :
    CallB R s args own idx M2.1 M2.2.1 M2.2.2.1 M2.2.2.2 (th_ws M2) { frames := d2, cells := cz, slots := cs, locals := 64 * d2 } cz cs n :=
  callB_of n hts h.good rfl rfl rfl (hts _ h.2.2.1) (hts _ hl) h.1 ⟨by show d2 + 1 ≤ _; omega, by have := h.2.1; show 8 + (M2.2.2.1 + 11) + 64 * d2 ≤ _; omega⟩
theorem th_md.callN {M2 : th_M} {n d d2 cz cs : Nat} {R : Room} {s : State} {args : Array Value} {own host : String} {idx : Nat} (h : th_md M2 n) (hts : ∀ w ∈ th_tb, w.before args s = true) (hl : va_Nw (.methodLinkNest own idx M2.1 host) s) (hf : d ≤ R.frames ∧ 64 * d ≤ R.locals) (hd2 : d2 + 1 ≤ d) :
    va_CN R s args own idx M2.1 host M2.2.1 M2.2.2.1 M2.2.2.2 (th_ws M2) { frames := d2, cells := cz, slots := cs, locals := 64 * d2 } cz cs n :=
  va_cnB n hts h.good rfl rfl rfl hl (hts _ h.2.2.1) h.1 ⟨by show d2 + 1 ≤ _; omega, by have := h.2.1; show 8 + (M2.2.2.1 + 11) + 64 * d2 ≤ _; omega⟩
section THI
variable {E : th_E} {M M2 : th_M} {d d2 cz cs cz' cs' cz2 cs2 pc idx n : Nat} {L : List (Option Value)} {S st as : List Value} {h : th_H} {Post Post' : Option Value → th_H → Prop}
theorem x_invv {b ci N : Nat} {T : u_T} (hd : decode M.2.1 pc = .ok (.invokevirtual idx, 3)) (lk : th_mv M.1.cls idx M2 n) (hc : Xc E M2 d2 cz2 cs2 (.ref b :: as) h Post') (hbk : gk h b = some (.inl ci)) (hcl : classes[ci]? = some (M2.1.cls, T, N)) (hst : st = as.reverse ++ .ref b :: S) (hn : as.length = n) (hs8 : (S.map fun v => v.category).sum ≤ 8) (hd2 : d2 + 1 ≤ d) (hz1 : cz' + cz2 ≤ cz) (hs1 : cs' + cs2 ≤ cs)
    (kk : ∀ (v : Option Value) (h' : th_H), Post' v h' → Xw E M d cz' cs' (pc + 3) L (v.toList ++ S) h' Post) : Xw E M d cz cs pc L st h Post := by
  intro p l e R s m args below meth c H locs cells slots ls Q Y
  obtain ⟨hX, hP, hS, hL, hf, ⟨hc1, hc2⟩, hQ⟩ := Y
  have hX2 := hX
  obtain ⟨hx, hb, hml, hown, hts, hr, hlk, hnm0, hC, hZ⟩ := hX
  obtain ⟨hmd, l1, l2, l3⟩ := lk
  obtain ⟨-, r', hr', cellV, g1, g2, g3, -⟩ := hP.2 b _ hbk
  have hcls := (hC.1.1 ci _ hcl).2.1
  have hl2 := hL
  obtain ⟨-, lv, hl1, -⟩ := hl2
  refine th_call (va_runV (b := b) (As := as) (rest := S) ⟨hx, hb, hml, hown, hts⟩ (hc l) ⟨hmd.callB hts l1 hf hd2, hts _ l2, hts _ l3⟩ ⟨th_blind E h _, ⟨cellV, g1, by rw [g3]; rfl, by rw [g2]; exact hcls⟩, th_pre hP hC hZ hS _⟩ rfl hn hl1.1 hst (by show 2 * 0 + _ ≤ 8; omega) hd ⟨by omega, by omega⟩) hS (fun v h' H1 locs1 hp hP1 hS1 => ?_)
  exact kk v h' hp p l e R s m args below meth c H1 locs1 _ _ ls Q ⟨hX2, hP1, hS1, hL, hf, ⟨by omega, by omega⟩, hQ⟩
theorem x_invvN {b ci N : Nat} {T : u_T} (hd : decode M.2.1 pc = .ok (.invokevirtual idx, 3)) (lk : th_mvN M.1.cls idx M2 n) (hc : Xc E M2 d2 cz2 cs2 (.ref b :: as) h Post') (hbk : gk h b = some (.inl ci)) (hcl : classes[ci]? = some (M2.1.cls, T, N)) (hst : st = as.reverse ++ .ref b :: S) (hn : as.length = n) (hs8 : (S.map fun v => v.category).sum ≤ 8) (hd2 : d2 + 1 ≤ d) (hz1 : cz' + cz2 ≤ cz) (hs1 : cs' + cs2 ≤ cs)
    (kk : ∀ (v : Option Value) (h' : th_H), Post' v h' → Xw E M d cz' cs' (pc + 3) L (v.toList ++ S) h' Post) : Xw E M d cz cs pc L st h Post := by
  intro p l e R s m args below meth c H locs cells slots ls Q Y
  obtain ⟨hX, hP, hS, hL, hf, ⟨hc1, hc2⟩, hQ⟩ := Y
  have hX2 := hX
  obtain ⟨hx, hb, hml, hown, hts, hr, hlk, hnm0, hC, hZ⟩ := hX
  obtain ⟨hmd, ⟨host, l1⟩, l2, l3⟩ := lk
  obtain ⟨-, r', hr', cellV, g1, g2, g3, -⟩ := hP.2 b _ hbk
  have hcls := (hC.1.1 ci _ hcl).2.1
  have hl2 := hL
  obtain ⟨-, lv, hl1, -⟩ := hl2
  refine th_call (va_runVN (b := b) (As := as) (rest := S) ⟨hx, hb, hml, hown, hts⟩ (hc l) ⟨hmd.callN hts (hC.2.2.1 _ _ _ _ l1) hf hd2, hts _ l2, hts _ l3⟩ ⟨th_blind E h _, ⟨cellV, g1, by rw [g3]; rfl, by rw [g2]; exact hcls⟩, th_pre hP hC hZ hS _⟩ rfl hn hl1.1 hst (by show 2 * 0 + _ ≤ 8; omega) hd ⟨by omega, by omega⟩) hS (fun v h' H1 locs1 hp hP1 hS1 => ?_)
  exact kk v h' hp p l e R s m args below meth c H1 locs1 _ _ ls Q ⟨hX2, hP1, hS1, hL, hf, ⟨by omega, by omega⟩, hQ⟩
theorem x_invs (hd : decode M.2.1 pc = .ok (.invokestatic idx, 3)) (lk : th_ms M.1.cls idx M2 n) (hc : Xc E M2 d2 cz2 cs2 as h Post') (hst : st = as.reverse ++ S) (hn : as.length = n) (hs8 : (S.map fun v => v.category).sum ≤ 8) (hd2 : d2 + 1 ≤ d) (hz1 : cz' + cz2 ≤ cz) (hs1 : cs' + cs2 ≤ cs)
    (kk : ∀ (v : Option Value) (h' : th_H), Post' v h' → Xw E M d cz' cs' (pc + 3) L (v.toList ++ S) h' Post) : Xw E M d cz cs pc L st h Post := by
  intro p l e R s m args below meth c H locs cells slots ls Q Y
  obtain ⟨hX, hP, hS, hL, hf, ⟨hc1, hc2⟩, hQ⟩ := Y
  have hX2 := hX
  obtain ⟨hx, hb, hml, hown, hts, hr, hlk, hnm0, hC, hZ⟩ := hX
  obtain ⟨hmd, l1, l2⟩ := lk
  have hl2 := hL
  obtain ⟨-, lv, hl1, -⟩ := hl2
  refine th_call (va_runS (As := as) (rest := S) ⟨hx, hb, hml, hown, hts⟩ (hc l) ⟨hmd.callB hts l1 hf hd2, hts _ l2⟩ ⟨th_blind E h _, th_pre hP hC hZ hS _⟩ rfl hn hl1.1 hst (by show 2 * 0 + _ ≤ 8; omega) hd ⟨by omega, by omega⟩) hS (fun v h' H1 locs1 hp hP1 hS1 => ?_)
  exact kk v h' hp p l e R s m args below meth c H1 locs1 _ _ ls Q ⟨hX2, hP1, hS1, hL, hf, ⟨by omega, by omega⟩, hQ⟩
theorem x_invsN (hd : decode M.2.1 pc = .ok (.invokestatic idx, 3)) (lk : th_msN M.1.cls idx M2 n) (hc : Xc E M2 d2 cz2 cs2 as h Post') (hst : st = as.reverse ++ S) (hn : as.length = n) (hs8 : (S.map fun v => v.category).sum ≤ 8) (hd2 : d2 + 1 ≤ d) (hz1 : cz' + cz2 ≤ cz) (hs1 : cs' + cs2 ≤ cs)
    (kk : ∀ (v : Option Value) (h' : th_H), Post' v h' → Xw E M d cz' cs' (pc + 3) L (v.toList ++ S) h' Post) : Xw E M d cz cs pc L st h Post := by
  intro p l e R s m args below meth c H locs cells slots ls Q Y
  obtain ⟨hX, hP, hS, hL, hf, ⟨hc1, hc2⟩, hQ⟩ := Y
  have hX2 := hX
  obtain ⟨hx, hb, hml, hown, hts, hr, hlk, hnm0, hC, hZ⟩ := hX
  obtain ⟨hmd, ⟨host, l1⟩, l2⟩ := lk
  have hl2 := hL
  obtain ⟨-, lv, hl1, -⟩ := hl2
  refine th_call (va_runSN (As := as) (rest := S) ⟨hx, hb, hml, hown, hts⟩ (hc l) ⟨hmd.callN hts (hC.2.2.1 _ _ _ _ l1) hf hd2, hts _ l2, trivial⟩ ⟨th_blind E h _, th_pre hP hC hZ hS _⟩ rfl hn hl1.1 hst (by show 2 * 0 + _ ≤ 8; omega) hd ⟨by omega, by omega⟩) hS (fun v h' H1 locs1 hp hP1 hS1 => ?_)
  exact kk v h' hp p l e R s m args below meth c H1 locs1 _ _ ls Q ⟨hX2, hP1, hS1, hL, hf, ⟨by omega, by omega⟩, hQ⟩
theorem x_invi {b : Nat} (hd : decode M.2.1 pc = .ok (.invokespecial idx, 3)) (lk : th_mi M.1.cls idx M2 n) (hc : Xc E M2 d2 cz2 cs2 (.ref b :: as) h Post') (hst : st = as.reverse ++ .ref b :: S) (hn : as.length = n) (hs8 : (S.map fun v => v.category).sum ≤ 8) (hd2 : d2 + 1 ≤ d) (hz1 : cz' + cz2 ≤ cz) (hs1 : cs' + cs2 ≤ cs)
    (kk : ∀ (v : Option Value) (h' : th_H), Post' v h' → Xw E M d cz' cs' (pc + 3) L (v.toList ++ S) h' Post) : Xw E M d cz cs pc L st h Post := by
  intro p l e R s m args below meth c H locs cells slots ls Q Y
  obtain ⟨hX, hP, hS, hL, hf, ⟨hc1, hc2⟩, hQ⟩ := Y
  have hX2 := hX
  obtain ⟨hx, hb, hml, hown, hts, hr, hlk, hnm0, hC, hZ⟩ := hX
  obtain ⟨hmd, l1, l2, l3, l4⟩ := lk
  have hl2 := hL
  obtain ⟨-, lv, hl1, -⟩ := hl2
  have hcb := hmd.callB (cz := cz2) (cs := cs2) hts l1 hf hd2
  rw [l4] at hcb
  refine th_call (va_runI (b := b) (As := as) (rest := S) ⟨hx, hb, hml, hown, hts⟩ (hc l) ⟨hcb, l3, hts _ l2⟩ ⟨th_blind E h _, th_pre hP hC hZ hS _⟩ rfl hn hl1.1 hst (by show 2 * 0 + _ ≤ 8; omega) hd ⟨by omega, by omega⟩) hS (fun v h' H1 locs1 hp hP1 hS1 => ?_)
  exact kk v h' hp p l e R s m args below meth c H1 locs1 _ _ ls Q ⟨hX2, hP1, hS1, hL, hf, ⟨by omega, by omega⟩, hQ⟩
theorem x_inviN {b : Nat} (hd : decode M.2.1 pc = .ok (.invokespecial idx, 3)) (lk : th_miN M.1.cls idx M2 n) (hc : Xc E M2 d2 cz2 cs2 (.ref b :: as) h Post') (hst : st = as.reverse ++ .ref b :: S) (hn : as.length = n) (hs8 : (S.map fun v => v.category).sum ≤ 8) (hd2 : d2 + 1 ≤ d) (hz1 : cz' + cz2 ≤ cz) (hs1 : cs' + cs2 ≤ cs)
    (kk : ∀ (v : Option Value) (h' : th_H), Post' v h' → Xw E M d cz' cs' (pc + 3) L (v.toList ++ S) h' Post) : Xw E M d cz cs pc L st h Post := by
  intro p l e R s m args below meth c H locs cells slots ls Q Y
  obtain ⟨hX, hP, hS, hL, hf, ⟨hc1, hc2⟩, hQ⟩ := Y
  have hX2 := hX
  obtain ⟨hx, hb, hml, hown, hts, hr, hlk, hnm0, hC, hZ⟩ := hX
  obtain ⟨hmd, ⟨host, l1⟩, l2, l3, l4⟩ := lk
  have hl2 := hL
  obtain ⟨-, lv, hl1, -⟩ := hl2
  have hcb := hmd.callN (cz := cz2) (cs := cs2) hts (hC.2.2.1 _ _ _ _ l1) hf hd2
  rw [l4] at hcb
  refine th_call (va_runIN (b := b) (As := as) (rest := S) ⟨hx, hb, hml, hown, hts⟩ (hc l) ⟨hcb, l3, hts _ l2⟩ ⟨th_blind E h _, th_pre hP hC hZ hS _⟩ rfl hn hl1.1 hst (by show 2 * 0 + _ ≤ 8; omega) hd ⟨by omega, by omega⟩) hS (fun v h' H1 locs1 hp hP1 hS1 => ?_)
  exact kk v h' hp p l e R s m args below meth c H1 locs1 _ _ ls Q ⟨hX2, hP1, hS1, hL, hf, ⟨by omega, by omega⟩, hQ⟩
end THI
end
