section
-- ===== PART A: goes FIRST, ahead of the names: the tables' words, and 'selects' of the private methods out of them =====
/-- a private method of a class that the tables say can be made, by its rows of tables_1 -/
def lw_okq (q : MethodName × Nat) : Prop := (q.1.cls ≠ "java/lang/invoke/MethodHandle" ∧ q.1.cls ≠ "java/lang/invoke/VarHandle") ∧ Cond.instantiable q.1.cls q.2 ∈ tables_1 ∧ Cond.privateMethod q.1 ∈ tables_1 ∧ Cond.instanceMethod q.1 ∈ tables_1
theorem lw_p0 : lw_okq (⟨"TurnHost$Society", "end", "(LTurnHost$HostProcess;LTurnHost$Term;)V"⟩, 5) := ⟨⟨by decide +kernel, by decide +kernel⟩, List.mem_of_getElem? (i := 41) (by decide +kernel), List.mem_of_getElem? (i := 286) (by decide +kernel), List.mem_of_getElem? (i := 287) (by decide +kernel)⟩
theorem lw_p1 : lw_okq (⟨"TurnHost$Society", "untie", "(LTurnHost$HostProcess;LTurnHost$HostProcess;)V"⟩, 5) := ⟨⟨by decide +kernel, by decide +kernel⟩, List.mem_of_getElem? (i := 41) (by decide +kernel), List.mem_of_getElem? (i := 294) (by decide +kernel), List.mem_of_getElem? (i := 295) (by decide +kernel)⟩
theorem lw_p2 : lw_okq (⟨"TurnHost$Society", "signal", "(LTurnHost$HostProcess;LTurnHost$HostProcess;LTurnHost$Term;)V"⟩, 5) := ⟨⟨by decide +kernel, by decide +kernel⟩, List.mem_of_getElem? (i := 41) (by decide +kernel), List.mem_of_getElem? (i := 298) (by decide +kernel), List.mem_of_getElem? (i := 299) (by decide +kernel)⟩
theorem lw_p3 : lw_okq (⟨"TurnHost$Society", "exitNotice", "(LTurnHost$HostProcess;LTurnHost$Term;)LTurnHost$Term;"⟩, 5) := ⟨⟨by decide +kernel, by decide +kernel⟩, List.mem_of_getElem? (i := 41) (by decide +kernel), List.mem_of_getElem? (i := 302) (by decide +kernel), List.mem_of_getElem? (i := 303) (by decide +kernel)⟩
theorem lw_p4 : lw_okq (⟨"TurnHost$Machine", "perform", "(LTurnHost$HostProcess;IIII)Z"⟩, 2) := ⟨⟨by decide +kernel, by decide +kernel⟩, List.mem_of_getElem? (i := 20) (by decide +kernel), List.mem_of_getElem? (i := 319) (by decide +kernel), List.mem_of_getElem? (i := 320) (by decide +kernel)⟩
theorem lw_p5 : lw_okq (⟨"TurnHost$Machine", "goBack", "(LTurnHost$HostProcess;)Z"⟩, 2) := ⟨⟨by decide +kernel, by decide +kernel⟩, List.mem_of_getElem? (i := 20) (by decide +kernel), List.mem_of_getElem? (i := 349) (by decide +kernel), List.mem_of_getElem? (i := 350) (by decide +kernel)⟩
theorem lw_p6 : lw_okq (⟨"TurnHost$Machine", "send", "(LTurnHost$HostProcess;LTurnHost$Term;)Z"⟩, 2) := ⟨⟨by decide +kernel, by decide +kernel⟩, List.mem_of_getElem? (i := 20) (by decide +kernel), List.mem_of_getElem? (i := 358) (by decide +kernel), List.mem_of_getElem? (i := 359) (by decide +kernel)⟩
theorem lw_p7 : lw_okq (⟨"TurnHost$Machine", "waitOrGoOn", "(LTurnHost$HostProcess;I)Z"⟩, 2) := ⟨⟨by decide +kernel, by decide +kernel⟩, List.mem_of_getElem? (i := 20) (by decide +kernel), List.mem_of_getElem? (i := 379) (by decide +kernel), List.mem_of_getElem? (i := 380) (by decide +kernel)⟩
theorem lw_p8 : lw_okq (⟨"TurnHost$Machine", "spawn", "(LTurnHost$HostProcess;IILTurnHost$Term;)Z"⟩, 2) := ⟨⟨by decide +kernel, by decide +kernel⟩, List.mem_of_getElem? (i := 20) (by decide +kernel), List.mem_of_getElem? (i := 387) (by decide +kernel), List.mem_of_getElem? (i := 388) (by decide +kernel)⟩
theorem lw_p9 : lw_okq (⟨"TurnHost$Machine", "link", "(LTurnHost$HostProcess;LTurnHost$HostProcess;)Z"⟩, 2) := ⟨⟨by decide +kernel, by decide +kernel⟩, List.mem_of_getElem? (i := 20) (by decide +kernel), List.mem_of_getElem? (i := 392) (by decide +kernel), List.mem_of_getElem? (i := 393) (by decide +kernel)⟩
theorem lw_p10 : lw_okq (⟨"TurnHost$Machine", "finish", "(LTurnHost$HostProcess;LTurnHost$Term;)Z"⟩, 2) := ⟨⟨by decide +kernel, by decide +kernel⟩, List.mem_of_getElem? (i := 20) (by decide +kernel), List.mem_of_getElem? (i := 404) (by decide +kernel), List.mem_of_getElem? (i := 405) (by decide +kernel)⟩
theorem lw_p11 : lw_okq (⟨"TurnHost$Machine", "stop", "(LTurnHost$HostProcess;LTurnHost$HostProcess;)Z"⟩, 2) := ⟨⟨by decide +kernel, by decide +kernel⟩, List.mem_of_getElem? (i := 20) (by decide +kernel), List.mem_of_getElem? (i := 408) (by decide +kernel), List.mem_of_getElem? (i := 409) (by decide +kernel)⟩
theorem lw_p12 : lw_okq (⟨"TurnHost", "countInTurn", "(LTurnHost$HostProcess;)V"⟩, 5) := ⟨⟨by decide +kernel, by decide +kernel⟩, List.mem_of_getElem? (i := 12) (by decide +kernel), List.mem_of_getElem? (i := 412) (by decide +kernel), List.mem_of_getElem? (i := 413) (by decide +kernel)⟩
theorem lw_p13 : lw_okq (⟨"TurnHost", "termOf", "(II)LTurnHost$Term;"⟩, 5) := ⟨⟨by decide +kernel, by decide +kernel⟩, List.mem_of_getElem? (i := 12) (by decide +kernel), List.mem_of_getElem? (i := 454) (by decide +kernel), List.mem_of_getElem? (i := 455) (by decide +kernel)⟩
theorem lw_p14 : lw_okq (⟨"TurnHostModel", "put", "(III)V"⟩, 22) := ⟨⟨by decide +kernel, by decide +kernel⟩, List.mem_of_getElem? (i := 486) (by decide +kernel), List.mem_of_getElem? (i := 583) (by decide +kernel), List.mem_of_getElem? (i := 584) (by decide +kernel)⟩
theorem lw_p15 : lw_okq (⟨"TurnHostModel", "start", "(II)I"⟩, 22) := ⟨⟨by decide +kernel, by decide +kernel⟩, List.mem_of_getElem? (i := 486) (by decide +kernel), List.mem_of_getElem? (i := 587) (by decide +kernel), List.mem_of_getElem? (i := 588) (by decide +kernel)⟩
def lw_privs_1 : List (MethodName × Nat) := [(⟨"TurnHost$Society", "end", "(LTurnHost$HostProcess;LTurnHost$Term;)V"⟩, 5), (⟨"TurnHost$Society", "untie", "(LTurnHost$HostProcess;LTurnHost$HostProcess;)V"⟩, 5), (⟨"TurnHost$Society", "signal", "(LTurnHost$HostProcess;LTurnHost$HostProcess;LTurnHost$Term;)V"⟩, 5), (⟨"TurnHost$Society", "exitNotice", "(LTurnHost$HostProcess;LTurnHost$Term;)LTurnHost$Term;"⟩, 5), (⟨"TurnHost$Machine", "perform", "(LTurnHost$HostProcess;IIII)Z"⟩, 2), (⟨"TurnHost$Machine", "goBack", "(LTurnHost$HostProcess;)Z"⟩, 2), (⟨"TurnHost$Machine", "send", "(LTurnHost$HostProcess;LTurnHost$Term;)Z"⟩, 2), (⟨"TurnHost$Machine", "waitOrGoOn", "(LTurnHost$HostProcess;I)Z"⟩, 2), (⟨"TurnHost$Machine", "spawn", "(LTurnHost$HostProcess;IILTurnHost$Term;)Z"⟩, 2), (⟨"TurnHost$Machine", "link", "(LTurnHost$HostProcess;LTurnHost$HostProcess;)Z"⟩, 2), (⟨"TurnHost$Machine", "finish", "(LTurnHost$HostProcess;LTurnHost$Term;)Z"⟩, 2), (⟨"TurnHost$Machine", "stop", "(LTurnHost$HostProcess;LTurnHost$HostProcess;)Z"⟩, 2), (⟨"TurnHost", "countInTurn", "(LTurnHost$HostProcess;)V"⟩, 5), (⟨"TurnHost", "termOf", "(II)LTurnHost$Term;"⟩, 5), (⟨"TurnHostModel", "put", "(III)V"⟩, 22), (⟨"TurnHostModel", "start", "(II)I"⟩, 22)]
theorem lw_r1 : ∀ q ∈ lw_privs_1, lw_okq q := List.forall_mem_cons.mpr ⟨lw_p0, List.forall_mem_cons.mpr ⟨lw_p1, List.forall_mem_cons.mpr ⟨lw_p2, List.forall_mem_cons.mpr ⟨lw_p3, List.forall_mem_cons.mpr ⟨lw_p4, List.forall_mem_cons.mpr ⟨lw_p5, List.forall_mem_cons.mpr ⟨lw_p6, List.forall_mem_cons.mpr ⟨lw_p7, List.forall_mem_cons.mpr ⟨lw_p8, List.forall_mem_cons.mpr ⟨lw_p9, List.forall_mem_cons.mpr ⟨lw_p10, List.forall_mem_cons.mpr ⟨lw_p11, List.forall_mem_cons.mpr ⟨lw_p12, List.forall_mem_cons.mpr ⟨lw_p13, List.forall_mem_cons.mpr ⟨lw_p14, List.forall_mem_cons.mpr ⟨lw_p15, fun _ h => absurd h List.not_mem_nil⟩⟩⟩⟩⟩⟩⟩⟩⟩⟩⟩⟩⟩⟩⟩⟩
theorem lw_p16 : lw_okq (⟨"TurnHostModel", "copy", "(II)V"⟩, 22) := ⟨⟨by decide +kernel, by decide +kernel⟩, List.mem_of_getElem? (i := 486) (by decide +kernel), List.mem_of_getElem? (i := 591) (by decide +kernel), List.mem_of_getElem? (i := 592) (by decide +kernel)⟩
theorem lw_p17 : lw_okq (⟨"TurnHostModel", "come", "(I)V"⟩, 22) := ⟨⟨by decide +kernel, by decide +kernel⟩, List.mem_of_getElem? (i := 486) (by decide +kernel), List.mem_of_getElem? (i := 595) (by decide +kernel), List.mem_of_getElem? (i := 596) (by decide +kernel)⟩
theorem lw_p18 : lw_okq (⟨"TurnHostModel", "deliver", "(II)V"⟩, 22) := ⟨⟨by decide +kernel, by decide +kernel⟩, List.mem_of_getElem? (i := 486) (by decide +kernel), List.mem_of_getElem? (i := 603) (by decide +kernel), List.mem_of_getElem? (i := 604) (by decide +kernel)⟩
theorem lw_p19 : lw_okq (⟨"TurnHostModel", "step", "(I)V"⟩, 22) := ⟨⟨by decide +kernel, by decide +kernel⟩, List.mem_of_getElem? (i := 486) (by decide +kernel), List.mem_of_getElem? (i := 611) (by decide +kernel), List.mem_of_getElem? (i := 612) (by decide +kernel)⟩
theorem lw_p20 : lw_okq (⟨"TurnHostModel", "make", "(IIIII)Z"⟩, 22) := ⟨⟨by decide +kernel, by decide +kernel⟩, List.mem_of_getElem? (i := 486) (by decide +kernel), List.mem_of_getElem? (i := 615) (by decide +kernel), List.mem_of_getElem? (i := 616) (by decide +kernel)⟩
theorem lw_p21 : lw_okq (⟨"TurnHostModel", "weight", "(I)I"⟩, 22) := ⟨⟨by decide +kernel, by decide +kernel⟩, List.mem_of_getElem? (i := 486) (by decide +kernel), List.mem_of_getElem? (i := 619) (by decide +kernel), List.mem_of_getElem? (i := 620) (by decide +kernel)⟩
theorem lw_p22 : lw_okq (⟨"TurnHostModel", "addParts", "(IIII)V"⟩, 22) := ⟨⟨by decide +kernel, by decide +kernel⟩, List.mem_of_getElem? (i := 486) (by decide +kernel), List.mem_of_getElem? (i := 623) (by decide +kernel), List.mem_of_getElem? (i := 624) (by decide +kernel)⟩
theorem lw_p23 : lw_okq (⟨"TurnHostModel", "sortOf", "(II)I"⟩, 22) := ⟨⟨by decide +kernel, by decide +kernel⟩, List.mem_of_getElem? (i := 486) (by decide +kernel), List.mem_of_getElem? (i := 627) (by decide +kernel), List.mem_of_getElem? (i := 628) (by decide +kernel)⟩
theorem lw_p24 : lw_okq (⟨"TurnHostModel", "numberOf", "(II)I"⟩, 22) := ⟨⟨by decide +kernel, by decide +kernel⟩, List.mem_of_getElem? (i := 486) (by decide +kernel), List.mem_of_getElem? (i := 631) (by decide +kernel), List.mem_of_getElem? (i := 632) (by decide +kernel)⟩
theorem lw_p25 : lw_okq (⟨"TurnHostModel", "append", "(III)V"⟩, 22) := ⟨⟨by decide +kernel, by decide +kernel⟩, List.mem_of_getElem? (i := 486) (by decide +kernel), List.mem_of_getElem? (i := 635) (by decide +kernel), List.mem_of_getElem? (i := 636) (by decide +kernel)⟩
theorem lw_p26 : lw_okq (⟨"TurnHostModel", "behind", "(II)I"⟩, 22) := ⟨⟨by decide +kernel, by decide +kernel⟩, List.mem_of_getElem? (i := 486) (by decide +kernel), List.mem_of_getElem? (i := 639) (by decide +kernel), List.mem_of_getElem? (i := 640) (by decide +kernel)⟩
theorem lw_p27 : lw_okq (⟨"TurnHostModel", "branch", "(IIIII)Z"⟩, 22) := ⟨⟨by decide +kernel, by decide +kernel⟩, List.mem_of_getElem? (i := 486) (by decide +kernel), List.mem_of_getElem? (i := 643) (by decide +kernel), List.mem_of_getElem? (i := 644) (by decide +kernel)⟩
theorem lw_p28 : lw_okq (⟨"TurnHostModel", "isSame", "(II)Z"⟩, 22) := ⟨⟨by decide +kernel, by decide +kernel⟩, List.mem_of_getElem? (i := 486) (by decide +kernel), List.mem_of_getElem? (i := 647) (by decide +kernel), List.mem_of_getElem? (i := 648) (by decide +kernel)⟩
theorem lw_p29 : lw_okq (⟨"TurnHostModel", "endBy", "(II)V"⟩, 22) := ⟨⟨by decide +kernel, by decide +kernel⟩, List.mem_of_getElem? (i := 486) (by decide +kernel), List.mem_of_getElem? (i := 651) (by decide +kernel), List.mem_of_getElem? (i := 652) (by decide +kernel)⟩
theorem lw_p30 : lw_okq (⟨"TurnHostModel", "end", "(II)V"⟩, 22) := ⟨⟨by decide +kernel, by decide +kernel⟩, List.mem_of_getElem? (i := 486) (by decide +kernel), List.mem_of_getElem? (i := 655) (by decide +kernel), List.mem_of_getElem? (i := 656) (by decide +kernel)⟩
theorem lw_p31 : lw_okq (⟨"TurnHostModel", "stop", "(II)V"⟩, 22) := ⟨⟨by decide +kernel, by decide +kernel⟩, List.mem_of_getElem? (i := 486) (by decide +kernel), List.mem_of_getElem? (i := 659) (by decide +kernel), List.mem_of_getElem? (i := 660) (by decide +kernel)⟩
def lw_privs_2 : List (MethodName × Nat) := [(⟨"TurnHostModel", "copy", "(II)V"⟩, 22), (⟨"TurnHostModel", "come", "(I)V"⟩, 22), (⟨"TurnHostModel", "deliver", "(II)V"⟩, 22), (⟨"TurnHostModel", "step", "(I)V"⟩, 22), (⟨"TurnHostModel", "make", "(IIIII)Z"⟩, 22), (⟨"TurnHostModel", "weight", "(I)I"⟩, 22), (⟨"TurnHostModel", "addParts", "(IIII)V"⟩, 22), (⟨"TurnHostModel", "sortOf", "(II)I"⟩, 22), (⟨"TurnHostModel", "numberOf", "(II)I"⟩, 22), (⟨"TurnHostModel", "append", "(III)V"⟩, 22), (⟨"TurnHostModel", "behind", "(II)I"⟩, 22), (⟨"TurnHostModel", "branch", "(IIIII)Z"⟩, 22), (⟨"TurnHostModel", "isSame", "(II)Z"⟩, 22), (⟨"TurnHostModel", "endBy", "(II)V"⟩, 22), (⟨"TurnHostModel", "end", "(II)V"⟩, 22), (⟨"TurnHostModel", "stop", "(II)V"⟩, 22)]
theorem lw_r2 : ∀ q ∈ lw_privs_2, lw_okq q := List.forall_mem_cons.mpr ⟨lw_p16, List.forall_mem_cons.mpr ⟨lw_p17, List.forall_mem_cons.mpr ⟨lw_p18, List.forall_mem_cons.mpr ⟨lw_p19, List.forall_mem_cons.mpr ⟨lw_p20, List.forall_mem_cons.mpr ⟨lw_p21, List.forall_mem_cons.mpr ⟨lw_p22, List.forall_mem_cons.mpr ⟨lw_p23, List.forall_mem_cons.mpr ⟨lw_p24, List.forall_mem_cons.mpr ⟨lw_p25, List.forall_mem_cons.mpr ⟨lw_p26, List.forall_mem_cons.mpr ⟨lw_p27, List.forall_mem_cons.mpr ⟨lw_p28, List.forall_mem_cons.mpr ⟨lw_p29, List.forall_mem_cons.mpr ⟨lw_p30, List.forall_mem_cons.mpr ⟨lw_p31, fun _ h => absurd h List.not_mem_nil⟩⟩⟩⟩⟩⟩⟩⟩⟩⟩⟩⟩⟩⟩⟩⟩
theorem lw_p32 : lw_okq (⟨"TurnHostModel", "leave", "(I)V"⟩, 22) := ⟨⟨by decide +kernel, by decide +kernel⟩, List.mem_of_getElem? (i := 486) (by decide +kernel), List.mem_of_getElem? (i := 663) (by decide +kernel), List.mem_of_getElem? (i := 664) (by decide +kernel)⟩
theorem lw_p33 : lw_okq (⟨"TurnHostModel", "signal", "(III)Z"⟩, 22) := ⟨⟨by decide +kernel, by decide +kernel⟩, List.mem_of_getElem? (i := 486) (by decide +kernel), List.mem_of_getElem? (i := 667) (by decide +kernel), List.mem_of_getElem? (i := 668) (by decide +kernel)⟩
theorem lw_p34 : lw_okq (⟨"TurnHostModel", "mail", "(IIII)Z"⟩, 22) := ⟨⟨by decide +kernel, by decide +kernel⟩, List.mem_of_getElem? (i := 486) (by decide +kernel), List.mem_of_getElem? (i := 671) (by decide +kernel), List.mem_of_getElem? (i := 672) (by decide +kernel)⟩
theorem lw_p35 : lw_okq (⟨"TurnHostModel", "named", "(I)I"⟩, 22) := ⟨⟨by decide +kernel, by decide +kernel⟩, List.mem_of_getElem? (i := 486) (by decide +kernel), List.mem_of_getElem? (i := 675) (by decide +kernel), List.mem_of_getElem? (i := 676) (by decide +kernel)⟩
theorem lw_p36 : lw_okq (⟨"TurnHostModel", "life", "(IIIII)Z"⟩, 22) := ⟨⟨by decide +kernel, by decide +kernel⟩, List.mem_of_getElem? (i := 486) (by decide +kernel), List.mem_of_getElem? (i := 679) (by decide +kernel), List.mem_of_getElem? (i := 680) (by decide +kernel)⟩
theorem lw_p37 : lw_okq (⟨"TurnHostModel", "isTerm", "(II)Z"⟩, 22) := ⟨⟨by decide +kernel, by decide +kernel⟩, List.mem_of_getElem? (i := 486) (by decide +kernel), List.mem_of_getElem? (i := 703) (by decide +kernel), List.mem_of_getElem? (i := 704) (by decide +kernel)⟩
def lw_privs_3 : List (MethodName × Nat) := [(⟨"TurnHostModel", "leave", "(I)V"⟩, 22), (⟨"TurnHostModel", "signal", "(III)Z"⟩, 22), (⟨"TurnHostModel", "mail", "(IIII)Z"⟩, 22), (⟨"TurnHostModel", "named", "(I)I"⟩, 22), (⟨"TurnHostModel", "life", "(IIIII)Z"⟩, 22), (⟨"TurnHostModel", "isTerm", "(II)Z"⟩, 22)]
theorem lw_r3 : ∀ q ∈ lw_privs_3, lw_okq q := List.forall_mem_cons.mpr ⟨lw_p32, List.forall_mem_cons.mpr ⟨lw_p33, List.forall_mem_cons.mpr ⟨lw_p34, List.forall_mem_cons.mpr ⟨lw_p35, List.forall_mem_cons.mpr ⟨lw_p36, List.forall_mem_cons.mpr ⟨lw_p37, fun _ h => absurd h List.not_mem_nil⟩⟩⟩⟩⟩⟩
def lw_privs : List (MethodName × Nat) := lw_privs_1 ++ (lw_privs_2 ++ (lw_privs_3))
def lw_tbl : List Cond := k2_sels lw_privs ++ tables_1
theorem lw_privs_ok : ∀ q ∈ lw_privs, lw_okq q := by
  show ∀ q ∈ lw_privs_1 ++ (lw_privs_2 ++ (lw_privs_3)), lw_okq q
  exact List.forall_mem_append.mpr ⟨lw_r1, List.forall_mem_append.mpr ⟨lw_r2, lw_r3⟩⟩
end
section
/-! Names and links (printed by wip/gen/names.py). -/
def R_T : String := "TurnHost$Term"
def F_T : u_T := fun k => match k with
  | 0 => ("TurnHost$Term", "sort", "I", true)
  | 1 => ("TurnHost$Term", "number", "I", true)
  | 2 => ("TurnHost$Term", "first", "LTurnHost$Term;", true)
  | 3 => ("TurnHost$Term", "second", "LTurnHost$Term;", true)
  | _ => ("TurnHost$Term", "weight", "I", true)
def ty_T : Nat → FieldType := fun k => match k with
  | 0 => .int
  | 1 => .int
  | 2 => .object "TurnHost$Term"
  | 3 => .object "TurnHost$Term"
  | _ => .int
theorem n_T : ∀ a, a < 5 → ∀ b, b < 5 → a ≠ b → (F_T a).2.1 ≠ (F_T b).2.1 := by decide +kernel
theorem ty_T_ok : ∀ k, k < 5 → parseFieldDescriptor (F_T k).2.2.1 = some (ty_T k) := by decide +kernel
def R_B : String := "TurnHost$Mailbox"
def F_B : u_T := fun k => match k with
  | 0 => ("TurnHost$Mailbox", "messages", "[LTurnHost$Term;", true)
  | 1 => ("TurnHost$Mailbox", "count", "I", false)
  | _ => ("TurnHost$Mailbox", "mark", "I", false)
def ty_B : Nat → FieldType := fun k => match k with
  | 0 => .array (.object "TurnHost$Term")
  | 1 => .int
  | _ => .int
theorem n_B : ∀ a, a < 3 → ∀ b, b < 3 → a ≠ b → (F_B a).2.1 ≠ (F_B b).2.1 := by decide +kernel
theorem ty_B_ok : ∀ k, k < 3 → parseFieldDescriptor (F_B k).2.2.1 = some (ty_B k) := by decide +kernel
def R_P : String := "TurnHost$HostProcess"
def F_P : u_T := fun k => match k with
  | 0 => ("TurnHost$HostProcess", "number", "I", true)
  | 1 => ("TurnHost$HostProcess", "pid", "LTurnHost$Term;", true)
  | 2 => ("TurnHost$HostProcess", "registers", "[LTurnHost$Term;", true)
  | 3 => ("TurnHost$HostProcess", "returns", "[I", true)
  | 4 => ("TurnHost$HostProcess", "mailbox", "LTurnHost$Mailbox;", true)
  | 5 => ("TurnHost$HostProcess", "returnCount", "I", false)
  | 6 => ("TurnHost$HostProcess", "place", "I", false)
  | 7 => ("TurnHost$HostProcess", "links", "I", false)
  | 8 => ("TurnHost$HostProcess", "traps", "Z", false)
  | 9 => ("TurnHost$HostProcess", "state", "I", false)
  | 10 => ("TurnHost$HostProcess", "reason", "LTurnHost$Term;", false)
  | _ => ("TurnHost$HostProcess", "reductions", "I", false)
def ty_P : Nat → FieldType := fun k => match k with
  | 0 => .int
  | 1 => .object "TurnHost$Term"
  | 2 => .array (.object "TurnHost$Term")
  | 3 => .array .int
  | 4 => .object "TurnHost$Mailbox"
  | 5 => .int
  | 6 => .int
  | 7 => .int
  | 8 => .boolean
  | 9 => .int
  | 10 => .object "TurnHost$Term"
  | _ => .int
theorem n_P : ∀ a, a < 12 → ∀ b, b < 12 → a ≠ b → (F_P a).2.1 ≠ (F_P b).2.1 := by decide +kernel
theorem ty_P_ok : ∀ k, k < 12 → parseFieldDescriptor (F_P k).2.2.1 = some (ty_P k) := by decide +kernel
def R_L : String := "TurnHost$Line"
def F_L : u_T := fun k => match k with
  | 0 => ("TurnHost$Line", "numbers", "[I", true)
  | _ => ("TurnHost$Line", "count", "I", false)
def ty_L : Nat → FieldType := fun k => match k with
  | 0 => .array .int
  | _ => .int
theorem n_L : ∀ a, a < 2 → ∀ b, b < 2 → a ≠ b → (F_L a).2.1 ≠ (F_L b).2.1 := by decide +kernel
theorem ty_L_ok : ∀ k, k < 2 → parseFieldDescriptor (F_L k).2.2.1 = some (ty_L k) := by decide +kernel
def R_S : String := "TurnHost$Society"
def F_S : u_T := fun k => match k with
  | 0 => ("TurnHost$Society", "table", "[LTurnHost$HostProcess;", true)
  | 1 => ("TurnHost$Society", "line", "LTurnHost$Line;", true)
  | 2 => ("TurnHost$Society", "nil", "LTurnHost$Term;", true)
  | 3 => ("TurnHost$Society", "atoms", "[LTurnHost$Term;", true)
  | _ => ("TurnHost$Society", "count", "I", false)
def ty_S : Nat → FieldType := fun k => match k with
  | 0 => .array (.object "TurnHost$HostProcess")
  | 1 => .object "TurnHost$Line"
  | 2 => .object "TurnHost$Term"
  | 3 => .array (.object "TurnHost$Term")
  | _ => .int
theorem n_S : ∀ a, a < 5 → ∀ b, b < 5 → a ≠ b → (F_S a).2.1 ≠ (F_S b).2.1 := by decide +kernel
theorem ty_S_ok : ∀ k, k < 5 → parseFieldDescriptor (F_S k).2.2.1 = some (ty_S k) := by decide +kernel
def R_G : String := "TurnHost$Program"
def F_G : u_T := fun k => match k with
  | 0 => ("TurnHost$Program", "cells", "[I", true)
  | _ => ("TurnHost$Program", "count", "I", false)
def ty_G : Nat → FieldType := fun k => match k with
  | 0 => .array .int
  | _ => .int
theorem n_G : ∀ a, a < 2 → ∀ b, b < 2 → a ≠ b → (F_G a).2.1 ≠ (F_G b).2.1 := by decide +kernel
theorem ty_G_ok : ∀ k, k < 2 → parseFieldDescriptor (F_G k).2.2.1 = some (ty_G k) := by decide +kernel
def R_M : String := "TurnHost$Machine"
def F_M : u_T := fun k => match k with
  | 0 => ("TurnHost$Machine", "program", "LTurnHost$Program;", true)
  | _ => ("TurnHost$Machine", "society", "LTurnHost$Society;", true)
def ty_M : Nat → FieldType := fun k => match k with
  | 0 => .object "TurnHost$Program"
  | _ => .object "TurnHost$Society"
theorem n_M : ∀ a, a < 2 → ∀ b, b < 2 → a ≠ b → (F_M a).2.1 ≠ (F_M b).2.1 := by decide +kernel
theorem ty_M_ok : ∀ k, k < 2 → parseFieldDescriptor (F_M k).2.2.1 = some (ty_M k) := by decide +kernel
def R_H : String := "TurnHost"
def F_H : u_T := fun k => match k with
  | 0 => ("TurnHost", "quota", "I", true)
  | 1 => ("TurnHost", "machine", "LTurnHost$Machine;", true)
  | 2 => ("TurnHost", "program", "LTurnHost$Program;", true)
  | 3 => ("TurnHost", "society", "LTurnHost$Society;", true)
  | _ => ("TurnHost", "spent", "I", false)
def ty_H : Nat → FieldType := fun k => match k with
  | 0 => .int
  | 1 => .object "TurnHost$Machine"
  | 2 => .object "TurnHost$Program"
  | 3 => .object "TurnHost$Society"
  | _ => .int
theorem n_H : ∀ a, a < 5 → ∀ b, b < 5 → a ≠ b → (F_H a).2.1 ≠ (F_H b).2.1 := by decide +kernel
theorem ty_H_ok : ∀ k, k < 5 → parseFieldDescriptor (F_H k).2.2.1 = some (ty_H k) := by decide +kernel
def R_N : String := "TurnHostModel"
def F_N : u_T := fun k => match k with
  | 0 => ("TurnHostModel", "quota", "I", true)
  | 1 => ("TurnHostModel", "size", "I", false)
  | 2 => ("TurnHostModel", "op", "[I", true)
  | 3 => ("TurnHostModel", "one", "[I", true)
  | 4 => ("TurnHostModel", "two", "[I", true)
  | 5 => ("TurnHostModel", "three", "[I", true)
  | 6 => ("TurnHostModel", "table", "[I", true)
  | 7 => ("TurnHostModel", "count", "I", false)
  | 8 => ("TurnHostModel", "state", "[I", true)
  | 9 => ("TurnHostModel", "place", "[I", true)
  | 10 => ("TurnHostModel", "mark", "[I", true)
  | 11 => ("TurnHostModel", "messages", "[I", true)
  | 12 => ("TurnHostModel", "calls", "[I", true)
  | 13 => ("TurnHostModel", "returns", "[I", true)
  | 14 => ("TurnHostModel", "links", "[I", true)
  | 15 => ("TurnHostModel", "traps", "[Z", true)
  | 16 => ("TurnHostModel", "done", "[I", true)
  | 17 => ("TurnHostModel", "waiting", "I", false)
  | 18 => ("TurnHostModel", "row", "[I", true)
  | 19 => ("TurnHostModel", "used", "I", false)
  | 20 => ("TurnHostModel", "telling", "[I", true)
  | _ => ("TurnHostModel", "next", "[I", true)
def ty_N : Nat → FieldType := fun k => match k with
  | 0 => .int
  | 1 => .int
  | 2 => .array .int
  | 3 => .array .int
  | 4 => .array .int
  | 5 => .array .int
  | 6 => .array .int
  | 7 => .int
  | 8 => .array .int
  | 9 => .array .int
  | 10 => .array .int
  | 11 => .array .int
  | 12 => .array .int
  | 13 => .array .int
  | 14 => .array .int
  | 15 => .array .boolean
  | 16 => .array .int
  | 17 => .int
  | 18 => .array .int
  | 19 => .int
  | 20 => .array .int
  | _ => .array .int
theorem n_N : ∀ a, a < 22 → ∀ b, b < 22 → a ≠ b → (F_N a).2.1 ≠ (F_N b).2.1 := by decide +kernel
theorem ty_N_ok : ∀ k, k < 22 → parseFieldDescriptor (F_N k).2.2.1 = some (ty_N k) := by decide +kernel
abbrev classes : List vw_C := [(R_T, F_T, 5), (R_B, F_B, 3), (R_P, F_P, 12), (R_L, F_L, 2), (R_S, F_S, 5), (R_G, F_G, 2), (R_M, F_M, 2), (R_H, F_H, 5), (R_N, F_N, 22)]
def th_tys : List FieldType := [.int, .int, .object "TurnHost$Term", .object "TurnHost$HostProcess", .boolean]
def th_sts : List (String × String × String) := [("TurnHost", "LIMITS", "[I")]
abbrev th_M : Type := MethodName × ByteArray × Nat × Option FieldType
def m_H_init : th_M := (⟨"TurnHost", "<init>", "(I)V"⟩, prog_1_method_1_code, 2, none)
def m_M_init : th_M := (⟨"TurnHost$Machine", "<init>", "()V"⟩, prog_4_method_1_code, 1, none)
def m_G_init : th_M := (⟨"TurnHost$Program", "<init>", "()V"⟩, prog_6_method_1_code, 1, none)
def m_S_init : th_M := (⟨"TurnHost$Society", "<init>", "()V"⟩, prog_7_method_1_code, 2, none)
def m_P_init : th_M := (⟨"TurnHost$HostProcess", "<init>", "(I)V"⟩, prog_2_method_1_code, 2, none)
def m_T_init : th_M := (⟨"TurnHost$Term", "<init>", "(II)V"⟩, prog_8_method_1_code, 3, none)
def m_B_init : th_M := (⟨"TurnHost$Mailbox", "<init>", "()V"⟩, prog_5_method_1_code, 1, none)
def m_L_init : th_M := (⟨"TurnHost$Line", "<init>", "()V"⟩, prog_3_method_1_code, 1, none)
def m_H_add : th_M := (⟨"TurnHost", "add", "(IIII)I"⟩, prog_1_method_2_code, 5, (some FieldType.int))
def m_G_append : th_M := (⟨"TurnHost$Program", "append", "(IIII)I"⟩, prog_6_method_2_code, 7, (some FieldType.int))
def m_G_fits : th_M := (⟨"TurnHost$Program", "fits", "(II)Z"⟩, prog_6_method_3_code, 2, (some FieldType.boolean))
def m_H_begin : th_M := (⟨"TurnHost", "begin", "(II)I"⟩, prog_1_method_3_code, 4, (some FieldType.int))
def m_S_start : th_M := (⟨"TurnHost$Society", "start", "(ILTurnHost$Term;)LTurnHost$HostProcess;"⟩, prog_7_method_5_code, 4, (some (FieldType.object "TurnHost$HostProcess")))
def m_P_renew : th_M := (⟨"TurnHost$HostProcess", "renew", "(ILTurnHost$Term;LTurnHost$Term;)V"⟩, prog_2_method_2_code, 5, none)
def m_B_empty : th_M := (⟨"TurnHost$Mailbox", "empty", "()V"⟩, prog_5_method_2_code, 1, none)
def m_L_append : th_M := (⟨"TurnHost$Line", "append", "(I)V"⟩, prog_3_method_4_code, 2, none)
def m_H_tell : th_M := (⟨"TurnHost", "tell", "(II)Z"⟩, prog_1_method_4_code, 4, (some FieldType.boolean))
def m_S_numbered : th_M := (⟨"TurnHost$Society", "numbered", "(I)LTurnHost$HostProcess;"⟩, prog_7_method_3_code, 2, (some (FieldType.object "TurnHost$HostProcess")))
def m_S_deliver : th_M := (⟨"TurnHost$Society", "deliver", "(LTurnHost$HostProcess;LTurnHost$Term;)V"⟩, prog_7_method_6_code, 3, none)
def m_B_put : th_M := (⟨"TurnHost$Mailbox", "put", "(LTurnHost$Term;)Z"⟩, prog_5_method_5_code, 2, (some FieldType.boolean))
def m_H_run : th_M := (⟨"TurnHost", "run", "(I)I"⟩, prog_1_method_5_code, 4, (some FieldType.int))
def m_L_at : th_M := (⟨"TurnHost$Line", "at", "(I)I"⟩, prog_3_method_3_code, 2, (some FieldType.int))
def m_M_reduce : th_M := (⟨"TurnHost$Machine", "reduce", "(LTurnHost$HostProcess;)V"⟩, prog_4_method_2_code, 4, none)
def m_G_reaches : th_M := (⟨"TurnHost$Program", "reaches", "(I)Z"⟩, prog_6_method_4_code, 2, (some FieldType.boolean))
def m_S_end : th_M := (⟨"TurnHost$Society", "end", "(LTurnHost$HostProcess;LTurnHost$Term;)V"⟩, prog_7_method_10_code, 4, none)
def m_L_leave : th_M := (⟨"TurnHost$Line", "leave", "(I)V"⟩, prog_3_method_5_code, 4, none)
def m_S_untie : th_M := (⟨"TurnHost$Society", "untie", "(LTurnHost$HostProcess;LTurnHost$HostProcess;)V"⟩, prog_7_method_9_code, 3, none)
def m_S_signal : th_M := (⟨"TurnHost$Society", "signal", "(LTurnHost$HostProcess;LTurnHost$HostProcess;LTurnHost$Term;)V"⟩, prog_7_method_11_code, 4, none)
def m_S_exitNotice : th_M := (⟨"TurnHost$Society", "exitNotice", "(LTurnHost$HostProcess;LTurnHost$Term;)LTurnHost$Term;"⟩, prog_7_method_12_code, 4, (some (FieldType.object "TurnHost$Term")))
def m_T_init2 : th_M := (⟨"TurnHost$Term", "<init>", "(ILTurnHost$Term;LTurnHost$Term;)V"⟩, prog_8_method_2_code, 4, none)
def m_T_alike : th_M := (⟨"TurnHost$Term", "alike", "(LTurnHost$Term;LTurnHost$Term;)Z"⟩, prog_8_method_7_code, 2, (some FieldType.boolean))
def m_T_hasParts : th_M := (⟨"TurnHost$Term", "hasParts", "()Z"⟩, prog_8_method_4_code, 1, (some FieldType.boolean))
def m_M_perform : th_M := (⟨"TurnHost$Machine", "perform", "(LTurnHost$HostProcess;IIII)Z"⟩, prog_4_method_3_code, 7, (some FieldType.boolean))
def m_P_set : th_M := (⟨"TurnHost$HostProcess", "set", "(ILTurnHost$Term;)Z"⟩, prog_2_method_3_code, 3, (some FieldType.boolean))
def m_T_joined : th_M := (⟨"TurnHost$Term", "joined", "(ILTurnHost$Term;LTurnHost$Term;)LTurnHost$Term;"⟩, prog_8_method_3_code, 3, (some (FieldType.object "TurnHost$Term")))
def m_M_areInts : th_M := (⟨"TurnHost$Machine", "areInts", "(LTurnHost$Term;LTurnHost$Term;)Z"⟩, prog_4_method_4_code, 2, (some FieldType.boolean))
def m_M_goUnless : th_M := (⟨"TurnHost$Machine", "goUnless", "(LTurnHost$HostProcess;ZI)Z"⟩, prog_4_method_5_code, 3, (some FieldType.boolean))
def m_P_goTo : th_M := (⟨"TurnHost$HostProcess", "goTo", "(I)Z"⟩, prog_2_method_4_code, 2, (some FieldType.boolean))
def m_P_pushReturn : th_M := (⟨"TurnHost$HostProcess", "pushReturn", "()Z"⟩, prog_2_method_5_code, 1, (some FieldType.boolean))
def m_M_goBack : th_M := (⟨"TurnHost$Machine", "goBack", "(LTurnHost$HostProcess;)Z"⟩, prog_4_method_6_code, 2, (some FieldType.boolean))
def m_S_bearing : th_M := (⟨"TurnHost$Society", "bearing", "(LTurnHost$Term;)LTurnHost$HostProcess;"⟩, prog_7_method_4_code, 2, (some (FieldType.object "TurnHost$HostProcess")))
def m_M_send : th_M := (⟨"TurnHost$Machine", "send", "(LTurnHost$HostProcess;LTurnHost$Term;)Z"⟩, prog_4_method_7_code, 3, (some FieldType.boolean))
def m_B_marked : th_M := (⟨"TurnHost$Mailbox", "marked", "()LTurnHost$Term;"⟩, prog_5_method_4_code, 1, (some (FieldType.object "TurnHost$Term")))
def m_B_at : th_M := (⟨"TurnHost$Mailbox", "at", "(I)LTurnHost$Term;"⟩, prog_5_method_3_code, 2, (some (FieldType.object "TurnHost$Term")))
def m_B_take : th_M := (⟨"TurnHost$Mailbox", "take", "()Z"⟩, prog_5_method_6_code, 2, (some FieldType.boolean))
def m_M_passOver : th_M := (⟨"TurnHost$Machine", "passOver", "(LTurnHost$HostProcess;I)Z"⟩, prog_4_method_8_code, 2, (some FieldType.boolean))
def m_M_waitOrGoOn : th_M := (⟨"TurnHost$Machine", "waitOrGoOn", "(LTurnHost$HostProcess;I)Z"⟩, prog_4_method_9_code, 3, (some FieldType.boolean))
def m_S_suspend : th_M := (⟨"TurnHost$Society", "suspend", "(LTurnHost$HostProcess;)V"⟩, prog_7_method_7_code, 2, none)
def m_M_spawn : th_M := (⟨"TurnHost$Machine", "spawn", "(LTurnHost$HostProcess;IILTurnHost$Term;)Z"⟩, prog_4_method_10_code, 6, (some FieldType.boolean))
def m_M_link : th_M := (⟨"TurnHost$Machine", "link", "(LTurnHost$HostProcess;LTurnHost$HostProcess;)Z"⟩, prog_4_method_11_code, 3, (some FieldType.boolean))
def m_S_tie : th_M := (⟨"TurnHost$Society", "tie", "(LTurnHost$HostProcess;LTurnHost$HostProcess;)V"⟩, prog_7_method_8_code, 3, none)
def m_M_trap : th_M := (⟨"TurnHost$Machine", "trap", "(LTurnHost$HostProcess;Z)Z"⟩, prog_4_method_12_code, 2, (some FieldType.boolean))
def m_M_finish : th_M := (⟨"TurnHost$Machine", "finish", "(LTurnHost$HostProcess;LTurnHost$Term;)Z"⟩, prog_4_method_13_code, 3, (some FieldType.boolean))
def m_M_stop : th_M := (⟨"TurnHost$Machine", "stop", "(LTurnHost$HostProcess;LTurnHost$HostProcess;)Z"⟩, prog_4_method_14_code, 3, (some FieldType.boolean))
def m_H_countInTurn : th_M := (⟨"TurnHost", "countInTurn", "(LTurnHost$HostProcess;)V"⟩, prog_1_method_13_code, 2, none)
def m_H_clear : th_M := (⟨"TurnHost", "clear", "(Z)I"⟩, prog_1_method_6_code, 3, (some FieldType.int))
def m_S_dissolve : th_M := (⟨"TurnHost$Society", "dissolve", "()V"⟩, prog_7_method_2_code, 1, none)
def m_L_empty : th_M := (⟨"TurnHost$Line", "empty", "()V"⟩, prog_3_method_2_code, 1, none)
def m_G_wipe : th_M := (⟨"TurnHost$Program", "wipe", "()V"⟩, prog_6_method_5_code, 1, none)
def m_H_process : th_M := (⟨"TurnHost", "process", "(II)I"⟩, prog_1_method_7_code, 4, (some FieldType.int))
def m_P_answer : th_M := (⟨"TurnHost$HostProcess", "answer", "(I)I"⟩, prog_2_method_6_code, 2, (some FieldType.int))
def m_H_queue : th_M := (⟨"TurnHost", "queue", "(I)I"⟩, prog_1_method_8_code, 2, (some FieldType.int))
def m_H_processes : th_M := (⟨"TurnHost", "processes", "()I"⟩, prog_1_method_9_code, 1, (some FieldType.int))
def m_H_term : th_M := (⟨"TurnHost", "term", "(II)I"⟩, prog_1_method_10_code, 4, (some FieldType.int))
def m_H_termOf : th_M := (⟨"TurnHost", "termOf", "(II)LTurnHost$Term;"⟩, prog_1_method_12_code, 4, (some (FieldType.object "TurnHost$Term")))
def m_P_termAt : th_M := (⟨"TurnHost$HostProcess", "termAt", "(I)LTurnHost$Term;"⟩, prog_2_method_7_code, 2, (some (FieldType.object "TurnHost$Term")))
def m_T_summary : th_M := (⟨"TurnHost$Term", "summary", "()I"⟩, prog_8_method_6_code, 2, (some FieldType.int))
def m_T_hasNumber : th_M := (⟨"TurnHost$Term", "hasNumber", "()Z"⟩, prog_8_method_5_code, 1, (some FieldType.boolean))
def m_J_floorMod : th_M := (⟨"java/lang/Math", "floorMod", "(II)I"⟩, prog_11_method_50_code, 3, (some FieldType.int))
def m_H_digest : th_M := (⟨"TurnHost", "digest", "(II)I"⟩, prog_1_method_11_code, 4, (some FieldType.int))
def m_T_mixed : th_M := (⟨"TurnHost$Term", "mixed", "(ILTurnHost$Term;)I"⟩, prog_8_method_8_code, 3, (some FieldType.int))
def m_W_cell : th_M := (⟨"TurnHostLaw", "cell", "([II)I"⟩, method_2_code, 2, (some FieldType.int))
def m_N_init : th_M := (⟨"TurnHostModel", "<init>", "(I)V"⟩, prog_10_method_1_code, 2, none)
def m_N_add : th_M := (⟨"TurnHostModel", "add", "(IIII)I"⟩, prog_10_method_16_code, 6, (some FieldType.int))
def m_N_in : th_M := (⟨"TurnHostModel", "in", "(III)Z"⟩, prog_10_method_2_code, 3, (some FieldType.boolean))
def m_N_firstNeeds : th_M := (⟨"TurnHostModel", "firstNeeds", "(I)I"⟩, prog_10_method_13_code, 1, (some FieldType.int))
def m_N_isRight : th_M := (⟨"TurnHostModel", "isRight", "(II)Z"⟩, prog_10_method_12_code, 2, (some FieldType.boolean))
def m_N_secondNeeds : th_M := (⟨"TurnHostModel", "secondNeeds", "(I)I"⟩, prog_10_method_14_code, 1, (some FieldType.int))
def m_N_thirdNeeds : th_M := (⟨"TurnHostModel", "thirdNeeds", "(I)I"⟩, prog_10_method_15_code, 1, (some FieldType.int))
def m_N_begin : th_M := (⟨"TurnHostModel", "begin", "(II)I"⟩, prog_10_method_31_code, 3, (some FieldType.int))
def m_N_put : th_M := (⟨"TurnHostModel", "put", "(III)V"⟩, prog_10_method_4_code, 4, none)
def m_N_start : th_M := (⟨"TurnHostModel", "start", "(II)I"⟩, prog_10_method_24_code, 5, (some FieldType.int))
def m_N_copy : th_M := (⟨"TurnHostModel", "copy", "(II)V"⟩, prog_10_method_3_code, 4, none)
def m_N_come : th_M := (⟨"TurnHostModel", "come", "(I)V"⟩, prog_10_method_17_code, 2, none)
def m_N_tell : th_M := (⟨"TurnHostModel", "tell", "(II)Z"⟩, prog_10_method_32_code, 3, (some FieldType.boolean))
def m_N_deliver : th_M := (⟨"TurnHostModel", "deliver", "(II)V"⟩, prog_10_method_19_code, 3, none)
def m_N_run : th_M := (⟨"TurnHostModel", "run", "(I)I"⟩, prog_10_method_33_code, 5, (some FieldType.int))
def m_N_step : th_M := (⟨"TurnHostModel", "step", "(I)V"⟩, prog_10_method_30_code, 5, none)
def m_N_make : th_M := (⟨"TurnHostModel", "make", "(IIIII)Z"⟩, prog_10_method_25_code, 9, (some FieldType.boolean))
def m_N_weight : th_M := (⟨"TurnHostModel", "weight", "(I)I"⟩, prog_10_method_7_code, 2, (some FieldType.int))
def m_N_addParts : th_M := (⟨"TurnHostModel", "addParts", "(IIII)V"⟩, prog_10_method_6_code, 6, none)
def m_N_sortOf : th_M := (⟨"TurnHostModel", "sortOf", "(II)I"⟩, prog_10_method_8_code, 3, (some FieldType.int))
def m_N_numberOf : th_M := (⟨"TurnHostModel", "numberOf", "(II)I"⟩, prog_10_method_9_code, 3, (some FieldType.int))
def m_N_append : th_M := (⟨"TurnHostModel", "append", "(III)V"⟩, prog_10_method_5_code, 5, none)
def m_N_behind : th_M := (⟨"TurnHostModel", "behind", "(II)I"⟩, prog_10_method_10_code, 5, (some FieldType.int))
def m_N_branch : th_M := (⟨"TurnHostModel", "branch", "(IIIII)Z"⟩, prog_10_method_26_code, 8, (some FieldType.boolean))
def m_N_isSame : th_M := (⟨"TurnHostModel", "isSame", "(II)Z"⟩, prog_10_method_11_code, 5, (some FieldType.boolean))
def m_N_endBy : th_M := (⟨"TurnHostModel", "endBy", "(II)V"⟩, prog_10_method_23_code, 3, none)
def m_N_end : th_M := (⟨"TurnHostModel", "end", "(II)V"⟩, prog_10_method_22_code, 6, none)
def m_N_stop : th_M := (⟨"TurnHostModel", "stop", "(II)V"⟩, prog_10_method_21_code, 3, none)
def m_N_leave : th_M := (⟨"TurnHostModel", "leave", "(I)V"⟩, prog_10_method_18_code, 4, none)
def m_N_signal : th_M := (⟨"TurnHostModel", "signal", "(III)Z"⟩, prog_10_method_20_code, 4, (some FieldType.boolean))
def m_N_mail : th_M := (⟨"TurnHostModel", "mail", "(IIII)Z"⟩, prog_10_method_28_code, 8, (some FieldType.boolean))
def m_N_named : th_M := (⟨"TurnHostModel", "named", "(I)I"⟩, prog_10_method_27_code, 2, (some FieldType.int))
def m_N_life : th_M := (⟨"TurnHostModel", "life", "(IIIII)Z"⟩, prog_10_method_29_code, 8, (some FieldType.boolean))
def m_N_clear : th_M := (⟨"TurnHostModel", "clear", "(Z)I"⟩, prog_10_method_34_code, 3, (some FieldType.int))
def m_N_process : th_M := (⟨"TurnHostModel", "process", "(II)I"⟩, prog_10_method_35_code, 3, (some FieldType.int))
def m_N_queue : th_M := (⟨"TurnHostModel", "queue", "(I)I"⟩, prog_10_method_36_code, 2, (some FieldType.int))
def m_N_processes : th_M := (⟨"TurnHostModel", "processes", "()I"⟩, prog_10_method_37_code, 1, (some FieldType.int))
def m_N_term : th_M := (⟨"TurnHostModel", "term", "(II)I"⟩, prog_10_method_39_code, 5, (some FieldType.int))
def m_N_isTerm : th_M := (⟨"TurnHostModel", "isTerm", "(II)Z"⟩, prog_10_method_38_code, 3, (some FieldType.boolean))
def m_N_digest : th_M := (⟨"TurnHostModel", "digest", "(II)I"⟩, prog_10_method_40_code, 6, (some FieldType.int))
end
section
/-! The typed heap, and the judgement Xw over it: the machine's W with its context put away; a rule an instruction. -/
abbrev th_K : Type := Nat ⊕ (Nat × Nat)
abbrev th_H : Type := (Nat → Option th_K) × (Nat → Nat → Nat → Value) × (Nat → Nat → Nat → Value) × Nat
/-- the kind of a cell: an object of a class (its number), an array (its type's number, its length; 0: ints that nobody writes) -/
def gk (h : th_H) : Nat → Option th_K := h.1
def gF (h : th_H) : Nat → Nat → Nat → Value := h.2.1
def gA (h : th_H) : Nat → Nat → Nat → Value := h.2.2.1
def gz (h : th_H) : Nat := h.2.2.2
def up3 (f : Nat → Nat → Nat → Value) (i j k : Nat) (v : Value) : Nat → Nat → Nat → Value := fun a b c => if a = i ∧ b = j ∧ c = k then v else f a b c
def gpF (h : th_H) (ci k a : Nat) (v : Value) : th_H := (gk h, up3 (gF h) ci k a v, gA h, gz h)
def gpA (h : th_H) (t a i : Nat) (v : Value) : th_H := (gk h, gF h, up3 (gA h) t a i v, gz h)
def gnO (h : th_H) (ci : Nat) (dv : Nat → Value) : th_H := (va_up (gk h) (gz h) (some (.inl ci)), fun c k a => if c = ci ∧ a = gz h then dv k else gF h c k a, gA h, gz h + 1)
def gnA (h : th_H) (t n : Nat) (d : Value) : th_H := (va_up (gk h) (gz h) (some (.inr (t, n))), gF h, fun t' a i => if t' = t ∧ a = gz h then d else gA h t' a i, gz h + 1)
theorem gk_pF (h : th_H) (ci k a : Nat) (v : Value) : gk (gpF h ci k a v) = gk h := rfl
theorem gA_pF (h : th_H) (ci k a : Nat) (v : Value) : gA (gpF h ci k a v) = gA h := rfl
theorem gz_pF (h : th_H) (ci k a : Nat) (v : Value) : gz (gpF h ci k a v) = gz h := rfl
theorem gF_pF (h : th_H) (ci k a : Nat) (v : Value) (c' k' a' : Nat) : gF (gpF h ci k a v) c' k' a' = if c' = ci ∧ k' = k ∧ a' = a then v else gF h c' k' a' := rfl
theorem gk_pA (h : th_H) (t a i : Nat) (v : Value) : gk (gpA h t a i v) = gk h := rfl
theorem gF_pA (h : th_H) (t a i : Nat) (v : Value) : gF (gpA h t a i v) = gF h := rfl
theorem gz_pA (h : th_H) (t a i : Nat) (v : Value) : gz (gpA h t a i v) = gz h := rfl
theorem gA_pA (h : th_H) (t a i : Nat) (v : Value) (t' a' i' : Nat) : gA (gpA h t a i v) t' a' i' = if t' = t ∧ a' = a ∧ i' = i then v else gA h t' a' i' := rfl
theorem gk_nO (h : th_H) (ci : Nat) (dv : Nat → Value) (a : Nat) : gk (gnO h ci dv) a = if a = gz h then some (.inl ci) else gk h a := rfl
theorem gF_nO (h : th_H) (ci : Nat) (dv : Nat → Value) (c k a : Nat) : gF (gnO h ci dv) c k a = if c = ci ∧ a = gz h then dv k else gF h c k a := rfl
theorem gA_nO (h : th_H) (ci : Nat) (dv : Nat → Value) : gA (gnO h ci dv) = gA h := rfl
theorem gz_nO (h : th_H) (ci : Nat) (dv : Nat → Value) : gz (gnO h ci dv) = gz h + 1 := rfl
theorem gk_nA (h : th_H) (t n : Nat) (d : Value) (a : Nat) : gk (gnA h t n d) a = if a = gz h then some (.inr (t, n)) else gk h a := rfl
theorem gF_nA (h : th_H) (t n : Nat) (d : Value) : gF (gnA h t n d) = gF h := rfl
theorem gA_nA (h : th_H) (t n : Nat) (d : Value) (t' a i : Nat) : gA (gnA h t n d) t' a i = if t' = t ∧ a = gz h then d else gA h t' a i := rfl
theorem gz_nA (h : th_H) (t n : Nat) (d : Value) : gz (gnA h t n d) = gz h + 1 := rfl
/-- what is fixed through a run: numbers of the classes, their slots, the array classes, the first new cell, what the static fields hold -/
abbrev th_E : Type := (Nat → ClassId) × (Nat → Nat → Nat) × (Nat → ClassId) × Nat × (Nat → Value)
def th_ty (E : th_E) : List (ClassId × FieldType) := th_tys.zipIdx.map (fun q => (E.2.2.1 q.2, q.1))
theorem th_ty_at {E : th_E} {t : Nat} {ty : FieldType} (h : th_tys[t]? = some ty) : (th_ty E)[t]? = some (E.2.2.1 t, ty) := by
  simp [th_ty, h]
def th_A (E : th_E) : Nat → Prop := fun q => E.2.2.2.1 ≤ q
def th_cell (E : th_E) (U : State) (h : th_H) (H : Heap) (a : Nat) : th_K → Prop
  | .inl ci => E.2.2.2.1 ≤ a ∧ ∃ r : vw_C, classes[ci]? = some r ∧ t_OB a (E.1 ci) r.2.2 (E.2.1 ci) H (fun j => gF h ci j a)
  | .inr (0, n) => ∃ scr : Cell, H[a]? = some scr ∧ U.isArrayOf scr .int ∧ scr.vm ≠ .unknown ∧ scr.slots.size = n ∧ ∀ j : Nat, j < n → scr.slots[j]? = some (gA h 0 a j)
  | .inr (t + 1, n) => E.2.2.2.1 ≤ a ∧ H[a]? = some (arrV (E.2.2.1 (t + 1)) n (gA h (t + 1) a))
def th_P (E : th_E) (U : State) (h : th_H) (H : Heap) : Prop := (H.size = gz h ∧ E.2.2.2.1 ≤ gz h) ∧ ∀ (a : Nat) (k : th_K), gk h a = some k → th_cell E U h H a k
theorem th_cell.lt {E : th_E} {U : State} {h : th_H} {H : Heap} {a : Nat} {k : th_K} (q : th_cell E U h H a k) : a < H.size := by
  match k, q with
  | .inl ci, ⟨_, r, _, c9, q2, _⟩ => exact (Array.getElem?_eq_some_iff.mp q2).1
  | .inr (0, n), ⟨scr, q2, _⟩ => exact (Array.getElem?_eq_some_iff.mp q2).1
  | .inr (t + 1, n), ⟨_, q2⟩ => exact (Array.getElem?_eq_some_iff.mp q2).1
theorem th_P.lt {E : th_E} {U : State} {h : th_H} {H : Heap} {a : Nat} {k : th_K} (q : th_P E U h H) (ha : gk h a = some k) : a < gz h := by
  have := (q.2 a k ha).lt
  rw [q.1.1] at this
  exact this
/-- a cell that isn't touched, in a heap and a picture that say the same of it -/
theorem th_cell.kept {E : th_E} {U : State} {h h1 : th_H} {H H1 : Heap} {a : Nat} {k : th_K} (q : th_cell E U h H a k) (e : H1[a]? = H[a]?) (eF : ∀ ci, k = .inl ci → ∀ j, gF h1 ci j a = gF h ci j a) (eA : ∀ t n, k = .inr (t, n) → ∀ j, gA h1 t a j = gA h t a j) : th_cell E U h1 H1 a k := by
  match k, q with
  | .inl ci, ⟨q0, r, q1, q2⟩ => exact ⟨q0, r, q1, (q2.kept e).to (fun j _ => (eF ci rfl j).symm)⟩
  | .inr (0, n), ⟨scr, q1, q2, q3, q4, q5⟩ => exact ⟨scr, by rw [e]; exact q1, q2, q3, q4, fun j hj => by rw [eA 0 n rfl j]; exact q5 j hj⟩
  | .inr (t + 1, n), ⟨q0, q1⟩ =>
    refine ⟨q0, ?_⟩
    rw [e, q1]
    congr 1
    congr 1
    funext j
    exact (eA (t + 1) n rfl j).symm
theorem th_P.moved {E : th_E} {u U : State} {h : th_H} {H : Heap} (hvm : u.vm.Alike U.vm) (q : th_P E u h H) : th_P E U h H := by
  refine ⟨q.1, fun a k ha => ?_⟩
  have := q.2 a k ha
  match k, this with
  | .inl ci, z => exact z
  | .inr (0, n), ⟨scr, q1, q2, q3⟩ => exact ⟨scr, q1, State.isArrayOf_alike hvm q2, q3⟩
  | .inr (t + 1, n), z => exact z
theorem th_P.putF {E : th_E} {U : State} {h : th_H} {H H1 : Heap} {a ci k : Nat} {v : Value} (q : th_P E U h H) (ha : gk h a = some (.inl ci)) (z : H1.size = H.size) (oq : ∀ b : Nat, b ≠ a → H1[b]? = H[b]?) (r : vw_C) (hr : classes[ci]? = some r) (hn : t_OB a (E.1 ci) r.2.2 (E.2.1 ci) H1 (updV (fun j => gF h ci j a) k v)) : th_P E U (gpF h ci k a v) H1 := by
  refine ⟨⟨by rw [z, gz_pF]; exact q.1.1, q.1.2⟩, fun b kb hb => ?_⟩
  rw [gk_pF] at hb
  by_cases hba : b = a
  · subst hba
    rw [ha] at hb
    cases hb
    refine ⟨(q.2 b _ ha).1, r, hr, hn.to (fun j _ => ?_)⟩
    show (if j = k then v else _) = _
    rw [gF_pF]
    by_cases hj : j = k <;> simp [hj]
  · refine (q.2 b kb hb).kept (oq b hba) (fun ci' _ j => ?_) (fun t n _ j => rfl)
    rw [gF_pF]
    simp [hba]
theorem th_P.putA {E : th_E} {U : State} {h : th_H} {H H1 : Heap} {a t n i : Nat} {v : Value} (q : th_P E U h H) (ha : gk h a = some (.inr (t + 1, n))) (z : H1.size = H.size) (oq : ∀ b : Nat, b ≠ a → H1[b]? = H[b]?) (hn : H1[a]? = some ((arrV (E.2.2.1 (t + 1)) n (gA h (t + 1) a)).setSlot i v)) : th_P E U (gpA h (t + 1) a i v) H1 := by
  refine ⟨⟨by rw [z, gz_pA]; exact q.1.1, q.1.2⟩, fun b kb hb => ?_⟩
  rw [gk_pA] at hb
  by_cases hba : b = a
  · subst hba
    rw [ha] at hb
    cases hb
    refine ⟨(q.2 b _ ha).1, ?_⟩
    rw [hn, arrV_store]
    congr 2
    funext j
    rw [gA_pA]
    by_cases hj : j = i <;> simp [updV, hj]
  · refine (q.2 b kb hb).kept (oq b hba) (fun ci' _ j => rfl) (fun t' n' _ j => ?_)
    rw [gA_pA]
    simp [hba]
theorem th_P.newO {E : th_E} {U : State} {h : th_H} {H H1 : Heap} {ci : Nat} {dv : Nat → Value} (q : th_P E U h H) (z : H1.size = H.size + 1) (oq : ∀ b : Nat, b < H.size → H1[b]? = H[b]?) (r : vw_C) (hr : classes[ci]? = some r) (hn : t_OB H.size (E.1 ci) r.2.2 (E.2.1 ci) H1 dv) : th_P E U (gnO h ci dv) H1 := by
  refine ⟨⟨by rw [z, gz_nO, q.1.1], by rw [gz_nO]; exact Nat.le_succ_of_le q.1.2⟩, fun b kb hb => ?_⟩
  rw [gk_nO] at hb
  by_cases hba : b = gz h
  · subst hba
    rw [if_pos rfl] at hb
    cases hb
    rw [q.1.1] at hn
    exact ⟨q.1.2, r, hr, hn.to (fun j _ => by rw [gF_nO]; simp)⟩
  · rw [if_neg hba] at hb
    have hq := q.2 b kb hb
    refine hq.kept (oq b hq.lt) (fun ci' _ j => ?_) (fun t n _ j => rfl)
    rw [gF_nO]
    simp [hba]
theorem th_P.newA {E : th_E} {U : State} {h : th_H} {H H1 : Heap} {t n : Nat} {d : Value} (q : th_P E U h H) (z : H1.size = H.size + 1) (oq : ∀ b : Nat, b < H.size → H1[b]? = H[b]?) (hn : H1[H.size]? = some (arrV (E.2.2.1 (t + 1)) n (fun _ => d))) : th_P E U (gnA h (t + 1) n d) H1 := by
  refine ⟨⟨by rw [z, gz_nA, q.1.1], by rw [gz_nA]; exact Nat.le_succ_of_le q.1.2⟩, fun b kb hb => ?_⟩
  rw [gk_nA] at hb
  by_cases hba : b = gz h
  · subst hba
    rw [if_pos rfl] at hb
    cases hb
    rw [q.1.1] at hn
    refine ⟨q.1.2, ?_⟩
    rw [hn]
    congr 2
    funext j
    rw [gA_nA]
    simp
  · rw [if_neg hba] at hb
    have hq := q.2 b kb hb
    refine hq.kept (oq b hq.lt) (fun ci' _ j => rfl) (fun t n _ j => ?_)
    rw [gA_nA]
    simp [hba]
/-- the tables' words that ride along everywhere -/
def th_gd (w : Jvm.Cond) : Bool := (w.onTables && w.keeps) || (match w with | .arrayClass _ => true | _ => false)
def th_tb : List Jvm.Cond := lw_tbl.filter th_gd
theorem th_tb_good {w : Jvm.Cond} (h : w ∈ th_tb) : (w.onTables && w.keeps) = true ∨ ∃ ty, w = .arrayClass ty := by
  have h2 := (List.mem_filter.mp h).2
  unfold th_gd at h2
  rw [Bool.or_eq_true] at h2
  rcases h2 with h2 | h2
  · exact Or.inl h2
  · right
    split at h2
    · exact ⟨_, rfl⟩
    · cases h2
/-- what holds of the tables at every state of the run -/
def th_C (E : th_E) (U : State) : Prop := va_K (E.1, E.2.1) classes (th_ty E) U ∧ (∀ a i b n d g, Jvm.Cond.fieldLinkNest a i b n d g ∈ lw_tbl → va_Nw (.fieldLinkNest a i b n d g) U) ∧ (∀ a i x g, Jvm.Cond.methodLinkNest a i x g ∈ lw_tbl → va_Nw (.methodLinkNest a i x g) U) ∧ (∀ C, Jvm.Cond.arrayOver (.object C) ∈ lw_tbl → va_AO C U)
theorem th_C.warm {E : th_E} {s U : State} (hW : s.WarmedH U.vm) (h : th_C E s) : th_C E U := ⟨va_K.moved hW.alike h.1, fun a i b n d g q => va_Nw.warmF hW (h.2.1 a i b n d g q), fun a i x g q => va_Nw.warmM hW (h.2.2.1 a i x g q), fun C q => (h.2.2.2 C q).moved hW.alike⟩
theorem th_C.same {E : th_E} {s U : State} (hv : s.vm = U.vm) (h : th_C E s) : th_C E U := ⟨va_K.moved (by rw [hv]; exact Vm.Alike.refl _) h.1, fun a i b n d g q => va_Nw.same rfl hv (h.2.1 a i b n d g q), fun a i x g q => va_Nw.same rfl hv (h.2.2.1 a i x g q), fun C q => (h.2.2.2 C q).moved (by rw [hv]; exact Vm.Alike.refl _)⟩
def th_Z (E : th_E) (U : State) (H : Heap) : Prop := ∀ (k : Nat) (q : String × String × String), th_sts[k]? = some q → va_Z q.1 q.2.1 q.2.2 (E.2.2.2.2 k) (th_A E) U H
/-- a state that the picture h speaks of -/
def th_S (E : th_E) (h : th_H) (U : State) : Prop := th_P E U h U.heap ∧ th_C E U ∧ th_Z E U U.heap
def th_ws (M : th_M) : List Jvm.Cond := .code M.1 M.2.1 M.2.2.1 M.2.2.2 :: th_tb
def th_X (E : th_E) (M : th_M) (p : Program) (s : State) (m : MethodId) (args : Array Value) (meth : Method) (c : Code) : Prop :=
  p.tables.exec = Jvm.exec ∧ c.code = M.2.1 ∧ c.maxLocals = M.2.2.1 ∧ s.vm.findClass M.1.cls = some m.cls ∧ (∀ w ∈ th_tb, w.before args s = true) ∧ meth.sig.returnType = M.2.2.2 ∧ meth.locks = false ∧ meth.name = M.1.name ∧ th_C E s ∧ th_Z E s s.heap
def th_L (ls : Array Slot) (n : Nat) (L : List (Option Value)) : Prop := L.length = n ∧ ∃ lv : List (Nat × Value), lv_has ls n lv ∧ ∀ (i : Nat) (v : Value), L[i]? = some (some v) → (i, v) ∈ lv ∧ v.category = 1
theorem th_L.at {ls : Array Slot} {n : Nat} {L : List (Option Value)} (h : th_L ls n L) {i : Nat} {v : Value} (hi : L[i]? = some (some v)) : ls[i]? = some (.val v) := by
  obtain ⟨-, lv, h1, h2⟩ := h
  exact h1.2.2 (i, v) (h2 i v hi).1
theorem th_L.set {ls : Array Slot} {n : Nat} {L : List (Option Value)} {lv : List (Nat × Value)} {i : Nat} {v : Value} (hL : L.length = n) (h2 : ∀ (i : Nat) (v : Value), L[i]? = some (some v) → (i, v) ∈ lv ∧ v.category = 1) (hc : v.category = 1) (hi : i < n)
    (h' : lv_has ls n ((i, v) :: lv.filter (fun q => !(q.1 == i) && !(q.1 + 1 == i && q.2.category == 2)))) : th_L ls n (L.set i (some v)) := by
  refine ⟨by rw [List.length_set]; exact hL, _, h', fun j w hj => ?_⟩
  by_cases hij : i = j
  · subst hij
    rw [List.getElem?_set_self (by omega)] at hj
    cases hj
    exact ⟨List.mem_cons_self, hc⟩
  · rw [List.getElem?_set_ne hij] at hj
    obtain ⟨q1, q2⟩ := h2 j w hj
    refine ⟨List.mem_cons_of_mem _ (List.mem_filter.mpr ⟨q1, ?_⟩), q2⟩
    simp [q2, Ne.symm hij]
/-- the instruction at pc gives back v -/
def th_R (M : th_M) (pc : Nat) (v : Option Value) : Prop :=
  (v = none ∧ M.2.2.2 = none ∧ decode M.2.1 pc = .ok (.return_, 1)) ∨
  (∃ (x : Int32) (ty : FieldType), v = some (.int x) ∧ M.2.2.2 = some ty ∧ narrow ty (.int x) = .int x ∧ decode M.2.1 pc = .ok (.ireturn, 1)) ∨
  (∃ (w : Value) (ty : FieldType), v = some w ∧ M.2.2.2 = some ty ∧ ((∃ n, ty = .object n) ∨ ∃ t, ty = .array t) ∧ (w = .null ∨ ∃ a, w = .ref a) ∧ decode M.2.1 pc = .ok (.areturn, 1))
def th_Y (E : th_E) (M : th_M) (d cz cs : Nat) (L : List (Option Value)) (h : th_H) (Post : Option Value → th_H → Prop) (p : Program) (l : Launch) (e : Env) (R : Room) (s : State) (m : MethodId) (args : Array Value) (below : List Frame) (meth : Method) (c : Code) (H : Heap) (locs : List Loc) (cells slots : Nat) (ls : Array Slot) (Q : State → Prop) : Prop :=
  th_X E M p s m args meth c ∧ th_P E s h H ∧ va_S (th_A E) s.heap H locs ∧ th_L ls M.2.2.1 L ∧ (d ≤ R.frames ∧ 64 * d ≤ R.locals) ∧ (cells + cz ≤ R.cells ∧ slots + cs ≤ R.slots) ∧
  ∀ (v : Option Value) (h' : th_H) (pc' : Nat) (ls' : Array Slot) (H' : Heap) (locs' : List Loc) (cells' slots' : Nat), Post v h' → th_R M pc' v → th_P E s h' H' → va_S (th_A E) s.heap H' locs' → cells' ≤ R.cells → slots' ≤ R.slots → W p l e R s m args below meth c H' locs' cells' slots' Q (F0 m pc' ls' v.toList)
/-- method M, at pc with locals L, stack S, in the picture h, with room for d calls deep, cz cells of cs slots, comes to an end with Post -/
def Xw (E : th_E) (M : th_M) (d cz cs pc : Nat) (L : List (Option Value)) (S : List Value) (h : th_H) (Post : Option Value → th_H → Prop) : Prop :=
  ∀ (p : Program) (l : Launch) (e : Env) (R : Room) (s : State) (m : MethodId) (args : Array Value) (below : List Frame) (meth : Method) (c : Code) (H : Heap) (locs : List Loc) (cells slots : Nat) (ls : Array Slot) (Q : State → Prop),
    th_Y E M d cz cs L h Post p l e R s m args below meth c H locs cells slots ls Q → W p l e R s m args below meth c H locs cells slots Q (F0 m pc ls S)
def th_Qc (E : th_E) (Post : Option Value → th_H → Prop) : Array Value → State → Outcome → State → Prop := fun _ st oc t => ∃ (v : Option Value) (h' : th_H), oc = .returned v ∧ Post v h' ∧ th_S E h' t ∧ va_F (th_A E) st t
/-- a method's contract at arguments as and picture h -/
def Xc (E : th_E) (M : th_M) (d cz cs : Nat) (as : List Value) (h : th_H) (Post : Option Value → th_H → Prop) : Prop :=
  ∀ l : Launch, Met l M.1 (th_ws M) { frames := d, cells := cz, slots := cs, locals := 64 * d } (va_Pc as (th_S E h)) (th_Qc E Post) cz cs (th_A E)
def th_ent (M : th_M) (as : List Value) : List (Option Value) := as.map some ++ List.replicate (M.2.2.1 - as.length) none
theorem th_args_mem : ∀ (as : List Value) (k i : Nat) (v : Value), (∀ w ∈ as, w.category = 1) → as[i]? = some v → (k + i, v) ∈ lv_args k as
  | [], k, i, v, _, h => by simp at h
  | a :: as, k, 0, v, hc, h => by
    simp at h
    subst h
    simp [lv_args]
  | a :: as, k, i + 1, v, hc, h => by
    have h1 : a.category = 1 := hc a List.mem_cons_self
    simp only [List.getElem?_cons_succ] at h
    have := th_args_mem as (k + 1) i v (fun w hw => hc w (List.mem_cons_of_mem _ hw)) h
    simp only [lv_args, h1]
    refine List.mem_cons_of_mem _ ?_
    rw [if_neg (by decide), show k + (i + 1) = k + 1 + i by omega]
    exact this
theorem th_sl_len : ∀ (as : List Value), (∀ w ∈ as, w.category = 1) → (lg_sl as).length = as.length
  | [], _ => rfl
  | a :: as, hc => by
    have h1 : a.category = 1 := hc a List.mem_cons_self
    have := th_sl_len as (fun w hw => hc w (List.mem_cons_of_mem _ hw))
    simp only [lg_sl, List.flatMap_cons, h1] at this ⊢
    rw [if_neg (by decide)]
    simp only [List.length_append, List.length_cons, List.length_nil, this]
    omega
theorem th_L.entry {as : List Value} {n : Nat} (hc : ∀ w ∈ as, w.category = 1) (hn : as.length ≤ n) : th_L ((lg_sl as ++ List.replicate (n - (lg_sl as).length) Slot.unset).toArray) n (as.map some ++ List.replicate (n - as.length) none) := by
  refine ⟨by simp; omega, lv_args 0 as, lv_entry as (by rw [th_sl_len as hc]; exact hn), fun i v hi => ?_⟩
  have hi2 : as[i]? = some v := by
    by_cases hl : i < as.length
    · rw [List.getElem?_append_left (by simpa using hl), List.getElem?_map] at hi
      cases hq : as[i]? with
      | none => rw [hq] at hi; cases hi
      | some w => rw [hq] at hi; cases hi; rfl
    · rw [List.getElem?_append_right (by simpa using hl), List.getElem?_replicate] at hi
      split at hi <;> cases hi
  refine ⟨?_, hc v (List.mem_of_getElem? hi2)⟩
  have := th_args_mem as 0 i v hc hi2
  rwa [Nat.zero_add] at this
/-- a contract out of the walk from the entry -/
theorem Xc.of {E : th_E} {M : th_M} {d cz cs : Nat} {as : List Value} {h : th_H} {Post : Option Value → th_H → Prop} (hpl : plainName M.1.cls = true) (hc : ∀ w ∈ as, w.category = 1) (hn : as.length ≤ M.2.2.1) (w : Xw E M d cz cs 0 (th_ent M as) [] h Post) : Xc E M d cz cs as h Post := by
  intro l
  refine Met.ofW (cc := M.2.1) (maxL := M.2.2.1) (ret := M.2.2.2) hpl rfl ?_
  intro p e s m args below meth c s₁ B hml hv
  obtain ⟨rfl, hP, hC, hZ⟩ := hv
  have hts := atoms_spec (ws := th_ws M) B.pre
  have hown : s.vm.findClass M.1.cls = some m.cls := findClass_of_methodNamed B.named
  have hlocks : meth.locks = false := B.notSynchronized
  rw [lg_entry_eq]
  refine w p l e _ s m _ below meth c s.heap [] 0 0 _ _ ⟨⟨B.exec, B.bytes, hml, hown, fun w hw => hts w (List.mem_cons_of_mem _ hw), B.returns, hlocks, (name_of_methodNamed B.named B.method).1, hC, hZ⟩, hP, va_S.rf, th_L.entry hc hn, ⟨Nat.le_refl _, Nat.le_refl _⟩, ⟨by show 0 + cz ≤ cz; omega, by show 0 + cs ≤ cs; omega⟩, ?_⟩
  intro v h' pc' ls' H' locs' cells' slots' hp hR hP' hS' hce hsl
  have hq : ∀ t : State, t.heap = H' → s.WarmedH t.vm → th_Qc E Post as.toArray s (.returned v) t := fun t ht hW => ⟨v, h', rfl, hp, ⟨by rw [ht]; exact hP'.moved hW.alike, hC.warm hW, fun k q hk => ((hZ k q hk).moved hW.alike).kept (fun a h1 h2 => by rw [ht]; exact hS'.2.1 a h1 h2)⟩, hS'.F ht⟩
  refine W.widen (k := cz) (n := cs) hce hsl ?_
  rcases hR with ⟨rfl, hr, hdg⟩ | ⟨x, ty, rfl, hr, hnr, hdg⟩ | ⟨w2, ty, rfl, hr, hty, hw2, hdg⟩
  · exact W.vret B.exec B.bytes (B.returns.trans hr) hq hS'.2.2 hdg hlocks
  · exact W.zret B.exec B.bytes (B.returns.trans hr) hnr hq hS'.2.2 hdg hlocks
  · exact W.aret B.exec B.bytes (B.returns.trans hr) hty hw2 hq hS'.2.2 hdg hlocks
end
section
/-! Rules of Xw, an instruction a rule (printed by wip/gen/rules.py). -/
theorem x_iconst {E : th_E} {M : th_M} {d cz cs pc : Nat} {L : List (Option Value)} {S : List Value} {h : th_H} {Post : Option Value → th_H → Prop} {n : Int} {v : Int32} (hd : decode M.2.1 pc = .ok (.iconst n, 1)) (hv : Int32.ofInt n = v) (kk : Xw E M d cz cs (pc + 1) L (.int v :: S) h Post) : Xw E M d cz cs pc L S h Post := by
  intro p l e R s m args below meth c H locs cells slots ls Q Y
  exact lv_iconst Y.1.1 Y.1.2.1 hd hv (kk p l e R s m args below meth c H locs cells slots ls Q Y)
theorem x_bipush {E : th_E} {M : th_M} {d cz cs pc : Nat} {L : List (Option Value)} {S : List Value} {h : th_H} {Post : Option Value → th_H → Prop} {n : Int} {v : Int32} (hd : decode M.2.1 pc = .ok (.bipush n, 2)) (hv : (Int8.ofInt n).toInt32 = v) (kk : Xw E M d cz cs (pc + 2) L (.int v :: S) h Post) : Xw E M d cz cs pc L S h Post := by
  intro p l e R s m args below meth c H locs cells slots ls Q Y
  exact lv_bipush Y.1.1 Y.1.2.1 hd hv (kk p l e R s m args below meth c H locs cells slots ls Q Y)
theorem x_sipush {E : th_E} {M : th_M} {d cz cs pc : Nat} {L : List (Option Value)} {S : List Value} {h : th_H} {Post : Option Value → th_H → Prop} {n : Int} {v : Int32} (hd : decode M.2.1 pc = .ok (.sipush n, 3)) (hv : (Int16.ofInt n).toInt32 = v) (kk : Xw E M d cz cs (pc + 3) L (.int v :: S) h Post) : Xw E M d cz cs pc L S h Post := by
  intro p l e R s m args below meth c H locs cells slots ls Q Y
  exact lv_sipush Y.1.1 Y.1.2.1 hd hv (kk p l e R s m args below meth c H locs cells slots ls Q Y)
theorem x_null {E : th_E} {M : th_M} {d cz cs pc : Nat} {L : List (Option Value)} {S : List Value} {h : th_H} {Post : Option Value → th_H → Prop}  (hd : decode M.2.1 pc = .ok (.aconst_null, 1)) (kk : Xw E M d cz cs (pc + 1) L (.null :: S) h Post) : Xw E M d cz cs pc L S h Post := by
  intro p l e R s m args below meth c H locs cells slots ls Q Y
  exact lv_null Y.1.1 Y.1.2.1 hd (kk p l e R s m args below meth c H locs cells slots ls Q Y)
theorem x_ldc {E : th_E} {M : th_M} {d cz cs pc : Nat} {L : List (Option Value)} {S : List Value} {h : th_H} {Post : Option Value → th_H → Prop} {n : Nat} {v : Int32} (hd : decode M.2.1 pc = .ok (.ldc n, 2)) (hc : Jvm.Cond.constant M.1.cls n v ∈ th_tb) (kk : Xw E M d cz cs (pc + 2) L (.int v :: S) h Post) : Xw E M d cz cs pc L S h Post := by
  intro p l e R s m args below meth c H locs cells slots ls Q Y
  exact lv_ldc Y.1.1 Y.1.2.1 Y.1.2.2.2.1 (Y.1.2.2.2.2.1 _ hc) hd (kk p l e R s m args below meth c H locs cells slots ls Q Y)
theorem x_ldcw {E : th_E} {M : th_M} {d cz cs pc : Nat} {L : List (Option Value)} {S : List Value} {h : th_H} {Post : Option Value → th_H → Prop} {n : Nat} {v : Int32} (hd : decode M.2.1 pc = .ok (.ldc_w n, 3)) (hc : Jvm.Cond.constant M.1.cls n v ∈ th_tb) (kk : Xw E M d cz cs (pc + 3) L (.int v :: S) h Post) : Xw E M d cz cs pc L S h Post := by
  intro p l e R s m args below meth c H locs cells slots ls Q Y
  exact lv_ldcw Y.1.1 Y.1.2.1 Y.1.2.2.2.1 (Y.1.2.2.2.2.1 _ hc) hd (kk p l e R s m args below meth c H locs cells slots ls Q Y)
theorem x_iload_n {E : th_E} {M : th_M} {d cz cs pc : Nat} {L : List (Option Value)} {S : List Value} {h : th_H} {Post : Option Value → th_H → Prop} {k : Fin 4} {i : Nat} {x : Int32} (hd : decode M.2.1 pc = .ok (.iload_n k, 1)) (hi : (k : Nat) = i) (hl : L[i]? = some (some (.int x))) (kk : Xw E M d cz cs (pc + 1) L (.int x :: S) h Post) : Xw E M d cz cs pc L S h Post := by
  intro p l e R s m args below meth c H locs cells slots ls Q Y
  exact lv_iload_n Y.1.1 Y.1.2.1 hd hi (Y.2.2.2.1.at hl) (kk p l e R s m args below meth c H locs cells slots ls Q Y)
theorem x_iload {E : th_E} {M : th_M} {d cz cs pc : Nat} {L : List (Option Value)} {S : List Value} {h : th_H} {Post : Option Value → th_H → Prop} {i : Nat} {x : Int32} (hd : decode M.2.1 pc = .ok (.iload i, 2)) (hl : L[i]? = some (some (.int x))) (kk : Xw E M d cz cs (pc + 2) L (.int x :: S) h Post) : Xw E M d cz cs pc L S h Post := by
  intro p l e R s m args below meth c H locs cells slots ls Q Y
  exact lv_iload Y.1.1 Y.1.2.1 hd (Y.2.2.2.1.at hl) (kk p l e R s m args below meth c H locs cells slots ls Q Y)
theorem x_aload_n {E : th_E} {M : th_M} {d cz cs pc : Nat} {L : List (Option Value)} {S : List Value} {h : th_H} {Post : Option Value → th_H → Prop} {k : Fin 4} {i : Nat} {x : Nat} (hd : decode M.2.1 pc = .ok (.aload_n k, 1)) (hi : (k : Nat) = i) (hl : L[i]? = some (some (.ref x))) (kk : Xw E M d cz cs (pc + 1) L (.ref x :: S) h Post) : Xw E M d cz cs pc L S h Post := by
  intro p l e R s m args below meth c H locs cells slots ls Q Y
  exact lv_aload_n Y.1.1 Y.1.2.1 hd hi (Y.2.2.2.1.at hl) (kk p l e R s m args below meth c H locs cells slots ls Q Y)
theorem x_aload {E : th_E} {M : th_M} {d cz cs pc : Nat} {L : List (Option Value)} {S : List Value} {h : th_H} {Post : Option Value → th_H → Prop} {i : Nat} {x : Nat} (hd : decode M.2.1 pc = .ok (.aload i, 2)) (hl : L[i]? = some (some (.ref x))) (kk : Xw E M d cz cs (pc + 2) L (.ref x :: S) h Post) : Xw E M d cz cs pc L S h Post := by
  intro p l e R s m args below meth c H locs cells slots ls Q Y
  exact lv_aload Y.1.1 Y.1.2.1 hd (Y.2.2.2.1.at hl) (kk p l e R s m args below meth c H locs cells slots ls Q Y)
theorem x_aload_nN {E : th_E} {M : th_M} {d cz cs pc : Nat} {L : List (Option Value)} {S : List Value} {h : th_H} {Post : Option Value → th_H → Prop} {k : Fin 4} {i : Nat} (hd : decode M.2.1 pc = .ok (.aload_n k, 1)) (hi : (k : Nat) = i) (hl : L[i]? = some (some (.null))) (kk : Xw E M d cz cs (pc + 1) L (.null :: S) h Post) : Xw E M d cz cs pc L S h Post := by
  intro p l e R s m args below meth c H locs cells slots ls Q Y
  exact lv_aload_nN Y.1.1 Y.1.2.1 hd hi (Y.2.2.2.1.at hl) (kk p l e R s m args below meth c H locs cells slots ls Q Y)
theorem x_aloadN {E : th_E} {M : th_M} {d cz cs pc : Nat} {L : List (Option Value)} {S : List Value} {h : th_H} {Post : Option Value → th_H → Prop} {i : Nat} (hd : decode M.2.1 pc = .ok (.aload i, 2)) (hl : L[i]? = some (some (.null))) (kk : Xw E M d cz cs (pc + 2) L (.null :: S) h Post) : Xw E M d cz cs pc L S h Post := by
  intro p l e R s m args below meth c H locs cells slots ls Q Y
  exact lv_aloadN Y.1.1 Y.1.2.1 hd (Y.2.2.2.1.at hl) (kk p l e R s m args below meth c H locs cells slots ls Q Y)
theorem x_istore_n {E : th_E} {M : th_M} {d cz cs pc : Nat} {L : List (Option Value)} {S : List Value} {h : th_H} {Post : Option Value → th_H → Prop} {k : Fin 4} {i : Nat} {x : Int32} (hd : decode M.2.1 pc = .ok (.istore_n k, 1)) (hi : (k : Nat) = i) (hlt : i < M.2.2.1) {L' : List (Option Value)} (hL : L.set i (some (.int x)) = L') (kk : Xw E M d cz cs (pc + 1) L' S h Post) : Xw E M d cz cs pc L (.int x :: S) h Post := by
  intro p l e R s m args below meth c H locs cells slots ls Q Y
  obtain ⟨hX, hP, hS, ⟨hL0, lv, hl1, hl2⟩, Y5⟩ := Y
  subst hL
  exact lv_istore_n hX.1 hX.2.1 hd hi hl1 hlt rfl (fun ls' h' => kk p l e R s m args below meth c H locs cells slots ls' Q ⟨hX, hP, hS, th_L.set hL0 hl2 rfl hlt h', Y5⟩)
theorem x_istore {E : th_E} {M : th_M} {d cz cs pc : Nat} {L : List (Option Value)} {S : List Value} {h : th_H} {Post : Option Value → th_H → Prop} {i : Nat} {x : Int32} (hd : decode M.2.1 pc = .ok (.istore i, 2)) (hlt : i < M.2.2.1) {L' : List (Option Value)} (hL : L.set i (some (.int x)) = L') (kk : Xw E M d cz cs (pc + 2) L' S h Post) : Xw E M d cz cs pc L (.int x :: S) h Post := by
  intro p l e R s m args below meth c H locs cells slots ls Q Y
  obtain ⟨hX, hP, hS, ⟨hL0, lv, hl1, hl2⟩, Y5⟩ := Y
  subst hL
  exact lv_istore hX.1 hX.2.1 hd hl1 hlt rfl (fun ls' h' => kk p l e R s m args below meth c H locs cells slots ls' Q ⟨hX, hP, hS, th_L.set hL0 hl2 rfl hlt h', Y5⟩)
theorem x_astore_n {E : th_E} {M : th_M} {d cz cs pc : Nat} {L : List (Option Value)} {S : List Value} {h : th_H} {Post : Option Value → th_H → Prop} {k : Fin 4} {i : Nat} {x : Nat} (hd : decode M.2.1 pc = .ok (.astore_n k, 1)) (hi : (k : Nat) = i) (hlt : i < M.2.2.1) {L' : List (Option Value)} (hL : L.set i (some (.ref x)) = L') (kk : Xw E M d cz cs (pc + 1) L' S h Post) : Xw E M d cz cs pc L (.ref x :: S) h Post := by
  intro p l e R s m args below meth c H locs cells slots ls Q Y
  obtain ⟨hX, hP, hS, ⟨hL0, lv, hl1, hl2⟩, Y5⟩ := Y
  subst hL
  exact lv_astore_n hX.1 hX.2.1 hd hi hl1 hlt rfl (fun ls' h' => kk p l e R s m args below meth c H locs cells slots ls' Q ⟨hX, hP, hS, th_L.set hL0 hl2 rfl hlt h', Y5⟩)
theorem x_astore {E : th_E} {M : th_M} {d cz cs pc : Nat} {L : List (Option Value)} {S : List Value} {h : th_H} {Post : Option Value → th_H → Prop} {i : Nat} {x : Nat} (hd : decode M.2.1 pc = .ok (.astore i, 2)) (hlt : i < M.2.2.1) {L' : List (Option Value)} (hL : L.set i (some (.ref x)) = L') (kk : Xw E M d cz cs (pc + 2) L' S h Post) : Xw E M d cz cs pc L (.ref x :: S) h Post := by
  intro p l e R s m args below meth c H locs cells slots ls Q Y
  obtain ⟨hX, hP, hS, ⟨hL0, lv, hl1, hl2⟩, Y5⟩ := Y
  subst hL
  exact lv_astore hX.1 hX.2.1 hd hl1 hlt rfl (fun ls' h' => kk p l e R s m args below meth c H locs cells slots ls' Q ⟨hX, hP, hS, th_L.set hL0 hl2 rfl hlt h', Y5⟩)
theorem x_astore_nN {E : th_E} {M : th_M} {d cz cs pc : Nat} {L : List (Option Value)} {S : List Value} {h : th_H} {Post : Option Value → th_H → Prop} {k : Fin 4} {i : Nat} (hd : decode M.2.1 pc = .ok (.astore_n k, 1)) (hi : (k : Nat) = i) (hlt : i < M.2.2.1) {L' : List (Option Value)} (hL : L.set i (some (.null)) = L') (kk : Xw E M d cz cs (pc + 1) L' S h Post) : Xw E M d cz cs pc L (.null :: S) h Post := by
  intro p l e R s m args below meth c H locs cells slots ls Q Y
  obtain ⟨hX, hP, hS, ⟨hL0, lv, hl1, hl2⟩, Y5⟩ := Y
  subst hL
  exact lv_astore_nN hX.1 hX.2.1 hd hi hl1 hlt rfl (fun ls' h' => kk p l e R s m args below meth c H locs cells slots ls' Q ⟨hX, hP, hS, th_L.set hL0 hl2 rfl hlt h', Y5⟩)
theorem x_astoreN {E : th_E} {M : th_M} {d cz cs pc : Nat} {L : List (Option Value)} {S : List Value} {h : th_H} {Post : Option Value → th_H → Prop} {i : Nat} (hd : decode M.2.1 pc = .ok (.astore i, 2)) (hlt : i < M.2.2.1) {L' : List (Option Value)} (hL : L.set i (some (.null)) = L') (kk : Xw E M d cz cs (pc + 2) L' S h Post) : Xw E M d cz cs pc L (.null :: S) h Post := by
  intro p l e R s m args below meth c H locs cells slots ls Q Y
  obtain ⟨hX, hP, hS, ⟨hL0, lv, hl1, hl2⟩, Y5⟩ := Y
  subst hL
  exact lv_astoreN hX.1 hX.2.1 hd hl1 hlt rfl (fun ls' h' => kk p l e R s m args below meth c H locs cells slots ls' Q ⟨hX, hP, hS, th_L.set hL0 hl2 rfl hlt h', Y5⟩)
theorem x_iinc {E : th_E} {M : th_M} {d cz cs pc : Nat} {L : List (Option Value)} {S : List Value} {h : th_H} {Post : Option Value → th_H → Prop} {i : Nat} {n : Int} {x v : Int32} (hd : decode M.2.1 pc = .ok (.iinc i n, 3)) (hl : L[i]? = some (some (.int x))) (hv : x + Int32.ofInt n = v) (hlt : i < M.2.2.1) {L' : List (Option Value)} (hL : L.set i (some (.int v)) = L') (kk : Xw E M d cz cs (pc + 3) L' S h Post) : Xw E M d cz cs pc L S h Post := by
  intro p l e R s m args below meth c H locs cells slots ls Q Y
  obtain ⟨hX, hP, hS, ⟨hL0, lv, hl1, hl2⟩, Y5⟩ := Y
  subst hL
  obtain ⟨k, hk⟩ := List.getElem?_of_mem (hl2 _ _ hl).1
  exact lv_iinc hX.1 hX.2.1 hd hl1 hk hv hlt rfl (fun ls' h' => kk p l e R s m args below meth c H locs cells slots ls' Q ⟨hX, hP, hS, th_L.set hL0 hl2 rfl hlt h', Y5⟩)
theorem x_iadd {E : th_E} {M : th_M} {d cz cs pc : Nat} {L : List (Option Value)} {S : List Value} {h : th_H} {Post : Option Value → th_H → Prop} {x y v : Int32} (hd : decode M.2.1 pc = .ok (.iadd, 1)) (hv : x + y = v) (kk : Xw E M d cz cs (pc + 1) L (.int v :: S) h Post) : Xw E M d cz cs pc L (.int y :: .int x :: S) h Post := by
  intro p l e R s m args below meth c H locs cells slots ls Q Y
  subst hv
  exact lv_iadd Y.1.1 Y.1.2.1 hd (kk p l e R s m args below meth c H locs cells slots ls Q Y)
theorem x_isub {E : th_E} {M : th_M} {d cz cs pc : Nat} {L : List (Option Value)} {S : List Value} {h : th_H} {Post : Option Value → th_H → Prop} {x y v : Int32} (hd : decode M.2.1 pc = .ok (.isub, 1)) (hv : x - y = v) (kk : Xw E M d cz cs (pc + 1) L (.int v :: S) h Post) : Xw E M d cz cs pc L (.int y :: .int x :: S) h Post := by
  intro p l e R s m args below meth c H locs cells slots ls Q Y
  subst hv
  exact lv_isub Y.1.1 Y.1.2.1 hd (kk p l e R s m args below meth c H locs cells slots ls Q Y)
theorem x_imul {E : th_E} {M : th_M} {d cz cs pc : Nat} {L : List (Option Value)} {S : List Value} {h : th_H} {Post : Option Value → th_H → Prop} {x y v : Int32} (hd : decode M.2.1 pc = .ok (.imul, 1)) (hv : x * y = v) (kk : Xw E M d cz cs (pc + 1) L (.int v :: S) h Post) : Xw E M d cz cs pc L (.int y :: .int x :: S) h Post := by
  intro p l e R s m args below meth c H locs cells slots ls Q Y
  subst hv
  exact lv_imul Y.1.1 Y.1.2.1 hd (kk p l e R s m args below meth c H locs cells slots ls Q Y)
theorem x_iand {E : th_E} {M : th_M} {d cz cs pc : Nat} {L : List (Option Value)} {S : List Value} {h : th_H} {Post : Option Value → th_H → Prop} {x y v : Int32} (hd : decode M.2.1 pc = .ok (.iand, 1)) (hv : x &&& y = v) (kk : Xw E M d cz cs (pc + 1) L (.int v :: S) h Post) : Xw E M d cz cs pc L (.int y :: .int x :: S) h Post := by
  intro p l e R s m args below meth c H locs cells slots ls Q Y
  subst hv
  exact lv_iand Y.1.1 Y.1.2.1 hd (kk p l e R s m args below meth c H locs cells slots ls Q Y)
theorem x_ior {E : th_E} {M : th_M} {d cz cs pc : Nat} {L : List (Option Value)} {S : List Value} {h : th_H} {Post : Option Value → th_H → Prop} {x y v : Int32} (hd : decode M.2.1 pc = .ok (.ior, 1)) (hv : x ||| y = v) (kk : Xw E M d cz cs (pc + 1) L (.int v :: S) h Post) : Xw E M d cz cs pc L (.int y :: .int x :: S) h Post := by
  intro p l e R s m args below meth c H locs cells slots ls Q Y
  subst hv
  exact lv_ior Y.1.1 Y.1.2.1 hd (kk p l e R s m args below meth c H locs cells slots ls Q Y)
theorem x_ixor {E : th_E} {M : th_M} {d cz cs pc : Nat} {L : List (Option Value)} {S : List Value} {h : th_H} {Post : Option Value → th_H → Prop} {x y v : Int32} (hd : decode M.2.1 pc = .ok (.ixor, 1)) (hv : x ^^^ y = v) (kk : Xw E M d cz cs (pc + 1) L (.int v :: S) h Post) : Xw E M d cz cs pc L (.int y :: .int x :: S) h Post := by
  intro p l e R s m args below meth c H locs cells slots ls Q Y
  subst hv
  exact lv_ixor Y.1.1 Y.1.2.1 hd (kk p l e R s m args below meth c H locs cells slots ls Q Y)
theorem x_ishl {E : th_E} {M : th_M} {d cz cs pc : Nat} {L : List (Option Value)} {S : List Value} {h : th_H} {Post : Option Value → th_H → Prop} {x y v : Int32} (hd : decode M.2.1 pc = .ok (.ishl, 1)) (hv : x <<< (y &&& 31) = v) (kk : Xw E M d cz cs (pc + 1) L (.int v :: S) h Post) : Xw E M d cz cs pc L (.int y :: .int x :: S) h Post := by
  intro p l e R s m args below meth c H locs cells slots ls Q Y
  subst hv
  exact lv_ishl Y.1.1 Y.1.2.1 hd (kk p l e R s m args below meth c H locs cells slots ls Q Y)
theorem x_ishr {E : th_E} {M : th_M} {d cz cs pc : Nat} {L : List (Option Value)} {S : List Value} {h : th_H} {Post : Option Value → th_H → Prop} {x y v : Int32} (hd : decode M.2.1 pc = .ok (.ishr, 1)) (hv : x >>> (y &&& 31) = v) (kk : Xw E M d cz cs (pc + 1) L (.int v :: S) h Post) : Xw E M d cz cs pc L (.int y :: .int x :: S) h Post := by
  intro p l e R s m args below meth c H locs cells slots ls Q Y
  subst hv
  exact lv_ishr Y.1.1 Y.1.2.1 hd (kk p l e R s m args below meth c H locs cells slots ls Q Y)
theorem x_iushr {E : th_E} {M : th_M} {d cz cs pc : Nat} {L : List (Option Value)} {S : List Value} {h : th_H} {Post : Option Value → th_H → Prop} {x y v : Int32} (hd : decode M.2.1 pc = .ok (.iushr, 1)) (hv : (x.toUInt32 >>> (y.toUInt32 &&& Int32.toUInt32 31)).toInt32 = v) (kk : Xw E M d cz cs (pc + 1) L (.int v :: S) h Post) : Xw E M d cz cs pc L (.int y :: .int x :: S) h Post := by
  intro p l e R s m args below meth c H locs cells slots ls Q Y
  exact lv_iushr Y.1.1 Y.1.2.1 hd hv (kk p l e R s m args below meth c H locs cells slots ls Q Y)
theorem x_idiv {E : th_E} {M : th_M} {d cz cs pc : Nat} {L : List (Option Value)} {S : List Value} {h : th_H} {Post : Option Value → th_H → Prop} {x y v : Int32} (hd : decode M.2.1 pc = .ok (.idiv, 1)) (hne : ¬ y = 0) (hv : x / y = v) (kk : Xw E M d cz cs (pc + 1) L (.int v :: S) h Post) : Xw E M d cz cs pc L (.int y :: .int x :: S) h Post := by
  intro p l e R s m args below meth c H locs cells slots ls Q Y
  subst hv
  exact lv_idiv Y.1.1 Y.1.2.1 hd hne (kk p l e R s m args below meth c H locs cells slots ls Q Y)
theorem x_irem {E : th_E} {M : th_M} {d cz cs pc : Nat} {L : List (Option Value)} {S : List Value} {h : th_H} {Post : Option Value → th_H → Prop} {x y v : Int32} (hd : decode M.2.1 pc = .ok (.irem, 1)) (hne : ¬ y = 0) (hv : x - x / y * y = v) (kk : Xw E M d cz cs (pc + 1) L (.int v :: S) h Post) : Xw E M d cz cs pc L (.int y :: .int x :: S) h Post := by
  intro p l e R s m args below meth c H locs cells slots ls Q Y
  subst hv
  exact lv_irem Y.1.1 Y.1.2.1 hd hne (kk p l e R s m args below meth c H locs cells slots ls Q Y)
theorem x_ineg {E : th_E} {M : th_M} {d cz cs pc : Nat} {L : List (Option Value)} {S : List Value} {h : th_H} {Post : Option Value → th_H → Prop} {x v : Int32} (hd : decode M.2.1 pc = .ok (.ineg, 1)) (hv : -x = v) (kk : Xw E M d cz cs (pc + 1) L (.int v :: S) h Post) : Xw E M d cz cs pc L (.int x :: S) h Post := by
  intro p l e R s m args below meth c H locs cells slots ls Q Y
  subst hv
  exact lv_ineg Y.1.1 Y.1.2.1 hd (kk p l e R s m args below meth c H locs cells slots ls Q Y)
theorem x_dup {E : th_E} {M : th_M} {d cz cs pc : Nat} {L : List (Option Value)} {S : List Value} {h : th_H} {Post : Option Value → th_H → Prop} {a : Value} (hd : decode M.2.1 pc = .ok (.dup, 1)) (ha : a.category = 1) (kk : Xw E M d cz cs (pc + 1) L (a :: a :: S) h Post) : Xw E M d cz cs pc L (a :: S) h Post := by
  intro p l e R s m args below meth c H locs cells slots ls Q Y
  exact lv_dup Y.1.1 Y.1.2.1 hd ha (kk p l e R s m args below meth c H locs cells slots ls Q Y)
theorem x_pop {E : th_E} {M : th_M} {d cz cs pc : Nat} {L : List (Option Value)} {S : List Value} {h : th_H} {Post : Option Value → th_H → Prop} {a : Value} (hd : decode M.2.1 pc = .ok (.pop, 1)) (ha : a.category = 1) (kk : Xw E M d cz cs (pc + 1) L S h Post) : Xw E M d cz cs pc L (a :: S) h Post := by
  intro p l e R s m args below meth c H locs cells slots ls Q Y
  exact lv_pop Y.1.1 Y.1.2.1 hd ha (kk p l e R s m args below meth c H locs cells slots ls Q Y)
theorem x_dup_x1 {E : th_E} {M : th_M} {d cz cs pc : Nat} {L : List (Option Value)} {S : List Value} {h : th_H} {Post : Option Value → th_H → Prop} {a b : Value} (hd : decode M.2.1 pc = .ok (.dup_x1, 1)) (ha : a.category = 1) (hb : b.category = 1) (kk : Xw E M d cz cs (pc + 1) L (a :: b :: a :: S) h Post) : Xw E M d cz cs pc L (a :: b :: S) h Post := by
  intro p l e R s m args below meth c H locs cells slots ls Q Y
  exact lv_dup_x1 Y.1.1 Y.1.2.1 hd ha hb (kk p l e R s m args below meth c H locs cells slots ls Q Y)
theorem x_dup_x2 {E : th_E} {M : th_M} {d cz cs pc : Nat} {L : List (Option Value)} {S : List Value} {h : th_H} {Post : Option Value → th_H → Prop} {a b g : Value} (hd : decode M.2.1 pc = .ok (.dup_x2, 1)) (ha : a.category = 1) (hb : b.category = 1) (hg : g.category = 1) (kk : Xw E M d cz cs (pc + 1) L (a :: b :: g :: a :: S) h Post) : Xw E M d cz cs pc L (a :: b :: g :: S) h Post := by
  intro p l e R s m args below meth c H locs cells slots ls Q Y
  exact lv_dup_x2 Y.1.1 Y.1.2.1 hd ha hb hg (kk p l e R s m args below meth c H locs cells slots ls Q Y)
theorem x_dup2 {E : th_E} {M : th_M} {d cz cs pc : Nat} {L : List (Option Value)} {S : List Value} {h : th_H} {Post : Option Value → th_H → Prop} {a b : Value} (hd : decode M.2.1 pc = .ok (.dup2, 1)) (ha : a.category = 1) (hb : b.category = 1) (kk : Xw E M d cz cs (pc + 1) L (a :: b :: a :: b :: S) h Post) : Xw E M d cz cs pc L (a :: b :: S) h Post := by
  intro p l e R s m args below meth c H locs cells slots ls Q Y
  exact lv_dup2_11 Y.1.1 Y.1.2.1 hd ha hb (kk p l e R s m args below meth c H locs cells slots ls Q Y)
theorem x_if_eq {E : th_E} {M : th_M} {d cz cs pc : Nat} {L : List (Option Value)} {S : List Value} {h : th_H} {Post : Option Value → th_H → Prop} {x : Int32} {off : Int} {tgt : Nat} (hd : decode M.2.1 pc = .ok (.ifCond .eq off, 3)) (ht : (pc : Int) + off = (tgt : Int)) (kt : x = 0 → Xw E M d cz cs tgt L S h Post) (kf : ¬ x = 0 → Xw E M d cz cs (pc + 3) L S h Post) : Xw E M d cz cs pc L (.int x :: S) h Post := by
  intro p l e R s m args below meth c H locs cells slots ls Q Y
  exact lv_if_eq Y.1.1 Y.1.2.1 hd ht (fun q => kt q p l e R s m args below meth c H locs cells slots ls Q Y) (fun q => kf q p l e R s m args below meth c H locs cells slots ls Q Y)
theorem x_icmp_eq {E : th_E} {M : th_M} {d cz cs pc : Nat} {L : List (Option Value)} {S : List Value} {h : th_H} {Post : Option Value → th_H → Prop} {x y : Int32} {off : Int} {tgt : Nat} (hd : decode M.2.1 pc = .ok (.if_icmp .eq off, 3)) (ht : (pc : Int) + off = (tgt : Int)) (kt : x = y → Xw E M d cz cs tgt L S h Post) (kf : ¬ x = y → Xw E M d cz cs (pc + 3) L S h Post) : Xw E M d cz cs pc L (.int y :: .int x :: S) h Post := by
  intro p l e R s m args below meth c H locs cells slots ls Q Y
  exact lv_icmp_eq Y.1.1 Y.1.2.1 hd ht (fun q => kt q p l e R s m args below meth c H locs cells slots ls Q Y) (fun q => kf q p l e R s m args below meth c H locs cells slots ls Q Y)
theorem x_if_ne {E : th_E} {M : th_M} {d cz cs pc : Nat} {L : List (Option Value)} {S : List Value} {h : th_H} {Post : Option Value → th_H → Prop} {x : Int32} {off : Int} {tgt : Nat} (hd : decode M.2.1 pc = .ok (.ifCond .ne off, 3)) (ht : (pc : Int) + off = (tgt : Int)) (kt : ¬ x = 0 → Xw E M d cz cs tgt L S h Post) (kf : x = 0 → Xw E M d cz cs (pc + 3) L S h Post) : Xw E M d cz cs pc L (.int x :: S) h Post := by
  intro p l e R s m args below meth c H locs cells slots ls Q Y
  exact lv_if_ne Y.1.1 Y.1.2.1 hd ht (fun q => kt q p l e R s m args below meth c H locs cells slots ls Q Y) (fun q => kf q p l e R s m args below meth c H locs cells slots ls Q Y)
theorem x_icmp_ne {E : th_E} {M : th_M} {d cz cs pc : Nat} {L : List (Option Value)} {S : List Value} {h : th_H} {Post : Option Value → th_H → Prop} {x y : Int32} {off : Int} {tgt : Nat} (hd : decode M.2.1 pc = .ok (.if_icmp .ne off, 3)) (ht : (pc : Int) + off = (tgt : Int)) (kt : ¬ x = y → Xw E M d cz cs tgt L S h Post) (kf : x = y → Xw E M d cz cs (pc + 3) L S h Post) : Xw E M d cz cs pc L (.int y :: .int x :: S) h Post := by
  intro p l e R s m args below meth c H locs cells slots ls Q Y
  exact lv_icmp_ne Y.1.1 Y.1.2.1 hd ht (fun q => kt q p l e R s m args below meth c H locs cells slots ls Q Y) (fun q => kf q p l e R s m args below meth c H locs cells slots ls Q Y)
theorem x_if_lt {E : th_E} {M : th_M} {d cz cs pc : Nat} {L : List (Option Value)} {S : List Value} {h : th_H} {Post : Option Value → th_H → Prop} {x : Int32} {off : Int} {tgt : Nat} (hd : decode M.2.1 pc = .ok (.ifCond .lt off, 3)) (ht : (pc : Int) + off = (tgt : Int)) (kt : x < 0 → Xw E M d cz cs tgt L S h Post) (kf : ¬ x < 0 → Xw E M d cz cs (pc + 3) L S h Post) : Xw E M d cz cs pc L (.int x :: S) h Post := by
  intro p l e R s m args below meth c H locs cells slots ls Q Y
  exact lv_if_lt Y.1.1 Y.1.2.1 hd ht (fun q => kt q p l e R s m args below meth c H locs cells slots ls Q Y) (fun q => kf q p l e R s m args below meth c H locs cells slots ls Q Y)
theorem x_icmp_lt {E : th_E} {M : th_M} {d cz cs pc : Nat} {L : List (Option Value)} {S : List Value} {h : th_H} {Post : Option Value → th_H → Prop} {x y : Int32} {off : Int} {tgt : Nat} (hd : decode M.2.1 pc = .ok (.if_icmp .lt off, 3)) (ht : (pc : Int) + off = (tgt : Int)) (kt : x < y → Xw E M d cz cs tgt L S h Post) (kf : ¬ x < y → Xw E M d cz cs (pc + 3) L S h Post) : Xw E M d cz cs pc L (.int y :: .int x :: S) h Post := by
  intro p l e R s m args below meth c H locs cells slots ls Q Y
  exact lv_icmp_lt Y.1.1 Y.1.2.1 hd ht (fun q => kt q p l e R s m args below meth c H locs cells slots ls Q Y) (fun q => kf q p l e R s m args below meth c H locs cells slots ls Q Y)
theorem x_if_ge {E : th_E} {M : th_M} {d cz cs pc : Nat} {L : List (Option Value)} {S : List Value} {h : th_H} {Post : Option Value → th_H → Prop} {x : Int32} {off : Int} {tgt : Nat} (hd : decode M.2.1 pc = .ok (.ifCond .ge off, 3)) (ht : (pc : Int) + off = (tgt : Int)) (kt : 0 ≤ x → Xw E M d cz cs tgt L S h Post) (kf : ¬ 0 ≤ x → Xw E M d cz cs (pc + 3) L S h Post) : Xw E M d cz cs pc L (.int x :: S) h Post := by
  intro p l e R s m args below meth c H locs cells slots ls Q Y
  exact lv_if_ge Y.1.1 Y.1.2.1 hd ht (fun q => kt q p l e R s m args below meth c H locs cells slots ls Q Y) (fun q => kf q p l e R s m args below meth c H locs cells slots ls Q Y)
theorem x_icmp_ge {E : th_E} {M : th_M} {d cz cs pc : Nat} {L : List (Option Value)} {S : List Value} {h : th_H} {Post : Option Value → th_H → Prop} {x y : Int32} {off : Int} {tgt : Nat} (hd : decode M.2.1 pc = .ok (.if_icmp .ge off, 3)) (ht : (pc : Int) + off = (tgt : Int)) (kt : y ≤ x → Xw E M d cz cs tgt L S h Post) (kf : ¬ y ≤ x → Xw E M d cz cs (pc + 3) L S h Post) : Xw E M d cz cs pc L (.int y :: .int x :: S) h Post := by
  intro p l e R s m args below meth c H locs cells slots ls Q Y
  exact lv_icmp_ge Y.1.1 Y.1.2.1 hd ht (fun q => kt q p l e R s m args below meth c H locs cells slots ls Q Y) (fun q => kf q p l e R s m args below meth c H locs cells slots ls Q Y)
theorem x_if_gt {E : th_E} {M : th_M} {d cz cs pc : Nat} {L : List (Option Value)} {S : List Value} {h : th_H} {Post : Option Value → th_H → Prop} {x : Int32} {off : Int} {tgt : Nat} (hd : decode M.2.1 pc = .ok (.ifCond .gt off, 3)) (ht : (pc : Int) + off = (tgt : Int)) (kt : 0 < x → Xw E M d cz cs tgt L S h Post) (kf : ¬ 0 < x → Xw E M d cz cs (pc + 3) L S h Post) : Xw E M d cz cs pc L (.int x :: S) h Post := by
  intro p l e R s m args below meth c H locs cells slots ls Q Y
  exact lv_if_gt Y.1.1 Y.1.2.1 hd ht (fun q => kt q p l e R s m args below meth c H locs cells slots ls Q Y) (fun q => kf q p l e R s m args below meth c H locs cells slots ls Q Y)
theorem x_icmp_gt {E : th_E} {M : th_M} {d cz cs pc : Nat} {L : List (Option Value)} {S : List Value} {h : th_H} {Post : Option Value → th_H → Prop} {x y : Int32} {off : Int} {tgt : Nat} (hd : decode M.2.1 pc = .ok (.if_icmp .gt off, 3)) (ht : (pc : Int) + off = (tgt : Int)) (kt : y < x → Xw E M d cz cs tgt L S h Post) (kf : ¬ y < x → Xw E M d cz cs (pc + 3) L S h Post) : Xw E M d cz cs pc L (.int y :: .int x :: S) h Post := by
  intro p l e R s m args below meth c H locs cells slots ls Q Y
  exact lv_icmp_gt Y.1.1 Y.1.2.1 hd ht (fun q => kt q p l e R s m args below meth c H locs cells slots ls Q Y) (fun q => kf q p l e R s m args below meth c H locs cells slots ls Q Y)
theorem x_if_le {E : th_E} {M : th_M} {d cz cs pc : Nat} {L : List (Option Value)} {S : List Value} {h : th_H} {Post : Option Value → th_H → Prop} {x : Int32} {off : Int} {tgt : Nat} (hd : decode M.2.1 pc = .ok (.ifCond .le off, 3)) (ht : (pc : Int) + off = (tgt : Int)) (kt : x ≤ 0 → Xw E M d cz cs tgt L S h Post) (kf : ¬ x ≤ 0 → Xw E M d cz cs (pc + 3) L S h Post) : Xw E M d cz cs pc L (.int x :: S) h Post := by
  intro p l e R s m args below meth c H locs cells slots ls Q Y
  exact lv_if_le Y.1.1 Y.1.2.1 hd ht (fun q => kt q p l e R s m args below meth c H locs cells slots ls Q Y) (fun q => kf q p l e R s m args below meth c H locs cells slots ls Q Y)
theorem x_icmp_le {E : th_E} {M : th_M} {d cz cs pc : Nat} {L : List (Option Value)} {S : List Value} {h : th_H} {Post : Option Value → th_H → Prop} {x y : Int32} {off : Int} {tgt : Nat} (hd : decode M.2.1 pc = .ok (.if_icmp .le off, 3)) (ht : (pc : Int) + off = (tgt : Int)) (kt : x ≤ y → Xw E M d cz cs tgt L S h Post) (kf : ¬ x ≤ y → Xw E M d cz cs (pc + 3) L S h Post) : Xw E M d cz cs pc L (.int y :: .int x :: S) h Post := by
  intro p l e R s m args below meth c H locs cells slots ls Q Y
  exact lv_icmp_le Y.1.1 Y.1.2.1 hd ht (fun q => kt q p l e R s m args below meth c H locs cells slots ls Q Y) (fun q => kf q p l e R s m args below meth c H locs cells slots ls Q Y)
theorem x_goto {E : th_E} {M : th_M} {d cz cs pc : Nat} {L : List (Option Value)} {S : List Value} {h : th_H} {Post : Option Value → th_H → Prop} {off : Int} {tgt : Nat} (hd : decode M.2.1 pc = .ok (.goto off, 3)) (ht : (pc : Int) + off = (tgt : Int)) (kk : Xw E M d cz cs tgt L S h Post) : Xw E M d cz cs pc L S h Post := by
  intro p l e R s m args below meth c H locs cells slots ls Q Y
  exact lv_goto Y.1.1 Y.1.2.1 hd ht (kk p l e R s m args below meth c H locs cells slots ls Q Y)
theorem x_ifnull {E : th_E} {M : th_M} {d cz cs pc : Nat} {L : List (Option Value)} {S : List Value} {h : th_H} {Post : Option Value → th_H → Prop} {x : Nat} {off : Int} (hd : decode M.2.1 pc = .ok (.ifnull off, 3)) (kk : Xw E M d cz cs (pc + 3) L S h Post) : Xw E M d cz cs pc L (.ref x :: S) h Post := by
  intro p l e R s m args below meth c H locs cells slots ls Q Y
  exact lv_ifnull Y.1.1 Y.1.2.1 hd (kk p l e R s m args below meth c H locs cells slots ls Q Y)
theorem x_ifnullN {E : th_E} {M : th_M} {d cz cs pc : Nat} {L : List (Option Value)} {S : List Value} {h : th_H} {Post : Option Value → th_H → Prop} {off : Int} {tgt : Nat} (hd : decode M.2.1 pc = .ok (.ifnull off, 3)) (ht : (pc : Int) + off = (tgt : Int)) (kk : Xw E M d cz cs tgt L S h Post) : Xw E M d cz cs pc L (.null :: S) h Post := by
  intro p l e R s m args below meth c H locs cells slots ls Q Y
  exact lv_ifnullN Y.1.1 Y.1.2.1 hd ht (kk p l e R s m args below meth c H locs cells slots ls Q Y)
theorem x_ifnonnull {E : th_E} {M : th_M} {d cz cs pc : Nat} {L : List (Option Value)} {S : List Value} {h : th_H} {Post : Option Value → th_H → Prop} {x : Nat} {off : Int} {tgt : Nat} (hd : decode M.2.1 pc = .ok (.ifnonnull off, 3)) (ht : (pc : Int) + off = (tgt : Int)) (kk : Xw E M d cz cs tgt L S h Post) : Xw E M d cz cs pc L (.ref x :: S) h Post := by
  intro p l e R s m args below meth c H locs cells slots ls Q Y
  exact lv_ifnonnull Y.1.1 Y.1.2.1 hd ht (kk p l e R s m args below meth c H locs cells slots ls Q Y)
theorem x_ifnonnullN {E : th_E} {M : th_M} {d cz cs pc : Nat} {L : List (Option Value)} {S : List Value} {h : th_H} {Post : Option Value → th_H → Prop} {off : Int} (hd : decode M.2.1 pc = .ok (.ifnonnull off, 3)) (kk : Xw E M d cz cs (pc + 3) L S h Post) : Xw E M d cz cs pc L (.null :: S) h Post := by
  intro p l e R s m args below meth c H locs cells slots ls Q Y
  exact lv_ifnonnullN Y.1.1 Y.1.2.1 hd (kk p l e R s m args below meth c H locs cells slots ls Q Y)
theorem x_acmp_eq {E : th_E} {M : th_M} {d cz cs pc : Nat} {L : List (Option Value)} {S : List Value} {h : th_H} {Post : Option Value → th_H → Prop} {x y : Nat} {off : Int} {tgt : Nat} (hd : decode M.2.1 pc = .ok (.if_acmp .eq off, 3)) (ht : (pc : Int) + off = (tgt : Int)) (kt : x = y → Xw E M d cz cs tgt L S h Post) (kf : ¬ x = y → Xw E M d cz cs (pc + 3) L S h Post) : Xw E M d cz cs pc L (.ref y :: .ref x :: S) h Post := by
  intro p l e R s m args below meth c H locs cells slots ls Q Y
  exact lv_acmp_eq (rx := some x) (ry := some y) Y.1.1 Y.1.2.1 hd ht (fun q => kt (by simpa using q) p l e R s m args below meth c H locs cells slots ls Q Y) (fun q => kf (by simpa using q) p l e R s m args below meth c H locs cells slots ls Q Y)
theorem x_acmp_ne {E : th_E} {M : th_M} {d cz cs pc : Nat} {L : List (Option Value)} {S : List Value} {h : th_H} {Post : Option Value → th_H → Prop} {x y : Nat} {off : Int} {tgt : Nat} (hd : decode M.2.1 pc = .ok (.if_acmp .ne off, 3)) (ht : (pc : Int) + off = (tgt : Int)) (kt : ¬ x = y → Xw E M d cz cs tgt L S h Post) (kf : x = y → Xw E M d cz cs (pc + 3) L S h Post) : Xw E M d cz cs pc L (.ref y :: .ref x :: S) h Post := by
  intro p l e R s m args below meth c H locs cells slots ls Q Y
  exact lv_acmp_ne (rx := some x) (ry := some y) Y.1.1 Y.1.2.1 hd ht (fun q => kt (by simpa using q) p l e R s m args below meth c H locs cells slots ls Q Y) (fun q => kf (by simpa using q) p l e R s m args below meth c H locs cells slots ls Q Y)
theorem x_tableOut {E : th_E} {M : th_M} {d cz cs pc : Nat} {L : List (Option Value)} {S : List Value} {h : th_H} {Post : Option Value → th_H → Prop} {df lo hi : Int} {offs : Array Int} {len tgt : Nat} {x : Int32} (hd : decode M.2.1 pc = .ok (.tableswitch df lo hi offs, len)) (hx : x.toInt < lo ∨ hi < x.toInt) (ht : (pc : Int) + df = (tgt : Int)) (kk : Xw E M d cz cs tgt L S h Post) : Xw E M d cz cs pc L (.int x :: S) h Post := by
  intro p l e R s m args below meth c H locs cells slots ls Q Y
  exact lv_tableOut Y.1.1 Y.1.2.1 hd hx ht (kk p l e R s m args below meth c H locs cells slots ls Q Y)
theorem x_tableIn {E : th_E} {M : th_M} {d cz cs pc : Nat} {L : List (Option Value)} {S : List Value} {h : th_H} {Post : Option Value → th_H → Prop} {df lo hi : Int} {offs : Array Int} {len tgt : Nat} {x : Int32} {off : Int} (hd : decode M.2.1 pc = .ok (.tableswitch df lo hi offs, len)) (h1 : ¬ x.toInt < lo) (h2 : ¬ hi < x.toInt) (ho : offs[(x.toInt - lo).toNat]? = some off) (ht : (pc : Int) + off = (tgt : Int)) (kk : Xw E M d cz cs tgt L S h Post) : Xw E M d cz cs pc L (.int x :: S) h Post := by
  intro p l e R s m args below meth c H locs cells slots ls Q Y
  exact lv_tableIn Y.1.1 Y.1.2.1 hd h1 h2 ho ht (kk p l e R s m args below meth c H locs cells slots ls Q Y)
theorem x_lookup {E : th_E} {M : th_M} {d cz cs pc : Nat} {L : List (Option Value)} {S : List Value} {h : th_H} {Post : Option Value → th_H → Prop} {df : Int} {ps : Array (Int × Int)} {len tgt : Nat} {x : Int32} {off : Int} (hd : decode M.2.1 pc = .ok (.lookupswitch df ps, len)) (hp : (ps.toList.zip (ps.toList.drop 1)).all (fun (a, next) => a.1 < next.1) = true) (ho : Op.lookupswitch.offset ps.toList df x.toInt = off) (ht : (pc : Int) + off = (tgt : Int)) (kk : Xw E M d cz cs tgt L S h Post) : Xw E M d cz cs pc L (.int x :: S) h Post := by
  intro p l e R s m args below meth c H locs cells slots ls Q Y
  exact lv_lookup Y.1.1 Y.1.2.1 hd hp ho ht (kk p l e R s m args below meth c H locs cells slots ls Q Y)
end
section
/-! Rules of Xw: fields, arrays, new cells, static fields, calls, answers. -/
def th_ok (ci : Nat) (C : String) (T : u_T) (N : Nat) (ty : Nat → FieldType) : Prop := classes[ci]? = some (C, T, N) ∧ (∀ w ∈ u_ws C T N, w ∈ th_tb) ∧ (∀ k, k < N → parseFieldDescriptor (T k).2.2.1 = some (ty k)) ∧ ∀ a, a < N → ∀ b, b < N → a ≠ b → (T a).2.1 ≠ (T b).2.1
/-- a field that the constant pool of own names at idx: class ci, place k -/
def th_lf (own : String) (idx ci k : Nat) : Prop := ∃ (C : String) (T : u_T) (N : Nat) (ty : Nat → FieldType), th_ok ci C T N ty ∧ k < N ∧ Jvm.Cond.fieldLink own idx (T k).1 (T k).2.1 (T k).2.2.1 ∈ th_tb
def th_lfN (own : String) (idx ci k : Nat) : Prop := ∃ (C : String) (T : u_T) (N : Nat) (ty : Nat → FieldType) (host : String), th_ok ci C T N ty ∧ k < N ∧ Jvm.Cond.fieldLinkNest own idx (T k).1 (T k).2.1 (T k).2.2.1 host ∈ lw_tbl
def th_fit (tc : Nat) (v : Value) : Prop := match tc with
  | 0 => ∃ x : Int32, v = .int x
  | 1 => v = .null ∨ ∃ a : Nat, v = .ref a
  | _ => v = .int 0 ∨ v = .int 1
def th_fty (tc : Nat) (ty : FieldType) : Prop := ∀ v : Value, th_fit tc v → narrow ty v = v ∧ fits ty v = true
theorem th_fty_i : th_fty 0 .int := by
  intro v h
  obtain ⟨x, rfl⟩ := h
  exact ⟨rfl, rfl⟩
theorem th_fty_o (C : String) : th_fty 1 (.object C) := by
  intro v h
  rcases h with rfl | ⟨a, rfl⟩ <;> exact ⟨rfl, rfl⟩
theorem th_fty_a (t : FieldType) : th_fty 1 (.array t) := by
  intro v h
  rcases h with rfl | ⟨a, rfl⟩ <;> exact ⟨rfl, rfl⟩
theorem th_fty_b : th_fty 2 .boolean := by
  intro v h
  rcases h with rfl | rfl <;> exact ⟨rfl, rfl⟩
/-- the same, of a field that is written: tc says what fits (0 ints, 1 references, 2 booleans) -/
def th_lp (own : String) (idx ci k tc : Nat) : Prop := ∃ (C : String) (T : u_T) (N : Nat) (ty : Nat → FieldType), th_ok ci C T N ty ∧ k < N ∧ Jvm.Cond.fieldLink own idx (T k).1 (T k).2.1 (T k).2.2.1 ∈ th_tb ∧ (T k).2.2.2 = false ∧ th_fty tc (ty k)
def th_lpN (own : String) (idx ci k tc : Nat) : Prop := ∃ (C : String) (T : u_T) (N : Nat) (ty : Nat → FieldType) (host : String), th_ok ci C T N ty ∧ k < N ∧ Jvm.Cond.fieldLinkNest own idx (T k).1 (T k).2.1 (T k).2.2.1 host ∈ lw_tbl ∧ (T k).2.2.2 = false ∧ th_fty tc (ty k)
def th_lpF (own : String) (idx ci k tc : Nat) : Prop := ∃ (C : String) (T : u_T) (N : Nat) (ty : Nat → FieldType), th_ok ci C T N ty ∧ k < N ∧ Jvm.Cond.fieldLink own idx (T k).1 (T k).2.1 (T k).2.2.1 ∈ th_tb ∧ (T k).2.2.2 = true ∧ (T k).1 = own ∧ th_fty tc (ty k)
def th_ln (own : String) (idx ci N : Nat) (dv : Nat → Value) : Prop := ∃ (C : String) (T : u_T) (ty : Nat → FieldType), th_ok ci C T N ty ∧ Jvm.Cond.classLink own idx C ∈ th_tb ∧ Jvm.Cond.instantiable C N ∈ th_tb ∧ Jvm.Cond.initialized C ∈ th_tb ∧ ∀ j, j < N → defaultValue (ty j) = dv j
section THR
variable {E : th_E} {M : th_M} {d cz cs pc : Nat} {L : List (Option Value)} {S : List Value} {h : th_H} {Post : Option Value → th_H → Prop}
theorem x_getf {idx ci k a : Nat} {v : Value} (hd : decode M.2.1 pc = .ok (.getfield idx, 3)) (lk : th_lf M.1.cls idx ci k) (ha : gk h a = some (.inl ci)) (hv : gF h ci k a = v) (kk : Xw E M d cz cs (pc + 3) L (v :: S) h Post) : Xw E M d cz cs pc L (.ref a :: S) h Post := by
  intro p l e R s m args below meth c H locs cells slots ls Q Y
  have k1 := kk p l e R s m args below meth c H locs cells slots ls Q Y
  obtain ⟨⟨hx, hb, hml, hown, hts, hr, hlk, hnm0, hC, hZ⟩, hP, hS, hL, hf, hcs, hQ⟩ := Y
  obtain ⟨C, T, N, ty, ⟨hc, hin, hty, hnm⟩, hkN, hl⟩ := lk
  obtain ⟨-, r, h1, cell, q1, q2, q3, q4⟩ := hP.2 a _ ha
  have hr : r = (C, T, N) := Option.some.inj (h1.symm.trans hc)
  subst hr
  obtain ⟨hSl, hfc, kC, hkC, hkind⟩ := hC.1.1 ci _ hc
  obtain ⟨cf, kf, fi, f, hi, hsl⟩ := hSl k hkN
  refine W.getf hx hb hown (hts _ hl) hi (u_facts hfc hkC (u_lays hts hin hkN) hi).1 q1 (by rw [q3]; exact fun h => by cases h) (v := v) ?_ rfl rfl hd k1
  rw [hsl]
  exact (q4 k hkN).trans (congrArg some hv)
theorem x_getfN {idx ci k a : Nat} {v : Value} (hd : decode M.2.1 pc = .ok (.getfield idx, 3)) (lk : th_lfN M.1.cls idx ci k) (ha : gk h a = some (.inl ci)) (hv : gF h ci k a = v) (kk : Xw E M d cz cs (pc + 3) L (v :: S) h Post) : Xw E M d cz cs pc L (.ref a :: S) h Post := by
  intro p l e R s m args below meth c H locs cells slots ls Q Y
  have k1 := kk p l e R s m args below meth c H locs cells slots ls Q Y
  obtain ⟨⟨hx, hb, hml, hown, hts, hr, hlk, hnm0, hC, hZ⟩, hP, hS, hL, hf, hcs, hQ⟩ := Y
  obtain ⟨C, T, N, ty, host, ⟨hc, hin, hty, hnm⟩, hkN, hl⟩ := lk
  obtain ⟨-, r, h1, cell, q1, q2, q3, q4⟩ := hP.2 a _ ha
  have hr : r = (C, T, N) := Option.some.inj (h1.symm.trans hc)
  subst hr
  obtain ⟨hSl, hfc, kC, hkC, hkind⟩ := hC.1.1 ci _ hc
  obtain ⟨cf, kf, fi, f, hi, hsl⟩ := hSl k hkN
  refine va_Wgetf hx hb hown (va_Nw.use rfl (hC.2.1 _ _ _ _ _ _ hl)) hi (u_facts hfc hkC (u_lays hts hin hkN) hi).1 q1 (by rw [q3]; exact fun h => by cases h) (v := v) ?_ rfl rfl hd k1
  rw [hsl]
  exact (q4 k hkN).trans (congrArg some hv)
theorem x_putf {idx ci k tc a : Nat} {v : Value} (hd : decode M.2.1 pc = .ok (.putfield idx, 3)) (lk : th_lp M.1.cls idx ci k tc) (ha : gk h a = some (.inl ci)) (hv : th_fit tc v) (kk : Xw E M d cz cs (pc + 3) L S (gpF h ci k a v) Post) : Xw E M d cz cs pc L (v :: .ref a :: S) h Post := by
  intro p l e R s m args below meth c H locs cells slots ls Q Y
  obtain ⟨hX, hP, hS, hL, hf, hcs, hQ⟩ := Y
  have hX2 := hX
  obtain ⟨hx, hb, hml, hown, hts, hr, hlk, hnm0, hC, hZ⟩ := hX
  obtain ⟨C, T, N, ty, ⟨hc, hin, hty, hnm⟩, hkN, hl, hfin, hfit⟩ := lk
  have hap := va_apart (own := M.1.cls) hts hin ty hty hnm hC.1 hc
  obtain ⟨hB, r, h1, cell, q1, q2, q3, q4⟩ := hP.2 a _ ha
  have hr : r = (C, T, N) := Option.some.inj (h1.symm.trans hc)
  subst hr
  obtain ⟨hSl, hfc, kC, hkC, hkind⟩ := hC.1.1 ci _ hc
  obtain ⟨cf, kf, fi, f, hi, hsl⟩ := hSl k hkN
  have hlay := hts _ (hin _ (u_in_lay hkN))
  unfold u_lay at hlay
  rw [if_neg (by rw [hfin]; decide)] at hlay
  have hst := (u_facts hfc hkC (u_lays hts hin hkN) hi).1
  have h6 := u_store hfc hkC hkind hlay hi (hty k hkN) (hfit v hv).1 (hfit v hv).2
  refine W.putK hx hb (f := f) ⟨hown, hts _ hl, ⟨_, _, _, hi⟩, hst⟩ (by rw [q2]; exact h6) q1 q3 (by rw [hsl]; exact k2_hasslot (q4 k hkN)) rfl rfl hd fun H' e1 e2 e3 => ?_
  rw [hsl] at e1
  exact kk p l e R s m args below meth c H' _ cells slots ls Q ⟨hX2, hP.putF ha e2 e3 _ hc ⟨_, e1, q2, q3, t_set q4 hap hkN v⟩, hS.put e2 e3 hB, hL, hf, hcs, hQ⟩
theorem x_putfN {idx ci k tc a : Nat} {v : Value} (hd : decode M.2.1 pc = .ok (.putfield idx, 3)) (lk : th_lpN M.1.cls idx ci k tc) (ha : gk h a = some (.inl ci)) (hv : th_fit tc v) (kk : Xw E M d cz cs (pc + 3) L S (gpF h ci k a v) Post) : Xw E M d cz cs pc L (v :: .ref a :: S) h Post := by
  intro p l e R s m args below meth c H locs cells slots ls Q Y
  obtain ⟨hX, hP, hS, hL, hf, hcs, hQ⟩ := Y
  have hX2 := hX
  obtain ⟨hx, hb, hml, hown, hts, hr, hlk, hnm0, hC, hZ⟩ := hX
  obtain ⟨C, T, N, ty, host, ⟨hc, hin, hty, hnm⟩, hkN, hl, hfin, hfit⟩ := lk
  have hap := va_apart (own := M.1.cls) hts hin ty hty hnm hC.1 hc
  obtain ⟨hB, r, h1, cell, q1, q2, q3, q4⟩ := hP.2 a _ ha
  have hr : r = (C, T, N) := Option.some.inj (h1.symm.trans hc)
  subst hr
  obtain ⟨hSl, hfc, kC, hkC, hkind⟩ := hC.1.1 ci _ hc
  obtain ⟨cf, kf, fi, f, hi, hsl⟩ := hSl k hkN
  have hlay := hts _ (hin _ (u_in_lay hkN))
  unfold u_lay at hlay
  rw [if_neg (by rw [hfin]; decide)] at hlay
  have hst := (u_facts hfc hkC (u_lays hts hin hkN) hi).1
  have h6 := u_store hfc hkC hkind hlay hi (hty k hkN) (hfit v hv).1 (hfit v hv).2
  refine va_WputK hx hb (f := f) hown (va_Nw.use rfl (hC.2.1 _ _ _ _ _ _ hl)) hi hst (by rw [q2]; exact h6) q1 q3 (by rw [hsl]; exact k2_hasslot (q4 k hkN)) rfl rfl hd fun H' e1 e2 e3 => ?_
  rw [hsl] at e1
  exact kk p l e R s m args below meth c H' _ cells slots ls Q ⟨hX2, hP.putF ha e2 e3 _ hc ⟨_, e1, q2, q3, t_set q4 hap hkN v⟩, hS.put e2 e3 hB, hL, hf, hcs, hQ⟩
theorem x_putfF {idx ci k tc a : Nat} {v : Value} (hd : decode M.2.1 pc = .ok (.putfield idx, 3)) (hi0 : M.1.name = "<init>") (lk : th_lpF M.1.cls idx ci k tc) (ha : gk h a = some (.inl ci)) (hv : th_fit tc v) (kk : Xw E M d cz cs (pc + 3) L S (gpF h ci k a v) Post) : Xw E M d cz cs pc L (v :: .ref a :: S) h Post := by
  intro p l e R s m args below meth c H locs cells slots ls Q Y
  obtain ⟨hX, hP, hS, hL, hf, hcs, hQ⟩ := Y
  have hX2 := hX
  obtain ⟨hx, hb, hml, hown, hts, hr, hlk, hnm0, hC, hZ⟩ := hX
  obtain ⟨C, T, N, ty, ⟨hc, hin, hty, hnm⟩, hkN, hl, hfin, hdecl, hfit⟩ := lk
  have hap := va_apart (own := M.1.cls) hts hin ty hty hnm hC.1 hc
  obtain ⟨hB, r, h1, cell, q1, q2, q3, q4⟩ := hP.2 a _ ha
  have hr : r = (C, T, N) := Option.some.inj (h1.symm.trans hc)
  subst hr
  obtain ⟨hSl, hfc, kC, hkC, hkind⟩ := hC.1.1 ci _ hc
  obtain ⟨cf, kf, fi, f, hi, hsl⟩ := hSl k hkN
  have hlay := hts _ (hin _ (u_in_lay hkN))
  unfold u_lay at hlay
  rw [if_pos hfin] at hlay
  have hst := (u_facts hfc hkC (u_lays hts hin hkN) hi).1
  have hcf : m.cls = cf := by
    obtain ⟨_, _, c', _, _, _, -, -, hf', -, -, -, hown2, -⟩ := Cond.laysFinal_spec hlay
    have e1 : c' = cf := by have := hi.symm.trans hf'; simp at this; exact this.1.symm
    rw [hdecl] at hown2
    rw [← e1]; exact Option.some.inj (hown.symm.trans hown2)
  have h6 := u_fits hfc hkC hkind (Or.inr hlay) hi (hty k hkN) (hfit v hv).1 (hfit v hv).2
  refine W.putFinK hx hb hown (hts _ hl) hi hst hcf (hnm0.trans hi0) (by rw [q2]; exact h6) q1 q3 (by rw [hsl]; exact k2_hasslot (q4 k hkN)) rfl rfl hd fun H' e1 e2 e3 => ?_
  rw [hsl] at e1
  exact kk p l e R s m args below meth c H' _ cells slots ls Q ⟨hX2, hP.putF ha e2 e3 _ hc ⟨_, e1, q2, q3, t_set q4 hap hkN v⟩, hS.put e2 e3 hB, hL, hf, hcs, hQ⟩
theorem x_new {idx ci N : Nat} {dv : Nat → Value} {cz' cs' : Nat} (hd : decode M.2.1 pc = .ok (.new idx, 3)) (lk : th_ln M.1.cls idx ci N dv) (hz1 : cz' + 1 ≤ cz) (hs1 : cs' + N ≤ cs) (kk : Xw E M d cz' cs' (pc + 3) L (.ref (gz h) :: S) (gnO h ci dv) Post) : Xw E M d cz cs pc L S h Post := by
  intro p l e R s m args below meth c H locs cells slots ls Q Y
  obtain ⟨hX, hP, hS, hL, hf, ⟨hc1, hc2⟩, hQ⟩ := Y
  have hX2 := hX
  obtain ⟨hx, hb, hml, hown, hts, hr, hlk, hnm0, hC, hZ⟩ := hX
  obtain ⟨C, T, ty, ⟨hc, hin, hty, hnm⟩, hcl, hins, hini, hdv⟩ := lk
  have hKn := hC.1.1 ci _ hc
  have hsz := hP.1.1
  refine W.newcK hx hb hown (hts _ hcl) (hts _ hins) (hts _ hini) rfl hd (by omega) (by omega) hKn.2.1 hsz fun H1 kC hkC e1 z1 o1 => ?_
  refine kk p l e R s m args below meth c H1 locs (cells + 1) (slots + N) ls Q ⟨hX2, hP.newO (by rw [z1, hsz]) (fun b hb => o1 b (by rw [← hsz]; exact hb)) _ hc ?_, ⟨Nat.le_trans hS.1 (by rw [z1, hsz]; omega), fun x h1 h2 => (o1 x (by rw [← hsz]; exact Nat.lt_of_lt_of_le h1 hS.1)).trans (hS.2.1 x h1 h2), hS.2.2⟩, hL, hf, ⟨by omega, by omega⟩, hQ⟩
  rw [hsz]
  exact (u_born ty hts hin hKn hkC e1 hty).to hdv
theorem x_newi {n : Int32} {N cz' cs' : Nat} (hd : decode M.2.1 pc = .ok (.newarray .int, 2)) (hw : Jvm.Cond.arrayClass .int ∈ th_tb) (hty : th_tys[1]? = some .int) (hn : ¬ n < 0) (hN : n.toNatClampNeg = N) (hb4 : N ≤ 100000) (hz1 : cz' + 1 ≤ cz) (hs1 : cs' + N ≤ cs) (kk : Xw E M d cz' cs' (pc + 2) L (.ref (gz h) :: S) (gnA h 1 N (.int 0)) Post) : Xw E M d cz cs pc L (.int n :: S) h Post := by
  intro p l e R s m args below meth c H locs cells slots ls Q Y
  obtain ⟨hX, hP, hS, hL, hf, ⟨hc1, hc2⟩, hQ⟩ := Y
  have hX2 := hX
  obtain ⟨hx, hb, hml, hown, hts, hr, hlk, hnm0, hC, hZ⟩ := hX
  have hsz := hP.1.1
  refine va_newaK (atype := .int) hx hb (hts _ hw) rfl hd rfl hn hN (by show N * 4 ≤ _; omega) (by omega) (by omega) hsz fun H1 cA e1 z1 o1 hAr hNm => ?_
  have hRA : s.vm.findClass ("[" ++ FieldType.int.toString) = some (E.2.2.1 1) := (hC.1.2 1 _ (th_ty_at hty)).2
  have hcA : cA = E.2.2.1 1 := Option.some.inj (hNm.symm.trans hRA)
  subst hcA
  exact kk p l e R s m args below meth c H1 locs (cells + 1) (slots + N) ls Q ⟨hX2, hP.newA (t := 0) (by rw [z1, hsz]) (fun b hb => o1 b (by rw [← hsz]; exact hb)) (by rw [hsz]; exact e1), ⟨Nat.le_trans hS.1 (by rw [z1, hsz]; omega), fun x h1 h2 => (o1 x (by rw [← hsz]; exact Nat.lt_of_lt_of_le h1 hS.1)).trans (hS.2.1 x h1 h2), hS.2.2⟩, hL, hf, ⟨by omega, by omega⟩, hQ⟩
theorem x_anew {idx t : Nat} {C : String} {n : Int32} {N cz' cs' : Nat} (hd : decode M.2.1 pc = .ok (.anewarray idx, 3)) (hcl : Jvm.Cond.classLink M.1.cls idx C ∈ th_tb) (hao : Jvm.Cond.arrayOver (.object C) ∈ lw_tbl) (hty : th_tys[t + 1]? = some (.object C)) (hn : ¬ n < 0) (hN : n.toNatClampNeg = N) (hb4 : N ≤ 100000) (hz1 : cz' + 1 ≤ cz) (hs1 : cs' + N ≤ cs) (kk : Xw E M d cz' cs' (pc + 3) L (.ref (gz h) :: S) (gnA h (t + 1) N .null) Post) : Xw E M d cz cs pc L (.int n :: S) h Post := by
  intro p l e R s m args below meth c H locs cells slots ls Q Y
  obtain ⟨hX, hP, hS, hL, hf, ⟨hc1, hc2⟩, hQ⟩ := Y
  have hX2 := hX
  obtain ⟨hx, hb, hml, hown, hts, hr, hlk, hnm0, hC, hZ⟩ := hX
  have hsz := hP.1.1
  subst hN
  refine W.anew hx hb hown (hts _ hcl) (hC.2.2.2 C hao).use rfl hd rfl hn (by omega) (by omega) (by omega) fun cA kA comp g1 g2 g3 g4 => ?_
  obtain ⟨kA', comp', r1, r2, r3, r4⟩ := (hC.1.2 (t + 1) _ (th_ty_at hty)).2
  have hcA : cA = E.2.2.1 (t + 1) := Option.some.inj (g1.symm.trans r4)
  subst hcA
  rw [arrV_new]
  have o1 : ∀ b : Nat, b < H.size → (H.push (arrV (E.2.2.1 (t + 1)) n.toNatClampNeg (fun _ => .null)))[b]? = H[b]? := fun b hb => by rw [Array.getElem?_push, if_neg (Nat.ne_of_lt hb)]
  rw [show H.size = gz h from hsz]
  exact kk p l e R s m args below meth c _ locs (cells + 1) (slots + n.toNatClampNeg) ls Q ⟨hX2, hP.newA (by simp) o1 (by simp), ⟨Nat.le_trans hS.1 (by simp), fun x h1 h2 => (o1 x (Nat.lt_of_lt_of_le h1 hS.1)).trans (hS.2.1 x h1 h2), hS.2.2⟩, hL, hf, ⟨by omega, by omega⟩, hQ⟩
theorem x_iald {t n a : Nat} {i : Int32} {v : Value} (hd : decode M.2.1 pc = .ok (.iaload, 1)) (ha : gk h a = some (.inr (t, n))) (hty : th_tys[t]? = some .int) (hin : vp_in i n) (hv : gA h t a i.toNatClampNeg = v) (kk : Xw E M d cz cs (pc + 1) L (v :: S) h Post) : Xw E M d cz cs pc L (.int i :: .ref a :: S) h Post := by
  intro p l e R s m args below meth c H locs cells slots ls Q Y
  have k1 := kk p l e R s m args below meth c H locs cells slots ls Q Y
  obtain ⟨⟨hx, hb, hml, hown, hts, hr, hlk, hnm0, hC, hZ⟩, hP, hS, hL, hf, hcs, hQ⟩ := Y
  have hlt : i.toNatClampNeg < n := Nat.not_le.mp fun q => hin (Or.inr q)
  have hq := hP.2 a _ ha
  match t, hq, hty, hv with
  | 0, ⟨scr, q1, q2, q3, q4, q5⟩, _, hv => exact W.iald (v := v) hx hb q1 q2 q3 (by rw [q4]; exact hin) ((q5 _ hlt).trans (congrArg some hv)) rfl rfl hd k1
  | t + 1, ⟨_, q1⟩, hty, hv => exact W.iald (v := v) hx hb q1 ((hC.1.2 (t + 1) _ (th_ty_at hty)).1 n _) (fun q => by cases q) (by rw [arrV_size]; exact hin) ((arrV_read _ _ hlt).trans (congrArg some hv)) rfl rfl hd k1
theorem x_aald {t n a : Nat} {C : String} {i : Int32} {v : Value} (hd : decode M.2.1 pc = .ok (.aaload, 1)) (ha : gk h a = some (.inr (t + 1, n))) (hty : th_tys[t + 1]? = some (.object C)) (hin : vp_in i n) (hv : gA h (t + 1) a i.toNatClampNeg = v) (kk : Xw E M d cz cs (pc + 1) L (v :: S) h Post) : Xw E M d cz cs pc L (.int i :: .ref a :: S) h Post := by
  intro p l e R s m args below meth c H locs cells slots ls Q Y
  have k1 := kk p l e R s m args below meth c H locs cells slots ls Q Y
  obtain ⟨⟨hx, hb, hml, hown, hts, hr, hlk, hnm0, hC, hZ⟩, hP, hS, hL, hf, hcs, hQ⟩ := Y
  have hlt : i.toNatClampNeg < n := Nat.not_le.mp fun q => hin (Or.inr q)
  obtain ⟨-, q1⟩ := hP.2 a _ ha
  exact W.aald (v := v) (ty := .object C) hx hb q1 ((hC.1.2 (t + 1) _ (th_ty_at hty)).1 n _) rfl (fun q => by cases q) (by rw [arrV_size]; exact hin) ((arrV_read _ _ hlt).trans (congrArg some hv)) rfl rfl hd k1
theorem x_alen {t n a : Nat} {ty : FieldType} {v : Int32} (hd : decode M.2.1 pc = .ok (.arraylength, 1)) (ha : gk h a = some (.inr (t, n))) (hty : th_tys[t]? = some ty) (hv : Int32.ofNat n = v) (kk : Xw E M d cz cs (pc + 1) L (.int v :: S) h Post) : Xw E M d cz cs pc L (.ref a :: S) h Post := by
  intro p l e R s m args below meth c H locs cells slots ls Q Y
  have k1 := kk p l e R s m args below meth c H locs cells slots ls Q Y
  obtain ⟨⟨hx, hb, hml, hown, hts, hr, hlk, hnm0, hC, hZ⟩, hP, hS, hL, hf, hcs, hQ⟩ := Y
  subst hv
  have hq := hP.2 a _ ha
  match t, hq, hty with
  | 0, ⟨scr, q1, q2, q3, q4, q5⟩, _ => exact W.alen (n := Int32.ofNat n) hx hb q1 q2 (by rw [q4] <;> rfl) rfl rfl hd k1
  | t + 1, ⟨_, q1⟩, hty => exact W.alen (n := Int32.ofNat n) hx hb q1 ((hC.1.2 (t + 1) _ (th_ty_at hty)).1 n _) (by rw [arrV_size] <;> rfl) rfl rfl hd k1
theorem x_iast {t n a : Nat} {i x : Int32} (hd : decode M.2.1 pc = .ok (.iastore, 1)) (ha : gk h a = some (.inr (t + 1, n))) (hty : th_tys[t + 1]? = some .int) (hin : vp_in i n) (kk : Xw E M d cz cs (pc + 1) L S (gpA h (t + 1) a i.toNatClampNeg (.int x)) Post) : Xw E M d cz cs pc L (.int x :: .int i :: .ref a :: S) h Post := by
  intro p l e R s m args below meth c H locs cells slots ls Q Y
  obtain ⟨hX, hP, hS, hL, hf, hcs, hQ⟩ := Y
  have hX2 := hX
  obtain ⟨hx, hb, hml, hown, hts, hr, hlk, hnm0, hC, hZ⟩ := hX
  obtain ⟨hB, q1⟩ := hP.2 a _ ha
  refine W.iast hx hb q1 ((hC.1.2 (t + 1) _ (th_ty_at hty)).1 n _) (fun q => by cases q) (by rw [arrV_size]; exact hin) rfl rfl hd fun H1 e1 z oq => ?_
  exact kk p l e R s m args below meth c H1 _ cells slots ls Q ⟨hX2, hP.putA ha z oq e1, hS.put z oq hB, hL, hf, hcs, hQ⟩
theorem x_aast {t n a b ci N : Nat} {C : String} {T : u_T} {i : Int32} (hd : decode M.2.1 pc = .ok (.aastore, 1)) (ha : gk h a = some (.inr (t + 1, n))) (hty : th_tys[t + 1]? = some (.object C)) (hbk : gk h b = some (.inl ci)) (hcl : classes[ci]? = some (C, T, N)) (hin : vp_in i n) (kk : Xw E M d cz cs (pc + 1) L S (gpA h (t + 1) a i.toNatClampNeg (.ref b)) Post) : Xw E M d cz cs pc L (.ref b :: .int i :: .ref a :: S) h Post := by
  intro p l e R s m args below meth c H locs cells slots ls Q Y
  obtain ⟨hX, hP, hS, hL, hf, hcs, hQ⟩ := Y
  have hX2 := hX
  obtain ⟨hx, hb, hml, hown, hts, hr, hlk, hnm0, hC, hZ⟩ := hX
  obtain ⟨hB, q1⟩ := hP.2 a _ ha
  have hlt : i.toNatClampNeg < n := Nat.not_le.mp fun q => hin (Or.inr q)
  have h0 : ¬ i < 0 := fun q => hin (Or.inl q)
  obtain ⟨-, r', hr', cellV, g1, g2, g3, -⟩ := hP.2 b _ hbk
  have hcls := (hC.1.1 ci _ hcl).2
  obtain ⟨kA, comp, k1, k2, k3, -⟩ := (hC.1.2 (t + 1) _ (th_ty_at hty)).2
  have hcomp : comp = E.1 ci := Option.some.inj (k3.symm.trans hcls.1)
  subst hcomp
  have hcls2 := hcls
  obtain ⟨-, kC, hkC, -⟩ := hcls
  refine W.aast hx hb q1 (fun q h => by cases h) (fun h => by cases h) k1 k2 rfl hkC ⟨h0, by rw [arrV_size]; exact hlt⟩ g1 (fun q h => by rw [g3] at h; cases h) (by rw [g2]; exact hkC) (by rw [g2]; exact va_assign hcls2) rfl rfl hd fun H1 e1 z oq => ?_
  exact kk p l e R s m args below meth c H1 _ cells slots ls Q ⟨hX2, hP.putA ha z oq e1, hS.put z oq hB, hL, hf, hcs, hQ⟩
theorem x_gets {idx k : Nat} {C n ds : String} (hd : decode M.2.1 pc = .ok (.getstatic idx, 3)) (hq : th_sts[k]? = some (C, n, ds)) (lk : Jvm.Cond.fieldLink M.1.cls idx C n ds ∈ th_tb) (kk : Xw E M d cz cs (pc + 3) L (E.2.2.2.2 k :: S) h Post) : Xw E M d cz cs pc L S h Post := by
  intro p l e R s m args below meth c H locs cells slots ls Q Y
  have k1 := kk p l e R s m args below meth c H locs cells slots ls Q Y
  obtain ⟨⟨hx, hb, hml, hown, hts, hr, hlk, hnm0, hC, hZ⟩, hP, hS, hL, hf, hcs, hQ⟩ := Y
  exact va_gets hx hb (hZ k _ hq) hS hown (hts _ lk) (fun _ q => q) hd k1
theorem x_getsN {idx k : Nat} {C n ds host : String} (hd : decode M.2.1 pc = .ok (.getstatic idx, 3)) (hq : th_sts[k]? = some (C, n, ds)) (lk : Jvm.Cond.fieldLinkNest M.1.cls idx C n ds host ∈ lw_tbl) (kk : Xw E M d cz cs (pc + 3) L (E.2.2.2.2 k :: S) h Post) : Xw E M d cz cs pc L S h Post := by
  intro p l e R s m args below meth c H locs cells slots ls Q Y
  have k1 := kk p l e R s m args below meth c H locs cells slots ls Q Y
  obtain ⟨⟨hx, hb, hml, hown, hts, hr, hlk, hnm0, hC, hZ⟩, hP, hS, hL, hf, hcs, hQ⟩ := Y
  exact va_getsN hx hb (hZ k _ hq) hS hown (va_Nw.use rfl (hC.2.1 _ _ _ _ _ _ lk)) (fun _ q => q) hd k1
theorem x_objinit {idx a : Nat} (hd : decode M.2.1 pc = .ok (.invokespecial idx, 3)) (l1 : Jvm.Cond.methodLink M.1.cls idx Lib.objectInit ∈ th_tb) (l2 : Jvm.Cond.instanceMethod Lib.objectInit ∈ th_tb) (l3 : Jvm.Cond.code Lib.objectInit ⟨#[0xb1]⟩ 1 none ∈ th_tb) (hd1 : 1 ≤ d) (hs8 : (S.map fun v => v.category).sum ≤ 8) (kk : Xw E M d cz cs (pc + 3) L S h Post) : Xw E M d cz cs pc L (.ref a :: S) h Post := by
  intro p l e R s m args below meth c H locs cells slots ls Q Y
  have k1 := kk p l e R s m args below meth c H locs cells slots ls Q Y
  obtain ⟨⟨hx, hb, hml, hown, hts, hr, hlk, hnm0, hC, hZ⟩, hP, hS, hL, ⟨hf1, hf2⟩, hcs, hQ⟩ := Y
  obtain ⟨-, lv, hl1, -⟩ := hL
  exact W.objInit hx hb hown (hts _ l1) (hts _ l2) (hts _ l3) rfl (by rw [hml]; exact hl1.1) rfl hd (by omega) (by show 2 * 0 + _ + 12 ≤ _; omega) k1
theorem x_ret (hp : Post none h) (hM : M.2.2.2 = none) (hd : decode M.2.1 pc = .ok (.return_, 1)) : Xw E M d cz cs pc L [] h Post := by
  intro p l e R s m args below meth c H locs cells slots ls Q Y
  exact Y.2.2.2.2.2.2 none h pc ls H locs cells slots hp (Or.inl ⟨rfl, hM, hd⟩) Y.2.1 Y.2.2.1 (by have := Y.2.2.2.2.2.1.1; omega) (by have := Y.2.2.2.2.2.1.2; omega)
theorem x_iret {x : Int32} {ty : FieldType} (hd : decode M.2.1 pc = .ok (.ireturn, 1)) (hM : M.2.2.2 = some ty) (hn : narrow ty (.int x) = .int x) (hp : Post (some (.int x)) h) : Xw E M d cz cs pc L [.int x] h Post := by
  intro p l e R s m args below meth c H locs cells slots ls Q Y
  exact Y.2.2.2.2.2.2 (some (.int x)) h pc ls H locs cells slots hp (Or.inr (Or.inl ⟨x, ty, rfl, hM, hn, hd⟩)) Y.2.1 Y.2.2.1 (by have := Y.2.2.2.2.2.1.1; omega) (by have := Y.2.2.2.2.2.1.2; omega)
theorem x_aret {w : Value} {ty : FieldType} (hd : decode M.2.1 pc = .ok (.areturn, 1)) (hM : M.2.2.2 = some ty) (hty : (∃ n, ty = .object n) ∨ ∃ t, ty = .array t) (hw : w = .null ∨ ∃ a, w = .ref a) (hp : Post (some w) h) : Xw E M d cz cs pc L [w] h Post := by
  intro p l e R s m args below meth c H locs cells slots ls Q Y
  exact Y.2.2.2.2.2.2 (some w) h pc ls H locs cells slots hp (Or.inr (Or.inr ⟨w, ty, rfl, hM, hty, hw, hd⟩)) Y.2.1 Y.2.2.1 (by have := Y.2.2.2.2.2.1.1; omega) (by have := Y.2.2.2.2.2.1.2; omega)
/-- a weaker goal behind the end -/
theorem Xw.post {Post' : Option Value → th_H → Prop} {pc : Nat} (w : Xw E M d cz cs pc L S h Post) (hp : ∀ v h', Post v h' → Post' v h') : Xw E M d cz cs pc L S h Post' := by
  intro p l e R s m args below meth c H locs cells slots ls Q Y
  exact w p l e R s m args below meth c H locs cells slots ls Q ⟨Y.1, Y.2.1, Y.2.2.1, Y.2.2.2.1, Y.2.2.2.2.1, Y.2.2.2.2.2.1, fun v h' pc' ls' H' locs' cells' slots' q => Y.2.2.2.2.2.2 v h' pc' ls' H' locs' cells' slots' (hp v h' q)⟩
/-- more room -/
theorem Xw.room {d' cz' cs' pc : Nat} (w : Xw E M d' cz' cs' pc L S h Post) (h1 : d' ≤ d) (h2 : cz' ≤ cz) (h3 : cs' ≤ cs) : Xw E M d cz cs pc L S h Post := by
  intro p l e R s m args below meth c H locs cells slots ls Q Y
  obtain ⟨hX, hP, hS, hL, ⟨hf1, hf2⟩, ⟨hc1, hc2⟩, hQ⟩ := Y
  exact w p l e R s m args below meth c H locs cells slots ls Q ⟨hX, hP, hS, hL, ⟨by omega, by omega⟩, ⟨by omega, by omega⟩, hQ⟩
end THR
theorem th_blind (E : th_E) (h : th_H) (as : List Value) : FrameBlind (va_Pc as (th_S E h)) := by
  intro a U g mk q
  obtain ⟨q0, q1, q2, q3⟩ := q
  exact ⟨q0, th_P.moved (u := U) (U := U.calling g mk a) (Vm.Alike.refl U.vm) q1, th_C.same (s := U) (U := U.calling g mk a) rfl q2, fun k z hk => va_Z.moved (u := U) (U := U.calling g mk a) (Vm.Alike.refl U.vm) (q3 k z hk)⟩
theorem th_pre {E : th_E} {h : th_H} {s : State} {H : Heap} {locs : List Loc} (hP : th_P E s h H) (hC : th_C E s) (hZ : th_Z E s s.heap) (hS : va_S (th_A E) s.heap H locs) (as : List Value) : ∀ U : State, U.heap = H → s.WarmedH U.vm → va_Pc as (th_S E h) as.toArray U :=
  fun U hU hW => ⟨rfl, by rw [hU]; exact hP.moved hW.alike, hC.warm hW, fun k q hk => ((hZ k q hk).moved hW.alike).kept (fun a h1 h2 => by rw [hU]; exact hS.2.1 a h1 h2)⟩
section THC
variable {p : Program} {l : Launch} {e : Env} {R : Room} {s : State} {m : MethodId} {args : Array Value} {below : List Frame} {meth : Method} {c : Code} {H : Heap} {locs : List Loc} {cells slots : Nat} {Q : State → Prop}
theorem th_call {E : th_E} {Post' : Option Value → th_H → Prop} {a : Array Value} {mc ms pc : Nat} {ls : Array Slot} {st0 rest : List Value} (hr : va_Run p l e R s m args below meth c H locs cells slots mc ms (F0 m pc ls st0) rest (th_Qc E Post' a) (th_A E)) (hS : va_S (th_A E) s.heap H locs)
    (kk : ∀ (v : Option Value) (h' : th_H) (H1 : Heap) (locs1 : List Loc), Post' v h' → th_P E s h' H1 → va_S (th_A E) s.heap H1 locs1 → W p l e R s m args below meth c H1 locs1 (cells + mc) (slots + ms) Q (F0 m (pc + 3) ls (v.toList ++ rest))) : W p l e R s m args below meth c H locs cells slots Q (F0 m pc ls st0) := by
  intro T hT X
  obtain ⟨v, st₀, t, T', L, h0, X', hL, e1, e2, ⟨v2, h', hv, hp, hxs, hz, hk⟩, st⟩ := hr T hT X
  cases hv
  rw [h0] at hz hk
  have hal : s.vm.Alike t.vm := by rw [← e2]; exact X'.warmed.alike
  obtain ⟨t2, a1, b1⟩ := kk v h' T'.heap (locs ++ L) hp (by rw [e1]; exact hxs.1.moved hal.symm)
    ⟨Nat.le_trans hS.1 (by rw [e1]; exact hz), fun q h1 h2 => by rw [e1, hk q (Nat.lt_of_lt_of_le h1 hS.1) h2]; exact hS.2.1 q h1 h2, fun q hq => by
      rcases List.mem_append.mp hq with h | h
      · exact hS.2.2 q h
      · exact hL q h⟩ T' rfl X'
  exact ⟨t2, st t2 a1, b1⟩
end THC
/-- a method that the constant pool of own names at idx -/
def th_md (M2 : th_M) (n : Nat) : Prop := (M2.1.cls ≠ "java/lang/invoke/MethodHandle" ∧ M2.1.cls ≠ "java/lang/invoke/VarHandle" ∧ (parseMethodDescriptor M2.1.desc).map (fun d => d.parameters.length) = some n) ∧ M2.2.2.1 ≤ 45 ∧ Jvm.Cond.initialized M2.1.cls ∈ th_tb ∧ Jvm.Cond.code M2.1 M2.2.1 M2.2.2.1 M2.2.2.2 ∈ th_tb
def th_mv (own : String) (idx : Nat) (M2 : th_M) (n : Nat) : Prop := th_md M2 n ∧ Jvm.Cond.methodLink own idx M2.1 ∈ th_tb ∧ Jvm.Cond.instanceMethod M2.1 ∈ th_tb ∧ Jvm.Cond.selects M2.1.cls M2.1 M2.1 ∈ th_tb
def th_ms (own : String) (idx : Nat) (M2 : th_M) (n : Nat) : Prop := th_md M2 n ∧ Jvm.Cond.methodLink own idx M2.1 ∈ th_tb ∧ Jvm.Cond.static M2.1 ∈ th_tb
def th_mi (own : String) (idx : Nat) (M2 : th_M) (n : Nat) : Prop := th_md M2 n ∧ Jvm.Cond.methodLink own idx M2.1 ∈ th_tb ∧ Jvm.Cond.instanceMethod M2.1 ∈ th_tb ∧ M2.1.name = "<init>" ∧ M2.2.2.2 = none
def th_mvN (own : String) (idx : Nat) (M2 : th_M) (n : Nat) : Prop := th_md M2 n ∧ (∃ host, Jvm.Cond.methodLinkNest own idx M2.1 host ∈ lw_tbl) ∧ Jvm.Cond.instanceMethod M2.1 ∈ th_tb ∧ Jvm.Cond.selects M2.1.cls M2.1 M2.1 ∈ th_tb
def th_msN (own : String) (idx : Nat) (M2 : th_M) (n : Nat) : Prop := th_md M2 n ∧ (∃ host, Jvm.Cond.methodLinkNest own idx M2.1 host ∈ lw_tbl) ∧ Jvm.Cond.static M2.1 ∈ th_tb
def th_miN (own : String) (idx : Nat) (M2 : th_M) (n : Nat) : Prop := th_md M2 n ∧ (∃ host, Jvm.Cond.methodLinkNest own idx M2.1 host ∈ lw_tbl) ∧ Jvm.Cond.instanceMethod M2.1 ∈ th_tb ∧ M2.1.name = "<init>" ∧ M2.2.2.2 = none
theorem th_md.good {M2 : th_M} {n : Nat} (h : th_md M2 n) : GoodIn th_tb (th_ws M2) := by
  intro w hw
  rcases List.mem_cons.mp hw with rfl | hw
  · exact ⟨h.2.2.2, th_tb_good h.2.2.2⟩
  · exact ⟨hw, th_tb_good hw⟩
theorem th_md.callB {M2 : th_M} {n d d2 cz cs : Nat} {R : Room} {s : State} {args : Array Value} {own : String} {idx : Nat} (h : th_md M2 n) (hts : ∀ w ∈ th_tb, w.before args s = true) (hl : Jvm.Cond.methodLink own idx M2.1 ∈ th_tb) (hf : d ≤ R.frames ∧ 64 * d ≤ R.locals) (hd2 : d2 + 1 ≤ d) :
    CallB R s args own idx M2.1 M2.2.1 M2.2.2.1 M2.2.2.2 (th_ws M2) { frames := d2, cells := cz, slots := cs, locals := 64 * d2 } cz cs n :=
  callB_of n hts h.good rfl rfl rfl (hts _ h.2.2.1) (hts _ hl) h.1 ⟨by show d2 + 1 ≤ _; omega, by have := h.2.1; show 8 + (M2.2.2.1 + 11) + 64 * d2 ≤ _; omega⟩
theorem th_md.callN {M2 : th_M} {n d d2 cz cs : Nat} {R : Room} {s : State} {args : Array Value} {own host : String} {idx : Nat} (h : th_md M2 n) (hts : ∀ w ∈ th_tb, w.before args s = true) (hl : va_Nw (.methodLinkNest own idx M2.1 host) s) (hf : d ≤ R.frames ∧ 64 * d ≤ R.locals) (hd2 : d2 + 1 ≤ d) :
    va_CN R s args own idx M2.1 host M2.2.1 M2.2.2.1 M2.2.2.2 (th_ws M2) { frames := d2, cells := cz, slots := cs, locals := 64 * d2 } cz cs n :=
  va_cnB n hts h.good rfl rfl rfl hl (hts _ h.2.2.1) h.1 ⟨by show d2 + 1 ≤ _; omega, by have := h.2.1; show 8 + (M2.2.2.1 + 11) + 64 * d2 ≤ _; omega⟩
section THI
variable {E : th_E} {M M2 : th_M} {d d2 cz cs cz' cs' cz2 cs2 pc idx n : Nat} {L : List (Option Value)} {S st as : List Value} {h : th_H} {Post Post' : Option Value → th_H → Prop}
theorem x_invv {b ci N : Nat} {T : u_T} (hd : decode M.2.1 pc = .ok (.invokevirtual idx, 3)) (lk : th_mv M.1.cls idx M2 n) (hc : Xc E M2 d2 cz2 cs2 (.ref b :: as) h Post') (hbk : gk h b = some (.inl ci)) (hcl : classes[ci]? = some (M2.1.cls, T, N)) (hst : st = as.reverse ++ .ref b :: S) (hn : as.length = n) (hs8 : (S.map fun v => v.category).sum ≤ 8) (hd2 : d2 + 1 ≤ d) (hz1 : cz' + cz2 ≤ cz) (hs1 : cs' + cs2 ≤ cs)
    (kk : ∀ (v : Option Value) (h' : th_H), Post' v h' → Xw E M d cz' cs' (pc + 3) L (v.toList ++ S) h' Post) : Xw E M d cz cs pc L st h Post := by
  intro p l e R s m args below meth c H locs cells slots ls Q Y
  obtain ⟨hX, hP, hS, hL, hf, ⟨hc1, hc2⟩, hQ⟩ := Y
  have hX2 := hX
  obtain ⟨hx, hb, hml, hown, hts, hr, hlk, hnm0, hC, hZ⟩ := hX
  obtain ⟨hmd, l1, l2, l3⟩ := lk
  obtain ⟨-, r', hr', cellV, g1, g2, g3, -⟩ := hP.2 b _ hbk
  have hcls := (hC.1.1 ci _ hcl).2.1
  have hl2 := hL
  obtain ⟨-, lv, hl1, -⟩ := hl2
  refine th_call (va_runV (b := b) (As := as) (rest := S) ⟨hx, hb, hml, hown, hts⟩ (hc l) ⟨hmd.callB hts l1 hf hd2, hts _ l2, hts _ l3⟩ ⟨th_blind E h _, ⟨cellV, g1, by rw [g3]; rfl, by rw [g2]; exact hcls⟩, th_pre hP hC hZ hS _⟩ rfl hn hl1.1 hst (by show 2 * 0 + _ ≤ 8; omega) hd ⟨by omega, by omega⟩) hS (fun v h' H1 locs1 hp hP1 hS1 => ?_)
  exact kk v h' hp p l e R s m args below meth c H1 locs1 _ _ ls Q ⟨hX2, hP1, hS1, hL, hf, ⟨by omega, by omega⟩, hQ⟩
theorem x_invvN {b ci N : Nat} {T : u_T} (hd : decode M.2.1 pc = .ok (.invokevirtual idx, 3)) (lk : th_mvN M.1.cls idx M2 n) (hc : Xc E M2 d2 cz2 cs2 (.ref b :: as) h Post') (hbk : gk h b = some (.inl ci)) (hcl : classes[ci]? = some (M2.1.cls, T, N)) (hst : st = as.reverse ++ .ref b :: S) (hn : as.length = n) (hs8 : (S.map fun v => v.category).sum ≤ 8) (hd2 : d2 + 1 ≤ d) (hz1 : cz' + cz2 ≤ cz) (hs1 : cs' + cs2 ≤ cs)
    (kk : ∀ (v : Option Value) (h' : th_H), Post' v h' → Xw E M d cz' cs' (pc + 3) L (v.toList ++ S) h' Post) : Xw E M d cz cs pc L st h Post := by
  intro p l e R s m args below meth c H locs cells slots ls Q Y
  obtain ⟨hX, hP, hS, hL, hf, ⟨hc1, hc2⟩, hQ⟩ := Y
  have hX2 := hX
  obtain ⟨hx, hb, hml, hown, hts, hr, hlk, hnm0, hC, hZ⟩ := hX
  obtain ⟨hmd, ⟨host, l1⟩, l2, l3⟩ := lk
  obtain ⟨-, r', hr', cellV, g1, g2, g3, -⟩ := hP.2 b _ hbk
  have hcls := (hC.1.1 ci _ hcl).2.1
  have hl2 := hL
  obtain ⟨-, lv, hl1, -⟩ := hl2
  refine th_call (va_runVN (b := b) (As := as) (rest := S) ⟨hx, hb, hml, hown, hts⟩ (hc l) ⟨hmd.callN hts (hC.2.2.1 _ _ _ _ l1) hf hd2, hts _ l2, hts _ l3⟩ ⟨th_blind E h _, ⟨cellV, g1, by rw [g3]; rfl, by rw [g2]; exact hcls⟩, th_pre hP hC hZ hS _⟩ rfl hn hl1.1 hst (by show 2 * 0 + _ ≤ 8; omega) hd ⟨by omega, by omega⟩) hS (fun v h' H1 locs1 hp hP1 hS1 => ?_)
  exact kk v h' hp p l e R s m args below meth c H1 locs1 _ _ ls Q ⟨hX2, hP1, hS1, hL, hf, ⟨by omega, by omega⟩, hQ⟩
theorem x_invs (hd : decode M.2.1 pc = .ok (.invokestatic idx, 3)) (lk : th_ms M.1.cls idx M2 n) (hc : Xc E M2 d2 cz2 cs2 as h Post') (hst : st = as.reverse ++ S) (hn : as.length = n) (hs8 : (S.map fun v => v.category).sum ≤ 8) (hd2 : d2 + 1 ≤ d) (hz1 : cz' + cz2 ≤ cz) (hs1 : cs' + cs2 ≤ cs)
    (kk : ∀ (v : Option Value) (h' : th_H), Post' v h' → Xw E M d cz' cs' (pc + 3) L (v.toList ++ S) h' Post) : Xw E M d cz cs pc L st h Post := by
  intro p l e R s m args below meth c H locs cells slots ls Q Y
  obtain ⟨hX, hP, hS, hL, hf, ⟨hc1, hc2⟩, hQ⟩ := Y
  have hX2 := hX
  obtain ⟨hx, hb, hml, hown, hts, hr, hlk, hnm0, hC, hZ⟩ := hX
  obtain ⟨hmd, l1, l2⟩ := lk
  have hl2 := hL
  obtain ⟨-, lv, hl1, -⟩ := hl2
  refine th_call (va_runS (As := as) (rest := S) ⟨hx, hb, hml, hown, hts⟩ (hc l) ⟨hmd.callB hts l1 hf hd2, hts _ l2⟩ ⟨th_blind E h _, th_pre hP hC hZ hS _⟩ rfl hn hl1.1 hst (by show 2 * 0 + _ ≤ 8; omega) hd ⟨by omega, by omega⟩) hS (fun v h' H1 locs1 hp hP1 hS1 => ?_)
  exact kk v h' hp p l e R s m args below meth c H1 locs1 _ _ ls Q ⟨hX2, hP1, hS1, hL, hf, ⟨by omega, by omega⟩, hQ⟩
theorem x_invsN (hd : decode M.2.1 pc = .ok (.invokestatic idx, 3)) (lk : th_msN M.1.cls idx M2 n) (hc : Xc E M2 d2 cz2 cs2 as h Post') (hst : st = as.reverse ++ S) (hn : as.length = n) (hs8 : (S.map fun v => v.category).sum ≤ 8) (hd2 : d2 + 1 ≤ d) (hz1 : cz' + cz2 ≤ cz) (hs1 : cs' + cs2 ≤ cs)
    (kk : ∀ (v : Option Value) (h' : th_H), Post' v h' → Xw E M d cz' cs' (pc + 3) L (v.toList ++ S) h' Post) : Xw E M d cz cs pc L st h Post := by
  intro p l e R s m args below meth c H locs cells slots ls Q Y
  obtain ⟨hX, hP, hS, hL, hf, ⟨hc1, hc2⟩, hQ⟩ := Y
  have hX2 := hX
  obtain ⟨hx, hb, hml, hown, hts, hr, hlk, hnm0, hC, hZ⟩ := hX
  obtain ⟨hmd, ⟨host, l1⟩, l2⟩ := lk
  have hl2 := hL
  obtain ⟨-, lv, hl1, -⟩ := hl2
  refine th_call (va_runSN (As := as) (rest := S) ⟨hx, hb, hml, hown, hts⟩ (hc l) ⟨hmd.callN hts (hC.2.2.1 _ _ _ _ l1) hf hd2, hts _ l2, trivial⟩ ⟨th_blind E h _, th_pre hP hC hZ hS _⟩ rfl hn hl1.1 hst (by show 2 * 0 + _ ≤ 8; omega) hd ⟨by omega, by omega⟩) hS (fun v h' H1 locs1 hp hP1 hS1 => ?_)
  exact kk v h' hp p l e R s m args below meth c H1 locs1 _ _ ls Q ⟨hX2, hP1, hS1, hL, hf, ⟨by omega, by omega⟩, hQ⟩
theorem x_invi {b : Nat} (hd : decode M.2.1 pc = .ok (.invokespecial idx, 3)) (lk : th_mi M.1.cls idx M2 n) (hc : Xc E M2 d2 cz2 cs2 (.ref b :: as) h Post') (hst : st = as.reverse ++ .ref b :: S) (hn : as.length = n) (hs8 : (S.map fun v => v.category).sum ≤ 8) (hd2 : d2 + 1 ≤ d) (hz1 : cz' + cz2 ≤ cz) (hs1 : cs' + cs2 ≤ cs)
    (kk : ∀ (v : Option Value) (h' : th_H), Post' v h' → Xw E M d cz' cs' (pc + 3) L (v.toList ++ S) h' Post) : Xw E M d cz cs pc L st h Post := by
  intro p l e R s m args below meth c H locs cells slots ls Q Y
  obtain ⟨hX, hP, hS, hL, hf, ⟨hc1, hc2⟩, hQ⟩ := Y
  have hX2 := hX
  obtain ⟨hx, hb, hml, hown, hts, hr, hlk, hnm0, hC, hZ⟩ := hX
  obtain ⟨hmd, l1, l2, l3, l4⟩ := lk
  have hl2 := hL
  obtain ⟨-, lv, hl1, -⟩ := hl2
  have hcb := hmd.callB (cz := cz2) (cs := cs2) hts l1 hf hd2
  rw [l4] at hcb
  refine th_call (va_runI (b := b) (As := as) (rest := S) ⟨hx, hb, hml, hown, hts⟩ (hc l) ⟨hcb, l3, hts _ l2⟩ ⟨th_blind E h _, th_pre hP hC hZ hS _⟩ rfl hn hl1.1 hst (by show 2 * 0 + _ ≤ 8; omega) hd ⟨by omega, by omega⟩) hS (fun v h' H1 locs1 hp hP1 hS1 => ?_)
  exact kk v h' hp p l e R s m args below meth c H1 locs1 _ _ ls Q ⟨hX2, hP1, hS1, hL, hf, ⟨by omega, by omega⟩, hQ⟩
theorem x_inviN {b : Nat} (hd : decode M.2.1 pc = .ok (.invokespecial idx, 3)) (lk : th_miN M.1.cls idx M2 n) (hc : Xc E M2 d2 cz2 cs2 (.ref b :: as) h Post') (hst : st = as.reverse ++ .ref b :: S) (hn : as.length = n) (hs8 : (S.map fun v => v.category).sum ≤ 8) (hd2 : d2 + 1 ≤ d) (hz1 : cz' + cz2 ≤ cz) (hs1 : cs' + cs2 ≤ cs)
    (kk : ∀ (v : Option Value) (h' : th_H), Post' v h' → Xw E M d cz' cs' (pc + 3) L (v.toList ++ S) h' Post) : Xw E M d cz cs pc L st h Post := by
  intro p l e R s m args below meth c H locs cells slots ls Q Y
  obtain ⟨hX, hP, hS, hL, hf, ⟨hc1, hc2⟩, hQ⟩ := Y
  have hX2 := hX
  obtain ⟨hx, hb, hml, hown, hts, hr, hlk, hnm0, hC, hZ⟩ := hX
  obtain ⟨hmd, ⟨host, l1⟩, l2, l3, l4⟩ := lk
  have hl2 := hL
  obtain ⟨-, lv, hl1, -⟩ := hl2
  have hcb := hmd.callN (cz := cz2) (cs := cs2) hts (hC.2.2.1 _ _ _ _ l1) hf hd2
  rw [l4] at hcb
  refine th_call (va_runIN (b := b) (As := as) (rest := S) ⟨hx, hb, hml, hown, hts⟩ (hc l) ⟨hcb, l3, hts _ l2⟩ ⟨th_blind E h _, th_pre hP hC hZ hS _⟩ rfl hn hl1.1 hst (by show 2 * 0 + _ ≤ 8; omega) hd ⟨by omega, by omega⟩) hS (fun v h' H1 locs1 hp hP1 hS1 => ?_)
  exact kk v h' hp p l e R s m args below meth c H1 locs1 _ _ ls Q ⟨hX2, hP1, hS1, hL, hf, ⟨by omega, by omega⟩, hQ⟩
end THI
end
section
/-! Words and links (printed by wip/gen/names.py). -/
theorem tbl1 {w : Jvm.Cond} (h : w ∈ tables_1_1) : w ∈ lw_tbl := List.mem_append_right _ (List.mem_append_left _ h)
theorem tbl2 {w : Jvm.Cond} (h : w ∈ tables_1_2) : w ∈ lw_tbl := List.mem_append_right _ (List.mem_append_right _ (List.mem_append_left _ h))
theorem tbl3 {w : Jvm.Cond} (h : w ∈ tables_1_3) : w ∈ lw_tbl := List.mem_append_right _ (List.mem_append_right _ (List.mem_append_right _ h))
theorem tbg {w : Jvm.Cond} (h : w ∈ lw_tbl) (g : th_gd w = true) : w ∈ th_tb := List.mem_filter.mpr ⟨h, g⟩
theorem tbP {y : MethodName} {n : Nat} (h : (y, n) ∈ lw_privs) : Jvm.Cond.selects y.cls y y ∈ th_tb := tbg (List.mem_append_left _ (List.mem_map.mpr ⟨(y, n), h, rfl⟩)) rfl
theorem k_0 : Jvm.Cond.initialized "TurnHostLaw" ∈ th_tb := tbg (tbl1 (List.mem_of_getElem? (i := 0) rfl)) rfl
theorem k_1 : Jvm.Cond.initialized "TurnHost" ∈ th_tb := tbg (tbl1 (List.mem_of_getElem? (i := 1) rfl)) rfl
theorem k_2 : Jvm.Cond.initialized "TurnHost$Machine" ∈ th_tb := tbg (tbl1 (List.mem_of_getElem? (i := 2) rfl)) rfl
theorem k_3 : Jvm.Cond.initialized "TurnHost$Program" ∈ th_tb := tbg (tbl1 (List.mem_of_getElem? (i := 3) rfl)) rfl
theorem k_4 : Jvm.Cond.initialized "TurnHost$Society" ∈ th_tb := tbg (tbl1 (List.mem_of_getElem? (i := 4) rfl)) rfl
theorem k_5 : Jvm.Cond.initialized "TurnHost$HostProcess" ∈ th_tb := tbg (tbl1 (List.mem_of_getElem? (i := 5) rfl)) rfl
theorem k_6 : Jvm.Cond.initialized "TurnHost$Term" ∈ th_tb := tbg (tbl1 (List.mem_of_getElem? (i := 6) rfl)) rfl
theorem k_7 : Jvm.Cond.initialized "TurnHost$Mailbox" ∈ th_tb := tbg (tbl1 (List.mem_of_getElem? (i := 7) rfl)) rfl
theorem k_8 : Jvm.Cond.initialized "TurnHost$Line" ∈ th_tb := tbg (tbl1 (List.mem_of_getElem? (i := 8) rfl)) rfl
theorem k_9 : Jvm.Cond.initialized "TurnHostModel" ∈ th_tb := tbg (tbl1 (List.mem_of_getElem? (i := 9) rfl)) rfl
theorem k_10 : Jvm.Cond.initialized "java/lang/Math" ∈ th_tb := tbg (tbl1 (List.mem_of_getElem? (i := 10) rfl)) rfl
theorem k_11 : Jvm.Cond.classLink "TurnHostLaw" (7 : Nat) "TurnHost" ∈ th_tb := tbg (tbl1 (List.mem_of_getElem? (i := 11) rfl)) rfl
theorem k_12 : Jvm.Cond.instantiable "TurnHost" (5 : Nat) ∈ th_tb := tbg (tbl1 (List.mem_of_getElem? (i := 12) rfl)) rfl
theorem k_13 : Jvm.Cond.methodLink "TurnHostLaw" (15 : Nat) ({ cls := "TurnHost", name := "<init>", desc := "(I)V" } : MethodName) ∈ th_tb := tbg (tbl1 (List.mem_of_getElem? (i := 13) rfl)) rfl
theorem k_14 : Jvm.Cond.instanceMethod ({ cls := "TurnHost", name := "<init>", desc := "(I)V" } : MethodName) ∈ th_tb := tbg (tbl1 (List.mem_of_getElem? (i := 14) rfl)) rfl
theorem k_15 : Jvm.Cond.code ({ cls := "TurnHost", name := "<init>", desc := "(I)V" } : MethodName) prog_1_method_1_code (2 : Nat) (Option.none : Option Jvm.ClassFile.FieldType) ∈ th_tb := tbg (tbl1 (List.mem_of_getElem? (i := 15) rfl)) rfl
theorem k_16 : Jvm.Cond.methodLink "TurnHost" (1 : Nat) ({ cls := "java/lang/Object", name := "<init>", desc := "()V" } : MethodName) ∈ th_tb := tbg (tbl1 (List.mem_of_getElem? (i := 16) rfl)) rfl
theorem k_17 : Jvm.Cond.instanceMethod ({ cls := "java/lang/Object", name := "<init>", desc := "()V" } : MethodName) ∈ th_tb := tbg (tbl1 (List.mem_of_getElem? (i := 17) rfl)) rfl
theorem k_18 : Jvm.Cond.code ({ cls := "java/lang/Object", name := "<init>", desc := "()V" } : MethodName) object_method_1_code (1 : Nat) (Option.none : Option Jvm.ClassFile.FieldType) ∈ th_tb := tbg (tbl1 (List.mem_of_getElem? (i := 18) rfl)) rfl
theorem k_19 : Jvm.Cond.classLink "TurnHost" (13 : Nat) "TurnHost$Machine" ∈ th_tb := tbg (tbl1 (List.mem_of_getElem? (i := 19) rfl)) rfl
theorem k_20 : Jvm.Cond.instantiable "TurnHost$Machine" (2 : Nat) ∈ th_tb := tbg (tbl1 (List.mem_of_getElem? (i := 20) rfl)) rfl
theorem k_21 : Jvm.Cond.methodLink "TurnHost" (15 : Nat) ({ cls := "TurnHost$Machine", name := "<init>", desc := "()V" } : MethodName) ∈ th_tb := tbg (tbl1 (List.mem_of_getElem? (i := 21) rfl)) rfl
theorem k_22 : Jvm.Cond.instanceMethod ({ cls := "TurnHost$Machine", name := "<init>", desc := "()V" } : MethodName) ∈ th_tb := tbg (tbl1 (List.mem_of_getElem? (i := 22) rfl)) rfl
theorem k_23 : Jvm.Cond.code ({ cls := "TurnHost$Machine", name := "<init>", desc := "()V" } : MethodName) prog_4_method_1_code (1 : Nat) (Option.none : Option Jvm.ClassFile.FieldType) ∈ th_tb := tbg (tbl1 (List.mem_of_getElem? (i := 23) rfl)) rfl
theorem k_24 : Jvm.Cond.methodLink "TurnHost$Machine" (3 : Nat) ({ cls := "java/lang/Object", name := "<init>", desc := "()V" } : MethodName) ∈ th_tb := tbg (tbl1 (List.mem_of_getElem? (i := 24) rfl)) rfl
theorem k_25 : Jvm.Cond.classLink "TurnHost$Machine" (9 : Nat) "TurnHost$Program" ∈ th_tb := tbg (tbl1 (List.mem_of_getElem? (i := 25) rfl)) rfl
theorem k_26 : Jvm.Cond.instantiable "TurnHost$Program" (2 : Nat) ∈ th_tb := tbg (tbl1 (List.mem_of_getElem? (i := 26) rfl)) rfl
theorem k_27 : Jvm.Cond.methodLink "TurnHost$Machine" (11 : Nat) ({ cls := "TurnHost$Program", name := "<init>", desc := "()V" } : MethodName) ∈ th_tb := tbg (tbl1 (List.mem_of_getElem? (i := 27) rfl)) rfl
theorem k_28 : Jvm.Cond.instanceMethod ({ cls := "TurnHost$Program", name := "<init>", desc := "()V" } : MethodName) ∈ th_tb := tbg (tbl1 (List.mem_of_getElem? (i := 28) rfl)) rfl
theorem k_29 : Jvm.Cond.code ({ cls := "TurnHost$Program", name := "<init>", desc := "()V" } : MethodName) prog_6_method_1_code (1 : Nat) (Option.none : Option Jvm.ClassFile.FieldType) ∈ th_tb := tbg (tbl1 (List.mem_of_getElem? (i := 29) rfl)) rfl
theorem k_30 : Jvm.Cond.methodLink "TurnHost$Program" (3 : Nat) ({ cls := "java/lang/Object", name := "<init>", desc := "()V" } : MethodName) ∈ th_tb := tbg (tbl1 (List.mem_of_getElem? (i := 30) rfl)) rfl
theorem k_31 : Jvm.Cond.fieldLink "TurnHost$Program" (9 : Nat) "TurnHost$Program" "cells" "[I" ∈ th_tb := tbg (tbl1 (List.mem_of_getElem? (i := 31) rfl)) rfl
theorem k_32 : Jvm.Cond.fieldLink "TurnHost$Machine" (46 : Nat) "TurnHost$Program" "cells" "[I" ∈ th_tb := tbg (tbl1 (List.mem_of_getElem? (i := 32) rfl)) rfl
theorem k_33 : Jvm.Cond.fieldLink "TurnHost$Program" (15 : Nat) "TurnHost$Program" "count" "I" ∈ th_tb := tbg (tbl1 (List.mem_of_getElem? (i := 33) rfl)) rfl
theorem k_34 : Jvm.Cond.laysFinal "TurnHost$Program" "TurnHost$Program" "cells" "[I" ∈ th_tb := tbg (tbl1 (List.mem_of_getElem? (i := 34) rfl)) rfl
theorem k_36 : Jvm.Cond.lays "TurnHost$Program" "TurnHost$Program" "count" "I" ∈ th_tb := tbg (tbl1 (List.mem_of_getElem? (i := 36) rfl)) rfl
theorem k_39 : Jvm.Cond.arrayClass Jvm.ClassFile.FieldType.int ∈ th_tb := tbg (tbl1 (List.mem_of_getElem? (i := 39) rfl)) rfl
theorem k_40 : Jvm.Cond.classLink "TurnHost$Machine" (18 : Nat) "TurnHost$Society" ∈ th_tb := tbg (tbl1 (List.mem_of_getElem? (i := 40) rfl)) rfl
theorem k_41 : Jvm.Cond.instantiable "TurnHost$Society" (5 : Nat) ∈ th_tb := tbg (tbl1 (List.mem_of_getElem? (i := 41) rfl)) rfl
theorem k_42 : Jvm.Cond.methodLink "TurnHost$Machine" (20 : Nat) ({ cls := "TurnHost$Society", name := "<init>", desc := "()V" } : MethodName) ∈ th_tb := tbg (tbl1 (List.mem_of_getElem? (i := 42) rfl)) rfl
theorem k_43 : Jvm.Cond.instanceMethod ({ cls := "TurnHost$Society", name := "<init>", desc := "()V" } : MethodName) ∈ th_tb := tbg (tbl1 (List.mem_of_getElem? (i := 43) rfl)) rfl
theorem k_44 : Jvm.Cond.code ({ cls := "TurnHost$Society", name := "<init>", desc := "()V" } : MethodName) prog_7_method_1_code (2 : Nat) (Option.none : Option Jvm.ClassFile.FieldType) ∈ th_tb := tbg (tbl1 (List.mem_of_getElem? (i := 44) rfl)) rfl
theorem k_45 : Jvm.Cond.methodLink "TurnHost$Society" (3 : Nat) ({ cls := "java/lang/Object", name := "<init>", desc := "()V" } : MethodName) ∈ th_tb := tbg (tbl1 (List.mem_of_getElem? (i := 45) rfl)) rfl
theorem k_46 : Jvm.Cond.classLink "TurnHost$Society" (9 : Nat) "TurnHost$HostProcess" ∈ th_tb := tbg (tbl1 (List.mem_of_getElem? (i := 46) rfl)) rfl
theorem k_48 : Jvm.Cond.instantiable "TurnHost$HostProcess" (12 : Nat) ∈ th_tb := tbg (tbl1 (List.mem_of_getElem? (i := 48) rfl)) rfl
theorem k_49 : Jvm.Cond.methodLink "TurnHost$Society" (17 : Nat) ({ cls := "TurnHost$HostProcess", name := "<init>", desc := "(I)V" } : MethodName) ∈ th_tb := tbg (tbl1 (List.mem_of_getElem? (i := 49) rfl)) rfl
theorem k_50 : Jvm.Cond.instanceMethod ({ cls := "TurnHost$HostProcess", name := "<init>", desc := "(I)V" } : MethodName) ∈ th_tb := tbg (tbl1 (List.mem_of_getElem? (i := 50) rfl)) rfl
theorem k_51 : Jvm.Cond.code ({ cls := "TurnHost$HostProcess", name := "<init>", desc := "(I)V" } : MethodName) prog_2_method_1_code (2 : Nat) (Option.none : Option Jvm.ClassFile.FieldType) ∈ th_tb := tbg (tbl1 (List.mem_of_getElem? (i := 51) rfl)) rfl
theorem k_52 : Jvm.Cond.methodLink "TurnHost$HostProcess" (3 : Nat) ({ cls := "java/lang/Object", name := "<init>", desc := "()V" } : MethodName) ∈ th_tb := tbg (tbl1 (List.mem_of_getElem? (i := 52) rfl)) rfl
theorem k_53 : Jvm.Cond.classLink "TurnHost$HostProcess" (15 : Nat) "TurnHost$Term" ∈ th_tb := tbg (tbl1 (List.mem_of_getElem? (i := 53) rfl)) rfl
theorem k_54 : Jvm.Cond.instantiable "TurnHost$Term" (5 : Nat) ∈ th_tb := tbg (tbl1 (List.mem_of_getElem? (i := 54) rfl)) rfl
theorem k_55 : Jvm.Cond.methodLink "TurnHost$HostProcess" (17 : Nat) ({ cls := "TurnHost$Term", name := "<init>", desc := "(II)V" } : MethodName) ∈ th_tb := tbg (tbl1 (List.mem_of_getElem? (i := 55) rfl)) rfl
theorem k_56 : Jvm.Cond.instanceMethod ({ cls := "TurnHost$Term", name := "<init>", desc := "(II)V" } : MethodName) ∈ th_tb := tbg (tbl1 (List.mem_of_getElem? (i := 56) rfl)) rfl
theorem k_57 : Jvm.Cond.code ({ cls := "TurnHost$Term", name := "<init>", desc := "(II)V" } : MethodName) prog_8_method_1_code (3 : Nat) (Option.none : Option Jvm.ClassFile.FieldType) ∈ th_tb := tbg (tbl1 (List.mem_of_getElem? (i := 57) rfl)) rfl
theorem k_58 : Jvm.Cond.methodLink "TurnHost$Term" (3 : Nat) ({ cls := "java/lang/Object", name := "<init>", desc := "()V" } : MethodName) ∈ th_tb := tbg (tbl1 (List.mem_of_getElem? (i := 58) rfl)) rfl
theorem k_59 : Jvm.Cond.fieldLink "TurnHost$Term" (9 : Nat) "TurnHost$Term" "sort" "I" ∈ th_tb := tbg (tbl1 (List.mem_of_getElem? (i := 59) rfl)) rfl
theorem k_60 : Jvm.Cond.fieldLink "TurnHost$Machine" (97 : Nat) "TurnHost$Term" "sort" "I" ∈ th_tb := tbg (tbl1 (List.mem_of_getElem? (i := 60) rfl)) rfl
theorem k_61 : Jvm.Cond.fieldLink "TurnHost$Society" (47 : Nat) "TurnHost$Term" "sort" "I" ∈ th_tb := tbg (tbl1 (List.mem_of_getElem? (i := 61) rfl)) rfl
theorem k_62 : Jvm.Cond.fieldLink "TurnHost$Term" (15 : Nat) "TurnHost$Term" "number" "I" ∈ th_tb := tbg (tbl1 (List.mem_of_getElem? (i := 62) rfl)) rfl
theorem k_63 : Jvm.Cond.fieldLink "TurnHost$Machine" (87 : Nat) "TurnHost$Term" "number" "I" ∈ th_tb := tbg (tbl1 (List.mem_of_getElem? (i := 63) rfl)) rfl
theorem k_64 : Jvm.Cond.fieldLink "TurnHost$Society" (50 : Nat) "TurnHost$Term" "number" "I" ∈ th_tb := tbg (tbl1 (List.mem_of_getElem? (i := 64) rfl)) rfl
theorem k_65 : Jvm.Cond.fieldLink "TurnHost$Term" (18 : Nat) "TurnHost$Term" "first" "LTurnHost$Term;" ∈ th_tb := tbg (tbl1 (List.mem_of_getElem? (i := 65) rfl)) rfl
theorem k_66 : Jvm.Cond.fieldLink "TurnHost$Machine" (77 : Nat) "TurnHost$Term" "first" "LTurnHost$Term;" ∈ th_tb := tbg (tbl1 (List.mem_of_getElem? (i := 66) rfl)) rfl
theorem k_67 : Jvm.Cond.fieldLink "TurnHost$Term" (22 : Nat) "TurnHost$Term" "second" "LTurnHost$Term;" ∈ th_tb := tbg (tbl1 (List.mem_of_getElem? (i := 67) rfl)) rfl
theorem k_68 : Jvm.Cond.fieldLink "TurnHost$Machine" (80 : Nat) "TurnHost$Term" "second" "LTurnHost$Term;" ∈ th_tb := tbg (tbl1 (List.mem_of_getElem? (i := 68) rfl)) rfl
theorem k_69 : Jvm.Cond.fieldLink "TurnHost$Term" (25 : Nat) "TurnHost$Term" "weight" "I" ∈ th_tb := tbg (tbl1 (List.mem_of_getElem? (i := 69) rfl)) rfl
theorem k_70 : Jvm.Cond.fieldLink "TurnHost$Society" (114 : Nat) "TurnHost$Term" "weight" "I" ∈ th_tb := tbg (tbl1 (List.mem_of_getElem? (i := 70) rfl)) rfl
theorem k_71 : Jvm.Cond.laysFinal "TurnHost$Term" "TurnHost$Term" "sort" "I" ∈ th_tb := tbg (tbl1 (List.mem_of_getElem? (i := 71) rfl)) rfl
theorem k_73 : Jvm.Cond.laysFinal "TurnHost$Term" "TurnHost$Term" "number" "I" ∈ th_tb := tbg (tbl1 (List.mem_of_getElem? (i := 73) rfl)) rfl
theorem k_75 : Jvm.Cond.laysFinal "TurnHost$Term" "TurnHost$Term" "first" "LTurnHost$Term;" ∈ th_tb := tbg (tbl1 (List.mem_of_getElem? (i := 75) rfl)) rfl
theorem k_77 : Jvm.Cond.laysFinal "TurnHost$Term" "TurnHost$Term" "second" "LTurnHost$Term;" ∈ th_tb := tbg (tbl1 (List.mem_of_getElem? (i := 77) rfl)) rfl
theorem k_79 : Jvm.Cond.laysFinal "TurnHost$Term" "TurnHost$Term" "weight" "I" ∈ th_tb := tbg (tbl1 (List.mem_of_getElem? (i := 79) rfl)) rfl
theorem k_83 : Jvm.Cond.classLink "TurnHost$HostProcess" (32 : Nat) "TurnHost$Mailbox" ∈ th_tb := tbg (tbl1 (List.mem_of_getElem? (i := 83) rfl)) rfl
theorem k_84 : Jvm.Cond.instantiable "TurnHost$Mailbox" (3 : Nat) ∈ th_tb := tbg (tbl1 (List.mem_of_getElem? (i := 84) rfl)) rfl
theorem k_85 : Jvm.Cond.methodLink "TurnHost$HostProcess" (34 : Nat) ({ cls := "TurnHost$Mailbox", name := "<init>", desc := "()V" } : MethodName) ∈ th_tb := tbg (tbl1 (List.mem_of_getElem? (i := 85) rfl)) rfl
theorem k_86 : Jvm.Cond.instanceMethod ({ cls := "TurnHost$Mailbox", name := "<init>", desc := "()V" } : MethodName) ∈ th_tb := tbg (tbl1 (List.mem_of_getElem? (i := 86) rfl)) rfl
theorem k_87 : Jvm.Cond.code ({ cls := "TurnHost$Mailbox", name := "<init>", desc := "()V" } : MethodName) prog_5_method_1_code (1 : Nat) (Option.none : Option Jvm.ClassFile.FieldType) ∈ th_tb := tbg (tbl1 (List.mem_of_getElem? (i := 87) rfl)) rfl
theorem k_88 : Jvm.Cond.methodLink "TurnHost$Mailbox" (3 : Nat) ({ cls := "java/lang/Object", name := "<init>", desc := "()V" } : MethodName) ∈ th_tb := tbg (tbl1 (List.mem_of_getElem? (i := 88) rfl)) rfl
theorem k_89 : Jvm.Cond.classLink "TurnHost$Mailbox" (9 : Nat) "TurnHost$Term" ∈ th_tb := tbg (tbl1 (List.mem_of_getElem? (i := 89) rfl)) rfl
theorem k_90 : Jvm.Cond.fieldLink "TurnHost$Mailbox" (11 : Nat) "TurnHost$Mailbox" "messages" "[LTurnHost$Term;" ∈ th_tb := tbg (tbl1 (List.mem_of_getElem? (i := 90) rfl)) rfl
theorem k_91 : Jvm.Cond.fieldLink "TurnHost$Mailbox" (17 : Nat) "TurnHost$Mailbox" "count" "I" ∈ th_tb := tbg (tbl1 (List.mem_of_getElem? (i := 91) rfl)) rfl
theorem k_92 : Jvm.Cond.fieldLink "TurnHost$HostProcess" (67 : Nat) "TurnHost$Mailbox" "count" "I" ∈ th_tb := tbg (tbl1 (List.mem_of_getElem? (i := 92) rfl)) rfl
theorem k_93 : Jvm.Cond.fieldLink "TurnHost$Mailbox" (21 : Nat) "TurnHost$Mailbox" "mark" "I" ∈ th_tb := tbg (tbl1 (List.mem_of_getElem? (i := 93) rfl)) rfl
theorem k_94 : Jvm.Cond.fieldLink "TurnHost$HostProcess" (64 : Nat) "TurnHost$Mailbox" "mark" "I" ∈ th_tb := tbg (tbl1 (List.mem_of_getElem? (i := 94) rfl)) rfl
theorem k_95 : Jvm.Cond.fieldLink "TurnHost$Machine" (166 : Nat) "TurnHost$Mailbox" "mark" "I" ∈ th_tb := tbg (tbl1 (List.mem_of_getElem? (i := 95) rfl)) rfl
theorem k_96 : Jvm.Cond.laysFinal "TurnHost$Mailbox" "TurnHost$Mailbox" "messages" "[LTurnHost$Term;" ∈ th_tb := tbg (tbl1 (List.mem_of_getElem? (i := 96) rfl)) rfl
theorem k_98 : Jvm.Cond.lays "TurnHost$Mailbox" "TurnHost$Mailbox" "count" "I" ∈ th_tb := tbg (tbl1 (List.mem_of_getElem? (i := 98) rfl)) rfl
theorem k_100 : Jvm.Cond.lays "TurnHost$Mailbox" "TurnHost$Mailbox" "mark" "I" ∈ th_tb := tbg (tbl1 (List.mem_of_getElem? (i := 100) rfl)) rfl
theorem k_103 : Jvm.Cond.fieldLink "TurnHost$HostProcess" (9 : Nat) "TurnHost$HostProcess" "number" "I" ∈ th_tb := tbg (tbl1 (List.mem_of_getElem? (i := 103) rfl)) rfl
theorem k_104 : Jvm.Cond.fieldLink "TurnHost" (50 : Nat) "TurnHost$HostProcess" "number" "I" ∈ th_tb := tbg (tbl1 (List.mem_of_getElem? (i := 104) rfl)) rfl
theorem k_105 : Jvm.Cond.fieldLink "TurnHost$Society" (61 : Nat) "TurnHost$HostProcess" "number" "I" ∈ th_tb := tbg (tbl1 (List.mem_of_getElem? (i := 105) rfl)) rfl
theorem k_106 : Jvm.Cond.fieldLink "TurnHost$HostProcess" (20 : Nat) "TurnHost$HostProcess" "pid" "LTurnHost$Term;" ∈ th_tb := tbg (tbl1 (List.mem_of_getElem? (i := 106) rfl)) rfl
theorem k_107 : Jvm.Cond.fieldLink "TurnHost$Machine" (66 : Nat) "TurnHost$HostProcess" "pid" "LTurnHost$Term;" ∈ th_tb := tbg (tbl1 (List.mem_of_getElem? (i := 107) rfl)) rfl
theorem k_108 : Jvm.Cond.fieldLink "TurnHost$Society" (117 : Nat) "TurnHost$HostProcess" "pid" "LTurnHost$Term;" ∈ th_tb := tbg (tbl1 (List.mem_of_getElem? (i := 108) rfl)) rfl
theorem k_109 : Jvm.Cond.fieldLink "TurnHost$HostProcess" (24 : Nat) "TurnHost$HostProcess" "registers" "[LTurnHost$Term;" ∈ th_tb := tbg (tbl1 (List.mem_of_getElem? (i := 109) rfl)) rfl
theorem k_110 : Jvm.Cond.fieldLink "TurnHost$Machine" (54 : Nat) "TurnHost$HostProcess" "registers" "[LTurnHost$Term;" ∈ th_tb := tbg (tbl1 (List.mem_of_getElem? (i := 110) rfl)) rfl
theorem k_111 : Jvm.Cond.fieldLink "TurnHost$HostProcess" (28 : Nat) "TurnHost$HostProcess" "returns" "[I" ∈ th_tb := tbg (tbl1 (List.mem_of_getElem? (i := 111) rfl)) rfl
theorem k_112 : Jvm.Cond.fieldLink "TurnHost$Machine" (160 : Nat) "TurnHost$HostProcess" "returns" "[I" ∈ th_tb := tbg (tbl1 (List.mem_of_getElem? (i := 112) rfl)) rfl
theorem k_113 : Jvm.Cond.fieldLink "TurnHost$HostProcess" (35 : Nat) "TurnHost$HostProcess" "mailbox" "LTurnHost$Mailbox;" ∈ th_tb := tbg (tbl1 (List.mem_of_getElem? (i := 113) rfl)) rfl
theorem k_114 : Jvm.Cond.fieldLink "TurnHost$Machine" (119 : Nat) "TurnHost$HostProcess" "mailbox" "LTurnHost$Mailbox;" ∈ th_tb := tbg (tbl1 (List.mem_of_getElem? (i := 114) rfl)) rfl
theorem k_115 : Jvm.Cond.fieldLink "TurnHost$Society" (68 : Nat) "TurnHost$HostProcess" "mailbox" "LTurnHost$Mailbox;" ∈ th_tb := tbg (tbl1 (List.mem_of_getElem? (i := 115) rfl)) rfl
theorem k_116 : Jvm.Cond.fieldLink "TurnHost$HostProcess" (42 : Nat) "TurnHost$HostProcess" "returnCount" "I" ∈ th_tb := tbg (tbl1 (List.mem_of_getElem? (i := 116) rfl)) rfl
theorem k_117 : Jvm.Cond.fieldLink "TurnHost$Machine" (157 : Nat) "TurnHost$HostProcess" "returnCount" "I" ∈ th_tb := tbg (tbl1 (List.mem_of_getElem? (i := 117) rfl)) rfl
theorem k_118 : Jvm.Cond.fieldLink "TurnHost$Machine" (31 : Nat) "TurnHost$HostProcess" "place" "I" ∈ th_tb := tbg (tbl1 (List.mem_of_getElem? (i := 118) rfl)) rfl
theorem k_119 : Jvm.Cond.fieldLink "TurnHost$HostProcess" (45 : Nat) "TurnHost$HostProcess" "place" "I" ∈ th_tb := tbg (tbl1 (List.mem_of_getElem? (i := 119) rfl)) rfl
theorem k_120 : Jvm.Cond.fieldLink "TurnHost$HostProcess" (48 : Nat) "TurnHost$HostProcess" "links" "I" ∈ th_tb := tbg (tbl1 (List.mem_of_getElem? (i := 120) rfl)) rfl
theorem k_121 : Jvm.Cond.fieldLink "TurnHost$Society" (81 : Nat) "TurnHost$HostProcess" "links" "I" ∈ th_tb := tbg (tbl1 (List.mem_of_getElem? (i := 121) rfl)) rfl
theorem k_122 : Jvm.Cond.fieldLink "TurnHost$HostProcess" (51 : Nat) "TurnHost$HostProcess" "traps" "Z" ∈ th_tb := tbg (tbl1 (List.mem_of_getElem? (i := 122) rfl)) rfl
theorem k_123 : Jvm.Cond.fieldLink "TurnHost$Society" (95 : Nat) "TurnHost$HostProcess" "traps" "Z" ∈ th_tb := tbg (tbl1 (List.mem_of_getElem? (i := 123) rfl)) rfl
theorem k_124 : Jvm.Cond.fieldLink "TurnHost$Machine" (188 : Nat) "TurnHost$HostProcess" "traps" "Z" ∈ th_tb := tbg (tbl1 (List.mem_of_getElem? (i := 124) rfl)) rfl
theorem k_125 : Jvm.Cond.fieldLink "TurnHost$HostProcess" (55 : Nat) "TurnHost$HostProcess" "state" "I" ∈ th_tb := tbg (tbl1 (List.mem_of_getElem? (i := 125) rfl)) rfl
theorem k_126 : Jvm.Cond.fieldLink "TurnHost" (59 : Nat) "TurnHost$HostProcess" "state" "I" ∈ th_tb := tbg (tbl1 (List.mem_of_getElem? (i := 126) rfl)) rfl
theorem k_127 : Jvm.Cond.fieldLink "TurnHost$Society" (65 : Nat) "TurnHost$HostProcess" "state" "I" ∈ th_tb := tbg (tbl1 (List.mem_of_getElem? (i := 127) rfl)) rfl
theorem k_128 : Jvm.Cond.fieldLink "TurnHost$Machine" (177 : Nat) "TurnHost$HostProcess" "state" "I" ∈ th_tb := tbg (tbl1 (List.mem_of_getElem? (i := 128) rfl)) rfl
theorem k_129 : Jvm.Cond.fieldLink "TurnHost$HostProcess" (58 : Nat) "TurnHost$HostProcess" "reason" "LTurnHost$Term;" ∈ th_tb := tbg (tbl1 (List.mem_of_getElem? (i := 129) rfl)) rfl
theorem k_130 : Jvm.Cond.fieldLink "TurnHost$Society" (84 : Nat) "TurnHost$HostProcess" "reason" "LTurnHost$Term;" ∈ th_tb := tbg (tbl1 (List.mem_of_getElem? (i := 130) rfl)) rfl
theorem k_131 : Jvm.Cond.fieldLink "TurnHost$Machine" (25 : Nat) "TurnHost$HostProcess" "reductions" "I" ∈ th_tb := tbg (tbl1 (List.mem_of_getElem? (i := 131) rfl)) rfl
theorem k_132 : Jvm.Cond.fieldLink "TurnHost$HostProcess" (61 : Nat) "TurnHost$HostProcess" "reductions" "I" ∈ th_tb := tbg (tbl1 (List.mem_of_getElem? (i := 132) rfl)) rfl
theorem k_133 : Jvm.Cond.laysFinal "TurnHost$HostProcess" "TurnHost$HostProcess" "number" "I" ∈ th_tb := tbg (tbl1 (List.mem_of_getElem? (i := 133) rfl)) rfl
theorem k_135 : Jvm.Cond.laysFinal "TurnHost$HostProcess" "TurnHost$HostProcess" "pid" "LTurnHost$Term;" ∈ th_tb := tbg (tbl1 (List.mem_of_getElem? (i := 135) rfl)) rfl
theorem k_137 : Jvm.Cond.laysFinal "TurnHost$HostProcess" "TurnHost$HostProcess" "registers" "[LTurnHost$Term;" ∈ th_tb := tbg (tbl1 (List.mem_of_getElem? (i := 137) rfl)) rfl
theorem k_139 : Jvm.Cond.laysFinal "TurnHost$HostProcess" "TurnHost$HostProcess" "returns" "[I" ∈ th_tb := tbg (tbl1 (List.mem_of_getElem? (i := 139) rfl)) rfl
theorem k_141 : Jvm.Cond.laysFinal "TurnHost$HostProcess" "TurnHost$HostProcess" "mailbox" "LTurnHost$Mailbox;" ∈ th_tb := tbg (tbl1 (List.mem_of_getElem? (i := 141) rfl)) rfl
theorem k_143 : Jvm.Cond.lays "TurnHost$HostProcess" "TurnHost$HostProcess" "returnCount" "I" ∈ th_tb := tbg (tbl1 (List.mem_of_getElem? (i := 143) rfl)) rfl
theorem k_145 : Jvm.Cond.lays "TurnHost$HostProcess" "TurnHost$HostProcess" "place" "I" ∈ th_tb := tbg (tbl1 (List.mem_of_getElem? (i := 145) rfl)) rfl
theorem k_147 : Jvm.Cond.lays "TurnHost$HostProcess" "TurnHost$HostProcess" "links" "I" ∈ th_tb := tbg (tbl1 (List.mem_of_getElem? (i := 147) rfl)) rfl
theorem k_149 : Jvm.Cond.lays "TurnHost$HostProcess" "TurnHost$HostProcess" "traps" "Z" ∈ th_tb := tbg (tbl1 (List.mem_of_getElem? (i := 149) rfl)) rfl
theorem k_151 : Jvm.Cond.lays "TurnHost$HostProcess" "TurnHost$HostProcess" "state" "I" ∈ th_tb := tbg (tbl1 (List.mem_of_getElem? (i := 151) rfl)) rfl
theorem k_153 : Jvm.Cond.lays "TurnHost$HostProcess" "TurnHost$HostProcess" "reason" "LTurnHost$Term;" ∈ th_tb := tbg (tbl1 (List.mem_of_getElem? (i := 153) rfl)) rfl
theorem k_155 : Jvm.Cond.lays "TurnHost$HostProcess" "TurnHost$HostProcess" "reductions" "I" ∈ th_tb := tbg (tbl1 (List.mem_of_getElem? (i := 155) rfl)) rfl
theorem k_158 : Jvm.Cond.classLink "TurnHost$Society" (20 : Nat) "TurnHost$Line" ∈ th_tb := tbg (tbl1 (List.mem_of_getElem? (i := 158) rfl)) rfl
theorem k_159 : Jvm.Cond.instantiable "TurnHost$Line" (2 : Nat) ∈ th_tb := tbg (tbl1 (List.mem_of_getElem? (i := 159) rfl)) rfl
theorem k_160 : Jvm.Cond.methodLink "TurnHost$Society" (22 : Nat) ({ cls := "TurnHost$Line", name := "<init>", desc := "()V" } : MethodName) ∈ th_tb := tbg (tbl1 (List.mem_of_getElem? (i := 160) rfl)) rfl
theorem k_161 : Jvm.Cond.instanceMethod ({ cls := "TurnHost$Line", name := "<init>", desc := "()V" } : MethodName) ∈ th_tb := tbg (tbl1 (List.mem_of_getElem? (i := 161) rfl)) rfl
theorem k_162 : Jvm.Cond.code ({ cls := "TurnHost$Line", name := "<init>", desc := "()V" } : MethodName) prog_3_method_1_code (1 : Nat) (Option.none : Option Jvm.ClassFile.FieldType) ∈ th_tb := tbg (tbl1 (List.mem_of_getElem? (i := 162) rfl)) rfl
theorem k_163 : Jvm.Cond.methodLink "TurnHost$Line" (3 : Nat) ({ cls := "java/lang/Object", name := "<init>", desc := "()V" } : MethodName) ∈ th_tb := tbg (tbl1 (List.mem_of_getElem? (i := 163) rfl)) rfl
theorem k_164 : Jvm.Cond.fieldLink "TurnHost$Line" (9 : Nat) "TurnHost$Line" "numbers" "[I" ∈ th_tb := tbg (tbl1 (List.mem_of_getElem? (i := 164) rfl)) rfl
theorem k_165 : Jvm.Cond.fieldLink "TurnHost$Line" (15 : Nat) "TurnHost$Line" "count" "I" ∈ th_tb := tbg (tbl1 (List.mem_of_getElem? (i := 165) rfl)) rfl
theorem k_166 : Jvm.Cond.laysFinal "TurnHost$Line" "TurnHost$Line" "numbers" "[I" ∈ th_tb := tbg (tbl1 (List.mem_of_getElem? (i := 166) rfl)) rfl
theorem k_168 : Jvm.Cond.lays "TurnHost$Line" "TurnHost$Line" "count" "I" ∈ th_tb := tbg (tbl1 (List.mem_of_getElem? (i := 168) rfl)) rfl
theorem k_171 : Jvm.Cond.classLink "TurnHost$Society" (27 : Nat) "TurnHost$Term" ∈ th_tb := tbg (tbl1 (List.mem_of_getElem? (i := 171) rfl)) rfl
theorem k_172 : Jvm.Cond.methodLink "TurnHost$Society" (29 : Nat) ({ cls := "TurnHost$Term", name := "<init>", desc := "(II)V" } : MethodName) ∈ th_tb := tbg (tbl1 (List.mem_of_getElem? (i := 172) rfl)) rfl
theorem k_173 : Jvm.Cond.fieldLink "TurnHost$Society" (11 : Nat) "TurnHost$Society" "table" "[LTurnHost$HostProcess;" ∈ th_tb := tbg (tbl1 (List.mem_of_getElem? (i := 173) rfl)) rfl
theorem k_174 : Jvm.Cond.fieldLink "TurnHost$Society" (23 : Nat) "TurnHost$Society" "line" "LTurnHost$Line;" ∈ th_tb := tbg (tbl1 (List.mem_of_getElem? (i := 174) rfl)) rfl
theorem k_175 : Jvm.Cond.fieldLink "TurnHost" (66 : Nat) "TurnHost$Society" "line" "LTurnHost$Line;" ∈ th_tb := tbg (tbl1 (List.mem_of_getElem? (i := 175) rfl)) rfl
theorem k_176 : Jvm.Cond.fieldLink "TurnHost$Society" (32 : Nat) "TurnHost$Society" "nil" "LTurnHost$Term;" ∈ th_tb := tbg (tbl1 (List.mem_of_getElem? (i := 176) rfl)) rfl
theorem k_177 : Jvm.Cond.fieldLink "TurnHost$Machine" (70 : Nat) "TurnHost$Society" "nil" "LTurnHost$Term;" ∈ th_tb := tbg (tbl1 (List.mem_of_getElem? (i := 177) rfl)) rfl
theorem k_178 : Jvm.Cond.fieldLink "TurnHost$Society" (36 : Nat) "TurnHost$Society" "atoms" "[LTurnHost$Term;" ∈ th_tb := tbg (tbl1 (List.mem_of_getElem? (i := 178) rfl)) rfl
theorem k_179 : Jvm.Cond.fieldLink "TurnHost$Machine" (38 : Nat) "TurnHost$Society" "atoms" "[LTurnHost$Term;" ∈ th_tb := tbg (tbl1 (List.mem_of_getElem? (i := 179) rfl)) rfl
theorem k_180 : Jvm.Cond.fieldLink "TurnHost$Society" (40 : Nat) "TurnHost$Society" "count" "I" ∈ th_tb := tbg (tbl1 (List.mem_of_getElem? (i := 180) rfl)) rfl
theorem k_181 : Jvm.Cond.fieldLink "TurnHost" (83 : Nat) "TurnHost$Society" "count" "I" ∈ th_tb := tbg (tbl1 (List.mem_of_getElem? (i := 181) rfl)) rfl
theorem k_182 : Jvm.Cond.laysFinal "TurnHost$Society" "TurnHost$Society" "table" "[LTurnHost$HostProcess;" ∈ th_tb := tbg (tbl1 (List.mem_of_getElem? (i := 182) rfl)) rfl
theorem k_184 : Jvm.Cond.laysFinal "TurnHost$Society" "TurnHost$Society" "line" "LTurnHost$Line;" ∈ th_tb := tbg (tbl1 (List.mem_of_getElem? (i := 184) rfl)) rfl
theorem k_186 : Jvm.Cond.laysFinal "TurnHost$Society" "TurnHost$Society" "nil" "LTurnHost$Term;" ∈ th_tb := tbg (tbl1 (List.mem_of_getElem? (i := 186) rfl)) rfl
theorem k_188 : Jvm.Cond.laysFinal "TurnHost$Society" "TurnHost$Society" "atoms" "[LTurnHost$Term;" ∈ th_tb := tbg (tbl1 (List.mem_of_getElem? (i := 188) rfl)) rfl
theorem k_190 : Jvm.Cond.lays "TurnHost$Society" "TurnHost$Society" "count" "I" ∈ th_tb := tbg (tbl1 (List.mem_of_getElem? (i := 190) rfl)) rfl
theorem k_193 : Jvm.Cond.fieldLink "TurnHost$Machine" (12 : Nat) "TurnHost$Machine" "program" "LTurnHost$Program;" ∈ th_tb := tbg (tbl1 (List.mem_of_getElem? (i := 193) rfl)) rfl
theorem k_194 : Jvm.Cond.fieldLink "TurnHost" (20 : Nat) "TurnHost$Machine" "program" "LTurnHost$Program;" ∈ th_tb := tbg (tbl1 (List.mem_of_getElem? (i := 194) rfl)) rfl
theorem k_195 : Jvm.Cond.fieldLink "TurnHost$Machine" (21 : Nat) "TurnHost$Machine" "society" "LTurnHost$Society;" ∈ th_tb := tbg (tbl1 (List.mem_of_getElem? (i := 195) rfl)) rfl
theorem k_196 : Jvm.Cond.fieldLink "TurnHost" (25 : Nat) "TurnHost$Machine" "society" "LTurnHost$Society;" ∈ th_tb := tbg (tbl1 (List.mem_of_getElem? (i := 196) rfl)) rfl
theorem k_197 : Jvm.Cond.laysFinal "TurnHost$Machine" "TurnHost$Machine" "program" "LTurnHost$Program;" ∈ th_tb := tbg (tbl1 (List.mem_of_getElem? (i := 197) rfl)) rfl
theorem k_199 : Jvm.Cond.laysFinal "TurnHost$Machine" "TurnHost$Machine" "society" "LTurnHost$Society;" ∈ th_tb := tbg (tbl1 (List.mem_of_getElem? (i := 199) rfl)) rfl
theorem k_202 : Jvm.Cond.fieldLink "TurnHost" (9 : Nat) "TurnHost" "quota" "I" ∈ th_tb := tbg (tbl1 (List.mem_of_getElem? (i := 202) rfl)) rfl
theorem k_203 : Jvm.Cond.fieldLink "TurnHost" (16 : Nat) "TurnHost" "machine" "LTurnHost$Machine;" ∈ th_tb := tbg (tbl1 (List.mem_of_getElem? (i := 203) rfl)) rfl
theorem k_204 : Jvm.Cond.fieldLink "TurnHost" (24 : Nat) "TurnHost" "program" "LTurnHost$Program;" ∈ th_tb := tbg (tbl1 (List.mem_of_getElem? (i := 204) rfl)) rfl
theorem k_205 : Jvm.Cond.fieldLink "TurnHost" (29 : Nat) "TurnHost" "society" "LTurnHost$Society;" ∈ th_tb := tbg (tbl1 (List.mem_of_getElem? (i := 205) rfl)) rfl
theorem k_206 : Jvm.Cond.fieldLink "TurnHost" (30 : Nat) "TurnHost" "spent" "I" ∈ th_tb := tbg (tbl1 (List.mem_of_getElem? (i := 206) rfl)) rfl
theorem k_207 : Jvm.Cond.laysFinal "TurnHost" "TurnHost" "quota" "I" ∈ th_tb := tbg (tbl1 (List.mem_of_getElem? (i := 207) rfl)) rfl
theorem k_209 : Jvm.Cond.laysFinal "TurnHost" "TurnHost" "machine" "LTurnHost$Machine;" ∈ th_tb := tbg (tbl1 (List.mem_of_getElem? (i := 209) rfl)) rfl
theorem k_211 : Jvm.Cond.laysFinal "TurnHost" "TurnHost" "program" "LTurnHost$Program;" ∈ th_tb := tbg (tbl1 (List.mem_of_getElem? (i := 211) rfl)) rfl
theorem k_213 : Jvm.Cond.laysFinal "TurnHost" "TurnHost" "society" "LTurnHost$Society;" ∈ th_tb := tbg (tbl1 (List.mem_of_getElem? (i := 213) rfl)) rfl
theorem k_215 : Jvm.Cond.lays "TurnHost" "TurnHost" "spent" "I" ∈ th_tb := tbg (tbl1 (List.mem_of_getElem? (i := 215) rfl)) rfl
theorem k_218 : Jvm.Cond.methodLink "TurnHostLaw" (21 : Nat) ({ cls := "TurnHost", name := "add", desc := "(IIII)I" } : MethodName) ∈ th_tb := tbg (tbl1 (List.mem_of_getElem? (i := 218) rfl)) rfl
theorem k_219 : Jvm.Cond.instanceMethod ({ cls := "TurnHost", name := "add", desc := "(IIII)I" } : MethodName) ∈ th_tb := tbg (tbl1 (List.mem_of_getElem? (i := 219) rfl)) rfl
theorem k_220 : Jvm.Cond.selects "TurnHost" ({ cls := "TurnHost", name := "add", desc := "(IIII)I" } : MethodName) ({ cls := "TurnHost", name := "add", desc := "(IIII)I" } : MethodName) ∈ th_tb := tbg (tbl1 (List.mem_of_getElem? (i := 220) rfl)) rfl
theorem k_221 : Jvm.Cond.code ({ cls := "TurnHost", name := "add", desc := "(IIII)I" } : MethodName) prog_1_method_2_code (5 : Nat) (Option.some Jvm.ClassFile.FieldType.int) ∈ th_tb := tbg (tbl1 (List.mem_of_getElem? (i := 221) rfl)) rfl
theorem k_222 : Jvm.Cond.methodLink "TurnHost" (33 : Nat) ({ cls := "TurnHost$Program", name := "append", desc := "(IIII)I" } : MethodName) ∈ th_tb := tbg (tbl1 (List.mem_of_getElem? (i := 222) rfl)) rfl
theorem k_223 : Jvm.Cond.instanceMethod ({ cls := "TurnHost$Program", name := "append", desc := "(IIII)I" } : MethodName) ∈ th_tb := tbg (tbl1 (List.mem_of_getElem? (i := 223) rfl)) rfl
theorem k_224 : Jvm.Cond.selects "TurnHost$Program" ({ cls := "TurnHost$Program", name := "append", desc := "(IIII)I" } : MethodName) ({ cls := "TurnHost$Program", name := "append", desc := "(IIII)I" } : MethodName) ∈ th_tb := tbg (tbl1 (List.mem_of_getElem? (i := 224) rfl)) rfl
theorem k_225 : Jvm.Cond.code ({ cls := "TurnHost$Program", name := "append", desc := "(IIII)I" } : MethodName) prog_6_method_2_code (7 : Nat) (Option.some Jvm.ClassFile.FieldType.int) ∈ th_tb := tbg (tbl1 (List.mem_of_getElem? (i := 225) rfl)) rfl
theorem k_228 : Jvm.Cond.methodLink "TurnHost$Program" (22 : Nat) ({ cls := "TurnHost$Program", name := "fits", desc := "(II)Z" } : MethodName) ∈ th_tb := tbg (tbl1 (List.mem_of_getElem? (i := 228) rfl)) rfl
theorem k_229 : Jvm.Cond.static ({ cls := "TurnHost$Program", name := "fits", desc := "(II)Z" } : MethodName) ∈ th_tb := tbg (tbl1 (List.mem_of_getElem? (i := 229) rfl)) rfl
theorem k_230 : Jvm.Cond.code ({ cls := "TurnHost$Program", name := "fits", desc := "(II)Z" } : MethodName) prog_6_method_3_code (2 : Nat) (Option.some Jvm.ClassFile.FieldType.boolean) ∈ th_tb := tbg (tbl1 (List.mem_of_getElem? (i := 230) rfl)) rfl
theorem k_231 : Jvm.Cond.methodLink "TurnHostLaw" (26 : Nat) ({ cls := "TurnHost", name := "begin", desc := "(II)I" } : MethodName) ∈ th_tb := tbg (tbl1 (List.mem_of_getElem? (i := 231) rfl)) rfl
theorem k_232 : Jvm.Cond.instanceMethod ({ cls := "TurnHost", name := "begin", desc := "(II)I" } : MethodName) ∈ th_tb := tbg (tbl1 (List.mem_of_getElem? (i := 232) rfl)) rfl
theorem k_233 : Jvm.Cond.selects "TurnHost" ({ cls := "TurnHost", name := "begin", desc := "(II)I" } : MethodName) ({ cls := "TurnHost", name := "begin", desc := "(II)I" } : MethodName) ∈ th_tb := tbg (tbl1 (List.mem_of_getElem? (i := 233) rfl)) rfl
theorem k_234 : Jvm.Cond.code ({ cls := "TurnHost", name := "begin", desc := "(II)I" } : MethodName) prog_1_method_3_code (4 : Nat) (Option.some Jvm.ClassFile.FieldType.int) ∈ th_tb := tbg (tbl1 (List.mem_of_getElem? (i := 234) rfl)) rfl
theorem k_235 : Jvm.Cond.classLink "TurnHost" (39 : Nat) "TurnHost$Term" ∈ th_tb := tbg (tbl1 (List.mem_of_getElem? (i := 235) rfl)) rfl
theorem k_236 : Jvm.Cond.methodLink "TurnHost" (41 : Nat) ({ cls := "TurnHost$Term", name := "<init>", desc := "(II)V" } : MethodName) ∈ th_tb := tbg (tbl1 (List.mem_of_getElem? (i := 236) rfl)) rfl
theorem k_237 : Jvm.Cond.methodLink "TurnHost" (44 : Nat) ({ cls := "TurnHost$Society", name := "start", desc := "(ILTurnHost$Term;)LTurnHost$HostProcess;" } : MethodName) ∈ th_tb := tbg (tbl1 (List.mem_of_getElem? (i := 237) rfl)) rfl
theorem k_238 : Jvm.Cond.instanceMethod ({ cls := "TurnHost$Society", name := "start", desc := "(ILTurnHost$Term;)LTurnHost$HostProcess;" } : MethodName) ∈ th_tb := tbg (tbl1 (List.mem_of_getElem? (i := 238) rfl)) rfl
theorem k_239 : Jvm.Cond.selects "TurnHost$Society" ({ cls := "TurnHost$Society", name := "start", desc := "(ILTurnHost$Term;)LTurnHost$HostProcess;" } : MethodName) ({ cls := "TurnHost$Society", name := "start", desc := "(ILTurnHost$Term;)LTurnHost$HostProcess;" } : MethodName) ∈ th_tb := tbg (tbl1 (List.mem_of_getElem? (i := 239) rfl)) rfl
theorem k_240 : Jvm.Cond.code ({ cls := "TurnHost$Society", name := "start", desc := "(ILTurnHost$Term;)LTurnHost$HostProcess;" } : MethodName) prog_7_method_5_code (4 : Nat) (Option.some (Jvm.ClassFile.FieldType.object "TurnHost$HostProcess")) ∈ th_tb := tbg (tbl2 (List.mem_of_getElem? (i := 0) rfl)) rfl
theorem k_241 : Jvm.Cond.methodLink "TurnHost$Society" (57 : Nat) ({ cls := "TurnHost$HostProcess", name := "renew", desc := "(ILTurnHost$Term;LTurnHost$Term;)V" } : MethodName) ∈ th_tb := tbg (tbl2 (List.mem_of_getElem? (i := 1) rfl)) rfl
theorem k_242 : Jvm.Cond.instanceMethod ({ cls := "TurnHost$HostProcess", name := "renew", desc := "(ILTurnHost$Term;LTurnHost$Term;)V" } : MethodName) ∈ th_tb := tbg (tbl2 (List.mem_of_getElem? (i := 2) rfl)) rfl
theorem k_243 : Jvm.Cond.selects "TurnHost$HostProcess" ({ cls := "TurnHost$HostProcess", name := "renew", desc := "(ILTurnHost$Term;LTurnHost$Term;)V" } : MethodName) ({ cls := "TurnHost$HostProcess", name := "renew", desc := "(ILTurnHost$Term;LTurnHost$Term;)V" } : MethodName) ∈ th_tb := tbg (tbl2 (List.mem_of_getElem? (i := 3) rfl)) rfl
theorem k_244 : Jvm.Cond.code ({ cls := "TurnHost$HostProcess", name := "renew", desc := "(ILTurnHost$Term;LTurnHost$Term;)V" } : MethodName) prog_2_method_2_code (5 : Nat) (Option.none : Option Jvm.ClassFile.FieldType) ∈ th_tb := tbg (tbl2 (List.mem_of_getElem? (i := 4) rfl)) rfl
theorem k_245 : Jvm.Cond.methodLink "TurnHost$HostProcess" (39 : Nat) ({ cls := "TurnHost$Mailbox", name := "empty", desc := "()V" } : MethodName) ∈ th_tb := tbg (tbl2 (List.mem_of_getElem? (i := 5) rfl)) rfl
theorem k_246 : Jvm.Cond.instanceMethod ({ cls := "TurnHost$Mailbox", name := "empty", desc := "()V" } : MethodName) ∈ th_tb := tbg (tbl2 (List.mem_of_getElem? (i := 6) rfl)) rfl
theorem k_247 : Jvm.Cond.selects "TurnHost$Mailbox" ({ cls := "TurnHost$Mailbox", name := "empty", desc := "()V" } : MethodName) ({ cls := "TurnHost$Mailbox", name := "empty", desc := "()V" } : MethodName) ∈ th_tb := tbg (tbl2 (List.mem_of_getElem? (i := 7) rfl)) rfl
theorem k_248 : Jvm.Cond.code ({ cls := "TurnHost$Mailbox", name := "empty", desc := "()V" } : MethodName) prog_5_method_2_code (1 : Nat) (Option.none : Option Jvm.ClassFile.FieldType) ∈ th_tb := tbg (tbl2 (List.mem_of_getElem? (i := 8) rfl)) rfl
theorem k_249 : Jvm.Cond.methodLink "TurnHost$Society" (62 : Nat) ({ cls := "TurnHost$Line", name := "append", desc := "(I)V" } : MethodName) ∈ th_tb := tbg (tbl2 (List.mem_of_getElem? (i := 9) rfl)) rfl
theorem k_250 : Jvm.Cond.instanceMethod ({ cls := "TurnHost$Line", name := "append", desc := "(I)V" } : MethodName) ∈ th_tb := tbg (tbl2 (List.mem_of_getElem? (i := 10) rfl)) rfl
theorem k_251 : Jvm.Cond.selects "TurnHost$Line" ({ cls := "TurnHost$Line", name := "append", desc := "(I)V" } : MethodName) ({ cls := "TurnHost$Line", name := "append", desc := "(I)V" } : MethodName) ∈ th_tb := tbg (tbl2 (List.mem_of_getElem? (i := 11) rfl)) rfl
theorem k_252 : Jvm.Cond.code ({ cls := "TurnHost$Line", name := "append", desc := "(I)V" } : MethodName) prog_3_method_4_code (2 : Nat) (Option.none : Option Jvm.ClassFile.FieldType) ∈ th_tb := tbg (tbl2 (List.mem_of_getElem? (i := 12) rfl)) rfl
theorem k_253 : Jvm.Cond.methodLink "TurnHostLaw" (31 : Nat) ({ cls := "TurnHost", name := "tell", desc := "(II)Z" } : MethodName) ∈ th_tb := tbg (tbl2 (List.mem_of_getElem? (i := 13) rfl)) rfl
theorem k_254 : Jvm.Cond.instanceMethod ({ cls := "TurnHost", name := "tell", desc := "(II)Z" } : MethodName) ∈ th_tb := tbg (tbl2 (List.mem_of_getElem? (i := 14) rfl)) rfl
theorem k_255 : Jvm.Cond.selects "TurnHost" ({ cls := "TurnHost", name := "tell", desc := "(II)Z" } : MethodName) ({ cls := "TurnHost", name := "tell", desc := "(II)Z" } : MethodName) ∈ th_tb := tbg (tbl2 (List.mem_of_getElem? (i := 15) rfl)) rfl
theorem k_256 : Jvm.Cond.code ({ cls := "TurnHost", name := "tell", desc := "(II)Z" } : MethodName) prog_1_method_4_code (4 : Nat) (Option.some Jvm.ClassFile.FieldType.boolean) ∈ th_tb := tbg (tbl2 (List.mem_of_getElem? (i := 16) rfl)) rfl
theorem k_257 : Jvm.Cond.methodLink "TurnHost" (55 : Nat) ({ cls := "TurnHost$Society", name := "numbered", desc := "(I)LTurnHost$HostProcess;" } : MethodName) ∈ th_tb := tbg (tbl2 (List.mem_of_getElem? (i := 17) rfl)) rfl
theorem k_258 : Jvm.Cond.instanceMethod ({ cls := "TurnHost$Society", name := "numbered", desc := "(I)LTurnHost$HostProcess;" } : MethodName) ∈ th_tb := tbg (tbl2 (List.mem_of_getElem? (i := 18) rfl)) rfl
theorem k_259 : Jvm.Cond.selects "TurnHost$Society" ({ cls := "TurnHost$Society", name := "numbered", desc := "(I)LTurnHost$HostProcess;" } : MethodName) ({ cls := "TurnHost$Society", name := "numbered", desc := "(I)LTurnHost$HostProcess;" } : MethodName) ∈ th_tb := tbg (tbl2 (List.mem_of_getElem? (i := 19) rfl)) rfl
theorem k_260 : Jvm.Cond.code ({ cls := "TurnHost$Society", name := "numbered", desc := "(I)LTurnHost$HostProcess;" } : MethodName) prog_7_method_3_code (2 : Nat) (Option.some (Jvm.ClassFile.FieldType.object "TurnHost$HostProcess")) ∈ th_tb := tbg (tbl2 (List.mem_of_getElem? (i := 20) rfl)) rfl
theorem k_261 : Jvm.Cond.methodLink "TurnHost" (62 : Nat) ({ cls := "TurnHost$Society", name := "deliver", desc := "(LTurnHost$HostProcess;LTurnHost$Term;)V" } : MethodName) ∈ th_tb := tbg (tbl2 (List.mem_of_getElem? (i := 21) rfl)) rfl
theorem k_262 : Jvm.Cond.instanceMethod ({ cls := "TurnHost$Society", name := "deliver", desc := "(LTurnHost$HostProcess;LTurnHost$Term;)V" } : MethodName) ∈ th_tb := tbg (tbl2 (List.mem_of_getElem? (i := 22) rfl)) rfl
theorem k_263 : Jvm.Cond.selects "TurnHost$Society" ({ cls := "TurnHost$Society", name := "deliver", desc := "(LTurnHost$HostProcess;LTurnHost$Term;)V" } : MethodName) ({ cls := "TurnHost$Society", name := "deliver", desc := "(LTurnHost$HostProcess;LTurnHost$Term;)V" } : MethodName) ∈ th_tb := tbg (tbl2 (List.mem_of_getElem? (i := 23) rfl)) rfl
theorem k_264 : Jvm.Cond.code ({ cls := "TurnHost$Society", name := "deliver", desc := "(LTurnHost$HostProcess;LTurnHost$Term;)V" } : MethodName) prog_7_method_6_code (3 : Nat) (Option.none : Option Jvm.ClassFile.FieldType) ∈ th_tb := tbg (tbl2 (List.mem_of_getElem? (i := 24) rfl)) rfl
theorem k_265 : Jvm.Cond.methodLink "TurnHost$Society" (72 : Nat) ({ cls := "TurnHost$Mailbox", name := "put", desc := "(LTurnHost$Term;)Z" } : MethodName) ∈ th_tb := tbg (tbl2 (List.mem_of_getElem? (i := 25) rfl)) rfl
theorem k_266 : Jvm.Cond.instanceMethod ({ cls := "TurnHost$Mailbox", name := "put", desc := "(LTurnHost$Term;)Z" } : MethodName) ∈ th_tb := tbg (tbl2 (List.mem_of_getElem? (i := 26) rfl)) rfl
theorem k_267 : Jvm.Cond.selects "TurnHost$Mailbox" ({ cls := "TurnHost$Mailbox", name := "put", desc := "(LTurnHost$Term;)Z" } : MethodName) ({ cls := "TurnHost$Mailbox", name := "put", desc := "(LTurnHost$Term;)Z" } : MethodName) ∈ th_tb := tbg (tbl2 (List.mem_of_getElem? (i := 27) rfl)) rfl
theorem k_268 : Jvm.Cond.code ({ cls := "TurnHost$Mailbox", name := "put", desc := "(LTurnHost$Term;)Z" } : MethodName) prog_5_method_5_code (2 : Nat) (Option.some Jvm.ClassFile.FieldType.boolean) ∈ th_tb := tbg (tbl2 (List.mem_of_getElem? (i := 28) rfl)) rfl
theorem k_269 : Jvm.Cond.methodLink "TurnHostLaw" (36 : Nat) ({ cls := "TurnHost", name := "run", desc := "(I)I" } : MethodName) ∈ th_tb := tbg (tbl2 (List.mem_of_getElem? (i := 29) rfl)) rfl
theorem k_270 : Jvm.Cond.instanceMethod ({ cls := "TurnHost", name := "run", desc := "(I)I" } : MethodName) ∈ th_tb := tbg (tbl2 (List.mem_of_getElem? (i := 30) rfl)) rfl
theorem k_271 : Jvm.Cond.selects "TurnHost" ({ cls := "TurnHost", name := "run", desc := "(I)I" } : MethodName) ({ cls := "TurnHost", name := "run", desc := "(I)I" } : MethodName) ∈ th_tb := tbg (tbl2 (List.mem_of_getElem? (i := 31) rfl)) rfl
theorem k_272 : Jvm.Cond.code ({ cls := "TurnHost", name := "run", desc := "(I)I" } : MethodName) prog_1_method_5_code (4 : Nat) (Option.some Jvm.ClassFile.FieldType.int) ∈ th_tb := tbg (tbl2 (List.mem_of_getElem? (i := 32) rfl)) rfl
theorem k_273 : Jvm.Cond.methodLink "TurnHost" (70 : Nat) ({ cls := "TurnHost$Line", name := "at", desc := "(I)I" } : MethodName) ∈ th_tb := tbg (tbl2 (List.mem_of_getElem? (i := 33) rfl)) rfl
theorem k_274 : Jvm.Cond.instanceMethod ({ cls := "TurnHost$Line", name := "at", desc := "(I)I" } : MethodName) ∈ th_tb := tbg (tbl2 (List.mem_of_getElem? (i := 34) rfl)) rfl
theorem k_275 : Jvm.Cond.selects "TurnHost$Line" ({ cls := "TurnHost$Line", name := "at", desc := "(I)I" } : MethodName) ({ cls := "TurnHost$Line", name := "at", desc := "(I)I" } : MethodName) ∈ th_tb := tbg (tbl2 (List.mem_of_getElem? (i := 35) rfl)) rfl
theorem k_276 : Jvm.Cond.code ({ cls := "TurnHost$Line", name := "at", desc := "(I)I" } : MethodName) prog_3_method_3_code (2 : Nat) (Option.some Jvm.ClassFile.FieldType.int) ∈ th_tb := tbg (tbl2 (List.mem_of_getElem? (i := 36) rfl)) rfl
theorem k_277 : Jvm.Cond.methodLink "TurnHost" (76 : Nat) ({ cls := "TurnHost$Machine", name := "reduce", desc := "(LTurnHost$HostProcess;)V" } : MethodName) ∈ th_tb := tbg (tbl2 (List.mem_of_getElem? (i := 37) rfl)) rfl
theorem k_278 : Jvm.Cond.instanceMethod ({ cls := "TurnHost$Machine", name := "reduce", desc := "(LTurnHost$HostProcess;)V" } : MethodName) ∈ th_tb := tbg (tbl2 (List.mem_of_getElem? (i := 38) rfl)) rfl
theorem k_279 : Jvm.Cond.selects "TurnHost$Machine" ({ cls := "TurnHost$Machine", name := "reduce", desc := "(LTurnHost$HostProcess;)V" } : MethodName) ({ cls := "TurnHost$Machine", name := "reduce", desc := "(LTurnHost$HostProcess;)V" } : MethodName) ∈ th_tb := tbg (tbl2 (List.mem_of_getElem? (i := 39) rfl)) rfl
theorem k_280 : Jvm.Cond.code ({ cls := "TurnHost$Machine", name := "reduce", desc := "(LTurnHost$HostProcess;)V" } : MethodName) prog_4_method_2_code (4 : Nat) (Option.none : Option Jvm.ClassFile.FieldType) ∈ th_tb := tbg (tbl2 (List.mem_of_getElem? (i := 40) rfl)) rfl
theorem k_281 : Jvm.Cond.methodLink "TurnHost$Machine" (34 : Nat) ({ cls := "TurnHost$Program", name := "reaches", desc := "(I)Z" } : MethodName) ∈ th_tb := tbg (tbl2 (List.mem_of_getElem? (i := 41) rfl)) rfl
theorem k_282 : Jvm.Cond.instanceMethod ({ cls := "TurnHost$Program", name := "reaches", desc := "(I)Z" } : MethodName) ∈ th_tb := tbg (tbl2 (List.mem_of_getElem? (i := 42) rfl)) rfl
theorem k_283 : Jvm.Cond.selects "TurnHost$Program" ({ cls := "TurnHost$Program", name := "reaches", desc := "(I)Z" } : MethodName) ({ cls := "TurnHost$Program", name := "reaches", desc := "(I)Z" } : MethodName) ∈ th_tb := tbg (tbl2 (List.mem_of_getElem? (i := 43) rfl)) rfl
theorem k_284 : Jvm.Cond.code ({ cls := "TurnHost$Program", name := "reaches", desc := "(I)Z" } : MethodName) prog_6_method_4_code (2 : Nat) (Option.some Jvm.ClassFile.FieldType.boolean) ∈ th_tb := tbg (tbl2 (List.mem_of_getElem? (i := 44) rfl)) rfl
theorem k_287 : Jvm.Cond.instanceMethod ({ cls := "TurnHost$Society", name := "end", desc := "(LTurnHost$HostProcess;LTurnHost$Term;)V" } : MethodName) ∈ th_tb := tbg (tbl2 (List.mem_of_getElem? (i := 47) rfl)) rfl
theorem k_288 : Jvm.Cond.code ({ cls := "TurnHost$Society", name := "end", desc := "(LTurnHost$HostProcess;LTurnHost$Term;)V" } : MethodName) prog_7_method_10_code (4 : Nat) (Option.none : Option Jvm.ClassFile.FieldType) ∈ th_tb := tbg (tbl2 (List.mem_of_getElem? (i := 48) rfl)) rfl
theorem k_289 : Jvm.Cond.methodLink "TurnHost$Society" (78 : Nat) ({ cls := "TurnHost$Line", name := "leave", desc := "(I)V" } : MethodName) ∈ th_tb := tbg (tbl2 (List.mem_of_getElem? (i := 49) rfl)) rfl
theorem k_290 : Jvm.Cond.instanceMethod ({ cls := "TurnHost$Line", name := "leave", desc := "(I)V" } : MethodName) ∈ th_tb := tbg (tbl2 (List.mem_of_getElem? (i := 50) rfl)) rfl
theorem k_291 : Jvm.Cond.selects "TurnHost$Line" ({ cls := "TurnHost$Line", name := "leave", desc := "(I)V" } : MethodName) ({ cls := "TurnHost$Line", name := "leave", desc := "(I)V" } : MethodName) ∈ th_tb := tbg (tbl2 (List.mem_of_getElem? (i := 51) rfl)) rfl
theorem k_292 : Jvm.Cond.code ({ cls := "TurnHost$Line", name := "leave", desc := "(I)V" } : MethodName) prog_3_method_5_code (4 : Nat) (Option.none : Option Jvm.ClassFile.FieldType) ∈ th_tb := tbg (tbl2 (List.mem_of_getElem? (i := 52) rfl)) rfl
theorem k_293 : Jvm.Cond.methodLink "TurnHost$Society" (87 : Nat) ({ cls := "TurnHost$Society", name := "untie", desc := "(LTurnHost$HostProcess;LTurnHost$HostProcess;)V" } : MethodName) ∈ th_tb := tbg (tbl2 (List.mem_of_getElem? (i := 53) rfl)) rfl
theorem k_295 : Jvm.Cond.instanceMethod ({ cls := "TurnHost$Society", name := "untie", desc := "(LTurnHost$HostProcess;LTurnHost$HostProcess;)V" } : MethodName) ∈ th_tb := tbg (tbl2 (List.mem_of_getElem? (i := 55) rfl)) rfl
theorem k_296 : Jvm.Cond.code ({ cls := "TurnHost$Society", name := "untie", desc := "(LTurnHost$HostProcess;LTurnHost$HostProcess;)V" } : MethodName) prog_7_method_9_code (3 : Nat) (Option.none : Option Jvm.ClassFile.FieldType) ∈ th_tb := tbg (tbl2 (List.mem_of_getElem? (i := 56) rfl)) rfl
theorem k_297 : Jvm.Cond.methodLink "TurnHost$Society" (91 : Nat) ({ cls := "TurnHost$Society", name := "signal", desc := "(LTurnHost$HostProcess;LTurnHost$HostProcess;LTurnHost$Term;)V" } : MethodName) ∈ th_tb := tbg (tbl2 (List.mem_of_getElem? (i := 57) rfl)) rfl
theorem k_299 : Jvm.Cond.instanceMethod ({ cls := "TurnHost$Society", name := "signal", desc := "(LTurnHost$HostProcess;LTurnHost$HostProcess;LTurnHost$Term;)V" } : MethodName) ∈ th_tb := tbg (tbl2 (List.mem_of_getElem? (i := 59) rfl)) rfl
theorem k_300 : Jvm.Cond.code ({ cls := "TurnHost$Society", name := "signal", desc := "(LTurnHost$HostProcess;LTurnHost$HostProcess;LTurnHost$Term;)V" } : MethodName) prog_7_method_11_code (4 : Nat) (Option.none : Option Jvm.ClassFile.FieldType) ∈ th_tb := tbg (tbl2 (List.mem_of_getElem? (i := 60) rfl)) rfl
theorem k_301 : Jvm.Cond.methodLink "TurnHost$Society" (99 : Nat) ({ cls := "TurnHost$Society", name := "exitNotice", desc := "(LTurnHost$HostProcess;LTurnHost$Term;)LTurnHost$Term;" } : MethodName) ∈ th_tb := tbg (tbl2 (List.mem_of_getElem? (i := 61) rfl)) rfl
theorem k_303 : Jvm.Cond.instanceMethod ({ cls := "TurnHost$Society", name := "exitNotice", desc := "(LTurnHost$HostProcess;LTurnHost$Term;)LTurnHost$Term;" } : MethodName) ∈ th_tb := tbg (tbl2 (List.mem_of_getElem? (i := 63) rfl)) rfl
theorem k_304 : Jvm.Cond.code ({ cls := "TurnHost$Society", name := "exitNotice", desc := "(LTurnHost$HostProcess;LTurnHost$Term;)LTurnHost$Term;" } : MethodName) prog_7_method_12_code (4 : Nat) (Option.some (Jvm.ClassFile.FieldType.object "TurnHost$Term")) ∈ th_tb := tbg (tbl2 (List.mem_of_getElem? (i := 64) rfl)) rfl
theorem k_305 : Jvm.Cond.methodLink "TurnHost$Society" (120 : Nat) ({ cls := "TurnHost$Term", name := "<init>", desc := "(ILTurnHost$Term;LTurnHost$Term;)V" } : MethodName) ∈ th_tb := tbg (tbl2 (List.mem_of_getElem? (i := 65) rfl)) rfl
theorem k_306 : Jvm.Cond.instanceMethod ({ cls := "TurnHost$Term", name := "<init>", desc := "(ILTurnHost$Term;LTurnHost$Term;)V" } : MethodName) ∈ th_tb := tbg (tbl2 (List.mem_of_getElem? (i := 66) rfl)) rfl
theorem k_307 : Jvm.Cond.code ({ cls := "TurnHost$Term", name := "<init>", desc := "(ILTurnHost$Term;LTurnHost$Term;)V" } : MethodName) prog_8_method_2_code (4 : Nat) (Option.none : Option Jvm.ClassFile.FieldType) ∈ th_tb := tbg (tbl2 (List.mem_of_getElem? (i := 67) rfl)) rfl
theorem k_308 : Jvm.Cond.methodLink "TurnHost$Society" (103 : Nat) ({ cls := "TurnHost$Society", name := "deliver", desc := "(LTurnHost$HostProcess;LTurnHost$Term;)V" } : MethodName) ∈ th_tb := tbg (tbl2 (List.mem_of_getElem? (i := 68) rfl)) rfl
theorem k_310 : Jvm.Cond.static ({ cls := "TurnHost$Term", name := "alike", desc := "(LTurnHost$Term;LTurnHost$Term;)Z" } : MethodName) ∈ th_tb := tbg (tbl2 (List.mem_of_getElem? (i := 70) rfl)) rfl
theorem k_311 : Jvm.Cond.code ({ cls := "TurnHost$Term", name := "alike", desc := "(LTurnHost$Term;LTurnHost$Term;)Z" } : MethodName) prog_8_method_7_code (2 : Nat) (Option.some Jvm.ClassFile.FieldType.boolean) ∈ th_tb := tbg (tbl2 (List.mem_of_getElem? (i := 71) rfl)) rfl
theorem k_312 : Jvm.Cond.methodLink "TurnHost$Term" (42 : Nat) ({ cls := "TurnHost$Term", name := "hasParts", desc := "()Z" } : MethodName) ∈ th_tb := tbg (tbl2 (List.mem_of_getElem? (i := 72) rfl)) rfl
theorem k_313 : Jvm.Cond.instanceMethod ({ cls := "TurnHost$Term", name := "hasParts", desc := "()Z" } : MethodName) ∈ th_tb := tbg (tbl2 (List.mem_of_getElem? (i := 73) rfl)) rfl
theorem k_314 : Jvm.Cond.selects "TurnHost$Term" ({ cls := "TurnHost$Term", name := "hasParts", desc := "()Z" } : MethodName) ({ cls := "TurnHost$Term", name := "hasParts", desc := "()Z" } : MethodName) ∈ th_tb := tbg (tbl2 (List.mem_of_getElem? (i := 74) rfl)) rfl
theorem k_315 : Jvm.Cond.code ({ cls := "TurnHost$Term", name := "hasParts", desc := "()Z" } : MethodName) prog_8_method_4_code (1 : Nat) (Option.some Jvm.ClassFile.FieldType.boolean) ∈ th_tb := tbg (tbl2 (List.mem_of_getElem? (i := 75) rfl)) rfl
theorem k_316 : Jvm.Cond.methodLink "TurnHost$Term" (45 : Nat) ({ cls := "TurnHost$Term", name := "alike", desc := "(LTurnHost$Term;LTurnHost$Term;)Z" } : MethodName) ∈ th_tb := tbg (tbl2 (List.mem_of_getElem? (i := 76) rfl)) rfl
theorem k_317 : Jvm.Cond.methodLink "TurnHost$Society" (111 : Nat) ({ cls := "TurnHost$Society", name := "end", desc := "(LTurnHost$HostProcess;LTurnHost$Term;)V" } : MethodName) ∈ th_tb := tbg (tbl2 (List.mem_of_getElem? (i := 77) rfl)) rfl
theorem k_318 : Jvm.Cond.methodLink "TurnHost$Machine" (50 : Nat) ({ cls := "TurnHost$Machine", name := "perform", desc := "(LTurnHost$HostProcess;IIII)Z" } : MethodName) ∈ th_tb := tbg (tbl2 (List.mem_of_getElem? (i := 78) rfl)) rfl
theorem k_320 : Jvm.Cond.instanceMethod ({ cls := "TurnHost$Machine", name := "perform", desc := "(LTurnHost$HostProcess;IIII)Z" } : MethodName) ∈ th_tb := tbg (tbl2 (List.mem_of_getElem? (i := 80) rfl)) rfl
theorem k_321 : Jvm.Cond.code ({ cls := "TurnHost$Machine", name := "perform", desc := "(LTurnHost$HostProcess;IIII)Z" } : MethodName) prog_4_method_3_code (7 : Nat) (Option.some Jvm.ClassFile.FieldType.boolean) ∈ th_tb := tbg (tbl2 (List.mem_of_getElem? (i := 81) rfl)) rfl
theorem k_322 : Jvm.Cond.classLink "TurnHost$Machine" (57 : Nat) "TurnHost$Term" ∈ th_tb := tbg (tbl2 (List.mem_of_getElem? (i := 82) rfl)) rfl
theorem k_323 : Jvm.Cond.methodLink "TurnHost$Machine" (59 : Nat) ({ cls := "TurnHost$Term", name := "<init>", desc := "(II)V" } : MethodName) ∈ th_tb := tbg (tbl2 (List.mem_of_getElem? (i := 83) rfl)) rfl
theorem k_324 : Jvm.Cond.methodLink "TurnHost$Machine" (62 : Nat) ({ cls := "TurnHost$HostProcess", name := "set", desc := "(ILTurnHost$Term;)Z" } : MethodName) ∈ th_tb := tbg (tbl2 (List.mem_of_getElem? (i := 84) rfl)) rfl
theorem k_325 : Jvm.Cond.instanceMethod ({ cls := "TurnHost$HostProcess", name := "set", desc := "(ILTurnHost$Term;)Z" } : MethodName) ∈ th_tb := tbg (tbl2 (List.mem_of_getElem? (i := 85) rfl)) rfl
theorem k_326 : Jvm.Cond.selects "TurnHost$HostProcess" ({ cls := "TurnHost$HostProcess", name := "set", desc := "(ILTurnHost$Term;)Z" } : MethodName) ({ cls := "TurnHost$HostProcess", name := "set", desc := "(ILTurnHost$Term;)Z" } : MethodName) ∈ th_tb := tbg (tbl2 (List.mem_of_getElem? (i := 86) rfl)) rfl
theorem k_327 : Jvm.Cond.code ({ cls := "TurnHost$HostProcess", name := "set", desc := "(ILTurnHost$Term;)Z" } : MethodName) prog_2_method_3_code (3 : Nat) (Option.some Jvm.ClassFile.FieldType.boolean) ∈ th_tb := tbg (tbl2 (List.mem_of_getElem? (i := 87) rfl)) rfl
theorem k_328 : Jvm.Cond.methodLink "TurnHost$Machine" (73 : Nat) ({ cls := "TurnHost$Term", name := "joined", desc := "(ILTurnHost$Term;LTurnHost$Term;)LTurnHost$Term;" } : MethodName) ∈ th_tb := tbg (tbl2 (List.mem_of_getElem? (i := 88) rfl)) rfl
theorem k_329 : Jvm.Cond.static ({ cls := "TurnHost$Term", name := "joined", desc := "(ILTurnHost$Term;LTurnHost$Term;)LTurnHost$Term;" } : MethodName) ∈ th_tb := tbg (tbl2 (List.mem_of_getElem? (i := 89) rfl)) rfl
theorem k_330 : Jvm.Cond.code ({ cls := "TurnHost$Term", name := "joined", desc := "(ILTurnHost$Term;LTurnHost$Term;)LTurnHost$Term;" } : MethodName) prog_8_method_3_code (3 : Nat) (Option.some (Jvm.ClassFile.FieldType.object "TurnHost$Term")) ∈ th_tb := tbg (tbl2 (List.mem_of_getElem? (i := 90) rfl)) rfl
theorem k_331 : Jvm.Cond.classLink "TurnHost$Term" (10 : Nat) "TurnHost$Term" ∈ th_tb := tbg (tbl2 (List.mem_of_getElem? (i := 91) rfl)) rfl
theorem k_332 : Jvm.Cond.methodLink "TurnHost$Term" (28 : Nat) ({ cls := "TurnHost$Term", name := "<init>", desc := "(ILTurnHost$Term;LTurnHost$Term;)V" } : MethodName) ∈ th_tb := tbg (tbl2 (List.mem_of_getElem? (i := 92) rfl)) rfl
theorem k_333 : Jvm.Cond.methodLink "TurnHost$Machine" (83 : Nat) ({ cls := "TurnHost$Machine", name := "areInts", desc := "(LTurnHost$Term;LTurnHost$Term;)Z" } : MethodName) ∈ th_tb := tbg (tbl2 (List.mem_of_getElem? (i := 93) rfl)) rfl
theorem k_334 : Jvm.Cond.static ({ cls := "TurnHost$Machine", name := "areInts", desc := "(LTurnHost$Term;LTurnHost$Term;)Z" } : MethodName) ∈ th_tb := tbg (tbl2 (List.mem_of_getElem? (i := 94) rfl)) rfl
theorem k_335 : Jvm.Cond.code ({ cls := "TurnHost$Machine", name := "areInts", desc := "(LTurnHost$Term;LTurnHost$Term;)Z" } : MethodName) prog_4_method_4_code (2 : Nat) (Option.some Jvm.ClassFile.FieldType.boolean) ∈ th_tb := tbg (tbl2 (List.mem_of_getElem? (i := 95) rfl)) rfl
theorem k_336 : Jvm.Cond.methodLink "TurnHost$Machine" (90 : Nat) ({ cls := "TurnHost$Machine", name := "goUnless", desc := "(LTurnHost$HostProcess;ZI)Z" } : MethodName) ∈ th_tb := tbg (tbl2 (List.mem_of_getElem? (i := 96) rfl)) rfl
theorem k_337 : Jvm.Cond.static ({ cls := "TurnHost$Machine", name := "goUnless", desc := "(LTurnHost$HostProcess;ZI)Z" } : MethodName) ∈ th_tb := tbg (tbl2 (List.mem_of_getElem? (i := 97) rfl)) rfl
theorem k_338 : Jvm.Cond.code ({ cls := "TurnHost$Machine", name := "goUnless", desc := "(LTurnHost$HostProcess;ZI)Z" } : MethodName) prog_4_method_5_code (3 : Nat) (Option.some Jvm.ClassFile.FieldType.boolean) ∈ th_tb := tbg (tbl2 (List.mem_of_getElem? (i := 98) rfl)) rfl
theorem k_339 : Jvm.Cond.methodLink "TurnHost$Machine" (100 : Nat) ({ cls := "TurnHost$HostProcess", name := "goTo", desc := "(I)Z" } : MethodName) ∈ th_tb := tbg (tbl2 (List.mem_of_getElem? (i := 99) rfl)) rfl
theorem k_340 : Jvm.Cond.instanceMethod ({ cls := "TurnHost$HostProcess", name := "goTo", desc := "(I)Z" } : MethodName) ∈ th_tb := tbg (tbl2 (List.mem_of_getElem? (i := 100) rfl)) rfl
theorem k_341 : Jvm.Cond.selects "TurnHost$HostProcess" ({ cls := "TurnHost$HostProcess", name := "goTo", desc := "(I)Z" } : MethodName) ({ cls := "TurnHost$HostProcess", name := "goTo", desc := "(I)Z" } : MethodName) ∈ th_tb := tbg (tbl2 (List.mem_of_getElem? (i := 101) rfl)) rfl
theorem k_342 : Jvm.Cond.code ({ cls := "TurnHost$HostProcess", name := "goTo", desc := "(I)Z" } : MethodName) prog_2_method_4_code (2 : Nat) (Option.some Jvm.ClassFile.FieldType.boolean) ∈ th_tb := tbg (tbl2 (List.mem_of_getElem? (i := 102) rfl)) rfl
theorem k_344 : Jvm.Cond.methodLink "TurnHost$Machine" (103 : Nat) ({ cls := "TurnHost$HostProcess", name := "pushReturn", desc := "()Z" } : MethodName) ∈ th_tb := tbg (tbl2 (List.mem_of_getElem? (i := 104) rfl)) rfl
theorem k_345 : Jvm.Cond.instanceMethod ({ cls := "TurnHost$HostProcess", name := "pushReturn", desc := "()Z" } : MethodName) ∈ th_tb := tbg (tbl2 (List.mem_of_getElem? (i := 105) rfl)) rfl
theorem k_346 : Jvm.Cond.selects "TurnHost$HostProcess" ({ cls := "TurnHost$HostProcess", name := "pushReturn", desc := "()Z" } : MethodName) ({ cls := "TurnHost$HostProcess", name := "pushReturn", desc := "()Z" } : MethodName) ∈ th_tb := tbg (tbl2 (List.mem_of_getElem? (i := 106) rfl)) rfl
theorem k_347 : Jvm.Cond.code ({ cls := "TurnHost$HostProcess", name := "pushReturn", desc := "()Z" } : MethodName) prog_2_method_5_code (1 : Nat) (Option.some Jvm.ClassFile.FieldType.boolean) ∈ th_tb := tbg (tbl2 (List.mem_of_getElem? (i := 107) rfl)) rfl
theorem k_348 : Jvm.Cond.methodLink "TurnHost$Machine" (107 : Nat) ({ cls := "TurnHost$Machine", name := "goBack", desc := "(LTurnHost$HostProcess;)Z" } : MethodName) ∈ th_tb := tbg (tbl2 (List.mem_of_getElem? (i := 108) rfl)) rfl
theorem k_350 : Jvm.Cond.instanceMethod ({ cls := "TurnHost$Machine", name := "goBack", desc := "(LTurnHost$HostProcess;)Z" } : MethodName) ∈ th_tb := tbg (tbl2 (List.mem_of_getElem? (i := 110) rfl)) rfl
theorem k_351 : Jvm.Cond.code ({ cls := "TurnHost$Machine", name := "goBack", desc := "(LTurnHost$HostProcess;)Z" } : MethodName) prog_4_method_6_code (2 : Nat) (Option.some Jvm.ClassFile.FieldType.boolean) ∈ th_tb := tbg (tbl2 (List.mem_of_getElem? (i := 111) rfl)) rfl
theorem k_352 : Jvm.Cond.methodLink "TurnHost$Machine" (111 : Nat) ({ cls := "TurnHost$Society", name := "bearing", desc := "(LTurnHost$Term;)LTurnHost$HostProcess;" } : MethodName) ∈ th_tb := tbg (tbl2 (List.mem_of_getElem? (i := 112) rfl)) rfl
theorem k_353 : Jvm.Cond.instanceMethod ({ cls := "TurnHost$Society", name := "bearing", desc := "(LTurnHost$Term;)LTurnHost$HostProcess;" } : MethodName) ∈ th_tb := tbg (tbl2 (List.mem_of_getElem? (i := 113) rfl)) rfl
theorem k_354 : Jvm.Cond.selects "TurnHost$Society" ({ cls := "TurnHost$Society", name := "bearing", desc := "(LTurnHost$Term;)LTurnHost$HostProcess;" } : MethodName) ({ cls := "TurnHost$Society", name := "bearing", desc := "(LTurnHost$Term;)LTurnHost$HostProcess;" } : MethodName) ∈ th_tb := tbg (tbl2 (List.mem_of_getElem? (i := 114) rfl)) rfl
theorem k_355 : Jvm.Cond.code ({ cls := "TurnHost$Society", name := "bearing", desc := "(LTurnHost$Term;)LTurnHost$HostProcess;" } : MethodName) prog_7_method_4_code (2 : Nat) (Option.some (Jvm.ClassFile.FieldType.object "TurnHost$HostProcess")) ∈ th_tb := tbg (tbl2 (List.mem_of_getElem? (i := 115) rfl)) rfl
theorem k_356 : Jvm.Cond.methodLink "TurnHost$Society" (53 : Nat) ({ cls := "TurnHost$Society", name := "numbered", desc := "(I)LTurnHost$HostProcess;" } : MethodName) ∈ th_tb := tbg (tbl2 (List.mem_of_getElem? (i := 116) rfl)) rfl
theorem k_357 : Jvm.Cond.methodLink "TurnHost$Machine" (115 : Nat) ({ cls := "TurnHost$Machine", name := "send", desc := "(LTurnHost$HostProcess;LTurnHost$Term;)Z" } : MethodName) ∈ th_tb := tbg (tbl2 (List.mem_of_getElem? (i := 117) rfl)) rfl
theorem k_359 : Jvm.Cond.instanceMethod ({ cls := "TurnHost$Machine", name := "send", desc := "(LTurnHost$HostProcess;LTurnHost$Term;)Z" } : MethodName) ∈ th_tb := tbg (tbl2 (List.mem_of_getElem? (i := 119) rfl)) rfl
theorem k_360 : Jvm.Cond.code ({ cls := "TurnHost$Machine", name := "send", desc := "(LTurnHost$HostProcess;LTurnHost$Term;)Z" } : MethodName) prog_4_method_7_code (3 : Nat) (Option.some Jvm.ClassFile.FieldType.boolean) ∈ th_tb := tbg (tbl2 (List.mem_of_getElem? (i := 120) rfl)) rfl
theorem k_361 : Jvm.Cond.methodLink "TurnHost$Machine" (163 : Nat) ({ cls := "TurnHost$Society", name := "deliver", desc := "(LTurnHost$HostProcess;LTurnHost$Term;)V" } : MethodName) ∈ th_tb := tbg (tbl2 (List.mem_of_getElem? (i := 121) rfl)) rfl
theorem k_362 : Jvm.Cond.methodLink "TurnHost$Machine" (123 : Nat) ({ cls := "TurnHost$Mailbox", name := "marked", desc := "()LTurnHost$Term;" } : MethodName) ∈ th_tb := tbg (tbl2 (List.mem_of_getElem? (i := 122) rfl)) rfl
theorem k_363 : Jvm.Cond.instanceMethod ({ cls := "TurnHost$Mailbox", name := "marked", desc := "()LTurnHost$Term;" } : MethodName) ∈ th_tb := tbg (tbl2 (List.mem_of_getElem? (i := 123) rfl)) rfl
theorem k_364 : Jvm.Cond.selects "TurnHost$Mailbox" ({ cls := "TurnHost$Mailbox", name := "marked", desc := "()LTurnHost$Term;" } : MethodName) ({ cls := "TurnHost$Mailbox", name := "marked", desc := "()LTurnHost$Term;" } : MethodName) ∈ th_tb := tbg (tbl2 (List.mem_of_getElem? (i := 124) rfl)) rfl
theorem k_365 : Jvm.Cond.code ({ cls := "TurnHost$Mailbox", name := "marked", desc := "()LTurnHost$Term;" } : MethodName) prog_5_method_4_code (1 : Nat) (Option.some (Jvm.ClassFile.FieldType.object "TurnHost$Term")) ∈ th_tb := tbg (tbl2 (List.mem_of_getElem? (i := 125) rfl)) rfl
theorem k_366 : Jvm.Cond.methodLink "TurnHost$Mailbox" (24 : Nat) ({ cls := "TurnHost$Mailbox", name := "at", desc := "(I)LTurnHost$Term;" } : MethodName) ∈ th_tb := tbg (tbl2 (List.mem_of_getElem? (i := 126) rfl)) rfl
theorem k_367 : Jvm.Cond.instanceMethod ({ cls := "TurnHost$Mailbox", name := "at", desc := "(I)LTurnHost$Term;" } : MethodName) ∈ th_tb := tbg (tbl2 (List.mem_of_getElem? (i := 127) rfl)) rfl
theorem k_368 : Jvm.Cond.selects "TurnHost$Mailbox" ({ cls := "TurnHost$Mailbox", name := "at", desc := "(I)LTurnHost$Term;" } : MethodName) ({ cls := "TurnHost$Mailbox", name := "at", desc := "(I)LTurnHost$Term;" } : MethodName) ∈ th_tb := tbg (tbl2 (List.mem_of_getElem? (i := 128) rfl)) rfl
theorem k_369 : Jvm.Cond.code ({ cls := "TurnHost$Mailbox", name := "at", desc := "(I)LTurnHost$Term;" } : MethodName) prog_5_method_3_code (2 : Nat) (Option.some (Jvm.ClassFile.FieldType.object "TurnHost$Term")) ∈ th_tb := tbg (tbl2 (List.mem_of_getElem? (i := 129) rfl)) rfl
theorem k_370 : Jvm.Cond.methodLink "TurnHost$Machine" (129 : Nat) ({ cls := "TurnHost$Mailbox", name := "take", desc := "()Z" } : MethodName) ∈ th_tb := tbg (tbl2 (List.mem_of_getElem? (i := 130) rfl)) rfl
theorem k_371 : Jvm.Cond.instanceMethod ({ cls := "TurnHost$Mailbox", name := "take", desc := "()Z" } : MethodName) ∈ th_tb := tbg (tbl2 (List.mem_of_getElem? (i := 131) rfl)) rfl
theorem k_372 : Jvm.Cond.selects "TurnHost$Mailbox" ({ cls := "TurnHost$Mailbox", name := "take", desc := "()Z" } : MethodName) ({ cls := "TurnHost$Mailbox", name := "take", desc := "()Z" } : MethodName) ∈ th_tb := tbg (tbl2 (List.mem_of_getElem? (i := 132) rfl)) rfl
theorem k_373 : Jvm.Cond.code ({ cls := "TurnHost$Mailbox", name := "take", desc := "()Z" } : MethodName) prog_5_method_6_code (2 : Nat) (Option.some Jvm.ClassFile.FieldType.boolean) ∈ th_tb := tbg (tbl2 (List.mem_of_getElem? (i := 133) rfl)) rfl
theorem k_374 : Jvm.Cond.methodLink "TurnHost$Mailbox" (28 : Nat) ({ cls := "TurnHost$Mailbox", name := "marked", desc := "()LTurnHost$Term;" } : MethodName) ∈ th_tb := tbg (tbl2 (List.mem_of_getElem? (i := 134) rfl)) rfl
theorem k_375 : Jvm.Cond.methodLink "TurnHost$Machine" (132 : Nat) ({ cls := "TurnHost$Machine", name := "passOver", desc := "(LTurnHost$HostProcess;I)Z" } : MethodName) ∈ th_tb := tbg (tbl2 (List.mem_of_getElem? (i := 135) rfl)) rfl
theorem k_376 : Jvm.Cond.static ({ cls := "TurnHost$Machine", name := "passOver", desc := "(LTurnHost$HostProcess;I)Z" } : MethodName) ∈ th_tb := tbg (tbl2 (List.mem_of_getElem? (i := 136) rfl)) rfl
theorem k_377 : Jvm.Cond.code ({ cls := "TurnHost$Machine", name := "passOver", desc := "(LTurnHost$HostProcess;I)Z" } : MethodName) prog_4_method_8_code (2 : Nat) (Option.some Jvm.ClassFile.FieldType.boolean) ∈ th_tb := tbg (tbl2 (List.mem_of_getElem? (i := 137) rfl)) rfl
theorem k_378 : Jvm.Cond.methodLink "TurnHost$Machine" (136 : Nat) ({ cls := "TurnHost$Machine", name := "waitOrGoOn", desc := "(LTurnHost$HostProcess;I)Z" } : MethodName) ∈ th_tb := tbg (tbl2 (List.mem_of_getElem? (i := 138) rfl)) rfl
theorem k_380 : Jvm.Cond.instanceMethod ({ cls := "TurnHost$Machine", name := "waitOrGoOn", desc := "(LTurnHost$HostProcess;I)Z" } : MethodName) ∈ th_tb := tbg (tbl2 (List.mem_of_getElem? (i := 140) rfl)) rfl
theorem k_381 : Jvm.Cond.code ({ cls := "TurnHost$Machine", name := "waitOrGoOn", desc := "(LTurnHost$HostProcess;I)Z" } : MethodName) prog_4_method_9_code (3 : Nat) (Option.some Jvm.ClassFile.FieldType.boolean) ∈ th_tb := tbg (tbl2 (List.mem_of_getElem? (i := 141) rfl)) rfl
theorem k_382 : Jvm.Cond.methodLink "TurnHost$Machine" (169 : Nat) ({ cls := "TurnHost$Society", name := "suspend", desc := "(LTurnHost$HostProcess;)V" } : MethodName) ∈ th_tb := tbg (tbl2 (List.mem_of_getElem? (i := 142) rfl)) rfl
theorem k_383 : Jvm.Cond.instanceMethod ({ cls := "TurnHost$Society", name := "suspend", desc := "(LTurnHost$HostProcess;)V" } : MethodName) ∈ th_tb := tbg (tbl2 (List.mem_of_getElem? (i := 143) rfl)) rfl
theorem k_384 : Jvm.Cond.selects "TurnHost$Society" ({ cls := "TurnHost$Society", name := "suspend", desc := "(LTurnHost$HostProcess;)V" } : MethodName) ({ cls := "TurnHost$Society", name := "suspend", desc := "(LTurnHost$HostProcess;)V" } : MethodName) ∈ th_tb := tbg (tbl2 (List.mem_of_getElem? (i := 144) rfl)) rfl
theorem k_385 : Jvm.Cond.code ({ cls := "TurnHost$Society", name := "suspend", desc := "(LTurnHost$HostProcess;)V" } : MethodName) prog_7_method_7_code (2 : Nat) (Option.none : Option Jvm.ClassFile.FieldType) ∈ th_tb := tbg (tbl2 (List.mem_of_getElem? (i := 145) rfl)) rfl
theorem k_386 : Jvm.Cond.methodLink "TurnHost$Machine" (139 : Nat) ({ cls := "TurnHost$Machine", name := "spawn", desc := "(LTurnHost$HostProcess;IILTurnHost$Term;)Z" } : MethodName) ∈ th_tb := tbg (tbl2 (List.mem_of_getElem? (i := 146) rfl)) rfl
theorem k_388 : Jvm.Cond.instanceMethod ({ cls := "TurnHost$Machine", name := "spawn", desc := "(LTurnHost$HostProcess;IILTurnHost$Term;)Z" } : MethodName) ∈ th_tb := tbg (tbl2 (List.mem_of_getElem? (i := 148) rfl)) rfl
theorem k_389 : Jvm.Cond.code ({ cls := "TurnHost$Machine", name := "spawn", desc := "(LTurnHost$HostProcess;IILTurnHost$Term;)Z" } : MethodName) prog_4_method_10_code (6 : Nat) (Option.some Jvm.ClassFile.FieldType.boolean) ∈ th_tb := tbg (tbl2 (List.mem_of_getElem? (i := 149) rfl)) rfl
theorem k_390 : Jvm.Cond.methodLink "TurnHost$Machine" (173 : Nat) ({ cls := "TurnHost$Society", name := "start", desc := "(ILTurnHost$Term;)LTurnHost$HostProcess;" } : MethodName) ∈ th_tb := tbg (tbl2 (List.mem_of_getElem? (i := 150) rfl)) rfl
theorem k_391 : Jvm.Cond.methodLink "TurnHost$Machine" (143 : Nat) ({ cls := "TurnHost$Machine", name := "link", desc := "(LTurnHost$HostProcess;LTurnHost$HostProcess;)Z" } : MethodName) ∈ th_tb := tbg (tbl2 (List.mem_of_getElem? (i := 151) rfl)) rfl
theorem k_393 : Jvm.Cond.instanceMethod ({ cls := "TurnHost$Machine", name := "link", desc := "(LTurnHost$HostProcess;LTurnHost$HostProcess;)Z" } : MethodName) ∈ th_tb := tbg (tbl2 (List.mem_of_getElem? (i := 153) rfl)) rfl
theorem k_394 : Jvm.Cond.code ({ cls := "TurnHost$Machine", name := "link", desc := "(LTurnHost$HostProcess;LTurnHost$HostProcess;)Z" } : MethodName) prog_4_method_11_code (3 : Nat) (Option.some Jvm.ClassFile.FieldType.boolean) ∈ th_tb := tbg (tbl2 (List.mem_of_getElem? (i := 154) rfl)) rfl
theorem k_396 : Jvm.Cond.methodLink "TurnHost$Machine" (184 : Nat) ({ cls := "TurnHost$Society", name := "tie", desc := "(LTurnHost$HostProcess;LTurnHost$HostProcess;)V" } : MethodName) ∈ th_tb := tbg (tbl2 (List.mem_of_getElem? (i := 156) rfl)) rfl
theorem k_397 : Jvm.Cond.instanceMethod ({ cls := "TurnHost$Society", name := "tie", desc := "(LTurnHost$HostProcess;LTurnHost$HostProcess;)V" } : MethodName) ∈ th_tb := tbg (tbl2 (List.mem_of_getElem? (i := 157) rfl)) rfl
theorem k_398 : Jvm.Cond.selects "TurnHost$Society" ({ cls := "TurnHost$Society", name := "tie", desc := "(LTurnHost$HostProcess;LTurnHost$HostProcess;)V" } : MethodName) ({ cls := "TurnHost$Society", name := "tie", desc := "(LTurnHost$HostProcess;LTurnHost$HostProcess;)V" } : MethodName) ∈ th_tb := tbg (tbl2 (List.mem_of_getElem? (i := 158) rfl)) rfl
theorem k_399 : Jvm.Cond.code ({ cls := "TurnHost$Society", name := "tie", desc := "(LTurnHost$HostProcess;LTurnHost$HostProcess;)V" } : MethodName) prog_7_method_8_code (3 : Nat) (Option.none : Option Jvm.ClassFile.FieldType) ∈ th_tb := tbg (tbl2 (List.mem_of_getElem? (i := 159) rfl)) rfl
theorem k_400 : Jvm.Cond.methodLink "TurnHost$Machine" (147 : Nat) ({ cls := "TurnHost$Machine", name := "trap", desc := "(LTurnHost$HostProcess;Z)Z" } : MethodName) ∈ th_tb := tbg (tbl2 (List.mem_of_getElem? (i := 160) rfl)) rfl
theorem k_401 : Jvm.Cond.static ({ cls := "TurnHost$Machine", name := "trap", desc := "(LTurnHost$HostProcess;Z)Z" } : MethodName) ∈ th_tb := tbg (tbl2 (List.mem_of_getElem? (i := 161) rfl)) rfl
theorem k_402 : Jvm.Cond.code ({ cls := "TurnHost$Machine", name := "trap", desc := "(LTurnHost$HostProcess;Z)Z" } : MethodName) prog_4_method_12_code (2 : Nat) (Option.some Jvm.ClassFile.FieldType.boolean) ∈ th_tb := tbg (tbl2 (List.mem_of_getElem? (i := 162) rfl)) rfl
theorem k_403 : Jvm.Cond.methodLink "TurnHost$Machine" (151 : Nat) ({ cls := "TurnHost$Machine", name := "finish", desc := "(LTurnHost$HostProcess;LTurnHost$Term;)Z" } : MethodName) ∈ th_tb := tbg (tbl2 (List.mem_of_getElem? (i := 163) rfl)) rfl
theorem k_405 : Jvm.Cond.instanceMethod ({ cls := "TurnHost$Machine", name := "finish", desc := "(LTurnHost$HostProcess;LTurnHost$Term;)Z" } : MethodName) ∈ th_tb := tbg (tbl2 (List.mem_of_getElem? (i := 165) rfl)) rfl
theorem k_406 : Jvm.Cond.code ({ cls := "TurnHost$Machine", name := "finish", desc := "(LTurnHost$HostProcess;LTurnHost$Term;)Z" } : MethodName) prog_4_method_13_code (3 : Nat) (Option.some Jvm.ClassFile.FieldType.boolean) ∈ th_tb := tbg (tbl2 (List.mem_of_getElem? (i := 166) rfl)) rfl
theorem k_407 : Jvm.Cond.methodLink "TurnHost$Machine" (154 : Nat) ({ cls := "TurnHost$Machine", name := "stop", desc := "(LTurnHost$HostProcess;LTurnHost$HostProcess;)Z" } : MethodName) ∈ th_tb := tbg (tbl2 (List.mem_of_getElem? (i := 167) rfl)) rfl
theorem k_409 : Jvm.Cond.instanceMethod ({ cls := "TurnHost$Machine", name := "stop", desc := "(LTurnHost$HostProcess;LTurnHost$HostProcess;)Z" } : MethodName) ∈ th_tb := tbg (tbl2 (List.mem_of_getElem? (i := 169) rfl)) rfl
theorem k_410 : Jvm.Cond.code ({ cls := "TurnHost$Machine", name := "stop", desc := "(LTurnHost$HostProcess;LTurnHost$HostProcess;)Z" } : MethodName) prog_4_method_14_code (3 : Nat) (Option.some Jvm.ClassFile.FieldType.boolean) ∈ th_tb := tbg (tbl2 (List.mem_of_getElem? (i := 170) rfl)) rfl
theorem k_411 : Jvm.Cond.methodLink "TurnHost" (80 : Nat) ({ cls := "TurnHost", name := "countInTurn", desc := "(LTurnHost$HostProcess;)V" } : MethodName) ∈ th_tb := tbg (tbl2 (List.mem_of_getElem? (i := 171) rfl)) rfl
theorem k_413 : Jvm.Cond.instanceMethod ({ cls := "TurnHost", name := "countInTurn", desc := "(LTurnHost$HostProcess;)V" } : MethodName) ∈ th_tb := tbg (tbl2 (List.mem_of_getElem? (i := 173) rfl)) rfl
theorem k_414 : Jvm.Cond.code ({ cls := "TurnHost", name := "countInTurn", desc := "(LTurnHost$HostProcess;)V" } : MethodName) prog_1_method_13_code (2 : Nat) (Option.none : Option Jvm.ClassFile.FieldType) ∈ th_tb := tbg (tbl2 (List.mem_of_getElem? (i := 174) rfl)) rfl
theorem k_415 : Jvm.Cond.methodLink "TurnHost" (111 : Nat) ({ cls := "TurnHost$Line", name := "leave", desc := "(I)V" } : MethodName) ∈ th_tb := tbg (tbl2 (List.mem_of_getElem? (i := 175) rfl)) rfl
theorem k_416 : Jvm.Cond.methodLink "TurnHost" (115 : Nat) ({ cls := "TurnHost$Line", name := "append", desc := "(I)V" } : MethodName) ∈ th_tb := tbg (tbl2 (List.mem_of_getElem? (i := 176) rfl)) rfl
theorem k_417 : Jvm.Cond.methodLink "TurnHostLaw" (41 : Nat) ({ cls := "TurnHost", name := "clear", desc := "(Z)I" } : MethodName) ∈ th_tb := tbg (tbl2 (List.mem_of_getElem? (i := 177) rfl)) rfl
theorem k_418 : Jvm.Cond.instanceMethod ({ cls := "TurnHost", name := "clear", desc := "(Z)I" } : MethodName) ∈ th_tb := tbg (tbl2 (List.mem_of_getElem? (i := 178) rfl)) rfl
theorem k_419 : Jvm.Cond.selects "TurnHost" ({ cls := "TurnHost", name := "clear", desc := "(Z)I" } : MethodName) ({ cls := "TurnHost", name := "clear", desc := "(Z)I" } : MethodName) ∈ th_tb := tbg (tbl2 (List.mem_of_getElem? (i := 179) rfl)) rfl
theorem k_420 : Jvm.Cond.code ({ cls := "TurnHost", name := "clear", desc := "(Z)I" } : MethodName) prog_1_method_6_code (3 : Nat) (Option.some Jvm.ClassFile.FieldType.int) ∈ th_tb := tbg (tbl2 (List.mem_of_getElem? (i := 180) rfl)) rfl
theorem k_421 : Jvm.Cond.methodLink "TurnHost" (86 : Nat) ({ cls := "TurnHost$Society", name := "dissolve", desc := "()V" } : MethodName) ∈ th_tb := tbg (tbl2 (List.mem_of_getElem? (i := 181) rfl)) rfl
theorem k_422 : Jvm.Cond.instanceMethod ({ cls := "TurnHost$Society", name := "dissolve", desc := "()V" } : MethodName) ∈ th_tb := tbg (tbl2 (List.mem_of_getElem? (i := 182) rfl)) rfl
theorem k_423 : Jvm.Cond.selects "TurnHost$Society" ({ cls := "TurnHost$Society", name := "dissolve", desc := "()V" } : MethodName) ({ cls := "TurnHost$Society", name := "dissolve", desc := "()V" } : MethodName) ∈ th_tb := tbg (tbl2 (List.mem_of_getElem? (i := 183) rfl)) rfl
theorem k_424 : Jvm.Cond.code ({ cls := "TurnHost$Society", name := "dissolve", desc := "()V" } : MethodName) prog_7_method_2_code (1 : Nat) (Option.none : Option Jvm.ClassFile.FieldType) ∈ th_tb := tbg (tbl2 (List.mem_of_getElem? (i := 184) rfl)) rfl
theorem k_425 : Jvm.Cond.methodLink "TurnHost$Society" (44 : Nat) ({ cls := "TurnHost$Line", name := "empty", desc := "()V" } : MethodName) ∈ th_tb := tbg (tbl2 (List.mem_of_getElem? (i := 185) rfl)) rfl
theorem k_426 : Jvm.Cond.instanceMethod ({ cls := "TurnHost$Line", name := "empty", desc := "()V" } : MethodName) ∈ th_tb := tbg (tbl2 (List.mem_of_getElem? (i := 186) rfl)) rfl
theorem k_427 : Jvm.Cond.selects "TurnHost$Line" ({ cls := "TurnHost$Line", name := "empty", desc := "()V" } : MethodName) ({ cls := "TurnHost$Line", name := "empty", desc := "()V" } : MethodName) ∈ th_tb := tbg (tbl2 (List.mem_of_getElem? (i := 187) rfl)) rfl
theorem k_428 : Jvm.Cond.code ({ cls := "TurnHost$Line", name := "empty", desc := "()V" } : MethodName) prog_3_method_2_code (1 : Nat) (Option.none : Option Jvm.ClassFile.FieldType) ∈ th_tb := tbg (tbl2 (List.mem_of_getElem? (i := 188) rfl)) rfl
theorem k_429 : Jvm.Cond.methodLink "TurnHost" (89 : Nat) ({ cls := "TurnHost$Program", name := "wipe", desc := "()V" } : MethodName) ∈ th_tb := tbg (tbl2 (List.mem_of_getElem? (i := 189) rfl)) rfl
theorem k_430 : Jvm.Cond.instanceMethod ({ cls := "TurnHost$Program", name := "wipe", desc := "()V" } : MethodName) ∈ th_tb := tbg (tbl2 (List.mem_of_getElem? (i := 190) rfl)) rfl
theorem k_431 : Jvm.Cond.selects "TurnHost$Program" ({ cls := "TurnHost$Program", name := "wipe", desc := "()V" } : MethodName) ({ cls := "TurnHost$Program", name := "wipe", desc := "()V" } : MethodName) ∈ th_tb := tbg (tbl2 (List.mem_of_getElem? (i := 191) rfl)) rfl
theorem k_432 : Jvm.Cond.code ({ cls := "TurnHost$Program", name := "wipe", desc := "()V" } : MethodName) prog_6_method_5_code (1 : Nat) (Option.none : Option Jvm.ClassFile.FieldType) ∈ th_tb := tbg (tbl2 (List.mem_of_getElem? (i := 192) rfl)) rfl
theorem k_433 : Jvm.Cond.methodLink "TurnHostLaw" (46 : Nat) ({ cls := "TurnHost", name := "process", desc := "(II)I" } : MethodName) ∈ th_tb := tbg (tbl2 (List.mem_of_getElem? (i := 193) rfl)) rfl
theorem k_434 : Jvm.Cond.instanceMethod ({ cls := "TurnHost", name := "process", desc := "(II)I" } : MethodName) ∈ th_tb := tbg (tbl2 (List.mem_of_getElem? (i := 194) rfl)) rfl
theorem k_435 : Jvm.Cond.selects "TurnHost" ({ cls := "TurnHost", name := "process", desc := "(II)I" } : MethodName) ({ cls := "TurnHost", name := "process", desc := "(II)I" } : MethodName) ∈ th_tb := tbg (tbl2 (List.mem_of_getElem? (i := 195) rfl)) rfl
theorem k_436 : Jvm.Cond.code ({ cls := "TurnHost", name := "process", desc := "(II)I" } : MethodName) prog_1_method_7_code (4 : Nat) (Option.some Jvm.ClassFile.FieldType.int) ∈ th_tb := tbg (tbl2 (List.mem_of_getElem? (i := 196) rfl)) rfl
theorem k_437 : Jvm.Cond.methodLink "TurnHost" (92 : Nat) ({ cls := "TurnHost$HostProcess", name := "answer", desc := "(I)I" } : MethodName) ∈ th_tb := tbg (tbl2 (List.mem_of_getElem? (i := 197) rfl)) rfl
theorem k_438 : Jvm.Cond.instanceMethod ({ cls := "TurnHost$HostProcess", name := "answer", desc := "(I)I" } : MethodName) ∈ th_tb := tbg (tbl2 (List.mem_of_getElem? (i := 198) rfl)) rfl
theorem k_439 : Jvm.Cond.selects "TurnHost$HostProcess" ({ cls := "TurnHost$HostProcess", name := "answer", desc := "(I)I" } : MethodName) ({ cls := "TurnHost$HostProcess", name := "answer", desc := "(I)I" } : MethodName) ∈ th_tb := tbg (tbl2 (List.mem_of_getElem? (i := 199) rfl)) rfl
theorem k_440 : Jvm.Cond.code ({ cls := "TurnHost$HostProcess", name := "answer", desc := "(I)I" } : MethodName) prog_2_method_6_code (2 : Nat) (Option.some Jvm.ClassFile.FieldType.int) ∈ th_tb := tbg (tbl2 (List.mem_of_getElem? (i := 200) rfl)) rfl
theorem k_441 : Jvm.Cond.methodLink "TurnHostLaw" (50 : Nat) ({ cls := "TurnHost", name := "queue", desc := "(I)I" } : MethodName) ∈ th_tb := tbg (tbl2 (List.mem_of_getElem? (i := 201) rfl)) rfl
theorem k_442 : Jvm.Cond.instanceMethod ({ cls := "TurnHost", name := "queue", desc := "(I)I" } : MethodName) ∈ th_tb := tbg (tbl2 (List.mem_of_getElem? (i := 202) rfl)) rfl
theorem k_443 : Jvm.Cond.selects "TurnHost" ({ cls := "TurnHost", name := "queue", desc := "(I)I" } : MethodName) ({ cls := "TurnHost", name := "queue", desc := "(I)I" } : MethodName) ∈ th_tb := tbg (tbl2 (List.mem_of_getElem? (i := 203) rfl)) rfl
theorem k_444 : Jvm.Cond.code ({ cls := "TurnHost", name := "queue", desc := "(I)I" } : MethodName) prog_1_method_8_code (2 : Nat) (Option.some Jvm.ClassFile.FieldType.int) ∈ th_tb := tbg (tbl2 (List.mem_of_getElem? (i := 204) rfl)) rfl
theorem k_445 : Jvm.Cond.methodLink "TurnHostLaw" (54 : Nat) ({ cls := "TurnHost", name := "processes", desc := "()I" } : MethodName) ∈ th_tb := tbg (tbl2 (List.mem_of_getElem? (i := 205) rfl)) rfl
theorem k_446 : Jvm.Cond.instanceMethod ({ cls := "TurnHost", name := "processes", desc := "()I" } : MethodName) ∈ th_tb := tbg (tbl2 (List.mem_of_getElem? (i := 206) rfl)) rfl
theorem k_447 : Jvm.Cond.selects "TurnHost" ({ cls := "TurnHost", name := "processes", desc := "()I" } : MethodName) ({ cls := "TurnHost", name := "processes", desc := "()I" } : MethodName) ∈ th_tb := tbg (tbl2 (List.mem_of_getElem? (i := 207) rfl)) rfl
theorem k_448 : Jvm.Cond.code ({ cls := "TurnHost", name := "processes", desc := "()I" } : MethodName) prog_1_method_9_code (1 : Nat) (Option.some Jvm.ClassFile.FieldType.int) ∈ th_tb := tbg (tbl2 (List.mem_of_getElem? (i := 208) rfl)) rfl
theorem k_449 : Jvm.Cond.methodLink "TurnHostLaw" (59 : Nat) ({ cls := "TurnHost", name := "term", desc := "(II)I" } : MethodName) ∈ th_tb := tbg (tbl2 (List.mem_of_getElem? (i := 209) rfl)) rfl
theorem k_450 : Jvm.Cond.instanceMethod ({ cls := "TurnHost", name := "term", desc := "(II)I" } : MethodName) ∈ th_tb := tbg (tbl2 (List.mem_of_getElem? (i := 210) rfl)) rfl
theorem k_451 : Jvm.Cond.selects "TurnHost" ({ cls := "TurnHost", name := "term", desc := "(II)I" } : MethodName) ({ cls := "TurnHost", name := "term", desc := "(II)I" } : MethodName) ∈ th_tb := tbg (tbl2 (List.mem_of_getElem? (i := 211) rfl)) rfl
theorem k_452 : Jvm.Cond.code ({ cls := "TurnHost", name := "term", desc := "(II)I" } : MethodName) prog_1_method_10_code (4 : Nat) (Option.some Jvm.ClassFile.FieldType.int) ∈ th_tb := tbg (tbl2 (List.mem_of_getElem? (i := 212) rfl)) rfl
theorem k_453 : Jvm.Cond.methodLink "TurnHost" (95 : Nat) ({ cls := "TurnHost", name := "termOf", desc := "(II)LTurnHost$Term;" } : MethodName) ∈ th_tb := tbg (tbl2 (List.mem_of_getElem? (i := 213) rfl)) rfl
theorem k_455 : Jvm.Cond.instanceMethod ({ cls := "TurnHost", name := "termOf", desc := "(II)LTurnHost$Term;" } : MethodName) ∈ th_tb := tbg (tbl2 (List.mem_of_getElem? (i := 215) rfl)) rfl
theorem k_456 : Jvm.Cond.code ({ cls := "TurnHost", name := "termOf", desc := "(II)LTurnHost$Term;" } : MethodName) prog_1_method_12_code (4 : Nat) (Option.some (Jvm.ClassFile.FieldType.object "TurnHost$Term")) ∈ th_tb := tbg (tbl2 (List.mem_of_getElem? (i := 216) rfl)) rfl
theorem k_457 : Jvm.Cond.methodLink "TurnHost" (107 : Nat) ({ cls := "TurnHost$HostProcess", name := "termAt", desc := "(I)LTurnHost$Term;" } : MethodName) ∈ th_tb := tbg (tbl2 (List.mem_of_getElem? (i := 217) rfl)) rfl
theorem k_458 : Jvm.Cond.instanceMethod ({ cls := "TurnHost$HostProcess", name := "termAt", desc := "(I)LTurnHost$Term;" } : MethodName) ∈ th_tb := tbg (tbl2 (List.mem_of_getElem? (i := 218) rfl)) rfl
theorem k_459 : Jvm.Cond.selects "TurnHost$HostProcess" ({ cls := "TurnHost$HostProcess", name := "termAt", desc := "(I)LTurnHost$Term;" } : MethodName) ({ cls := "TurnHost$HostProcess", name := "termAt", desc := "(I)LTurnHost$Term;" } : MethodName) ∈ th_tb := tbg (tbl2 (List.mem_of_getElem? (i := 219) rfl)) rfl
theorem k_460 : Jvm.Cond.code ({ cls := "TurnHost$HostProcess", name := "termAt", desc := "(I)LTurnHost$Term;" } : MethodName) prog_2_method_7_code (2 : Nat) (Option.some (Jvm.ClassFile.FieldType.object "TurnHost$Term")) ∈ th_tb := tbg (tbl2 (List.mem_of_getElem? (i := 220) rfl)) rfl
theorem k_461 : Jvm.Cond.methodLink "TurnHost$HostProcess" (70 : Nat) ({ cls := "TurnHost$Mailbox", name := "at", desc := "(I)LTurnHost$Term;" } : MethodName) ∈ th_tb := tbg (tbl2 (List.mem_of_getElem? (i := 221) rfl)) rfl
theorem k_462 : Jvm.Cond.methodLink "TurnHost" (99 : Nat) ({ cls := "TurnHost$Term", name := "summary", desc := "()I" } : MethodName) ∈ th_tb := tbg (tbl2 (List.mem_of_getElem? (i := 222) rfl)) rfl
theorem k_463 : Jvm.Cond.instanceMethod ({ cls := "TurnHost$Term", name := "summary", desc := "()I" } : MethodName) ∈ th_tb := tbg (tbl2 (List.mem_of_getElem? (i := 223) rfl)) rfl
theorem k_464 : Jvm.Cond.selects "TurnHost$Term" ({ cls := "TurnHost$Term", name := "summary", desc := "()I" } : MethodName) ({ cls := "TurnHost$Term", name := "summary", desc := "()I" } : MethodName) ∈ th_tb := tbg (tbl2 (List.mem_of_getElem? (i := 224) rfl)) rfl
theorem k_465 : Jvm.Cond.code ({ cls := "TurnHost$Term", name := "summary", desc := "()I" } : MethodName) prog_8_method_6_code (2 : Nat) (Option.some Jvm.ClassFile.FieldType.int) ∈ th_tb := tbg (tbl2 (List.mem_of_getElem? (i := 225) rfl)) rfl
theorem k_466 : Jvm.Cond.methodLink "TurnHost$Term" (31 : Nat) ({ cls := "TurnHost$Term", name := "hasNumber", desc := "()Z" } : MethodName) ∈ th_tb := tbg (tbl2 (List.mem_of_getElem? (i := 226) rfl)) rfl
theorem k_467 : Jvm.Cond.instanceMethod ({ cls := "TurnHost$Term", name := "hasNumber", desc := "()Z" } : MethodName) ∈ th_tb := tbg (tbl2 (List.mem_of_getElem? (i := 227) rfl)) rfl
theorem k_468 : Jvm.Cond.selects "TurnHost$Term" ({ cls := "TurnHost$Term", name := "hasNumber", desc := "()Z" } : MethodName) ({ cls := "TurnHost$Term", name := "hasNumber", desc := "()Z" } : MethodName) ∈ th_tb := tbg (tbl2 (List.mem_of_getElem? (i := 228) rfl)) rfl
theorem k_469 : Jvm.Cond.code ({ cls := "TurnHost$Term", name := "hasNumber", desc := "()Z" } : MethodName) prog_8_method_5_code (1 : Nat) (Option.some Jvm.ClassFile.FieldType.boolean) ∈ th_tb := tbg (tbl2 (List.mem_of_getElem? (i := 229) rfl)) rfl
theorem k_470 : Jvm.Cond.methodLink "TurnHost$Term" (35 : Nat) ({ cls := "java/lang/Math", name := "floorMod", desc := "(II)I" } : MethodName) ∈ th_tb := tbg (tbl2 (List.mem_of_getElem? (i := 230) rfl)) rfl
theorem k_471 : Jvm.Cond.static ({ cls := "java/lang/Math", name := "floorMod", desc := "(II)I" } : MethodName) ∈ th_tb := tbg (tbl2 (List.mem_of_getElem? (i := 231) rfl)) rfl
theorem k_472 : Jvm.Cond.code ({ cls := "java/lang/Math", name := "floorMod", desc := "(II)I" } : MethodName) prog_11_method_50_code (3 : Nat) (Option.some Jvm.ClassFile.FieldType.int) ∈ th_tb := tbg (tbl2 (List.mem_of_getElem? (i := 232) rfl)) rfl
theorem k_473 : Jvm.Cond.constant "TurnHost$Term" (41 : Nat) (1000000 : Int32) ∈ th_tb := tbg (tbl2 (List.mem_of_getElem? (i := 233) rfl)) rfl
theorem k_474 : Jvm.Cond.methodLink "TurnHostLaw" (63 : Nat) ({ cls := "TurnHost", name := "digest", desc := "(II)I" } : MethodName) ∈ th_tb := tbg (tbl2 (List.mem_of_getElem? (i := 234) rfl)) rfl
theorem k_475 : Jvm.Cond.instanceMethod ({ cls := "TurnHost", name := "digest", desc := "(II)I" } : MethodName) ∈ th_tb := tbg (tbl2 (List.mem_of_getElem? (i := 235) rfl)) rfl
theorem k_476 : Jvm.Cond.selects "TurnHost" ({ cls := "TurnHost", name := "digest", desc := "(II)I" } : MethodName) ({ cls := "TurnHost", name := "digest", desc := "(II)I" } : MethodName) ∈ th_tb := tbg (tbl2 (List.mem_of_getElem? (i := 236) rfl)) rfl
theorem k_477 : Jvm.Cond.code ({ cls := "TurnHost", name := "digest", desc := "(II)I" } : MethodName) prog_1_method_11_code (4 : Nat) (Option.some Jvm.ClassFile.FieldType.int) ∈ th_tb := tbg (tbl2 (List.mem_of_getElem? (i := 237) rfl)) rfl
theorem k_479 : Jvm.Cond.static ({ cls := "TurnHost$Term", name := "mixed", desc := "(ILTurnHost$Term;)I" } : MethodName) ∈ th_tb := tbg (tbl2 (List.mem_of_getElem? (i := 239) rfl)) rfl
theorem k_480 : Jvm.Cond.code ({ cls := "TurnHost$Term", name := "mixed", desc := "(ILTurnHost$Term;)I" } : MethodName) prog_8_method_8_code (3 : Nat) (Option.some Jvm.ClassFile.FieldType.int) ∈ th_tb := tbg (tbl3 (List.mem_of_getElem? (i := 0) rfl)) rfl
theorem k_481 : Jvm.Cond.methodLink "TurnHost$Term" (49 : Nat) ({ cls := "TurnHost$Term", name := "mixed", desc := "(ILTurnHost$Term;)I" } : MethodName) ∈ th_tb := tbg (tbl3 (List.mem_of_getElem? (i := 1) rfl)) rfl
theorem k_482 : Jvm.Cond.methodLink "TurnHostLaw" (9 : Nat) ({ cls := "TurnHostLaw", name := "cell", desc := "([II)I" } : MethodName) ∈ th_tb := tbg (tbl3 (List.mem_of_getElem? (i := 2) rfl)) rfl
theorem k_483 : Jvm.Cond.static ({ cls := "TurnHostLaw", name := "cell", desc := "([II)I" } : MethodName) ∈ th_tb := tbg (tbl3 (List.mem_of_getElem? (i := 3) rfl)) rfl
theorem k_484 : Jvm.Cond.code ({ cls := "TurnHostLaw", name := "cell", desc := "([II)I" } : MethodName) method_2_code (2 : Nat) (Option.some Jvm.ClassFile.FieldType.int) ∈ th_tb := tbg (tbl3 (List.mem_of_getElem? (i := 4) rfl)) rfl
theorem k_485 : Jvm.Cond.classLink "TurnHostLaw" (18 : Nat) "TurnHostModel" ∈ th_tb := tbg (tbl3 (List.mem_of_getElem? (i := 5) rfl)) rfl
theorem k_486 : Jvm.Cond.instantiable "TurnHostModel" (22 : Nat) ∈ th_tb := tbg (tbl3 (List.mem_of_getElem? (i := 6) rfl)) rfl
theorem k_487 : Jvm.Cond.methodLink "TurnHostLaw" (20 : Nat) ({ cls := "TurnHostModel", name := "<init>", desc := "(I)V" } : MethodName) ∈ th_tb := tbg (tbl3 (List.mem_of_getElem? (i := 7) rfl)) rfl
theorem k_488 : Jvm.Cond.instanceMethod ({ cls := "TurnHostModel", name := "<init>", desc := "(I)V" } : MethodName) ∈ th_tb := tbg (tbl3 (List.mem_of_getElem? (i := 8) rfl)) rfl
theorem k_489 : Jvm.Cond.code ({ cls := "TurnHostModel", name := "<init>", desc := "(I)V" } : MethodName) prog_10_method_1_code (2 : Nat) (Option.none : Option Jvm.ClassFile.FieldType) ∈ th_tb := tbg (tbl3 (List.mem_of_getElem? (i := 9) rfl)) rfl
theorem k_490 : Jvm.Cond.methodLink "TurnHostModel" (1 : Nat) ({ cls := "java/lang/Object", name := "<init>", desc := "()V" } : MethodName) ∈ th_tb := tbg (tbl3 (List.mem_of_getElem? (i := 10) rfl)) rfl
theorem k_491 : Jvm.Cond.fieldLink "TurnHostModel" (62 : Nat) "TurnHostModel" "quota" "I" ∈ th_tb := tbg (tbl3 (List.mem_of_getElem? (i := 11) rfl)) rfl
theorem k_492 : Jvm.Cond.fieldLink "TurnHostModel" (85 : Nat) "TurnHostModel" "size" "I" ∈ th_tb := tbg (tbl3 (List.mem_of_getElem? (i := 12) rfl)) rfl
theorem k_493 : Jvm.Cond.fieldLink "TurnHostModel" (7 : Nat) "TurnHostModel" "op" "[I" ∈ th_tb := tbg (tbl3 (List.mem_of_getElem? (i := 13) rfl)) rfl
theorem k_494 : Jvm.Cond.fieldLink "TurnHostModel" (13 : Nat) "TurnHostModel" "one" "[I" ∈ th_tb := tbg (tbl3 (List.mem_of_getElem? (i := 14) rfl)) rfl
theorem k_495 : Jvm.Cond.fieldLink "TurnHostModel" (16 : Nat) "TurnHostModel" "two" "[I" ∈ th_tb := tbg (tbl3 (List.mem_of_getElem? (i := 15) rfl)) rfl
theorem k_496 : Jvm.Cond.fieldLink "TurnHostModel" (19 : Nat) "TurnHostModel" "three" "[I" ∈ th_tb := tbg (tbl3 (List.mem_of_getElem? (i := 16) rfl)) rfl
theorem k_497 : Jvm.Cond.fieldLink "TurnHostModel" (22 : Nat) "TurnHostModel" "table" "[I" ∈ th_tb := tbg (tbl3 (List.mem_of_getElem? (i := 17) rfl)) rfl
theorem k_498 : Jvm.Cond.fieldLink "TurnHostModel" (131 : Nat) "TurnHostModel" "count" "I" ∈ th_tb := tbg (tbl3 (List.mem_of_getElem? (i := 18) rfl)) rfl
theorem k_499 : Jvm.Cond.fieldLink "TurnHostModel" (25 : Nat) "TurnHostModel" "state" "[I" ∈ th_tb := tbg (tbl3 (List.mem_of_getElem? (i := 19) rfl)) rfl
theorem k_500 : Jvm.Cond.fieldLink "TurnHostModel" (28 : Nat) "TurnHostModel" "place" "[I" ∈ th_tb := tbg (tbl3 (List.mem_of_getElem? (i := 20) rfl)) rfl
theorem k_501 : Jvm.Cond.fieldLink "TurnHostModel" (31 : Nat) "TurnHostModel" "mark" "[I" ∈ th_tb := tbg (tbl3 (List.mem_of_getElem? (i := 21) rfl)) rfl
theorem k_502 : Jvm.Cond.fieldLink "TurnHostModel" (34 : Nat) "TurnHostModel" "messages" "[I" ∈ th_tb := tbg (tbl3 (List.mem_of_getElem? (i := 22) rfl)) rfl
theorem k_503 : Jvm.Cond.fieldLink "TurnHostModel" (37 : Nat) "TurnHostModel" "calls" "[I" ∈ th_tb := tbg (tbl3 (List.mem_of_getElem? (i := 23) rfl)) rfl
theorem k_504 : Jvm.Cond.fieldLink "TurnHostModel" (40 : Nat) "TurnHostModel" "returns" "[I" ∈ th_tb := tbg (tbl3 (List.mem_of_getElem? (i := 24) rfl)) rfl
theorem k_505 : Jvm.Cond.fieldLink "TurnHostModel" (43 : Nat) "TurnHostModel" "links" "[I" ∈ th_tb := tbg (tbl3 (List.mem_of_getElem? (i := 25) rfl)) rfl
theorem k_506 : Jvm.Cond.fieldLink "TurnHostModel" (46 : Nat) "TurnHostModel" "traps" "[Z" ∈ th_tb := tbg (tbl3 (List.mem_of_getElem? (i := 26) rfl)) rfl
theorem k_507 : Jvm.Cond.fieldLink "TurnHostModel" (50 : Nat) "TurnHostModel" "done" "[I" ∈ th_tb := tbg (tbl3 (List.mem_of_getElem? (i := 27) rfl)) rfl
theorem k_508 : Jvm.Cond.fieldLink "TurnHostModel" (101 : Nat) "TurnHostModel" "waiting" "I" ∈ th_tb := tbg (tbl3 (List.mem_of_getElem? (i := 28) rfl)) rfl
theorem k_509 : Jvm.Cond.fieldLink "TurnHostModel" (53 : Nat) "TurnHostModel" "row" "[I" ∈ th_tb := tbg (tbl3 (List.mem_of_getElem? (i := 29) rfl)) rfl
theorem k_510 : Jvm.Cond.fieldLink "TurnHostModel" (104 : Nat) "TurnHostModel" "used" "I" ∈ th_tb := tbg (tbl3 (List.mem_of_getElem? (i := 30) rfl)) rfl
theorem k_511 : Jvm.Cond.fieldLink "TurnHostModel" (56 : Nat) "TurnHostModel" "telling" "[I" ∈ th_tb := tbg (tbl3 (List.mem_of_getElem? (i := 31) rfl)) rfl
theorem k_512 : Jvm.Cond.fieldLink "TurnHostModel" (59 : Nat) "TurnHostModel" "next" "[I" ∈ th_tb := tbg (tbl3 (List.mem_of_getElem? (i := 32) rfl)) rfl
theorem k_513 : Jvm.Cond.laysFinal "TurnHostModel" "TurnHostModel" "quota" "I" ∈ th_tb := tbg (tbl3 (List.mem_of_getElem? (i := 33) rfl)) rfl
theorem k_515 : Jvm.Cond.lays "TurnHostModel" "TurnHostModel" "size" "I" ∈ th_tb := tbg (tbl3 (List.mem_of_getElem? (i := 35) rfl)) rfl
theorem k_517 : Jvm.Cond.laysFinal "TurnHostModel" "TurnHostModel" "op" "[I" ∈ th_tb := tbg (tbl3 (List.mem_of_getElem? (i := 37) rfl)) rfl
theorem k_519 : Jvm.Cond.laysFinal "TurnHostModel" "TurnHostModel" "one" "[I" ∈ th_tb := tbg (tbl3 (List.mem_of_getElem? (i := 39) rfl)) rfl
theorem k_521 : Jvm.Cond.laysFinal "TurnHostModel" "TurnHostModel" "two" "[I" ∈ th_tb := tbg (tbl3 (List.mem_of_getElem? (i := 41) rfl)) rfl
theorem k_523 : Jvm.Cond.laysFinal "TurnHostModel" "TurnHostModel" "three" "[I" ∈ th_tb := tbg (tbl3 (List.mem_of_getElem? (i := 43) rfl)) rfl
theorem k_525 : Jvm.Cond.laysFinal "TurnHostModel" "TurnHostModel" "table" "[I" ∈ th_tb := tbg (tbl3 (List.mem_of_getElem? (i := 45) rfl)) rfl
theorem k_527 : Jvm.Cond.lays "TurnHostModel" "TurnHostModel" "count" "I" ∈ th_tb := tbg (tbl3 (List.mem_of_getElem? (i := 47) rfl)) rfl
theorem k_529 : Jvm.Cond.laysFinal "TurnHostModel" "TurnHostModel" "state" "[I" ∈ th_tb := tbg (tbl3 (List.mem_of_getElem? (i := 49) rfl)) rfl
theorem k_531 : Jvm.Cond.laysFinal "TurnHostModel" "TurnHostModel" "place" "[I" ∈ th_tb := tbg (tbl3 (List.mem_of_getElem? (i := 51) rfl)) rfl
theorem k_533 : Jvm.Cond.laysFinal "TurnHostModel" "TurnHostModel" "mark" "[I" ∈ th_tb := tbg (tbl3 (List.mem_of_getElem? (i := 53) rfl)) rfl
theorem k_535 : Jvm.Cond.laysFinal "TurnHostModel" "TurnHostModel" "messages" "[I" ∈ th_tb := tbg (tbl3 (List.mem_of_getElem? (i := 55) rfl)) rfl
theorem k_537 : Jvm.Cond.laysFinal "TurnHostModel" "TurnHostModel" "calls" "[I" ∈ th_tb := tbg (tbl3 (List.mem_of_getElem? (i := 57) rfl)) rfl
theorem k_539 : Jvm.Cond.laysFinal "TurnHostModel" "TurnHostModel" "returns" "[I" ∈ th_tb := tbg (tbl3 (List.mem_of_getElem? (i := 59) rfl)) rfl
theorem k_541 : Jvm.Cond.laysFinal "TurnHostModel" "TurnHostModel" "links" "[I" ∈ th_tb := tbg (tbl3 (List.mem_of_getElem? (i := 61) rfl)) rfl
theorem k_543 : Jvm.Cond.laysFinal "TurnHostModel" "TurnHostModel" "traps" "[Z" ∈ th_tb := tbg (tbl3 (List.mem_of_getElem? (i := 63) rfl)) rfl
theorem k_545 : Jvm.Cond.laysFinal "TurnHostModel" "TurnHostModel" "done" "[I" ∈ th_tb := tbg (tbl3 (List.mem_of_getElem? (i := 65) rfl)) rfl
theorem k_547 : Jvm.Cond.lays "TurnHostModel" "TurnHostModel" "waiting" "I" ∈ th_tb := tbg (tbl3 (List.mem_of_getElem? (i := 67) rfl)) rfl
theorem k_549 : Jvm.Cond.laysFinal "TurnHostModel" "TurnHostModel" "row" "[I" ∈ th_tb := tbg (tbl3 (List.mem_of_getElem? (i := 69) rfl)) rfl
theorem k_551 : Jvm.Cond.lays "TurnHostModel" "TurnHostModel" "used" "I" ∈ th_tb := tbg (tbl3 (List.mem_of_getElem? (i := 71) rfl)) rfl
theorem k_553 : Jvm.Cond.laysFinal "TurnHostModel" "TurnHostModel" "telling" "[I" ∈ th_tb := tbg (tbl3 (List.mem_of_getElem? (i := 73) rfl)) rfl
theorem k_555 : Jvm.Cond.laysFinal "TurnHostModel" "TurnHostModel" "next" "[I" ∈ th_tb := tbg (tbl3 (List.mem_of_getElem? (i := 75) rfl)) rfl
theorem k_558 : Jvm.Cond.arrayClass Jvm.ClassFile.FieldType.boolean ∈ th_tb := tbg (tbl3 (List.mem_of_getElem? (i := 78) rfl)) rfl
theorem k_559 : Jvm.Cond.methodLink "TurnHostLaw" (25 : Nat) ({ cls := "TurnHostModel", name := "add", desc := "(IIII)I" } : MethodName) ∈ th_tb := tbg (tbl3 (List.mem_of_getElem? (i := 79) rfl)) rfl
theorem k_560 : Jvm.Cond.instanceMethod ({ cls := "TurnHostModel", name := "add", desc := "(IIII)I" } : MethodName) ∈ th_tb := tbg (tbl3 (List.mem_of_getElem? (i := 80) rfl)) rfl
theorem k_561 : Jvm.Cond.selects "TurnHostModel" ({ cls := "TurnHostModel", name := "add", desc := "(IIII)I" } : MethodName) ({ cls := "TurnHostModel", name := "add", desc := "(IIII)I" } : MethodName) ∈ th_tb := tbg (tbl3 (List.mem_of_getElem? (i := 81) rfl)) rfl
theorem k_562 : Jvm.Cond.code ({ cls := "TurnHostModel", name := "add", desc := "(IIII)I" } : MethodName) prog_10_method_16_code (6 : Nat) (Option.some Jvm.ClassFile.FieldType.int) ∈ th_tb := tbg (tbl3 (List.mem_of_getElem? (i := 82) rfl)) rfl
theorem k_563 : Jvm.Cond.methodLink "TurnHostModel" (81 : Nat) ({ cls := "TurnHostModel", name := "in", desc := "(III)Z" } : MethodName) ∈ th_tb := tbg (tbl3 (List.mem_of_getElem? (i := 83) rfl)) rfl
theorem k_564 : Jvm.Cond.static ({ cls := "TurnHostModel", name := "in", desc := "(III)Z" } : MethodName) ∈ th_tb := tbg (tbl3 (List.mem_of_getElem? (i := 84) rfl)) rfl
theorem k_565 : Jvm.Cond.code ({ cls := "TurnHostModel", name := "in", desc := "(III)Z" } : MethodName) prog_10_method_2_code (3 : Nat) (Option.some Jvm.ClassFile.FieldType.boolean) ∈ th_tb := tbg (tbl3 (List.mem_of_getElem? (i := 85) rfl)) rfl
theorem k_566 : Jvm.Cond.methodLink "TurnHostModel" (88 : Nat) ({ cls := "TurnHostModel", name := "firstNeeds", desc := "(I)I" } : MethodName) ∈ th_tb := tbg (tbl3 (List.mem_of_getElem? (i := 86) rfl)) rfl
theorem k_567 : Jvm.Cond.static ({ cls := "TurnHostModel", name := "firstNeeds", desc := "(I)I" } : MethodName) ∈ th_tb := tbg (tbl3 (List.mem_of_getElem? (i := 87) rfl)) rfl
theorem k_568 : Jvm.Cond.code ({ cls := "TurnHostModel", name := "firstNeeds", desc := "(I)I" } : MethodName) prog_10_method_13_code (1 : Nat) (Option.some Jvm.ClassFile.FieldType.int) ∈ th_tb := tbg (tbl3 (List.mem_of_getElem? (i := 88) rfl)) rfl
theorem k_569 : Jvm.Cond.methodLink "TurnHostModel" (91 : Nat) ({ cls := "TurnHostModel", name := "isRight", desc := "(II)Z" } : MethodName) ∈ th_tb := tbg (tbl3 (List.mem_of_getElem? (i := 89) rfl)) rfl
theorem k_570 : Jvm.Cond.static ({ cls := "TurnHostModel", name := "isRight", desc := "(II)Z" } : MethodName) ∈ th_tb := tbg (tbl3 (List.mem_of_getElem? (i := 90) rfl)) rfl
theorem k_571 : Jvm.Cond.code ({ cls := "TurnHostModel", name := "isRight", desc := "(II)Z" } : MethodName) prog_10_method_12_code (2 : Nat) (Option.some Jvm.ClassFile.FieldType.boolean) ∈ th_tb := tbg (tbl3 (List.mem_of_getElem? (i := 91) rfl)) rfl
theorem k_572 : Jvm.Cond.methodLink "TurnHostModel" (95 : Nat) ({ cls := "TurnHostModel", name := "secondNeeds", desc := "(I)I" } : MethodName) ∈ th_tb := tbg (tbl3 (List.mem_of_getElem? (i := 92) rfl)) rfl
theorem k_573 : Jvm.Cond.static ({ cls := "TurnHostModel", name := "secondNeeds", desc := "(I)I" } : MethodName) ∈ th_tb := tbg (tbl3 (List.mem_of_getElem? (i := 93) rfl)) rfl
theorem k_574 : Jvm.Cond.code ({ cls := "TurnHostModel", name := "secondNeeds", desc := "(I)I" } : MethodName) prog_10_method_14_code (1 : Nat) (Option.some Jvm.ClassFile.FieldType.int) ∈ th_tb := tbg (tbl3 (List.mem_of_getElem? (i := 94) rfl)) rfl
theorem k_575 : Jvm.Cond.methodLink "TurnHostModel" (98 : Nat) ({ cls := "TurnHostModel", name := "thirdNeeds", desc := "(I)I" } : MethodName) ∈ th_tb := tbg (tbl3 (List.mem_of_getElem? (i := 95) rfl)) rfl
theorem k_576 : Jvm.Cond.static ({ cls := "TurnHostModel", name := "thirdNeeds", desc := "(I)I" } : MethodName) ∈ th_tb := tbg (tbl3 (List.mem_of_getElem? (i := 96) rfl)) rfl
theorem k_577 : Jvm.Cond.code ({ cls := "TurnHostModel", name := "thirdNeeds", desc := "(I)I" } : MethodName) prog_10_method_15_code (1 : Nat) (Option.some Jvm.ClassFile.FieldType.int) ∈ th_tb := tbg (tbl3 (List.mem_of_getElem? (i := 97) rfl)) rfl
theorem k_578 : Jvm.Cond.methodLink "TurnHostLaw" (30 : Nat) ({ cls := "TurnHostModel", name := "begin", desc := "(II)I" } : MethodName) ∈ th_tb := tbg (tbl3 (List.mem_of_getElem? (i := 98) rfl)) rfl
theorem k_579 : Jvm.Cond.instanceMethod ({ cls := "TurnHostModel", name := "begin", desc := "(II)I" } : MethodName) ∈ th_tb := tbg (tbl3 (List.mem_of_getElem? (i := 99) rfl)) rfl
theorem k_580 : Jvm.Cond.selects "TurnHostModel" ({ cls := "TurnHostModel", name := "begin", desc := "(II)I" } : MethodName) ({ cls := "TurnHostModel", name := "begin", desc := "(II)I" } : MethodName) ∈ th_tb := tbg (tbl3 (List.mem_of_getElem? (i := 100) rfl)) rfl
theorem k_581 : Jvm.Cond.code ({ cls := "TurnHostModel", name := "begin", desc := "(II)I" } : MethodName) prog_10_method_31_code (3 : Nat) (Option.some Jvm.ClassFile.FieldType.int) ∈ th_tb := tbg (tbl3 (List.mem_of_getElem? (i := 101) rfl)) rfl
theorem k_582 : Jvm.Cond.methodLink "TurnHostModel" (115 : Nat) ({ cls := "TurnHostModel", name := "put", desc := "(III)V" } : MethodName) ∈ th_tb := tbg (tbl3 (List.mem_of_getElem? (i := 102) rfl)) rfl
theorem k_584 : Jvm.Cond.instanceMethod ({ cls := "TurnHostModel", name := "put", desc := "(III)V" } : MethodName) ∈ th_tb := tbg (tbl3 (List.mem_of_getElem? (i := 104) rfl)) rfl
theorem k_585 : Jvm.Cond.code ({ cls := "TurnHostModel", name := "put", desc := "(III)V" } : MethodName) prog_10_method_4_code (4 : Nat) (Option.none : Option Jvm.ClassFile.FieldType) ∈ th_tb := tbg (tbl3 (List.mem_of_getElem? (i := 105) rfl)) rfl
theorem k_586 : Jvm.Cond.methodLink "TurnHostModel" (152 : Nat) ({ cls := "TurnHostModel", name := "start", desc := "(II)I" } : MethodName) ∈ th_tb := tbg (tbl3 (List.mem_of_getElem? (i := 106) rfl)) rfl
theorem k_588 : Jvm.Cond.instanceMethod ({ cls := "TurnHostModel", name := "start", desc := "(II)I" } : MethodName) ∈ th_tb := tbg (tbl3 (List.mem_of_getElem? (i := 108) rfl)) rfl
theorem k_589 : Jvm.Cond.code ({ cls := "TurnHostModel", name := "start", desc := "(II)I" } : MethodName) prog_10_method_24_code (5 : Nat) (Option.some Jvm.ClassFile.FieldType.int) ∈ th_tb := tbg (tbl3 (List.mem_of_getElem? (i := 109) rfl)) rfl
theorem k_590 : Jvm.Cond.methodLink "TurnHostModel" (107 : Nat) ({ cls := "TurnHostModel", name := "copy", desc := "(II)V" } : MethodName) ∈ th_tb := tbg (tbl3 (List.mem_of_getElem? (i := 110) rfl)) rfl
theorem k_592 : Jvm.Cond.instanceMethod ({ cls := "TurnHostModel", name := "copy", desc := "(II)V" } : MethodName) ∈ th_tb := tbg (tbl3 (List.mem_of_getElem? (i := 112) rfl)) rfl
theorem k_593 : Jvm.Cond.code ({ cls := "TurnHostModel", name := "copy", desc := "(II)V" } : MethodName) prog_10_method_3_code (4 : Nat) (Option.none : Option Jvm.ClassFile.FieldType) ∈ th_tb := tbg (tbl3 (List.mem_of_getElem? (i := 113) rfl)) rfl
theorem k_594 : Jvm.Cond.methodLink "TurnHostModel" (111 : Nat) ({ cls := "TurnHostModel", name := "come", desc := "(I)V" } : MethodName) ∈ th_tb := tbg (tbl3 (List.mem_of_getElem? (i := 114) rfl)) rfl
theorem k_596 : Jvm.Cond.instanceMethod ({ cls := "TurnHostModel", name := "come", desc := "(I)V" } : MethodName) ∈ th_tb := tbg (tbl3 (List.mem_of_getElem? (i := 116) rfl)) rfl
theorem k_597 : Jvm.Cond.code ({ cls := "TurnHostModel", name := "come", desc := "(I)V" } : MethodName) prog_10_method_17_code (2 : Nat) (Option.none : Option Jvm.ClassFile.FieldType) ∈ th_tb := tbg (tbl3 (List.mem_of_getElem? (i := 117) rfl)) rfl
theorem k_598 : Jvm.Cond.methodLink "TurnHostLaw" (35 : Nat) ({ cls := "TurnHostModel", name := "tell", desc := "(II)Z" } : MethodName) ∈ th_tb := tbg (tbl3 (List.mem_of_getElem? (i := 118) rfl)) rfl
theorem k_599 : Jvm.Cond.instanceMethod ({ cls := "TurnHostModel", name := "tell", desc := "(II)Z" } : MethodName) ∈ th_tb := tbg (tbl3 (List.mem_of_getElem? (i := 119) rfl)) rfl
theorem k_600 : Jvm.Cond.selects "TurnHostModel" ({ cls := "TurnHostModel", name := "tell", desc := "(II)Z" } : MethodName) ({ cls := "TurnHostModel", name := "tell", desc := "(II)Z" } : MethodName) ∈ th_tb := tbg (tbl3 (List.mem_of_getElem? (i := 120) rfl)) rfl
theorem k_601 : Jvm.Cond.code ({ cls := "TurnHostModel", name := "tell", desc := "(II)Z" } : MethodName) prog_10_method_32_code (3 : Nat) (Option.some Jvm.ClassFile.FieldType.boolean) ∈ th_tb := tbg (tbl3 (List.mem_of_getElem? (i := 121) rfl)) rfl
theorem k_602 : Jvm.Cond.methodLink "TurnHostModel" (122 : Nat) ({ cls := "TurnHostModel", name := "deliver", desc := "(II)V" } : MethodName) ∈ th_tb := tbg (tbl3 (List.mem_of_getElem? (i := 122) rfl)) rfl
theorem k_604 : Jvm.Cond.instanceMethod ({ cls := "TurnHostModel", name := "deliver", desc := "(II)V" } : MethodName) ∈ th_tb := tbg (tbl3 (List.mem_of_getElem? (i := 124) rfl)) rfl
theorem k_605 : Jvm.Cond.code ({ cls := "TurnHostModel", name := "deliver", desc := "(II)V" } : MethodName) prog_10_method_19_code (3 : Nat) (Option.none : Option Jvm.ClassFile.FieldType) ∈ th_tb := tbg (tbl3 (List.mem_of_getElem? (i := 125) rfl)) rfl
theorem k_606 : Jvm.Cond.methodLink "TurnHostLaw" (40 : Nat) ({ cls := "TurnHostModel", name := "run", desc := "(I)I" } : MethodName) ∈ th_tb := tbg (tbl3 (List.mem_of_getElem? (i := 126) rfl)) rfl
theorem k_607 : Jvm.Cond.instanceMethod ({ cls := "TurnHostModel", name := "run", desc := "(I)I" } : MethodName) ∈ th_tb := tbg (tbl3 (List.mem_of_getElem? (i := 127) rfl)) rfl
theorem k_608 : Jvm.Cond.selects "TurnHostModel" ({ cls := "TurnHostModel", name := "run", desc := "(I)I" } : MethodName) ({ cls := "TurnHostModel", name := "run", desc := "(I)I" } : MethodName) ∈ th_tb := tbg (tbl3 (List.mem_of_getElem? (i := 128) rfl)) rfl
theorem k_609 : Jvm.Cond.code ({ cls := "TurnHostModel", name := "run", desc := "(I)I" } : MethodName) prog_10_method_33_code (5 : Nat) (Option.some Jvm.ClassFile.FieldType.int) ∈ th_tb := tbg (tbl3 (List.mem_of_getElem? (i := 129) rfl)) rfl
theorem k_610 : Jvm.Cond.methodLink "TurnHostModel" (169 : Nat) ({ cls := "TurnHostModel", name := "step", desc := "(I)V" } : MethodName) ∈ th_tb := tbg (tbl3 (List.mem_of_getElem? (i := 130) rfl)) rfl
theorem k_612 : Jvm.Cond.instanceMethod ({ cls := "TurnHostModel", name := "step", desc := "(I)V" } : MethodName) ∈ th_tb := tbg (tbl3 (List.mem_of_getElem? (i := 132) rfl)) rfl
theorem k_613 : Jvm.Cond.code ({ cls := "TurnHostModel", name := "step", desc := "(I)V" } : MethodName) prog_10_method_30_code (5 : Nat) (Option.none : Option Jvm.ClassFile.FieldType) ∈ th_tb := tbg (tbl3 (List.mem_of_getElem? (i := 133) rfl)) rfl
theorem k_614 : Jvm.Cond.methodLink "TurnHostModel" (155 : Nat) ({ cls := "TurnHostModel", name := "make", desc := "(IIIII)Z" } : MethodName) ∈ th_tb := tbg (tbl3 (List.mem_of_getElem? (i := 134) rfl)) rfl
theorem k_616 : Jvm.Cond.instanceMethod ({ cls := "TurnHostModel", name := "make", desc := "(IIIII)Z" } : MethodName) ∈ th_tb := tbg (tbl3 (List.mem_of_getElem? (i := 136) rfl)) rfl
theorem k_617 : Jvm.Cond.code ({ cls := "TurnHostModel", name := "make", desc := "(IIIII)Z" } : MethodName) prog_10_method_25_code (9 : Nat) (Option.some Jvm.ClassFile.FieldType.boolean) ∈ th_tb := tbg (tbl3 (List.mem_of_getElem? (i := 137) rfl)) rfl
theorem k_618 : Jvm.Cond.methodLink "TurnHostModel" (77 : Nat) ({ cls := "TurnHostModel", name := "weight", desc := "(I)I" } : MethodName) ∈ th_tb := tbg (tbl3 (List.mem_of_getElem? (i := 138) rfl)) rfl
theorem k_620 : Jvm.Cond.instanceMethod ({ cls := "TurnHostModel", name := "weight", desc := "(I)I" } : MethodName) ∈ th_tb := tbg (tbl3 (List.mem_of_getElem? (i := 140) rfl)) rfl
theorem k_621 : Jvm.Cond.code ({ cls := "TurnHostModel", name := "weight", desc := "(I)I" } : MethodName) prog_10_method_7_code (2 : Nat) (Option.some Jvm.ClassFile.FieldType.int) ∈ th_tb := tbg (tbl3 (List.mem_of_getElem? (i := 141) rfl)) rfl
theorem k_622 : Jvm.Cond.methodLink "TurnHostModel" (118 : Nat) ({ cls := "TurnHostModel", name := "addParts", desc := "(IIII)V" } : MethodName) ∈ th_tb := tbg (tbl3 (List.mem_of_getElem? (i := 142) rfl)) rfl
theorem k_624 : Jvm.Cond.instanceMethod ({ cls := "TurnHostModel", name := "addParts", desc := "(IIII)V" } : MethodName) ∈ th_tb := tbg (tbl3 (List.mem_of_getElem? (i := 144) rfl)) rfl
theorem k_625 : Jvm.Cond.code ({ cls := "TurnHostModel", name := "addParts", desc := "(IIII)V" } : MethodName) prog_10_method_6_code (6 : Nat) (Option.none : Option Jvm.ClassFile.FieldType) ∈ th_tb := tbg (tbl3 (List.mem_of_getElem? (i := 145) rfl)) rfl
theorem k_626 : Jvm.Cond.methodLink "TurnHostModel" (66 : Nat) ({ cls := "TurnHostModel", name := "sortOf", desc := "(II)I" } : MethodName) ∈ th_tb := tbg (tbl3 (List.mem_of_getElem? (i := 146) rfl)) rfl
theorem k_628 : Jvm.Cond.instanceMethod ({ cls := "TurnHostModel", name := "sortOf", desc := "(II)I" } : MethodName) ∈ th_tb := tbg (tbl3 (List.mem_of_getElem? (i := 148) rfl)) rfl
theorem k_629 : Jvm.Cond.code ({ cls := "TurnHostModel", name := "sortOf", desc := "(II)I" } : MethodName) prog_10_method_8_code (3 : Nat) (Option.some Jvm.ClassFile.FieldType.int) ∈ th_tb := tbg (tbl3 (List.mem_of_getElem? (i := 149) rfl)) rfl
theorem k_630 : Jvm.Cond.methodLink "TurnHostModel" (70 : Nat) ({ cls := "TurnHostModel", name := "numberOf", desc := "(II)I" } : MethodName) ∈ th_tb := tbg (tbl3 (List.mem_of_getElem? (i := 150) rfl)) rfl
theorem k_632 : Jvm.Cond.instanceMethod ({ cls := "TurnHostModel", name := "numberOf", desc := "(II)I" } : MethodName) ∈ th_tb := tbg (tbl3 (List.mem_of_getElem? (i := 152) rfl)) rfl
theorem k_633 : Jvm.Cond.code ({ cls := "TurnHostModel", name := "numberOf", desc := "(II)I" } : MethodName) prog_10_method_9_code (3 : Nat) (Option.some Jvm.ClassFile.FieldType.int) ∈ th_tb := tbg (tbl3 (List.mem_of_getElem? (i := 153) rfl)) rfl
theorem k_634 : Jvm.Cond.methodLink "TurnHostModel" (73 : Nat) ({ cls := "TurnHostModel", name := "append", desc := "(III)V" } : MethodName) ∈ th_tb := tbg (tbl3 (List.mem_of_getElem? (i := 154) rfl)) rfl
theorem k_636 : Jvm.Cond.instanceMethod ({ cls := "TurnHostModel", name := "append", desc := "(III)V" } : MethodName) ∈ th_tb := tbg (tbl3 (List.mem_of_getElem? (i := 156) rfl)) rfl
theorem k_637 : Jvm.Cond.code ({ cls := "TurnHostModel", name := "append", desc := "(III)V" } : MethodName) prog_10_method_5_code (5 : Nat) (Option.none : Option Jvm.ClassFile.FieldType) ∈ th_tb := tbg (tbl3 (List.mem_of_getElem? (i := 157) rfl)) rfl
theorem k_638 : Jvm.Cond.methodLink "TurnHostModel" (140 : Nat) ({ cls := "TurnHostModel", name := "behind", desc := "(II)I" } : MethodName) ∈ th_tb := tbg (tbl3 (List.mem_of_getElem? (i := 158) rfl)) rfl
theorem k_640 : Jvm.Cond.instanceMethod ({ cls := "TurnHostModel", name := "behind", desc := "(II)I" } : MethodName) ∈ th_tb := tbg (tbl3 (List.mem_of_getElem? (i := 160) rfl)) rfl
theorem k_641 : Jvm.Cond.code ({ cls := "TurnHostModel", name := "behind", desc := "(II)I" } : MethodName) prog_10_method_10_code (5 : Nat) (Option.some Jvm.ClassFile.FieldType.int) ∈ th_tb := tbg (tbl3 (List.mem_of_getElem? (i := 161) rfl)) rfl
theorem k_642 : Jvm.Cond.methodLink "TurnHostModel" (159 : Nat) ({ cls := "TurnHostModel", name := "branch", desc := "(IIIII)Z" } : MethodName) ∈ th_tb := tbg (tbl3 (List.mem_of_getElem? (i := 162) rfl)) rfl
theorem k_644 : Jvm.Cond.instanceMethod ({ cls := "TurnHostModel", name := "branch", desc := "(IIIII)Z" } : MethodName) ∈ th_tb := tbg (tbl3 (List.mem_of_getElem? (i := 164) rfl)) rfl
theorem k_645 : Jvm.Cond.code ({ cls := "TurnHostModel", name := "branch", desc := "(IIIII)Z" } : MethodName) prog_10_method_26_code (8 : Nat) (Option.some Jvm.ClassFile.FieldType.boolean) ∈ th_tb := tbg (tbl3 (List.mem_of_getElem? (i := 165) rfl)) rfl
theorem k_646 : Jvm.Cond.methodLink "TurnHostModel" (143 : Nat) ({ cls := "TurnHostModel", name := "isSame", desc := "(II)Z" } : MethodName) ∈ th_tb := tbg (tbl3 (List.mem_of_getElem? (i := 166) rfl)) rfl
theorem k_648 : Jvm.Cond.instanceMethod ({ cls := "TurnHostModel", name := "isSame", desc := "(II)Z" } : MethodName) ∈ th_tb := tbg (tbl3 (List.mem_of_getElem? (i := 168) rfl)) rfl
theorem k_649 : Jvm.Cond.code ({ cls := "TurnHostModel", name := "isSame", desc := "(II)Z" } : MethodName) prog_10_method_11_code (5 : Nat) (Option.some Jvm.ClassFile.FieldType.boolean) ∈ th_tb := tbg (tbl3 (List.mem_of_getElem? (i := 169) rfl)) rfl
theorem k_650 : Jvm.Cond.methodLink "TurnHostModel" (146 : Nat) ({ cls := "TurnHostModel", name := "endBy", desc := "(II)V" } : MethodName) ∈ th_tb := tbg (tbl3 (List.mem_of_getElem? (i := 170) rfl)) rfl
theorem k_652 : Jvm.Cond.instanceMethod ({ cls := "TurnHostModel", name := "endBy", desc := "(II)V" } : MethodName) ∈ th_tb := tbg (tbl3 (List.mem_of_getElem? (i := 172) rfl)) rfl
theorem k_653 : Jvm.Cond.code ({ cls := "TurnHostModel", name := "endBy", desc := "(II)V" } : MethodName) prog_10_method_23_code (3 : Nat) (Option.none : Option Jvm.ClassFile.FieldType) ∈ th_tb := tbg (tbl3 (List.mem_of_getElem? (i := 173) rfl)) rfl
theorem k_654 : Jvm.Cond.methodLink "TurnHostModel" (137 : Nat) ({ cls := "TurnHostModel", name := "end", desc := "(II)V" } : MethodName) ∈ th_tb := tbg (tbl3 (List.mem_of_getElem? (i := 174) rfl)) rfl
theorem k_656 : Jvm.Cond.instanceMethod ({ cls := "TurnHostModel", name := "end", desc := "(II)V" } : MethodName) ∈ th_tb := tbg (tbl3 (List.mem_of_getElem? (i := 176) rfl)) rfl
theorem k_657 : Jvm.Cond.code ({ cls := "TurnHostModel", name := "end", desc := "(II)V" } : MethodName) prog_10_method_22_code (6 : Nat) (Option.none : Option Jvm.ClassFile.FieldType) ∈ th_tb := tbg (tbl3 (List.mem_of_getElem? (i := 177) rfl)) rfl
theorem k_658 : Jvm.Cond.methodLink "TurnHostModel" (128 : Nat) ({ cls := "TurnHostModel", name := "stop", desc := "(II)V" } : MethodName) ∈ th_tb := tbg (tbl3 (List.mem_of_getElem? (i := 178) rfl)) rfl
theorem k_660 : Jvm.Cond.instanceMethod ({ cls := "TurnHostModel", name := "stop", desc := "(II)V" } : MethodName) ∈ th_tb := tbg (tbl3 (List.mem_of_getElem? (i := 180) rfl)) rfl
theorem k_661 : Jvm.Cond.code ({ cls := "TurnHostModel", name := "stop", desc := "(II)V" } : MethodName) prog_10_method_21_code (3 : Nat) (Option.none : Option Jvm.ClassFile.FieldType) ∈ th_tb := tbg (tbl3 (List.mem_of_getElem? (i := 181) rfl)) rfl
theorem k_662 : Jvm.Cond.methodLink "TurnHostModel" (125 : Nat) ({ cls := "TurnHostModel", name := "leave", desc := "(I)V" } : MethodName) ∈ th_tb := tbg (tbl3 (List.mem_of_getElem? (i := 182) rfl)) rfl
theorem k_664 : Jvm.Cond.instanceMethod ({ cls := "TurnHostModel", name := "leave", desc := "(I)V" } : MethodName) ∈ th_tb := tbg (tbl3 (List.mem_of_getElem? (i := 184) rfl)) rfl
theorem k_665 : Jvm.Cond.code ({ cls := "TurnHostModel", name := "leave", desc := "(I)V" } : MethodName) prog_10_method_18_code (4 : Nat) (Option.none : Option Jvm.ClassFile.FieldType) ∈ th_tb := tbg (tbl3 (List.mem_of_getElem? (i := 185) rfl)) rfl
theorem k_666 : Jvm.Cond.methodLink "TurnHostModel" (134 : Nat) ({ cls := "TurnHostModel", name := "signal", desc := "(III)Z" } : MethodName) ∈ th_tb := tbg (tbl3 (List.mem_of_getElem? (i := 186) rfl)) rfl
theorem k_668 : Jvm.Cond.instanceMethod ({ cls := "TurnHostModel", name := "signal", desc := "(III)Z" } : MethodName) ∈ th_tb := tbg (tbl3 (List.mem_of_getElem? (i := 188) rfl)) rfl
theorem k_669 : Jvm.Cond.code ({ cls := "TurnHostModel", name := "signal", desc := "(III)Z" } : MethodName) prog_10_method_20_code (4 : Nat) (Option.some Jvm.ClassFile.FieldType.boolean) ∈ th_tb := tbg (tbl3 (List.mem_of_getElem? (i := 189) rfl)) rfl
theorem k_670 : Jvm.Cond.methodLink "TurnHostModel" (162 : Nat) ({ cls := "TurnHostModel", name := "mail", desc := "(IIII)Z" } : MethodName) ∈ th_tb := tbg (tbl3 (List.mem_of_getElem? (i := 190) rfl)) rfl
theorem k_672 : Jvm.Cond.instanceMethod ({ cls := "TurnHostModel", name := "mail", desc := "(IIII)Z" } : MethodName) ∈ th_tb := tbg (tbl3 (List.mem_of_getElem? (i := 192) rfl)) rfl
theorem k_673 : Jvm.Cond.code ({ cls := "TurnHostModel", name := "mail", desc := "(IIII)Z" } : MethodName) prog_10_method_28_code (8 : Nat) (Option.some Jvm.ClassFile.FieldType.boolean) ∈ th_tb := tbg (tbl3 (List.mem_of_getElem? (i := 193) rfl)) rfl
theorem k_674 : Jvm.Cond.methodLink "TurnHostModel" (149 : Nat) ({ cls := "TurnHostModel", name := "named", desc := "(I)I" } : MethodName) ∈ th_tb := tbg (tbl3 (List.mem_of_getElem? (i := 194) rfl)) rfl
theorem k_676 : Jvm.Cond.instanceMethod ({ cls := "TurnHostModel", name := "named", desc := "(I)I" } : MethodName) ∈ th_tb := tbg (tbl3 (List.mem_of_getElem? (i := 196) rfl)) rfl
theorem k_677 : Jvm.Cond.code ({ cls := "TurnHostModel", name := "named", desc := "(I)I" } : MethodName) prog_10_method_27_code (2 : Nat) (Option.some Jvm.ClassFile.FieldType.int) ∈ th_tb := tbg (tbl3 (List.mem_of_getElem? (i := 197) rfl)) rfl
theorem k_678 : Jvm.Cond.methodLink "TurnHostModel" (166 : Nat) ({ cls := "TurnHostModel", name := "life", desc := "(IIIII)Z" } : MethodName) ∈ th_tb := tbg (tbl3 (List.mem_of_getElem? (i := 198) rfl)) rfl
theorem k_680 : Jvm.Cond.instanceMethod ({ cls := "TurnHostModel", name := "life", desc := "(IIIII)Z" } : MethodName) ∈ th_tb := tbg (tbl3 (List.mem_of_getElem? (i := 200) rfl)) rfl
theorem k_681 : Jvm.Cond.code ({ cls := "TurnHostModel", name := "life", desc := "(IIIII)Z" } : MethodName) prog_10_method_29_code (8 : Nat) (Option.some Jvm.ClassFile.FieldType.boolean) ∈ th_tb := tbg (tbl3 (List.mem_of_getElem? (i := 201) rfl)) rfl
theorem k_682 : Jvm.Cond.methodLink "TurnHostLaw" (45 : Nat) ({ cls := "TurnHostModel", name := "clear", desc := "(Z)I" } : MethodName) ∈ th_tb := tbg (tbl3 (List.mem_of_getElem? (i := 202) rfl)) rfl
theorem k_683 : Jvm.Cond.instanceMethod ({ cls := "TurnHostModel", name := "clear", desc := "(Z)I" } : MethodName) ∈ th_tb := tbg (tbl3 (List.mem_of_getElem? (i := 203) rfl)) rfl
theorem k_684 : Jvm.Cond.selects "TurnHostModel" ({ cls := "TurnHostModel", name := "clear", desc := "(Z)I" } : MethodName) ({ cls := "TurnHostModel", name := "clear", desc := "(Z)I" } : MethodName) ∈ th_tb := tbg (tbl3 (List.mem_of_getElem? (i := 204) rfl)) rfl
theorem k_685 : Jvm.Cond.code ({ cls := "TurnHostModel", name := "clear", desc := "(Z)I" } : MethodName) prog_10_method_34_code (3 : Nat) (Option.some Jvm.ClassFile.FieldType.int) ∈ th_tb := tbg (tbl3 (List.mem_of_getElem? (i := 205) rfl)) rfl
theorem k_686 : Jvm.Cond.methodLink "TurnHostLaw" (49 : Nat) ({ cls := "TurnHostModel", name := "process", desc := "(II)I" } : MethodName) ∈ th_tb := tbg (tbl3 (List.mem_of_getElem? (i := 206) rfl)) rfl
theorem k_687 : Jvm.Cond.instanceMethod ({ cls := "TurnHostModel", name := "process", desc := "(II)I" } : MethodName) ∈ th_tb := tbg (tbl3 (List.mem_of_getElem? (i := 207) rfl)) rfl
theorem k_688 : Jvm.Cond.selects "TurnHostModel" ({ cls := "TurnHostModel", name := "process", desc := "(II)I" } : MethodName) ({ cls := "TurnHostModel", name := "process", desc := "(II)I" } : MethodName) ∈ th_tb := tbg (tbl3 (List.mem_of_getElem? (i := 208) rfl)) rfl
theorem k_689 : Jvm.Cond.code ({ cls := "TurnHostModel", name := "process", desc := "(II)I" } : MethodName) prog_10_method_35_code (3 : Nat) (Option.some Jvm.ClassFile.FieldType.int) ∈ th_tb := tbg (tbl3 (List.mem_of_getElem? (i := 209) rfl)) rfl
theorem k_690 : Jvm.Cond.methodLink "TurnHostLaw" (53 : Nat) ({ cls := "TurnHostModel", name := "queue", desc := "(I)I" } : MethodName) ∈ th_tb := tbg (tbl3 (List.mem_of_getElem? (i := 210) rfl)) rfl
theorem k_691 : Jvm.Cond.instanceMethod ({ cls := "TurnHostModel", name := "queue", desc := "(I)I" } : MethodName) ∈ th_tb := tbg (tbl3 (List.mem_of_getElem? (i := 211) rfl)) rfl
theorem k_692 : Jvm.Cond.selects "TurnHostModel" ({ cls := "TurnHostModel", name := "queue", desc := "(I)I" } : MethodName) ({ cls := "TurnHostModel", name := "queue", desc := "(I)I" } : MethodName) ∈ th_tb := tbg (tbl3 (List.mem_of_getElem? (i := 212) rfl)) rfl
theorem k_693 : Jvm.Cond.code ({ cls := "TurnHostModel", name := "queue", desc := "(I)I" } : MethodName) prog_10_method_36_code (2 : Nat) (Option.some Jvm.ClassFile.FieldType.int) ∈ th_tb := tbg (tbl3 (List.mem_of_getElem? (i := 213) rfl)) rfl
theorem k_694 : Jvm.Cond.methodLink "TurnHostLaw" (58 : Nat) ({ cls := "TurnHostModel", name := "processes", desc := "()I" } : MethodName) ∈ th_tb := tbg (tbl3 (List.mem_of_getElem? (i := 214) rfl)) rfl
theorem k_695 : Jvm.Cond.instanceMethod ({ cls := "TurnHostModel", name := "processes", desc := "()I" } : MethodName) ∈ th_tb := tbg (tbl3 (List.mem_of_getElem? (i := 215) rfl)) rfl
theorem k_696 : Jvm.Cond.selects "TurnHostModel" ({ cls := "TurnHostModel", name := "processes", desc := "()I" } : MethodName) ({ cls := "TurnHostModel", name := "processes", desc := "()I" } : MethodName) ∈ th_tb := tbg (tbl3 (List.mem_of_getElem? (i := 216) rfl)) rfl
theorem k_697 : Jvm.Cond.code ({ cls := "TurnHostModel", name := "processes", desc := "()I" } : MethodName) prog_10_method_37_code (1 : Nat) (Option.some Jvm.ClassFile.FieldType.int) ∈ th_tb := tbg (tbl3 (List.mem_of_getElem? (i := 217) rfl)) rfl
theorem k_698 : Jvm.Cond.methodLink "TurnHostLaw" (62 : Nat) ({ cls := "TurnHostModel", name := "term", desc := "(II)I" } : MethodName) ∈ th_tb := tbg (tbl3 (List.mem_of_getElem? (i := 218) rfl)) rfl
theorem k_699 : Jvm.Cond.instanceMethod ({ cls := "TurnHostModel", name := "term", desc := "(II)I" } : MethodName) ∈ th_tb := tbg (tbl3 (List.mem_of_getElem? (i := 219) rfl)) rfl
theorem k_700 : Jvm.Cond.selects "TurnHostModel" ({ cls := "TurnHostModel", name := "term", desc := "(II)I" } : MethodName) ({ cls := "TurnHostModel", name := "term", desc := "(II)I" } : MethodName) ∈ th_tb := tbg (tbl3 (List.mem_of_getElem? (i := 220) rfl)) rfl
theorem k_701 : Jvm.Cond.code ({ cls := "TurnHostModel", name := "term", desc := "(II)I" } : MethodName) prog_10_method_39_code (5 : Nat) (Option.some Jvm.ClassFile.FieldType.int) ∈ th_tb := tbg (tbl3 (List.mem_of_getElem? (i := 221) rfl)) rfl
theorem k_702 : Jvm.Cond.methodLink "TurnHostModel" (172 : Nat) ({ cls := "TurnHostModel", name := "isTerm", desc := "(II)Z" } : MethodName) ∈ th_tb := tbg (tbl3 (List.mem_of_getElem? (i := 222) rfl)) rfl
theorem k_704 : Jvm.Cond.instanceMethod ({ cls := "TurnHostModel", name := "isTerm", desc := "(II)Z" } : MethodName) ∈ th_tb := tbg (tbl3 (List.mem_of_getElem? (i := 224) rfl)) rfl
theorem k_705 : Jvm.Cond.code ({ cls := "TurnHostModel", name := "isTerm", desc := "(II)Z" } : MethodName) prog_10_method_38_code (3 : Nat) (Option.some Jvm.ClassFile.FieldType.boolean) ∈ th_tb := tbg (tbl3 (List.mem_of_getElem? (i := 225) rfl)) rfl
theorem k_706 : Jvm.Cond.constant "TurnHostModel" (175 : Nat) (1000000 : Int32) ∈ th_tb := tbg (tbl3 (List.mem_of_getElem? (i := 226) rfl)) rfl
theorem k_707 : Jvm.Cond.methodLink "TurnHostLaw" (66 : Nat) ({ cls := "TurnHostModel", name := "digest", desc := "(II)I" } : MethodName) ∈ th_tb := tbg (tbl3 (List.mem_of_getElem? (i := 227) rfl)) rfl
theorem k_708 : Jvm.Cond.instanceMethod ({ cls := "TurnHostModel", name := "digest", desc := "(II)I" } : MethodName) ∈ th_tb := tbg (tbl3 (List.mem_of_getElem? (i := 228) rfl)) rfl
theorem k_709 : Jvm.Cond.selects "TurnHostModel" ({ cls := "TurnHostModel", name := "digest", desc := "(II)I" } : MethodName) ({ cls := "TurnHostModel", name := "digest", desc := "(II)I" } : MethodName) ∈ th_tb := tbg (tbl3 (List.mem_of_getElem? (i := 229) rfl)) rfl
theorem k_710 : Jvm.Cond.code ({ cls := "TurnHostModel", name := "digest", desc := "(II)I" } : MethodName) prog_10_method_40_code (6 : Nat) (Option.some Jvm.ClassFile.FieldType.int) ∈ th_tb := tbg (tbl3 (List.mem_of_getElem? (i := 230) rfl)) rfl
theorem k_oi1 : Jvm.Cond.instanceMethod Lib.objectInit ∈ th_tb := k_17
theorem k_oi2 : Jvm.Cond.code Lib.objectInit ⟨#[0xb1]⟩ 1 none ∈ th_tb := k_18
theorem ok_T : th_ok 0 R_T F_T 5 ty_T := ⟨rfl, List.forall_mem_cons.mpr ⟨k_71, List.forall_mem_cons.mpr ⟨k_73, List.forall_mem_cons.mpr ⟨k_75, List.forall_mem_cons.mpr ⟨k_77, List.forall_mem_cons.mpr ⟨k_79, fun _ h => absurd h List.not_mem_nil⟩⟩⟩⟩⟩, ty_T_ok, n_T⟩
theorem ok_B : th_ok 1 R_B F_B 3 ty_B := ⟨rfl, List.forall_mem_cons.mpr ⟨k_96, List.forall_mem_cons.mpr ⟨k_98, List.forall_mem_cons.mpr ⟨k_100, fun _ h => absurd h List.not_mem_nil⟩⟩⟩, ty_B_ok, n_B⟩
theorem ok_P : th_ok 2 R_P F_P 12 ty_P := ⟨rfl, List.forall_mem_cons.mpr ⟨k_133, List.forall_mem_cons.mpr ⟨k_135, List.forall_mem_cons.mpr ⟨k_137, List.forall_mem_cons.mpr ⟨k_139, List.forall_mem_cons.mpr ⟨k_141, List.forall_mem_cons.mpr ⟨k_143, List.forall_mem_cons.mpr ⟨k_145, List.forall_mem_cons.mpr ⟨k_147, List.forall_mem_cons.mpr ⟨k_149, List.forall_mem_cons.mpr ⟨k_151, List.forall_mem_cons.mpr ⟨k_153, List.forall_mem_cons.mpr ⟨k_155, fun _ h => absurd h List.not_mem_nil⟩⟩⟩⟩⟩⟩⟩⟩⟩⟩⟩⟩, ty_P_ok, n_P⟩
theorem ok_L : th_ok 3 R_L F_L 2 ty_L := ⟨rfl, List.forall_mem_cons.mpr ⟨k_166, List.forall_mem_cons.mpr ⟨k_168, fun _ h => absurd h List.not_mem_nil⟩⟩, ty_L_ok, n_L⟩
theorem ok_S : th_ok 4 R_S F_S 5 ty_S := ⟨rfl, List.forall_mem_cons.mpr ⟨k_182, List.forall_mem_cons.mpr ⟨k_184, List.forall_mem_cons.mpr ⟨k_186, List.forall_mem_cons.mpr ⟨k_188, List.forall_mem_cons.mpr ⟨k_190, fun _ h => absurd h List.not_mem_nil⟩⟩⟩⟩⟩, ty_S_ok, n_S⟩
theorem ok_G : th_ok 5 R_G F_G 2 ty_G := ⟨rfl, List.forall_mem_cons.mpr ⟨k_34, List.forall_mem_cons.mpr ⟨k_36, fun _ h => absurd h List.not_mem_nil⟩⟩, ty_G_ok, n_G⟩
theorem ok_M : th_ok 6 R_M F_M 2 ty_M := ⟨rfl, List.forall_mem_cons.mpr ⟨k_197, List.forall_mem_cons.mpr ⟨k_199, fun _ h => absurd h List.not_mem_nil⟩⟩, ty_M_ok, n_M⟩
theorem ok_H : th_ok 7 R_H F_H 5 ty_H := ⟨rfl, List.forall_mem_cons.mpr ⟨k_207, List.forall_mem_cons.mpr ⟨k_209, List.forall_mem_cons.mpr ⟨k_211, List.forall_mem_cons.mpr ⟨k_213, List.forall_mem_cons.mpr ⟨k_215, fun _ h => absurd h List.not_mem_nil⟩⟩⟩⟩⟩, ty_H_ok, n_H⟩
theorem ok_N : th_ok 8 R_N F_N 22 ty_N := ⟨rfl, List.forall_mem_cons.mpr ⟨k_513, List.forall_mem_cons.mpr ⟨k_515, List.forall_mem_cons.mpr ⟨k_517, List.forall_mem_cons.mpr ⟨k_519, List.forall_mem_cons.mpr ⟨k_521, List.forall_mem_cons.mpr ⟨k_523, List.forall_mem_cons.mpr ⟨k_525, List.forall_mem_cons.mpr ⟨k_527, List.forall_mem_cons.mpr ⟨k_529, List.forall_mem_cons.mpr ⟨k_531, List.forall_mem_cons.mpr ⟨k_533, List.forall_mem_cons.mpr ⟨k_535, List.forall_mem_cons.mpr ⟨k_537, List.forall_mem_cons.mpr ⟨k_539, List.forall_mem_cons.mpr ⟨k_541, List.forall_mem_cons.mpr ⟨k_543, List.forall_mem_cons.mpr ⟨k_545, List.forall_mem_cons.mpr ⟨k_547, List.forall_mem_cons.mpr ⟨k_549, List.forall_mem_cons.mpr ⟨k_551, List.forall_mem_cons.mpr ⟨k_553, List.forall_mem_cons.mpr ⟨k_555, fun _ h => absurd h List.not_mem_nil⟩⟩⟩⟩⟩⟩⟩⟩⟩⟩⟩⟩⟩⟩⟩⟩⟩⟩⟩⟩⟩⟩, ty_N_ok, n_N⟩
def dv_T : Nat → Value := fun k => defaultValue (ty_T k)
def dv_B : Nat → Value := fun k => defaultValue (ty_B k)
def dv_P : Nat → Value := fun k => defaultValue (ty_P k)
def dv_L : Nat → Value := fun k => defaultValue (ty_L k)
def dv_S : Nat → Value := fun k => defaultValue (ty_S k)
def dv_G : Nat → Value := fun k => defaultValue (ty_G k)
def dv_M : Nat → Value := fun k => defaultValue (ty_M k)
def dv_H : Nat → Value := fun k => defaultValue (ty_H k)
def dv_N : Nat → Value := fun k => defaultValue (ty_N k)
theorem ln_W_7 : th_ln "TurnHostLaw" 7 7 5 dv_H := ⟨R_H, F_H, ty_H, ok_H, k_11, k_12, k_1, fun j hj => rfl⟩
theorem lc_W_7 : Jvm.Cond.classLink "TurnHostLaw" 7 "TurnHost" ∈ th_tb := k_11
theorem lm_W_15 : th_mi "TurnHostLaw" 15 m_H_init 1 := ⟨⟨⟨by decide +kernel, by decide +kernel, by decide +kernel⟩, by decide +kernel, k_1, k_15⟩, k_13, k_14, rfl, rfl⟩
theorem lo_H_1 : Jvm.Cond.methodLink "TurnHost" 1 Lib.objectInit ∈ th_tb := k_16
theorem ln_H_13 : th_ln "TurnHost" 13 6 2 dv_M := ⟨R_M, F_M, ty_M, ok_M, k_19, k_20, k_2, fun j hj => rfl⟩
theorem lc_H_13 : Jvm.Cond.classLink "TurnHost" 13 "TurnHost$Machine" ∈ th_tb := k_19
theorem lm_H_15 : th_mi "TurnHost" 15 m_M_init 0 := ⟨⟨⟨by decide +kernel, by decide +kernel, by decide +kernel⟩, by decide +kernel, k_2, k_23⟩, k_21, k_22, rfl, rfl⟩
theorem lo_M_3 : Jvm.Cond.methodLink "TurnHost$Machine" 3 Lib.objectInit ∈ th_tb := k_24
theorem ln_M_9 : th_ln "TurnHost$Machine" 9 5 2 dv_G := ⟨R_G, F_G, ty_G, ok_G, k_25, k_26, k_3, fun j hj => rfl⟩
theorem lc_M_9 : Jvm.Cond.classLink "TurnHost$Machine" 9 "TurnHost$Program" ∈ th_tb := k_25
theorem lm_M_11 : th_mi "TurnHost$Machine" 11 m_G_init 0 := ⟨⟨⟨by decide +kernel, by decide +kernel, by decide +kernel⟩, by decide +kernel, k_3, k_29⟩, k_27, k_28, rfl, rfl⟩
theorem lo_G_3 : Jvm.Cond.methodLink "TurnHost$Program" 3 Lib.objectInit ∈ th_tb := k_30
theorem lf_G_9 : th_lf "TurnHost$Program" 9 5 0 := ⟨R_G, F_G, 2, ty_G, ok_G, by decide, k_31⟩
theorem lp_G_9 : th_lpF "TurnHost$Program" 9 5 0 1 := ⟨R_G, F_G, 2, ty_G, ok_G, by decide, k_31, rfl, rfl, (th_fty_a _)⟩
theorem lf_M_46 : th_lf "TurnHost$Machine" 46 5 0 := ⟨R_G, F_G, 2, ty_G, ok_G, by decide, k_32⟩
theorem lf_G_15 : th_lf "TurnHost$Program" 15 5 1 := ⟨R_G, F_G, 2, ty_G, ok_G, by decide, k_33⟩
theorem lp_G_15 : th_lp "TurnHost$Program" 15 5 1 0 := ⟨R_G, F_G, 2, ty_G, ok_G, by decide, k_33, rfl, th_fty_i⟩
theorem ln_M_18 : th_ln "TurnHost$Machine" 18 4 5 dv_S := ⟨R_S, F_S, ty_S, ok_S, k_40, k_41, k_4, fun j hj => rfl⟩
theorem lc_M_18 : Jvm.Cond.classLink "TurnHost$Machine" 18 "TurnHost$Society" ∈ th_tb := k_40
theorem lm_M_20 : th_mi "TurnHost$Machine" 20 m_S_init 0 := ⟨⟨⟨by decide +kernel, by decide +kernel, by decide +kernel⟩, by decide +kernel, k_4, k_44⟩, k_42, k_43, rfl, rfl⟩
theorem lo_S_3 : Jvm.Cond.methodLink "TurnHost$Society" 3 Lib.objectInit ∈ th_tb := k_45
theorem ln_S_9 : th_ln "TurnHost$Society" 9 2 12 dv_P := ⟨R_P, F_P, ty_P, ok_P, k_46, k_48, k_5, fun j hj => rfl⟩
theorem lc_S_9 : Jvm.Cond.classLink "TurnHost$Society" 9 "TurnHost$HostProcess" ∈ th_tb := k_46
theorem lm_S_17 : th_mi "TurnHost$Society" 17 m_P_init 1 := ⟨⟨⟨by decide +kernel, by decide +kernel, by decide +kernel⟩, by decide +kernel, k_5, k_51⟩, k_49, k_50, rfl, rfl⟩
theorem lo_P_3 : Jvm.Cond.methodLink "TurnHost$HostProcess" 3 Lib.objectInit ∈ th_tb := k_52
theorem ln_P_15 : th_ln "TurnHost$HostProcess" 15 0 5 dv_T := ⟨R_T, F_T, ty_T, ok_T, k_53, k_54, k_6, fun j hj => rfl⟩
theorem lc_P_15 : Jvm.Cond.classLink "TurnHost$HostProcess" 15 "TurnHost$Term" ∈ th_tb := k_53
theorem lm_P_17 : th_mi "TurnHost$HostProcess" 17 m_T_init 2 := ⟨⟨⟨by decide +kernel, by decide +kernel, by decide +kernel⟩, by decide +kernel, k_6, k_57⟩, k_55, k_56, rfl, rfl⟩
theorem lo_T_3 : Jvm.Cond.methodLink "TurnHost$Term" 3 Lib.objectInit ∈ th_tb := k_58
theorem lf_T_9 : th_lf "TurnHost$Term" 9 0 0 := ⟨R_T, F_T, 5, ty_T, ok_T, by decide, k_59⟩
theorem lp_T_9 : th_lpF "TurnHost$Term" 9 0 0 0 := ⟨R_T, F_T, 5, ty_T, ok_T, by decide, k_59, rfl, rfl, th_fty_i⟩
theorem lf_M_97 : th_lf "TurnHost$Machine" 97 0 0 := ⟨R_T, F_T, 5, ty_T, ok_T, by decide, k_60⟩
theorem lf_S_47 : th_lf "TurnHost$Society" 47 0 0 := ⟨R_T, F_T, 5, ty_T, ok_T, by decide, k_61⟩
theorem lf_T_15 : th_lf "TurnHost$Term" 15 0 1 := ⟨R_T, F_T, 5, ty_T, ok_T, by decide, k_62⟩
theorem lp_T_15 : th_lpF "TurnHost$Term" 15 0 1 0 := ⟨R_T, F_T, 5, ty_T, ok_T, by decide, k_62, rfl, rfl, th_fty_i⟩
theorem lf_M_87 : th_lf "TurnHost$Machine" 87 0 1 := ⟨R_T, F_T, 5, ty_T, ok_T, by decide, k_63⟩
theorem lf_S_50 : th_lf "TurnHost$Society" 50 0 1 := ⟨R_T, F_T, 5, ty_T, ok_T, by decide, k_64⟩
theorem lf_T_18 : th_lf "TurnHost$Term" 18 0 2 := ⟨R_T, F_T, 5, ty_T, ok_T, by decide, k_65⟩
theorem lp_T_18 : th_lpF "TurnHost$Term" 18 0 2 1 := ⟨R_T, F_T, 5, ty_T, ok_T, by decide, k_65, rfl, rfl, (th_fty_o _)⟩
theorem lf_M_77 : th_lf "TurnHost$Machine" 77 0 2 := ⟨R_T, F_T, 5, ty_T, ok_T, by decide, k_66⟩
theorem lf_T_22 : th_lf "TurnHost$Term" 22 0 3 := ⟨R_T, F_T, 5, ty_T, ok_T, by decide, k_67⟩
theorem lp_T_22 : th_lpF "TurnHost$Term" 22 0 3 1 := ⟨R_T, F_T, 5, ty_T, ok_T, by decide, k_67, rfl, rfl, (th_fty_o _)⟩
theorem lf_M_80 : th_lf "TurnHost$Machine" 80 0 3 := ⟨R_T, F_T, 5, ty_T, ok_T, by decide, k_68⟩
theorem lf_T_25 : th_lf "TurnHost$Term" 25 0 4 := ⟨R_T, F_T, 5, ty_T, ok_T, by decide, k_69⟩
theorem lp_T_25 : th_lpF "TurnHost$Term" 25 0 4 0 := ⟨R_T, F_T, 5, ty_T, ok_T, by decide, k_69, rfl, rfl, th_fty_i⟩
theorem lf_S_114 : th_lf "TurnHost$Society" 114 0 4 := ⟨R_T, F_T, 5, ty_T, ok_T, by decide, k_70⟩
theorem ln_P_32 : th_ln "TurnHost$HostProcess" 32 1 3 dv_B := ⟨R_B, F_B, ty_B, ok_B, k_83, k_84, k_7, fun j hj => rfl⟩
theorem lc_P_32 : Jvm.Cond.classLink "TurnHost$HostProcess" 32 "TurnHost$Mailbox" ∈ th_tb := k_83
theorem lm_P_34 : th_mi "TurnHost$HostProcess" 34 m_B_init 0 := ⟨⟨⟨by decide +kernel, by decide +kernel, by decide +kernel⟩, by decide +kernel, k_7, k_87⟩, k_85, k_86, rfl, rfl⟩
theorem lo_B_3 : Jvm.Cond.methodLink "TurnHost$Mailbox" 3 Lib.objectInit ∈ th_tb := k_88
theorem ln_B_9 : th_ln "TurnHost$Mailbox" 9 0 5 dv_T := ⟨R_T, F_T, ty_T, ok_T, k_89, k_54, k_6, fun j hj => rfl⟩
theorem lc_B_9 : Jvm.Cond.classLink "TurnHost$Mailbox" 9 "TurnHost$Term" ∈ th_tb := k_89
theorem lf_B_11 : th_lf "TurnHost$Mailbox" 11 1 0 := ⟨R_B, F_B, 3, ty_B, ok_B, by decide, k_90⟩
theorem lp_B_11 : th_lpF "TurnHost$Mailbox" 11 1 0 1 := ⟨R_B, F_B, 3, ty_B, ok_B, by decide, k_90, rfl, rfl, (th_fty_a _)⟩
theorem lf_B_17 : th_lf "TurnHost$Mailbox" 17 1 1 := ⟨R_B, F_B, 3, ty_B, ok_B, by decide, k_91⟩
theorem lp_B_17 : th_lp "TurnHost$Mailbox" 17 1 1 0 := ⟨R_B, F_B, 3, ty_B, ok_B, by decide, k_91, rfl, th_fty_i⟩
theorem lf_P_67 : th_lf "TurnHost$HostProcess" 67 1 1 := ⟨R_B, F_B, 3, ty_B, ok_B, by decide, k_92⟩
theorem lp_P_67 : th_lp "TurnHost$HostProcess" 67 1 1 0 := ⟨R_B, F_B, 3, ty_B, ok_B, by decide, k_92, rfl, th_fty_i⟩
theorem lf_B_21 : th_lf "TurnHost$Mailbox" 21 1 2 := ⟨R_B, F_B, 3, ty_B, ok_B, by decide, k_93⟩
theorem lp_B_21 : th_lp "TurnHost$Mailbox" 21 1 2 0 := ⟨R_B, F_B, 3, ty_B, ok_B, by decide, k_93, rfl, th_fty_i⟩
theorem lf_P_64 : th_lf "TurnHost$HostProcess" 64 1 2 := ⟨R_B, F_B, 3, ty_B, ok_B, by decide, k_94⟩
theorem lp_P_64 : th_lp "TurnHost$HostProcess" 64 1 2 0 := ⟨R_B, F_B, 3, ty_B, ok_B, by decide, k_94, rfl, th_fty_i⟩
theorem lf_M_166 : th_lf "TurnHost$Machine" 166 1 2 := ⟨R_B, F_B, 3, ty_B, ok_B, by decide, k_95⟩
theorem lp_M_166 : th_lp "TurnHost$Machine" 166 1 2 0 := ⟨R_B, F_B, 3, ty_B, ok_B, by decide, k_95, rfl, th_fty_i⟩
theorem lf_P_9 : th_lf "TurnHost$HostProcess" 9 2 0 := ⟨R_P, F_P, 12, ty_P, ok_P, by decide, k_103⟩
theorem lp_P_9 : th_lpF "TurnHost$HostProcess" 9 2 0 0 := ⟨R_P, F_P, 12, ty_P, ok_P, by decide, k_103, rfl, rfl, th_fty_i⟩
theorem lf_H_50 : th_lf "TurnHost" 50 2 0 := ⟨R_P, F_P, 12, ty_P, ok_P, by decide, k_104⟩
theorem lf_S_61 : th_lf "TurnHost$Society" 61 2 0 := ⟨R_P, F_P, 12, ty_P, ok_P, by decide, k_105⟩
theorem lf_P_20 : th_lf "TurnHost$HostProcess" 20 2 1 := ⟨R_P, F_P, 12, ty_P, ok_P, by decide, k_106⟩
theorem lp_P_20 : th_lpF "TurnHost$HostProcess" 20 2 1 1 := ⟨R_P, F_P, 12, ty_P, ok_P, by decide, k_106, rfl, rfl, (th_fty_o _)⟩
theorem lf_M_66 : th_lf "TurnHost$Machine" 66 2 1 := ⟨R_P, F_P, 12, ty_P, ok_P, by decide, k_107⟩
theorem lf_S_117 : th_lf "TurnHost$Society" 117 2 1 := ⟨R_P, F_P, 12, ty_P, ok_P, by decide, k_108⟩
theorem lf_P_24 : th_lf "TurnHost$HostProcess" 24 2 2 := ⟨R_P, F_P, 12, ty_P, ok_P, by decide, k_109⟩
theorem lp_P_24 : th_lpF "TurnHost$HostProcess" 24 2 2 1 := ⟨R_P, F_P, 12, ty_P, ok_P, by decide, k_109, rfl, rfl, (th_fty_a _)⟩
theorem lf_M_54 : th_lf "TurnHost$Machine" 54 2 2 := ⟨R_P, F_P, 12, ty_P, ok_P, by decide, k_110⟩
theorem lf_P_28 : th_lf "TurnHost$HostProcess" 28 2 3 := ⟨R_P, F_P, 12, ty_P, ok_P, by decide, k_111⟩
theorem lp_P_28 : th_lpF "TurnHost$HostProcess" 28 2 3 1 := ⟨R_P, F_P, 12, ty_P, ok_P, by decide, k_111, rfl, rfl, (th_fty_a _)⟩
theorem lf_M_160 : th_lf "TurnHost$Machine" 160 2 3 := ⟨R_P, F_P, 12, ty_P, ok_P, by decide, k_112⟩
theorem lf_P_35 : th_lf "TurnHost$HostProcess" 35 2 4 := ⟨R_P, F_P, 12, ty_P, ok_P, by decide, k_113⟩
theorem lp_P_35 : th_lpF "TurnHost$HostProcess" 35 2 4 1 := ⟨R_P, F_P, 12, ty_P, ok_P, by decide, k_113, rfl, rfl, (th_fty_o _)⟩
theorem lf_M_119 : th_lf "TurnHost$Machine" 119 2 4 := ⟨R_P, F_P, 12, ty_P, ok_P, by decide, k_114⟩
theorem lf_S_68 : th_lf "TurnHost$Society" 68 2 4 := ⟨R_P, F_P, 12, ty_P, ok_P, by decide, k_115⟩
theorem lf_P_42 : th_lf "TurnHost$HostProcess" 42 2 5 := ⟨R_P, F_P, 12, ty_P, ok_P, by decide, k_116⟩
theorem lp_P_42 : th_lp "TurnHost$HostProcess" 42 2 5 0 := ⟨R_P, F_P, 12, ty_P, ok_P, by decide, k_116, rfl, th_fty_i⟩
theorem lf_M_157 : th_lf "TurnHost$Machine" 157 2 5 := ⟨R_P, F_P, 12, ty_P, ok_P, by decide, k_117⟩
theorem lp_M_157 : th_lp "TurnHost$Machine" 157 2 5 0 := ⟨R_P, F_P, 12, ty_P, ok_P, by decide, k_117, rfl, th_fty_i⟩
theorem lf_M_31 : th_lf "TurnHost$Machine" 31 2 6 := ⟨R_P, F_P, 12, ty_P, ok_P, by decide, k_118⟩
theorem lp_M_31 : th_lp "TurnHost$Machine" 31 2 6 0 := ⟨R_P, F_P, 12, ty_P, ok_P, by decide, k_118, rfl, th_fty_i⟩
theorem lf_P_45 : th_lf "TurnHost$HostProcess" 45 2 6 := ⟨R_P, F_P, 12, ty_P, ok_P, by decide, k_119⟩
theorem lp_P_45 : th_lp "TurnHost$HostProcess" 45 2 6 0 := ⟨R_P, F_P, 12, ty_P, ok_P, by decide, k_119, rfl, th_fty_i⟩
theorem lf_P_48 : th_lf "TurnHost$HostProcess" 48 2 7 := ⟨R_P, F_P, 12, ty_P, ok_P, by decide, k_120⟩
theorem lp_P_48 : th_lp "TurnHost$HostProcess" 48 2 7 0 := ⟨R_P, F_P, 12, ty_P, ok_P, by decide, k_120, rfl, th_fty_i⟩
theorem lf_S_81 : th_lf "TurnHost$Society" 81 2 7 := ⟨R_P, F_P, 12, ty_P, ok_P, by decide, k_121⟩
theorem lp_S_81 : th_lp "TurnHost$Society" 81 2 7 0 := ⟨R_P, F_P, 12, ty_P, ok_P, by decide, k_121, rfl, th_fty_i⟩
theorem lf_P_51 : th_lf "TurnHost$HostProcess" 51 2 8 := ⟨R_P, F_P, 12, ty_P, ok_P, by decide, k_122⟩
theorem lp_P_51 : th_lp "TurnHost$HostProcess" 51 2 8 2 := ⟨R_P, F_P, 12, ty_P, ok_P, by decide, k_122, rfl, th_fty_b⟩
theorem lf_S_95 : th_lf "TurnHost$Society" 95 2 8 := ⟨R_P, F_P, 12, ty_P, ok_P, by decide, k_123⟩
theorem lp_S_95 : th_lp "TurnHost$Society" 95 2 8 2 := ⟨R_P, F_P, 12, ty_P, ok_P, by decide, k_123, rfl, th_fty_b⟩
theorem lf_M_188 : th_lf "TurnHost$Machine" 188 2 8 := ⟨R_P, F_P, 12, ty_P, ok_P, by decide, k_124⟩
theorem lp_M_188 : th_lp "TurnHost$Machine" 188 2 8 2 := ⟨R_P, F_P, 12, ty_P, ok_P, by decide, k_124, rfl, th_fty_b⟩
theorem lf_P_55 : th_lf "TurnHost$HostProcess" 55 2 9 := ⟨R_P, F_P, 12, ty_P, ok_P, by decide, k_125⟩
theorem lp_P_55 : th_lp "TurnHost$HostProcess" 55 2 9 0 := ⟨R_P, F_P, 12, ty_P, ok_P, by decide, k_125, rfl, th_fty_i⟩
theorem lf_H_59 : th_lf "TurnHost" 59 2 9 := ⟨R_P, F_P, 12, ty_P, ok_P, by decide, k_126⟩
theorem lp_H_59 : th_lp "TurnHost" 59 2 9 0 := ⟨R_P, F_P, 12, ty_P, ok_P, by decide, k_126, rfl, th_fty_i⟩
theorem lf_S_65 : th_lf "TurnHost$Society" 65 2 9 := ⟨R_P, F_P, 12, ty_P, ok_P, by decide, k_127⟩
theorem lp_S_65 : th_lp "TurnHost$Society" 65 2 9 0 := ⟨R_P, F_P, 12, ty_P, ok_P, by decide, k_127, rfl, th_fty_i⟩
theorem lf_M_177 : th_lf "TurnHost$Machine" 177 2 9 := ⟨R_P, F_P, 12, ty_P, ok_P, by decide, k_128⟩
theorem lp_M_177 : th_lp "TurnHost$Machine" 177 2 9 0 := ⟨R_P, F_P, 12, ty_P, ok_P, by decide, k_128, rfl, th_fty_i⟩
theorem lf_P_58 : th_lf "TurnHost$HostProcess" 58 2 10 := ⟨R_P, F_P, 12, ty_P, ok_P, by decide, k_129⟩
theorem lp_P_58 : th_lp "TurnHost$HostProcess" 58 2 10 1 := ⟨R_P, F_P, 12, ty_P, ok_P, by decide, k_129, rfl, (th_fty_o _)⟩
theorem lf_S_84 : th_lf "TurnHost$Society" 84 2 10 := ⟨R_P, F_P, 12, ty_P, ok_P, by decide, k_130⟩
theorem lp_S_84 : th_lp "TurnHost$Society" 84 2 10 1 := ⟨R_P, F_P, 12, ty_P, ok_P, by decide, k_130, rfl, (th_fty_o _)⟩
theorem lf_M_25 : th_lf "TurnHost$Machine" 25 2 11 := ⟨R_P, F_P, 12, ty_P, ok_P, by decide, k_131⟩
theorem lp_M_25 : th_lp "TurnHost$Machine" 25 2 11 0 := ⟨R_P, F_P, 12, ty_P, ok_P, by decide, k_131, rfl, th_fty_i⟩
theorem lf_P_61 : th_lf "TurnHost$HostProcess" 61 2 11 := ⟨R_P, F_P, 12, ty_P, ok_P, by decide, k_132⟩
theorem lp_P_61 : th_lp "TurnHost$HostProcess" 61 2 11 0 := ⟨R_P, F_P, 12, ty_P, ok_P, by decide, k_132, rfl, th_fty_i⟩
theorem ln_S_20 : th_ln "TurnHost$Society" 20 3 2 dv_L := ⟨R_L, F_L, ty_L, ok_L, k_158, k_159, k_8, fun j hj => rfl⟩
theorem lc_S_20 : Jvm.Cond.classLink "TurnHost$Society" 20 "TurnHost$Line" ∈ th_tb := k_158
theorem lm_S_22 : th_mi "TurnHost$Society" 22 m_L_init 0 := ⟨⟨⟨by decide +kernel, by decide +kernel, by decide +kernel⟩, by decide +kernel, k_8, k_162⟩, k_160, k_161, rfl, rfl⟩
theorem lo_L_3 : Jvm.Cond.methodLink "TurnHost$Line" 3 Lib.objectInit ∈ th_tb := k_163
theorem lf_L_9 : th_lf "TurnHost$Line" 9 3 0 := ⟨R_L, F_L, 2, ty_L, ok_L, by decide, k_164⟩
theorem lp_L_9 : th_lpF "TurnHost$Line" 9 3 0 1 := ⟨R_L, F_L, 2, ty_L, ok_L, by decide, k_164, rfl, rfl, (th_fty_a _)⟩
theorem lf_L_15 : th_lf "TurnHost$Line" 15 3 1 := ⟨R_L, F_L, 2, ty_L, ok_L, by decide, k_165⟩
theorem lp_L_15 : th_lp "TurnHost$Line" 15 3 1 0 := ⟨R_L, F_L, 2, ty_L, ok_L, by decide, k_165, rfl, th_fty_i⟩
theorem ln_S_27 : th_ln "TurnHost$Society" 27 0 5 dv_T := ⟨R_T, F_T, ty_T, ok_T, k_171, k_54, k_6, fun j hj => rfl⟩
theorem lc_S_27 : Jvm.Cond.classLink "TurnHost$Society" 27 "TurnHost$Term" ∈ th_tb := k_171
theorem lm_S_29 : th_mi "TurnHost$Society" 29 m_T_init 2 := ⟨⟨⟨by decide +kernel, by decide +kernel, by decide +kernel⟩, by decide +kernel, k_6, k_57⟩, k_172, k_56, rfl, rfl⟩
theorem lf_S_11 : th_lf "TurnHost$Society" 11 4 0 := ⟨R_S, F_S, 5, ty_S, ok_S, by decide, k_173⟩
theorem lp_S_11 : th_lpF "TurnHost$Society" 11 4 0 1 := ⟨R_S, F_S, 5, ty_S, ok_S, by decide, k_173, rfl, rfl, (th_fty_a _)⟩
theorem lf_S_23 : th_lf "TurnHost$Society" 23 4 1 := ⟨R_S, F_S, 5, ty_S, ok_S, by decide, k_174⟩
theorem lp_S_23 : th_lpF "TurnHost$Society" 23 4 1 1 := ⟨R_S, F_S, 5, ty_S, ok_S, by decide, k_174, rfl, rfl, (th_fty_o _)⟩
theorem lf_H_66 : th_lf "TurnHost" 66 4 1 := ⟨R_S, F_S, 5, ty_S, ok_S, by decide, k_175⟩
theorem lf_S_32 : th_lf "TurnHost$Society" 32 4 2 := ⟨R_S, F_S, 5, ty_S, ok_S, by decide, k_176⟩
theorem lp_S_32 : th_lpF "TurnHost$Society" 32 4 2 1 := ⟨R_S, F_S, 5, ty_S, ok_S, by decide, k_176, rfl, rfl, (th_fty_o _)⟩
theorem lf_M_70 : th_lf "TurnHost$Machine" 70 4 2 := ⟨R_S, F_S, 5, ty_S, ok_S, by decide, k_177⟩
theorem lf_S_36 : th_lf "TurnHost$Society" 36 4 3 := ⟨R_S, F_S, 5, ty_S, ok_S, by decide, k_178⟩
theorem lp_S_36 : th_lpF "TurnHost$Society" 36 4 3 1 := ⟨R_S, F_S, 5, ty_S, ok_S, by decide, k_178, rfl, rfl, (th_fty_a _)⟩
theorem lf_M_38 : th_lf "TurnHost$Machine" 38 4 3 := ⟨R_S, F_S, 5, ty_S, ok_S, by decide, k_179⟩
theorem lf_S_40 : th_lf "TurnHost$Society" 40 4 4 := ⟨R_S, F_S, 5, ty_S, ok_S, by decide, k_180⟩
theorem lp_S_40 : th_lp "TurnHost$Society" 40 4 4 0 := ⟨R_S, F_S, 5, ty_S, ok_S, by decide, k_180, rfl, th_fty_i⟩
theorem lf_H_83 : th_lf "TurnHost" 83 4 4 := ⟨R_S, F_S, 5, ty_S, ok_S, by decide, k_181⟩
theorem lp_H_83 : th_lp "TurnHost" 83 4 4 0 := ⟨R_S, F_S, 5, ty_S, ok_S, by decide, k_181, rfl, th_fty_i⟩
theorem lf_M_12 : th_lf "TurnHost$Machine" 12 6 0 := ⟨R_M, F_M, 2, ty_M, ok_M, by decide, k_193⟩
theorem lp_M_12 : th_lpF "TurnHost$Machine" 12 6 0 1 := ⟨R_M, F_M, 2, ty_M, ok_M, by decide, k_193, rfl, rfl, (th_fty_o _)⟩
theorem lf_H_20 : th_lf "TurnHost" 20 6 0 := ⟨R_M, F_M, 2, ty_M, ok_M, by decide, k_194⟩
theorem lf_M_21 : th_lf "TurnHost$Machine" 21 6 1 := ⟨R_M, F_M, 2, ty_M, ok_M, by decide, k_195⟩
theorem lp_M_21 : th_lpF "TurnHost$Machine" 21 6 1 1 := ⟨R_M, F_M, 2, ty_M, ok_M, by decide, k_195, rfl, rfl, (th_fty_o _)⟩
theorem lf_H_25 : th_lf "TurnHost" 25 6 1 := ⟨R_M, F_M, 2, ty_M, ok_M, by decide, k_196⟩
theorem lf_H_9 : th_lf "TurnHost" 9 7 0 := ⟨R_H, F_H, 5, ty_H, ok_H, by decide, k_202⟩
theorem lp_H_9 : th_lpF "TurnHost" 9 7 0 0 := ⟨R_H, F_H, 5, ty_H, ok_H, by decide, k_202, rfl, rfl, th_fty_i⟩
theorem lf_H_16 : th_lf "TurnHost" 16 7 1 := ⟨R_H, F_H, 5, ty_H, ok_H, by decide, k_203⟩
theorem lp_H_16 : th_lpF "TurnHost" 16 7 1 1 := ⟨R_H, F_H, 5, ty_H, ok_H, by decide, k_203, rfl, rfl, (th_fty_o _)⟩
theorem lf_H_24 : th_lf "TurnHost" 24 7 2 := ⟨R_H, F_H, 5, ty_H, ok_H, by decide, k_204⟩
theorem lp_H_24 : th_lpF "TurnHost" 24 7 2 1 := ⟨R_H, F_H, 5, ty_H, ok_H, by decide, k_204, rfl, rfl, (th_fty_o _)⟩
theorem lf_H_29 : th_lf "TurnHost" 29 7 3 := ⟨R_H, F_H, 5, ty_H, ok_H, by decide, k_205⟩
theorem lp_H_29 : th_lpF "TurnHost" 29 7 3 1 := ⟨R_H, F_H, 5, ty_H, ok_H, by decide, k_205, rfl, rfl, (th_fty_o _)⟩
theorem lf_H_30 : th_lf "TurnHost" 30 7 4 := ⟨R_H, F_H, 5, ty_H, ok_H, by decide, k_206⟩
theorem lp_H_30 : th_lp "TurnHost" 30 7 4 0 := ⟨R_H, F_H, 5, ty_H, ok_H, by decide, k_206, rfl, th_fty_i⟩
theorem lm_W_21 : th_mv "TurnHostLaw" 21 m_H_add 4 := ⟨⟨⟨by decide +kernel, by decide +kernel, by decide +kernel⟩, by decide +kernel, k_1, k_221⟩, k_218, k_219, k_220⟩
theorem lm_H_33 : th_mv "TurnHost" 33 m_G_append 4 := ⟨⟨⟨by decide +kernel, by decide +kernel, by decide +kernel⟩, by decide +kernel, k_3, k_225⟩, k_222, k_223, k_224⟩
theorem lm_G_22 : th_ms "TurnHost$Program" 22 m_G_fits 2 := ⟨⟨⟨by decide +kernel, by decide +kernel, by decide +kernel⟩, by decide +kernel, k_3, k_230⟩, k_228, k_229⟩
theorem lm_W_26 : th_mv "TurnHostLaw" 26 m_H_begin 2 := ⟨⟨⟨by decide +kernel, by decide +kernel, by decide +kernel⟩, by decide +kernel, k_1, k_234⟩, k_231, k_232, k_233⟩
theorem ln_H_39 : th_ln "TurnHost" 39 0 5 dv_T := ⟨R_T, F_T, ty_T, ok_T, k_235, k_54, k_6, fun j hj => rfl⟩
theorem lc_H_39 : Jvm.Cond.classLink "TurnHost" 39 "TurnHost$Term" ∈ th_tb := k_235
theorem lm_H_41 : th_mi "TurnHost" 41 m_T_init 2 := ⟨⟨⟨by decide +kernel, by decide +kernel, by decide +kernel⟩, by decide +kernel, k_6, k_57⟩, k_236, k_56, rfl, rfl⟩
theorem lm_H_44 : th_mv "TurnHost" 44 m_S_start 2 := ⟨⟨⟨by decide +kernel, by decide +kernel, by decide +kernel⟩, by decide +kernel, k_4, k_240⟩, k_237, k_238, k_239⟩
theorem lm_S_57 : th_mv "TurnHost$Society" 57 m_P_renew 3 := ⟨⟨⟨by decide +kernel, by decide +kernel, by decide +kernel⟩, by decide +kernel, k_5, k_244⟩, k_241, k_242, k_243⟩
theorem lm_P_39 : th_mv "TurnHost$HostProcess" 39 m_B_empty 0 := ⟨⟨⟨by decide +kernel, by decide +kernel, by decide +kernel⟩, by decide +kernel, k_7, k_248⟩, k_245, k_246, k_247⟩
theorem lm_S_62 : th_mv "TurnHost$Society" 62 m_L_append 1 := ⟨⟨⟨by decide +kernel, by decide +kernel, by decide +kernel⟩, by decide +kernel, k_8, k_252⟩, k_249, k_250, k_251⟩
theorem lm_W_31 : th_mv "TurnHostLaw" 31 m_H_tell 2 := ⟨⟨⟨by decide +kernel, by decide +kernel, by decide +kernel⟩, by decide +kernel, k_1, k_256⟩, k_253, k_254, k_255⟩
theorem lm_H_55 : th_mv "TurnHost" 55 m_S_numbered 1 := ⟨⟨⟨by decide +kernel, by decide +kernel, by decide +kernel⟩, by decide +kernel, k_4, k_260⟩, k_257, k_258, k_259⟩
theorem lm_H_62 : th_mv "TurnHost" 62 m_S_deliver 2 := ⟨⟨⟨by decide +kernel, by decide +kernel, by decide +kernel⟩, by decide +kernel, k_4, k_264⟩, k_261, k_262, k_263⟩
theorem lm_S_72 : th_mv "TurnHost$Society" 72 m_B_put 1 := ⟨⟨⟨by decide +kernel, by decide +kernel, by decide +kernel⟩, by decide +kernel, k_7, k_268⟩, k_265, k_266, k_267⟩
theorem lm_W_36 : th_mv "TurnHostLaw" 36 m_H_run 1 := ⟨⟨⟨by decide +kernel, by decide +kernel, by decide +kernel⟩, by decide +kernel, k_1, k_272⟩, k_269, k_270, k_271⟩
theorem lm_H_70 : th_mv "TurnHost" 70 m_L_at 1 := ⟨⟨⟨by decide +kernel, by decide +kernel, by decide +kernel⟩, by decide +kernel, k_8, k_276⟩, k_273, k_274, k_275⟩
theorem lm_H_76 : th_mv "TurnHost" 76 m_M_reduce 1 := ⟨⟨⟨by decide +kernel, by decide +kernel, by decide +kernel⟩, by decide +kernel, k_2, k_280⟩, k_277, k_278, k_279⟩
theorem lm_M_34 : th_mv "TurnHost$Machine" 34 m_G_reaches 1 := ⟨⟨⟨by decide +kernel, by decide +kernel, by decide +kernel⟩, by decide +kernel, k_3, k_284⟩, k_281, k_282, k_283⟩
theorem lm_M_42 : th_mvN "TurnHost$Machine" 42 m_S_end 2 := ⟨⟨⟨by decide +kernel, by decide +kernel, by decide +kernel⟩, by decide +kernel, k_4, k_288⟩, ⟨"TurnHost", tbl2 (List.mem_of_getElem? (i := 45) rfl)⟩, k_287, tbP (List.mem_append_left _ (List.mem_of_getElem? (i := 0) rfl))⟩
theorem lm_S_78 : th_mv "TurnHost$Society" 78 m_L_leave 1 := ⟨⟨⟨by decide +kernel, by decide +kernel, by decide +kernel⟩, by decide +kernel, k_8, k_292⟩, k_289, k_290, k_291⟩
theorem lm_S_87 : th_mv "TurnHost$Society" 87 m_S_untie 2 := ⟨⟨⟨by decide +kernel, by decide +kernel, by decide +kernel⟩, by decide +kernel, k_4, k_296⟩, k_293, k_295, tbP (List.mem_append_left _ (List.mem_of_getElem? (i := 1) rfl))⟩
theorem lm_S_91 : th_mv "TurnHost$Society" 91 m_S_signal 3 := ⟨⟨⟨by decide +kernel, by decide +kernel, by decide +kernel⟩, by decide +kernel, k_4, k_300⟩, k_297, k_299, tbP (List.mem_append_left _ (List.mem_of_getElem? (i := 2) rfl))⟩
theorem lm_S_99 : th_mv "TurnHost$Society" 99 m_S_exitNotice 2 := ⟨⟨⟨by decide +kernel, by decide +kernel, by decide +kernel⟩, by decide +kernel, k_4, k_304⟩, k_301, k_303, tbP (List.mem_append_left _ (List.mem_of_getElem? (i := 3) rfl))⟩
theorem lm_S_120 : th_mi "TurnHost$Society" 120 m_T_init2 3 := ⟨⟨⟨by decide +kernel, by decide +kernel, by decide +kernel⟩, by decide +kernel, k_6, k_307⟩, k_305, k_306, rfl, rfl⟩
theorem lm_S_103 : th_mv "TurnHost$Society" 103 m_S_deliver 2 := ⟨⟨⟨by decide +kernel, by decide +kernel, by decide +kernel⟩, by decide +kernel, k_4, k_264⟩, k_308, k_262, k_263⟩
theorem lm_S_107 : th_msN "TurnHost$Society" 107 m_T_alike 2 := ⟨⟨⟨by decide +kernel, by decide +kernel, by decide +kernel⟩, by decide +kernel, k_6, k_311⟩, ⟨"TurnHost", tbl2 (List.mem_of_getElem? (i := 69) rfl)⟩, k_310⟩
theorem lm_T_42 : th_mv "TurnHost$Term" 42 m_T_hasParts 0 := ⟨⟨⟨by decide +kernel, by decide +kernel, by decide +kernel⟩, by decide +kernel, k_6, k_315⟩, k_312, k_313, k_314⟩
theorem lm_T_45 : th_ms "TurnHost$Term" 45 m_T_alike 2 := ⟨⟨⟨by decide +kernel, by decide +kernel, by decide +kernel⟩, by decide +kernel, k_6, k_311⟩, k_316, k_310⟩
theorem lm_S_111 : th_mv "TurnHost$Society" 111 m_S_end 2 := ⟨⟨⟨by decide +kernel, by decide +kernel, by decide +kernel⟩, by decide +kernel, k_4, k_288⟩, k_317, k_287, tbP (List.mem_append_left _ (List.mem_of_getElem? (i := 0) rfl))⟩
theorem lm_M_50 : th_mv "TurnHost$Machine" 50 m_M_perform 5 := ⟨⟨⟨by decide +kernel, by decide +kernel, by decide +kernel⟩, by decide +kernel, k_2, k_321⟩, k_318, k_320, tbP (List.mem_append_left _ (List.mem_of_getElem? (i := 4) rfl))⟩
theorem ln_M_57 : th_ln "TurnHost$Machine" 57 0 5 dv_T := ⟨R_T, F_T, ty_T, ok_T, k_322, k_54, k_6, fun j hj => rfl⟩
theorem lc_M_57 : Jvm.Cond.classLink "TurnHost$Machine" 57 "TurnHost$Term" ∈ th_tb := k_322
theorem lm_M_59 : th_mi "TurnHost$Machine" 59 m_T_init 2 := ⟨⟨⟨by decide +kernel, by decide +kernel, by decide +kernel⟩, by decide +kernel, k_6, k_57⟩, k_323, k_56, rfl, rfl⟩
theorem lm_M_62 : th_mv "TurnHost$Machine" 62 m_P_set 2 := ⟨⟨⟨by decide +kernel, by decide +kernel, by decide +kernel⟩, by decide +kernel, k_5, k_327⟩, k_324, k_325, k_326⟩
theorem lm_M_73 : th_ms "TurnHost$Machine" 73 m_T_joined 3 := ⟨⟨⟨by decide +kernel, by decide +kernel, by decide +kernel⟩, by decide +kernel, k_6, k_330⟩, k_328, k_329⟩
theorem ln_T_10 : th_ln "TurnHost$Term" 10 0 5 dv_T := ⟨R_T, F_T, ty_T, ok_T, k_331, k_54, k_6, fun j hj => rfl⟩
theorem lc_T_10 : Jvm.Cond.classLink "TurnHost$Term" 10 "TurnHost$Term" ∈ th_tb := k_331
theorem lm_T_28 : th_mi "TurnHost$Term" 28 m_T_init2 3 := ⟨⟨⟨by decide +kernel, by decide +kernel, by decide +kernel⟩, by decide +kernel, k_6, k_307⟩, k_332, k_306, rfl, rfl⟩
theorem lm_M_83 : th_ms "TurnHost$Machine" 83 m_M_areInts 2 := ⟨⟨⟨by decide +kernel, by decide +kernel, by decide +kernel⟩, by decide +kernel, k_2, k_335⟩, k_333, k_334⟩
theorem lm_M_90 : th_ms "TurnHost$Machine" 90 m_M_goUnless 3 := ⟨⟨⟨by decide +kernel, by decide +kernel, by decide +kernel⟩, by decide +kernel, k_2, k_338⟩, k_336, k_337⟩
theorem lm_M_100 : th_mv "TurnHost$Machine" 100 m_P_goTo 1 := ⟨⟨⟨by decide +kernel, by decide +kernel, by decide +kernel⟩, by decide +kernel, k_5, k_342⟩, k_339, k_340, k_341⟩
theorem lm_M_94 : th_msN "TurnHost$Machine" 94 m_T_alike 2 := ⟨⟨⟨by decide +kernel, by decide +kernel, by decide +kernel⟩, by decide +kernel, k_6, k_311⟩, ⟨"TurnHost", tbl2 (List.mem_of_getElem? (i := 103) rfl)⟩, k_310⟩
theorem lm_M_103 : th_mv "TurnHost$Machine" 103 m_P_pushReturn 0 := ⟨⟨⟨by decide +kernel, by decide +kernel, by decide +kernel⟩, by decide +kernel, k_5, k_347⟩, k_344, k_345, k_346⟩
theorem lm_M_107 : th_mv "TurnHost$Machine" 107 m_M_goBack 1 := ⟨⟨⟨by decide +kernel, by decide +kernel, by decide +kernel⟩, by decide +kernel, k_2, k_351⟩, k_348, k_350, tbP (List.mem_append_left _ (List.mem_of_getElem? (i := 5) rfl))⟩
theorem lm_M_111 : th_mv "TurnHost$Machine" 111 m_S_bearing 1 := ⟨⟨⟨by decide +kernel, by decide +kernel, by decide +kernel⟩, by decide +kernel, k_4, k_355⟩, k_352, k_353, k_354⟩
theorem lm_S_53 : th_mv "TurnHost$Society" 53 m_S_numbered 1 := ⟨⟨⟨by decide +kernel, by decide +kernel, by decide +kernel⟩, by decide +kernel, k_4, k_260⟩, k_356, k_258, k_259⟩
theorem lm_M_115 : th_mv "TurnHost$Machine" 115 m_M_send 2 := ⟨⟨⟨by decide +kernel, by decide +kernel, by decide +kernel⟩, by decide +kernel, k_2, k_360⟩, k_357, k_359, tbP (List.mem_append_left _ (List.mem_of_getElem? (i := 6) rfl))⟩
theorem lm_M_163 : th_mv "TurnHost$Machine" 163 m_S_deliver 2 := ⟨⟨⟨by decide +kernel, by decide +kernel, by decide +kernel⟩, by decide +kernel, k_4, k_264⟩, k_361, k_262, k_263⟩
theorem lm_M_123 : th_mv "TurnHost$Machine" 123 m_B_marked 0 := ⟨⟨⟨by decide +kernel, by decide +kernel, by decide +kernel⟩, by decide +kernel, k_7, k_365⟩, k_362, k_363, k_364⟩
theorem lm_B_24 : th_mv "TurnHost$Mailbox" 24 m_B_at 1 := ⟨⟨⟨by decide +kernel, by decide +kernel, by decide +kernel⟩, by decide +kernel, k_7, k_369⟩, k_366, k_367, k_368⟩
theorem lm_M_129 : th_mv "TurnHost$Machine" 129 m_B_take 0 := ⟨⟨⟨by decide +kernel, by decide +kernel, by decide +kernel⟩, by decide +kernel, k_7, k_373⟩, k_370, k_371, k_372⟩
theorem lm_B_28 : th_mv "TurnHost$Mailbox" 28 m_B_marked 0 := ⟨⟨⟨by decide +kernel, by decide +kernel, by decide +kernel⟩, by decide +kernel, k_7, k_365⟩, k_374, k_363, k_364⟩
theorem lm_M_132 : th_ms "TurnHost$Machine" 132 m_M_passOver 2 := ⟨⟨⟨by decide +kernel, by decide +kernel, by decide +kernel⟩, by decide +kernel, k_2, k_377⟩, k_375, k_376⟩
theorem lm_M_136 : th_mv "TurnHost$Machine" 136 m_M_waitOrGoOn 2 := ⟨⟨⟨by decide +kernel, by decide +kernel, by decide +kernel⟩, by decide +kernel, k_2, k_381⟩, k_378, k_380, tbP (List.mem_append_left _ (List.mem_of_getElem? (i := 7) rfl))⟩
theorem lm_M_169 : th_mv "TurnHost$Machine" 169 m_S_suspend 1 := ⟨⟨⟨by decide +kernel, by decide +kernel, by decide +kernel⟩, by decide +kernel, k_4, k_385⟩, k_382, k_383, k_384⟩
theorem lm_M_139 : th_mv "TurnHost$Machine" 139 m_M_spawn 4 := ⟨⟨⟨by decide +kernel, by decide +kernel, by decide +kernel⟩, by decide +kernel, k_2, k_389⟩, k_386, k_388, tbP (List.mem_append_left _ (List.mem_of_getElem? (i := 8) rfl))⟩
theorem lm_M_173 : th_mv "TurnHost$Machine" 173 m_S_start 2 := ⟨⟨⟨by decide +kernel, by decide +kernel, by decide +kernel⟩, by decide +kernel, k_4, k_240⟩, k_390, k_238, k_239⟩
theorem lm_M_143 : th_mv "TurnHost$Machine" 143 m_M_link 2 := ⟨⟨⟨by decide +kernel, by decide +kernel, by decide +kernel⟩, by decide +kernel, k_2, k_394⟩, k_391, k_393, tbP (List.mem_append_left _ (List.mem_of_getElem? (i := 9) rfl))⟩
theorem lm_M_180 : th_mvN "TurnHost$Machine" 180 m_S_signal 3 := ⟨⟨⟨by decide +kernel, by decide +kernel, by decide +kernel⟩, by decide +kernel, k_4, k_300⟩, ⟨"TurnHost", tbl2 (List.mem_of_getElem? (i := 155) rfl)⟩, k_299, tbP (List.mem_append_left _ (List.mem_of_getElem? (i := 2) rfl))⟩
theorem lm_M_184 : th_mv "TurnHost$Machine" 184 m_S_tie 2 := ⟨⟨⟨by decide +kernel, by decide +kernel, by decide +kernel⟩, by decide +kernel, k_4, k_399⟩, k_396, k_397, k_398⟩
theorem lm_M_147 : th_ms "TurnHost$Machine" 147 m_M_trap 2 := ⟨⟨⟨by decide +kernel, by decide +kernel, by decide +kernel⟩, by decide +kernel, k_2, k_402⟩, k_400, k_401⟩
theorem lm_M_151 : th_mv "TurnHost$Machine" 151 m_M_finish 2 := ⟨⟨⟨by decide +kernel, by decide +kernel, by decide +kernel⟩, by decide +kernel, k_2, k_406⟩, k_403, k_405, tbP (List.mem_append_left _ (List.mem_of_getElem? (i := 10) rfl))⟩
theorem lm_M_154 : th_mv "TurnHost$Machine" 154 m_M_stop 2 := ⟨⟨⟨by decide +kernel, by decide +kernel, by decide +kernel⟩, by decide +kernel, k_2, k_410⟩, k_407, k_409, tbP (List.mem_append_left _ (List.mem_of_getElem? (i := 11) rfl))⟩
theorem lm_H_80 : th_mv "TurnHost" 80 m_H_countInTurn 1 := ⟨⟨⟨by decide +kernel, by decide +kernel, by decide +kernel⟩, by decide +kernel, k_1, k_414⟩, k_411, k_413, tbP (List.mem_append_left _ (List.mem_of_getElem? (i := 12) rfl))⟩
theorem lm_H_111 : th_mv "TurnHost" 111 m_L_leave 1 := ⟨⟨⟨by decide +kernel, by decide +kernel, by decide +kernel⟩, by decide +kernel, k_8, k_292⟩, k_415, k_290, k_291⟩
theorem lm_H_115 : th_mv "TurnHost" 115 m_L_append 1 := ⟨⟨⟨by decide +kernel, by decide +kernel, by decide +kernel⟩, by decide +kernel, k_8, k_252⟩, k_416, k_250, k_251⟩
theorem lm_W_41 : th_mv "TurnHostLaw" 41 m_H_clear 1 := ⟨⟨⟨by decide +kernel, by decide +kernel, by decide +kernel⟩, by decide +kernel, k_1, k_420⟩, k_417, k_418, k_419⟩
theorem lm_H_86 : th_mv "TurnHost" 86 m_S_dissolve 0 := ⟨⟨⟨by decide +kernel, by decide +kernel, by decide +kernel⟩, by decide +kernel, k_4, k_424⟩, k_421, k_422, k_423⟩
theorem lm_S_44 : th_mv "TurnHost$Society" 44 m_L_empty 0 := ⟨⟨⟨by decide +kernel, by decide +kernel, by decide +kernel⟩, by decide +kernel, k_8, k_428⟩, k_425, k_426, k_427⟩
theorem lm_H_89 : th_mv "TurnHost" 89 m_G_wipe 0 := ⟨⟨⟨by decide +kernel, by decide +kernel, by decide +kernel⟩, by decide +kernel, k_3, k_432⟩, k_429, k_430, k_431⟩
theorem lm_W_46 : th_mv "TurnHostLaw" 46 m_H_process 2 := ⟨⟨⟨by decide +kernel, by decide +kernel, by decide +kernel⟩, by decide +kernel, k_1, k_436⟩, k_433, k_434, k_435⟩
theorem lm_H_92 : th_mv "TurnHost" 92 m_P_answer 1 := ⟨⟨⟨by decide +kernel, by decide +kernel, by decide +kernel⟩, by decide +kernel, k_5, k_440⟩, k_437, k_438, k_439⟩
theorem lm_W_50 : th_mv "TurnHostLaw" 50 m_H_queue 1 := ⟨⟨⟨by decide +kernel, by decide +kernel, by decide +kernel⟩, by decide +kernel, k_1, k_444⟩, k_441, k_442, k_443⟩
theorem lm_W_54 : th_mv "TurnHostLaw" 54 m_H_processes 0 := ⟨⟨⟨by decide +kernel, by decide +kernel, by decide +kernel⟩, by decide +kernel, k_1, k_448⟩, k_445, k_446, k_447⟩
theorem lm_W_59 : th_mv "TurnHostLaw" 59 m_H_term 2 := ⟨⟨⟨by decide +kernel, by decide +kernel, by decide +kernel⟩, by decide +kernel, k_1, k_452⟩, k_449, k_450, k_451⟩
theorem lm_H_95 : th_mv "TurnHost" 95 m_H_termOf 2 := ⟨⟨⟨by decide +kernel, by decide +kernel, by decide +kernel⟩, by decide +kernel, k_1, k_456⟩, k_453, k_455, tbP (List.mem_append_left _ (List.mem_of_getElem? (i := 13) rfl))⟩
theorem lm_H_107 : th_mv "TurnHost" 107 m_P_termAt 1 := ⟨⟨⟨by decide +kernel, by decide +kernel, by decide +kernel⟩, by decide +kernel, k_5, k_460⟩, k_457, k_458, k_459⟩
theorem lm_P_70 : th_mv "TurnHost$HostProcess" 70 m_B_at 1 := ⟨⟨⟨by decide +kernel, by decide +kernel, by decide +kernel⟩, by decide +kernel, k_7, k_369⟩, k_461, k_367, k_368⟩
theorem lm_H_99 : th_mv "TurnHost" 99 m_T_summary 0 := ⟨⟨⟨by decide +kernel, by decide +kernel, by decide +kernel⟩, by decide +kernel, k_6, k_465⟩, k_462, k_463, k_464⟩
theorem lm_T_31 : th_mv "TurnHost$Term" 31 m_T_hasNumber 0 := ⟨⟨⟨by decide +kernel, by decide +kernel, by decide +kernel⟩, by decide +kernel, k_6, k_469⟩, k_466, k_467, k_468⟩
theorem lm_T_35 : th_ms "TurnHost$Term" 35 m_J_floorMod 2 := ⟨⟨⟨by decide +kernel, by decide +kernel, by decide +kernel⟩, by decide +kernel, k_10, k_472⟩, k_470, k_471⟩
theorem lk_T_41 : Jvm.Cond.constant "TurnHost$Term" 41 1000000 ∈ th_tb := k_473
theorem lm_W_63 : th_mv "TurnHostLaw" 63 m_H_digest 2 := ⟨⟨⟨by decide +kernel, by decide +kernel, by decide +kernel⟩, by decide +kernel, k_1, k_477⟩, k_474, k_475, k_476⟩
theorem lm_H_103 : th_msN "TurnHost" 103 m_T_mixed 2 := ⟨⟨⟨by decide +kernel, by decide +kernel, by decide +kernel⟩, by decide +kernel, k_6, k_480⟩, ⟨"TurnHost", tbl2 (List.mem_of_getElem? (i := 238) rfl)⟩, k_479⟩
theorem lm_T_49 : th_ms "TurnHost$Term" 49 m_T_mixed 2 := ⟨⟨⟨by decide +kernel, by decide +kernel, by decide +kernel⟩, by decide +kernel, k_6, k_480⟩, k_481, k_479⟩
theorem lm_W_9 : th_ms "TurnHostLaw" 9 m_W_cell 2 := ⟨⟨⟨by decide +kernel, by decide +kernel, by decide +kernel⟩, by decide +kernel, k_0, k_484⟩, k_482, k_483⟩
theorem ln_W_18 : th_ln "TurnHostLaw" 18 8 22 dv_N := ⟨R_N, F_N, ty_N, ok_N, k_485, k_486, k_9, fun j hj => rfl⟩
theorem lc_W_18 : Jvm.Cond.classLink "TurnHostLaw" 18 "TurnHostModel" ∈ th_tb := k_485
theorem lm_W_20 : th_mi "TurnHostLaw" 20 m_N_init 1 := ⟨⟨⟨by decide +kernel, by decide +kernel, by decide +kernel⟩, by decide +kernel, k_9, k_489⟩, k_487, k_488, rfl, rfl⟩
theorem lo_N_1 : Jvm.Cond.methodLink "TurnHostModel" 1 Lib.objectInit ∈ th_tb := k_490
theorem lf_N_62 : th_lf "TurnHostModel" 62 8 0 := ⟨R_N, F_N, 22, ty_N, ok_N, by decide, k_491⟩
theorem lp_N_62 : th_lpF "TurnHostModel" 62 8 0 0 := ⟨R_N, F_N, 22, ty_N, ok_N, by decide, k_491, rfl, rfl, th_fty_i⟩
theorem lf_N_85 : th_lf "TurnHostModel" 85 8 1 := ⟨R_N, F_N, 22, ty_N, ok_N, by decide, k_492⟩
theorem lp_N_85 : th_lp "TurnHostModel" 85 8 1 0 := ⟨R_N, F_N, 22, ty_N, ok_N, by decide, k_492, rfl, th_fty_i⟩
theorem lf_N_7 : th_lf "TurnHostModel" 7 8 2 := ⟨R_N, F_N, 22, ty_N, ok_N, by decide, k_493⟩
theorem lp_N_7 : th_lpF "TurnHostModel" 7 8 2 1 := ⟨R_N, F_N, 22, ty_N, ok_N, by decide, k_493, rfl, rfl, (th_fty_a _)⟩
theorem lf_N_13 : th_lf "TurnHostModel" 13 8 3 := ⟨R_N, F_N, 22, ty_N, ok_N, by decide, k_494⟩
theorem lp_N_13 : th_lpF "TurnHostModel" 13 8 3 1 := ⟨R_N, F_N, 22, ty_N, ok_N, by decide, k_494, rfl, rfl, (th_fty_a _)⟩
theorem lf_N_16 : th_lf "TurnHostModel" 16 8 4 := ⟨R_N, F_N, 22, ty_N, ok_N, by decide, k_495⟩
theorem lp_N_16 : th_lpF "TurnHostModel" 16 8 4 1 := ⟨R_N, F_N, 22, ty_N, ok_N, by decide, k_495, rfl, rfl, (th_fty_a _)⟩
theorem lf_N_19 : th_lf "TurnHostModel" 19 8 5 := ⟨R_N, F_N, 22, ty_N, ok_N, by decide, k_496⟩
theorem lp_N_19 : th_lpF "TurnHostModel" 19 8 5 1 := ⟨R_N, F_N, 22, ty_N, ok_N, by decide, k_496, rfl, rfl, (th_fty_a _)⟩
theorem lf_N_22 : th_lf "TurnHostModel" 22 8 6 := ⟨R_N, F_N, 22, ty_N, ok_N, by decide, k_497⟩
theorem lp_N_22 : th_lpF "TurnHostModel" 22 8 6 1 := ⟨R_N, F_N, 22, ty_N, ok_N, by decide, k_497, rfl, rfl, (th_fty_a _)⟩
theorem lf_N_131 : th_lf "TurnHostModel" 131 8 7 := ⟨R_N, F_N, 22, ty_N, ok_N, by decide, k_498⟩
theorem lp_N_131 : th_lp "TurnHostModel" 131 8 7 0 := ⟨R_N, F_N, 22, ty_N, ok_N, by decide, k_498, rfl, th_fty_i⟩
theorem lf_N_25 : th_lf "TurnHostModel" 25 8 8 := ⟨R_N, F_N, 22, ty_N, ok_N, by decide, k_499⟩
theorem lp_N_25 : th_lpF "TurnHostModel" 25 8 8 1 := ⟨R_N, F_N, 22, ty_N, ok_N, by decide, k_499, rfl, rfl, (th_fty_a _)⟩
theorem lf_N_28 : th_lf "TurnHostModel" 28 8 9 := ⟨R_N, F_N, 22, ty_N, ok_N, by decide, k_500⟩
theorem lp_N_28 : th_lpF "TurnHostModel" 28 8 9 1 := ⟨R_N, F_N, 22, ty_N, ok_N, by decide, k_500, rfl, rfl, (th_fty_a _)⟩
theorem lf_N_31 : th_lf "TurnHostModel" 31 8 10 := ⟨R_N, F_N, 22, ty_N, ok_N, by decide, k_501⟩
theorem lp_N_31 : th_lpF "TurnHostModel" 31 8 10 1 := ⟨R_N, F_N, 22, ty_N, ok_N, by decide, k_501, rfl, rfl, (th_fty_a _)⟩
theorem lf_N_34 : th_lf "TurnHostModel" 34 8 11 := ⟨R_N, F_N, 22, ty_N, ok_N, by decide, k_502⟩
theorem lp_N_34 : th_lpF "TurnHostModel" 34 8 11 1 := ⟨R_N, F_N, 22, ty_N, ok_N, by decide, k_502, rfl, rfl, (th_fty_a _)⟩
theorem lf_N_37 : th_lf "TurnHostModel" 37 8 12 := ⟨R_N, F_N, 22, ty_N, ok_N, by decide, k_503⟩
theorem lp_N_37 : th_lpF "TurnHostModel" 37 8 12 1 := ⟨R_N, F_N, 22, ty_N, ok_N, by decide, k_503, rfl, rfl, (th_fty_a _)⟩
theorem lf_N_40 : th_lf "TurnHostModel" 40 8 13 := ⟨R_N, F_N, 22, ty_N, ok_N, by decide, k_504⟩
theorem lp_N_40 : th_lpF "TurnHostModel" 40 8 13 1 := ⟨R_N, F_N, 22, ty_N, ok_N, by decide, k_504, rfl, rfl, (th_fty_a _)⟩
theorem lf_N_43 : th_lf "TurnHostModel" 43 8 14 := ⟨R_N, F_N, 22, ty_N, ok_N, by decide, k_505⟩
theorem lp_N_43 : th_lpF "TurnHostModel" 43 8 14 1 := ⟨R_N, F_N, 22, ty_N, ok_N, by decide, k_505, rfl, rfl, (th_fty_a _)⟩
theorem lf_N_46 : th_lf "TurnHostModel" 46 8 15 := ⟨R_N, F_N, 22, ty_N, ok_N, by decide, k_506⟩
theorem lp_N_46 : th_lpF "TurnHostModel" 46 8 15 1 := ⟨R_N, F_N, 22, ty_N, ok_N, by decide, k_506, rfl, rfl, (th_fty_a _)⟩
theorem lf_N_50 : th_lf "TurnHostModel" 50 8 16 := ⟨R_N, F_N, 22, ty_N, ok_N, by decide, k_507⟩
theorem lp_N_50 : th_lpF "TurnHostModel" 50 8 16 1 := ⟨R_N, F_N, 22, ty_N, ok_N, by decide, k_507, rfl, rfl, (th_fty_a _)⟩
theorem lf_N_101 : th_lf "TurnHostModel" 101 8 17 := ⟨R_N, F_N, 22, ty_N, ok_N, by decide, k_508⟩
theorem lp_N_101 : th_lp "TurnHostModel" 101 8 17 0 := ⟨R_N, F_N, 22, ty_N, ok_N, by decide, k_508, rfl, th_fty_i⟩
theorem lf_N_53 : th_lf "TurnHostModel" 53 8 18 := ⟨R_N, F_N, 22, ty_N, ok_N, by decide, k_509⟩
theorem lp_N_53 : th_lpF "TurnHostModel" 53 8 18 1 := ⟨R_N, F_N, 22, ty_N, ok_N, by decide, k_509, rfl, rfl, (th_fty_a _)⟩
theorem lf_N_104 : th_lf "TurnHostModel" 104 8 19 := ⟨R_N, F_N, 22, ty_N, ok_N, by decide, k_510⟩
theorem lp_N_104 : th_lp "TurnHostModel" 104 8 19 0 := ⟨R_N, F_N, 22, ty_N, ok_N, by decide, k_510, rfl, th_fty_i⟩
theorem lf_N_56 : th_lf "TurnHostModel" 56 8 20 := ⟨R_N, F_N, 22, ty_N, ok_N, by decide, k_511⟩
theorem lp_N_56 : th_lpF "TurnHostModel" 56 8 20 1 := ⟨R_N, F_N, 22, ty_N, ok_N, by decide, k_511, rfl, rfl, (th_fty_a _)⟩
theorem lf_N_59 : th_lf "TurnHostModel" 59 8 21 := ⟨R_N, F_N, 22, ty_N, ok_N, by decide, k_512⟩
theorem lp_N_59 : th_lpF "TurnHostModel" 59 8 21 1 := ⟨R_N, F_N, 22, ty_N, ok_N, by decide, k_512, rfl, rfl, (th_fty_a _)⟩
theorem lm_W_25 : th_mv "TurnHostLaw" 25 m_N_add 4 := ⟨⟨⟨by decide +kernel, by decide +kernel, by decide +kernel⟩, by decide +kernel, k_9, k_562⟩, k_559, k_560, k_561⟩
theorem lm_N_81 : th_ms "TurnHostModel" 81 m_N_in 3 := ⟨⟨⟨by decide +kernel, by decide +kernel, by decide +kernel⟩, by decide +kernel, k_9, k_565⟩, k_563, k_564⟩
theorem lm_N_88 : th_ms "TurnHostModel" 88 m_N_firstNeeds 1 := ⟨⟨⟨by decide +kernel, by decide +kernel, by decide +kernel⟩, by decide +kernel, k_9, k_568⟩, k_566, k_567⟩
theorem lm_N_91 : th_ms "TurnHostModel" 91 m_N_isRight 2 := ⟨⟨⟨by decide +kernel, by decide +kernel, by decide +kernel⟩, by decide +kernel, k_9, k_571⟩, k_569, k_570⟩
theorem lm_N_95 : th_ms "TurnHostModel" 95 m_N_secondNeeds 1 := ⟨⟨⟨by decide +kernel, by decide +kernel, by decide +kernel⟩, by decide +kernel, k_9, k_574⟩, k_572, k_573⟩
theorem lm_N_98 : th_ms "TurnHostModel" 98 m_N_thirdNeeds 1 := ⟨⟨⟨by decide +kernel, by decide +kernel, by decide +kernel⟩, by decide +kernel, k_9, k_577⟩, k_575, k_576⟩
theorem lm_W_30 : th_mv "TurnHostLaw" 30 m_N_begin 2 := ⟨⟨⟨by decide +kernel, by decide +kernel, by decide +kernel⟩, by decide +kernel, k_9, k_581⟩, k_578, k_579, k_580⟩
theorem lm_N_115 : th_mv "TurnHostModel" 115 m_N_put 3 := ⟨⟨⟨by decide +kernel, by decide +kernel, by decide +kernel⟩, by decide +kernel, k_9, k_585⟩, k_582, k_584, tbP (List.mem_append_left _ (List.mem_of_getElem? (i := 14) rfl))⟩
theorem lm_N_152 : th_mv "TurnHostModel" 152 m_N_start 2 := ⟨⟨⟨by decide +kernel, by decide +kernel, by decide +kernel⟩, by decide +kernel, k_9, k_589⟩, k_586, k_588, tbP (List.mem_append_left _ (List.mem_of_getElem? (i := 15) rfl))⟩
theorem lm_N_107 : th_mv "TurnHostModel" 107 m_N_copy 2 := ⟨⟨⟨by decide +kernel, by decide +kernel, by decide +kernel⟩, by decide +kernel, k_9, k_593⟩, k_590, k_592, tbP (List.mem_append_right _ (List.mem_append_left _ (List.mem_of_getElem? (i := 0) rfl)))⟩
theorem lm_N_111 : th_mv "TurnHostModel" 111 m_N_come 1 := ⟨⟨⟨by decide +kernel, by decide +kernel, by decide +kernel⟩, by decide +kernel, k_9, k_597⟩, k_594, k_596, tbP (List.mem_append_right _ (List.mem_append_left _ (List.mem_of_getElem? (i := 1) rfl)))⟩
theorem lm_W_35 : th_mv "TurnHostLaw" 35 m_N_tell 2 := ⟨⟨⟨by decide +kernel, by decide +kernel, by decide +kernel⟩, by decide +kernel, k_9, k_601⟩, k_598, k_599, k_600⟩
theorem lm_N_122 : th_mv "TurnHostModel" 122 m_N_deliver 2 := ⟨⟨⟨by decide +kernel, by decide +kernel, by decide +kernel⟩, by decide +kernel, k_9, k_605⟩, k_602, k_604, tbP (List.mem_append_right _ (List.mem_append_left _ (List.mem_of_getElem? (i := 2) rfl)))⟩
theorem lm_W_40 : th_mv "TurnHostLaw" 40 m_N_run 1 := ⟨⟨⟨by decide +kernel, by decide +kernel, by decide +kernel⟩, by decide +kernel, k_9, k_609⟩, k_606, k_607, k_608⟩
theorem lm_N_169 : th_mv "TurnHostModel" 169 m_N_step 1 := ⟨⟨⟨by decide +kernel, by decide +kernel, by decide +kernel⟩, by decide +kernel, k_9, k_613⟩, k_610, k_612, tbP (List.mem_append_right _ (List.mem_append_left _ (List.mem_of_getElem? (i := 3) rfl)))⟩
theorem lm_N_155 : th_mv "TurnHostModel" 155 m_N_make 5 := ⟨⟨⟨by decide +kernel, by decide +kernel, by decide +kernel⟩, by decide +kernel, k_9, k_617⟩, k_614, k_616, tbP (List.mem_append_right _ (List.mem_append_left _ (List.mem_of_getElem? (i := 4) rfl)))⟩
theorem lm_N_77 : th_mv "TurnHostModel" 77 m_N_weight 1 := ⟨⟨⟨by decide +kernel, by decide +kernel, by decide +kernel⟩, by decide +kernel, k_9, k_621⟩, k_618, k_620, tbP (List.mem_append_right _ (List.mem_append_left _ (List.mem_of_getElem? (i := 5) rfl)))⟩
theorem lm_N_118 : th_mv "TurnHostModel" 118 m_N_addParts 4 := ⟨⟨⟨by decide +kernel, by decide +kernel, by decide +kernel⟩, by decide +kernel, k_9, k_625⟩, k_622, k_624, tbP (List.mem_append_right _ (List.mem_append_left _ (List.mem_of_getElem? (i := 6) rfl)))⟩
theorem lm_N_66 : th_mv "TurnHostModel" 66 m_N_sortOf 2 := ⟨⟨⟨by decide +kernel, by decide +kernel, by decide +kernel⟩, by decide +kernel, k_9, k_629⟩, k_626, k_628, tbP (List.mem_append_right _ (List.mem_append_left _ (List.mem_of_getElem? (i := 7) rfl)))⟩
theorem lm_N_70 : th_mv "TurnHostModel" 70 m_N_numberOf 2 := ⟨⟨⟨by decide +kernel, by decide +kernel, by decide +kernel⟩, by decide +kernel, k_9, k_633⟩, k_630, k_632, tbP (List.mem_append_right _ (List.mem_append_left _ (List.mem_of_getElem? (i := 8) rfl)))⟩
theorem lm_N_73 : th_mv "TurnHostModel" 73 m_N_append 3 := ⟨⟨⟨by decide +kernel, by decide +kernel, by decide +kernel⟩, by decide +kernel, k_9, k_637⟩, k_634, k_636, tbP (List.mem_append_right _ (List.mem_append_left _ (List.mem_of_getElem? (i := 9) rfl)))⟩
theorem lm_N_140 : th_mv "TurnHostModel" 140 m_N_behind 2 := ⟨⟨⟨by decide +kernel, by decide +kernel, by decide +kernel⟩, by decide +kernel, k_9, k_641⟩, k_638, k_640, tbP (List.mem_append_right _ (List.mem_append_left _ (List.mem_of_getElem? (i := 10) rfl)))⟩
theorem lm_N_159 : th_mv "TurnHostModel" 159 m_N_branch 5 := ⟨⟨⟨by decide +kernel, by decide +kernel, by decide +kernel⟩, by decide +kernel, k_9, k_645⟩, k_642, k_644, tbP (List.mem_append_right _ (List.mem_append_left _ (List.mem_of_getElem? (i := 11) rfl)))⟩
theorem lm_N_143 : th_mv "TurnHostModel" 143 m_N_isSame 2 := ⟨⟨⟨by decide +kernel, by decide +kernel, by decide +kernel⟩, by decide +kernel, k_9, k_649⟩, k_646, k_648, tbP (List.mem_append_right _ (List.mem_append_left _ (List.mem_of_getElem? (i := 12) rfl)))⟩
theorem lm_N_146 : th_mv "TurnHostModel" 146 m_N_endBy 2 := ⟨⟨⟨by decide +kernel, by decide +kernel, by decide +kernel⟩, by decide +kernel, k_9, k_653⟩, k_650, k_652, tbP (List.mem_append_right _ (List.mem_append_left _ (List.mem_of_getElem? (i := 13) rfl)))⟩
theorem lm_N_137 : th_mv "TurnHostModel" 137 m_N_end 2 := ⟨⟨⟨by decide +kernel, by decide +kernel, by decide +kernel⟩, by decide +kernel, k_9, k_657⟩, k_654, k_656, tbP (List.mem_append_right _ (List.mem_append_left _ (List.mem_of_getElem? (i := 14) rfl)))⟩
theorem lm_N_128 : th_mv "TurnHostModel" 128 m_N_stop 2 := ⟨⟨⟨by decide +kernel, by decide +kernel, by decide +kernel⟩, by decide +kernel, k_9, k_661⟩, k_658, k_660, tbP (List.mem_append_right _ (List.mem_append_left _ (List.mem_of_getElem? (i := 15) rfl)))⟩
theorem lm_N_125 : th_mv "TurnHostModel" 125 m_N_leave 1 := ⟨⟨⟨by decide +kernel, by decide +kernel, by decide +kernel⟩, by decide +kernel, k_9, k_665⟩, k_662, k_664, tbP (List.mem_append_right _ (List.mem_append_right _ (List.mem_of_getElem? (i := 0) rfl)))⟩
theorem lm_N_134 : th_mv "TurnHostModel" 134 m_N_signal 3 := ⟨⟨⟨by decide +kernel, by decide +kernel, by decide +kernel⟩, by decide +kernel, k_9, k_669⟩, k_666, k_668, tbP (List.mem_append_right _ (List.mem_append_right _ (List.mem_of_getElem? (i := 1) rfl)))⟩
theorem lm_N_162 : th_mv "TurnHostModel" 162 m_N_mail 4 := ⟨⟨⟨by decide +kernel, by decide +kernel, by decide +kernel⟩, by decide +kernel, k_9, k_673⟩, k_670, k_672, tbP (List.mem_append_right _ (List.mem_append_right _ (List.mem_of_getElem? (i := 2) rfl)))⟩
theorem lm_N_149 : th_mv "TurnHostModel" 149 m_N_named 1 := ⟨⟨⟨by decide +kernel, by decide +kernel, by decide +kernel⟩, by decide +kernel, k_9, k_677⟩, k_674, k_676, tbP (List.mem_append_right _ (List.mem_append_right _ (List.mem_of_getElem? (i := 3) rfl)))⟩
theorem lm_N_166 : th_mv "TurnHostModel" 166 m_N_life 5 := ⟨⟨⟨by decide +kernel, by decide +kernel, by decide +kernel⟩, by decide +kernel, k_9, k_681⟩, k_678, k_680, tbP (List.mem_append_right _ (List.mem_append_right _ (List.mem_of_getElem? (i := 4) rfl)))⟩
theorem lm_W_45 : th_mv "TurnHostLaw" 45 m_N_clear 1 := ⟨⟨⟨by decide +kernel, by decide +kernel, by decide +kernel⟩, by decide +kernel, k_9, k_685⟩, k_682, k_683, k_684⟩
theorem lm_W_49 : th_mv "TurnHostLaw" 49 m_N_process 2 := ⟨⟨⟨by decide +kernel, by decide +kernel, by decide +kernel⟩, by decide +kernel, k_9, k_689⟩, k_686, k_687, k_688⟩
theorem lm_W_53 : th_mv "TurnHostLaw" 53 m_N_queue 1 := ⟨⟨⟨by decide +kernel, by decide +kernel, by decide +kernel⟩, by decide +kernel, k_9, k_693⟩, k_690, k_691, k_692⟩
theorem lm_W_58 : th_mv "TurnHostLaw" 58 m_N_processes 0 := ⟨⟨⟨by decide +kernel, by decide +kernel, by decide +kernel⟩, by decide +kernel, k_9, k_697⟩, k_694, k_695, k_696⟩
theorem lm_W_62 : th_mv "TurnHostLaw" 62 m_N_term 2 := ⟨⟨⟨by decide +kernel, by decide +kernel, by decide +kernel⟩, by decide +kernel, k_9, k_701⟩, k_698, k_699, k_700⟩
theorem lm_N_172 : th_mv "TurnHostModel" 172 m_N_isTerm 2 := ⟨⟨⟨by decide +kernel, by decide +kernel, by decide +kernel⟩, by decide +kernel, k_9, k_705⟩, k_702, k_704, tbP (List.mem_append_right _ (List.mem_append_right _ (List.mem_of_getElem? (i := 5) rfl)))⟩
theorem lk_N_175 : Jvm.Cond.constant "TurnHostModel" 175 1000000 ∈ th_tb := k_706
theorem lm_W_66 : th_mv "TurnHostLaw" 66 m_N_digest 2 := ⟨⟨⟨by decide +kernel, by decide +kernel, by decide +kernel⟩, by decide +kernel, k_9, k_710⟩, k_707, k_708, k_709⟩
end
