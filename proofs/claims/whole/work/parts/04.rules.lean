/-! Rules of Xw, an instruction a rule (printed by wip/gen/rules.py). -/
theorem x_iconst {E : th_E} {M : th_M} {d cz cs pc : Nat} {L : List (Option Value)} {S : List Value} {h : th_H} {Post : Option Value → th_H → Prop} {n : Int} {v : Int32} (hd : decode M.2.1 pc = .ok (.iconst n, 1)) (hv : Int32.ofInt n = v) (kk : Xw E M d cz cs (pc + 1) L (.int v :: S) h Post) : Xw E M d cz cs pc L S h Post := by
  intro p l e R s m args below meth c H locs cells slots ls Q Y
  exact lv_iconst Y.1.1 Y.1.2.1 hd hv (kk p l e R s m args below meth c H locs cells slots ls Q Y)
theorem x_bipush {E : th_E} {M : th_M} {d cz cs pc : Nat} {L : List (Option Value)} {S : List Value} {h : th_H} {Post : Option Value → th_H → Prop} {n : Int} {v : Int32} (hd : decode M.2.1 pc = .ok (.bipush n, 2)) (hv : (Int8.ofInt n).toInt32 = v) (kk : Xw E M d cz cs (pc + 2) L (.int v :: S) h Post) : Xw E M d cz cs pc L S h Post := by
  intro p l e R s m args below meth c H locs cells slots ls Q Y
  exact lv_bipush Y.1.1 Y.1.2.1 hd hv (kk p l e R s m args below meth c H locs cells slots ls Q Y)
theorem x_sipush {E : th_E} {M : th_M} {d cz cs pc : Nat} {L : List (Option Value)} {S : List Value} {h : th_H} {Post : Option Value → th_H → Prop} {n : Int} {v : Int32} (hd : decode M.2.1 pc = .ok (.sipush n, 3)) (hv : (Int16.ofInt n).toInt32 = v) (kk : Xw E M d cz cs (pc + 3) L (.int v :: S) h Post) : Xw E M d cz cs pc L S h Post := by
  intro p l e R s m args below meth c H locs cells slots ls Q Y
  exact lv_sipush Y.1.1 Y.1.2.1 hd hv (kk p l e R s m args below meth c H locs cells slots ls Q Y)
theorem x_null {E : th_E} {M : th_M} {d cz cs pc : Nat} {L : List (Option Value)} {S : List Value} {h : th_H} {Post : Option Value → th_H → Prop}  (hd : decode M.2.1 pc = .ok (.aconst_null, 1)) (kk : Xw E M d cz cs (pc + 1) L (.null :: S) h Post) : Xw E M d cz cs pc L S h Post := by
  intro p l e R s m args below meth c H locs cells slots ls Q Y
  exact lv_null Y.1.1 Y.1.2.1 hd (kk p l e R s m args below meth c H locs cells slots ls Q Y)
theorem x_ldc {E : th_E} {M : th_M} {d cz cs pc : Nat} {L : List (Option Value)} {S : List Value} {h : th_H} {Post : Option Value → th_H → Prop} {n : Nat} {v : Int32} (hd : decode M.2.1 pc = .ok (.ldc n, 2)) (hc : Jvm.Cond.constant M.1.cls n v ∈ th_tb) (kk : Xw E M d cz cs (pc + 2) L (.int v :: S) h Post) : Xw E M d cz cs pc L S h Post := by
  intro p l e R s m args below meth c H locs cells slots ls Q Y
  exact lv_ldc Y.1.1 Y.1.2.1 Y.1.2.2.2.1 (Y.1.2.2.2.2.1 _ hc) hd (kk p l e R s m args below meth c H locs cells slots ls Q Y)
theorem x_ldcw {E : th_E} {M : th_M} {d cz cs pc : Nat} {L : List (Option Value)} {S : List Value} {h : th_H} {Post : Option Value → th_H → Prop} {n : Nat} {v : Int32} (hd : decode M.2.1 pc = .ok (.ldc_w n, 3)) (hc : Jvm.Cond.constant M.1.cls n v ∈ th_tb) (kk : Xw E M d cz cs (pc + 3) L (.int v :: S) h Post) : Xw E M d cz cs pc L S h Post := by
  intro p l e R s m args below meth c H locs cells slots ls Q Y
  exact lv_ldcw Y.1.1 Y.1.2.1 Y.1.2.2.2.1 (Y.1.2.2.2.2.1 _ hc) hd (kk p l e R s m args below meth c H locs cells slots ls Q Y)
theorem x_iload_n {E : th_E} {M : th_M} {d cz cs pc : Nat} {L : List (Option Value)} {S : List Value} {h : th_H} {Post : Option Value → th_H → Prop} {k : Fin 4} {i : Nat} {x : Int32} (hd : decode M.2.1 pc = .ok (.iload_n k, 1)) (hi : (k : Nat) = i) (hl : L[i]? = some (some (.int x))) (kk : Xw E M d cz cs (pc + 1) L (.int x :: S) h Post) : Xw E M d cz cs pc L S h Post := by
  intro p l e R s m args below meth c H locs cells slots ls Q Y
  exact lv_iload_n Y.1.1 Y.1.2.1 hd hi (Y.2.2.2.1.at hl) (kk p l e R s m args below meth c H locs cells slots ls Q Y)
theorem x_iload {E : th_E} {M : th_M} {d cz cs pc : Nat} {L : List (Option Value)} {S : List Value} {h : th_H} {Post : Option Value → th_H → Prop} {i : Nat} {x : Int32} (hd : decode M.2.1 pc = .ok (.iload i, 2)) (hl : L[i]? = some (some (.int x))) (kk : Xw E M d cz cs (pc + 2) L (.int x :: S) h Post) : Xw E M d cz cs pc L S h Post := by
  intro p l e R s m args below meth c H locs cells slots ls Q Y
  exact lv_iload Y.1.1 Y.1.2.1 hd (Y.2.2.2.1.at hl) (kk p l e R s m args below meth c H locs cells slots ls Q Y)
theorem x_aload_n {E : th_E} {M : th_M} {d cz cs pc : Nat} {L : List (Option Value)} {S : List Value} {h : th_H} {Post : Option Value → th_H → Prop} {k : Fin 4} {i : Nat} {x : Nat} (hd : decode M.2.1 pc = .ok (.aload_n k, 1)) (hi : (k : Nat) = i) (hl : L[i]? = some (some (.ref x))) (kk : Xw E M d cz cs (pc + 1) L (.ref x :: S) h Post) : Xw E M d cz cs pc L S h Post := by
  intro p l e R s m args below meth c H locs cells slots ls Q Y
  exact lv_aload_n Y.1.1 Y.1.2.1 hd hi (Y.2.2.2.1.at hl) (kk p l e R s m args below meth c H locs cells slots ls Q Y)
theorem x_aload {E : th_E} {M : th_M} {d cz cs pc : Nat} {L : List (Option Value)} {S : List Value} {h : th_H} {Post : Option Value → th_H → Prop} {i : Nat} {x : Nat} (hd : decode M.2.1 pc = .ok (.aload i, 2)) (hl : L[i]? = some (some (.ref x))) (kk : Xw E M d cz cs (pc + 2) L (.ref x :: S) h Post) : Xw E M d cz cs pc L S h Post := by
  intro p l e R s m args below meth c H locs cells slots ls Q Y
  exact lv_aload Y.1.1 Y.1.2.1 hd (Y.2.2.2.1.at hl) (kk p l e R s m args below meth c H locs cells slots ls Q Y)
theorem x_aload_nN {E : th_E} {M : th_M} {d cz cs pc : Nat} {L : List (Option Value)} {S : List Value} {h : th_H} {Post : Option Value → th_H → Prop} {k : Fin 4} {i : Nat} (hd : decode M.2.1 pc = .ok (.aload_n k, 1)) (hi : (k : Nat) = i) (hl : L[i]? = some (some (.null))) (kk : Xw E M d cz cs (pc + 1) L (.null :: S) h Post) : Xw E M d cz cs pc L S h Post := by
  intro p l e R s m args below meth c H locs cells slots ls Q Y
  exact lv_aload_nN Y.1.1 Y.1.2.1 hd hi (Y.2.2.2.1.at hl) (kk p l e R s m args below meth c H locs cells slots ls Q Y)
theorem x_aloadN {E : th_E} {M : th_M} {d cz cs pc : Nat} {L : List (Option Value)} {S : List Value} {h : th_H} {Post : Option Value → th_H → Prop} {i : Nat} (hd : decode M.2.1 pc = .ok (.aload i, 2)) (hl : L[i]? = some (some (.null))) (kk : Xw E M d cz cs (pc + 2) L (.null :: S) h Post) : Xw E M d cz cs pc L S h Post := by
  intro p l e R s m args below meth c H locs cells slots ls Q Y
  exact lv_aloadN Y.1.1 Y.1.2.1 hd (Y.2.2.2.1.at hl) (kk p l e R s m args below meth c H locs cells slots ls Q Y)
theorem x_istore_n {E : th_E} {M : th_M} {d cz cs pc : Nat} {L : List (Option Value)} {S : List Value} {h : th_H} {Post : Option Value → th_H → Prop} {k : Fin 4} {i : Nat} {x : Int32} (hd : decode M.2.1 pc = .ok (.istore_n k, 1)) (hi : (k : Nat) = i) (hlt : i < M.2.2.1) {L' : List (Option Value)} (hL : L.set i (some (.int x)) = L') (kk : Xw E M d cz cs (pc + 1) L' S h Post) : Xw E M d cz cs pc L (.int x :: S) h Post := by
  intro p l e R s m args below meth c H locs cells slots ls Q Y
  obtain ⟨hX, hP, hS, ⟨hL0, lv, hl1, hl2⟩, Y5⟩ := Y
  subst hL
  exact lv_istore_n hX.1 hX.2.1 hd hi hl1 hlt rfl (fun ls' h' => kk p l e R s m args below meth c H locs cells slots ls' Q ⟨hX, hP, hS, th_L.set hL0 hl2 rfl hlt h', Y5⟩)
theorem x_istore {E : th_E} {M : th_M} {d cz cs pc : Nat} {L : List (Option Value)} {S : List Value} {h : th_H} {Post : Option Value → th_H → Prop} {i : Nat} {x : Int32} (hd : decode M.2.1 pc = .ok (.istore i, 2)) (hlt : i < M.2.2.1) {L' : List (Option Value)} (hL : L.set i (some (.int x)) = L') (kk : Xw E M d cz cs (pc + 2) L' S h Post) : Xw E M d cz cs pc L (.int x :: S) h Post := by
  intro p l e R s m args below meth c H locs cells slots ls Q Y
  obtain ⟨hX, hP, hS, ⟨hL0, lv, hl1, hl2⟩, Y5⟩ := Y
  subst hL
  exact lv_istore hX.1 hX.2.1 hd hl1 hlt rfl (fun ls' h' => kk p l e R s m args below meth c H locs cells slots ls' Q ⟨hX, hP, hS, th_L.set hL0 hl2 rfl hlt h', Y5⟩)
theorem x_astore_n {E : th_E} {M : th_M} {d cz cs pc : Nat} {L : List (Option Value)} {S : List Value} {h : th_H} {Post : Option Value → th_H → Prop} {k : Fin 4} {i : Nat} {x : Nat} (hd : decode M.2.1 pc = .ok (.astore_n k, 1)) (hi : (k : Nat) = i) (hlt : i < M.2.2.1) {L' : List (Option Value)} (hL : L.set i (some (.ref x)) = L') (kk : Xw E M d cz cs (pc + 1) L' S h Post) : Xw E M d cz cs pc L (.ref x :: S) h Post := by
  intro p l e R s m args below meth c H locs cells slots ls Q Y
  obtain ⟨hX, hP, hS, ⟨hL0, lv, hl1, hl2⟩, Y5⟩ := Y
  subst hL
  exact lv_astore_n hX.1 hX.2.1 hd hi hl1 hlt rfl (fun ls' h' => kk p l e R s m args below meth c H locs cells slots ls' Q ⟨hX, hP, hS, th_L.set hL0 hl2 rfl hlt h', Y5⟩)
theorem x_astore {E : th_E} {M : th_M} {d cz cs pc : Nat} {L : List (Option Value)} {S : List Value} {h : th_H} {Post : Option Value → th_H → Prop} {i : Nat} {x : Nat} (hd : decode M.2.1 pc = .ok (.astore i, 2)) (hlt : i < M.2.2.1) {L' : List (Option Value)} (hL : L.set i (some (.ref x)) = L') (kk : Xw E M d cz cs (pc + 2) L' S h Post) : Xw E M d cz cs pc L (.ref x :: S) h Post := by
  intro p l e R s m args below meth c H locs cells slots ls Q Y
  obtain ⟨hX, hP, hS, ⟨hL0, lv, hl1, hl2⟩, Y5⟩ := Y
  subst hL
  exact lv_astore hX.1 hX.2.1 hd hl1 hlt rfl (fun ls' h' => kk p l e R s m args below meth c H locs cells slots ls' Q ⟨hX, hP, hS, th_L.set hL0 hl2 rfl hlt h', Y5⟩)
theorem x_astore_nN {E : th_E} {M : th_M} {d cz cs pc : Nat} {L : List (Option Value)} {S : List Value} {h : th_H} {Post : Option Value → th_H → Prop} {k : Fin 4} {i : Nat} (hd : decode M.2.1 pc = .ok (.astore_n k, 1)) (hi : (k : Nat) = i) (hlt : i < M.2.2.1) {L' : List (Option Value)} (hL : L.set i (some (.null)) = L') (kk : Xw E M d cz cs (pc + 1) L' S h Post) : Xw E M d cz cs pc L (.null :: S) h Post := by
  intro p l e R s m args below meth c H locs cells slots ls Q Y
  obtain ⟨hX, hP, hS, ⟨hL0, lv, hl1, hl2⟩, Y5⟩ := Y
  subst hL
  exact lv_astore_nN hX.1 hX.2.1 hd hi hl1 hlt rfl (fun ls' h' => kk p l e R s m args below meth c H locs cells slots ls' Q ⟨hX, hP, hS, th_L.set hL0 hl2 rfl hlt h', Y5⟩)
theorem x_astoreN {E : th_E} {M : th_M} {d cz cs pc : Nat} {L : List (Option Value)} {S : List Value} {h : th_H} {Post : Option Value → th_H → Prop} {i : Nat} (hd : decode M.2.1 pc = .ok (.astore i, 2)) (hlt : i < M.2.2.1) {L' : List (Option Value)} (hL : L.set i (some (.null)) = L') (kk : Xw E M d cz cs (pc + 2) L' S h Post) : Xw E M d cz cs pc L (.null :: S) h Post := by
  intro p l e R s m args below meth c H locs cells slots ls Q Y
  obtain ⟨hX, hP, hS, ⟨hL0, lv, hl1, hl2⟩, Y5⟩ := Y
  subst hL
  exact lv_astoreN hX.1 hX.2.1 hd hl1 hlt rfl (fun ls' h' => kk p l e R s m args below meth c H locs cells slots ls' Q ⟨hX, hP, hS, th_L.set hL0 hl2 rfl hlt h', Y5⟩)
theorem x_iinc {E : th_E} {M : th_M} {d cz cs pc : Nat} {L : List (Option Value)} {S : List Value} {h : th_H} {Post : Option Value → th_H → Prop} {i : Nat} {n : Int} {x v : Int32} (hd : decode M.2.1 pc = .ok (.iinc i n, 3)) (hl : L[i]? = some (some (.int x))) (hv : x + Int32.ofInt n = v) (hlt : i < M.2.2.1) {L' : List (Option Value)} (hL : L.set i (some (.int v)) = L') (kk : Xw E M d cz cs (pc + 3) L' S h Post) : Xw E M d cz cs pc L S h Post := by
  intro p l e R s m args below meth c H locs cells slots ls Q Y
  obtain ⟨hX, hP, hS, ⟨hL0, lv, hl1, hl2⟩, Y5⟩ := Y
  subst hL
  obtain ⟨k, hk⟩ := List.getElem?_of_mem (hl2 _ _ hl).1
  exact lv_iinc hX.1 hX.2.1 hd hl1 hk hv hlt rfl (fun ls' h' => kk p l e R s m args below meth c H locs cells slots ls' Q ⟨hX, hP, hS, th_L.set hL0 hl2 rfl hlt h', Y5⟩)
theorem x_iadd {E : th_E} {M : th_M} {d cz cs pc : Nat} {L : List (Option Value)} {S : List Value} {h : th_H} {Post : Option Value → th_H → Prop} {x y v : Int32} (hd : decode M.2.1 pc = .ok (.iadd, 1)) (hv : x + y = v) (kk : Xw E M d cz cs (pc + 1) L (.int v :: S) h Post) : Xw E M d cz cs pc L (.int y :: .int x :: S) h Post := by
  intro p l e R s m args below meth c H locs cells slots ls Q Y
  subst hv
  exact lv_iadd Y.1.1 Y.1.2.1 hd (kk p l e R s m args below meth c H locs cells slots ls Q Y)
theorem x_isub {E : th_E} {M : th_M} {d cz cs pc : Nat} {L : List (Option Value)} {S : List Value} {h : th_H} {Post : Option Value → th_H → Prop} {x y v : Int32} (hd : decode M.2.1 pc = .ok (.isub, 1)) (hv : x - y = v) (kk : Xw E M d cz cs (pc + 1) L (.int v :: S) h Post) : Xw E M d cz cs pc L (.int y :: .int x :: S) h Post := by
  intro p l e R s m args below meth c H locs cells slots ls Q Y
  subst hv
  exact lv_isub Y.1.1 Y.1.2.1 hd (kk p l e R s m args below meth c H locs cells slots ls Q Y)
theorem x_imul {E : th_E} {M : th_M} {d cz cs pc : Nat} {L : List (Option Value)} {S : List Value} {h : th_H} {Post : Option Value → th_H → Prop} {x y v : Int32} (hd : decode M.2.1 pc = .ok (.imul, 1)) (hv : x * y = v) (kk : Xw E M d cz cs (pc + 1) L (.int v :: S) h Post) : Xw E M d cz cs pc L (.int y :: .int x :: S) h Post := by
  intro p l e R s m args below meth c H locs cells slots ls Q Y
  subst hv
  exact lv_imul Y.1.1 Y.1.2.1 hd (kk p l e R s m args below meth c H locs cells slots ls Q Y)
theorem x_iand {E : th_E} {M : th_M} {d cz cs pc : Nat} {L : List (Option Value)} {S : List Value} {h : th_H} {Post : Option Value → th_H → Prop} {x y v : Int32} (hd : decode M.2.1 pc = .ok (.iand, 1)) (hv : x &&& y = v) (kk : Xw E M d cz cs (pc + 1) L (.int v :: S) h Post) : Xw E M d cz cs pc L (.int y :: .int x :: S) h Post := by
  intro p l e R s m args below meth c H locs cells slots ls Q Y
  subst hv
  exact lv_iand Y.1.1 Y.1.2.1 hd (kk p l e R s m args below meth c H locs cells slots ls Q Y)
theorem x_ior {E : th_E} {M : th_M} {d cz cs pc : Nat} {L : List (Option Value)} {S : List Value} {h : th_H} {Post : Option Value → th_H → Prop} {x y v : Int32} (hd : decode M.2.1 pc = .ok (.ior, 1)) (hv : x ||| y = v) (kk : Xw E M d cz cs (pc + 1) L (.int v :: S) h Post) : Xw E M d cz cs pc L (.int y :: .int x :: S) h Post := by
  intro p l e R s m args below meth c H locs cells slots ls Q Y
  subst hv
  exact lv_ior Y.1.1 Y.1.2.1 hd (kk p l e R s m args below meth c H locs cells slots ls Q Y)
theorem x_ixor {E : th_E} {M : th_M} {d cz cs pc : Nat} {L : List (Option Value)} {S : List Value} {h : th_H} {Post : Option Value → th_H → Prop} {x y v : Int32} (hd : decode M.2.1 pc = .ok (.ixor, 1)) (hv : x ^^^ y = v) (kk : Xw E M d cz cs (pc + 1) L (.int v :: S) h Post) : Xw E M d cz cs pc L (.int y :: .int x :: S) h Post := by
  intro p l e R s m args below meth c H locs cells slots ls Q Y
  subst hv
  exact lv_ixor Y.1.1 Y.1.2.1 hd (kk p l e R s m args below meth c H locs cells slots ls Q Y)
theorem x_ishl {E : th_E} {M : th_M} {d cz cs pc : Nat} {L : List (Option Value)} {S : List Value} {h : th_H} {Post : Option Value → th_H → Prop} {x y v : Int32} (hd : decode M.2.1 pc = .ok (.ishl, 1)) (hv : x <<< (y &&& 31) = v) (kk : Xw E M d cz cs (pc + 1) L (.int v :: S) h Post) : Xw E M d cz cs pc L (.int y :: .int x :: S) h Post := by
  intro p l e R s m args below meth c H locs cells slots ls Q Y
  subst hv
  exact lv_ishl Y.1.1 Y.1.2.1 hd (kk p l e R s m args below meth c H locs cells slots ls Q Y)
theorem x_ishr {E : th_E} {M : th_M} {d cz cs pc : Nat} {L : List (Option Value)} {S : List Value} {h : th_H} {Post : Option Value → th_H → Prop} {x y v : Int32} (hd : decode M.2.1 pc = .ok (.ishr, 1)) (hv : x >>> (y &&& 31) = v) (kk : Xw E M d cz cs (pc + 1) L (.int v :: S) h Post) : Xw E M d cz cs pc L (.int y :: .int x :: S) h Post := by
  intro p l e R s m args below meth c H locs cells slots ls Q Y
  subst hv
  exact lv_ishr Y.1.1 Y.1.2.1 hd (kk p l e R s m args below meth c H locs cells slots ls Q Y)
theorem x_iushr {E : th_E} {M : th_M} {d cz cs pc : Nat} {L : List (Option Value)} {S : List Value} {h : th_H} {Post : Option Value → th_H → Prop} {x y v : Int32} (hd : decode M.2.1 pc = .ok (.iushr, 1)) (hv : (x.toUInt32 >>> (y.toUInt32 &&& Int32.toUInt32 31)).toInt32 = v) (kk : Xw E M d cz cs (pc + 1) L (.int v :: S) h Post) : Xw E M d cz cs pc L (.int y :: .int x :: S) h Post := by
  intro p l e R s m args below meth c H locs cells slots ls Q Y
  exact lv_iushr Y.1.1 Y.1.2.1 hd hv (kk p l e R s m args below meth c H locs cells slots ls Q Y)
theorem x_idiv {E : th_E} {M : th_M} {d cz cs pc : Nat} {L : List (Option Value)} {S : List Value} {h : th_H} {Post : Option Value → th_H → Prop} {x y v : Int32} (hd : decode M.2.1 pc = .ok (.idiv, 1)) (hne : ¬ y = 0) (hv : x / y = v) (kk : Xw E M d cz cs (pc + 1) L (.int v :: S) h Post) : Xw E M d cz cs pc L (.int y :: .int x :: S) h Post := by
  intro p l e R s m args below meth c H locs cells slots ls Q Y
  subst hv
  exact lv_idiv Y.1.1 Y.1.2.1 hd hne (kk p l e R s m args below meth c H locs cells slots ls Q Y)
theorem x_irem {E : th_E} {M : th_M} {d cz cs pc : Nat} {L : List (Option Value)} {S : List Value} {h : th_H} {Post : Option Value → th_H → Prop} {x y v : Int32} (hd : decode M.2.1 pc = .ok (.irem, 1)) (hne : ¬ y = 0) (hv : x - x / y * y = v) (kk : Xw E M d cz cs (pc + 1) L (.int v :: S) h Post) : Xw E M d cz cs pc L (.int y :: .int x :: S) h Post := by
  intro p l e R s m args below meth c H locs cells slots ls Q Y
  subst hv
  exact lv_irem Y.1.1 Y.1.2.1 hd hne (kk p l e R s m args below meth c H locs cells slots ls Q Y)
theorem x_ineg {E : th_E} {M : th_M} {d cz cs pc : Nat} {L : List (Option Value)} {S : List Value} {h : th_H} {Post : Option Value → th_H → Prop} {x v : Int32} (hd : decode M.2.1 pc = .ok (.ineg, 1)) (hv : -x = v) (kk : Xw E M d cz cs (pc + 1) L (.int v :: S) h Post) : Xw E M d cz cs pc L (.int x :: S) h Post := by
  intro p l e R s m args below meth c H locs cells slots ls Q Y
  subst hv
  exact lv_ineg Y.1.1 Y.1.2.1 hd (kk p l e R s m args below meth c H locs cells slots ls Q Y)
theorem x_dup {E : th_E} {M : th_M} {d cz cs pc : Nat} {L : List (Option Value)} {S : List Value} {h : th_H} {Post : Option Value → th_H → Prop} {a : Value} (hd : decode M.2.1 pc = .ok (.dup, 1)) (ha : a.category = 1) (kk : Xw E M d cz cs (pc + 1) L (a :: a :: S) h Post) : Xw E M d cz cs pc L (a :: S) h Post := by
  intro p l e R s m args below meth c H locs cells slots ls Q Y
  exact lv_dup Y.1.1 Y.1.2.1 hd ha (kk p l e R s m args below meth c H locs cells slots ls Q Y)
theorem x_pop {E : th_E} {M : th_M} {d cz cs pc : Nat} {L : List (Option Value)} {S : List Value} {h : th_H} {Post : Option Value → th_H → Prop} {a : Value} (hd : decode M.2.1 pc = .ok (.pop, 1)) (ha : a.category = 1) (kk : Xw E M d cz cs (pc + 1) L S h Post) : Xw E M d cz cs pc L (a :: S) h Post := by
  intro p l e R s m args below meth c H locs cells slots ls Q Y
  exact lv_pop Y.1.1 Y.1.2.1 hd ha (kk p l e R s m args below meth c H locs cells slots ls Q Y)
theorem x_dup_x1 {E : th_E} {M : th_M} {d cz cs pc : Nat} {L : List (Option Value)} {S : List Value} {h : th_H} {Post : Option Value → th_H → Prop} {a b : Value} (hd : decode M.2.1 pc = .ok (.dup_x1, 1)) (ha : a.category = 1) (hb : b.category = 1) (kk : Xw E M d cz cs (pc + 1) L (a :: b :: a :: S) h Post) : Xw E M d cz cs pc L (a :: b :: S) h Post := by
  intro p l e R s m args below meth c H locs cells slots ls Q Y
  exact lv_dup_x1 Y.1.1 Y.1.2.1 hd ha hb (kk p l e R s m args below meth c H locs cells slots ls Q Y)
theorem x_dup_x2 {E : th_E} {M : th_M} {d cz cs pc : Nat} {L : List (Option Value)} {S : List Value} {h : th_H} {Post : Option Value → th_H → Prop} {a b g : Value} (hd : decode M.2.1 pc = .ok (.dup_x2, 1)) (ha : a.category = 1) (hb : b.category = 1) (hg : g.category = 1) (kk : Xw E M d cz cs (pc + 1) L (a :: b :: g :: a :: S) h Post) : Xw E M d cz cs pc L (a :: b :: g :: S) h Post := by
  intro p l e R s m args below meth c H locs cells slots ls Q Y
  exact lv_dup_x2 Y.1.1 Y.1.2.1 hd ha hb hg (kk p l e R s m args below meth c H locs cells slots ls Q Y)
theorem x_dup2 {E : th_E} {M : th_M} {d cz cs pc : Nat} {L : List (Option Value)} {S : List Value} {h : th_H} {Post : Option Value → th_H → Prop} {a b : Value} (hd : decode M.2.1 pc = .ok (.dup2, 1)) (ha : a.category = 1) (hb : b.category = 1) (kk : Xw E M d cz cs (pc + 1) L (a :: b :: a :: b :: S) h Post) : Xw E M d cz cs pc L (a :: b :: S) h Post := by
  intro p l e R s m args below meth c H locs cells slots ls Q Y
  exact lv_dup2_11 Y.1.1 Y.1.2.1 hd ha hb (kk p l e R s m args below meth c H locs cells slots ls Q Y)
theorem x_if_eq {E : th_E} {M : th_M} {d cz cs pc : Nat} {L : List (Option Value)} {S : List Value} {h : th_H} {Post : Option Value → th_H → Prop} {x : Int32} {off : Int} {tgt : Nat} (hd : decode M.2.1 pc = .ok (.ifCond .eq off, 3)) (ht : (pc : Int) + off = (tgt : Int)) (kt : x = 0 → Xw E M d cz cs tgt L S h Post) (kf : ¬ x = 0 → Xw E M d cz cs (pc + 3) L S h Post) : Xw E M d cz cs pc L (.int x :: S) h Post := by
  intro p l e R s m args below meth c H locs cells slots ls Q Y
  exact lv_if_eq Y.1.1 Y.1.2.1 hd ht (fun q => kt q p l e R s m args below meth c H locs cells slots ls Q Y) (fun q => kf q p l e R s m args below meth c H locs cells slots ls Q Y)
theorem x_icmp_eq {E : th_E} {M : th_M} {d cz cs pc : Nat} {L : List (Option Value)} {S : List Value} {h : th_H} {Post : Option Value → th_H → Prop} {x y : Int32} {off : Int} {tgt : Nat} (hd : decode M.2.1 pc = .ok (.if_icmp .eq off, 3)) (ht : (pc : Int) + off = (tgt : Int)) (kt : x = y → Xw E M d cz cs tgt L S h Post) (kf : ¬ x = y → Xw E M d cz cs (pc + 3) L S h Post) : Xw E M d cz cs pc L (.int y :: .int x :: S) h Post := by
  intro p l e R s m args below meth c H locs cells slots ls Q Y
  exact lv_icmp_eq Y.1.1 Y.1.2.1 hd ht (fun q => kt q p l e R s m args below meth c H locs cells slots ls Q Y) (fun q => kf q p l e R s m args below meth c H locs cells slots ls Q Y)
theorem x_if_ne {E : th_E} {M : th_M} {d cz cs pc : Nat} {L : List (Option Value)} {S : List Value} {h : th_H} {Post : Option Value → th_H → Prop} {x : Int32} {off : Int} {tgt : Nat} (hd : decode M.2.1 pc = .ok (.ifCond .ne off, 3)) (ht : (pc : Int) + off = (tgt : Int)) (kt : ¬ x = 0 → Xw E M d cz cs tgt L S h Post) (kf : x = 0 → Xw E M d cz cs (pc + 3) L S h Post) : Xw E M d cz cs pc L (.int x :: S) h Post := by
  intro p l e R s m args below meth c H locs cells slots ls Q Y
  exact lv_if_ne Y.1.1 Y.1.2.1 hd ht (fun q => kt q p l e R s m args below meth c H locs cells slots ls Q Y) (fun q => kf q p l e R s m args below meth c H locs cells slots ls Q Y)
theorem x_icmp_ne {E : th_E} {M : th_M} {d cz cs pc : Nat} {L : List (Option Value)} {S : List Value} {h : th_H} {Post : Option Value → th_H → Prop} {x y : Int32} {off : Int} {tgt : Nat} (hd : decode M.2.1 pc = .ok (.if_icmp .ne off, 3)) (ht : (pc : Int) + off = (tgt : Int)) (kt : ¬ x = y → Xw E M d cz cs tgt L S h Post) (kf : x = y → Xw E M d cz cs (pc + 3) L S h Post) : Xw E M d cz cs pc L (.int y :: .int x :: S) h Post := by
  intro p l e R s m args below meth c H locs cells slots ls Q Y
  exact lv_icmp_ne Y.1.1 Y.1.2.1 hd ht (fun q => kt q p l e R s m args below meth c H locs cells slots ls Q Y) (fun q => kf q p l e R s m args below meth c H locs cells slots ls Q Y)
theorem x_if_lt {E : th_E} {M : th_M} {d cz cs pc : Nat} {L : List (Option Value)} {S : List Value} {h : th_H} {Post : Option Value → th_H → Prop} {x : Int32} {off : Int} {tgt : Nat} (hd : decode M.2.1 pc = .ok (.ifCond .lt off, 3)) (ht : (pc : Int) + off = (tgt : Int)) (kt : x < 0 → Xw E M d cz cs tgt L S h Post) (kf : ¬ x < 0 → Xw E M d cz cs (pc + 3) L S h Post) : Xw E M d cz cs pc L (.int x :: S) h Post := by
  intro p l e R s m args below meth c H locs cells slots ls Q Y
  exact lv_if_lt Y.1.1 Y.1.2.1 hd ht (fun q => kt q p l e R s m args below meth c H locs cells slots ls Q Y) (fun q => kf q p l e R s m args below meth c H locs cells slots ls Q Y)
theorem x_icmp_lt {E : th_E} {M : th_M} {d cz cs pc : Nat} {L : List (Option Value)} {S : List Value} {h : th_H} {Post : Option Value → th_H → Prop} {x y : Int32} {off : Int} {tgt : Nat} (hd : decode M.2.1 pc = .ok (.if_icmp .lt off, 3)) (ht : (pc : Int) + off = (tgt : Int)) (kt : x < y → Xw E M d cz cs tgt L S h Post) (kf : ¬ x < y → Xw E M d cz cs (pc + 3) L S h Post) : Xw E M d cz cs pc L (.int y :: .int x :: S) h Post := by
  intro p l e R s m args below meth c H locs cells slots ls Q Y
  exact lv_icmp_lt Y.1.1 Y.1.2.1 hd ht (fun q => kt q p l e R s m args below meth c H locs cells slots ls Q Y) (fun q => kf q p l e R s m args below meth c H locs cells slots ls Q Y)
theorem x_if_ge {E : th_E} {M : th_M} {d cz cs pc : Nat} {L : List (Option Value)} {S : List Value} {h : th_H} {Post : Option Value → th_H → Prop} {x : Int32} {off : Int} {tgt : Nat} (hd : decode M.2.1 pc = .ok (.ifCond .ge off, 3)) (ht : (pc : Int) + off = (tgt : Int)) (kt : 0 ≤ x → Xw E M d cz cs tgt L S h Post) (kf : ¬ 0 ≤ x → Xw E M d cz cs (pc + 3) L S h Post) : Xw E M d cz cs pc L (.int x :: S) h Post := by
  intro p l e R s m args below meth c H locs cells slots ls Q Y
  exact lv_if_ge Y.1.1 Y.1.2.1 hd ht (fun q => kt q p l e R s m args below meth c H locs cells slots ls Q Y) (fun q => kf q p l e R s m args below meth c H locs cells slots ls Q Y)
theorem x_icmp_ge {E : th_E} {M : th_M} {d cz cs pc : Nat} {L : List (Option Value)} {S : List Value} {h : th_H} {Post : Option Value → th_H → Prop} {x y : Int32} {off : Int} {tgt : Nat} (hd : decode M.2.1 pc = .ok (.if_icmp .ge off, 3)) (ht : (pc : Int) + off = (tgt : Int)) (kt : y ≤ x → Xw E M d cz cs tgt L S h Post) (kf : ¬ y ≤ x → Xw E M d cz cs (pc + 3) L S h Post) : Xw E M d cz cs pc L (.int y :: .int x :: S) h Post := by
  intro p l e R s m args below meth c H locs cells slots ls Q Y
  exact lv_icmp_ge Y.1.1 Y.1.2.1 hd ht (fun q => kt q p l e R s m args below meth c H locs cells slots ls Q Y) (fun q => kf q p l e R s m args below meth c H locs cells slots ls Q Y)
theorem x_if_gt {E : th_E} {M : th_M} {d cz cs pc : Nat} {L : List (Option Value)} {S : List Value} {h : th_H} {Post : Option Value → th_H → Prop} {x : Int32} {off : Int} {tgt : Nat} (hd : decode M.2.1 pc = .ok (.ifCond .gt off, 3)) (ht : (pc : Int) + off = (tgt : Int)) (kt : 0 < x → Xw E M d cz cs tgt L S h Post) (kf : ¬ 0 < x → Xw E M d cz cs (pc + 3) L S h Post) : Xw E M d cz cs pc L (.int x :: S) h Post := by
  intro p l e R s m args below meth c H locs cells slots ls Q Y
  exact lv_if_gt Y.1.1 Y.1.2.1 hd ht (fun q => kt q p l e R s m args below meth c H locs cells slots ls Q Y) (fun q => kf q p l e R s m args below meth c H locs cells slots ls Q Y)
theorem x_icmp_gt {E : th_E} {M : th_M} {d cz cs pc : Nat} {L : List (Option Value)} {S : List Value} {h : th_H} {Post : Option Value → th_H → Prop} {x y : Int32} {off : Int} {tgt : Nat} (hd : decode M.2.1 pc = .ok (.if_icmp .gt off, 3)) (ht : (pc : Int) + off = (tgt : Int)) (kt : y < x → Xw E M d cz cs tgt L S h Post) (kf : ¬ y < x → Xw E M d cz cs (pc + 3) L S h Post) : Xw E M d cz cs pc L (.int y :: .int x :: S) h Post := by
  intro p l e R s m args below meth c H locs cells slots ls Q Y
  exact lv_icmp_gt Y.1.1 Y.1.2.1 hd ht (fun q => kt q p l e R s m args below meth c H locs cells slots ls Q Y) (fun q => kf q p l e R s m args below meth c H locs cells slots ls Q Y)
theorem x_if_le {E : th_E} {M : th_M} {d cz cs pc : Nat} {L : List (Option Value)} {S : List Value} {h : th_H} {Post : Option Value → th_H → Prop} {x : Int32} {off : Int} {tgt : Nat} (hd : decode M.2.1 pc = .ok (.ifCond .le off, 3)) (ht : (pc : Int) + off = (tgt : Int)) (kt : x ≤ 0 → Xw E M d cz cs tgt L S h Post) (kf : ¬ x ≤ 0 → Xw E M d cz cs (pc + 3) L S h Post) : Xw E M d cz cs pc L (.int x :: S) h Post := by
  intro p l e R s m args below meth c H locs cells slots ls Q Y
  exact lv_if_le Y.1.1 Y.1.2.1 hd ht (fun q => kt q p l e R s m args below meth c H locs cells slots ls Q Y) (fun q => kf q p l e R s m args below meth c H locs cells slots ls Q Y)
theorem x_icmp_le {E : th_E} {M : th_M} {d cz cs pc : Nat} {L : List (Option Value)} {S : List Value} {h : th_H} {Post : Option Value → th_H → Prop} {x y : Int32} {off : Int} {tgt : Nat} (hd : decode M.2.1 pc = .ok (.if_icmp .le off, 3)) (ht : (pc : Int) + off = (tgt : Int)) (kt : x ≤ y → Xw E M d cz cs tgt L S h Post) (kf : ¬ x ≤ y → Xw E M d cz cs (pc + 3) L S h Post) : Xw E M d cz cs pc L (.int y :: .int x :: S) h Post := by
  intro p l e R s m args below meth c H locs cells slots ls Q Y
  exact lv_icmp_le Y.1.1 Y.1.2.1 hd ht (fun q => kt q p l e R s m args below meth c H locs cells slots ls Q Y) (fun q => kf q p l e R s m args below meth c H locs cells slots ls Q Y)
theorem x_goto {E : th_E} {M : th_M} {d cz cs pc : Nat} {L : List (Option Value)} {S : List Value} {h : th_H} {Post : Option Value → th_H → Prop} {off : Int} {tgt : Nat} (hd : decode M.2.1 pc = .ok (.goto off, 3)) (ht : (pc : Int) + off = (tgt : Int)) (kk : Xw E M d cz cs tgt L S h Post) : Xw E M d cz cs pc L S h Post := by
  intro p l e R s m args below meth c H locs cells slots ls Q Y
  exact lv_goto Y.1.1 Y.1.2.1 hd ht (kk p l e R s m args below meth c H locs cells slots ls Q Y)
theorem x_ifnull {E : th_E} {M : th_M} {d cz cs pc : Nat} {L : List (Option Value)} {S : List Value} {h : th_H} {Post : Option Value → th_H → Prop} {x : Nat} {off : Int} (hd : decode M.2.1 pc = .ok (.ifnull off, 3)) (kk : Xw E M d cz cs (pc + 3) L S h Post) : Xw E M d cz cs pc L (.ref x :: S) h Post := by
  intro p l e R s m args below meth c H locs cells slots ls Q Y
  exact lv_ifnull Y.1.1 Y.1.2.1 hd (kk p l e R s m args below meth c H locs cells slots ls Q Y)
theorem x_ifnullN {E : th_E} {M : th_M} {d cz cs pc : Nat} {L : List (Option Value)} {S : List Value} {h : th_H} {Post : Option Value → th_H → Prop} {off : Int} {tgt : Nat} (hd : decode M.2.1 pc = .ok (.ifnull off, 3)) (ht : (pc : Int) + off = (tgt : Int)) (kk : Xw E M d cz cs tgt L S h Post) : Xw E M d cz cs pc L (.null :: S) h Post := by
  intro p l e R s m args below meth c H locs cells slots ls Q Y
  exact lv_ifnullN Y.1.1 Y.1.2.1 hd ht (kk p l e R s m args below meth c H locs cells slots ls Q Y)
theorem x_ifnonnull {E : th_E} {M : th_M} {d cz cs pc : Nat} {L : List (Option Value)} {S : List Value} {h : th_H} {Post : Option Value → th_H → Prop} {x : Nat} {off : Int} {tgt : Nat} (hd : decode M.2.1 pc = .ok (.ifnonnull off, 3)) (ht : (pc : Int) + off = (tgt : Int)) (kk : Xw E M d cz cs tgt L S h Post) : Xw E M d cz cs pc L (.ref x :: S) h Post := by
  intro p l e R s m args below meth c H locs cells slots ls Q Y
  exact lv_ifnonnull Y.1.1 Y.1.2.1 hd ht (kk p l e R s m args below meth c H locs cells slots ls Q Y)
theorem x_ifnonnullN {E : th_E} {M : th_M} {d cz cs pc : Nat} {L : List (Option Value)} {S : List Value} {h : th_H} {Post : Option Value → th_H → Prop} {off : Int} (hd : decode M.2.1 pc = .ok (.ifnonnull off, 3)) (kk : Xw E M d cz cs (pc + 3) L S h Post) : Xw E M d cz cs pc L (.null :: S) h Post := by
  intro p l e R s m args below meth c H locs cells slots ls Q Y
  exact lv_ifnonnullN Y.1.1 Y.1.2.1 hd (kk p l e R s m args below meth c H locs cells slots ls Q Y)
theorem x_acmp_eq {E : th_E} {M : th_M} {d cz cs pc : Nat} {L : List (Option Value)} {S : List Value} {h : th_H} {Post : Option Value → th_H → Prop} {x y : Nat} {off : Int} {tgt : Nat} (hd : decode M.2.1 pc = .ok (.if_acmp .eq off, 3)) (ht : (pc : Int) + off = (tgt : Int)) (kt : x = y → Xw E M d cz cs tgt L S h Post) (kf : ¬ x = y → Xw E M d cz cs (pc + 3) L S h Post) : Xw E M d cz cs pc L (.ref y :: .ref x :: S) h Post := by
  intro p l e R s m args below meth c H locs cells slots ls Q Y
  exact lv_acmp_eq (rx := some x) (ry := some y) Y.1.1 Y.1.2.1 hd ht (fun q => kt (by simpa using q) p l e R s m args below meth c H locs cells slots ls Q Y) (fun q => kf (by simpa using q) p l e R s m args below meth c H locs cells slots ls Q Y)
theorem x_acmp_ne {E : th_E} {M : th_M} {d cz cs pc : Nat} {L : List (Option Value)} {S : List Value} {h : th_H} {Post : Option Value → th_H → Prop} {x y : Nat} {off : Int} {tgt : Nat} (hd : decode M.2.1 pc = .ok (.if_acmp .ne off, 3)) (ht : (pc : Int) + off = (tgt : Int)) (kt : ¬ x = y → Xw E M d cz cs tgt L S h Post) (kf : x = y → Xw E M d cz cs (pc + 3) L S h Post) : Xw E M d cz cs pc L (.ref y :: .ref x :: S) h Post := by
  intro p l e R s m args below meth c H locs cells slots ls Q Y
  exact lv_acmp_ne (rx := some x) (ry := some y) Y.1.1 Y.1.2.1 hd ht (fun q => kt (by simpa using q) p l e R s m args below meth c H locs cells slots ls Q Y) (fun q => kf (by simpa using q) p l e R s m args below meth c H locs cells slots ls Q Y)
theorem x_tableOut {E : th_E} {M : th_M} {d cz cs pc : Nat} {L : List (Option Value)} {S : List Value} {h : th_H} {Post : Option Value → th_H → Prop} {df lo hi : Int} {offs : Array Int} {len tgt : Nat} {x : Int32} (hd : decode M.2.1 pc = .ok (.tableswitch df lo hi offs, len)) (hx : x.toInt < lo ∨ hi < x.toInt) (ht : (pc : Int) + df = (tgt : Int)) (kk : Xw E M d cz cs tgt L S h Post) : Xw E M d cz cs pc L (.int x :: S) h Post := by
  intro p l e R s m args below meth c H locs cells slots ls Q Y
  exact lv_tableOut Y.1.1 Y.1.2.1 hd hx ht (kk p l e R s m args below meth c H locs cells slots ls Q Y)
theorem x_tableIn {E : th_E} {M : th_M} {d cz cs pc : Nat} {L : List (Option Value)} {S : List Value} {h : th_H} {Post : Option Value → th_H → Prop} {df lo hi : Int} {offs : Array Int} {len tgt : Nat} {x : Int32} {off : Int} (hd : decode M.2.1 pc = .ok (.tableswitch df lo hi offs, len)) (h1 : ¬ x.toInt < lo) (h2 : ¬ hi < x.toInt) (ho : offs[(x.toInt - lo).toNat]? = some off) (ht : (pc : Int) + off = (tgt : Int)) (kk : Xw E M d cz cs tgt L S h Post) : Xw E M d cz cs pc L (.int x :: S) h Post := by
  intro p l e R s m args below meth c H locs cells slots ls Q Y
  exact lv_tableIn Y.1.1 Y.1.2.1 hd h1 h2 ho ht (kk p l e R s m args below meth c H locs cells slots ls Q Y)
theorem x_lookup {E : th_E} {M : th_M} {d cz cs pc : Nat} {L : List (Option Value)} {S : List Value} {h : th_H} {Post : Option Value → th_H → Prop} {df : Int} {ps : Array (Int × Int)} {len tgt : Nat} {x : Int32} {off : Int} (hd : decode M.2.1 pc = .ok (.lookupswitch df ps, len)) (hp : (ps.toList.zip (ps.toList.drop 1)).all (fun (a, next) => a.1 < next.1) = true) (ho : Op.lookupswitch.offset ps.toList df x.toInt = off) (ht : (pc : Int) + off = (tgt : Int)) (kk : Xw E M d cz cs tgt L S h Post) : Xw E M d cz cs pc L (.int x :: S) h Post := by
  intro p l e R s m args below meth c H locs cells slots ls Q Y
  exact lv_lookup Y.1.1 Y.1.2.1 hd hp ho ht (kk p l e R s m args below meth c H locs cells slots ls Q Y)
