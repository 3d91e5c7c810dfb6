/-! The typed heap, and the judgement Xw over it: the machine's W with its context put away; a rule an instruction. -/
abbrev th_K : Type := Nat ⊕ (Nat × Nat)
abbrev th_H : Type := (Nat → Option th_K) × (Nat → Nat → Nat → Value) × (Nat → Nat → Nat → Value) × Nat
/-- the kind of a cell: an object of a class (its number), an array (its type's number, its length; 0: ints that nobody writes) -/
def gk (h : th_H) : Nat → Option th_K := h.1
def gF (h : th_H) : Nat → Nat → Nat → Value := h.2.1
def gA (h : th_H) : Nat → Nat → Nat → Value := h.2.2.1
def gz (h : th_H) : Nat := h.2.2.2
def up3 (f : Nat → Nat → Nat → Value) (i j k : Nat) (v : Value) : Nat → Nat → Nat → Value := fun a b c => if a = i ∧ b = j ∧ c = k then v else f a b c
def gpF (h : th_H) (ci k a : Nat) (v : Value) : th_H := (gk h, up3 (gF h) ci k a v, gA h, gz h)
def gpA (h : th_H) (t a i : Nat) (v : Value) : th_H := (gk h, gF h, up3 (gA h) t a i v, gz h)
def gnO (h : th_H) (ci : Nat) (dv : Nat → Value) : th_H := (va_up (gk h) (gz h) (some (.inl ci)), fun c k a => if c = ci ∧ a = gz h then dv k else gF h c k a, gA h, gz h + 1)
def gnA (h : th_H) (t n : Nat) (d : Value) : th_H := (va_up (gk h) (gz h) (some (.inr (t, n))), gF h, fun t' a i => if t' = t ∧ a = gz h then d else gA h t' a i, gz h + 1)
theorem gk_pF (h : th_H) (ci k a : Nat) (v : Value) : gk (gpF h ci k a v) = gk h := id rfl
theorem gA_pF (h : th_H) (ci k a : Nat) (v : Value) : gA (gpF h ci k a v) = gA h := id rfl
theorem gz_pF (h : th_H) (ci k a : Nat) (v : Value) : gz (gpF h ci k a v) = gz h := id rfl
theorem gF_pF (h : th_H) (ci k a : Nat) (v : Value) (c' k' a' : Nat) : gF (gpF h ci k a v) c' k' a' = if c' = ci ∧ k' = k ∧ a' = a then v else gF h c' k' a' := id rfl
theorem gk_pA (h : th_H) (t a i : Nat) (v : Value) : gk (gpA h t a i v) = gk h := id rfl
theorem gF_pA (h : th_H) (t a i : Nat) (v : Value) : gF (gpA h t a i v) = gF h := id rfl
theorem gz_pA (h : th_H) (t a i : Nat) (v : Value) : gz (gpA h t a i v) = gz h := id rfl
theorem gA_pA (h : th_H) (t a i : Nat) (v : Value) (t' a' i' : Nat) : gA (gpA h t a i v) t' a' i' = if t' = t ∧ a' = a ∧ i' = i then v else gA h t' a' i' := id rfl
theorem gk_nO (h : th_H) (ci : Nat) (dv : Nat → Value) (a : Nat) : gk (gnO h ci dv) a = if a = gz h then some (.inl ci) else gk h a := id rfl
theorem gF_nO (h : th_H) (ci : Nat) (dv : Nat → Value) (c k a : Nat) : gF (gnO h ci dv) c k a = if c = ci ∧ a = gz h then dv k else gF h c k a := id rfl
theorem gA_nO (h : th_H) (ci : Nat) (dv : Nat → Value) : gA (gnO h ci dv) = gA h := id rfl
theorem gz_nO (h : th_H) (ci : Nat) (dv : Nat → Value) : gz (gnO h ci dv) = gz h + 1 := id rfl
theorem gk_nA (h : th_H) (t n : Nat) (d : Value) (a : Nat) : gk (gnA h t n d) a = if a = gz h then some (.inr (t, n)) else gk h a := id rfl
theorem gF_nA (h : th_H) (t n : Nat) (d : Value) : gF (gnA h t n d) = gF h := id rfl
theorem gA_nA (h : th_H) (t n : Nat) (d : Value) (t' a i : Nat) : gA (gnA h t n d) t' a i = if t' = t ∧ a = gz h then d else gA h t' a i := id rfl
theorem gz_nA (h : th_H) (t n : Nat) (d : Value) : gz (gnA h t n d) = gz h + 1 := id rfl
/-- what is fixed through a run: numbers of the classes, their slots, the array classes, the first new cell, what the static fields hold -/
abbrev th_E : Type := (Nat → ClassId) × (Nat → Nat → Nat) × (Nat → ClassId) × Nat × (Nat → Value)
def th_ty (E : th_E) : List (ClassId × FieldType) := th_tys.zipIdx.map (fun q => (E.2.2.1 q.2, q.1))
theorem th_ty_at {E : th_E} {t : Nat} {ty : FieldType} (h : th_tys[t]? = some ty) : (th_ty E)[t]? = some (E.2.2.1 t, ty) := by
  simp [th_ty, h]
def th_A (E : th_E) : Nat → Prop := fun q => E.2.2.2.1 ≤ q
def th_cell (E : th_E) (U : State) (h : th_H) (H : Heap) (a : Nat) : th_K → Prop
  | .inl ci => E.2.2.2.1 ≤ a ∧ ∃ r : vw_C, classes[ci]? = some r ∧ t_OB a (E.1 ci) r.2.2 (E.2.1 ci) H (fun j => gF h ci j a)
  | .inr (0, n) => ∃ scr : Cell, H[a]? = some scr ∧ U.isArrayOf scr .int ∧ scr.vm ≠ .unknown ∧ (n ≤ scr.slots.size ∧ scr.slots.size.toInt32 = Int32.ofNat n) ∧ ∀ j : Nat, j < n → scr.slots[j]? = some (gA h 0 a j)
  | .inr (t + 1, n) => E.2.2.2.1 ≤ a ∧ H[a]? = some (arrV (E.2.2.1 (t + 1)) n (gA h (t + 1) a))
def th_P (E : th_E) (U : State) (h : th_H) (H : Heap) : Prop := (H.size = gz h ∧ E.2.2.2.1 ≤ gz h) ∧ ∀ (a : Nat) (k : th_K), gk h a = some k → th_cell E U h H a k
theorem th_cell.lt {E : th_E} {U : State} {h : th_H} {H : Heap} {a : Nat} {k : th_K} (q : th_cell E U h H a k) : a < H.size := by
  match k, q with
  | .inl ci, ⟨_, r, _, c9, q2, _⟩ => exact (Array.getElem?_eq_some_iff.mp q2).1
  | .inr (0, n), ⟨scr, q2, _⟩ => exact (Array.getElem?_eq_some_iff.mp q2).1
  | .inr (t + 1, n), ⟨_, q2⟩ => exact (Array.getElem?_eq_some_iff.mp q2).1
theorem th_P.lt {E : th_E} {U : State} {h : th_H} {H : Heap} {a : Nat} {k : th_K} (q : th_P E U h H) (ha : gk h a = some k) : a < gz h := by
  have := (q.2 a k ha).lt
  rw [q.1.1] at this
  exact this
/-- a cell that isn't touched, in a heap and a picture that say the same of it -/
theorem th_cell.kept {E : th_E} {U : State} {h h1 : th_H} {H H1 : Heap} {a : Nat} {k : th_K} (q : th_cell E U h H a k) (e : H1[a]? = H[a]?) (eF : ∀ ci, k = .inl ci → ∀ j, gF h1 ci j a = gF h ci j a) (eA : ∀ t n, k = .inr (t, n) → ∀ j, gA h1 t a j = gA h t a j) : th_cell E U h1 H1 a k := by
  match k, q with
  | .inl ci, ⟨q0, r, q1, q2⟩ => exact ⟨q0, r, q1, (q2.kept e).to (fun j _ => (eF ci rfl j).symm)⟩
  | .inr (0, n), ⟨scr, q1, q2, q3, q4, q5⟩ => exact ⟨scr, by rw [e]; exact q1, q2, q3, q4, fun j hj => by rw [eA 0 n rfl j]; exact q5 j hj⟩
  | .inr (t + 1, n), ⟨q0, q1⟩ =>
    refine ⟨q0, ?_⟩
    rw [e, q1]
    congr 1
    congr 1
    funext j
    exact (eA (t + 1) n rfl j).symm
theorem th_P.moved {E : th_E} {u U : State} {h : th_H} {H : Heap} (hvm : u.vm.Alike U.vm) (q : th_P E u h H) : th_P E U h H := by
  refine ⟨q.1, fun a k ha => ?_⟩
  have := q.2 a k ha
  match k, this with
  | .inl ci, z => exact z
  | .inr (0, n), ⟨scr, q1, q2, q3⟩ => exact ⟨scr, q1, State.isArrayOf_alike hvm q2, q3⟩
  | .inr (t + 1, n), z => exact z
theorem th_P.putF {E : th_E} {U : State} {h : th_H} {H H1 : Heap} {a ci k : Nat} {v : Value} (q : th_P E U h H) (ha : gk h a = some (.inl ci)) (z : H1.size = H.size) (oq : ∀ b : Nat, b ≠ a → H1[b]? = H[b]?) (r : vw_C) (hr : classes[ci]? = some r) (hn : t_OB a (E.1 ci) r.2.2 (E.2.1 ci) H1 (updV (fun j => gF h ci j a) k v)) : th_P E U (gpF h ci k a v) H1 := by
  refine ⟨⟨by rw [z, gz_pF]; exact q.1.1, q.1.2⟩, fun b kb hb => ?_⟩
  rw [gk_pF] at hb
  by_cases hba : b = a
  · subst hba
    rw [ha] at hb
    cases hb
    refine ⟨(q.2 b _ ha).1, r, hr, hn.to (fun j _ => ?_)⟩
    show (if j = k then v else _) = _
    rw [gF_pF]
    by_cases hj : j = k <;> simp [hj]
  · refine (q.2 b kb hb).kept (oq b hba) (fun ci' _ j => ?_) (fun t n _ j => rfl)
    rw [gF_pF]
    simp [hba]
theorem th_P.putA {E : th_E} {U : State} {h : th_H} {H H1 : Heap} {a t n i : Nat} {v : Value} (q : th_P E U h H) (ha : gk h a = some (.inr (t + 1, n))) (z : H1.size = H.size) (oq : ∀ b : Nat, b ≠ a → H1[b]? = H[b]?) (hn : H1[a]? = some ((arrV (E.2.2.1 (t + 1)) n (gA h (t + 1) a)).setSlot i v)) : th_P E U (gpA h (t + 1) a i v) H1 := by
  refine ⟨⟨by rw [z, gz_pA]; exact q.1.1, q.1.2⟩, fun b kb hb => ?_⟩
  rw [gk_pA] at hb
  by_cases hba : b = a
  · subst hba
    rw [ha] at hb
    cases hb
    refine ⟨(q.2 b _ ha).1, ?_⟩
    rw [hn, arrV_store]
    congr 2
    funext j
    rw [gA_pA]
    by_cases hj : j = i <;> simp [updV, hj]
  · refine (q.2 b kb hb).kept (oq b hba) (fun ci' _ j => rfl) (fun t' n' _ j => ?_)
    rw [gA_pA]
    simp [hba]
theorem th_P.newO {E : th_E} {U : State} {h : th_H} {H H1 : Heap} {ci : Nat} {dv : Nat → Value} (q : th_P E U h H) (z : H1.size = H.size + 1) (oq : ∀ b : Nat, b < H.size → H1[b]? = H[b]?) (r : vw_C) (hr : classes[ci]? = some r) (hn : t_OB H.size (E.1 ci) r.2.2 (E.2.1 ci) H1 dv) : th_P E U (gnO h ci dv) H1 := by
  refine ⟨⟨by rw [z, gz_nO, q.1.1], by rw [gz_nO]; exact Nat.le_succ_of_le q.1.2⟩, fun b kb hb => ?_⟩
  rw [gk_nO] at hb
  by_cases hba : b = gz h
  · subst hba
    rw [if_pos rfl] at hb
    cases hb
    rw [q.1.1] at hn
    exact ⟨q.1.2, r, hr, hn.to (fun j _ => by rw [gF_nO]; simp)⟩
  · rw [if_neg hba] at hb
    have hq := q.2 b kb hb
    refine hq.kept (oq b hq.lt) (fun ci' _ j => ?_) (fun t n _ j => rfl)
    rw [gF_nO]
    simp [hba]
theorem th_P.newA {E : th_E} {U : State} {h : th_H} {H H1 : Heap} {t n : Nat} {d : Value} (q : th_P E U h H) (z : H1.size = H.size + 1) (oq : ∀ b : Nat, b < H.size → H1[b]? = H[b]?) (hn : H1[H.size]? = some (arrV (E.2.2.1 (t + 1)) n (fun _ => d))) : th_P E U (gnA h (t + 1) n d) H1 := by
  refine ⟨⟨by rw [z, gz_nA, q.1.1], by rw [gz_nA]; exact Nat.le_succ_of_le q.1.2⟩, fun b kb hb => ?_⟩
  rw [gk_nA] at hb
  by_cases hba : b = gz h
  · subst hba
    rw [if_pos rfl] at hb
    cases hb
    rw [q.1.1] at hn
    refine ⟨q.1.2, ?_⟩
    rw [hn]
    congr 2
    funext j
    rw [gA_nA]
    simp
  · rw [if_neg hba] at hb
    have hq := q.2 b kb hb
    refine hq.kept (oq b hq.lt) (fun ci' _ j => rfl) (fun t n _ j => ?_)
    rw [gA_nA]
    simp [hba]
/-- the tables' words that ride along everywhere -/
def th_gd (w : Jvm.Cond) : Bool := (w.onTables && w.keeps) || (match w with | .arrayClass _ => true | _ => false)
def th_tb : List Jvm.Cond := lw_tbl.filter th_gd
theorem th_tb_good {w : Jvm.Cond} (h : w ∈ th_tb) : (w.onTables && w.keeps) = true ∨ ∃ ty, w = .arrayClass ty := by
  have h2 := (List.mem_filter.mp h).2
  unfold th_gd at h2
  rw [Bool.or_eq_true] at h2
  rcases h2 with h2 | h2
  · exact Or.inl h2
  · right
    split at h2
    · exact ⟨_, rfl⟩
    · cases h2
/-- what holds of the tables at every state of the run -/
def th_C (E : th_E) (U : State) : Prop := va_K (E.1, E.2.1) classes (th_ty E) U ∧ (∀ a i b n d g, Jvm.Cond.fieldLinkNest a i b n d g ∈ lw_tbl → va_Nw (.fieldLinkNest a i b n d g) U) ∧ (∀ a i x g, Jvm.Cond.methodLinkNest a i x g ∈ lw_tbl → va_Nw (.methodLinkNest a i x g) U) ∧ (∀ C, Jvm.Cond.arrayOver (.object C) ∈ lw_tbl → va_AO C U)
theorem th_C.warm {E : th_E} {s U : State} (hW : s.WarmedH U.vm) (h : th_C E s) : th_C E U := ⟨va_K.moved hW.alike h.1, fun a i b n d g q => va_Nw.warmF hW (h.2.1 a i b n d g q), fun a i x g q => va_Nw.warmM hW (h.2.2.1 a i x g q), fun C q => (h.2.2.2 C q).moved hW.alike⟩
theorem th_C.same {E : th_E} {s U : State} (hv : s.vm = U.vm) (h : th_C E s) : th_C E U := ⟨va_K.moved (by rw [hv]; exact Vm.Alike.refl _) h.1, fun a i b n d g q => va_Nw.same rfl hv (h.2.1 a i b n d g q), fun a i x g q => va_Nw.same rfl hv (h.2.2.1 a i x g q), fun C q => (h.2.2.2 C q).moved (by rw [hv]; exact Vm.Alike.refl _)⟩
def th_Z (E : th_E) (U : State) (H : Heap) : Prop := ∀ (k : Nat) (q : String × String × String), th_sts[k]? = some q → va_Z q.1 q.2.1 q.2.2 (E.2.2.2.2 k) (th_A E) U H
/-- a state that the picture h speaks of -/
def th_S (E : th_E) (h : th_H) (U : State) : Prop := th_P E U h U.heap ∧ th_C E U ∧ th_Z E U U.heap
def th_ws (M : th_M) : List Jvm.Cond := .code M.1 M.2.1 M.2.2.1 M.2.2.2 :: th_tb
def th_X (E : th_E) (M : th_M) (p : Program) (s : State) (m : MethodId) (args : Array Value) (meth : Method) (c : Code) : Prop :=
  p.tables.exec = Jvm.exec ∧ c.code = M.2.1 ∧ c.maxLocals = M.2.2.1 ∧ s.vm.findClass M.1.cls = some m.cls ∧ (∀ w ∈ th_tb, w.before args s = true) ∧ meth.sig.returnType = M.2.2.2 ∧ meth.locks = false ∧ meth.name = M.1.name ∧ th_C E s ∧ th_Z E s s.heap
def th_L (ls : Array Slot) (n : Nat) (L : List (Option Value)) : Prop := L.length = n ∧ ∃ lv : List (Nat × Value), lv_has ls n lv ∧ ∀ (i : Nat) (v : Value), L[i]? = some (some v) → (i, v) ∈ lv ∧ v.category = 1
theorem th_L.at {ls : Array Slot} {n : Nat} {L : List (Option Value)} (h : th_L ls n L) {i : Nat} {v : Value} (hi : L[i]? = some (some v)) : ls[i]? = some (.val v) := by
  obtain ⟨-, lv, h1, h2⟩ := h
  exact h1.2.2 (i, v) (h2 i v hi).1
theorem th_L.set {ls : Array Slot} {n : Nat} {L : List (Option Value)} {lv : List (Nat × Value)} {i : Nat} {v : Value} (hL : L.length = n) (h2 : ∀ (i : Nat) (v : Value), L[i]? = some (some v) → (i, v) ∈ lv ∧ v.category = 1) (hc : v.category = 1) (hi : i < n)
    (h' : lv_has ls n ((i, v) :: lv.filter (fun q => !(q.1 == i) && !(q.1 + 1 == i && q.2.category == 2)))) : th_L ls n (L.set i (some v)) := by
  refine ⟨by rw [List.length_set]; exact hL, _, h', fun j w hj => ?_⟩
  by_cases hij : i = j
  · subst hij
    rw [List.getElem?_set_self (by omega)] at hj
    cases hj
    exact ⟨List.mem_cons_self, hc⟩
  · rw [List.getElem?_set_ne hij] at hj
    obtain ⟨q1, q2⟩ := h2 j w hj
    refine ⟨List.mem_cons_of_mem _ (List.mem_filter.mpr ⟨q1, ?_⟩), q2⟩
    simp [q2, Ne.symm hij]
/-- the instruction at pc gives back v -/
def th_R (M : th_M) (pc : Nat) (v : Option Value) : Prop :=
  (v = none ∧ M.2.2.2 = none ∧ decode M.2.1 pc = .ok (.return_, 1)) ∨
  (∃ (x : Int32) (ty : FieldType), v = some (.int x) ∧ M.2.2.2 = some ty ∧ narrow ty (.int x) = .int x ∧ decode M.2.1 pc = .ok (.ireturn, 1)) ∨
  (∃ (w : Value) (ty : FieldType), v = some w ∧ M.2.2.2 = some ty ∧ ((∃ n, ty = .object n) ∨ ∃ t, ty = .array t) ∧ (w = .null ∨ ∃ a, w = .ref a) ∧ decode M.2.1 pc = .ok (.areturn, 1))
def th_Y (E : th_E) (M : th_M) (d cz cs : Nat) (L : List (Option Value)) (h : th_H) (Post : Option Value → th_H → Prop) (p : Program) (l : Launch) (e : Env) (R : Room) (s : State) (m : MethodId) (args : Array Value) (below : List Frame) (meth : Method) (c : Code) (H : Heap) (locs : List Loc) (cells slots : Nat) (ls : Array Slot) (Q : State → Prop) : Prop :=
  th_X E M p s m args meth c ∧ th_P E s h H ∧ va_S (th_A E) s.heap H locs ∧ th_L ls M.2.2.1 L ∧ (d ≤ R.frames ∧ 64 * d ≤ R.locals) ∧ (cells + cz ≤ R.cells ∧ slots + cs ≤ R.slots) ∧
  ∀ (v : Option Value) (h' : th_H) (pc' : Nat) (ls' : Array Slot) (H' : Heap) (locs' : List Loc) (cells' slots' : Nat), Post v h' → th_R M pc' v → th_P E s h' H' → va_S (th_A E) s.heap H' locs' → cells' ≤ R.cells → slots' ≤ R.slots → W p l e R s m args below meth c H' locs' cells' slots' Q (F0 m pc' ls' v.toList)
/-- method M, at pc with locals L, stack S, in the picture h, with room for d calls deep, cz cells of cs slots, comes to an end with Post -/
def Xw (E : th_E) (M : th_M) (d cz cs pc : Nat) (L : List (Option Value)) (S : List Value) (h : th_H) (Post : Option Value → th_H → Prop) : Prop :=
  ∀ (p : Program) (l : Launch) (e : Env) (R : Room) (s : State) (m : MethodId) (args : Array Value) (below : List Frame) (meth : Method) (c : Code) (H : Heap) (locs : List Loc) (cells slots : Nat) (ls : Array Slot) (Q : State → Prop),
    th_Y E M d cz cs L h Post p l e R s m args below meth c H locs cells slots ls Q → W p l e R s m args below meth c H locs cells slots Q (F0 m pc ls S)
def th_Qc (E : th_E) (Post : Option Value → th_H → Prop) : Array Value → State → Outcome → State → Prop := fun _ st oc t => ∃ (v : Option Value) (h' : th_H), oc = .returned v ∧ Post v h' ∧ th_S E h' t ∧ va_F (th_A E) st t
/-- a method's contract at arguments as and picture h -/
def Xc (E : th_E) (M : th_M) (d cz cs : Nat) (as : List Value) (h : th_H) (Post : Option Value → th_H → Prop) : Prop :=
  ∀ l : Launch, Met l M.1 (th_ws M) { frames := d, cells := cz, slots := cs, locals := 64 * d } (va_Pc as (th_S E h)) (th_Qc E Post) cz cs (th_A E)
def th_ent (M : th_M) (as : List Value) : List (Option Value) := as.map some ++ List.replicate (M.2.2.1 - as.length) none
theorem th_args_mem : ∀ (as : List Value) (k i : Nat) (v : Value), (∀ w ∈ as, w.category = 1) → as[i]? = some v → (k + i, v) ∈ lv_args k as
  | [], k, i, v, _, h => by simp at h
  | a :: as, k, 0, v, hc, h => by
    simp at h
    subst h
    simp [lv_args]
  | a :: as, k, i + 1, v, hc, h => by
    have h1 : a.category = 1 := hc a List.mem_cons_self
    simp only [List.getElem?_cons_succ] at h
    have := th_args_mem as (k + 1) i v (fun w hw => hc w (List.mem_cons_of_mem _ hw)) h
    simp only [lv_args, h1]
    refine List.mem_cons_of_mem _ ?_
    rw [if_neg (by decide), show k + (i + 1) = k + 1 + i by omega]
    exact this
theorem th_sl_len : ∀ (as : List Value), (∀ w ∈ as, w.category = 1) → (lg_sl as).length = as.length
  | [], _ => rfl
  | a :: as, hc => by
    have h1 : a.category = 1 := hc a List.mem_cons_self
    have := th_sl_len as (fun w hw => hc w (List.mem_cons_of_mem _ hw))
    simp only [lg_sl, List.flatMap_cons, h1] at this ⊢
    rw [if_neg (by decide)]
    simp only [List.length_append, List.length_cons, List.length_nil, this]
    omega
theorem th_L.entry {as : List Value} {n : Nat} (hc : ∀ w ∈ as, w.category = 1) (hn : as.length ≤ n) : th_L ((lg_sl as ++ List.replicate (n - (lg_sl as).length) Slot.unset).toArray) n (as.map some ++ List.replicate (n - as.length) none) := by
  refine ⟨by simp; omega, lv_args 0 as, lv_entry as (by rw [th_sl_len as hc]; exact hn), fun i v hi => ?_⟩
  have hi2 : as[i]? = some v := by
    by_cases hl : i < as.length
    · rw [List.getElem?_append_left (by simpa using hl), List.getElem?_map] at hi
      cases hq : as[i]? with
      | none => rw [hq] at hi; cases hi
      | some w => rw [hq] at hi; cases hi; rfl
    · rw [List.getElem?_append_right (by simpa using hl), List.getElem?_replicate] at hi
      split at hi <;> cases hi
  refine ⟨?_, hc v (List.mem_of_getElem? hi2)⟩
  have := th_args_mem as 0 i v hc hi2
  rwa [Nat.zero_add] at this
theorem th_ofW {l : Launch} {y : MethodName} {ws ws' : List Jvm.Cond} {rm : Room} {Pc : Array Value → State → Prop} {Qc : Array Value → State → Outcome → State → Prop} {mc ms : Nat} {free : Addr → Prop} {cc : ByteArray} {maxL : Nat} {ret : Option FieldType}
    (hy : plainFor y = true) (hw : ws = Jvm.Cond.code y cc maxL ret :: ws')
    (body : ∀ p e s m args below meth c s₁, BodyLoose p l y (headSpec ws rm) cc maxL ret e s m args below meth c s₁ → c.maxLocals = maxL → Pc args s →
      W p l e (headSpec ws rm).room s m args below meth c s.heap [] 0 0 (MQ below Qc args s mc ms free) (entryFrame m args maxL)) : Met l y ws rm Pc Qc mc ms free := by
  refine MetFree.of_bodySF (code := cc) (maxLocals := maxL) (ret := ret) hy ?_ ?_
  · intro args s m h hn
    obtain ⟨meth, c, h1, h2, h3, h4, h5, h6, -, -⟩ := Cond.code_spec hn (atoms_spec (ws := ws) h _ (by rw [hw]; exact List.mem_cons_self))
    exact ⟨meth, c, h1, h2, h3, h4, h5, h6⟩
  · intro p e s m args below meth c s₁ B hml hP _
    have hh0 : s₁.heap = s.heap := by rw [B.state]; rfl
    obtain ⟨t, a1, o, b1, b2, b3⟩ := body p e s m args below meth c s₁ B hml hP s₁ hh0 (Stand.of_body B)
    exact ⟨t, o, a1, b1, b2, ⟨b3.1, b3.2⟩⟩
/-- a contract out of the walk from the entry -/
theorem Xc.ofF {E : th_E} {M : th_M} {d cz cs : Nat} {as : List Value} {h : th_H} {Post : Option Value → th_H → Prop} (hpl : plainFor M.1 = true) (hc : ∀ w ∈ as, w.category = 1) (hn : as.length ≤ M.2.2.1) (w : Xw E M d cz cs 0 (th_ent M as) [] h Post) : Xc E M d cz cs as h Post := by
  intro l
  refine th_ofW (cc := M.2.1) (maxL := M.2.2.1) (ret := M.2.2.2) hpl rfl ?_
  intro p e s m args below meth c s₁ B hml hv
  obtain ⟨rfl, hP, hC, hZ⟩ := hv
  have hts := atoms_spec (ws := th_ws M) B.pre
  have hown : s.vm.findClass M.1.cls = some m.cls := findClass_of_methodNamed B.named
  have hlocks : meth.locks = false := B.notSynchronized
  rw [lg_entry_eq]
  refine w p l e _ s m _ below meth c s.heap [] 0 0 _ _ ⟨⟨B.exec, B.bytes, hml, hown, fun w hw => hts w (List.mem_cons_of_mem _ hw), B.returns, hlocks, (name_of_methodNamed B.named B.method).1, hC, hZ⟩, hP, va_S.rf, th_L.entry hc hn, ⟨Nat.le_refl _, Nat.le_refl _⟩, ⟨by show 0 + cz ≤ cz; omega, by show 0 + cs ≤ cs; omega⟩, ?_⟩
  intro v h' pc' ls' H' locs' cells' slots' hp hR hP' hS' hce hsl
  have hq : ∀ t : State, t.heap = H' → s.WarmedH t.vm → th_Qc E Post as.toArray s (.returned v) t := fun t ht hW => ⟨v, h', rfl, hp, ⟨by rw [ht]; exact hP'.moved hW.alike, hC.warm hW, fun k q hk => ((hZ k q hk).moved hW.alike).kept (fun a h1 h2 => by rw [ht]; exact hS'.2.1 a h1 h2)⟩, hS'.F ht⟩
  refine W.widen (k := cz) (n := cs) hce hsl ?_
  rcases hR with ⟨rfl, hr, hdg⟩ | ⟨x, ty, rfl, hr, hnr, hdg⟩ | ⟨w2, ty, rfl, hr, hty, hw2, hdg⟩
  · exact W.vret B.exec B.bytes (B.returns.trans hr) hq hS'.2.2 hdg hlocks
  · exact W.zret B.exec B.bytes (B.returns.trans hr) hnr hq hS'.2.2 hdg hlocks
  · exact W.aret B.exec B.bytes (B.returns.trans hr) hty hw2 hq hS'.2.2 hdg hlocks
theorem Xc.of {E : th_E} {M : th_M} {d cz cs : Nat} {as : List Value} {h : th_H} {Post : Option Value → th_H → Prop} (hpl : plainName M.1.cls = true) (hc : ∀ w ∈ as, w.category = 1) (hn : as.length ≤ M.2.2.1) (w : Xw E M d cz cs 0 (th_ent M as) [] h Post) : Xc E M d cz cs as h Post := Xc.ofF (plainFor_of_name hpl) hc hn w
