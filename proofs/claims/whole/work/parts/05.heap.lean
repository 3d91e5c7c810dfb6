/-! Rules of Xw: fields, arrays, new cells, static fields, calls, answers. -/
def th_ok (ci : Nat) (C : String) (T : u_T) (N : Nat) (ty : Nat → FieldType) : Prop := classes[ci]? = some (C, T, N) ∧ (∀ w ∈ u_ws C T N, w ∈ th_tb) ∧ (∀ k, k < N → parseFieldDescriptor (T k).2.2.1 = some (ty k)) ∧ ∀ a, a < N → ∀ b, b < N → a ≠ b → (T a).2.1 ≠ (T b).2.1
/-- a field that the constant pool of own names at idx: class ci, place k -/
def th_lf (own : String) (idx ci k : Nat) : Prop := ∃ (C : String) (T : u_T) (N : Nat) (ty : Nat → FieldType), th_ok ci C T N ty ∧ k < N ∧ Jvm.Cond.fieldLink own idx (T k).1 (T k).2.1 (T k).2.2.1 ∈ th_tb
def th_lfN (own : String) (idx ci k : Nat) : Prop := ∃ (C : String) (T : u_T) (N : Nat) (ty : Nat → FieldType) (host : String), th_ok ci C T N ty ∧ k < N ∧ Jvm.Cond.fieldLinkNest own idx (T k).1 (T k).2.1 (T k).2.2.1 host ∈ lw_tbl
def th_fit (tc : Nat) (v : Value) : Prop := match tc with
  | 0 => ∃ x : Int32, v = .int x
  | 1 => v = .null ∨ ∃ a : Nat, v = .ref a
  | _ => v = .int 0 ∨ v = .int 1
def th_fty (tc : Nat) (ty : FieldType) : Prop := ∀ v : Value, th_fit tc v → narrow ty v = v ∧ fits ty v = true
theorem th_fty_i : th_fty 0 .int := by
  intro v h
  obtain ⟨x, rfl⟩ := h
  exact ⟨rfl, rfl⟩
theorem th_fty_o (C : String) : th_fty 1 (.object C) := by
  intro v h
  rcases h with rfl | ⟨a, rfl⟩ <;> exact ⟨rfl, rfl⟩
theorem th_fty_a (t : FieldType) : th_fty 1 (.array t) := by
  intro v h
  rcases h with rfl | ⟨a, rfl⟩ <;> exact ⟨rfl, rfl⟩
theorem th_fty_b : th_fty 2 .boolean := by
  intro v h
  rcases h with rfl | rfl <;> exact ⟨rfl, rfl⟩
/-- the same, of a field that is written: tc says what fits (0 ints, 1 references, 2 booleans) -/
def th_lp (own : String) (idx ci k tc : Nat) : Prop := ∃ (C : String) (T : u_T) (N : Nat) (ty : Nat → FieldType), th_ok ci C T N ty ∧ k < N ∧ Jvm.Cond.fieldLink own idx (T k).1 (T k).2.1 (T k).2.2.1 ∈ th_tb ∧ (T k).2.2.2 = false ∧ th_fty tc (ty k)
def th_lpN (own : String) (idx ci k tc : Nat) : Prop := ∃ (C : String) (T : u_T) (N : Nat) (ty : Nat → FieldType) (host : String), th_ok ci C T N ty ∧ k < N ∧ Jvm.Cond.fieldLinkNest own idx (T k).1 (T k).2.1 (T k).2.2.1 host ∈ lw_tbl ∧ (T k).2.2.2 = false ∧ th_fty tc (ty k)
def th_lpF (own : String) (idx ci k tc : Nat) : Prop := ∃ (C : String) (T : u_T) (N : Nat) (ty : Nat → FieldType), th_ok ci C T N ty ∧ k < N ∧ Jvm.Cond.fieldLink own idx (T k).1 (T k).2.1 (T k).2.2.1 ∈ th_tb ∧ (T k).2.2.2 = true ∧ (T k).1 = own ∧ th_fty tc (ty k)
def th_ln (own : String) (idx ci N : Nat) (dv : Nat → Value) : Prop := ∃ (C : String) (T : u_T) (ty : Nat → FieldType), th_ok ci C T N ty ∧ Jvm.Cond.classLink own idx C ∈ th_tb ∧ Jvm.Cond.instantiable C N ∈ th_tb ∧ Jvm.Cond.initialized C ∈ th_tb ∧ ∀ j, j < N → defaultValue (ty j) = dv j
section THR
variable {E : th_E} {M : th_M} {d cz cs pc : Nat} {L : List (Option Value)} {S : List Value} {h : th_H} {Post : Option Value → th_H → Prop}
theorem x_getf {idx ci k a : Nat} {v : Value} (hd : decode M.2.1 pc = .ok (.getfield idx, 3)) (lk : th_lf M.1.cls idx ci k) (ha : gk h a = some (.inl ci)) (hv : gF h ci k a = v) (kk : Xw E M d cz cs (pc + 3) L (v :: S) h Post) : Xw E M d cz cs pc L (.ref a :: S) h Post := by
  intro p l e R s m args below meth c H locs cells slots ls Q Y
  have k1 := kk p l e R s m args below meth c H locs cells slots ls Q Y
  obtain ⟨⟨hx, hb, hml, hown, hts, hr, hlk, hnm0, hC, hZ⟩, hP, hS, hL, hf, hcs, hQ⟩ := Y
  obtain ⟨C, T, N, ty, ⟨hc, hin, hty, hnm⟩, hkN, hl⟩ := lk
  obtain ⟨-, r, h1, cell, q1, q2, q3, q4⟩ := hP.2 a _ ha
  have hr : r = (C, T, N) := Option.some.inj (h1.symm.trans hc)
  subst hr
  obtain ⟨hSl, hfc, kC, hkC, hkind⟩ := hC.1.1 ci _ hc
  obtain ⟨cf, kf, fi, f, hi, hsl⟩ := hSl k hkN
  refine W.getf hx hb hown (hts _ hl) hi (u_facts hfc hkC (u_lays hts hin hkN) hi).1 q1 (by rw [q3]; exact fun h => by cases h) (v := v) ?_ rfl rfl hd k1
  rw [hsl]
  exact (q4 k hkN).trans (congrArg some hv)
theorem x_getfN {idx ci k a : Nat} {v : Value} (hd : decode M.2.1 pc = .ok (.getfield idx, 3)) (lk : th_lfN M.1.cls idx ci k) (ha : gk h a = some (.inl ci)) (hv : gF h ci k a = v) (kk : Xw E M d cz cs (pc + 3) L (v :: S) h Post) : Xw E M d cz cs pc L (.ref a :: S) h Post := by
  intro p l e R s m args below meth c H locs cells slots ls Q Y
  have k1 := kk p l e R s m args below meth c H locs cells slots ls Q Y
  obtain ⟨⟨hx, hb, hml, hown, hts, hr, hlk, hnm0, hC, hZ⟩, hP, hS, hL, hf, hcs, hQ⟩ := Y
  obtain ⟨C, T, N, ty, host, ⟨hc, hin, hty, hnm⟩, hkN, hl⟩ := lk
  obtain ⟨-, r, h1, cell, q1, q2, q3, q4⟩ := hP.2 a _ ha
  have hr : r = (C, T, N) := Option.some.inj (h1.symm.trans hc)
  subst hr
  obtain ⟨hSl, hfc, kC, hkC, hkind⟩ := hC.1.1 ci _ hc
  obtain ⟨cf, kf, fi, f, hi, hsl⟩ := hSl k hkN
  refine va_Wgetf hx hb hown (va_Nw.use rfl (hC.2.1 _ _ _ _ _ _ hl)) hi (u_facts hfc hkC (u_lays hts hin hkN) hi).1 q1 (by rw [q3]; exact fun h => by cases h) (v := v) ?_ rfl rfl hd k1
  rw [hsl]
  exact (q4 k hkN).trans (congrArg some hv)
theorem x_putf {idx ci k tc a : Nat} {v : Value} (hd : decode M.2.1 pc = .ok (.putfield idx, 3)) (lk : th_lp M.1.cls idx ci k tc) (ha : gk h a = some (.inl ci)) (hv : th_fit tc v) (kk : Xw E M d cz cs (pc + 3) L S (gpF h ci k a v) Post) : Xw E M d cz cs pc L (v :: .ref a :: S) h Post := by
  intro p l e R s m args below meth c H locs cells slots ls Q Y
  obtain ⟨hX, hP, hS, hL, hf, hcs, hQ⟩ := Y
  have hX2 := hX
  obtain ⟨hx, hb, hml, hown, hts, hr, hlk, hnm0, hC, hZ⟩ := hX
  obtain ⟨C, T, N, ty, ⟨hc, hin, hty, hnm⟩, hkN, hl, hfin, hfit⟩ := lk
  have hap := va_apart (own := M.1.cls) hts hin ty hty hnm hC.1 hc
  obtain ⟨hB, r, h1, cell, q1, q2, q3, q4⟩ := hP.2 a _ ha
  have hr : r = (C, T, N) := Option.some.inj (h1.symm.trans hc)
  subst hr
  obtain ⟨hSl, hfc, kC, hkC, hkind⟩ := hC.1.1 ci _ hc
  obtain ⟨cf, kf, fi, f, hi, hsl⟩ := hSl k hkN
  have hlay := hts _ (hin _ (u_in_lay hkN))
  unfold u_lay at hlay
  rw [if_neg (by rw [hfin]; decide)] at hlay
  have hst := (u_facts hfc hkC (u_lays hts hin hkN) hi).1
  have h6 := u_store hfc hkC hkind hlay hi (hty k hkN) (hfit v hv).1 (hfit v hv).2
  refine W.putK hx hb (f := f) ⟨hown, hts _ hl, ⟨_, _, _, hi⟩, hst⟩ (by rw [q2]; exact h6) q1 q3 (by rw [hsl]; exact k2_hasslot (q4 k hkN)) rfl rfl hd fun H' e1 e2 e3 => ?_
  rw [hsl] at e1
  exact kk p l e R s m args below meth c H' _ cells slots ls Q ⟨hX2, hP.putF ha e2 e3 _ hc ⟨_, e1, q2, q3, t_set q4 hap hkN v⟩, hS.put e2 e3 hB, hL, hf, hcs, hQ⟩
theorem x_putfN {idx ci k tc a : Nat} {v : Value} (hd : decode M.2.1 pc = .ok (.putfield idx, 3)) (lk : th_lpN M.1.cls idx ci k tc) (ha : gk h a = some (.inl ci)) (hv : th_fit tc v) (kk : Xw E M d cz cs (pc + 3) L S (gpF h ci k a v) Post) : Xw E M d cz cs pc L (v :: .ref a :: S) h Post := by
  intro p l e R s m args below meth c H locs cells slots ls Q Y
  obtain ⟨hX, hP, hS, hL, hf, hcs, hQ⟩ := Y
  have hX2 := hX
  obtain ⟨hx, hb, hml, hown, hts, hr, hlk, hnm0, hC, hZ⟩ := hX
  obtain ⟨C, T, N, ty, host, ⟨hc, hin, hty, hnm⟩, hkN, hl, hfin, hfit⟩ := lk
  have hap := va_apart (own := M.1.cls) hts hin ty hty hnm hC.1 hc
  obtain ⟨hB, r, h1, cell, q1, q2, q3, q4⟩ := hP.2 a _ ha
  have hr : r = (C, T, N) := Option.some.inj (h1.symm.trans hc)
  subst hr
  obtain ⟨hSl, hfc, kC, hkC, hkind⟩ := hC.1.1 ci _ hc
  obtain ⟨cf, kf, fi, f, hi, hsl⟩ := hSl k hkN
  have hlay := hts _ (hin _ (u_in_lay hkN))
  unfold u_lay at hlay
  rw [if_neg (by rw [hfin]; decide)] at hlay
  have hst := (u_facts hfc hkC (u_lays hts hin hkN) hi).1
  have h6 := u_store hfc hkC hkind hlay hi (hty k hkN) (hfit v hv).1 (hfit v hv).2
  refine va_WputK hx hb (f := f) hown (va_Nw.use rfl (hC.2.1 _ _ _ _ _ _ hl)) hi hst (by rw [q2]; exact h6) q1 q3 (by rw [hsl]; exact k2_hasslot (q4 k hkN)) rfl rfl hd fun H' e1 e2 e3 => ?_
  rw [hsl] at e1
  exact kk p l e R s m args below meth c H' _ cells slots ls Q ⟨hX2, hP.putF ha e2 e3 _ hc ⟨_, e1, q2, q3, t_set q4 hap hkN v⟩, hS.put e2 e3 hB, hL, hf, hcs, hQ⟩
theorem x_putfF {idx ci k tc a : Nat} {v : Value} (hd : decode M.2.1 pc = .ok (.putfield idx, 3)) (hi0 : M.1.name = "<init>") (lk : th_lpF M.1.cls idx ci k tc) (ha : gk h a = some (.inl ci)) (hv : th_fit tc v) (kk : Xw E M d cz cs (pc + 3) L S (gpF h ci k a v) Post) : Xw E M d cz cs pc L (v :: .ref a :: S) h Post := by
  intro p l e R s m args below meth c H locs cells slots ls Q Y
  obtain ⟨hX, hP, hS, hL, hf, hcs, hQ⟩ := Y
  have hX2 := hX
  obtain ⟨hx, hb, hml, hown, hts, hr, hlk, hnm0, hC, hZ⟩ := hX
  obtain ⟨C, T, N, ty, ⟨hc, hin, hty, hnm⟩, hkN, hl, hfin, hdecl, hfit⟩ := lk
  have hap := va_apart (own := M.1.cls) hts hin ty hty hnm hC.1 hc
  obtain ⟨hB, r, h1, cell, q1, q2, q3, q4⟩ := hP.2 a _ ha
  have hr : r = (C, T, N) := Option.some.inj (h1.symm.trans hc)
  subst hr
  obtain ⟨hSl, hfc, kC, hkC, hkind⟩ := hC.1.1 ci _ hc
  obtain ⟨cf, kf, fi, f, hi, hsl⟩ := hSl k hkN
  have hlay := hts _ (hin _ (u_in_lay hkN))
  unfold u_lay at hlay
  rw [if_pos hfin] at hlay
  have hst := (u_facts hfc hkC (u_lays hts hin hkN) hi).1
  have hcf : m.cls = cf := by
    obtain ⟨_, _, c', _, _, _, -, -, hf', -, -, -, hown2, -⟩ := Cond.laysFinal_spec hlay
    have e1 : c' = cf := by have := hi.symm.trans hf'; simp at this; exact this.1.symm
    rw [hdecl] at hown2
    rw [← e1]; exact Option.some.inj (hown.symm.trans hown2)
  have h6 := u_fits hfc hkC hkind (Or.inr hlay) hi (hty k hkN) (hfit v hv).1 (hfit v hv).2
  refine W.putFinK hx hb hown (hts _ hl) hi hst hcf (hnm0.trans hi0) (by rw [q2]; exact h6) q1 q3 (by rw [hsl]; exact k2_hasslot (q4 k hkN)) rfl rfl hd fun H' e1 e2 e3 => ?_
  rw [hsl] at e1
  exact kk p l e R s m args below meth c H' _ cells slots ls Q ⟨hX2, hP.putF ha e2 e3 _ hc ⟨_, e1, q2, q3, t_set q4 hap hkN v⟩, hS.put e2 e3 hB, hL, hf, hcs, hQ⟩
theorem x_new {idx ci N : Nat} {dv : Nat → Value} {cz' cs' : Nat} (hd : decode M.2.1 pc = .ok (.new idx, 3)) (lk : th_ln M.1.cls idx ci N dv) (hz1 : cz' + 1 ≤ cz) (hs1 : cs' + N ≤ cs) (kk : Xw E M d cz' cs' (pc + 3) L (.ref (gz h) :: S) (gnO h ci dv) Post) : Xw E M d cz cs pc L S h Post := by
  intro p l e R s m args below meth c H locs cells slots ls Q Y
  obtain ⟨hX, hP, hS, hL, hf, ⟨hc1, hc2⟩, hQ⟩ := Y
  have hX2 := hX
  obtain ⟨hx, hb, hml, hown, hts, hr, hlk, hnm0, hC, hZ⟩ := hX
  obtain ⟨C, T, ty, ⟨hc, hin, hty, hnm⟩, hcl, hins, hini, hdv⟩ := lk
  have hKn := hC.1.1 ci _ hc
  have hsz := hP.1.1
  refine W.newcK hx hb hown (hts _ hcl) (hts _ hins) (hts _ hini) rfl hd (by omega) (by omega) hKn.2.1 hsz fun H1 kC hkC e1 z1 o1 => ?_
  refine kk p l e R s m args below meth c H1 locs (cells + 1) (slots + N) ls Q ⟨hX2, hP.newO (by rw [z1, hsz]) (fun b hb => o1 b (by rw [← hsz]; exact hb)) _ hc ?_, ⟨Nat.le_trans hS.1 (by rw [z1, hsz]; omega), fun x h1 h2 => (o1 x (by rw [← hsz]; exact Nat.lt_of_lt_of_le h1 hS.1)).trans (hS.2.1 x h1 h2), hS.2.2⟩, hL, hf, ⟨by omega, by omega⟩, hQ⟩
  rw [hsz]
  exact (u_born ty hts hin hKn hkC e1 hty).to hdv
theorem x_newi {n : Int32} {N cz' cs' : Nat} (hd : decode M.2.1 pc = .ok (.newarray .int, 2)) (hw : Jvm.Cond.arrayClass .int ∈ th_tb) (hty : th_tys[1]? = some .int) (hn : ¬ n < 0) (hN : n.toNatClampNeg = N) (hb4 : N ≤ 100000) (hz1 : cz' + 1 ≤ cz) (hs1 : cs' + N ≤ cs) (kk : Xw E M d cz' cs' (pc + 2) L (.ref (gz h) :: S) (gnA h 1 N (.int 0)) Post) : Xw E M d cz cs pc L (.int n :: S) h Post := by
  intro p l e R s m args below meth c H locs cells slots ls Q Y
  obtain ⟨hX, hP, hS, hL, hf, ⟨hc1, hc2⟩, hQ⟩ := Y
  have hX2 := hX
  obtain ⟨hx, hb, hml, hown, hts, hr, hlk, hnm0, hC, hZ⟩ := hX
  have hsz := hP.1.1
  refine va_newaK (atype := .int) hx hb (hts _ hw) rfl hd rfl hn hN (by show N * 4 ≤ _; omega) (by omega) (by omega) hsz fun H1 cA e1 z1 o1 hAr hNm => ?_
  have hRA : s.vm.findClass ("[" ++ FieldType.int.toString) = some (E.2.2.1 1) := (hC.1.2 1 _ (th_ty_at hty)).2
  have hcA : cA = E.2.2.1 1 := Option.some.inj (hNm.symm.trans hRA)
  subst hcA
  exact kk p l e R s m args below meth c H1 locs (cells + 1) (slots + N) ls Q ⟨hX2, hP.newA (t := 0) (by rw [z1, hsz]) (fun b hb => o1 b (by rw [← hsz]; exact hb)) (by rw [hsz]; exact e1), ⟨Nat.le_trans hS.1 (by rw [z1, hsz]; omega), fun x h1 h2 => (o1 x (by rw [← hsz]; exact Nat.lt_of_lt_of_le h1 hS.1)).trans (hS.2.1 x h1 h2), hS.2.2⟩, hL, hf, ⟨by omega, by omega⟩, hQ⟩
theorem x_anew {idx t : Nat} {C : String} {n : Int32} {N cz' cs' : Nat} (hd : decode M.2.1 pc = .ok (.anewarray idx, 3)) (hcl : Jvm.Cond.classLink M.1.cls idx C ∈ th_tb) (hao : Jvm.Cond.arrayOver (.object C) ∈ lw_tbl) (hty : th_tys[t + 1]? = some (.object C)) (hn : ¬ n < 0) (hN : n.toNatClampNeg = N) (hb4 : N ≤ 100000) (hz1 : cz' + 1 ≤ cz) (hs1 : cs' + N ≤ cs) (kk : Xw E M d cz' cs' (pc + 3) L (.ref (gz h) :: S) (gnA h (t + 1) N .null) Post) : Xw E M d cz cs pc L (.int n :: S) h Post := by
  intro p l e R s m args below meth c H locs cells slots ls Q Y
  obtain ⟨hX, hP, hS, hL, hf, ⟨hc1, hc2⟩, hQ⟩ := Y
  have hX2 := hX
  obtain ⟨hx, hb, hml, hown, hts, hr, hlk, hnm0, hC, hZ⟩ := hX
  have hsz := hP.1.1
  subst hN
  refine W.anew hx hb hown (hts _ hcl) (hC.2.2.2 C hao).use rfl hd rfl hn (by omega) (by omega) (by omega) fun cA kA comp g1 g2 g3 g4 => ?_
  obtain ⟨kA', comp', r1, r2, r3, r4⟩ := (hC.1.2 (t + 1) _ (th_ty_at hty)).2
  have hcA : cA = E.2.2.1 (t + 1) := Option.some.inj (g1.symm.trans r4)
  subst hcA
  rw [arrV_new]
  have o1 : ∀ b : Nat, b < H.size → (H.push (arrV (E.2.2.1 (t + 1)) n.toNatClampNeg (fun _ => .null)))[b]? = H[b]? := fun b hb => by rw [Array.getElem?_push, if_neg (Nat.ne_of_lt hb)]
  rw [show H.size = gz h from hsz]
  exact kk p l e R s m args below meth c _ locs (cells + 1) (slots + n.toNatClampNeg) ls Q ⟨hX2, hP.newA (by simp) o1 (by simp), ⟨Nat.le_trans hS.1 (by simp), fun x h1 h2 => (o1 x (Nat.lt_of_lt_of_le h1 hS.1)).trans (hS.2.1 x h1 h2), hS.2.2⟩, hL, hf, ⟨by omega, by omega⟩, hQ⟩
theorem x_iald {t n a : Nat} {i : Int32} {v : Value} (hd : decode M.2.1 pc = .ok (.iaload, 1)) (ha : gk h a = some (.inr (t, n))) (hty : th_tys[t]? = some .int) (hin : vp_in i n) (hv : gA h t a i.toNatClampNeg = v) (kk : Xw E M d cz cs (pc + 1) L (v :: S) h Post) : Xw E M d cz cs pc L (.int i :: .ref a :: S) h Post := by
  intro p l e R s m args below meth c H locs cells slots ls Q Y
  have k1 := kk p l e R s m args below meth c H locs cells slots ls Q Y
  obtain ⟨⟨hx, hb, hml, hown, hts, hr, hlk, hnm0, hC, hZ⟩, hP, hS, hL, hf, hcs, hQ⟩ := Y
  have hlt : i.toNatClampNeg < n := Nat.not_le.mp fun q => hin (Or.inr q)
  have hq := hP.2 a _ ha
  match t, hq, hty, hv with
  | 0, ⟨scr, q1, q2, q3, q4, q5⟩, _, hv => exact W.iald (v := v) hx hb q1 q2 q3 (fun q => q.elim (fun z => hin (Or.inl z)) (fun z => absurd (Nat.le_trans q4.1 z) (Nat.not_le.mpr hlt))) ((q5 _ hlt).trans (congrArg some hv)) rfl rfl hd k1
  | t + 1, ⟨_, q1⟩, hty, hv => exact W.iald (v := v) hx hb q1 ((hC.1.2 (t + 1) _ (th_ty_at hty)).1 n _) (fun q => by cases q) (by rw [arrV_size]; exact hin) ((arrV_read _ _ hlt).trans (congrArg some hv)) rfl rfl hd k1
theorem x_aald {t n a : Nat} {C : String} {i : Int32} {v : Value} (hd : decode M.2.1 pc = .ok (.aaload, 1)) (ha : gk h a = some (.inr (t + 1, n))) (hty : th_tys[t + 1]? = some (.object C)) (hin : vp_in i n) (hv : gA h (t + 1) a i.toNatClampNeg = v) (kk : Xw E M d cz cs (pc + 1) L (v :: S) h Post) : Xw E M d cz cs pc L (.int i :: .ref a :: S) h Post := by
  intro p l e R s m args below meth c H locs cells slots ls Q Y
  have k1 := kk p l e R s m args below meth c H locs cells slots ls Q Y
  obtain ⟨⟨hx, hb, hml, hown, hts, hr, hlk, hnm0, hC, hZ⟩, hP, hS, hL, hf, hcs, hQ⟩ := Y
  have hlt : i.toNatClampNeg < n := Nat.not_le.mp fun q => hin (Or.inr q)
  obtain ⟨-, q1⟩ := hP.2 a _ ha
  exact W.aald (v := v) (ty := .object C) hx hb q1 ((hC.1.2 (t + 1) _ (th_ty_at hty)).1 n _) rfl (fun q => by cases q) (by rw [arrV_size]; exact hin) ((arrV_read _ _ hlt).trans (congrArg some hv)) rfl rfl hd k1
theorem x_alen {t n a : Nat} {ty : FieldType} {v : Int32} (hd : decode M.2.1 pc = .ok (.arraylength, 1)) (ha : gk h a = some (.inr (t, n))) (hty : th_tys[t]? = some ty) (hv : Int32.ofNat n = v) (kk : Xw E M d cz cs (pc + 1) L (.int v :: S) h Post) : Xw E M d cz cs pc L (.ref a :: S) h Post := by
  intro p l e R s m args below meth c H locs cells slots ls Q Y
  have k1 := kk p l e R s m args below meth c H locs cells slots ls Q Y
  obtain ⟨⟨hx, hb, hml, hown, hts, hr, hlk, hnm0, hC, hZ⟩, hP, hS, hL, hf, hcs, hQ⟩ := Y
  subst hv
  have hq := hP.2 a _ ha
  match t, hq, hty with
  | 0, ⟨scr, q1, q2, q3, q4, q5⟩, _ => exact W.alen (n := Int32.ofNat n) hx hb q1 q2 q4.2 rfl rfl hd k1
  | t + 1, ⟨_, q1⟩, hty => exact W.alen (n := Int32.ofNat n) hx hb q1 ((hC.1.2 (t + 1) _ (th_ty_at hty)).1 n _) (by rw [arrV_size] <;> rfl) rfl rfl hd k1
theorem x_iast {t n a : Nat} {i x : Int32} (hd : decode M.2.1 pc = .ok (.iastore, 1)) (ha : gk h a = some (.inr (t + 1, n))) (hty : th_tys[t + 1]? = some .int) (hin : vp_in i n) (kk : Xw E M d cz cs (pc + 1) L S (gpA h (t + 1) a i.toNatClampNeg (.int x)) Post) : Xw E M d cz cs pc L (.int x :: .int i :: .ref a :: S) h Post := by
  intro p l e R s m args below meth c H locs cells slots ls Q Y
  obtain ⟨hX, hP, hS, hL, hf, hcs, hQ⟩ := Y
  have hX2 := hX
  obtain ⟨hx, hb, hml, hown, hts, hr, hlk, hnm0, hC, hZ⟩ := hX
  obtain ⟨hB, q1⟩ := hP.2 a _ ha
  refine W.iast hx hb q1 ((hC.1.2 (t + 1) _ (th_ty_at hty)).1 n _) (fun q => by cases q) (by rw [arrV_size]; exact hin) rfl rfl hd fun H1 e1 z oq => ?_
  exact kk p l e R s m args below meth c H1 _ cells slots ls Q ⟨hX2, hP.putA ha z oq e1, hS.put z oq hB, hL, hf, hcs, hQ⟩
theorem x_aast {t n a b ci N : Nat} {C : String} {T : u_T} {i : Int32} (hd : decode M.2.1 pc = .ok (.aastore, 1)) (ha : gk h a = some (.inr (t + 1, n))) (hty : th_tys[t + 1]? = some (.object C)) (hbk : gk h b = some (.inl ci)) (hcl : classes[ci]? = some (C, T, N)) (hin : vp_in i n) (kk : Xw E M d cz cs (pc + 1) L S (gpA h (t + 1) a i.toNatClampNeg (.ref b)) Post) : Xw E M d cz cs pc L (.ref b :: .int i :: .ref a :: S) h Post := by
  intro p l e R s m args below meth c H locs cells slots ls Q Y
  obtain ⟨hX, hP, hS, hL, hf, hcs, hQ⟩ := Y
  have hX2 := hX
  obtain ⟨hx, hb, hml, hown, hts, hr, hlk, hnm0, hC, hZ⟩ := hX
  obtain ⟨hB, q1⟩ := hP.2 a _ ha
  have hlt : i.toNatClampNeg < n := Nat.not_le.mp fun q => hin (Or.inr q)
  have h0 : ¬ i < 0 := fun q => hin (Or.inl q)
  obtain ⟨-, r', hr', cellV, g1, g2, g3, -⟩ := hP.2 b _ hbk
  have hcls := (hC.1.1 ci _ hcl).2
  obtain ⟨kA, comp, k1, k2, k3, -⟩ := (hC.1.2 (t + 1) _ (th_ty_at hty)).2
  have hcomp : comp = E.1 ci := Option.some.inj (k3.symm.trans hcls.1)
  subst hcomp
  have hcls2 := hcls
  obtain ⟨-, kC, hkC, -⟩ := hcls
  refine W.aast hx hb q1 (fun q h => by cases h) (fun h => by cases h) k1 k2 rfl hkC ⟨h0, by rw [arrV_size]; exact hlt⟩ g1 (fun q h => by rw [g3] at h; cases h) (by rw [g2]; exact hkC) (by rw [g2]; exact va_assign hcls2) rfl rfl hd fun H1 e1 z oq => ?_
  exact kk p l e R s m args below meth c H1 _ cells slots ls Q ⟨hX2, hP.putA ha z oq e1, hS.put z oq hB, hL, hf, hcs, hQ⟩
theorem x_gets {idx k : Nat} {C n ds : String} (hd : decode M.2.1 pc = .ok (.getstatic idx, 3)) (hq : th_sts[k]? = some (C, n, ds)) (lk : Jvm.Cond.fieldLink M.1.cls idx C n ds ∈ th_tb) (kk : Xw E M d cz cs (pc + 3) L (E.2.2.2.2 k :: S) h Post) : Xw E M d cz cs pc L S h Post := by
  intro p l e R s m args below meth c H locs cells slots ls Q Y
  have k1 := kk p l e R s m args below meth c H locs cells slots ls Q Y
  obtain ⟨⟨hx, hb, hml, hown, hts, hr, hlk, hnm0, hC, hZ⟩, hP, hS, hL, hf, hcs, hQ⟩ := Y
  exact va_gets hx hb (hZ k _ hq) hS hown (hts _ lk) (fun _ q => q) hd k1
theorem x_getsN {idx k : Nat} {C n ds host : String} (hd : decode M.2.1 pc = .ok (.getstatic idx, 3)) (hq : th_sts[k]? = some (C, n, ds)) (lk : Jvm.Cond.fieldLinkNest M.1.cls idx C n ds host ∈ lw_tbl) (kk : Xw E M d cz cs (pc + 3) L (E.2.2.2.2 k :: S) h Post) : Xw E M d cz cs pc L S h Post := by
  intro p l e R s m args below meth c H locs cells slots ls Q Y
  have k1 := kk p l e R s m args below meth c H locs cells slots ls Q Y
  obtain ⟨⟨hx, hb, hml, hown, hts, hr, hlk, hnm0, hC, hZ⟩, hP, hS, hL, hf, hcs, hQ⟩ := Y
  exact va_getsN hx hb (hZ k _ hq) hS hown (va_Nw.use rfl (hC.2.1 _ _ _ _ _ _ lk)) (fun _ q => q) hd k1
theorem x_objinit {idx a : Nat} (hd : decode M.2.1 pc = .ok (.invokespecial idx, 3)) (l1 : Jvm.Cond.methodLink M.1.cls idx Lib.objectInit ∈ th_tb) (l2 : Jvm.Cond.instanceMethod Lib.objectInit ∈ th_tb) (l3 : Jvm.Cond.code Lib.objectInit ⟨#[0xb1]⟩ 1 none ∈ th_tb) (hd1 : 1 ≤ d) (hs8 : (S.map fun v => v.category).sum ≤ 8) (kk : Xw E M d cz cs (pc + 3) L S h Post) : Xw E M d cz cs pc L (.ref a :: S) h Post := by
  intro p l e R s m args below meth c H locs cells slots ls Q Y
  have k1 := kk p l e R s m args below meth c H locs cells slots ls Q Y
  obtain ⟨⟨hx, hb, hml, hown, hts, hr, hlk, hnm0, hC, hZ⟩, hP, hS, hL, ⟨hf1, hf2⟩, hcs, hQ⟩ := Y
  obtain ⟨-, lv, hl1, -⟩ := hL
  exact W.objInit hx hb hown (hts _ l1) (hts _ l2) (hts _ l3) rfl (by rw [hml]; exact hl1.1) rfl hd (by omega) (by show 2 * 0 + _ + 12 ≤ _; omega) k1
theorem x_ret (hp : Post none h) (hM : M.2.2.2 = none) (hd : decode M.2.1 pc = .ok (.return_, 1)) : Xw E M d cz cs pc L [] h Post := by
  intro p l e R s m args below meth c H locs cells slots ls Q Y
  exact Y.2.2.2.2.2.2 none h pc ls H locs cells slots hp (Or.inl ⟨rfl, hM, hd⟩) Y.2.1 Y.2.2.1 (by have := Y.2.2.2.2.2.1.1; omega) (by have := Y.2.2.2.2.2.1.2; omega)
theorem x_iret {x : Int32} {ty : FieldType} (hd : decode M.2.1 pc = .ok (.ireturn, 1)) (hM : M.2.2.2 = some ty) (hn : narrow ty (.int x) = .int x) (hp : Post (some (.int x)) h) : Xw E M d cz cs pc L [.int x] h Post := by
  intro p l e R s m args below meth c H locs cells slots ls Q Y
  exact Y.2.2.2.2.2.2 (some (.int x)) h pc ls H locs cells slots hp (Or.inr (Or.inl ⟨x, ty, rfl, hM, hn, hd⟩)) Y.2.1 Y.2.2.1 (by have := Y.2.2.2.2.2.1.1; omega) (by have := Y.2.2.2.2.2.1.2; omega)
theorem x_aret {w : Value} {ty : FieldType} (hd : decode M.2.1 pc = .ok (.areturn, 1)) (hM : M.2.2.2 = some ty) (hty : (∃ n, ty = .object n) ∨ ∃ t, ty = .array t) (hw : w = .null ∨ ∃ a, w = .ref a) (hp : Post (some w) h) : Xw E M d cz cs pc L [w] h Post := by
  intro p l e R s m args below meth c H locs cells slots ls Q Y
  exact Y.2.2.2.2.2.2 (some w) h pc ls H locs cells slots hp (Or.inr (Or.inr ⟨w, ty, rfl, hM, hty, hw, hd⟩)) Y.2.1 Y.2.2.1 (by have := Y.2.2.2.2.2.1.1; omega) (by have := Y.2.2.2.2.2.1.2; omega)
/-- a weaker goal behind the end -/
theorem Xw.post {Post' : Option Value → th_H → Prop} {pc : Nat} (w : Xw E M d cz cs pc L S h Post) (hp : ∀ v h', Post v h' → Post' v h') : Xw E M d cz cs pc L S h Post' := by
  intro p l e R s m args below meth c H locs cells slots ls Q Y
  exact w p l e R s m args below meth c H locs cells slots ls Q ⟨Y.1, Y.2.1, Y.2.2.1, Y.2.2.2.1, Y.2.2.2.2.1, Y.2.2.2.2.2.1, fun v h' pc' ls' H' locs' cells' slots' q => Y.2.2.2.2.2.2 v h' pc' ls' H' locs' cells' slots' (hp v h' q)⟩
/-- more room -/
theorem Xw.room {d' cz' cs' pc : Nat} (w : Xw E M d' cz' cs' pc L S h Post) (h1 : d' ≤ d) (h2 : cz' ≤ cz) (h3 : cs' ≤ cs) : Xw E M d cz cs pc L S h Post := by
  intro p l e R s m args below meth c H locs cells slots ls Q Y
  obtain ⟨hX, hP, hS, hL, ⟨hf1, hf2⟩, ⟨hc1, hc2⟩, hQ⟩ := Y
  exact w p l e R s m args below meth c H locs cells slots ls Q ⟨hX, hP, hS, hL, ⟨by omega, by omega⟩, ⟨by omega, by omega⟩, hQ⟩
end THR
theorem th_blind (E : th_E) (h : th_H) (as : List Value) : FrameBlind (va_Pc as (th_S E h)) := by
  intro a U g mk q
  obtain ⟨q0, q1, q2, q3⟩ := q
  exact ⟨q0, th_P.moved (u := U) (U := U.calling g mk a) (Vm.Alike.refl U.vm) q1, th_C.same (s := U) (U := U.calling g mk a) rfl q2, fun k z hk => va_Z.moved (u := U) (U := U.calling g mk a) (Vm.Alike.refl U.vm) (q3 k z hk)⟩
theorem th_pre {E : th_E} {h : th_H} {s : State} {H : Heap} {locs : List Loc} (hP : th_P E s h H) (hC : th_C E s) (hZ : th_Z E s s.heap) (hS : va_S (th_A E) s.heap H locs) (as : List Value) : ∀ U : State, U.heap = H → s.WarmedH U.vm → va_Pc as (th_S E h) as.toArray U :=
  fun U hU hW => ⟨rfl, by rw [hU]; exact hP.moved hW.alike, hC.warm hW, fun k q hk => ((hZ k q hk).moved hW.alike).kept (fun a h1 h2 => by rw [hU]; exact hS.2.1 a h1 h2)⟩
section THC
variable {p : Program} {l : Launch} {e : Env} {R : Room} {s : State} {m : MethodId} {args : Array Value} {below : List Frame} {meth : Method} {c : Code} {H : Heap} {locs : List Loc} {cells slots : Nat} {Q : State → Prop}
theorem th_call {E : th_E} {Post' : Option Value → th_H → Prop} {a : Array Value} {mc ms pc : Nat} {ls : Array Slot} {st0 rest : List Value} (hr : va_Run p l e R s m args below meth c H locs cells slots mc ms (F0 m pc ls st0) rest (th_Qc E Post' a) (th_A E)) (hS : va_S (th_A E) s.heap H locs)
    (kk : ∀ (v : Option Value) (h' : th_H) (H1 : Heap) (locs1 : List Loc), Post' v h' → th_P E s h' H1 → va_S (th_A E) s.heap H1 locs1 → W p l e R s m args below meth c H1 locs1 (cells + mc) (slots + ms) Q (F0 m (pc + 3) ls (v.toList ++ rest))) : W p l e R s m args below meth c H locs cells slots Q (F0 m pc ls st0) := by
  intro T hT X
  obtain ⟨v, st₀, t, T', L, h0, X', hL, e1, e2, ⟨v2, h', hv, hp, hxs, hz, hk⟩, st⟩ := hr T hT X
  cases hv
  rw [h0] at hz hk
  have hal : s.vm.Alike t.vm := by rw [← e2]; exact X'.warmed.alike
  obtain ⟨t2, a1, b1⟩ := kk v h' T'.heap (locs ++ L) hp (by rw [e1]; exact hxs.1.moved hal.symm)
    ⟨Nat.le_trans hS.1 (by rw [e1]; exact hz), fun q h1 h2 => by rw [e1, hk q (Nat.lt_of_lt_of_le h1 hS.1) h2]; exact hS.2.1 q h1 h2, fun q hq => by
      rcases List.mem_append.mp hq with h | h
      · exact hS.2.2 q h
      · exact hL q h⟩ T' rfl X'
  exact ⟨t2, st t2 a1, b1⟩
end THC
/-- a method that the constant pool of own names at idx -/
def th_md (M2 : th_M) (n : Nat) : Prop := (M2.1.cls ≠ "java/lang/invoke/MethodHandle" ∧ M2.1.cls ≠ "java/lang/invoke/VarHandle" ∧ (parseMethodDescriptor M2.1.desc).map (fun d => d.parameters.length) = some n) ∧ M2.2.2.1 ≤ 45 ∧ Jvm.Cond.initialized M2.1.cls ∈ th_tb ∧ Jvm.Cond.code M2.1 M2.2.1 M2.2.2.1 M2.2.2.2 ∈ th_tb
def th_mv (own : String) (idx : Nat) (M2 : th_M) (n : Nat) : Prop := th_md M2 n ∧ Jvm.Cond.methodLink own idx M2.1 ∈ th_tb ∧ Jvm.Cond.instanceMethod M2.1 ∈ th_tb ∧ Jvm.Cond.selects M2.1.cls M2.1 M2.1 ∈ th_tb
def th_ms (own : String) (idx : Nat) (M2 : th_M) (n : Nat) : Prop := th_md M2 n ∧ Jvm.Cond.methodLink own idx M2.1 ∈ th_tb ∧ Jvm.Cond.static M2.1 ∈ th_tb
def th_mi (own : String) (idx : Nat) (M2 : th_M) (n : Nat) : Prop := th_md M2 n ∧ Jvm.Cond.methodLink own idx M2.1 ∈ th_tb ∧ Jvm.Cond.instanceMethod M2.1 ∈ th_tb ∧ M2.1.name = "<init>" ∧ M2.2.2.2 = none
def th_mvN (own : String) (idx : Nat) (M2 : th_M) (n : Nat) : Prop := th_md M2 n ∧ (∃ host, Jvm.Cond.methodLinkNest own idx M2.1 host ∈ lw_tbl) ∧ Jvm.Cond.instanceMethod M2.1 ∈ th_tb ∧ Jvm.Cond.selects M2.1.cls M2.1 M2.1 ∈ th_tb
def th_msN (own : String) (idx : Nat) (M2 : th_M) (n : Nat) : Prop := th_md M2 n ∧ (∃ host, Jvm.Cond.methodLinkNest own idx M2.1 host ∈ lw_tbl) ∧ Jvm.Cond.static M2.1 ∈ th_tb
def th_miN (own : String) (idx : Nat) (M2 : th_M) (n : Nat) : Prop := th_md M2 n ∧ (∃ host, Jvm.Cond.methodLinkNest own idx M2.1 host ∈ lw_tbl) ∧ Jvm.Cond.instanceMethod M2.1 ∈ th_tb ∧ M2.1.name = "<init>" ∧ M2.2.2.2 = none
theorem th_md.good {M2 : th_M} {n : Nat} (h : th_md M2 n) : GoodIn th_tb (th_ws M2) := by
  intro w hw
  rcases List.mem_cons.mp hw with rfl | hw
  · exact ⟨h.2.2.2, th_tb_good h.2.2.2⟩
  · exact ⟨hw, th_tb_good hw⟩
theorem th_md.callB {M2 : th_M} {n d d2 cz cs : Nat} {R : Room} {s : State} {args : Array Value} {own : String} {idx : Nat} (h : th_md M2 n) (hts : ∀ w ∈ th_tb, w.before args s = true) (hl : Jvm.Cond.methodLink own idx M2.1 ∈ th_tb) (hf : d ≤ R.frames ∧ 64 * d ≤ R.locals) (hd2 : d2 + 1 ≤ d) :
    CallB R s args own idx M2.1 M2.2.1 M2.2.2.1 M2.2.2.2 (th_ws M2) { frames := d2, cells := cz, slots := cs, locals := 64 * d2 } cz cs n :=
  callB_of n hts h.good rfl rfl rfl (hts _ h.2.2.1) (hts _ hl) h.1 ⟨by show d2 + 1 ≤ _; omega, by have := h.2.1; show 8 + (M2.2.2.1 + 11) + 64 * d2 ≤ _; omega⟩
theorem th_md.callN {M2 : th_M} {n d d2 cz cs : Nat} {R : Room} {s : State} {args : Array Value} {own host : String} {idx : Nat} (h : th_md M2 n) (hts : ∀ w ∈ th_tb, w.before args s = true) (hl : va_Nw (.methodLinkNest own idx M2.1 host) s) (hf : d ≤ R.frames ∧ 64 * d ≤ R.locals) (hd2 : d2 + 1 ≤ d) :
    va_CN R s args own idx M2.1 host M2.2.1 M2.2.2.1 M2.2.2.2 (th_ws M2) { frames := d2, cells := cz, slots := cs, locals := 64 * d2 } cz cs n :=
  va_cnB n hts h.good rfl rfl rfl hl (hts _ h.2.2.1) h.1 ⟨by show d2 + 1 ≤ _; omega, by have := h.2.1; show 8 + (M2.2.2.1 + 11) + 64 * d2 ≤ _; omega⟩
section THI
variable {E : th_E} {M M2 : th_M} {d d2 cz cs cz' cs' cz2 cs2 pc idx n : Nat} {L : List (Option Value)} {S st as : List Value} {h : th_H} {Post Post' : Option Value → th_H → Prop}
theorem x_invv {b ci N : Nat} {T : u_T} (hd : decode M.2.1 pc = .ok (.invokevirtual idx, 3)) (lk : th_mv M.1.cls idx M2 n) (hc : Xc E M2 d2 cz2 cs2 (.ref b :: as) h Post') (hbk : gk h b = some (.inl ci)) (hcl : classes[ci]? = some (M2.1.cls, T, N)) (hst : st = as.reverse ++ .ref b :: S) (hn : as.length = n) (hs8 : (S.map fun v => v.category).sum ≤ 8) (hd2 : d2 + 1 ≤ d) (hz1 : cz' + cz2 ≤ cz) (hs1 : cs' + cs2 ≤ cs)
    (kk : ∀ (v : Option Value) (h' : th_H), Post' v h' → Xw E M d cz' cs' (pc + 3) L (v.toList ++ S) h' Post) : Xw E M d cz cs pc L st h Post := by
  intro p l e R s m args below meth c H locs cells slots ls Q Y
  obtain ⟨hX, hP, hS, hL, hf, ⟨hc1, hc2⟩, hQ⟩ := Y
  have hX2 := hX
  obtain ⟨hx, hb, hml, hown, hts, hr, hlk, hnm0, hC, hZ⟩ := hX
  obtain ⟨hmd, l1, l2, l3⟩ := lk
  obtain ⟨-, r', hr', cellV, g1, g2, g3, -⟩ := hP.2 b _ hbk
  have hcls := (hC.1.1 ci _ hcl).2.1
  have hl2 := hL
  obtain ⟨-, lv, hl1, -⟩ := hl2
  refine th_call (va_runV (b := b) (As := as) (rest := S) ⟨hx, hb, hml, hown, hts⟩ (hc l) ⟨hmd.callB hts l1 hf hd2, hts _ l2, hts _ l3⟩ ⟨th_blind E h _, ⟨cellV, g1, by rw [g3]; rfl, by rw [g2]; exact hcls⟩, th_pre hP hC hZ hS _⟩ rfl hn hl1.1 hst (by show 2 * 0 + _ ≤ 8; omega) hd ⟨by omega, by omega⟩) hS (fun v h' H1 locs1 hp hP1 hS1 => ?_)
  exact kk v h' hp p l e R s m args below meth c H1 locs1 _ _ ls Q ⟨hX2, hP1, hS1, hL, hf, ⟨by omega, by omega⟩, hQ⟩
theorem x_invvN {b ci N : Nat} {T : u_T} (hd : decode M.2.1 pc = .ok (.invokevirtual idx, 3)) (lk : th_mvN M.1.cls idx M2 n) (hc : Xc E M2 d2 cz2 cs2 (.ref b :: as) h Post') (hbk : gk h b = some (.inl ci)) (hcl : classes[ci]? = some (M2.1.cls, T, N)) (hst : st = as.reverse ++ .ref b :: S) (hn : as.length = n) (hs8 : (S.map fun v => v.category).sum ≤ 8) (hd2 : d2 + 1 ≤ d) (hz1 : cz' + cz2 ≤ cz) (hs1 : cs' + cs2 ≤ cs)
    (kk : ∀ (v : Option Value) (h' : th_H), Post' v h' → Xw E M d cz' cs' (pc + 3) L (v.toList ++ S) h' Post) : Xw E M d cz cs pc L st h Post := by
  intro p l e R s m args below meth c H locs cells slots ls Q Y
  obtain ⟨hX, hP, hS, hL, hf, ⟨hc1, hc2⟩, hQ⟩ := Y
  have hX2 := hX
  obtain ⟨hx, hb, hml, hown, hts, hr, hlk, hnm0, hC, hZ⟩ := hX
  obtain ⟨hmd, ⟨host, l1⟩, l2, l3⟩ := lk
  obtain ⟨-, r', hr', cellV, g1, g2, g3, -⟩ := hP.2 b _ hbk
  have hcls := (hC.1.1 ci _ hcl).2.1
  have hl2 := hL
  obtain ⟨-, lv, hl1, -⟩ := hl2
  refine th_call (va_runVN (b := b) (As := as) (rest := S) ⟨hx, hb, hml, hown, hts⟩ (hc l) ⟨hmd.callN hts (hC.2.2.1 _ _ _ _ l1) hf hd2, hts _ l2, hts _ l3⟩ ⟨th_blind E h _, ⟨cellV, g1, by rw [g3]; rfl, by rw [g2]; exact hcls⟩, th_pre hP hC hZ hS _⟩ rfl hn hl1.1 hst (by show 2 * 0 + _ ≤ 8; omega) hd ⟨by omega, by omega⟩) hS (fun v h' H1 locs1 hp hP1 hS1 => ?_)
  exact kk v h' hp p l e R s m args below meth c H1 locs1 _ _ ls Q ⟨hX2, hP1, hS1, hL, hf, ⟨by omega, by omega⟩, hQ⟩
theorem x_invs (hd : decode M.2.1 pc = .ok (.invokestatic idx, 3)) (lk : th_ms M.1.cls idx M2 n) (hc : Xc E M2 d2 cz2 cs2 as h Post') (hst : st = as.reverse ++ S) (hn : as.length = n) (hs8 : (S.map fun v => v.category).sum ≤ 8) (hd2 : d2 + 1 ≤ d) (hz1 : cz' + cz2 ≤ cz) (hs1 : cs' + cs2 ≤ cs)
    (kk : ∀ (v : Option Value) (h' : th_H), Post' v h' → Xw E M d cz' cs' (pc + 3) L (v.toList ++ S) h' Post) : Xw E M d cz cs pc L st h Post := by
  intro p l e R s m args below meth c H locs cells slots ls Q Y
  obtain ⟨hX, hP, hS, hL, hf, ⟨hc1, hc2⟩, hQ⟩ := Y
  have hX2 := hX
  obtain ⟨hx, hb, hml, hown, hts, hr, hlk, hnm0, hC, hZ⟩ := hX
  obtain ⟨hmd, l1, l2⟩ := lk
  have hl2 := hL
  obtain ⟨-, lv, hl1, -⟩ := hl2
  refine th_call (va_runS (As := as) (rest := S) ⟨hx, hb, hml, hown, hts⟩ (hc l) ⟨hmd.callB hts l1 hf hd2, hts _ l2⟩ ⟨th_blind E h _, th_pre hP hC hZ hS _⟩ rfl hn hl1.1 hst (by show 2 * 0 + _ ≤ 8; omega) hd ⟨by omega, by omega⟩) hS (fun v h' H1 locs1 hp hP1 hS1 => ?_)
  exact kk v h' hp p l e R s m args below meth c H1 locs1 _ _ ls Q ⟨hX2, hP1, hS1, hL, hf, ⟨by omega, by omega⟩, hQ⟩
theorem x_invsN (hd : decode M.2.1 pc = .ok (.invokestatic idx, 3)) (lk : th_msN M.1.cls idx M2 n) (hc : Xc E M2 d2 cz2 cs2 as h Post') (hst : st = as.reverse ++ S) (hn : as.length = n) (hs8 : (S.map fun v => v.category).sum ≤ 8) (hd2 : d2 + 1 ≤ d) (hz1 : cz' + cz2 ≤ cz) (hs1 : cs' + cs2 ≤ cs)
    (kk : ∀ (v : Option Value) (h' : th_H), Post' v h' → Xw E M d cz' cs' (pc + 3) L (v.toList ++ S) h' Post) : Xw E M d cz cs pc L st h Post := by
  intro p l e R s m args below meth c H locs cells slots ls Q Y
  obtain ⟨hX, hP, hS, hL, hf, ⟨hc1, hc2⟩, hQ⟩ := Y
  have hX2 := hX
  obtain ⟨hx, hb, hml, hown, hts, hr, hlk, hnm0, hC, hZ⟩ := hX
  obtain ⟨hmd, ⟨host, l1⟩, l2⟩ := lk
  have hl2 := hL
  obtain ⟨-, lv, hl1, -⟩ := hl2
  refine th_call (va_runSN (As := as) (rest := S) ⟨hx, hb, hml, hown, hts⟩ (hc l) ⟨hmd.callN hts (hC.2.2.1 _ _ _ _ l1) hf hd2, hts _ l2, trivial⟩ ⟨th_blind E h _, th_pre hP hC hZ hS _⟩ rfl hn hl1.1 hst (by show 2 * 0 + _ ≤ 8; omega) hd ⟨by omega, by omega⟩) hS (fun v h' H1 locs1 hp hP1 hS1 => ?_)
  exact kk v h' hp p l e R s m args below meth c H1 locs1 _ _ ls Q ⟨hX2, hP1, hS1, hL, hf, ⟨by omega, by omega⟩, hQ⟩
theorem x_invi {b : Nat} (hd : decode M.2.1 pc = .ok (.invokespecial idx, 3)) (lk : th_mi M.1.cls idx M2 n) (hc : Xc E M2 d2 cz2 cs2 (.ref b :: as) h Post') (hst : st = as.reverse ++ .ref b :: S) (hn : as.length = n) (hs8 : (S.map fun v => v.category).sum ≤ 8) (hd2 : d2 + 1 ≤ d) (hz1 : cz' + cz2 ≤ cz) (hs1 : cs' + cs2 ≤ cs)
    (kk : ∀ (v : Option Value) (h' : th_H), Post' v h' → Xw E M d cz' cs' (pc + 3) L (v.toList ++ S) h' Post) : Xw E M d cz cs pc L st h Post := by
  intro p l e R s m args below meth c H locs cells slots ls Q Y
  obtain ⟨hX, hP, hS, hL, hf, ⟨hc1, hc2⟩, hQ⟩ := Y
  have hX2 := hX
  obtain ⟨hx, hb, hml, hown, hts, hr, hlk, hnm0, hC, hZ⟩ := hX
  obtain ⟨hmd, l1, l2, l3, l4⟩ := lk
  have hl2 := hL
  obtain ⟨-, lv, hl1, -⟩ := hl2
  have hcb := hmd.callB (cz := cz2) (cs := cs2) hts l1 hf hd2
  rw [l4] at hcb
  refine th_call (va_runI (b := b) (As := as) (rest := S) ⟨hx, hb, hml, hown, hts⟩ (hc l) ⟨hcb, l3, hts _ l2⟩ ⟨th_blind E h _, th_pre hP hC hZ hS _⟩ rfl hn hl1.1 hst (by show 2 * 0 + _ ≤ 8; omega) hd ⟨by omega, by omega⟩) hS (fun v h' H1 locs1 hp hP1 hS1 => ?_)
  exact kk v h' hp p l e R s m args below meth c H1 locs1 _ _ ls Q ⟨hX2, hP1, hS1, hL, hf, ⟨by omega, by omega⟩, hQ⟩
theorem x_inviN {b : Nat} (hd : decode M.2.1 pc = .ok (.invokespecial idx, 3)) (lk : th_miN M.1.cls idx M2 n) (hc : Xc E M2 d2 cz2 cs2 (.ref b :: as) h Post') (hst : st = as.reverse ++ .ref b :: S) (hn : as.length = n) (hs8 : (S.map fun v => v.category).sum ≤ 8) (hd2 : d2 + 1 ≤ d) (hz1 : cz' + cz2 ≤ cz) (hs1 : cs' + cs2 ≤ cs)
    (kk : ∀ (v : Option Value) (h' : th_H), Post' v h' → Xw E M d cz' cs' (pc + 3) L (v.toList ++ S) h' Post) : Xw E M d cz cs pc L st h Post := by
  intro p l e R s m args below meth c H locs cells slots ls Q Y
  obtain ⟨hX, hP, hS, hL, hf, ⟨hc1, hc2⟩, hQ⟩ := Y
  have hX2 := hX
  obtain ⟨hx, hb, hml, hown, hts, hr, hlk, hnm0, hC, hZ⟩ := hX
  obtain ⟨hmd, ⟨host, l1⟩, l2, l3, l4⟩ := lk
  have hl2 := hL
  obtain ⟨-, lv, hl1, -⟩ := hl2
  have hcb := hmd.callN (cz := cz2) (cs := cs2) hts (hC.2.2.1 _ _ _ _ l1) hf hd2
  rw [l4] at hcb
  refine th_call (va_runIN (b := b) (As := as) (rest := S) ⟨hx, hb, hml, hown, hts⟩ (hc l) ⟨hcb, l3, hts _ l2⟩ ⟨th_blind E h _, th_pre hP hC hZ hS _⟩ rfl hn hl1.1 hst (by show 2 * 0 + _ ≤ 8; omega) hd ⟨by omega, by omega⟩) hS (fun v h' H1 locs1 hp hP1 hS1 => ?_)
  exact kk v h' hp p l e R s m args below meth c H1 locs1 _ _ ls Q ⟨hX2, hP1, hS1, hL, hf, ⟨by omega, by omega⟩, hQ⟩
end THI
