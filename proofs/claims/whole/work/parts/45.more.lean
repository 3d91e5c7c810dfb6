/-! Rules for arrays of booleans; new cells and an object that is being made. -/
section THZ
variable {E : th_E} {M : th_M} {d cz cs pc : Nat} {L : List (Option Value)} {S : List Value} {h : th_H} {Post : Option Value → th_H → Prop}
theorem x_newz {n : Int32} {N cz' cs' : Nat} (hd : decode M.2.1 pc = .ok (.newarray .boolean, 2)) (hw : Jvm.Cond.arrayClass .boolean ∈ th_tb) (hty : th_tys[4]? = some .boolean) (hn : ¬ n < 0) (hN : n.toNatClampNeg = N) (hb4 : N ≤ 100000) (hz1 : cz' + 1 ≤ cz) (hs1 : cs' + N ≤ cs) (kk : Xw E M d cz' cs' (pc + 2) L (.ref (gz h) :: S) (gnA h 4 N (.int 0)) Post) : Xw E M d cz cs pc L (.int n :: S) h Post := by
  intro p l e R s m args below meth c H locs cells slots ls Q Y
  obtain ⟨hX, hP, hS, hL, hf, ⟨hc1, hc2⟩, hQ⟩ := Y
  have hX2 := hX
  obtain ⟨hx, hb, hml, hown, hts, hr, hlk, hnm0, hC, hZ⟩ := hX
  have hsz := hP.1.1
  refine va_newaK (atype := .boolean) hx hb (hts _ hw) rfl hd rfl hn hN (by show N * 1 ≤ _; omega) (by omega) (by omega) hsz fun H1 cA e1 z1 o1 hAr hNm => ?_
  have hRA : s.vm.findClass ("[" ++ FieldType.boolean.toString) = some (E.2.2.1 4) := (hC.1.2 4 _ (th_ty_at hty)).2
  have hcA : cA = E.2.2.1 4 := Option.some.inj (hNm.symm.trans hRA)
  subst hcA
  exact kk p l e R s m args below meth c H1 locs (cells + 1) (slots + N) ls Q ⟨hX2, hP.newA (t := 3) (by rw [z1, hsz]) (fun b hb => o1 b (by rw [← hsz]; exact hb)) (by rw [hsz]; exact e1), ⟨Nat.le_trans hS.1 (by rw [z1, hsz]; omega), fun x h1 h2 => (o1 x (by rw [← hsz]; exact Nat.lt_of_lt_of_le h1 hS.1)).trans (hS.2.1 x h1 h2), hS.2.2⟩, hL, hf, ⟨by omega, by omega⟩, hQ⟩
theorem x_zald {t n a : Nat} {i : Int32} {v : Value} (hd : decode M.2.1 pc = .ok (.baload, 1)) (ha : gk h a = some (.inr (t + 1, n))) (hty : th_tys[t + 1]? = some .boolean) (hin : vp_in i n) (hv : gA h (t + 1) a i.toNatClampNeg = v) (kk : Xw E M d cz cs (pc + 1) L (v :: S) h Post) : Xw E M d cz cs pc L (.int i :: .ref a :: S) h Post := by
  intro p l e R s m args below meth c H locs cells slots ls Q Y
  have k1 := kk p l e R s m args below meth c H locs cells slots ls Q Y
  obtain ⟨⟨hx, hb, hml, hown, hts, hr, hlk, hnm0, hC, hZ⟩, hP, hS, hL, hf, hcs, hQ⟩ := Y
  have hlt : i.toNatClampNeg < n := Nat.not_le.mp fun q => hin (Or.inr q)
  obtain ⟨-, q1⟩ := hP.2 a _ ha
  exact W.zald (v := v) hx hb q1 ((hC.1.2 (t + 1) _ (th_ty_at hty)).1 n _) (fun q => by cases q) (by rw [arrV_size]; exact hin) ((arrV_read _ _ hlt).trans (congrArg some hv)) rfl rfl hd k1
theorem x_zast {t n a : Nat} {i x : Int32} (hd : decode M.2.1 pc = .ok (.bastore, 1)) (ha : gk h a = some (.inr (t + 1, n))) (hty : th_tys[t + 1]? = some .boolean) (hin : vp_in i n) (hx0 : x = 0 ∨ x = 1) (kk : Xw E M d cz cs (pc + 1) L S (gpA h (t + 1) a i.toNatClampNeg (.int x)) Post) : Xw E M d cz cs pc L (.int x :: .int i :: .ref a :: S) h Post := by
  intro p l e R s m args below meth c H locs cells slots ls Q Y
  obtain ⟨hX, hP, hS, hL, hf, hcs, hQ⟩ := Y
  have hX2 := hX
  obtain ⟨hx, hb, hml, hown, hts, hr, hlk, hnm0, hC, hZ⟩ := hX
  obtain ⟨hB, q1⟩ := hP.2 a _ ha
  refine W.zast hx hb q1 ((hC.1.2 (t + 1) _ (th_ty_at hty)).1 n _) (fun q => by cases q) (by rw [arrV_size]; exact hin) rfl rfl hd fun H1 e1 z oq => ?_
  have e2 : narrow .boolean (.int x) = .int x := by rcases hx0 with rfl | rfl <;> rfl
  rw [e2] at e1
  exact kk p l e R s m args below meth c H1 _ cells slots ls Q ⟨hX2, hP.putA ha z oq e1, hS.put z oq hB, hL, hf, hcs, hQ⟩
end THZ
/-- nothing old has changed but the object a's fields -/
def NewO (a : Nat) (h h' : th_H) : Prop := gz h ≤ gz h' ∧ (∀ b, b < gz h → gk h' b = gk h b) ∧ (∀ c k b, b < gz h → b ≠ a → gF h' c k b = gF h c k b) ∧ ∀ t b i, b < gz h → gA h' t b i = gA h t b i
theorem New.to {h h' : th_H} (a : Nat) (e : New h h') : NewO a h h' := ⟨e.1, e.2.1, fun c k b hb _ => e.2.2.1 c k b hb, e.2.2.2⟩
theorem New.tr {h h1 h2 : th_H} (a : New h h1) (b : New h1 h2) : New h h2 := ⟨Nat.le_trans a.1 b.1, fun x hx => (b.2.1 x (Nat.lt_of_lt_of_le hx a.1)).trans (a.2.1 x hx), fun c k x hx => (b.2.2.1 c k x (Nat.lt_of_lt_of_le hx a.1)).trans (a.2.2.1 c k x hx), fun t x i hx => (b.2.2.2 t x i (Nat.lt_of_lt_of_le hx a.1)).trans (a.2.2.2 t x i hx)⟩
theorem New.made {h h1 h2 : th_H} {a : Nat} (e : New h h1) (f : NewO a h1 h2) (ha : gz h ≤ a) : New h h2 := ⟨Nat.le_trans e.1 f.1, fun x hx => (f.2.1 x (Nat.lt_of_lt_of_le hx e.1)).trans (e.2.1 x hx), fun c k x hx => (f.2.2.1 c k x (Nat.lt_of_lt_of_le hx e.1) (by omega)).trans (e.2.2.1 c k x hx), fun t x i hx => (f.2.2.2 t x i (Nat.lt_of_lt_of_le hx e.1)).trans (e.2.2.2 t x i hx)⟩
theorem NewO.rf (a : Nat) (h : th_H) : NewO a h h := (New.rf h).to a
theorem NewO.new {a : Nat} {h h1 h2 : th_H} (e : NewO a h h1) (f : New h1 h2) : NewO a h h2 := ⟨Nat.le_trans e.1 f.1, fun x hx => (f.2.1 x (Nat.lt_of_lt_of_le hx e.1)).trans (e.2.1 x hx), fun c k x hx hn => (f.2.2.1 c k x (Nat.lt_of_lt_of_le hx e.1)).trans (e.2.2.1 c k x hx hn), fun t x i hx => (f.2.2.2 t x i (Nat.lt_of_lt_of_le hx e.1)).trans (e.2.2.2 t x i hx)⟩
theorem NewO.pF {a : Nat} {h h1 : th_H} {c k : Nat} {v : Value} (e : NewO a h h1) : NewO a h (gpF h1 c k a v) := ⟨e.1, e.2.1, fun c' k' b hb hn => by rw [gF_pF, if_neg (fun z => hn z.2.2)]; exact e.2.2.1 c' k' b hb hn, e.2.2.2⟩
theorem New.nA {h h1 : th_H} {t n : Nat} {d : Value} (e : New h h1) : New h (gnA h1 t n d) := by
  have e1 := e.1
  exact ⟨by rw [gz_nA]; omega, fun x hx => by rw [gk_nA, if_neg (by omega)]; exact e.2.1 x hx, e.2.2.1, fun t' x i hx => by rw [gA_nA, if_neg (fun z => by omega)]; exact e.2.2.2 t' x i hx⟩
theorem NewO.pA {a : Nat} {h h1 : th_H} {t b i : Nat} {v : Value} (e : NewO a h h1) (hb : gz h ≤ b) : NewO a h (gpA h1 t b i v) := ⟨e.1, e.2.1, e.2.2.1, fun t' x j hx => by rw [gA_pA, if_neg (fun z => by omega)]; exact e.2.2.2 t' x j hx⟩
theorem New.k {h h' : th_H} {a : Nat} {k : th_K} (e : New h h') (wf : WFh h) (q : gk h a = some k) : gk h' a = some k := (e.2.1 a (wf a k q)).trans q
theorem New.f {h h' : th_H} {a : Nat} {k : th_K} (e : New h h') (wf : WFh h) (q : gk h a = some k) (c j : Nat) : gF h' c j a = gF h c j a := e.2.2.1 c j a (wf a k q)
theorem New.te {h h' : th_H} (e : New h h') (wf : WFh h) : TE h h' := fun a q => ⟨e.k wf q, fun k => e.f wf q 0 k⟩
theorem cRow.new {o p : Nat} {h h' : th_H} (y : cRow o p h) (wf : WFh h) (e : New h h') : cRow o p h' := ⟨e.k wf y.k, by rw [e.f wf y.k]; exact y.n, by rw [e.f wf y.k]; exact y.pid, TR.mono (e.te wf) _ _ y.tp, by rw [e.f wf y.k]; exact y.rg, e.k wf y.kr, by rw [e.f wf y.k]; exact y.re, e.k wf y.kre, by rw [e.f wf y.k]; exact y.mb, e.k wf y.kmb, by rw [e.f wf y.kmb]; exact y.ma, e.k wf y.kma⟩
/-- one field has been set -/
def Put (c k a : Nat) (v : Value) (h h' : th_H) : Prop := gk h' = gk h ∧ gz h' = gz h ∧ gA h' = gA h ∧ gF h' c k a = v ∧ ∀ c' k' b, ¬ (c' = c ∧ k' = k ∧ b = a) → gF h' c' k' b = gF h c' k' b
theorem Put.of (c k a : Nat) (v : Value) (h : th_H) : Put c k a v h (gpF h c k a v) := ⟨rfl, rfl, rfl, by rw [gF_pF, if_pos ⟨rfl, rfl, rfl⟩], fun c' k' b hn => by rw [gF_pF, if_neg hn]⟩
theorem Put.te {c k a : Nat} {v : Value} {h h' : th_H} (e : Put c k a v h h') (hc : c ≠ 0) : TE h h' := fun b q => ⟨by rw [e.1]; exact q, fun j => e.2.2.2.2 0 j b (fun z => hc z.1.symm)⟩
theorem NewO.put {a : Nat} {h h1 h2 : th_H} {c k : Nat} {v : Value} (e : NewO a h h1) (f : Put c k a v h1 h2) : NewO a h h2 := ⟨by rw [f.2.1]; exact e.1, fun b hb => by rw [f.1]; exact e.2.1 b hb, fun c' k' b hb hn => (f.2.2.2.2 c' k' b (fun z => hn z.2.2)).trans (e.2.2.1 c' k' b hb hn), fun t b i hb => by rw [f.2.2.1]; exact e.2.2.2 t b i hb⟩
section THM
variable {E : th_E} {M : th_M} {d cz cs pc : Nat} {L : List (Option Value)} {S : List Value} {h : th_H} {Post : Option Value → th_H → Prop}
theorem y_new {idx ci N : Nat} {dv : Nat → Value} {cz' cs' : Nat} (hd : decode M.2.1 pc = .ok (.new idx, 3)) (lk : th_ln M.1.cls idx ci N dv) (hz1 : cz' + 1 ≤ cz) (hs1 : cs' + N ≤ cs) (kk : ∀ h', gz h' = gz h + 1 → New h h' → gk h' (gz h) = some (.inl ci) → (∀ k, gF h' ci k (gz h) = dv k) → Xw E M d cz' cs' (pc + 3) L (.ref (gz h) :: S) h' Post) : Xw E M d cz cs pc L S h Post :=
  x_new hd lk hz1 hs1 (kk _ (gz_nO _ _ _) (New.rf h).nO (by rw [gk_nO, if_pos rfl]) (fun k => by rw [gF_nO, if_pos ⟨rfl, rfl⟩]))
theorem y_newi {n : Int32} {N cz' cs' : Nat} (hd : decode M.2.1 pc = .ok (.newarray .int, 2)) (hw : Jvm.Cond.arrayClass .int ∈ th_tb) (hty : th_tys[1]? = some .int) (hn : ¬ n < 0) (hN : n.toNatClampNeg = N) (hb4 : N ≤ 100000) (hz1 : cz' + 1 ≤ cz) (hs1 : cs' + N ≤ cs) (kk : ∀ h', gz h' = gz h + 1 → New h h' → gk h' (gz h) = some (.inr (1, N)) → (∀ i, gA h' 1 (gz h) i = .int 0) → Xw E M d cz' cs' (pc + 2) L (.ref (gz h) :: S) h' Post) : Xw E M d cz cs pc L (.int n :: S) h Post :=
  x_newi hd hw hty hn hN hb4 hz1 hs1 (kk _ (gz_nA _ _ _ _) (New.rf h).nA (by rw [gk_nA, if_pos rfl]) (fun i => by rw [gA_nA, if_pos ⟨rfl, rfl⟩]))
theorem y_newz {n : Int32} {N cz' cs' : Nat} (hd : decode M.2.1 pc = .ok (.newarray .boolean, 2)) (hw : Jvm.Cond.arrayClass .boolean ∈ th_tb) (hty : th_tys[4]? = some .boolean) (hn : ¬ n < 0) (hN : n.toNatClampNeg = N) (hb4 : N ≤ 100000) (hz1 : cz' + 1 ≤ cz) (hs1 : cs' + N ≤ cs) (kk : ∀ h', gz h' = gz h + 1 → New h h' → gk h' (gz h) = some (.inr (4, N)) → (∀ i, gA h' 4 (gz h) i = .int 0) → Xw E M d cz' cs' (pc + 2) L (.ref (gz h) :: S) h' Post) : Xw E M d cz cs pc L (.int n :: S) h Post :=
  x_newz hd hw hty hn hN hb4 hz1 hs1 (kk _ (gz_nA _ _ _ _) (New.rf h).nA (by rw [gk_nA, if_pos rfl]) (fun i => by rw [gA_nA, if_pos ⟨rfl, rfl⟩]))
theorem y_anew {idx t : Nat} {C : String} {n : Int32} {N cz' cs' : Nat} (hd : decode M.2.1 pc = .ok (.anewarray idx, 3)) (hcl : Jvm.Cond.classLink M.1.cls idx C ∈ th_tb) (hao : Jvm.Cond.arrayOver (.object C) ∈ lw_tbl) (hty : th_tys[t + 1]? = some (.object C)) (hn : ¬ n < 0) (hN : n.toNatClampNeg = N) (hb4 : N ≤ 100000) (hz1 : cz' + 1 ≤ cz) (hs1 : cs' + N ≤ cs) (kk : ∀ h', gz h' = gz h + 1 → New h h' → gk h' (gz h) = some (.inr (t + 1, N)) → (∀ i, gA h' (t + 1) (gz h) i = .null) → Xw E M d cz' cs' (pc + 3) L (.ref (gz h) :: S) h' Post) : Xw E M d cz cs pc L (.int n :: S) h Post :=
  x_anew hd hcl hao hty hn hN hb4 hz1 hs1 (kk _ (gz_nA _ _ _ _) (New.rf h).nA (by rw [gk_nA, if_pos rfl]) (fun i => by rw [gA_nA, if_pos ⟨rfl, rfl⟩]))
theorem y_putf {idx ci k tc a : Nat} {v : Value} (hd : decode M.2.1 pc = .ok (.putfield idx, 3)) (lk : th_lp M.1.cls idx ci k tc) (ha : gk h a = some (.inl ci)) (hv : th_fit tc v) (kk : ∀ h', Put ci k a v h h' → Xw E M d cz cs (pc + 3) L S h' Post) : Xw E M d cz cs pc L (v :: .ref a :: S) h Post := x_putf hd lk ha hv (kk _ (Put.of ci k a v h))
theorem y_putfF {idx ci k tc a : Nat} {v : Value} (hd : decode M.2.1 pc = .ok (.putfield idx, 3)) (hi0 : M.1.name = "<init>") (lk : th_lpF M.1.cls idx ci k tc) (ha : gk h a = some (.inl ci)) (hv : th_fit tc v) (kk : ∀ h', Put ci k a v h h' → Xw E M d cz cs (pc + 3) L S h' Post) : Xw E M d cz cs pc L (v :: .ref a :: S) h Post := x_putfF hd hi0 lk ha hv (kk _ (Put.of ci k a v h))
end THM
