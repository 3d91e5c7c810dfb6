/-! The class's constructors (printed by wip/gen/mod_ctor.py). -/
theorem c_L_init {E : th_E} {h : th_H} {a : Nat} (k1 : gk h a = some (.inl 3)) : Xc E m_L_init 1 1 12 [.ref a] h (fun v h' => v = none ∧ gz h' = gz h + 1 ∧ NewO a h h' ∧ gk h' (gz h) = some (.inr (1, 12)) ∧ gF h' 3 0 a = .ref (gz h) ∧ gF h' 3 1 a = .int (nI 0)) := by
  refine Xc.of (by decide) (by simp [Value.category]) (Nat.le_of_ble_eq_true rfl) ?_
  show Xw E m_L_init 1 1 12 0 [some (.ref a)] [] h _
  refine Xw.wf (fun wf => ?_)
  refine x_aload_n d_L_init_0 rfl rfl ?_
  refine x_objinit d_L_init_1 lo_L_3 k_oi1 k_oi2 (Nat.le_refl 1) (Nat.le_of_ble_eq_true rfl) ?_
  refine x_aload_n d_L_init_4 rfl rfl ?_
  refine x_bipush (v := 12) d_L_init_5 (by decide) ?_
  refine y_newi (N := 12) (cz' := 0) (cs' := 0) d_L_init_7 k_39 rfl (by decide) (by decide) (by decide) (by decide) (by decide) (fun h1 z1 e1 g1 f1 => ?_)
  refine y_putfF d_L_init_9 rfl lp_L_9 (e1.k wf k1) (Or.inr ⟨_, rfl⟩) (fun h2 p2 => ?_)
  refine x_aload_n d_L_init_12 rfl rfl ?_
  refine x_iconst (v := (nI 0)) d_L_init_13 (by decide) ?_
  refine y_putf d_L_init_14 lp_L_15 ((congrFun p2.1 a).trans (e1.k wf k1)) ⟨_, rfl⟩ (fun h3 p3 => ?_)
  exact x_ret ⟨rfl, p3.2.1.trans (p2.2.1.trans z1), ((e1.to a).put p2).put p3, (congrFun p3.1 _).trans ((congrFun p2.1 _).trans g1), (p3.2.2.2.2 3 0 a (fun w => absurd w.2.1 (by decide))).trans p2.2.2.2.1, p3.2.2.2.1⟩ rfl d_L_init_17
theorem c_G_init {E : th_E} {h : th_H} {a : Nat} (k1 : gk h a = some (.inl 5)) : Xc E m_G_init 1 1 192 [.ref a] h (fun v h' => v = none ∧ gz h' = gz h + 1 ∧ NewO a h h' ∧ gk h' (gz h) = some (.inr (1, 192)) ∧ gF h' 5 0 a = .ref (gz h) ∧ gF h' 5 1 a = .int (nI 0)) := by
  refine Xc.of (by decide) (by simp [Value.category]) (Nat.le_of_ble_eq_true rfl) ?_
  show Xw E m_G_init 1 1 192 0 [some (.ref a)] [] h _
  refine Xw.wf (fun wf => ?_)
  refine x_aload_n d_G_init_0 rfl rfl ?_
  refine x_objinit d_G_init_1 lo_G_3 k_oi1 k_oi2 (Nat.le_refl 1) (Nat.le_of_ble_eq_true rfl) ?_
  refine x_aload_n d_G_init_4 rfl rfl ?_
  refine x_sipush (v := 192) d_G_init_5 (by decide) ?_
  refine y_newi (N := 192) (cz' := 0) (cs' := 0) d_G_init_8 k_39 rfl (by decide) (by decide) (by decide) (by decide) (by decide) (fun h1 z1 e1 g1 f1 => ?_)
  refine y_putfF d_G_init_10 rfl lp_G_9 (e1.k wf k1) (Or.inr ⟨_, rfl⟩) (fun h2 p2 => ?_)
  refine x_aload_n d_G_init_13 rfl rfl ?_
  refine x_iconst (v := (nI 0)) d_G_init_14 (by decide) ?_
  refine y_putf d_G_init_15 lp_G_15 ((congrFun p2.1 a).trans (e1.k wf k1)) ⟨_, rfl⟩ (fun h3 p3 => ?_)
  exact x_ret ⟨rfl, p3.2.1.trans (p2.2.1.trans z1), ((e1.to a).put p2).put p3, (congrFun p3.1 _).trans ((congrFun p2.1 _).trans g1), (p3.2.2.2.2 5 0 a (fun w => absurd w.2.1 (by decide))).trans p2.2.2.2.1, p3.2.2.2.1⟩ rfl d_G_init_18
theorem c_B_init {E : th_E} {h : th_H} {a : Nat} (k1 : gk h a = some (.inl 1)) : Xc E m_B_init 1 1 12 [.ref a] h (fun v h' => v = none ∧ gz h' = gz h + 1 ∧ NewO a h h' ∧ gk h' (gz h) = some (.inr (2, 12)) ∧ gF h' 1 0 a = .ref (gz h)) := by
  refine Xc.of (by decide) (by simp [Value.category]) (Nat.le_of_ble_eq_true rfl) ?_
  show Xw E m_B_init 1 1 12 0 [some (.ref a)] [] h _
  refine Xw.wf (fun wf => ?_)
  refine x_aload_n d_B_init_0 rfl rfl ?_
  refine x_objinit d_B_init_1 lo_B_3 k_oi1 k_oi2 (Nat.le_refl 1) (Nat.le_of_ble_eq_true rfl) ?_
  refine x_aload_n d_B_init_4 rfl rfl ?_
  refine x_bipush (v := 12) d_B_init_5 (by decide) ?_
  refine y_anew (t := 1) (N := 12) (cz' := 0) (cs' := 0) d_B_init_7 lc_B_9 (tbl1 (List.mem_of_getElem? (i := 82) rfl)) rfl (by decide) (by decide) (by decide) (by decide) (by decide) (fun h1 z1 e1 g1 f1 => ?_)
  refine y_putfF d_B_init_10 rfl lp_B_11 (e1.k wf k1) (Or.inr ⟨_, rfl⟩) (fun h2 p2 => ?_)
  refine x_aload_n d_B_init_13 rfl rfl ?_
  refine x_iconst (v := (nI 0)) d_B_init_14 (by decide) ?_
  refine y_putf d_B_init_15 lp_B_17 ((congrFun p2.1 a).trans (e1.k wf k1)) ⟨_, rfl⟩ (fun h3 p3 => ?_)
  refine x_aload_n d_B_init_18 rfl rfl ?_
  refine x_iconst (v := (nI 0)) d_B_init_19 (by decide) ?_
  refine y_putf d_B_init_20 lp_B_21 ((congrFun p3.1 a).trans ((congrFun p2.1 a).trans (e1.k wf k1))) ⟨_, rfl⟩ (fun h4 p4 => ?_)
  exact x_ret ⟨rfl, p4.2.1.trans (p3.2.1.trans (p2.2.1.trans z1)), (((e1.to a).put p2).put p3).put p4, (congrFun p4.1 _).trans ((congrFun p3.1 _).trans ((congrFun p2.1 _).trans g1)), (p4.2.2.2.2 1 0 a (fun w => absurd w.2.1 (by decide))).trans ((p3.2.2.2.2 1 0 a (fun w => absurd w.2.1 (by decide))).trans p2.2.2.2.1)⟩ rfl d_B_init_23
theorem Xc.post {E : th_E} {M : th_M} {d cz cs : Nat} {as : List Value} {h : th_H} {Post Post' : Option Value → th_H → Prop} (hc : Xc E M d cz cs as h Post) (hp : ∀ v h', Post v h' → Post' v h') : Xc E M d cz cs as h Post' := by
  intro l
  have hh := hc l
  intro p e ha hc hk s m args below hf happ hP hK
  obtain ⟨n, o, h1, h2, h3, ⟨⟨v, h', e0, q0, q1⟩, hL⟩⟩ := hh p e ha hc hk s m args below hf happ hP hK
  exact ⟨n, o, h1, h2, h3, ⟨⟨v, h', e0, hp v h' q0, q1⟩, hL⟩⟩
theorem c_T_init_new {E : th_E} {h : th_H} {a : Nat} (s n : Int32) (k1 : gk h a = some (.inl 0)) : Xc E m_T_init 1 0 0 [.ref a, .int s, .int n] h (fun v h' => v = none ∧ gz h' = gz h ∧ NewO a h h' ∧ TR h' (.leaf (s, n)) a) := by
  have key : ∀ v h', Ex none (gT h a s n .null .null (nI 1)) v h' → (v = none ∧ gz h' = gz h ∧ NewO a h h' ∧ TR h' (.leaf (s, n)) a) := by
    rintro v h' ⟨rfl, rfl⟩
    refine ⟨rfl, rfl, ⟨Nat.le_refl _, fun _ _ => rfl, fun c k b hb hn => gF_gTn hn, fun _ _ _ _ => rfl⟩, k1, ?_, ?_, ?_, ?_, ?_⟩ <;> rw [gF_gT] <;> simp only [if_true] <;> rfl
  exact Xc.post (c_T_init (E := E) s n k1) key

theorem c_P_init {E : th_E} {h : th_H} {a Z : Nat} (n : Int32) (k1 : gk h a = some (.inl 2)) (hZ : gz h = Z) : Xc E m_P_init 2 5 34 [.ref a, .int n] h (fun v h' => v = none ∧ gz h' = Z + 1 + 1 + 1 + 1 + 1 ∧ NewO a h h' ∧ gF h' 2 0 a = .int n ∧ gF h' 2 1 a = .ref Z ∧ TR h' (.leaf (2, n)) Z ∧ gF h' 2 2 a = .ref (Z + 1) ∧ gk h' (Z + 1) = some (.inr (1 + 1, 8)) ∧ gF h' 2 3 a = .ref (Z + 1 + 1) ∧ gk h' (Z + 1 + 1) = some (.inr (1, 6)) ∧ gF h' 2 4 a = .ref (Z + 1 + 1 + 1) ∧ gk h' (Z + 1 + 1 + 1) = some (.inl 1) ∧ gF h' 1 0 (Z + 1 + 1 + 1) = .ref (Z + 1 + 1 + 1 + 1) ∧ gk h' (Z + 1 + 1 + 1 + 1) = some (.inr (2, 12))) := by
  refine Xc.of (by decide) (by simp [Value.category]) (Nat.le_of_ble_eq_true rfl) ?_
  show Xw E m_P_init 2 5 34 0 [some (.ref a), some (.int n)] [] h _
  refine Xw.wf (fun wf => ?_)
  have hlt := wf a _ k1
  have no := NewO.rf a h
  have hz : gz h = Z := hZ
  refine x_aload_n d_P_init_0 rfl rfl ?_
  refine x_objinit d_P_init_1 lo_P_3 k_oi1 k_oi2 (by decide) (Nat.le_of_ble_eq_true rfl) ?_
  refine x_aload_n d_P_init_4 rfl rfl ?_
  refine x_iload_n d_P_init_5 rfl rfl ?_
  refine y_putfF d_P_init_6 rfl lp_P_9 k1 ⟨_, rfl⟩ (fun h1 p1 => ?_)
  have no := no.put p1
  have k1 := (congrFun p1.1 _).trans k1
  have hz := p1.2.1.trans hz
  have f0 := p1.2.2.2.1
  refine Xw.wf (fun wf => ?_)
  refine x_aload_n d_P_init_9 rfl rfl ?_
  refine y_new (cz' := 4) (cs' := 29) d_P_init_10 ln_P_15 (by decide) (by decide) (fun h2 z2 e2 g2 q2 => ?_)
  have f0 := (e2.f wf k1 2 0).trans f0
  have no := no.new e2
  have k1 := e2.k wf k1
  rw [hz] at z2 g2 q2 ⊢
  have hz := z2
  have kt := g2
  refine Xw.wf (fun wf => ?_)
  refine x_dup d_P_init_13 rfl ?_
  refine x_iconst (v := 2) d_P_init_14 (by decide) ?_
  refine x_iload_n d_P_init_15 rfl rfl ?_
  refine x_invi d_P_init_16 lm_P_17 (as := [.int 2, .int n]) (S := [.ref Z, .ref a]) (cz' := 4) (cs' := 29) (c_T_init_new (a := Z) 2 n kt) rfl rfl (Nat.le_of_ble_eq_true rfl) (by decide) (by decide) (by decide) ?_
  rintro _ hB ⟨rfl, zB, nB, tp⟩
  have f0 := (nB.2.2.1 2 0 _ (wf _ _ k1) (by omega)).trans f0
  have no : NewO a h _ := ⟨Nat.le_trans no.1 nB.1, fun b hb => (nB.2.1 b (Nat.lt_of_lt_of_le hb no.1)).trans (no.2.1 b hb), fun c k b hb hn => (nB.2.2.1 c k b (Nat.lt_of_lt_of_le hb no.1) (by omega)).trans (no.2.2.1 c k b hb hn), fun t b i hb => (nB.2.2.2 t b i (Nat.lt_of_lt_of_le hb no.1)).trans (no.2.2.2 t b i hb)⟩
  have k1 := (nB.2.1 _ (wf _ _ k1)).trans k1
  have kt := (nB.2.1 _ (wf _ _ kt)).trans kt
  have hz := zB.trans hz
  refine Xw.wf (fun wf => ?_)
  refine y_putfF d_P_init_19 rfl lp_P_20 k1 (Or.inr ⟨_, rfl⟩) (fun h3 p3 => ?_)
  have f0 := (p3.2.2.2.2 2 0 _ (fun w => absurd w.2.1 (by decide))).trans f0
  have tp := TR.mono (p3.te (by decide)) _ _ tp
  have no := no.put p3
  have k1 := (congrFun p3.1 _).trans k1
  have kt := (congrFun p3.1 _).trans kt
  have hz := p3.2.1.trans hz
  have f1 := p3.2.2.2.1
  refine Xw.wf (fun wf => ?_)
  refine x_aload_n d_P_init_22 rfl rfl ?_
  refine x_bipush (v := 8) d_P_init_23 (by decide) ?_
  refine y_anew (t := 1) (N := 8) (cz' := 3) (cs' := 21) d_P_init_25 lc_P_15 (tbl1 (List.mem_of_getElem? (i := 82) rfl)) rfl (by decide) (by decide) (by decide) (by decide) (by decide) (fun h4 z4 e4 g4 q4 => ?_)
  have f0 := (e4.f wf k1 2 0).trans f0
  have f1 := (e4.f wf k1 2 1).trans f1
  have tp := TR.mono (e4.te wf) _ _ tp
  have no := no.new e4
  have k1 := e4.k wf k1
  have kt := e4.k wf kt
  rw [hz] at z4 g4 q4 ⊢
  have hz := z4
  have kr := g4
  refine Xw.wf (fun wf => ?_)
  refine y_putfF d_P_init_28 rfl lp_P_24 k1 (Or.inr ⟨_, rfl⟩) (fun h5 p5 => ?_)
  have f0 := (p5.2.2.2.2 2 0 _ (fun w => absurd w.2.1 (by decide))).trans f0
  have f1 := (p5.2.2.2.2 2 1 _ (fun w => absurd w.2.1 (by decide))).trans f1
  have tp := TR.mono (p5.te (by decide)) _ _ tp
  have no := no.put p5
  have k1 := (congrFun p5.1 _).trans k1
  have kt := (congrFun p5.1 _).trans kt
  have kr := (congrFun p5.1 _).trans kr
  have hz := p5.2.1.trans hz
  have f2 := p5.2.2.2.1
  refine Xw.wf (fun wf => ?_)
  refine x_aload_n d_P_init_31 rfl rfl ?_
  refine x_bipush (v := 6) d_P_init_32 (by decide) ?_
  refine y_newi (N := 6) (cz' := 2) (cs' := 15) d_P_init_34 k_39 rfl (by decide) (by decide) (by decide) (by decide) (by decide) (fun h6 z6 e6 g6 q6 => ?_)
  have f0 := (e6.f wf k1 2 0).trans f0
  have f1 := (e6.f wf k1 2 1).trans f1
  have f2 := (e6.f wf k1 2 2).trans f2
  have tp := TR.mono (e6.te wf) _ _ tp
  have no := no.new e6
  have k1 := e6.k wf k1
  have kt := e6.k wf kt
  have kr := e6.k wf kr
  rw [hz] at z6 g6 q6 ⊢
  have hz := z6
  have kre := g6
  refine Xw.wf (fun wf => ?_)
  refine y_putfF d_P_init_36 rfl lp_P_28 k1 (Or.inr ⟨_, rfl⟩) (fun h7 p7 => ?_)
  have f0 := (p7.2.2.2.2 2 0 _ (fun w => absurd w.2.1 (by decide))).trans f0
  have f1 := (p7.2.2.2.2 2 1 _ (fun w => absurd w.2.1 (by decide))).trans f1
  have f2 := (p7.2.2.2.2 2 2 _ (fun w => absurd w.2.1 (by decide))).trans f2
  have tp := TR.mono (p7.te (by decide)) _ _ tp
  have no := no.put p7
  have k1 := (congrFun p7.1 _).trans k1
  have kt := (congrFun p7.1 _).trans kt
  have kr := (congrFun p7.1 _).trans kr
  have kre := (congrFun p7.1 _).trans kre
  have hz := p7.2.1.trans hz
  have f3 := p7.2.2.2.1
  refine Xw.wf (fun wf => ?_)
  refine x_aload_n d_P_init_39 rfl rfl ?_
  refine y_new (cz' := 1) (cs' := 12) d_P_init_40 ln_P_32 (by decide) (by decide) (fun h8 z8 e8 g8 q8 => ?_)
  have f0 := (e8.f wf k1 2 0).trans f0
  have f1 := (e8.f wf k1 2 1).trans f1
  have f2 := (e8.f wf k1 2 2).trans f2
  have f3 := (e8.f wf k1 2 3).trans f3
  have tp := TR.mono (e8.te wf) _ _ tp
  have no := no.new e8
  have k1 := e8.k wf k1
  have kt := e8.k wf kt
  have kr := e8.k wf kr
  have kre := e8.k wf kre
  rw [hz] at z8 g8 q8 ⊢
  have hz := z8
  have kmb := g8
  refine Xw.wf (fun wf => ?_)
  refine x_dup d_P_init_43 rfl ?_
  refine x_invi d_P_init_44 lm_P_34 (as := []) (S := [.ref (Z + 1 + 1 + 1), .ref a]) (cz' := 0) (cs' := 0) (c_B_init (a := Z + 1 + 1 + 1) kmb) rfl rfl (Nat.le_of_ble_eq_true rfl) (by decide) (by decide) (by decide) ?_
  rintro _ hD ⟨rfl, zD, nD, kma, fma⟩
  rw [hz] at zD kma fma
  have f0 := (nD.2.2.1 2 0 _ (wf _ _ k1) (by omega)).trans f0
  have f1 := (nD.2.2.1 2 1 _ (wf _ _ k1) (by omega)).trans f1
  have f2 := (nD.2.2.1 2 2 _ (wf _ _ k1) (by omega)).trans f2
  have f3 := (nD.2.2.1 2 3 _ (wf _ _ k1) (by omega)).trans f3
  have tp := TR.mono (fun b qb => ⟨(nD.2.1 b (wf b _ qb)).trans qb, fun k => nD.2.2.1 0 k b (wf b _ qb) (fun w => by have := wf _ _ qb; have := nD.1; subst w; rw [kmb] at qb; cases qb)⟩) _ _ tp
  have no : NewO a h _ := ⟨Nat.le_trans no.1 nD.1, fun b hb => (nD.2.1 b (Nat.lt_of_lt_of_le hb no.1)).trans (no.2.1 b hb), fun c k b hb hn => (nD.2.2.1 c k b (Nat.lt_of_lt_of_le hb no.1) (by omega)).trans (no.2.2.1 c k b hb hn), fun t b i hb => (nD.2.2.2 t b i (Nat.lt_of_lt_of_le hb no.1)).trans (no.2.2.2 t b i hb)⟩
  have k1 := (nD.2.1 _ (wf _ _ k1)).trans k1
  have kt := (nD.2.1 _ (wf _ _ kt)).trans kt
  have kr := (nD.2.1 _ (wf _ _ kr)).trans kr
  have kre := (nD.2.1 _ (wf _ _ kre)).trans kre
  have kmb := (nD.2.1 _ (wf _ _ kmb)).trans kmb
  have hz := zD
  refine Xw.wf (fun wf => ?_)
  refine y_putfF d_P_init_47 rfl lp_P_35 k1 (Or.inr ⟨_, rfl⟩) (fun h9 p9 => ?_)
  have f0 := (p9.2.2.2.2 2 0 _ (fun w => absurd w.2.1 (by decide))).trans f0
  have f1 := (p9.2.2.2.2 2 1 _ (fun w => absurd w.2.1 (by decide))).trans f1
  have f2 := (p9.2.2.2.2 2 2 _ (fun w => absurd w.2.1 (by decide))).trans f2
  have f3 := (p9.2.2.2.2 2 3 _ (fun w => absurd w.2.1 (by decide))).trans f3
  have fma := (p9.2.2.2.2 1 0 _ (fun w => absurd w.1 (by decide))).trans fma
  have tp := TR.mono (p9.te (by decide)) _ _ tp
  have no := no.put p9
  have k1 := (congrFun p9.1 _).trans k1
  have kt := (congrFun p9.1 _).trans kt
  have kr := (congrFun p9.1 _).trans kr
  have kre := (congrFun p9.1 _).trans kre
  have kmb := (congrFun p9.1 _).trans kmb
  have kma := (congrFun p9.1 _).trans kma
  have hz := p9.2.1.trans hz
  have f4 := p9.2.2.2.1
  refine Xw.wf (fun wf => ?_)
  exact x_ret ⟨rfl, hz, no, f0, f1, tp, f2, kr, f3, kre, f4, kmb, fma, kma⟩ rfl d_P_init_50
