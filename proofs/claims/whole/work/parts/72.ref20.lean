/-! The reference's constructor (printed by wip/gen/mod_ref20.py). -/
theorem ov_self {r : Nat} {h : th_H} {A : Nat → Nat → Int32} (e0 : ∀ k, nsc k = true → gF h 8 k r = .int (A 0 k)) (e1 : ∀ j i, 0 < j → j < 18 → gA h (nty j) (r + j) i = .int (A j i)) : ov r h A = h := by
  unfold ov
  refine Prod.ext rfl (Prod.ext ?_ (Prod.ext ?_ rfl))
  · funext c k a
    show (if c = 8 ∧ a = r ∧ nsc k = true then Value.int (A 0 k) else gF h c k a) = gF h c k a
    by_cases z : c = 8 ∧ a = r ∧ nsc k = true
    · rw [if_pos z, z.1, z.2.1, e0 k z.2.2]
    · rw [if_neg z]
  · funext t a i
    show (if r < a ∧ a < r + 18 ∧ t = nty (a - r) then Value.int (A (a - r) i) else gA h t a i) = gA h t a i
    by_cases z : r < a ∧ a < r + 18 ∧ t = nty (a - r)
    · have := e1 (a - r) i (by omega) (by omega)
      rw [show r + (a - r) = a by omega] at this
      rw [if_pos z, z.2.2, this]
    · rw [if_neg z]
def NI (r j : Nat) (h0 h : th_H) : Prop := gk h r = some (.inl 8) ∧ gz h = r + 1 + j ∧ (∀ k, k < 22 → nsc k = false → nad k ≤ j → gF h 8 k r = .ref (r + nad k)) ∧ (∀ i, 0 < i → i ≤ j → gk h (r + i) = some (.inr (nty i, nsz i)) ∧ ∀ x, gA h (nty i) (r + i) x = .int 0) ∧ (∀ k, nsc k = true → gF h 8 k r = gF h0 8 k r) ∧ NewO r h0 h
theorem nad_inj : ∀ k k' : Fin 22, nsc k.1 = false → nsc k'.1 = false → nad k.1 = nad k'.1 → k = k' := by decide +kernel
theorem nad_pos : ∀ k : Fin 22, nsc k.1 = false → 0 < nad k.1 ∧ nad k.1 < 18 := by decide +kernel
theorem NI.step {r j k : Nat} {h0 h h1 h2 : th_H} (y : NI r j h0 h) (z1 : gz h1 = gz h + 1) (e1 : New h h1) (g1 : gk h1 (gz h) = some (.inr (nty (j + 1), nsz (j + 1)))) (f1 : ∀ i, gA h1 (nty (j + 1)) (gz h) i = .int 0) (p2 : Put 8 k r (.ref (gz h)) h1 h2) (hk22 : k < 22) (hk : nsc k = false) (hn : nad k = j + 1) : NI r (j + 1) h0 h2 := by
  have hz := y.2.1
  refine ⟨?_, ?_, fun k' h22 hs hl => ?_, fun i h0' hi => ?_, fun k' hs => ?_, (y.2.2.2.2.2.new e1).put p2⟩
  · rw [p2.1, e1.2.1 r (by omega)]; exact y.1
  · rw [p2.2.1, z1, hz]; omega
  · by_cases hkk : k' = k
    · subst hkk
      rw [p2.2.2.2.1, hz, hn]
      exact congrArg Value.ref (show (r + 1 + j : Nat) = r + (j + 1) by omega)
    · rw [p2.2.2.2.2 8 k' r (fun z => hkk z.2.1), e1.2.2.1 8 k' r (by omega)]
      refine y.2.2.1 k' h22 hs ?_
      have : nad k' ≠ j + 1 := fun z => hkk (congrArg Fin.val (nad_inj ⟨k', h22⟩ ⟨k, hk22⟩ hs hk (z.trans hn.symm)))
      omega
  · by_cases hij : i = j + 1
    · subst hij
      rw [hz, show r + 1 + j = r + (j + 1) by omega] at g1 f1
      exact ⟨by rw [p2.1]; exact g1, fun x => by rw [p2.2.2.1]; exact f1 x⟩
    · have := y.2.2.2.1 i h0' (by omega)
      exact ⟨by rw [p2.1, e1.2.1 _ (by omega)]; exact this.1, fun x => by rw [p2.2.2.1, e1.2.2.2 _ _ _ (by omega)]; exact this.2 x⟩
  · rw [p2.2.2.2.2 8 k' r (fun z => by rw [z.2.1, hk] at hs; cases hs), e1.2.2.1 8 k' r (by omega)]
    exact y.2.2.2.2.1 k' hs
def nA0 (x : Int32) : Nat → Nat → Int32 := fun j i => if j = 0 ∧ i = 0 then x else 0
theorem N_init_159 {E : th_E} {h0 h : th_H} {r cz cs : Nat} (q x : Int32) (y : NI r 17 h0 h) (f0 : ∀ k, nsc k = true → gF h0 8 k r = .int 0) (hx : hoM q = (x, (hoM 0).2)) : Xw E m_N_init 1 cz cs 159 [some (.ref r), some (.int q)] [.int x, .ref r] h (fun v h' => v = none ∧ gz h' = r + 18 ∧ NewO r h0 h' ∧ ∃ A, ov r h' A = h' ∧ NL r h' ∧ NR A (hoM q) 0) := by
  refine y_putfF d_N_init_159 rfl lp_N_62 y.1 ⟨_, rfl⟩ (fun h2 p2 => ?_)
  refine x_ret ⟨rfl, p2.2.1.trans y.2.1, y.2.2.2.2.2.put p2, nA0 x, ?_, ⟨?_, fun k hk hs => ?_, fun j h1 h2 => ?_⟩, ?_⟩ rfl d_N_init_162
  · refine ov_self (fun k hs => ?_) (fun j i h1 h2 => ?_)
    · by_cases hk : k = 0
      · subst hk; exact p2.2.2.2.1
      · rw [p2.2.2.2.2 8 k r (fun z => hk z.2.1), y.2.2.2.2.1 k hs, f0 k hs]
        show Value.int 0 = .int (if 0 = 0 ∧ k = 0 then x else 0)
        rw [if_neg (fun z => hk z.2)]
    · rw [p2.2.2.1, (y.2.2.2.1 j h1 (by omega)).2 i]
      show Value.int 0 = .int (if j = 0 ∧ i = 0 then x else 0)
      rw [if_neg (fun z => by omega)]
  · rw [p2.1]; exact y.1
  · rw [p2.2.2.2.2 8 k r (fun z => by rw [z.2.1] at hs; cases hs)]
    exact y.2.2.1 k hk hs (Nat.le_of_lt_succ (nad_pos ⟨k, hk⟩ hs).2)
  · rw [p2.1]; exact (y.2.2.2.1 j h1 (by omega)).1
  · rw [hx]
    exact ⟨⟨rfl, rfl, rfl, rfl⟩, fun i q hq => (by cases hq), ⟨rfl, fun i x hx => (by cases hx)⟩, fun p hp => absurd hp (Nat.not_lt_zero _)⟩
theorem c_N_init {E : th_E} {h : th_H} {r : Nat} (q : Int32) (k1 : gk h r = some (.inl 8)) (hz : gz h = r + 1) (f0 : ∀ k, nsc k = true → gF h 8 k r = .int 0) : Xc E m_N_init 1 17 8526 [.ref r, .int q] h (fun v h' => v = none ∧ gz h' = r + 18 ∧ NewO r h h' ∧ ∃ A, ov r h' A = h' ∧ NL r h' ∧ NR A (hoM q) 0) := by
  refine Xc.of (by decide) (by simp [Value.category]) (Nat.le_of_ble_eq_true rfl) ?_
  show Xw E m_N_init 1 17 8526 0 [some (.ref r), some (.int q)] [] h _
  have i0 : NI r 0 h h := ⟨k1, hz, fun k hk hs hl => absurd hl (by have := (nad_pos ⟨k, hk⟩ hs).1; exact Nat.not_le.mpr this), fun i h1 h2 => absurd h1 (by omega), fun k hk => rfl, NewO.rf r h⟩
  refine x_aload_n d_N_init_0 rfl rfl ?_
  refine x_objinit d_N_init_1 lo_N_1 k_oi1 k_oi2 (Nat.le_refl 1) (Nat.le_of_ble_eq_true rfl) ?_
  refine x_aload_n d_N_init_4 rfl rfl ?_
  refine x_bipush (v := 48) d_N_init_5 (by decide) ?_
  refine y_newi (N := 48) (cz' := 16) (cs' := 8478) d_N_init_7 k_39 rfl (by decide) (by decide) (by decide) (by decide) (by decide) (fun h0a z1 e1 g1 f1 => ?_)
  refine y_putfF d_N_init_9 rfl lp_N_7 ((e1.2.1 r (by rw [i0.2.1]; omega)).trans i0.1) (Or.inr ⟨_, rfl⟩) (fun h1 p2 => ?_)
  have i1 := i0.step (k := 2) z1 e1 g1 f1 p2 (by decide) rfl rfl
  clear z1 e1 g1 f1 p2 i0
  refine x_aload_n d_N_init_12 rfl rfl ?_
  refine x_bipush (v := 48) d_N_init_13 (by decide) ?_
  refine y_newi (N := 48) (cz' := 15) (cs' := 8430) d_N_init_15 k_39 rfl (by decide) (by decide) (by decide) (by decide) (by decide) (fun h1a z1 e1 g1 f1 => ?_)
  refine y_putfF d_N_init_17 rfl lp_N_13 ((e1.2.1 r (by rw [i1.2.1]; omega)).trans i1.1) (Or.inr ⟨_, rfl⟩) (fun h2 p2 => ?_)
  have i2 := i1.step (k := 3) z1 e1 g1 f1 p2 (by decide) rfl rfl
  clear z1 e1 g1 f1 p2 i1
  refine x_aload_n d_N_init_20 rfl rfl ?_
  refine x_bipush (v := 48) d_N_init_21 (by decide) ?_
  refine y_newi (N := 48) (cz' := 14) (cs' := 8382) d_N_init_23 k_39 rfl (by decide) (by decide) (by decide) (by decide) (by decide) (fun h2a z1 e1 g1 f1 => ?_)
  refine y_putfF d_N_init_25 rfl lp_N_16 ((e1.2.1 r (by rw [i2.2.1]; omega)).trans i2.1) (Or.inr ⟨_, rfl⟩) (fun h3 p2 => ?_)
  have i3 := i2.step (k := 4) z1 e1 g1 f1 p2 (by decide) rfl rfl
  clear z1 e1 g1 f1 p2 i2
  refine x_aload_n d_N_init_28 rfl rfl ?_
  refine x_bipush (v := 48) d_N_init_29 (by decide) ?_
  refine y_newi (N := 48) (cz' := 13) (cs' := 8334) d_N_init_31 k_39 rfl (by decide) (by decide) (by decide) (by decide) (by decide) (fun h3a z1 e1 g1 f1 => ?_)
  refine y_putfF d_N_init_33 rfl lp_N_19 ((e1.2.1 r (by rw [i3.2.1]; omega)).trans i3.1) (Or.inr ⟨_, rfl⟩) (fun h4 p2 => ?_)
  have i4 := i3.step (k := 5) z1 e1 g1 f1 p2 (by decide) rfl rfl
  clear z1 e1 g1 f1 p2 i3
  refine x_aload_n d_N_init_36 rfl rfl ?_
  refine x_sipush (v := 8128) d_N_init_37 (by decide) ?_
  refine y_newi (N := 8128) (cz' := 12) (cs' := 206) d_N_init_40 k_39 rfl (by decide) (by decide) (by decide) (by decide) (by decide) (fun h4a z1 e1 g1 f1 => ?_)
  refine y_putfF d_N_init_42 rfl lp_N_22 ((e1.2.1 r (by rw [i4.2.1]; omega)).trans i4.1) (Or.inr ⟨_, rfl⟩) (fun h5 p2 => ?_)
  have i5 := i4.step (k := 6) z1 e1 g1 f1 p2 (by decide) rfl rfl
  clear z1 e1 g1 f1 p2 i4
  refine x_aload_n d_N_init_45 rfl rfl ?_
  refine x_bipush (v := 12) d_N_init_46 (by decide) ?_
  refine y_newi (N := 12) (cz' := 11) (cs' := 194) d_N_init_48 k_39 rfl (by decide) (by decide) (by decide) (by decide) (by decide) (fun h5a z1 e1 g1 f1 => ?_)
  refine y_putfF d_N_init_50 rfl lp_N_25 ((e1.2.1 r (by rw [i5.2.1]; omega)).trans i5.1) (Or.inr ⟨_, rfl⟩) (fun h6 p2 => ?_)
  have i6 := i5.step (k := 8) z1 e1 g1 f1 p2 (by decide) rfl rfl
  clear z1 e1 g1 f1 p2 i5
  refine x_aload_n d_N_init_53 rfl rfl ?_
  refine x_bipush (v := 12) d_N_init_54 (by decide) ?_
  refine y_newi (N := 12) (cz' := 10) (cs' := 182) d_N_init_56 k_39 rfl (by decide) (by decide) (by decide) (by decide) (by decide) (fun h6a z1 e1 g1 f1 => ?_)
  refine y_putfF d_N_init_58 rfl lp_N_28 ((e1.2.1 r (by rw [i6.2.1]; omega)).trans i6.1) (Or.inr ⟨_, rfl⟩) (fun h7 p2 => ?_)
  have i7 := i6.step (k := 9) z1 e1 g1 f1 p2 (by decide) rfl rfl
  clear z1 e1 g1 f1 p2 i6
  refine x_aload_n d_N_init_61 rfl rfl ?_
  refine x_bipush (v := 12) d_N_init_62 (by decide) ?_
  refine y_newi (N := 12) (cz' := 9) (cs' := 170) d_N_init_64 k_39 rfl (by decide) (by decide) (by decide) (by decide) (by decide) (fun h7a z1 e1 g1 f1 => ?_)
  refine y_putfF d_N_init_66 rfl lp_N_31 ((e1.2.1 r (by rw [i7.2.1]; omega)).trans i7.1) (Or.inr ⟨_, rfl⟩) (fun h8 p2 => ?_)
  have i8 := i7.step (k := 10) z1 e1 g1 f1 p2 (by decide) rfl rfl
  clear z1 e1 g1 f1 p2 i7
  refine x_aload_n d_N_init_69 rfl rfl ?_
  refine x_bipush (v := 12) d_N_init_70 (by decide) ?_
  refine y_newi (N := 12) (cz' := 8) (cs' := 158) d_N_init_72 k_39 rfl (by decide) (by decide) (by decide) (by decide) (by decide) (fun h8a z1 e1 g1 f1 => ?_)
  refine y_putfF d_N_init_74 rfl lp_N_34 ((e1.2.1 r (by rw [i8.2.1]; omega)).trans i8.1) (Or.inr ⟨_, rfl⟩) (fun h9 p2 => ?_)
  have i9 := i8.step (k := 11) z1 e1 g1 f1 p2 (by decide) rfl rfl
  clear z1 e1 g1 f1 p2 i8
  refine x_aload_n d_N_init_77 rfl rfl ?_
  refine x_bipush (v := 12) d_N_init_78 (by decide) ?_
  refine y_newi (N := 12) (cz' := 7) (cs' := 146) d_N_init_80 k_39 rfl (by decide) (by decide) (by decide) (by decide) (by decide) (fun h9a z1 e1 g1 f1 => ?_)
  refine y_putfF d_N_init_82 rfl lp_N_37 ((e1.2.1 r (by rw [i9.2.1]; omega)).trans i9.1) (Or.inr ⟨_, rfl⟩) (fun h10 p2 => ?_)
  have i10 := i9.step (k := 12) z1 e1 g1 f1 p2 (by decide) rfl rfl
  clear z1 e1 g1 f1 p2 i9
  refine x_aload_n d_N_init_85 rfl rfl ?_
  refine x_bipush (v := 72) d_N_init_86 (by decide) ?_
  refine y_newi (N := 72) (cz' := 6) (cs' := 74) d_N_init_88 k_39 rfl (by decide) (by decide) (by decide) (by decide) (by decide) (fun h10a z1 e1 g1 f1 => ?_)
  refine y_putfF d_N_init_90 rfl lp_N_40 ((e1.2.1 r (by rw [i10.2.1]; omega)).trans i10.1) (Or.inr ⟨_, rfl⟩) (fun h11 p2 => ?_)
  have i11 := i10.step (k := 13) z1 e1 g1 f1 p2 (by decide) rfl rfl
  clear z1 e1 g1 f1 p2 i10
  refine x_aload_n d_N_init_93 rfl rfl ?_
  refine x_bipush (v := 12) d_N_init_94 (by decide) ?_
  refine y_newi (N := 12) (cz' := 5) (cs' := 62) d_N_init_96 k_39 rfl (by decide) (by decide) (by decide) (by decide) (by decide) (fun h11a z1 e1 g1 f1 => ?_)
  refine y_putfF d_N_init_98 rfl lp_N_43 ((e1.2.1 r (by rw [i11.2.1]; omega)).trans i11.1) (Or.inr ⟨_, rfl⟩) (fun h12 p2 => ?_)
  have i12 := i11.step (k := 14) z1 e1 g1 f1 p2 (by decide) rfl rfl
  clear z1 e1 g1 f1 p2 i11
  refine x_aload_n d_N_init_101 rfl rfl ?_
  refine x_bipush (v := 12) d_N_init_102 (by decide) ?_
  refine y_newz (N := 12) (cz' := 4) (cs' := 50) d_N_init_104 k_558 rfl (by decide) (by decide) (by decide) (by decide) (by decide) (fun h12a z1 e1 g1 f1 => ?_)
  refine y_putfF d_N_init_106 rfl lp_N_46 ((e1.2.1 r (by rw [i12.2.1]; omega)).trans i12.1) (Or.inr ⟨_, rfl⟩) (fun h13 p2 => ?_)
  have i13 := i12.step (k := 15) z1 e1 g1 f1 p2 (by decide) rfl rfl
  clear z1 e1 g1 f1 p2 i12
  refine x_aload_n d_N_init_109 rfl rfl ?_
  refine x_bipush (v := 12) d_N_init_110 (by decide) ?_
  refine y_newi (N := 12) (cz' := 3) (cs' := 38) d_N_init_112 k_39 rfl (by decide) (by decide) (by decide) (by decide) (by decide) (fun h13a z1 e1 g1 f1 => ?_)
  refine y_putfF d_N_init_114 rfl lp_N_50 ((e1.2.1 r (by rw [i13.2.1]; omega)).trans i13.1) (Or.inr ⟨_, rfl⟩) (fun h14 p2 => ?_)
  have i14 := i13.step (k := 16) z1 e1 g1 f1 p2 (by decide) rfl rfl
  clear z1 e1 g1 f1 p2 i13
  refine x_aload_n d_N_init_117 rfl rfl ?_
  refine x_bipush (v := 12) d_N_init_118 (by decide) ?_
  refine y_newi (N := 12) (cz' := 2) (cs' := 26) d_N_init_120 k_39 rfl (by decide) (by decide) (by decide) (by decide) (by decide) (fun h14a z1 e1 g1 f1 => ?_)
  refine y_putfF d_N_init_122 rfl lp_N_53 ((e1.2.1 r (by rw [i14.2.1]; omega)).trans i14.1) (Or.inr ⟨_, rfl⟩) (fun h15 p2 => ?_)
  have i15 := i14.step (k := 18) z1 e1 g1 f1 p2 (by decide) rfl rfl
  clear z1 e1 g1 f1 p2 i14
  refine x_aload_n d_N_init_125 rfl rfl ?_
  refine x_bipush (v := 13) d_N_init_126 (by decide) ?_
  refine y_newi (N := 13) (cz' := 1) (cs' := 13) d_N_init_128 k_39 rfl (by decide) (by decide) (by decide) (by decide) (by decide) (fun h15a z1 e1 g1 f1 => ?_)
  refine y_putfF d_N_init_130 rfl lp_N_56 ((e1.2.1 r (by rw [i15.2.1]; omega)).trans i15.1) (Or.inr ⟨_, rfl⟩) (fun h16 p2 => ?_)
  have i16 := i15.step (k := 20) z1 e1 g1 f1 p2 (by decide) rfl rfl
  clear z1 e1 g1 f1 p2 i15
  refine x_aload_n d_N_init_133 rfl rfl ?_
  refine x_bipush (v := 13) d_N_init_134 (by decide) ?_
  refine y_newi (N := 13) (cz' := 0) (cs' := 0) d_N_init_136 k_39 rfl (by decide) (by decide) (by decide) (by decide) (by decide) (fun h16a z1 e1 g1 f1 => ?_)
  refine y_putfF d_N_init_138 rfl lp_N_59 ((e1.2.1 r (by rw [i16.2.1]; omega)).trans i16.1) (Or.inr ⟨_, rfl⟩) (fun h17 p2 => ?_)
  have i17 := i16.step (k := 21) z1 e1 g1 f1 p2 (by decide) rfl rfl
  clear z1 e1 g1 f1 p2 i16
  refine x_aload_n d_N_init_141 rfl rfl ?_
  refine x_iload_n d_N_init_142 rfl rfl ?_
  refine x_iconst (v := 1) d_N_init_143 (by decide) ?_
  refine x_icmp_lt (tgt := 157) d_N_init_144 rfl (fun q1 => ?_) (fun q1 => ?_)
  · refine x_bipush (v := 8) d_N_init_157 (by decide) ?_
    exact N_init_159 q 8 i17 f0 (by unfold hoM qM; rw [if_pos (Or.inl q1)])
  · refine x_iload_n d_N_init_147 rfl rfl ?_
    refine x_bipush (v := 50) d_N_init_148 (by decide) ?_
    refine x_icmp_gt (tgt := 157) d_N_init_150 rfl (fun q2 => ?_) (fun q2 => ?_)
    · refine x_bipush (v := 8) d_N_init_157 (by decide) ?_
      exact N_init_159 q 8 i17 f0 (by unfold hoM qM; rw [if_pos (Or.inr q2)])
    · refine x_iload_n d_N_init_153 rfl rfl ?_
      refine x_goto (tgt := 159) d_N_init_154 rfl ?_
      exact N_init_159 q q i17 f0 (by unfold hoM qM; rw [if_neg (fun z => z.elim q1 q2)])
