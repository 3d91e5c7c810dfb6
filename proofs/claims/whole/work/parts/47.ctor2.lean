/-! The constructors of Society, Machine and TurnHost (printed by wip/gen/mod_ctor2.py). -/
/-- one element has been set -/
def PutA (t a i : Nat) (v : Value) (h h' : th_H) : Prop := gk h' = gk h ∧ gz h' = gz h ∧ gF h' = gF h ∧ gA h' t a i = v ∧ ∀ t' b j, ¬ (t' = t ∧ b = a ∧ j = i) → gA h' t' b j = gA h t' b j
theorem PutA.of (t a i : Nat) (v : Value) (h : th_H) : PutA t a i v h (gpA h t a i v) := ⟨rfl, rfl, rfl, by rw [gA_pA, if_pos ⟨rfl, rfl, rfl⟩], fun t' b j hn => by rw [gA_pA, if_neg hn]⟩
theorem PutA.te {t a i : Nat} {v : Value} {h h' : th_H} (e : PutA t a i v h h') : TE h h' := fun b q => ⟨by rw [e.1]; exact q, fun k => by rw [e.2.2.1]⟩
theorem PutA.to {t a i : Nat} {v : Value} {h0 h h' : th_H} {b : Nat} (n : NewO b h0 h) (e : PutA t a i v h h') (ha : gz h0 ≤ a) : NewO b h0 h' := ⟨by rw [e.2.1]; exact n.1, fun x hx => by rw [e.1]; exact n.2.1 x hx, fun c k x hx hn => by rw [e.2.2.1]; exact n.2.2.1 c k x hx hn, fun t' x j hx => (e.2.2.2.2 t' x j (fun z => by omega)).trans (n.2.2.2 t' x j hx)⟩
section THM2
variable {E : th_E} {M : th_M} {d cz cs pc : Nat} {L : List (Option Value)} {S : List Value} {h : th_H} {Post : Option Value → th_H → Prop}
theorem y_aast {t n a b ci N j : Nat} {C : String} {T : u_T} {i : Int32} (hd : decode M.2.1 pc = .ok (.aastore, 1)) (ha : gk h a = some (.inr (t + 1, n))) (hty : th_tys[t + 1]? = some (.object C)) (hbk : gk h b = some (.inl ci)) (hcl : classes[ci]? = some (C, T, N)) (hin : vp_in i n) (hj : i.toNatClampNeg = j) (kk : ∀ h', PutA (t + 1) a j (.ref b) h h' → Xw E M d cz cs (pc + 1) L S h' Post) : Xw E M d cz cs pc L (.ref b :: .int i :: .ref a :: S) h Post := x_aast hd ha hty hbk hcl hin (by rw [hj]; exact kk _ (PutA.of _ _ _ _ _))
end THM2
theorem cRow.sm {o p : Nat} {h h' : th_H} (y : cRow o p h) (ek : gk h' = gk h) (ef : ∀ c, c < 3 → ∀ k a, gF h' c k a = gF h c k a) : cRow o p h' := ⟨by rw [ek]; exact y.k, by rw [ef 2 (by decide)]; exact y.n, by rw [ef 2 (by decide)]; exact y.pid, TR.mono (fun a q => ⟨by rw [ek]; exact q, fun k => ef 0 (by decide) k a⟩) _ _ y.tp, by rw [ef 2 (by decide)]; exact y.rg, by rw [ek]; exact y.kr, by rw [ef 2 (by decide)]; exact y.re, by rw [ek]; exact y.kre, by rw [ef 2 (by decide)]; exact y.mb, by rw [ek]; exact y.kmb, by rw [ef 1 (by decide)]; exact y.ma, by rw [ek]; exact y.kma⟩
def sA (o n : Nat) (h : th_H) : Prop := gk h (o + 4) = some (.inl 4) ∧ gF h 4 0 (o + 4) = .ref (o + 5) ∧ gk h (o + 5) = some (.inr (3, 12)) ∧ ∀ p, p < n → gA h 3 (o + 5) p = .ref (o + 6 + 6 * p) ∧ cRow o p h
def sB (o : Nat) (h : th_H) : Prop := gF h 4 1 (o + 4) = .ref (o + 78) ∧ gk h (o + 78) = some (.inl 3) ∧ gF h 3 0 (o + 78) = .ref (o + 79) ∧ gF h 3 1 (o + 78) = .int (nI 0) ∧ gk h (o + 79) = some (.inr (1, 12))
def sC (o : Nat) (h : th_H) : Prop := gF h 4 2 (o + 4) = .ref (o + 80) ∧ TR h nilT (o + 80)
def sD (o n : Nat) (h : th_H) : Prop := gF h 4 3 (o + 4) = .ref (o + 81) ∧ gk h (o + 81) = some (.inr (2, 16)) ∧ ∀ a, a < n → gA h 2 (o + 81) a = .ref (o + 82 + a) ∧ TR h (.leaf (1, nI a)) (o + 82 + a)
theorem sA.new {o n : Nat} {h h' : th_H} (y : sA o n h) (wf : WFh h) (e : New h h') : sA o n h' := ⟨e.k wf y.1, by rw [e.f wf y.1]; exact y.2.1, e.k wf y.2.2.1, fun p hp => ⟨by rw [e.2.2.2 _ _ _ (wf _ _ y.2.2.1)]; exact (y.2.2.2 p hp).1, (y.2.2.2 p hp).2.new wf e⟩⟩
theorem sB.new {o : Nat} {h h' : th_H} (y : sB o h) (hk : gk h (o + 4) = some (.inl 4)) (wf : WFh h) (e : New h h') : sB o h' := ⟨by rw [e.f wf hk]; exact y.1, e.k wf y.2.1, by rw [e.f wf y.2.1]; exact y.2.2.1, by rw [e.f wf y.2.1]; exact y.2.2.2.1, e.k wf y.2.2.2.2⟩
theorem sC.new {o : Nat} {h h' : th_H} (y : sC o h) (hk : gk h (o + 4) = some (.inl 4)) (wf : WFh h) (e : New h h') : sC o h' := ⟨by rw [e.f wf hk]; exact y.1, TR.mono (e.te wf) _ _ y.2⟩
theorem sD.new {o n : Nat} {h h' : th_H} (y : sD o n h) (hk : gk h (o + 4) = some (.inl 4)) (wf : WFh h) (e : New h h') : sD o n h' := ⟨by rw [e.f wf hk]; exact y.1, e.k wf y.2.1, fun p hp => ⟨by rw [e.2.2.2 _ _ _ (wf _ _ y.2.1)]; exact (y.2.2 p hp).1, TR.mono (e.te wf) _ _ (y.2.2 p hp).2⟩⟩
theorem sA.put {o n k c a : Nat} {v : Value} {h h' : th_H} (y : sA o n h) (e : Put c k a v h h') (hc : 4 ≤ c) (hk : ¬ (c = 4 ∧ k = 0)) : sA o n h' := ⟨by rw [e.1]; exact y.1, by rw [e.2.2.2.2 _ _ _ (fun z => hk ⟨z.1.symm, z.2.1.symm⟩)]; exact y.2.1, by rw [e.1]; exact y.2.2.1, fun p hp => ⟨by rw [e.2.2.1]; exact (y.2.2.2 p hp).1, (y.2.2.2 p hp).2.sm e.1 (fun c' h3 k' b => e.2.2.2.2 c' k' b (fun z => by omega))⟩⟩
theorem sB.put {o k c a : Nat} {v : Value} {h h' : th_H} (y : sB o h) (e : Put c k a v h h') (hc : 4 ≤ c) (hk : ¬ (c = 4 ∧ k = 1)) : sB o h' := ⟨by rw [e.2.2.2.2 _ _ _ (fun z => hk ⟨z.1.symm, z.2.1.symm⟩)]; exact y.1, by rw [e.1]; exact y.2.1, by rw [e.2.2.2.2 _ _ _ (fun z => by omega)]; exact y.2.2.1, by rw [e.2.2.2.2 _ _ _ (fun z => by omega)]; exact y.2.2.2.1, by rw [e.1]; exact y.2.2.2.2⟩
theorem sC.put {o k c a : Nat} {v : Value} {h h' : th_H} (y : sC o h) (e : Put c k a v h h') (hc : 4 ≤ c) (hk : ¬ (c = 4 ∧ k = 2)) : sC o h' := ⟨by rw [e.2.2.2.2 _ _ _ (fun z => hk ⟨z.1.symm, z.2.1.symm⟩)]; exact y.1, TR.mono (e.te (by omega)) _ _ y.2⟩
theorem sD.put {o n k c a : Nat} {v : Value} {h h' : th_H} (y : sD o n h) (e : Put c k a v h h') (hc : 4 ≤ c) (hk : ¬ (c = 4 ∧ k = 3)) : sD o n h' := ⟨by rw [e.2.2.2.2 _ _ _ (fun z => hk ⟨z.1.symm, z.2.1.symm⟩)]; exact y.1, by rw [e.1]; exact y.2.1, fun p hp => ⟨by rw [e.2.2.1]; exact (y.2.2 p hp).1, TR.mono (e.te (by omega)) _ _ (y.2.2 p hp).2⟩⟩
theorem sA.pA {o n t a i : Nat} {v : Value} {h h' : th_H} (y : sA o n h) (e : PutA t a i v h h') (ht : t ≠ 3) : sA o n h' := ⟨by rw [e.1]; exact y.1, by rw [e.2.2.1]; exact y.2.1, by rw [e.1]; exact y.2.2.1, fun p hp => ⟨by rw [e.2.2.2.2 _ _ _ (fun z => ht z.1.symm)]; exact (y.2.2.2 p hp).1, (y.2.2.2 p hp).2.sm e.1 (fun c' h3 k' b => by rw [e.2.2.1])⟩⟩
theorem sB.pA {o t a i : Nat} {v : Value} {h h' : th_H} (y : sB o h) (e : PutA t a i v h h') : sB o h' := by
  unfold sB
  rw [e.1, e.2.2.1]
  exact y
theorem sC.pA {o t a i : Nat} {v : Value} {h h' : th_H} (y : sC o h) (e : PutA t a i v h h') : sC o h' := ⟨by rw [e.2.2.1]; exact y.1, TR.mono e.te _ _ y.2⟩
/-- the first loop: the twelve processes -/
theorem S_l1 {E : th_E} {h0 : th_H} {o : Nat} {Post : Option Value → th_H → Prop} (h00 : gz h0 ≤ o + 5) (K : ∀ h, gz h = o + 78 → NewO (o + 4) h0 h → sA o 12 h → Xw E m_S_init 3 20 115 41 [some (.ref (o + 4)), some (.int (nI 12))] [] h Post) : ∀ (m n : Nat) (h : th_H), n + m = 12 → gz h = o + 6 + 6 * n → NewO (o + 4) h0 h → sA o n h → Xw E m_S_init 3 (6 * m + 20) (46 * m + 115) 15 [some (.ref (o + 4)), some (.int (nI n))] [] h Post := by
  intro m
  induction m with
  | zero =>
    intro n h hn hz no sa
    obtain rfl : n = 12 := by omega
    refine x_iload_n d_S_init_15 rfl rfl ?_
    refine x_bipush (v := 12) d_S_init_16 (by decide) ?_
    exact x_icmp_ge (tgt := 41) d_S_init_18 rfl (fun _ => K h (by omega) no sa) (fun q => absurd (nI_le (a := 12) (b := 12) (by omega) (by omega)) q)
  | succ m ih =>
    intro n h hn hz no sa
    refine Xw.wf (fun wf => ?_)
    refine x_iload_n d_S_init_15 rfl rfl ?_
    refine x_bipush (v := 12) d_S_init_16 (by decide) ?_
    refine x_icmp_ge (tgt := 41) d_S_init_18 rfl (fun q => absurd ((nI_leI (a := 12) (by omega) (by omega)).mp q) (by omega)) (fun _ => ?_)
    refine x_aload_n d_S_init_21 rfl rfl ?_
    refine x_getf (v := .ref (o + 5)) d_S_init_22 lf_S_11 sa.1 sa.2.1 ?_
    refine x_iload_n d_S_init_25 rfl rfl ?_
    refine y_new (cz' := 6 * m + 25) (cs' := 46 * m + 149) d_S_init_26 ln_S_9 (by omega) (by omega) (fun h1 z1 e1 g1 q1 => ?_)
    rw [hz] at z1 g1 ⊢
    refine x_dup d_S_init_29 rfl ?_
    refine x_iload_n d_S_init_30 rfl rfl ?_
    refine x_invi d_S_init_31 lm_S_17 (as := [.int (nI n)]) (S := [.ref (o + 6 + 6 * n), .int (nI n), .ref (o + 5)]) (cz' := 6 * m + 20) (cs' := 46 * m + 115) (c_P_init (a := o + 6 + 6 * n) (nI n) g1 z1) rfl rfl (Nat.le_of_ble_eq_true rfl) (by decide) (by omega) (by omega) ?_
    rintro _ h2 ⟨rfl, z2, n2, f0, f1, tp, f2, kr, f3, kre, f4, kmb, fma, kma⟩
    have en : New h h2 := e1.made n2 (by omega)
    have sa2 := sa.new wf en
    have k2 : gk h2 (o + 6 + 6 * n) = some (.inl 2) := (n2.2.1 _ (by omega)).trans g1
    have rw2 : cRow o n h2 := ⟨k2, f0, f1.trans (congrArg Value.ref (show (o + 6 + 6 * n + 1 : Nat) = o + 7 + 6 * n by omega)), by rw [show o + 7 + 6 * n = o + 6 + 6 * n + 1 by omega]; exact tp, f2.trans (congrArg Value.ref (show (o + 6 + 6 * n + 1 + 1 : Nat) = o + 8 + 6 * n by omega)), by rw [show o + 8 + 6 * n = o + 6 + 6 * n + 1 + 1 by omega]; exact kr, f3.trans (congrArg Value.ref (show (o + 6 + 6 * n + 1 + 1 + 1 : Nat) = o + 9 + 6 * n by omega)), by rw [show o + 9 + 6 * n = o + 6 + 6 * n + 1 + 1 + 1 by omega]; exact kre, f4.trans (congrArg Value.ref (show (o + 6 + 6 * n + 1 + 1 + 1 + 1 : Nat) = o + 10 + 6 * n by omega)), by rw [show o + 10 + 6 * n = o + 6 + 6 * n + 1 + 1 + 1 + 1 by omega]; exact kmb, by rw [show o + 10 + 6 * n = o + 6 + 6 * n + 1 + 1 + 1 + 1 by omega]; exact fma.trans (congrArg Value.ref (show (o + 6 + 6 * n + 1 + 1 + 1 + 1 + 1 : Nat) = o + 11 + 6 * n by omega)), by rw [show o + 11 + 6 * n = o + 6 + 6 * n + 1 + 1 + 1 + 1 + 1 by omega]; exact kma⟩
    refine y_aast (t := 2) (j := n) d_S_init_34 sa2.2.2.1 rfl k2 rfl (vp_in_nI (by omega) (by omega)) (nI_cl (by omega)) (fun h3 p3 => ?_)
    refine x_iinc d_S_init_35 rfl (v := (nI (n + 1))) (nI_1 _) (by decide) (L' := [some (.ref (o + 4)), some (.int (nI (n + 1)))]) rfl ?_
    refine x_goto (tgt := 15) d_S_init_38 rfl ?_
    refine ih (n + 1) h3 (by omega) (by rw [p3.2.1, z2]; omega) (p3.to (no.new en) (by omega)) ⟨by rw [p3.1]; exact sa2.1, by rw [p3.2.2.1]; exact sa2.2.1, by rw [p3.1]; exact sa2.2.2.1, fun p hp => ?_⟩
    by_cases hpn : p = n
    · subst hpn
      exact ⟨p3.2.2.2.1, rw2.sm p3.1 (fun c' h3 k' b => by rw [p3.2.2.1])⟩
    · exact ⟨by rw [p3.2.2.2.2 _ _ _ (fun z => hpn z.2.2)]; exact (sa2.2.2.2 p (by omega)).1, (sa2.2.2.2 p (by omega)).2.sm p3.1 (fun c' h3 k' b => by rw [p3.2.2.1])⟩
/-- the second loop: the sixteen atoms -/
theorem S_l2 {E : th_E} {h0 : th_H} {o : Nat} {Post : Option Value → th_H → Prop} (h00 : gz h0 ≤ o + 5) (K : ∀ h, gz h = o + 98 → NewO (o + 4) h0 h → sA o 12 h → sB o h → sC o h → sD o 16 h → Xw E m_S_init 3 0 0 103 [some (.ref (o + 4)), some (.int (nI 16))] [] h Post) : ∀ (m n : Nat) (h : th_H), n + m = 16 → gz h = o + 82 + n → NewO (o + 4) h0 h → sA o 12 h → sB o h → sC o h → sD o n h → Xw E m_S_init 3 m (5 * m) 76 [some (.ref (o + 4)), some (.int (nI n))] [] h Post := by
  intro m
  induction m with
  | zero =>
    intro n h hn hz no sa sb sc sd
    obtain rfl : n = 16 := by omega
    refine x_iload_n d_S_init_76 rfl rfl ?_
    refine x_bipush (v := 16) d_S_init_77 (by decide) ?_
    exact x_icmp_ge (tgt := 103) d_S_init_79 rfl (fun _ => K h (by omega) no sa sb sc sd) (fun q => absurd (nI_le (a := 16) (b := 16) (by omega) (by omega)) q)
  | succ m ih =>
    intro n h hn hz no sa sb sc sd
    refine Xw.wf (fun wf => ?_)
    refine x_iload_n d_S_init_76 rfl rfl ?_
    refine x_bipush (v := 16) d_S_init_77 (by decide) ?_
    refine x_icmp_ge (tgt := 103) d_S_init_79 rfl (fun q => absurd ((nI_leI (a := 16) (by omega) (by omega)).mp q) (by omega)) (fun _ => ?_)
    refine x_aload_n d_S_init_82 rfl rfl ?_
    refine x_getf (v := .ref (o + 81)) d_S_init_83 lf_S_36 sa.1 sd.1 ?_
    refine x_iload_n d_S_init_86 rfl rfl ?_
    refine y_new (cz' := m) (cs' := 5 * m) d_S_init_87 ln_S_27 (by omega) (by omega) (fun h1 z1 e1 g1 q1 => ?_)
    rw [hz] at z1 g1 ⊢
    refine x_dup d_S_init_90 rfl ?_
    refine x_iconst (v := 1) d_S_init_91 (by decide) ?_
    refine x_iload_n d_S_init_92 rfl rfl ?_
    refine x_invi d_S_init_93 lm_S_29 (as := [.int 1, .int (nI n)]) (S := [.ref (o + 82 + n), .int (nI n), .ref (o + 81)]) (cz' := m) (cs' := 5 * m) (c_T_init_new (a := o + 82 + n) 1 (nI n) g1) rfl rfl (Nat.le_of_ble_eq_true rfl) (by decide) (by omega) (by omega) ?_
    rintro _ h2 ⟨rfl, z2, n2, tp⟩
    have en : New h h2 := e1.made n2 (by omega)
    have sa2 := sa.new wf en
    have sd2 := sd.new sa.1 wf en
    have sb2 := sb.new sa.1 wf en
    have sc2 := sc.new sa.1 wf en
    have k2 : gk h2 (o + 82 + n) = some (.inl 0) := (n2.2.1 _ (by omega)).trans g1
    refine y_aast (t := 1) (j := n) d_S_init_96 sd2.2.1 rfl k2 rfl (vp_in_nI (by omega) (by omega)) (nI_cl (by omega)) (fun h3 p3 => ?_)
    refine x_iinc d_S_init_97 rfl (v := (nI (n + 1))) (nI_1 _) (by decide) (L' := [some (.ref (o + 4)), some (.int (nI (n + 1)))]) rfl ?_
    refine x_goto (tgt := 76) d_S_init_100 rfl ?_
    refine ih (n + 1) h3 (by omega) (by rw [p3.2.1, z2, z1]; omega) (p3.to (no.new en) (by omega)) (sa2.pA p3 (by decide)) (sb2.pA p3) (sc2.pA p3) ⟨by rw [p3.2.2.1]; exact sd2.1, by rw [p3.1]; exact sd2.2.1, fun p hp => ?_⟩
    by_cases hpn : p = n
    · subst hpn
      exact ⟨p3.2.2.2.1, TR.mono p3.te _ _ tp⟩
    · exact ⟨by rw [p3.2.2.2.2 _ _ _ (fun z => hpn z.2.2)]; exact (sd2.2.2 p (by omega)).1, TR.mono p3.te _ _ (sd2.2.2 p (by omega)).2⟩
/-- all that Society's constructor leaves behind -/
def sAll (o : Nat) (h : th_H) : Prop := sA o 12 h ∧ sB o h ∧ sC o h ∧ sD o 16 h ∧ gF h 4 4 (o + 4) = .int (nI 0)
theorem c_S_init {E : th_E} {h : th_H} {o : Nat} (k1 : gk h (o + 4) = some (.inl 4)) (hz : gz h = o + 5) : Xc E m_S_init 3 93 679 [.ref (o + 4)] h (fun v h' => v = none ∧ gz h' = o + 98 ∧ NewO (o + 4) h h' ∧ sAll o h') := by
  refine Xc.of (by decide) (by simp [Value.category]) (Nat.le_of_ble_eq_true rfl) ?_
  show Xw E m_S_init 3 93 679 0 [some (.ref (o + 4)), none] [] h _
  refine Xw.wf (fun wf => ?_)
  refine x_aload_n d_S_init_0 rfl rfl ?_
  refine x_objinit d_S_init_1 lo_S_3 k_oi1 k_oi2 (by decide) (Nat.le_of_ble_eq_true rfl) ?_
  refine x_aload_n d_S_init_4 rfl rfl ?_
  refine x_bipush (v := 12) d_S_init_5 (by decide) ?_
  refine y_anew (t := 2) (N := 12) (cz' := 92) (cs' := 667) d_S_init_7 lc_S_9 (tbl1 (List.mem_of_getElem? (i := 47) rfl)) rfl (by decide) (by decide) (by decide) (by decide) (by decide) (fun h1 z1 e1 g1 q1 => ?_)
  rw [hz] at z1 g1 ⊢
  refine y_putfF d_S_init_10 rfl lp_S_11 (e1.k wf k1) (Or.inr ⟨_, rfl⟩) (fun h2 p2 => ?_)
  refine x_iconst (v := (nI 0)) d_S_init_13 (by decide) ?_
  refine x_istore_n d_S_init_14 rfl (by decide) (L' := [some (.ref (o + 4)), some (.int (nI 0))]) rfl ?_
  refine S_l1 (h0 := h) (by omega) (fun h3 z3 no3 sa3 => ?_) 12 0 h2 rfl (by rw [p2.2.1, z1]) ((e1.to (o + 4)).put p2) ⟨by rw [p2.1]; exact e1.k wf k1, p2.2.2.2.1, by rw [p2.1]; exact g1, fun p hp => absurd hp (Nat.not_lt_zero _)⟩
  refine Xw.wf (fun wf3 => ?_)
  refine x_aload_n d_S_init_41 rfl rfl ?_
  refine y_new (cz' := 19) (cs' := 113) d_S_init_42 ln_S_20 (by decide) (by decide) (fun h4 z4 e4 g4 q4 => ?_)
  rw [z3] at z4 g4 ⊢
  refine x_dup d_S_init_45 rfl ?_
  refine x_invi d_S_init_46 lm_S_22 (as := []) (S := [.ref (o + 78), .ref (o + 4)]) (cz' := 18) (cs' := 101) (c_L_init (a := o + 78) g4) rfl rfl (Nat.le_of_ble_eq_true rfl) (by decide) (by decide) (by decide) ?_
  rintro _ h5 ⟨rfl, z5, n5, k5, l0, l1⟩
  rw [z4] at z5 k5 l0
  have e5 : New h3 h5 := e4.made n5 (by omega)
  have kl5 : gk h5 (o + 78) = some (.inl 3) := (n5.2.1 _ (by omega)).trans g4
  have sa5 := sa3.new wf3 e5
  refine y_putfF d_S_init_49 rfl lp_S_23 sa5.1 (Or.inr ⟨_, rfl⟩) (fun h6 p6 => ?_)
  have sa6 := sa5.put p6 (by decide) (by decide)
  have no6 := (no3.new e5).put p6
  have sb6 : sB o h6 := ⟨p6.2.2.2.1, by rw [p6.1]; exact kl5, by rw [p6.2.2.2.2 _ _ _ (fun z => absurd z.1 (by decide))]; exact l0, by rw [p6.2.2.2.2 _ _ _ (fun z => absurd z.1 (by decide))]; exact l1, by rw [p6.1]; exact k5⟩
  have z6 : gz h6 = o + 80 := by rw [p6.2.1, z5]
  refine Xw.wf (fun wf6 => ?_)
  refine x_aload_n d_S_init_52 rfl rfl ?_
  refine y_new (cz' := 17) (cs' := 96) d_S_init_53 ln_S_27 (by decide) (by decide) (fun h7 z7 e7 g7 q7 => ?_)
  rw [z6] at z7 g7 ⊢
  refine x_dup d_S_init_56 rfl ?_
  refine x_iconst (v := 3) d_S_init_57 (by decide) ?_
  refine x_iconst (v := 0) d_S_init_58 (by decide) ?_
  refine x_invi d_S_init_59 lm_S_29 (as := [.int 3, .int 0]) (S := [.ref (o + 80), .ref (o + 4)]) (cz' := 17) (cs' := 96) (c_T_init_new (a := o + 80) 3 0 g7) rfl rfl (Nat.le_of_ble_eq_true rfl) (by decide) (by decide) (by decide) ?_
  rintro _ h8 ⟨rfl, z8, n8, tn⟩
  have e8 : New h6 h8 := e7.made n8 (by omega)
  have sa8 := sa6.new wf6 e8
  refine y_putfF d_S_init_62 rfl lp_S_32 sa8.1 (Or.inr ⟨_, rfl⟩) (fun h9 p9 => ?_)
  have sa9 := sa8.put p9 (by decide) (by decide)
  have sb9 := (sb6.new sa6.1 wf6 e8).put p9 (by decide) (by decide)
  have sc9 : sC o h9 := ⟨p9.2.2.2.1, TR.mono (p9.te (by decide)) _ _ tn⟩
  have no9 := (no6.new e8).put p9
  have z9 : gz h9 = o + 81 := by rw [p9.2.1, z8, z7]
  refine Xw.wf (fun wf9 => ?_)
  refine x_aload_n d_S_init_65 rfl rfl ?_
  refine x_bipush (v := 16) d_S_init_66 (by decide) ?_
  refine y_anew (t := 1) (N := 16) (cz' := 16) (cs' := 80) d_S_init_68 lc_S_27 (tbl1 (List.mem_of_getElem? (i := 82) rfl)) rfl (by decide) (by decide) (by decide) (by decide) (by decide) (fun hA zA eA gA qA => ?_)
  rw [z9] at zA gA ⊢
  refine y_putfF d_S_init_71 rfl lp_S_36 (eA.k wf9 sa9.1) (Or.inr ⟨_, rfl⟩) (fun hB pB => ?_)
  refine x_iconst (v := (nI 0)) d_S_init_74 (by decide) ?_
  refine x_istore_n d_S_init_75 rfl (by decide) (L' := [some (.ref (o + 4)), some (.int (nI 0))]) rfl ?_
  refine S_l2 (h0 := h) (by omega) (fun hC zC noC saC sbC scC sdC => ?_) 16 0 hB rfl (by rw [pB.2.1, zA]) ((no9.new eA).put pB) ((sa9.new wf9 eA).put pB (by decide) (by decide)) ((sb9.new sa9.1 wf9 eA).put pB (by decide) (by decide)) ((sc9.new sa9.1 wf9 eA).put pB (by decide) (by decide)) ⟨pB.2.2.2.1, by rw [pB.1]; exact gA, fun p hp => absurd hp (Nat.not_lt_zero _)⟩
  refine x_aload_n d_S_init_103 rfl rfl ?_
  refine x_iconst (v := (nI 0)) d_S_init_104 (by decide) ?_
  refine y_putf d_S_init_105 lp_S_40 saC.1 ⟨_, rfl⟩ (fun hD pD => ?_)
  exact x_ret ⟨rfl, pD.2.1.trans zC, noC.put pD, saC.put pD (by decide) (by decide), sbC.put pD (by decide) (by decide), scC.put pD (by decide) (by decide), sdC.put pD (by decide) (by decide), pD.2.2.2.1⟩ rfl d_S_init_108
theorem sAll.put {o k c a : Nat} {v : Value} {h h' : th_H} (y : sAll o h) (e : Put c k a v h h') (hc : 5 ≤ c) : sAll o h' := ⟨y.1.put e (by omega) (by omega), y.2.1.put e (by omega) (by omega), y.2.2.1.put e (by omega) (by omega), y.2.2.2.1.put e (by omega) (by omega), by rw [e.2.2.2.2 _ _ _ (fun z => by omega)]; exact y.2.2.2.2⟩
/-- what Program's constructor leaves behind -/
def sG (o : Nat) (h : th_H) : Prop := gk h (o + 2) = some (.inl 5) ∧ gF h 5 0 (o + 2) = .ref (o + 3) ∧ gF h 5 1 (o + 2) = .int (nI 0) ∧ gk h (o + 3) = some (.inr (1, 192))
theorem sG.new {o : Nat} {h h' : th_H} (y : sG o h) (wf : WFh h) (e : New h h') : sG o h' := ⟨e.k wf y.1, by rw [e.f wf y.1]; exact y.2.1, by rw [e.f wf y.1]; exact y.2.2.1, e.k wf y.2.2.2⟩
theorem sG.put {o k c a : Nat} {v : Value} {h h' : th_H} (y : sG o h) (e : Put c k a v h h') (hc : 6 ≤ c) : sG o h' := ⟨by rw [e.1]; exact y.1, by rw [e.2.2.2.2 _ _ _ (fun z => by omega)]; exact y.2.1, by rw [e.2.2.2.2 _ _ _ (fun z => by omega)]; exact y.2.2.1, by rw [e.1]; exact y.2.2.2⟩
theorem c_M_init {E : th_E} {h : th_H} {o : Nat} (k1 : gk h (o + 1) = some (.inl 6)) (hz : gz h = o + 2) : Xc E m_M_init 4 96 878 [.ref (o + 1)] h (fun v h' => v = none ∧ gz h' = o + 98 ∧ NewO (o + 1) h h' ∧ sG o h' ∧ sAll o h' ∧ gF h' 6 0 (o + 1) = .ref (o + 2) ∧ gF h' 6 1 (o + 1) = .ref (o + 4)) := by
  refine Xc.of (by decide) (by simp [Value.category]) (Nat.le_of_ble_eq_true rfl) ?_
  show Xw E m_M_init 4 96 878 0 [some (.ref (o + 1))] [] h _
  refine Xw.wf (fun wf => ?_)
  refine x_aload_n d_M_init_0 rfl rfl ?_
  refine x_objinit d_M_init_1 lo_M_3 k_oi1 k_oi2 (by decide) (Nat.le_of_ble_eq_true rfl) ?_
  refine x_aload_n d_M_init_4 rfl rfl ?_
  refine y_new (cz' := 95) (cs' := 876) d_M_init_5 ln_M_9 (by decide) (by decide) (fun h1 z1 e1 g1 q1 => ?_)
  rw [hz] at z1 g1 ⊢
  refine x_dup d_M_init_8 rfl ?_
  refine x_invi d_M_init_9 lm_M_11 (as := []) (S := [.ref (o + 2), .ref (o + 1)]) (cz' := 94) (cs' := 684) (c_G_init (a := o + 2) g1) rfl rfl (Nat.le_of_ble_eq_true rfl) (by decide) (by decide) (by decide) ?_
  rintro _ h2 ⟨rfl, z2, n2, k2, l0, l1⟩
  rw [z1] at z2 k2 l0
  have e2 : New h h2 := e1.made n2 (by omega)
  have sg2 : sG o h2 := ⟨(n2.2.1 _ (by omega)).trans g1, l0, l1, k2⟩
  refine y_putfF d_M_init_12 rfl lp_M_12 (e2.k wf k1) (Or.inr ⟨_, rfl⟩) (fun h3 p3 => ?_)
  have sg3 := sg2.put p3 (by decide)
  have no3 := (e2.to (o + 1)).put p3
  have k3 : gk h3 (o + 1) = some (.inl 6) := by rw [p3.1]; exact e2.k wf k1
  have z3 : gz h3 = o + 4 := by rw [p3.2.1, z2]
  refine Xw.wf (fun wf3 => ?_)
  refine x_aload_n d_M_init_15 rfl rfl ?_
  refine y_new (cz' := 93) (cs' := 679) d_M_init_16 ln_M_18 (by decide) (by decide) (fun h4 z4 e4 g4 q4 => ?_)
  rw [z3] at z4 g4 ⊢
  refine x_dup d_M_init_19 rfl ?_
  refine x_invi d_M_init_20 lm_M_20 (as := []) (S := [.ref (o + 4), .ref (o + 1)]) (cz' := 0) (cs' := 0) (c_S_init (o := o) g4 z4) rfl rfl (Nat.le_of_ble_eq_true rfl) (by decide) (by decide) (by decide) ?_
  rintro _ h5 ⟨rfl, z5, n5, sl5⟩
  have e5 : New h3 h5 := e4.made n5 (by omega)
  refine y_putfF d_M_init_23 rfl lp_M_21 (e5.k wf3 k3) (Or.inr ⟨_, rfl⟩) (fun h6 p6 => ?_)
  exact x_ret ⟨rfl, p6.2.1.trans z5, (no3.new e5).put p6, (sg3.new wf3 e5).put p6 (by decide), sl5.put p6 (by decide), by rw [p6.2.2.2.2 _ _ _ (fun z => absurd z.2.1 (by decide)), e5.f wf3 k3]; exact p3.2.2.2.1, p6.2.2.2.1⟩ rfl d_M_init_26
def qM (q : Int32) : Int32 := if q < 1 ∨ 50 < q then 8 else q
/-- the host at its beginning -/
def hoM (q : Int32) : Ho := (qM q, 0, [], [], 0, fun _ => ((fun _ => nilT), 0, [], [], 0, 0, false, 1, none, 0))
theorem H_init_22 {E : th_E} {h : th_H} {o : Nat} {q : Int32} (x : Int32) (k1 : gk h o = some (.inl 7)) (hz : gz h = o + 1) : Xw E m_H_init 5 97 880 22 [some (.ref o), some (.int q)] [.int x, .ref o] h (fun v h' => v = none ∧ gz h' = o + 98 ∧ NewO o h h' ∧ CR o (x, (hoM 0).2) h') := by
  refine Xw.wf (fun wf => ?_)
  refine y_putfF d_H_init_22 rfl lp_H_9 k1 ⟨_, rfl⟩ (fun h1 p1 => ?_)
  have k2 : gk h1 o = some (.inl 7) := by rw [p1.1]; exact k1
  have z1 : gz h1 = o + 1 := p1.2.1.trans hz
  refine Xw.wf (fun wf1 => ?_)
  refine x_aload_n d_H_init_25 rfl rfl ?_
  refine y_new (cz' := 96) (cs' := 878) d_H_init_26 ln_H_13 (by decide) (by decide) (fun h3 z3 e3 g3 q3 => ?_)
  rw [z1] at z3 g3 ⊢
  refine x_dup d_H_init_29 rfl ?_
  refine x_invi d_H_init_30 lm_H_15 (as := []) (S := [.ref (o + 1), .ref o]) (cz' := 0) (cs' := 0) (c_M_init (o := o) g3 z3) rfl rfl (Nat.le_of_ble_eq_true rfl) (by decide) (by decide) (by decide) ?_
  rintro _ h4 ⟨rfl, z4, n4, sg4, sl4, m0, m1⟩
  have e4 : New h1 h4 := e3.made n4 (by omega)
  have kM4 : gk h4 (o + 1) = some (.inl 6) := (n4.2.1 _ (by omega)).trans g3
  have k4 := e4.k wf1 k2
  refine y_putfF d_H_init_33 rfl lp_H_16 k4 (Or.inr ⟨_, rfl⟩) (fun h5 p5 => ?_)
  have k5 : gk h5 o = some (.inl 7) := by rw [p5.1]; exact k4
  have kM5 : gk h5 (o + 1) = some (.inl 6) := by rw [p5.1]; exact kM4
  have m05 : gF h5 6 0 (o + 1) = .ref (o + 2) := by rw [p5.2.2.2.2 _ _ _ (fun z => absurd z.1 (by decide))]; exact m0
  have m15 : gF h5 6 1 (o + 1) = .ref (o + 4) := by rw [p5.2.2.2.2 _ _ _ (fun z => absurd z.1 (by decide))]; exact m1
  refine x_aload_n d_H_init_36 rfl rfl ?_
  refine x_aload_n d_H_init_37 rfl rfl ?_
  refine x_getf (v := .ref (o + 1)) d_H_init_38 lf_H_16 k5 p5.2.2.2.1 ?_
  refine x_getf (v := .ref (o + 2)) d_H_init_41 lf_H_20 kM5 m05 ?_
  refine y_putfF d_H_init_44 rfl lp_H_24 k5 (Or.inr ⟨_, rfl⟩) (fun h6 p6 => ?_)
  have k6 : gk h6 o = some (.inl 7) := by rw [p6.1]; exact k5
  have kM6 : gk h6 (o + 1) = some (.inl 6) := by rw [p6.1]; exact kM5
  have m06 : gF h6 6 0 (o + 1) = .ref (o + 2) := by rw [p6.2.2.2.2 _ _ _ (fun z => absurd z.1 (by decide))]; exact m05
  have m16 : gF h6 6 1 (o + 1) = .ref (o + 4) := by rw [p6.2.2.2.2 _ _ _ (fun z => absurd z.1 (by decide))]; exact m15
  have f16 : gF h6 7 1 o = .ref (o + 1) := by rw [p6.2.2.2.2 _ _ _ (fun z => absurd z.2.1 (by decide))]; exact p5.2.2.2.1
  refine x_aload_n d_H_init_47 rfl rfl ?_
  refine x_aload_n d_H_init_48 rfl rfl ?_
  refine x_getf (v := .ref (o + 1)) d_H_init_49 lf_H_16 k6 f16 ?_
  refine x_getf (v := .ref (o + 4)) d_H_init_52 lf_H_25 kM6 m16 ?_
  refine y_putfF d_H_init_55 rfl lp_H_29 k6 (Or.inr ⟨_, rfl⟩) (fun h7 p7 => ?_)
  have k7 : gk h7 o = some (.inl 7) := by rw [p7.1]; exact k6
  refine x_aload_n d_H_init_58 rfl rfl ?_
  refine x_iconst (v := (nI 0)) d_H_init_59 (by decide) ?_
  refine y_putf d_H_init_60 lp_H_30 k7 ⟨_, rfl⟩ (fun h8 p8 => ?_)
  have sg8 := (((sg4.put p5 (by decide)).put p6 (by decide)).put p7 (by decide)).put p8 (by decide)
  have sl8 := (((sl4.put p5 (by decide)).put p6 (by decide)).put p7 (by decide)).put p8 (by decide)
  obtain ⟨sa, sb, sc, sd, s4⟩ := sl8
  have kM8 : gk h8 (o + 1) = some (.inl 6) := by rw [p8.1, p7.1]; exact kM6
  have m08 : gF h8 6 0 (o + 1) = .ref (o + 2) := by rw [p8.2.2.2.2 _ _ _ (fun z => absurd z.1 (by decide)), p7.2.2.2.2 _ _ _ (fun z => absurd z.1 (by decide))]; exact m06
  have m18 : gF h8 6 1 (o + 1) = .ref (o + 4) := by rw [p8.2.2.2.2 _ _ _ (fun z => absurd z.1 (by decide)), p7.2.2.2.2 _ _ _ (fun z => absurd z.1 (by decide))]; exact m16
  have f18 : gF h8 7 1 o = .ref (o + 1) := by rw [p8.2.2.2.2 _ _ _ (fun z => absurd z.2.1 (by decide)), p7.2.2.2.2 _ _ _ (fun z => absurd z.2.1 (by decide))]; exact f16
  have f28 : gF h8 7 2 o = .ref (o + 2) := by rw [p8.2.2.2.2 _ _ _ (fun z => absurd z.2.1 (by decide)), p7.2.2.2.2 _ _ _ (fun z => absurd z.2.1 (by decide))]; exact p6.2.2.2.1
  have f38 : gF h8 7 3 o = .ref (o + 4) := by rw [p8.2.2.2.2 _ _ _ (fun z => absurd z.2.1 (by decide))]; exact p7.2.2.2.1
  have f08 : gF h8 7 0 o = .int x := by rw [p8.2.2.2.2 _ _ _ (fun z => absurd z.2.1 (by decide)), p7.2.2.2.2 _ _ _ (fun z => absurd z.2.1 (by decide)), p6.2.2.2.2 _ _ _ (fun z => absurd z.2.1 (by decide)), p5.2.2.2.2 _ _ _ (fun z => absurd z.2.1 (by decide)), e4.f wf1 k2]; exact p1.2.2.2.1
  refine x_ret ⟨rfl, p8.2.1.trans (p7.2.1.trans (p6.2.1.trans (p5.2.1.trans z4))), ((((((NewO.rf o h).put p1).new e4).put p5).put p6).put p7).put p8, ⟨⟨?_, fun p hp => (sa.2.2.2 p hp).2⟩, ⟨f08, p8.2.2.2.1⟩, ⟨sg8.2.2.1, fun i q hq => by cases hq⟩, ⟨sb.2.2.2.1, fun i q hq => by cases hq⟩, s4, fun p hp => absurd hp (Nat.not_lt_zero _)⟩⟩ rfl d_H_init_63
  exact ⟨by rw [p8.1]; exact k7, f18, f28, f38, kM8, m08, m18, sg8.1, sg8.2.1, sg8.2.2.2, sa.1, sa.2.1, sb.1, sc.1, sd.1, sa.2.2.1, sb.2.1, sb.2.2.1, sb.2.2.2.2, sd.2.1, sc.2, sd.2.2, fun p hp => (sa.2.2.2 p hp).1⟩
theorem c_H_init {E : th_E} {h : th_H} {o : Nat} (q : Int32) (k1 : gk h o = some (.inl 7)) (hz : gz h = o + 1) : Xc E m_H_init 5 97 880 [.ref o, .int q] h (fun v h' => v = none ∧ gz h' = o + 98 ∧ NewO o h h' ∧ CR o (hoM q) h') := by
  refine Xc.of (by decide) (by simp [Value.category]) (Nat.le_of_ble_eq_true rfl) ?_
  show Xw E m_H_init 5 97 880 0 [some (.ref o), some (.int q)] [] h _
  have e50 : (50 : Int32) = nI 50 := rfl
  have key := fun x => H_init_22 (E := E) (q := q) x k1 hz
  refine x_aload_n d_H_init_0 rfl rfl ?_
  refine x_objinit d_H_init_1 lo_H_1 k_oi1 k_oi2 (by decide) (Nat.le_of_ble_eq_true rfl) ?_
  refine x_aload_n d_H_init_4 rfl rfl ?_
  refine x_iload_n d_H_init_5 rfl rfl ?_
  refine x_iconst (v := 1) d_H_init_6 (by decide) ?_
  refine x_icmp_lt (tgt := 20) d_H_init_7 rfl (fun q1 => ?_) (fun q1 => ?_)
  · refine x_bipush (v := 8) d_H_init_20 (by decide) ?_
    have e : hoM q = (8, (hoM 0).2) := by unfold hoM qM; rw [if_pos (Or.inl q1)]
    rw [e]
    exact key 8
  · refine x_iload_n d_H_init_10 rfl rfl ?_
    refine x_bipush (v := 50) d_H_init_11 (by decide) ?_
    refine x_icmp_gt (tgt := 20) d_H_init_13 rfl (fun q2 => ?_) (fun q2 => ?_)
    · refine x_bipush (v := 8) d_H_init_20 (by decide) ?_
      have e : hoM q = (8, (hoM 0).2) := by unfold hoM qM; rw [if_pos (Or.inr q2)]
      rw [e]
      exact key 8
    · refine x_iload_n d_H_init_16 rfl rfl ?_
      refine x_goto (tgt := 22) d_H_init_17 rfl ?_
      have e : hoM q = (q, (hoM 0).2) := by unfold hoM qM; rw [if_neg (fun z => z.elim q1 q2)]
      rw [e]
      exact key q
