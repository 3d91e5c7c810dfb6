/-! Terms: the mathematical ones, and the class's (printed by wip/gen/mod_term.py). -/
abbrev Tm : Type := Lean.RArray (Int32 × Int32)
def tW : Tm → Nat
  | .leaf _ => 1
  | .branch _ l r => 1 + tW l + tW r
def tS : Tm → Int32
  | .leaf q => q.1
  | .branch k _ _ => nI k
def tN : Tm → Int32
  | .leaf q => q.2
  | .branch _ _ _ => 0
/-- well made: sorts 0 .. 3 without parts (nil's number is 0), 4 and 5 with two -/
def tOk : Tm → Prop
  | .leaf q => (q.1 = 0 ∨ q.1 = 1 ∨ q.1 = 2) ∨ q = (3, 0)
  | .branch k l r => (k = 4 ∨ k = 5) ∧ tOk l ∧ tOk r
def tB : Tm → Bool
  | .leaf _ => false
  | .branch _ _ _ => true
/-- the term t lies at the address a -/
def TR (h : th_H) : Tm → Nat → Prop
  | .leaf q, a => gk h a = some (.inl 0) ∧ gF h 0 0 a = .int q.1 ∧ gF h 0 1 a = .int q.2 ∧ gF h 0 2 a = .null ∧ gF h 0 3 a = .null ∧ gF h 0 4 a = .int (nI 1)
  | .branch k l r, a => gk h a = some (.inl 0) ∧ gF h 0 0 a = .int (nI k) ∧ gF h 0 1 a = .int 0 ∧ (∃ x, gF h 0 2 a = .ref x ∧ TR h l x) ∧ (∃ y, gF h 0 3 a = .ref y ∧ TR h r y) ∧ gF h 0 4 a = .int (nI (1 + tW l + tW r))
theorem TR.k {h : th_H} {t : Tm} {a : Nat} (q : TR h t a) : gk h a = some (.inl 0) := by cases t <;> exact q.1
theorem TR.s {h : th_H} {t : Tm} {a : Nat} (q : TR h t a) : gF h 0 0 a = .int (tS t) := by cases t <;> exact q.2.1
theorem TR.n {h : th_H} {t : Tm} {a : Nat} (q : TR h t a) : gF h 0 1 a = .int (tN t) := by cases t <;> exact q.2.2.1
theorem TR.w {h : th_H} {t : Tm} {a : Nat} (q : TR h t a) : gF h 0 4 a = .int (nI (tW t)) := by cases t <;> exact q.2.2.2.2.2
theorem tW_pos (t : Tm) : 1 ≤ tW t := by cases t <;> simp [tW] <;> omega
/-- terms stay -/
def TE (h h' : th_H) : Prop := ∀ a, gk h a = some (.inl 0) → gk h' a = some (.inl 0) ∧ ∀ k, gF h' 0 k a = gF h 0 k a
theorem TE.rf (h : th_H) : TE h h := fun _ q => ⟨q, fun _ => rfl⟩
theorem TE.tr {h h1 h2 : th_H} (a : TE h h1) (b : TE h1 h2) : TE h h2 := fun x q => ⟨(b x (a x q).1).1, fun k => ((b x (a x q).1).2 k).trans ((a x q).2 k)⟩
theorem TE.pF {h h1 : th_H} {ci k a : Nat} {v : Value} (e : TE h h1) (hc : ci ≠ 0) : TE h (gpF h1 ci k a v) := fun x q => ⟨(e x q).1, fun j => by rw [gF_pF, if_neg (fun z => hc z.1.symm)]; exact (e x q).2 j⟩
theorem TE.pA {h h1 : th_H} {t a i : Nat} {v : Value} (e : TE h h1) : TE h (gpA h1 t a i v) := e
theorem TE.sA {h h1 : th_H} {t a : Nat} {f : Nat → Value} (e : TE h h1) : TE h (gsA h1 t a f) := e
theorem TR.mono {h h' : th_H} (e : TE h h') : ∀ (t : Tm) (a : Nat), TR h t a → TR h' t a
  | .leaf q, a, ⟨q1, q2, q3, q4, q5, q6⟩ => ⟨(e a q1).1, by rw [(e a q1).2]; exact q2, by rw [(e a q1).2]; exact q3, by rw [(e a q1).2]; exact q4, by rw [(e a q1).2]; exact q5, by rw [(e a q1).2]; exact q6⟩
  | .branch k l r, a, ⟨q1, q2, q3, ⟨x, q4, q5⟩, ⟨y, q6, q7⟩, q8⟩ => ⟨(e a q1).1, by rw [(e a q1).2]; exact q2, by rw [(e a q1).2]; exact q3, ⟨x, by rw [(e a q1).2]; exact q4, TR.mono e l x q5⟩, ⟨y, by rw [(e a q1).2]; exact q6, TR.mono e r y q7⟩, by rw [(e a q1).2]; exact q8⟩
def WFh (h : th_H) : Prop := ∀ a k, gk h a = some k → a < gz h
theorem Xw.wf {E : th_E} {M : th_M} {d cz cs pc : Nat} {L : List (Option Value)} {S : List Value} {h : th_H} {Post : Option Value → th_H → Prop} (w : WFh h → Xw E M d cz cs pc L S h Post) : Xw E M d cz cs pc L S h Post := by
  intro p l e R s m args below meth c H locs cells slots ls Q Y
  exact w (fun a k q => Y.2.1.lt q) p l e R s m args below meth c H locs cells slots ls Q Y
/-- the fields of a term are set -/
def gT (h : th_H) (a : Nat) (s n : Int32) (x y : Value) (w : Int32) : th_H := gpF (gpF (gpF (gpF (gpF h 0 0 a (.int s)) 0 1 a (.int n)) 0 2 a x) 0 3 a y) 0 4 a (.int w)
/-- a new term -/
def gnT (h : th_H) (s n : Int32) (x y : Value) (w : Int32) : th_H := gT (gnO h 0 dv_T) (gz h) s n x y w
theorem gk_nT (h : th_H) (s n : Int32) (x y : Value) (w : Int32) (a : Nat) : gk (gnT h s n x y w) a = if a = gz h then some (.inl 0) else gk h a := id rfl
theorem gA_nT (h : th_H) (s n : Int32) (x y : Value) (w : Int32) : gA (gnT h s n x y w) = gA h := id rfl
theorem gz_nT (h : th_H) (s n : Int32) (x y : Value) (w : Int32) : gz (gnT h s n x y w) = gz h + 1 := id rfl
theorem gF_nT (h : th_H) (s n : Int32) (x y : Value) (w : Int32) (c k a : Nat) (q : c ≠ 0 ∨ a ≠ gz h) : gF (gnT h s n x y w) c k a = gF h c k a := by
  unfold gnT gT
  simp only [gF_pF, gF_nO]
  rcases q with q | q <;> simp [q]
theorem TE.nT {h h1 : th_H} {s n : Int32} {x y : Value} {w : Int32} (wf : WFh h) (e : TE h h1) (hz : gz h ≤ gz h1) : TE h (gnT h1 s n x y w) := fun a q => by
  have ha := wf a _ q
  refine ⟨?_, fun k => ?_⟩
  · rw [gk_nT, if_neg (by omega)]; exact (e a q).1
  · rw [gF_nT _ _ _ _ _ _ _ _ _ (Or.inr (by omega))]; exact (e a q).2 k
theorem gF_gT (h : th_H) (a : Nat) (s n : Int32) (x y : Value) (w : Int32) (k : Nat) : gF (gT h a s n x y w) 0 k a = if k = 4 then .int w else if k = 3 then y else if k = 2 then x else if k = 1 then .int n else if k = 0 then .int s else gF h 0 k a := by
  unfold gT
  simp only [gF_pF, true_and, and_true]
theorem gF_nT0 (h : th_H) (s n : Int32) (x y : Value) (w : Int32) (k : Nat) : gF (gnT h s n x y w) 0 k (gz h) = if k = 4 then .int w else if k = 3 then y else if k = 2 then x else if k = 1 then .int n else if k = 0 then .int s else dv_T k := by
  unfold gnT
  rw [gF_gT]
  simp only [gF_nO, true_and, if_true]
theorem TR_leaf (h : th_H) (s n : Int32) : TR (gnT h s n .null .null (nI 1)) (.leaf (s, n)) (gz h) := by
  unfold TR
  refine ⟨by rw [gk_nT, if_pos rfl], ?_, ?_, ?_, ?_, ?_⟩ <;> rw [gF_nT0] <;> simp only [if_true] <;> rfl
theorem TR_branch {h : th_H} (wf : WFh h) {k : Nat} {l r : Tm} {x y : Nat} (ql : TR h l x) (qr : TR h r y) : TR (gnT h (nI k) 0 (.ref x) (.ref y) (nI (1 + tW l + tW r))) (.branch k l r) (gz h) := by
  have e : TE h (gnT h (nI k) 0 (.ref x) (.ref y) (nI (1 + tW l + tW r))) := TE.nT wf (TE.rf h) (Nat.le_refl _)
  unfold TR
  refine ⟨by rw [gk_nT, if_pos rfl], ?_, ?_, ⟨x, ?_, TR.mono e l x ql⟩, ⟨y, ?_, TR.mono e r y qr⟩, ?_⟩ <;> rw [gF_nT0] <;> simp only [if_true] <;> rfl
theorem WFh.nT {h : th_H} {s n : Int32} {x y : Value} {w : Int32} (wf : WFh h) : WFh (gnT h s n x y w) := fun a k q => by
  rw [gz_nT]
  rw [gk_nT] at q
  by_cases ha : a = gz h
  · omega
  · rw [if_neg ha] at q
    have := wf a k q
    omega
theorem c_T_init {E : th_E} {h : th_H} {a : Nat} (s n : Int32) (k1 : gk h a = some (.inl 0)) : Xc E m_T_init 1 0 0 [.ref a, .int s, .int n] h (Ex none (gT h a s n .null .null (nI 1))) := by
  refine Xc.of (by decide) (by simp [Value.category]) (Nat.le_of_ble_eq_true rfl) ?_
  show Xw E m_T_init 1 0 0 0 [some (.ref a), some (.int s), some (.int n)] [] h _
  refine x_aload_n d_T_init_0 rfl rfl ?_
  refine x_objinit d_T_init_1 lo_T_3 k_oi1 k_oi2 (Nat.le_refl 1) (Nat.le_of_ble_eq_true rfl) ?_
  refine x_aload_n d_T_init_4 rfl rfl ?_
  refine x_iload_n d_T_init_5 rfl rfl ?_
  refine x_putfF d_T_init_6 rfl lp_T_9 k1 ⟨_, rfl⟩ ?_
  refine x_aload_n d_T_init_9 rfl rfl ?_
  refine x_iload_n d_T_init_10 rfl rfl ?_
  refine x_putfF d_T_init_11 rfl lp_T_15 k1 ⟨_, rfl⟩ ?_
  refine x_aload_n d_T_init_14 rfl rfl ?_
  refine x_null d_T_init_15 ?_
  refine x_putfF d_T_init_16 rfl lp_T_18 k1 (Or.inl rfl) ?_
  refine x_aload_n d_T_init_19 rfl rfl ?_
  refine x_null d_T_init_20 ?_
  refine x_putfF d_T_init_21 rfl lp_T_22 k1 (Or.inl rfl) ?_
  refine x_aload_n d_T_init_24 rfl rfl ?_
  refine x_iconst (v := 1) d_T_init_25 (by decide) ?_
  refine x_putfF d_T_init_26 rfl lp_T_25 k1 ⟨_, rfl⟩ ?_
  exact x_ret ⟨rfl, rfl⟩ rfl d_T_init_29
theorem c_T_init2 {E : th_E} {h : th_H} {a x y wx wy : Nat} (s : Int32) (k1 : gk h a = some (.inl 0)) (kx : gk h x = some (.inl 0)) (ky : gk h y = some (.inl 0)) (fx : gF h 0 4 x = .int (nI wx)) (fy : gF h 0 4 y = .int (nI wy)) : Xc E m_T_init2 1 0 0 [.ref a, .int s, .ref x, .ref y] h (Ex none (gT h a s 0 (.ref x) (.ref y) (nI (1 + wx + wy)))) := by
  refine Xc.of (by decide) (by simp [Value.category]) (Nat.le_of_ble_eq_true rfl) ?_
  show Xw E m_T_init2 1 0 0 0 [some (.ref a), some (.int s), some (.ref x), some (.ref y)] [] h _
  refine x_aload_n d_T_init2_0 rfl rfl ?_
  refine x_objinit d_T_init2_1 lo_T_3 k_oi1 k_oi2 (Nat.le_refl 1) (Nat.le_of_ble_eq_true rfl) ?_
  refine x_aload_n d_T_init2_4 rfl rfl ?_
  refine x_iload_n d_T_init2_5 rfl rfl ?_
  refine x_putfF d_T_init2_6 rfl lp_T_9 k1 ⟨_, rfl⟩ ?_
  refine x_aload_n d_T_init2_9 rfl rfl ?_
  refine x_iconst (v := 0) d_T_init2_10 (by decide) ?_
  refine x_putfF d_T_init2_11 rfl lp_T_15 k1 ⟨_, rfl⟩ ?_
  refine x_aload_n d_T_init2_14 rfl rfl ?_
  refine x_aload_n d_T_init2_15 rfl rfl ?_
  refine x_putfF d_T_init2_16 rfl lp_T_18 k1 (Or.inr ⟨_, rfl⟩) ?_
  refine x_aload_n d_T_init2_19 rfl rfl ?_
  refine x_aload_n d_T_init2_20 rfl rfl ?_
  refine x_putfF d_T_init2_21 rfl lp_T_22 k1 (Or.inr ⟨_, rfl⟩) ?_
  refine x_aload_n d_T_init2_24 rfl rfl ?_
  refine x_iconst (v := 1) d_T_init2_25 (by decide) ?_
  refine x_aload_n d_T_init2_26 rfl rfl ?_
  refine x_getf (v := .int (nI wx)) d_T_init2_27 lf_T_25 kx (by simp [gF_pF, gF_pA, gF_nO, gF_nA, fx]) ?_
  refine x_iadd (v := (nI (1 + wx))) d_T_init2_30 (nI_add 1 wx) ?_
  refine x_aload_n d_T_init2_31 rfl rfl ?_
  refine x_getf (v := .int (nI wy)) d_T_init2_32 lf_T_25 ky (by simp [gF_pF, gF_pA, gF_nO, gF_nA, fy]) ?_
  refine x_iadd (v := (nI (1 + wx + wy))) d_T_init2_35 (nI_add _ _) ?_
  refine x_putfF d_T_init2_36 rfl lp_T_25 k1 ⟨_, rfl⟩ ?_
  exact x_ret ⟨rfl, rfl⟩ rfl d_T_init2_39
theorem c_T_joined_no {E : th_E} {h : th_H} {x y wx wy : Nat} (s : Int32) (kx : gk h x = some (.inl 0)) (ky : gk h y = some (.inl 0)) (fx : gF h 0 4 x = .int (nI wx)) (fy : gF h 0 4 y = .int (nI wy)) (hw : 15 < 1 + wx + wy) (hb : 1 + wx + wy < 2 ^ 31) : Xc E m_T_joined 2 0 0 [.int s, .ref x, .ref y] h (Ex (some .null) h) := by
  refine Xc.of (by decide) (by simp [Value.category]) (Nat.le_of_ble_eq_true rfl) ?_
  show Xw E m_T_joined 2 0 0 0 [some (.int s), some (.ref x), some (.ref y)] [] h _
  refine x_iconst (v := 1) d_T_joined_0 (by decide) ?_
  refine x_aload_n d_T_joined_1 rfl rfl ?_
  refine x_getf (v := .int (nI wx)) d_T_joined_2 lf_T_25 kx fx ?_
  refine x_iadd (v := (nI (1 + wx))) d_T_joined_5 (nI_add 1 wx) ?_
  refine x_aload_n d_T_joined_6 rfl rfl ?_
  refine x_getf (v := .int (nI wy)) d_T_joined_7 lf_T_25 ky fy ?_
  refine x_iadd (v := (nI (1 + wx + wy))) d_T_joined_10 (nI_add _ _) ?_
  refine x_bipush (v := 15) d_T_joined_11 (by decide) ?_
  refine x_icmp_le (tgt := 20) d_T_joined_13 rfl (fun q => absurd q (nI_ge (a := 15) hw hb)) (fun q13 => ?_)
  refine x_null d_T_joined_16 ?_
  refine x_goto (tgt := 30) d_T_joined_17 rfl ?_
  exact x_aret d_T_joined_30 rfl (Or.inl ⟨_, rfl⟩) (Or.inl rfl) ⟨rfl, rfl⟩
theorem c_T_joined {E : th_E} {h : th_H} {x y wx wy : Nat} (s : Int32) (kx : gk h x = some (.inl 0)) (ky : gk h y = some (.inl 0)) (fx : gF h 0 4 x = .int (nI wx)) (fy : gF h 0 4 y = .int (nI wy)) (hw : 1 + wx + wy ≤ 15) : Xc E m_T_joined 2 1 5 [.int s, .ref x, .ref y] h (Ex (some (.ref (gz h))) (gnT h s 0 (.ref x) (.ref y) (nI (1 + wx + wy)))) := by
  refine Xc.of (by decide) (by simp [Value.category]) (Nat.le_of_ble_eq_true rfl) ?_
  show Xw E m_T_joined 2 1 5 0 [some (.int s), some (.ref x), some (.ref y)] [] h _
  refine Xw.wf (fun wf => ?_)
  refine x_iconst (v := 1) d_T_joined_0 (by decide) ?_
  refine x_aload_n d_T_joined_1 rfl rfl ?_
  refine x_getf (v := .int (nI wx)) d_T_joined_2 lf_T_25 kx fx ?_
  refine x_iadd (v := (nI (1 + wx))) d_T_joined_5 (nI_add 1 wx) ?_
  refine x_aload_n d_T_joined_6 rfl rfl ?_
  refine x_getf (v := .int (nI wy)) d_T_joined_7 lf_T_25 ky fy ?_
  refine x_iadd (v := (nI (1 + wx + wy))) d_T_joined_10 (nI_add _ _) ?_
  refine x_bipush (v := 15) d_T_joined_11 (by decide) ?_
  refine x_icmp_le (tgt := 20) d_T_joined_13 rfl (fun q13 => ?_) (fun q => absurd (nI_le (b := 15) hw (by decide)) q)
  refine x_new d_T_joined_20 ln_T_10 (cz' := 0) (Nat.le_refl 1) (cs' := 0) (Nat.le_refl 5) ?_
  refine x_dup d_T_joined_23 rfl ?_
  refine x_iload_n d_T_joined_24 rfl rfl ?_
  refine x_aload_n d_T_joined_25 rfl rfl ?_
  refine x_aload_n d_T_joined_26 rfl rfl ?_
  refine x_invi d_T_joined_27 lm_T_28 (as := [.int s, .ref x, .ref y]) (S := [.ref (gz h)]) (c_T_init2 s (by rw [gk_nO, if_pos rfl]) (by rw [gk_nO, if_neg (Nat.ne_of_lt (wf x _ kx))]; exact kx) (by rw [gk_nO, if_neg (Nat.ne_of_lt (wf y _ ky))]; exact ky) (by rw [gF_nO, if_neg (fun z => Nat.ne_of_lt (wf x _ kx) z.2)]; exact fx) (by rw [gF_nO, if_neg (fun z => Nat.ne_of_lt (wf y _ ky) z.2)]; exact fy)) rfl rfl (Nat.le_of_ble_eq_true rfl) (Nat.le_refl 2) (Nat.le_refl 0) (Nat.le_refl 0) ?_
  rintro _ _ ⟨rfl, rfl⟩
  exact x_aret d_T_joined_30 rfl (Or.inl ⟨_, rfl⟩) (Or.inr ⟨_, rfl⟩) ⟨rfl, rfl⟩
theorem c_T_hasParts {E : th_E} {h : th_H} {a : Nat} {t : Tm} (q : TR h t a) : Xc E m_T_hasParts 0 0 0 [.ref a] h (Ex (some (.int (if tB t then 1 else 0))) h) := by
  refine Xc.of (by decide) (by simp [Value.category]) (Nat.le_of_ble_eq_true rfl) ?_
  show Xw E m_T_hasParts 0 0 0 0 [some (.ref a)] [] h _
  cases t with
  | leaf u =>
    refine x_aload_n d_T_hasParts_0 rfl rfl ?_
    refine x_getf (v := .null) d_T_hasParts_1 lf_T_18 q.1 q.2.2.2.1 ?_
    refine x_ifnullN (tgt := 18) d_T_hasParts_4 rfl ?_
    refine x_iconst (v := 0) d_T_hasParts_18 (by decide) ?_
    exact x_iret d_T_hasParts_19 rfl rfl ⟨rfl, rfl⟩
  | branch k l r =>
    obtain ⟨x, hx, -⟩ := q.2.2.2.1
    obtain ⟨y, hy, -⟩ := q.2.2.2.2.1
    refine x_aload_n d_T_hasParts_0 rfl rfl ?_
    refine x_getf (v := .ref x) d_T_hasParts_1 lf_T_18 q.1 hx ?_
    refine x_ifnull d_T_hasParts_4 ?_
    refine x_aload_n d_T_hasParts_7 rfl rfl ?_
    refine x_getf (v := .ref y) d_T_hasParts_8 lf_T_22 q.1 hy ?_
    refine x_ifnull d_T_hasParts_11 ?_
    refine x_iconst (v := 1) d_T_hasParts_14 (by decide) ?_
    refine x_goto (tgt := 19) d_T_hasParts_15 rfl ?_
    exact x_iret d_T_hasParts_19 rfl rfl ⟨rfl, rfl⟩
theorem c_T_hasNumber {E : th_E} {h : th_H} {a : Nat} {s r : Int32} (k1 : gk h a = some (.inl 0)) (fs : gF h 0 0 a = .int s) (hr : (s = 0 ∨ s = 1 ∨ s = 2 → r = 1) ∧ (¬ (s = 0 ∨ s = 1 ∨ s = 2) → r = 0)) : Xc E m_T_hasNumber 0 0 0 [.ref a] h (Ex (some (.int r)) h) := by
  refine Xc.of (by decide) (by simp [Value.category]) (Nat.le_of_ble_eq_true rfl) ?_
  show Xw E m_T_hasNumber 0 0 0 0 [some (.ref a)] [] h _
  refine x_aload_n d_T_hasNumber_0 rfl rfl ?_
  refine x_getf (v := .int s) d_T_hasNumber_1 lf_T_9 k1 fs ?_
  refine x_if_eq (tgt := 23) d_T_hasNumber_4 rfl (fun q4 => ?_) (fun q4 => ?_)
  · obtain rfl : r = 1 := hr.1 (Or.inl q4)
    refine x_iconst (v := 1) d_T_hasNumber_23 (by decide) ?_
    refine x_goto (tgt := 28) d_T_hasNumber_24 rfl ?_
    exact x_iret d_T_hasNumber_28 rfl rfl ⟨rfl, rfl⟩
  · refine x_aload_n d_T_hasNumber_7 rfl rfl ?_
    refine x_getf (v := .int s) d_T_hasNumber_8 lf_T_9 k1 fs ?_
    refine x_iconst (v := 1) d_T_hasNumber_11 (by decide) ?_
    refine x_icmp_eq (tgt := 23) d_T_hasNumber_12 rfl (fun q12 => ?_) (fun q12 => ?_)
    · obtain rfl : r = 1 := hr.1 (Or.inr (Or.inl q12))
      refine x_iconst (v := 1) d_T_hasNumber_23 (by decide) ?_
      refine x_goto (tgt := 28) d_T_hasNumber_24 rfl ?_
      exact x_iret d_T_hasNumber_28 rfl rfl ⟨rfl, rfl⟩
    · refine x_aload_n d_T_hasNumber_15 rfl rfl ?_
      refine x_getf (v := .int s) d_T_hasNumber_16 lf_T_9 k1 fs ?_
      refine x_iconst (v := 2) d_T_hasNumber_19 (by decide) ?_
      refine x_icmp_ne (tgt := 27) d_T_hasNumber_20 rfl (fun q20 => ?_) (fun q20 => ?_)
      · obtain rfl : r = 0 := hr.2 (fun z => z.elim q4 (fun z => z.elim q12 q20))
        refine x_iconst (v := 0) d_T_hasNumber_27 (by decide) ?_
        exact x_iret d_T_hasNumber_28 rfl rfl ⟨rfl, rfl⟩
      · obtain rfl : r = 1 := hr.1 (Or.inr (Or.inr q20))
        refine x_iconst (v := 1) d_T_hasNumber_23 (by decide) ?_
        refine x_goto (tgt := 28) d_T_hasNumber_24 rfl ?_
        exact x_iret d_T_hasNumber_28 rfl rfl ⟨rfl, rfl⟩
def jfm (x y : Int32) : Int32 := if (x ^^^ y) < 0 ∧ ¬ x - x / y * y = 0 then x - x / y * y + y else x - x / y * y
def tNum (t : Tm) : Bool := tS t = 0 ∨ tS t = 1 ∨ tS t = 2
theorem i32_nl {x : Int32} (h : 0 ≤ x) : ¬ x < 0 := fun z => by
  have h1 := Int32.le_iff_toInt_le.mp h
  have h2 := Int32.lt_iff_toInt_lt.mp z
  omega
theorem i32_nge {x : Int32} (h : ¬ 0 ≤ x) : x < 0 := by
  refine Int32.lt_iff_toInt_lt.mpr ?_
  have h1 : ¬ (0 : Int32).toInt ≤ x.toInt := fun z => h (Int32.le_iff_toInt_le.mpr z)
  omega
theorem c_J_floorMod {E : th_E} {h : th_H} (x y : Int32) (hy : ¬ y = 0) : Xc E m_J_floorMod 0 0 0 [.int x, .int y] h (Ex (some (.int (jfm x y))) h) := by
  refine Xc.ofF (by decide +kernel) (by simp [Value.category]) (Nat.le_of_ble_eq_true rfl) ?_
  show Xw E m_J_floorMod 0 0 0 0 [some (.int x), some (.int y), none] [] h _
  refine x_iload_n d_J_floorMod_0 rfl rfl ?_
  refine x_iload_n d_J_floorMod_1 rfl rfl ?_
  refine x_irem (v := (x - x / y * y)) d_J_floorMod_2 hy rfl ?_
  refine x_istore_n d_J_floorMod_3 rfl (by decide) (L' := [some (.int x), some (.int y), some (.int (x - x / y * y))]) rfl ?_
  refine x_iload_n d_J_floorMod_4 rfl rfl ?_
  refine x_iload_n d_J_floorMod_5 rfl rfl ?_
  refine x_ixor (v := (x ^^^ y)) d_J_floorMod_6 rfl ?_
  refine x_if_ge (tgt := 18) d_J_floorMod_7 rfl (fun q7 => ?_) (fun q7 => ?_)
  · refine x_iload_n d_J_floorMod_18 rfl rfl ?_
    exact x_iret d_J_floorMod_19 rfl rfl ⟨by rw [jfm, if_neg (fun z => i32_nl q7 z.1)], rfl⟩
  · refine x_iload_n d_J_floorMod_10 rfl rfl ?_
    refine x_if_eq (tgt := 18) d_J_floorMod_11 rfl (fun q11 => ?_) (fun q11 => ?_)
    · refine x_iload_n d_J_floorMod_18 rfl rfl ?_
      exact x_iret d_J_floorMod_19 rfl rfl ⟨by rw [jfm, if_neg (fun z => z.2 q11)], rfl⟩
    · refine x_iload_n d_J_floorMod_14 rfl rfl ?_
      refine x_iload_n d_J_floorMod_15 rfl rfl ?_
      refine x_iadd (v := ((x - x / y * y) + y)) d_J_floorMod_16 rfl ?_
      exact x_iret d_J_floorMod_17 rfl rfl ⟨by rw [jfm, if_pos ⟨i32_nge q7, q11⟩], rfl⟩
def tSum (t : Tm) : Int32 := 1000000 * tS t + 100 * nI (tW t) + (if tS t = 0 ∨ tS t = 1 ∨ tS t = 2 then jfm (tN t) 100 else 0)
theorem c_T_summary {E : th_E} {h : th_H} {a : Nat} {t : Tm} (q : TR h t a) : Xc E m_T_summary 1 0 0 [.ref a] h (Ex (some (.int (tSum t))) h) := by
  refine Xc.of (by decide) (by simp [Value.category]) (Nat.le_of_ble_eq_true rfl) ?_
  show Xw E m_T_summary 1 0 0 0 [some (.ref a), none] [] h _
  by_cases hn : tS t = 0 ∨ tS t = 1 ∨ tS t = 2
  · refine x_aload_n d_T_summary_0 rfl rfl ?_
    refine x_invv d_T_summary_1 lm_T_31 (as := []) (S := []) (c_T_hasNumber q.k q.s ⟨fun _ => rfl, fun z => absurd hn z⟩) q.k rfl rfl rfl (Nat.le_of_ble_eq_true rfl) (Nat.le_refl 1) (Nat.le_refl 0) (Nat.le_refl 0) ?_
    rintro _ _ ⟨rfl, rfl⟩
    refine x_if_eq (tgt := 19) d_T_summary_4 rfl (fun q => absurd q (by decide)) (fun q4 => ?_)
    refine x_aload_n d_T_summary_7 rfl rfl ?_
    refine x_getf (v := .int (tN t)) d_T_summary_8 lf_T_15 q.k q.n ?_
    refine x_bipush (v := 100) d_T_summary_11 (by decide) ?_
    refine x_invs d_T_summary_13 lm_T_35 (as := [.int (tN t), .int 100]) (S := []) (c_J_floorMod (tN t) 100 (by decide)) rfl rfl (Nat.le_of_ble_eq_true rfl) (Nat.le_refl 1) (Nat.le_refl 0) (Nat.le_refl 0) ?_
    rintro _ _ ⟨rfl, rfl⟩
    refine x_goto (tgt := 20) d_T_summary_16 rfl ?_
    refine x_istore_n d_T_summary_20 rfl (by decide) (L' := [some (.ref a), some (.int (jfm (tN t) 100))]) rfl ?_
    refine x_ldc d_T_summary_21 lk_T_41 ?_
    refine x_aload_n d_T_summary_23 rfl rfl ?_
    refine x_getf (v := .int (tS t)) d_T_summary_24 lf_T_9 q.k q.s ?_
    refine x_imul (v := (1000000 * (tS t))) d_T_summary_27 rfl ?_
    refine x_bipush (v := 100) d_T_summary_28 (by decide) ?_
    refine x_aload_n d_T_summary_30 rfl rfl ?_
    refine x_getf (v := .int (nI (tW t))) d_T_summary_31 lf_T_25 q.k q.w ?_
    refine x_imul (v := (100 * (nI (tW t)))) d_T_summary_34 rfl ?_
    refine x_iadd (v := ((1000000 * (tS t)) + (100 * (nI (tW t))))) d_T_summary_35 rfl ?_
    refine x_iload_n d_T_summary_36 rfl rfl ?_
    refine x_iadd (v := (((1000000 * (tS t)) + (100 * (nI (tW t)))) + (jfm (tN t) 100))) d_T_summary_37 rfl ?_
    exact x_iret d_T_summary_38 rfl rfl ⟨by rw [tSum, if_pos hn], rfl⟩
  · refine x_aload_n d_T_summary_0 rfl rfl ?_
    refine x_invv d_T_summary_1 lm_T_31 (as := []) (S := []) (c_T_hasNumber q.k q.s ⟨fun z => absurd z hn, fun _ => rfl⟩) q.k rfl rfl rfl (Nat.le_of_ble_eq_true rfl) (Nat.le_refl 1) (Nat.le_refl 0) (Nat.le_refl 0) ?_
    rintro _ _ ⟨rfl, rfl⟩
    refine x_if_eq (tgt := 19) d_T_summary_4 rfl (fun q4 => ?_) (fun q => absurd rfl q)
    refine x_iconst (v := 0) d_T_summary_19 (by decide) ?_
    refine x_istore_n d_T_summary_20 rfl (by decide) (L' := [some (.ref a), some (.int 0)]) rfl ?_
    refine x_ldc d_T_summary_21 lk_T_41 ?_
    refine x_aload_n d_T_summary_23 rfl rfl ?_
    refine x_getf (v := .int (tS t)) d_T_summary_24 lf_T_9 q.k q.s ?_
    refine x_imul (v := (1000000 * (tS t))) d_T_summary_27 rfl ?_
    refine x_bipush (v := 100) d_T_summary_28 (by decide) ?_
    refine x_aload_n d_T_summary_30 rfl rfl ?_
    refine x_getf (v := .int (nI (tW t))) d_T_summary_31 lf_T_25 q.k q.w ?_
    refine x_imul (v := (100 * (nI (tW t)))) d_T_summary_34 rfl ?_
    refine x_iadd (v := ((1000000 * (tS t)) + (100 * (nI (tW t))))) d_T_summary_35 rfl ?_
    refine x_iload_n d_T_summary_36 rfl rfl ?_
    refine x_iadd (v := (((1000000 * (tS t)) + (100 * (nI (tW t)))) + 0)) d_T_summary_37 rfl ?_
    exact x_iret d_T_summary_38 rfl rfl ⟨by rw [tSum, if_neg hn], rfl⟩
