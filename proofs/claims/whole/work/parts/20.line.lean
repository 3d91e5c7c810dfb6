/-! Line: the queue's cells (printed by wip/gen/mod_line.py). -/
/-- an exact end: this answer, this heap -/
abbrev Ex (V : Option Value) (H' : th_H) : Option Value → th_H → Prop := fun v h' => v = V ∧ H' = h'
/-- all elements of an array at once -/
def gsA (h : th_H) (t a : Nat) (f : Nat → Value) : th_H := (gk h, gF h, fun t' a' i => if t' = t ∧ a' = a then f i else gA h t' a' i, gz h)
theorem gk_sA (h : th_H) (t a : Nat) (f : Nat → Value) : gk (gsA h t a f) = gk h := id rfl
theorem gF_sA (h : th_H) (t a : Nat) (f : Nat → Value) : gF (gsA h t a f) = gF h := id rfl
theorem gz_sA (h : th_H) (t a : Nat) (f : Nat → Value) : gz (gsA h t a f) = gz h := id rfl
theorem gA_sA (h : th_H) (t a : Nat) (f : Nat → Value) (t' a' i : Nat) : gA (gsA h t a f) t' a' i = if t' = t ∧ a' = a then f i else gA h t' a' i := id rfl
theorem gpA_sA (h : th_H) (t a : Nat) (f : Nat → Value) (i : Nat) (v : Value) : gpA (gsA h t a f) t a i v = gsA h t a (fun j => if j = i then v else f j) := by
  unfold gpA gsA
  refine Prod.ext rfl (Prod.ext rfl (Prod.ext ?_ rfl))
  funext t' a' j
  show up3 _ _ _ _ _ _ _ _ = _
  simp only [up3, gA]
  by_cases h1 : t' = t <;> by_cases h2 : a' = a <;> by_cases h3 : j = i <;> simp [h1, h2, h3]
theorem gsA_self (h : th_H) (t a : Nat) : gsA h t a (gA h t a) = h := by
  unfold gsA
  refine Prod.ext rfl (Prod.ext rfl (Prod.ext ?_ rfl))
  funext t' a' j
  show (if t' = t ∧ a' = a then _ else _) = _
  by_cases h1 : t' = t <;> by_cases h2 : a' = a <;> simp [h1, h2, gA]
theorem nI_neg1 {k : Int32} (h : ¬ k < 0) : ∃ j : Nat, j < 2 ^ 31 ∧ k = nI j := nI_of h
theorem nI_cl {n : Nat} (h : n < 2 ^ 31) : (nI n).toNatClampNeg = n := nI_clamp h
theorem c_L_empty {E : th_E} {h : th_H} {ln na n : Nat} {q : Nat → Int32} (k1 : gk h ln = some (.inl 3)) (k2 : gk h na = some (.inr (1, 12))) (f0 : gF h 3 0 ln = .ref na) (f1 : gF h 3 1 ln = .int (nI n)) : Xc E m_L_empty 0 0 0 [.ref ln] h (Ex none (gpF h 3 1 ln (.int 0))) := by
  refine Xc.of (by decide) (by simp [Value.category]) (Nat.le_of_ble_eq_true rfl) ?_
  show Xw E m_L_empty 0 0 0 0 [some (.ref ln)] [] h _
  refine x_aload_n d_L_empty_0 rfl rfl ?_
  refine x_iconst (v := 0) d_L_empty_1 (by decide) ?_
  refine x_putf d_L_empty_2 lp_L_15 k1 ⟨_, rfl⟩ ?_
  exact x_ret ⟨rfl, rfl⟩ rfl d_L_empty_5
theorem c_L_at {E : th_E} {h : th_H} {ln na n : Nat} {q : Nat → Int32} (k1 : gk h ln = some (.inl 3)) (k2 : gk h na = some (.inr (1, 12))) (f0 : gF h 3 0 ln = .ref na) (f1 : gF h 3 1 ln = .int (nI n)) (hn : n ≤ 12) (fq : ∀ i, i < n → gA h 1 na i = .int (q i)) (k r : Int32) (hr : (k < 0 ∨ nI n ≤ k → r = -1) ∧ ∀ j, j < n → k = nI j → r = q j) : Xc E m_L_at 0 0 0 [.ref ln, .int k] h (Ex (some (.int r)) h) := by
  refine Xc.of (by decide) (by simp [Value.category]) (Nat.le_of_ble_eq_true rfl) ?_
  show Xw E m_L_at 0 0 0 0 [some (.ref ln), some (.int k)] [] h _
  refine x_iload_n d_L_at_0 rfl rfl ?_
  refine x_if_lt (tgt := 21) d_L_at_1 rfl (fun q1 => ?_) (fun q1 => ?_)
  · obtain rfl : r = -1 := hr.1 (Or.inl q1)
    refine x_iconst (v := -1) d_L_at_21 (by decide) ?_
    exact x_iret d_L_at_22 rfl rfl ⟨rfl, rfl⟩
  · refine x_iload_n d_L_at_4 rfl rfl ?_
    refine x_aload_n d_L_at_5 rfl rfl ?_
    refine x_getf (v := .int (nI n)) d_L_at_6 lf_L_15 k1 f1 ?_
    refine x_icmp_ge (tgt := 21) d_L_at_9 rfl (fun q9 => ?_) (fun q9 => ?_)
    · obtain rfl : r = -1 := hr.1 (Or.inr q9)
      refine x_iconst (v := -1) d_L_at_21 (by decide) ?_
      exact x_iret d_L_at_22 rfl rfl ⟨rfl, rfl⟩
    · obtain ⟨j, hj, rfl⟩ := nI_of q1
      have hjn : j < n := Nat.lt_of_not_le (fun z => q9 (nI_le z hj))
      obtain rfl : r = q j := hr.2 j hjn rfl
      refine x_aload_n d_L_at_12 rfl rfl ?_
      refine x_getf (v := .ref na) d_L_at_13 lf_L_9 k1 f0 ?_
      refine x_iload_n d_L_at_16 rfl rfl ?_
      refine x_iald (v := .int (q j)) d_L_at_17 k2 rfl (vp_in_nI (by omega) (by decide)) (by rw [nI_cl hj]; exact fq j hjn) ?_
      refine x_goto (tgt := 22) d_L_at_18 rfl ?_
      exact x_iret d_L_at_22 rfl rfl ⟨rfl, rfl⟩
theorem c_L_append {E : th_E} {h : th_H} {ln na n : Nat} {q : Nat → Int32} (k1 : gk h ln = some (.inl 3)) (k2 : gk h na = some (.inr (1, 12))) (f0 : gF h 3 0 ln = .ref na) (f1 : gF h 3 1 ln = .int (nI n)) (hn : n < 12) (p : Int32) : Xc E m_L_append 0 0 0 [.ref ln, .int p] h (Ex none (gpF (gpA h 1 na n (.int p)) 3 1 ln (.int (nI (n + 1))))) := by
  refine Xc.of (by decide) (by simp [Value.category]) (Nat.le_of_ble_eq_true rfl) ?_
  show Xw E m_L_append 0 0 0 0 [some (.ref ln), some (.int p)] [] h _
  refine x_aload_n d_L_append_0 rfl rfl ?_
  refine x_getf (v := .int (nI n)) d_L_append_1 lf_L_15 k1 f1 ?_
  refine x_bipush (v := 12) d_L_append_4 (by decide) ?_
  refine x_icmp_ge (tgt := 29) d_L_append_6 rfl (fun q => absurd q (nI_ge (b := 12) hn (by decide))) (fun q6 => ?_)
  refine x_aload_n d_L_append_9 rfl rfl ?_
  refine x_getf (v := .ref na) d_L_append_10 lf_L_9 k1 f0 ?_
  refine x_aload_n d_L_append_13 rfl rfl ?_
  refine x_getf (v := .int (nI n)) d_L_append_14 lf_L_15 k1 f1 ?_
  refine x_iload_n d_L_append_17 rfl rfl ?_
  refine x_iast d_L_append_18 k2 rfl (vp_in_nI hn (by decide)) ?_
  rw [nI_cl (by omega)]
  refine x_aload_n d_L_append_19 rfl rfl ?_
  refine x_dup d_L_append_20 rfl ?_
  refine x_getf (v := .int (nI n)) d_L_append_21 lf_L_15 k1 (by simp [gF_pF, gF_pA, gF_nO, gF_nA, f1]) ?_
  refine x_iconst (v := 1) d_L_append_24 (by decide) ?_
  refine x_iadd (v := (nI (n + 1))) d_L_append_25 (nI_1 _) ?_
  refine x_putf d_L_append_26 lp_L_15 k1 ⟨_, rfl⟩ ?_
  exact x_ret ⟨rfl, rfl⟩ rfl d_L_append_29
