/-! The reference: its table of terms (printed by wip/gen/mod_ref1.py). -/
def iB (b : Prop) [Decidable b] : Int32 := if b then 1 else 0
theorem iB_t {b : Prop} [Decidable b] (h : b) : iB b = 1 := if_pos h
theorem iB_f {b : Prop} [Decidable b] (h : ¬ b) : iB b = 0 := if_neg h
theorem iB_i {b c : Prop} [Decidable b] [Decidable c] (h : b ↔ c) : iB b = iB c := by unfold iB; simp only [h]
theorem iB_1 {b : Prop} [Decidable b] : iB b = 1 ↔ b := by unfold iB; by_cases h : b <;> simp [h]
theorem iB_0 {b : Prop} [Decidable b] : iB b = 0 ↔ ¬ b := by unfold iB; by_cases h : b <;> simp [h]
theorem c_N_in {E : th_E} {h : th_H} (v a b : Int32) : Xc E m_N_in 0 0 0 [.int v, .int a, .int b] h (Ex (some (.int (iB (a ≤ v ∧ v ≤ b)))) h) := by
  refine Xc.of (by decide) (by simp [Value.category]) (Nat.le_of_ble_eq_true rfl) ?_
  show Xw E m_N_in 0 0 0 0 [some (.int v), some (.int a), some (.int b)] [] h _
  refine x_iload_n d_N_in_0 rfl rfl ?_
  refine x_iload_n d_N_in_1 rfl rfl ?_
  refine x_icmp_lt (tgt := 14) d_N_in_2 rfl (fun q2 => ?_) (fun q2 => ?_)
  · rw [iB_f (b := a ≤ v ∧ v ≤ b) (fun z => Int32.lt_irrefl (Int32.lt_of_lt_of_le q2 z.1))]
    refine x_iconst (v := 0) d_N_in_14 (by decide) ?_
    exact x_iret d_N_in_15 rfl rfl ⟨rfl, rfl⟩
  · refine x_iload_n d_N_in_5 rfl rfl ?_
    refine x_iload_n d_N_in_6 rfl rfl ?_
    refine x_icmp_gt (tgt := 14) d_N_in_7 rfl (fun q7 => ?_) (fun q7 => ?_)
    · rw [iB_f (b := a ≤ v ∧ v ≤ b) (fun z => Int32.lt_irrefl (Int32.lt_of_lt_of_le q7 z.2))]
      refine x_iconst (v := 0) d_N_in_14 (by decide) ?_
      exact x_iret d_N_in_15 rfl rfl ⟨rfl, rfl⟩
    · rw [iB_t (b := a ≤ v ∧ v ≤ b) ⟨Int32.not_lt.mp q2, Int32.not_lt.mp q7⟩]
      refine x_iconst (v := 1) d_N_in_10 (by decide) ?_
      refine x_goto (tgt := 15) d_N_in_11 rfl ?_
      exact x_iret d_N_in_15 rfl rfl ⟨rfl, rfl⟩
theorem c_N_weight {E : th_E} {h : th_H} {r : Nat} {A : Nat → Nat → Int32} (nl : NL r h) {s : Nat} (hs : s < 254) : Xc E m_N_weight 0 0 0 [.ref r, .int (nI s)] (ov r h A) (Ex (some (.int (A 5 (32 * s)))) (ov r h A)) := by
  refine Xc.of (by decide) (by simp [Value.category]) (Nat.le_of_ble_eq_true rfl) ?_
  show Xw E m_N_weight 0 0 0 0 [some (.ref r), some (.int (nI s))] [] (ov r h A) _
  refine x_aload_n d_N_weight_0 rfl rfl ?_
  refine n_fld (j := 5) d_N_weight_1 lf_N_22 nl (by decide) rfl rfl ?_
  refine x_bipush (v := (nI 32)) d_N_weight_4 (by decide) ?_
  refine x_iload_n d_N_weight_6 rfl rfl ?_
  refine x_imul (v := (nI (32 * s))) d_N_weight_7 (pk_mul _ _) ?_
  refine n_ld (j := 5) (i := 32 * s) (n := 8128) (v := (A 5 (32 * s))) d_N_weight_8 nl (by decide) (by decide) rfl rfl (by omega) (by decide) rfl ?_
  exact x_iret d_N_weight_9 rfl rfl ⟨rfl, rfl⟩
theorem c_N_sortOf {E : th_E} {h : th_H} {r : Nat} {A : Nat → Nat → Int32} (nl : NL r h) {s k : Nat} (hs : s < 254) (hk : k < 15) : Xc E m_N_sortOf 0 0 0 [.ref r, .int (nI s), .int (nI k)] (ov r h A) (Ex (some (.int (A 5 (32 * s + 1 + 2 * k)))) (ov r h A)) := by
  refine Xc.of (by decide) (by simp [Value.category]) (Nat.le_of_ble_eq_true rfl) ?_
  show Xw E m_N_sortOf 0 0 0 0 [some (.ref r), some (.int (nI s)), some (.int (nI k))] [] (ov r h A) _
  refine x_aload_n d_N_sortOf_0 rfl rfl ?_
  refine n_fld (j := 5) d_N_sortOf_1 lf_N_22 nl (by decide) rfl rfl ?_
  refine x_bipush (v := (nI 32)) d_N_sortOf_4 (by decide) ?_
  refine x_iload_n d_N_sortOf_6 rfl rfl ?_
  refine x_imul (v := (nI (32 * s))) d_N_sortOf_7 (pk_mul _ _) ?_
  refine x_iconst (v := (nI 1)) d_N_sortOf_8 (by decide) ?_
  refine x_iadd (v := (nI (32 * s + 1))) d_N_sortOf_9 (nI_add _ _) ?_
  refine x_iconst (v := (nI 2)) d_N_sortOf_10 (by decide) ?_
  refine x_iload_n d_N_sortOf_11 rfl rfl ?_
  refine x_imul (v := (nI (2 * k))) d_N_sortOf_12 (pk_mul _ _) ?_
  refine x_iadd (v := (nI (32 * s + 1 + (2 * k)))) d_N_sortOf_13 (nI_add _ _) ?_
  refine n_ld (j := 5) (i := 32 * s + 1 + (2 * k)) (n := 8128) (v := (A 5 (32 * s + 1 + (2 * k)))) d_N_sortOf_14 nl (by decide) (by decide) rfl rfl (by omega) (by decide) rfl ?_
  exact x_iret d_N_sortOf_15 rfl rfl ⟨rfl, rfl⟩
theorem c_N_numberOf {E : th_E} {h : th_H} {r : Nat} {A : Nat → Nat → Int32} (nl : NL r h) {s k : Nat} (hs : s < 254) (hk : k < 15) : Xc E m_N_numberOf 0 0 0 [.ref r, .int (nI s), .int (nI k)] (ov r h A) (Ex (some (.int (A 5 (32 * s + 2 + 2 * k)))) (ov r h A)) := by
  refine Xc.of (by decide) (by simp [Value.category]) (Nat.le_of_ble_eq_true rfl) ?_
  show Xw E m_N_numberOf 0 0 0 0 [some (.ref r), some (.int (nI s)), some (.int (nI k))] [] (ov r h A) _
  refine x_aload_n d_N_numberOf_0 rfl rfl ?_
  refine n_fld (j := 5) d_N_numberOf_1 lf_N_22 nl (by decide) rfl rfl ?_
  refine x_bipush (v := (nI 32)) d_N_numberOf_4 (by decide) ?_
  refine x_iload_n d_N_numberOf_6 rfl rfl ?_
  refine x_imul (v := (nI (32 * s))) d_N_numberOf_7 (pk_mul _ _) ?_
  refine x_iconst (v := (nI 2)) d_N_numberOf_8 (by decide) ?_
  refine x_iadd (v := (nI (32 * s + 2))) d_N_numberOf_9 (nI_add _ _) ?_
  refine x_iconst (v := (nI 2)) d_N_numberOf_10 (by decide) ?_
  refine x_iload_n d_N_numberOf_11 rfl rfl ?_
  refine x_imul (v := (nI (2 * k))) d_N_numberOf_12 (pk_mul _ _) ?_
  refine x_iadd (v := (nI (32 * s + 2 + (2 * k)))) d_N_numberOf_13 (nI_add _ _) ?_
  refine n_ld (j := 5) (i := 32 * s + 2 + (2 * k)) (n := 8128) (v := (A 5 (32 * s + 2 + (2 * k)))) d_N_numberOf_14 nl (by decide) (by decide) rfl rfl (by omega) (by decide) rfl ?_
  exact x_iret d_N_numberOf_15 rfl rfl ⟨rfl, rfl⟩
/-- a term of one part put into a place -/
def putA (A : Nat → Nat → Int32) (s : Nat) (x y : Int32) : Nat → Nat → Int32 := up (up (up A 5 (32 * s) (nI 1)) 5 (32 * s + 1) x) 5 (32 * s + 2) y
theorem c_N_put {E : th_E} {h : th_H} {r : Nat} {A : Nat → Nat → Int32} (nl : NL r h) {s : Nat} (hs : s < 254) (x y : Int32) : Xc E m_N_put 0 0 0 [.ref r, .int (nI s), .int x, .int y] (ov r h A) (Ex none (ov r h (putA A s x y))) := by
  refine Xc.of (by decide) (by simp [Value.category]) (Nat.le_of_ble_eq_true rfl) ?_
  show Xw E m_N_put 0 0 0 0 [some (.ref r), some (.int (nI s)), some (.int x), some (.int y)] [] (ov r h A) _
  refine x_aload_n d_N_put_0 rfl rfl ?_
  refine n_fld (j := 5) d_N_put_1 lf_N_22 nl (by decide) rfl rfl ?_
  refine x_bipush (v := (nI 32)) d_N_put_4 (by decide) ?_
  refine x_iload_n d_N_put_6 rfl rfl ?_
  refine x_imul (v := (nI (32 * s))) d_N_put_7 (pk_mul _ _) ?_
  refine x_iconst (v := (nI 1)) d_N_put_8 (by decide) ?_
  refine n_st (j := 5) (i := 32 * s) (n := 8128) (v := (nI 1)) d_N_put_9 nl (by decide) (by decide) rfl rfl (by omega) (by decide) ?_
  refine x_aload_n d_N_put_10 rfl rfl ?_
  refine n_fld (j := 5) d_N_put_11 lf_N_22 nl (by decide) rfl rfl ?_
  refine x_bipush (v := (nI 32)) d_N_put_14 (by decide) ?_
  refine x_iload_n d_N_put_16 rfl rfl ?_
  refine x_imul (v := (nI (32 * s))) d_N_put_17 (pk_mul _ _) ?_
  refine x_iconst (v := (nI 1)) d_N_put_18 (by decide) ?_
  refine x_iadd (v := (nI (32 * s + 1))) d_N_put_19 (nI_add _ _) ?_
  refine x_iload_n d_N_put_20 rfl rfl ?_
  refine n_st (j := 5) (i := 32 * s + 1) (n := 8128) (v := x) d_N_put_21 nl (by decide) (by decide) rfl rfl (by omega) (by decide) ?_
  refine x_aload_n d_N_put_22 rfl rfl ?_
  refine n_fld (j := 5) d_N_put_23 lf_N_22 nl (by decide) rfl rfl ?_
  refine x_bipush (v := (nI 32)) d_N_put_26 (by decide) ?_
  refine x_iload_n d_N_put_28 rfl rfl ?_
  refine x_imul (v := (nI (32 * s))) d_N_put_29 (pk_mul _ _) ?_
  refine x_iconst (v := (nI 2)) d_N_put_30 (by decide) ?_
  refine x_iadd (v := (nI (32 * s + 2))) d_N_put_31 (nI_add _ _) ?_
  refine x_iload_n d_N_put_32 rfl rfl ?_
  refine n_st (j := 5) (i := 32 * s + 2) (n := 8128) (v := y) d_N_put_33 nl (by decide) (by decide) rfl rfl (by omega) (by decide) ?_
  exact x_ret ⟨rfl, rfl⟩ rfl d_N_put_34
def appA (A : Nat → Nat → Int32) (s n : Nat) (x y : Int32) : Nat → Nat → Int32 := up (up (up A 5 (32 * s + 1 + 2 * n) x) 5 (32 * s + 2 + 2 * n) y) 5 (32 * s) (nI (n + 1))
theorem c_N_append {E : th_E} {h : th_H} {r : Nat} {A : Nat → Nat → Int32} (nl : NL r h) {s n : Nat} (hs : s < 254) (hn : A 5 (32 * s) = nI n) (h15 : n < 15) (x y : Int32) : Xc E m_N_append 0 0 0 [.ref r, .int (nI s), .int x, .int y] (ov r h A) (Ex none (ov r h (appA A s n x y))) := by
  refine Xc.of (by decide) (by simp [Value.category]) (Nat.le_of_ble_eq_true rfl) ?_
  show Xw E m_N_append 0 0 0 0 [some (.ref r), some (.int (nI s)), some (.int x), some (.int y), none] [] (ov r h A) _
  refine x_aload_n d_N_append_0 rfl rfl ?_
  refine n_fld (j := 5) d_N_append_1 lf_N_22 nl (by decide) rfl rfl ?_
  refine x_bipush (v := (nI 32)) d_N_append_4 (by decide) ?_
  refine x_iload_n d_N_append_6 rfl rfl ?_
  refine x_imul (v := (nI (32 * s))) d_N_append_7 (pk_mul _ _) ?_
  refine n_ld (j := 5) (i := 32 * s) (n := 8128) (v := (nI n)) d_N_append_8 nl (by decide) (by decide) rfl rfl (by omega) (by decide) hn ?_
  refine x_istore d_N_append_9 (by decide) (L' := [some (.ref r), some (.int (nI s)), some (.int x), some (.int y), some (.int (nI n))]) rfl ?_
  refine x_aload_n d_N_append_11 rfl rfl ?_
  refine n_fld (j := 5) d_N_append_12 lf_N_22 nl (by decide) rfl rfl ?_
  refine x_bipush (v := (nI 32)) d_N_append_15 (by decide) ?_
  refine x_iload_n d_N_append_17 rfl rfl ?_
  refine x_imul (v := (nI (32 * s))) d_N_append_18 (pk_mul _ _) ?_
  refine x_iconst (v := (nI 1)) d_N_append_19 (by decide) ?_
  refine x_iadd (v := (nI (32 * s + 1))) d_N_append_20 (nI_add _ _) ?_
  refine x_iconst (v := (nI 2)) d_N_append_21 (by decide) ?_
  refine x_iload d_N_append_22 rfl ?_
  refine x_imul (v := (nI (2 * n))) d_N_append_24 (pk_mul _ _) ?_
  refine x_iadd (v := (nI (32 * s + 1 + (2 * n)))) d_N_append_25 (nI_add _ _) ?_
  refine x_iload_n d_N_append_26 rfl rfl ?_
  refine n_st (j := 5) (i := 32 * s + 1 + (2 * n)) (n := 8128) (v := x) d_N_append_27 nl (by decide) (by decide) rfl rfl (by omega) (by decide) ?_
  refine x_aload_n d_N_append_28 rfl rfl ?_
  refine n_fld (j := 5) d_N_append_29 lf_N_22 nl (by decide) rfl rfl ?_
  refine x_bipush (v := (nI 32)) d_N_append_32 (by decide) ?_
  refine x_iload_n d_N_append_34 rfl rfl ?_
  refine x_imul (v := (nI (32 * s))) d_N_append_35 (pk_mul _ _) ?_
  refine x_iconst (v := (nI 2)) d_N_append_36 (by decide) ?_
  refine x_iadd (v := (nI (32 * s + 2))) d_N_append_37 (nI_add _ _) ?_
  refine x_iconst (v := (nI 2)) d_N_append_38 (by decide) ?_
  refine x_iload d_N_append_39 rfl ?_
  refine x_imul (v := (nI (2 * n))) d_N_append_41 (pk_mul _ _) ?_
  refine x_iadd (v := (nI (32 * s + 2 + (2 * n)))) d_N_append_42 (nI_add _ _) ?_
  refine x_iload_n d_N_append_43 rfl rfl ?_
  refine n_st (j := 5) (i := 32 * s + 2 + (2 * n)) (n := 8128) (v := y) d_N_append_44 nl (by decide) (by decide) rfl rfl (by omega) (by decide) ?_
  refine x_aload_n d_N_append_45 rfl rfl ?_
  refine n_fld (j := 5) d_N_append_46 lf_N_22 nl (by decide) rfl rfl ?_
  refine x_bipush (v := (nI 32)) d_N_append_49 (by decide) ?_
  refine x_iload_n d_N_append_51 rfl rfl ?_
  refine x_imul (v := (nI (32 * s))) d_N_append_52 (pk_mul _ _) ?_
  refine x_iload d_N_append_53 rfl ?_
  refine x_iconst (v := (nI 1)) d_N_append_55 (by decide) ?_
  refine x_iadd (v := (nI (n + 1))) d_N_append_56 (nI_add _ _) ?_
  refine n_st (j := 5) (i := 32 * s) (n := 8128) (v := (nI (n + 1))) d_N_append_57 nl (by decide) (by decide) rfl rfl (by omega) (by decide) ?_
  exact x_ret ⟨rfl, rfl⟩ rfl d_N_append_58
/-- the first k numbers of place f copied to place t -/
def cpA (A : Nat → Nat → Int32) (f t k : Nat) : Nat → Nat → Int32 := fun j i => if j = 5 ∧ 32 * t ≤ i ∧ i < 32 * t + k then A 5 (i - 32 * t + 32 * f) else A j i
theorem cpA_0 {A : Nat → Nat → Int32} {f t : Nat} : cpA A f t 0 = A := by
  funext j i
  exact if_neg (fun z => by omega)
theorem cpA_f {A : Nat → Nat → Int32} {f t k i : Nat} (hi : i < 32) (hk : k ≤ 32) : cpA A f t k 5 (32 * f + i) = A 5 (32 * f + i) := by
  unfold cpA
  by_cases h : 5 = 5 ∧ 32 * t ≤ 32 * f + i ∧ 32 * f + i < 32 * t + k
  · rw [if_pos h]; congr 1; omega
  · rw [if_neg h]
theorem cpA_s {A : Nat → Nat → Int32} {f t k : Nat} : up (cpA A f t k) 5 (32 * t + k) (A 5 (32 * f + k)) = cpA A f t (k + 1) := by
  funext j i
  unfold up cpA
  by_cases h : j = 5 ∧ i = 32 * t + k
  · rw [if_pos h, if_pos ⟨h.1, by omega, by omega⟩]; congr 1; omega
  · rw [if_neg h]
    by_cases h2 : j = 5 ∧ 32 * t ≤ i ∧ i < 32 * t + k
    · rw [if_pos h2, if_pos ⟨h2.1, h2.2.1, by omega⟩]
    · rw [if_neg h2, if_neg (fun z => h2 ⟨z.1, z.2.1, by omega⟩)]
theorem c_N_copy_loop {E : th_E} {h : th_H} {r : Nat} {A : Nat → Nat → Int32} (nl : NL r h) {f t w : Nat} (hf : f < 254) (ht : t < 254) (hw : A 5 (32 * f) = nI w) (h15 : w ≤ 15) : ∀ m k, 2 * w + 2 ≤ m + k → k ≤ 2 * w + 1 → Xw E m_N_copy 0 0 0 2 [some (.ref r), some (.int (nI f)), some (.int (nI t)), some (.int (nI k))] [] (ov r h (cpA A f t k)) (Ex none (ov r h (cpA A f t (2 * w + 1)))) := by
  intro m
  induction m with
  | zero => exact fun k h1 h2 => absurd h1 (by omega)
  | succ m ih =>
    intro k h1 h2
    refine x_iload_n d_N_copy_2 rfl rfl ?_
    refine x_iconst (v := (nI 2)) d_N_copy_3 (by decide) ?_
    refine x_aload_n d_N_copy_4 rfl rfl ?_
    refine n_fld (j := 5) d_N_copy_5 lf_N_22 nl (by decide) rfl rfl ?_
    refine x_bipush (v := (nI 32)) d_N_copy_8 (by decide) ?_
    refine x_iload_n d_N_copy_10 rfl rfl ?_
    refine x_imul (v := (nI (32 * f))) d_N_copy_11 (pk_mul _ _) ?_
    refine n_ld (j := 5) (i := 32 * f) (n := 8128) (v := (nI w)) d_N_copy_12 nl (by decide) (by decide) rfl rfl (by omega) (by decide) ((cpA_f (i := 0) (by omega) (by omega)).trans hw) ?_
    refine x_imul (v := (nI (2 * w))) d_N_copy_13 (pk_mul _ _) ?_
    refine x_icmp_gt (tgt := 45) d_N_copy_14 rfl (fun q14 => ?_) (fun q14 => ?_)
    · have hk2 : k = 2 * w + 1 := by have := (nI_ltI (by omega) (by omega)).mp q14; omega
      subst hk2
      exact x_ret ⟨rfl, rfl⟩ rfl d_N_copy_45
    · have hk2 : k ≤ 2 * w := Nat.le_of_not_lt (fun z => q14 (nI_lt z (by omega)))
      refine x_aload_n d_N_copy_17 rfl rfl ?_
      refine n_fld (j := 5) d_N_copy_18 lf_N_22 nl (by decide) rfl rfl ?_
      refine x_bipush (v := (nI 32)) d_N_copy_21 (by decide) ?_
      refine x_iload_n d_N_copy_23 rfl rfl ?_
      refine x_imul (v := (nI (32 * t))) d_N_copy_24 (pk_mul _ _) ?_
      refine x_iload_n d_N_copy_25 rfl rfl ?_
      refine x_iadd (v := (nI (32 * t + k))) d_N_copy_26 (nI_add _ _) ?_
      refine x_aload_n d_N_copy_27 rfl rfl ?_
      refine n_fld (j := 5) d_N_copy_28 lf_N_22 nl (by decide) rfl rfl ?_
      refine x_bipush (v := (nI 32)) d_N_copy_31 (by decide) ?_
      refine x_iload_n d_N_copy_33 rfl rfl ?_
      refine x_imul (v := (nI (32 * f))) d_N_copy_34 (pk_mul _ _) ?_
      refine x_iload_n d_N_copy_35 rfl rfl ?_
      refine x_iadd (v := (nI (32 * f + k))) d_N_copy_36 (nI_add _ _) ?_
      refine n_ld (j := 5) (i := 32 * f + k) (n := 8128) (v := (A 5 (32 * f + k))) d_N_copy_37 nl (by decide) (by decide) rfl rfl (by omega) (by decide) (cpA_f (by omega) (by omega)) ?_
      refine n_st (j := 5) (i := 32 * t + k) (n := 8128) (v := (A 5 (32 * f + k))) d_N_copy_38 nl (by decide) (by decide) rfl rfl (by omega) (by decide) ?_
      rw [cpA_s]
      refine x_iinc d_N_copy_39 rfl (v := (nI (k + 1))) (nI_1 _) (by decide) (L' := [some (.ref r), some (.int (nI f)), some (.int (nI t)), some (.int (nI (k + 1)))]) rfl ?_
      refine x_goto (tgt := 2) d_N_copy_42 rfl ?_
      exact ih (k + 1) (by omega) (by omega)
theorem c_N_copy {E : th_E} {h : th_H} {r : Nat} {A : Nat → Nat → Int32} (nl : NL r h) {f t w : Nat} (hf : f < 254) (ht : t < 254) (hw : A 5 (32 * f) = nI w) (h15 : w ≤ 15) : Xc E m_N_copy 0 0 0 [.ref r, .int (nI f), .int (nI t)] (ov r h A) (Ex none (ov r h (cpA A f t (2 * w + 1)))) := by
  refine Xc.of (by decide) (by simp [Value.category]) (Nat.le_of_ble_eq_true rfl) ?_
  show Xw E m_N_copy 0 0 0 0 [some (.ref r), some (.int (nI f)), some (.int (nI t)), none] [] (ov r h A) _
  refine x_iconst (v := (nI 0)) d_N_copy_0 (by decide) ?_
  refine x_istore_n d_N_copy_1 rfl (by decide) (L' := [some (.ref r), some (.int (nI f)), some (.int (nI t)), some (.int (nI 0))]) rfl ?_
  have key := c_N_copy_loop (E := E) nl hf ht hw h15 (2 * w + 2) 0 (by omega) (by omega)
  rw [cpA_0] at key
  exact key
/-- c parts of place o, from part f on, put behind the w parts of place s -/
def apA (A : Nat → Nat → Int32) (s o f w c : Nat) : Nat → Nat → Int32 := fun j i => if j = 5 ∧ i = 32 * s then nI (w + c) else if j = 5 ∧ 32 * s + 1 + 2 * w ≤ i ∧ i < 32 * s + 1 + 2 * (w + c) then A 5 (i - (32 * s + 1 + 2 * w) + (32 * o + 1 + 2 * f)) else A j i
theorem apA_0 {A : Nat → Nat → Int32} {s o f w : Nat} (h : A 5 (32 * s) = nI w) : apA A s o f w 0 = A := by
  funext j i
  unfold apA
  by_cases h1 : j = 5 ∧ i = 32 * s
  · rw [if_pos h1, h1.1, h1.2, h]; rfl
  · rw [if_neg h1, if_neg (fun z => by omega)]
theorem apA_w {A : Nat → Nat → Int32} {s o f w c : Nat} : apA A s o f w c 5 (32 * s) = nI (w + c) := if_pos ⟨rfl, rfl⟩
theorem apA_o {A : Nat → Nat → Int32} {s o f w c x i : Nat} (hx : x ≠ s) (hi : i < 32) (hc : w + c ≤ 15) : apA A s o f w c 5 (32 * x + i) = A 5 (32 * x + i) := by
  unfold apA
  rw [if_neg (fun z => by omega), if_neg (fun z => by omega)]
theorem apA_s {A : Nat → Nat → Int32} {s o f w c : Nat} (hso : s ≠ o) : appA (apA A s o f w c) s (w + c) (A 5 (32 * o + 1 + 2 * (f + c))) (A 5 (32 * o + 2 + 2 * (f + c))) = apA A s o f w (c + 1) := by
  funext j i
  unfold appA up apA
  by_cases h0 : j = 5 ∧ i = 32 * s
  · rw [if_pos h0, if_pos h0]; rfl
  · rw [if_neg h0, if_neg h0, if_neg h0]
    by_cases h1 : j = 5 ∧ i = 32 * s + 2 + 2 * (w + c)
    · rw [if_pos h1, if_pos ⟨h1.1, by omega, by omega⟩]; congr 1; omega
    · rw [if_neg h1]
      by_cases h2 : j = 5 ∧ i = 32 * s + 1 + 2 * (w + c)
      · rw [if_pos h2, if_pos ⟨h2.1, by omega, by omega⟩]; congr 1; omega
      · rw [if_neg h2]
        by_cases h3 : j = 5 ∧ 32 * s + 1 + 2 * w ≤ i ∧ i < 32 * s + 1 + 2 * (w + c)
        · rw [if_pos h3, if_pos ⟨h3.1, h3.2.1, by omega⟩]
        · rw [if_neg h3, if_neg (fun z => by omega)]
theorem c_N_addParts_loop {E : th_E} {h : th_H} {r : Nat} {A : Nat → Nat → Int32} (nl : NL r h) {s o f e w : Nat} (hs : s < 254) (ho : o < 254) (hso : s ≠ o) (he : f ≤ e) (he15 : e ≤ 15) (hw : A 5 (32 * s) = nI w) (h15 : w + (e - f) ≤ 15) : ∀ m c, e + 1 ≤ m + (f + c) → f + c ≤ e → Xw E m_N_addParts 1 0 0 3 [some (.ref r), some (.int (nI s)), some (.int (nI o)), some (.int (nI f)), some (.int (nI e)), some (.int (nI (f + c)))] [] (ov r h (apA A s o f w c)) (Ex none (ov r h (apA A s o f w (e - f)))) := by
  intro m
  induction m with
  | zero => exact fun c h1 h2 => absurd h1 (by omega)
  | succ m ih =>
    intro c h1 h2
    refine x_iload d_N_addParts_3 rfl ?_
    refine x_iload d_N_addParts_5 rfl ?_
    refine x_icmp_ge (tgt := 35) d_N_addParts_7 rfl (fun q7 => ?_) (fun q7 => ?_)
    · have hk2 : f + c = e := by have := (nI_leI (by omega) (by omega)).mp q7; omega
      subst hk2
      rw [show f + c - f = c by omega]
      exact x_ret ⟨rfl, rfl⟩ rfl d_N_addParts_35
    · have hk2 : f + c < e := Nat.lt_of_not_le (fun z => q7 (nI_le z (by omega)))
      refine x_aload_n d_N_addParts_10 rfl rfl ?_
      refine x_iload_n d_N_addParts_11 rfl rfl ?_
      refine x_aload_n d_N_addParts_12 rfl rfl ?_
      refine x_iload_n d_N_addParts_13 rfl rfl ?_
      refine x_iload d_N_addParts_14 rfl ?_
      refine x_invv d_N_addParts_16 lm_N_66 (as := [.int (nI o), .int (nI (f + c))]) (S := [.int (nI s), .ref r]) (cz' := 0) (cs' := 0) (c_N_sortOf nl (by omega) (by omega)) nl.o rfl rfl rfl (Nat.le_of_ble_eq_true rfl) (by decide) (by decide) (by decide) ?_
      rintro _ _ ⟨rfl, rfl⟩
      rw [show 32 * o + 1 + 2 * (f + c) = 32 * o + (1 + 2 * (f + c)) by omega, apA_o (Ne.symm hso) (by omega) (by omega), show 32 * o + (1 + 2 * (f + c)) = 32 * o + 1 + 2 * (f + c) by omega]
      refine x_aload_n d_N_addParts_19 rfl rfl ?_
      refine x_iload_n d_N_addParts_20 rfl rfl ?_
      refine x_iload d_N_addParts_21 rfl ?_
      refine x_invv d_N_addParts_23 lm_N_70 (as := [.int (nI o), .int (nI (f + c))]) (S := [.int (A 5 (32 * o + 1 + 2 * (f + c))), .int (nI s), .ref r]) (cz' := 0) (cs' := 0) (c_N_numberOf nl (by omega) (by omega)) nl.o rfl rfl rfl (Nat.le_of_ble_eq_true rfl) (by decide) (by decide) (by decide) ?_
      rintro _ _ ⟨rfl, rfl⟩
      rw [show 32 * o + 2 + 2 * (f + c) = 32 * o + (2 + 2 * (f + c)) by omega, apA_o (Ne.symm hso) (by omega) (by omega), show 32 * o + (2 + 2 * (f + c)) = 32 * o + 2 + 2 * (f + c) by omega]
      refine x_invv d_N_addParts_26 lm_N_73 (as := [.int (nI s), .int (A 5 (32 * o + 1 + 2 * (f + c))), .int (A 5 (32 * o + 2 + 2 * (f + c)))]) (S := []) (cz' := 0) (cs' := 0) (c_N_append (n := w + c) nl (by omega) apA_w (by omega) _ _) nl.o rfl rfl rfl (Nat.le_of_ble_eq_true rfl) (by decide) (by decide) (by decide) ?_
      rintro _ _ ⟨rfl, rfl⟩
      rw [apA_s hso]
      refine x_iinc d_N_addParts_29 rfl (v := (nI (f + (c + 1)))) (nI_1 _) (by decide) (L' := [some (.ref r), some (.int (nI s)), some (.int (nI o)), some (.int (nI f)), some (.int (nI e)), some (.int (nI (f + (c + 1))))]) rfl ?_
      refine x_goto (tgt := 3) d_N_addParts_32 rfl ?_
      exact ih (c + 1) (by omega) (by omega)
theorem c_N_addParts {E : th_E} {h : th_H} {r : Nat} {A : Nat → Nat → Int32} (nl : NL r h) {s o f e w : Nat} (hs : s < 254) (ho : o < 254) (hso : s ≠ o) (he : f ≤ e) (he15 : e ≤ 15) (hw : A 5 (32 * s) = nI w) (h15 : w + (e - f) ≤ 15) : Xc E m_N_addParts 1 0 0 [.ref r, .int (nI s), .int (nI o), .int (nI f), .int (nI e)] (ov r h A) (Ex none (ov r h (apA A s o f w (e - f)))) := by
  refine Xc.of (by decide) (by simp [Value.category]) (Nat.le_of_ble_eq_true rfl) ?_
  show Xw E m_N_addParts 1 0 0 0 [some (.ref r), some (.int (nI s)), some (.int (nI o)), some (.int (nI f)), some (.int (nI e)), none] [] (ov r h A) _
  refine x_iload_n d_N_addParts_0 rfl rfl ?_
  refine x_istore d_N_addParts_1 (by decide) (L' := [some (.ref r), some (.int (nI s)), some (.int (nI o)), some (.int (nI f)), some (.int (nI e)), some (.int (nI f))]) rfl ?_
  have key := c_N_addParts_loop (E := E) nl hs ho hso he he15 hw h15 (e + 1) 0 (by omega) (by omega)
  rw [apA_0 hw] at key
  exact key
theorem c_N_come {E : th_E} {h : th_H} {r : Nat} {A : Nat → Nat → Int32} (nl : NL r h) {n : Nat} (hn : A 0 17 = nI n) (h12 : n < 12) (p : Int32) : Xc E m_N_come 0 0 0 [.ref r, .int p] (ov r h A) (Ex none (ov r h (up (up A 15 n p) 0 17 (nI (n + 1))))) := by
  refine Xc.of (by decide) (by simp [Value.category]) (Nat.le_of_ble_eq_true rfl) ?_
  show Xw E m_N_come 0 0 0 0 [some (.ref r), some (.int p)] [] (ov r h A) _
  refine x_aload_n d_N_come_0 rfl rfl ?_
  refine n_fld (j := 15) d_N_come_1 lf_N_53 nl (by decide) rfl rfl ?_
  refine x_aload_n d_N_come_4 rfl rfl ?_
  refine n_get (v := (nI n)) d_N_come_5 lf_N_101 nl rfl hn ?_
  refine x_iload_n d_N_come_8 rfl rfl ?_
  refine n_st (j := 15) (i := n) (n := 12) (v := p) d_N_come_9 nl (by decide) (by decide) rfl rfl (by omega) (by decide) ?_
  refine x_aload_n d_N_come_10 rfl rfl ?_
  refine x_aload_n d_N_come_11 rfl rfl ?_
  refine n_get (v := (nI n)) d_N_come_12 lf_N_101 nl rfl ((up_r (by decide)).trans hn) ?_
  refine x_iconst (v := (nI 1)) d_N_come_15 (by decide) ?_
  refine x_iadd (v := (nI (n + 1))) d_N_come_16 (nI_add _ _) ?_
  refine n_put (v := (nI (n + 1))) d_N_come_17 lp_N_101 nl rfl ?_
  exact x_ret ⟨rfl, rfl⟩ rfl d_N_come_20
