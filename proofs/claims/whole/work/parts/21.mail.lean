/-! Line.leave and the mailbox (printed by wip/gen/mod_leave.py). -/
theorem take_one {α : Type} {l : List α} {k : Nat} {x : α} (h : l[k]? = some x) : l.take (k + 1) = l.take k ++ [x] := by
  rw [List.take_add_one, h]; rfl
theorem get_some {α : Type} {l : List α} {k : Nat} (h : k < l.length) : ∃ x, l[k]? = some x := ⟨l[k], List.getElem?_eq_getElem h⟩
theorem nI_inj {a b : Nat} (ha : a < 2 ^ 31) (hb : b < 2 ^ 31) (h : nI a = nI b) : a = b := (nI_eq ha hb).mp h

theorem c_L_leave_loop {E : th_E} {h : th_H} {ln na p : Nat} {qs : List Nat} (k1 : gk h ln = some (.inl 3)) (k2 : gk h na = some (.inr (1, 12))) (f0 : gF h 3 0 ln = .ref na) (f1 : gF h 3 1 ln = .int (nI qs.length)) (hn : qs.length ≤ 12) (hq : ∀ x ∈ qs, x < 12) (hp : p < 12) : ∀ (m k : Nat) (f : Nat → Value), k + m = qs.length → ∀ kp : Nat, kp = ((qs.take k).filter (fun x => x ≠ p)).length → (∀ i x, ((qs.take k).filter (fun x => x ≠ p))[i]? = some x → f i = .int (nI x)) → (∀ j x, k ≤ j → qs[j]? = some x → f j = .int (nI x)) → Xw E m_L_leave 0 0 0 4 [some (.ref ln), some (.int (nI p)), some (.int (nI kp)), some (.int (nI k))] [] (gsA h 1 na f) (fun v h' => v = none ∧ ∃ f' : Nat → Value, h' = gpF (gsA h 1 na f') 3 1 ln (.int (nI (qs.filter (fun x => x ≠ p)).length)) ∧ ∀ i x, (qs.filter (fun x => x ≠ p))[i]? = some x → f' i = .int (nI x)) := by
  intro m
  induction m with
  | zero =>
    intro k f hk kp hkp i1 i2
    refine x_iload_n d_L_leave_4 rfl rfl ?_
    refine x_aload_n d_L_leave_5 rfl rfl ?_
    refine x_getf (v := .int (nI qs.length)) d_L_leave_6 lf_L_15 k1 f1 ?_
    refine x_icmp_ge (tgt := 43) d_L_leave_9 rfl (fun q9 => ?_) (fun q => absurd (nI_le (by omega) (by omega)) q)
    refine x_aload_n d_L_leave_43 rfl rfl ?_
    refine x_iload_n d_L_leave_44 rfl rfl ?_
    refine x_putf d_L_leave_45 lp_L_15 k1 ⟨_, rfl⟩ ?_
    exact x_ret ⟨rfl, f, by rw [hkp, show qs.take k = qs from List.take_of_length_le (by omega)], by rw [show qs.take k = qs from List.take_of_length_le (by omega)] at i1; exact i1⟩ rfl d_L_leave_48
  | succ m ih =>
    intro k f hk kp hkp i1 i2
    have hkl : kp ≤ k := by rw [hkp]; exact Nat.le_trans (List.length_filter_le _ _) (by rw [List.length_take]; omega)
    obtain ⟨x, hx⟩ := get_some (l := qs) (k := k) (by omega)
    have hx12 := hq x (List.mem_of_getElem? hx)
    refine x_iload_n d_L_leave_4 rfl rfl ?_
    refine x_aload_n d_L_leave_5 rfl rfl ?_
    refine x_getf (v := .int (nI qs.length)) d_L_leave_6 lf_L_15 k1 f1 ?_
    refine x_icmp_ge (tgt := 43) d_L_leave_9 rfl (fun q => absurd q (nI_ge (by omega) (by omega))) (fun q9 => ?_)
    refine x_aload_n d_L_leave_12 rfl rfl ?_
    refine x_getf (v := .ref na) d_L_leave_13 lf_L_9 k1 f0 ?_
    refine x_iload_n d_L_leave_16 rfl rfl ?_
    refine x_iald (v := .int (nI x)) d_L_leave_17 k2 rfl (vp_in_nI (by omega) (by decide)) (by rw [nI_cl (by omega), gA_sA, if_pos ⟨rfl, rfl⟩]; exact i2 k x (Nat.le_refl _) hx) ?_
    refine x_iload_n d_L_leave_18 rfl rfl ?_
    refine x_icmp_eq (tgt := 37) d_L_leave_19 rfl (fun q19 => ?_) (fun q19 => ?_)
    · have hxp : x = p := nI_inj (by omega) (by omega) q19
      refine x_iinc d_L_leave_37 rfl (v := (nI (k + 1))) (nI_1 _) (by decide) (L' := [some (.ref ln), some (.int (nI p)), some (.int (nI kp)), some (.int (nI (k + 1)))]) rfl ?_
      refine x_goto (tgt := 4) d_L_leave_40 rfl ?_
      exact ih (k + 1) f (by omega) kp (by rw [take_one hx, List.filter_append]; simpa [hxp] using hkp) (by rw [take_one hx, List.filter_append]; simpa [hxp] using i1) (fun j y hj hy => i2 j y (by omega) hy)
    · have hxp : x ≠ p := fun z => q19 (by rw [z])
      refine x_aload_n d_L_leave_22 rfl rfl ?_
      refine x_getf (v := .ref na) d_L_leave_23 lf_L_9 k1 f0 ?_
      refine x_iload_n d_L_leave_26 rfl rfl ?_
      refine x_aload_n d_L_leave_27 rfl rfl ?_
      refine x_getf (v := .ref na) d_L_leave_28 lf_L_9 k1 f0 ?_
      refine x_iload_n d_L_leave_31 rfl rfl ?_
      refine x_iald (v := .int (nI x)) d_L_leave_32 k2 rfl (vp_in_nI (by omega) (by decide)) (by rw [nI_cl (by omega), gA_sA, if_pos ⟨rfl, rfl⟩]; exact i2 k x (Nat.le_refl _) hx) ?_
      refine x_iast d_L_leave_33 k2 rfl (vp_in_nI (by omega) (by decide)) ?_
      rw [nI_cl (by omega), gpA_sA]
      refine x_iinc d_L_leave_34 rfl (v := (nI (kp + 1))) (nI_1 _) (by decide) (L' := [some (.ref ln), some (.int (nI p)), some (.int (nI (kp + 1))), some (.int (nI k))]) rfl ?_
      refine x_iinc d_L_leave_37 rfl (v := (nI (k + 1))) (nI_1 _) (by decide) (L' := [some (.ref ln), some (.int (nI p)), some (.int (nI (kp + 1))), some (.int (nI (k + 1)))]) rfl ?_
      refine x_goto (tgt := 4) d_L_leave_40 rfl ?_
      exact ih (k + 1) _ (by omega) (kp + 1) (by rw [take_one hx, List.filter_append, List.filter_cons_of_pos (by simpa using hxp)]; simp [hkp]) (fun i y hi => by
        rw [take_one hx, List.filter_append, List.filter_cons_of_pos (by simpa using hxp), List.filter_nil] at hi
        by_cases hik : i = kp
        · rw [if_pos hik]
          rw [hik, hkp, List.getElem?_append_right (Nat.le_refl _), Nat.sub_self] at hi
          cases hi
          rfl
        · rw [if_neg hik]
          have hlt := (List.getElem?_eq_some_iff.mp hi).1
          simp only [List.length_append, List.length_cons, List.length_nil] at hlt
          rw [List.getElem?_append_left (by omega)] at hi
          exact i1 i y hi) (fun j y hj hy => by rw [if_neg (by omega)]; exact i2 j y (by omega) hy)
theorem c_L_leave {E : th_E} {h : th_H} {ln na p : Nat} {qs : List Nat} (k1 : gk h ln = some (.inl 3)) (k2 : gk h na = some (.inr (1, 12))) (f0 : gF h 3 0 ln = .ref na) (f1 : gF h 3 1 ln = .int (nI qs.length)) (hn : qs.length ≤ 12) (hq : ∀ x ∈ qs, x < 12) (hp : p < 12) (fq : ∀ i x, qs[i]? = some x → gA h 1 na i = .int (nI x)) : Xc E m_L_leave 0 0 0 [.ref ln, .int (nI p)] h (fun v h' => v = none ∧ ∃ f' : Nat → Value, h' = gpF (gsA h 1 na f') 3 1 ln (.int (nI (qs.filter (fun x => x ≠ p)).length)) ∧ ∀ i x, (qs.filter (fun x => x ≠ p))[i]? = some x → f' i = .int (nI x)) := by
  refine Xc.of (by decide) (by simp [Value.category]) (Nat.le_of_ble_eq_true rfl) ?_
  show Xw E m_L_leave 0 0 0 0 [some (.ref ln), some (.int (nI p)), none, none] [] h _
  refine x_iconst (v := 0) d_L_leave_0 (by decide) ?_
  refine x_istore_n d_L_leave_1 rfl (by decide) (L' := [some (.ref ln), some (.int (nI p)), some (.int 0), none]) rfl ?_
  refine x_iconst (v := 0) d_L_leave_2 (by decide) ?_
  refine x_istore_n d_L_leave_3 rfl (by decide) (L' := [some (.ref ln), some (.int (nI p)), some (.int 0), some (.int 0)]) rfl ?_
  have hh := c_L_leave_loop (E := E) k1 k2 f0 f1 hn hq hp qs.length 0 (gA h 1 na) (by omega) 0 rfl (by simp) (fun j x _ hx => fq j x hx)
  rw [gsA_self] at hh
  exact hh
theorem c_B_empty {E : th_E} {h : th_H} {mb : Nat} (k1 : gk h mb = some (.inl 1)) : Xc E m_B_empty 0 0 0 [.ref mb] h (Ex none (gpF (gpF h 1 1 mb (.int 0)) 1 2 mb (.int 0))) := by
  refine Xc.of (by decide) (by simp [Value.category]) (Nat.le_of_ble_eq_true rfl) ?_
  show Xw E m_B_empty 0 0 0 0 [some (.ref mb)] [] h _
  refine x_aload_n d_B_empty_0 rfl rfl ?_
  refine x_iconst (v := 0) d_B_empty_1 (by decide) ?_
  refine x_putf d_B_empty_2 lp_B_17 k1 ⟨_, rfl⟩ ?_
  refine x_aload_n d_B_empty_5 rfl rfl ?_
  refine x_iconst (v := 0) d_B_empty_6 (by decide) ?_
  refine x_putf d_B_empty_7 lp_B_21 k1 ⟨_, rfl⟩ ?_
  exact x_ret ⟨rfl, rfl⟩ rfl d_B_empty_10
theorem c_B_at {E : th_E} {h : th_H} {mb ma mk : Nat} {ms : List Nat} (k1 : gk h mb = some (.inl 1)) (k2 : gk h ma = some (.inr (2, 12))) (f0 : gF h 1 0 mb = .ref ma) (f1 : gF h 1 1 mb = .int (nI ms.length)) (f2 : gF h 1 2 mb = .int (nI mk)) (hn : ms.length ≤ 12) (fm : ∀ i x, ms[i]? = some x → gA h 2 ma i = .ref x) (k : Int32) (r : Value) (hr : (k < 0 ∨ nI ms.length ≤ k → r = .null) ∧ ∀ j x, ms[j]? = some x → k = nI j → r = .ref x) : Xc E m_B_at 0 0 0 [.ref mb, .int k] h (Ex (some r) h) := by
  refine Xc.of (by decide) (by simp [Value.category]) (Nat.le_of_ble_eq_true rfl) ?_
  show Xw E m_B_at 0 0 0 0 [some (.ref mb), some (.int k)] [] h _
  refine x_iload_n d_B_at_0 rfl rfl ?_
  refine x_if_lt (tgt := 21) d_B_at_1 rfl (fun q1 => ?_) (fun q1 => ?_)
  · obtain rfl : r = .null := hr.1 (Or.inl q1)
    refine x_null d_B_at_21 ?_
    exact x_aret d_B_at_22 rfl (Or.inl ⟨_, rfl⟩) (Or.inl rfl) ⟨rfl, rfl⟩
  · refine x_iload_n d_B_at_4 rfl rfl ?_
    refine x_aload_n d_B_at_5 rfl rfl ?_
    refine x_getf (v := .int (nI ms.length)) d_B_at_6 lf_B_17 k1 f1 ?_
    refine x_icmp_ge (tgt := 21) d_B_at_9 rfl (fun q9 => ?_) (fun q9 => ?_)
    · obtain rfl : r = .null := hr.1 (Or.inr q9)
      refine x_null d_B_at_21 ?_
      exact x_aret d_B_at_22 rfl (Or.inl ⟨_, rfl⟩) (Or.inl rfl) ⟨rfl, rfl⟩
    · obtain ⟨j, hj, rfl⟩ := nI_of q1
      have hjn : j < ms.length := Nat.lt_of_not_le (fun z => q9 (nI_le z hj))
      obtain ⟨x, hx⟩ := get_some hjn
      obtain rfl : r = .ref x := hr.2 j x hx rfl
      refine x_aload_n d_B_at_12 rfl rfl ?_
      refine x_getf (v := .ref ma) d_B_at_13 lf_B_11 k1 f0 ?_
      refine x_iload_n d_B_at_16 rfl rfl ?_
      refine x_aald (v := .ref x) d_B_at_17 k2 rfl (vp_in_nI (by omega) (by decide)) (by rw [nI_cl hj]; exact fm j x hx) ?_
      refine x_goto (tgt := 22) d_B_at_18 rfl ?_
      exact x_aret d_B_at_22 rfl (Or.inl ⟨_, rfl⟩) (Or.inr ⟨_, rfl⟩) ⟨rfl, rfl⟩
theorem c_B_marked {E : th_E} {h : th_H} {mb ma mk : Nat} {ms : List Nat} (k1 : gk h mb = some (.inl 1)) (k2 : gk h ma = some (.inr (2, 12))) (f0 : gF h 1 0 mb = .ref ma) (f1 : gF h 1 1 mb = .int (nI ms.length)) (f2 : gF h 1 2 mb = .int (nI mk)) (hn : ms.length ≤ 12) (fm : ∀ i x, ms[i]? = some x → gA h 2 ma i = .ref x) (r : Value) (hv : r = .null ∨ ∃ a, r = .ref a) (hr : (nI mk < 0 ∨ nI ms.length ≤ nI mk → r = .null) ∧ ∀ j x, ms[j]? = some x → nI mk = nI j → r = .ref x) : Xc E m_B_marked 1 0 0 [.ref mb] h (Ex (some r) h) := by
  refine Xc.of (by decide) (by simp [Value.category]) (Nat.le_of_ble_eq_true rfl) ?_
  show Xw E m_B_marked 1 0 0 0 [some (.ref mb)] [] h _
  refine x_aload_n d_B_marked_0 rfl rfl ?_
  refine x_aload_n d_B_marked_1 rfl rfl ?_
  refine x_getf (v := .int (nI mk)) d_B_marked_2 lf_B_21 k1 f2 ?_
  refine x_invv d_B_marked_5 lm_B_24 (as := [.int (nI mk)]) (S := []) (c_B_at k1 k2 f0 f1 f2 hn fm (nI mk) r hr) k1 rfl rfl rfl (Nat.le_of_ble_eq_true rfl) (Nat.le_refl 1) (Nat.le_refl 0) (Nat.le_refl 0) ?_
  rintro _ _ ⟨rfl, rfl⟩
  exact x_aret d_B_marked_8 rfl (Or.inl ⟨_, rfl⟩) hv ⟨rfl, rfl⟩
theorem c_B_put_full {E : th_E} {h : th_H} {mb ma mk : Nat} {ms : List Nat} (k1 : gk h mb = some (.inl 1)) (k2 : gk h ma = some (.inr (2, 12))) (f0 : gF h 1 0 mb = .ref ma) (f1 : gF h 1 1 mb = .int (nI ms.length)) (f2 : gF h 1 2 mb = .int (nI mk)) (hn : ms.length ≤ 12) (fm : ∀ i x, ms[i]? = some x → gA h 2 ma i = .ref x) (x : Nat) (hf : 12 ≤ ms.length) : Xc E m_B_put 0 0 0 [.ref mb, .ref x] h (Ex (some (.int 0)) h) := by
  refine Xc.of (by decide) (by simp [Value.category]) (Nat.le_of_ble_eq_true rfl) ?_
  show Xw E m_B_put 0 0 0 0 [some (.ref mb), some (.ref x)] [] h _
  refine x_aload_n d_B_put_0 rfl rfl ?_
  refine x_getf (v := .int (nI ms.length)) d_B_put_1 lf_B_17 k1 f1 ?_
  refine x_bipush (v := 12) d_B_put_4 (by decide) ?_
  refine x_icmp_lt (tgt := 11) d_B_put_6 rfl (fun q => absurd q (nI_nlt (b := 12) hf (by omega))) (fun q6 => ?_)
  refine x_iconst (v := 0) d_B_put_9 (by decide) ?_
  exact x_iret d_B_put_10 rfl rfl ⟨rfl, rfl⟩
theorem c_B_put {E : th_E} {h : th_H} {mb ma mk : Nat} {ms : List Nat} (k1 : gk h mb = some (.inl 1)) (k2 : gk h ma = some (.inr (2, 12))) (f0 : gF h 1 0 mb = .ref ma) (f1 : gF h 1 1 mb = .int (nI ms.length)) (f2 : gF h 1 2 mb = .int (nI mk)) (hn : ms.length ≤ 12) (fm : ∀ i x, ms[i]? = some x → gA h 2 ma i = .ref x) (x : Nat) (kx : gk h x = some (.inl 0)) (hf : ms.length < 12) : Xc E m_B_put 0 0 0 [.ref mb, .ref x] h (Ex (some (.int 1)) (gpF (gpA h 2 ma ms.length (.ref x)) 1 1 mb (.int (nI (ms.length + 1))))) := by
  refine Xc.of (by decide) (by simp [Value.category]) (Nat.le_of_ble_eq_true rfl) ?_
  show Xw E m_B_put 0 0 0 0 [some (.ref mb), some (.ref x)] [] h _
  refine x_aload_n d_B_put_0 rfl rfl ?_
  refine x_getf (v := .int (nI ms.length)) d_B_put_1 lf_B_17 k1 f1 ?_
  refine x_bipush (v := 12) d_B_put_4 (by decide) ?_
  refine x_icmp_lt (tgt := 11) d_B_put_6 rfl (fun q6 => ?_) (fun q => absurd (nI_lt (b := 12) hf (by decide)) q)
  refine x_aload_n d_B_put_11 rfl rfl ?_
  refine x_getf (v := .ref ma) d_B_put_12 lf_B_11 k1 f0 ?_
  refine x_aload_n d_B_put_15 rfl rfl ?_
  refine x_getf (v := .int (nI ms.length)) d_B_put_16 lf_B_17 k1 f1 ?_
  refine x_aload_n d_B_put_19 rfl rfl ?_
  refine x_aast d_B_put_20 k2 rfl kx rfl (vp_in_nI hf (by decide)) ?_
  rw [nI_cl (by omega)]
  refine x_aload_n d_B_put_21 rfl rfl ?_
  refine x_dup d_B_put_22 rfl ?_
  refine x_getf (v := .int (nI ms.length)) d_B_put_23 lf_B_17 k1 (by simp [gF_pF, gF_pA, gF_nO, gF_nA, f1]) ?_
  refine x_iconst (v := 1) d_B_put_26 (by decide) ?_
  refine x_iadd (v := (nI (ms.length + 1))) d_B_put_27 (nI_1 _) ?_
  refine x_putf d_B_put_28 lp_B_17 k1 ⟨_, rfl⟩ ?_
  refine x_iconst (v := 1) d_B_put_31 (by decide) ?_
  exact x_iret d_B_put_32 rfl rfl ⟨rfl, rfl⟩
theorem c_B_take_none {E : th_E} {h : th_H} {mb ma mk : Nat} {ms : List Nat} (k1 : gk h mb = some (.inl 1)) (k2 : gk h ma = some (.inr (2, 12))) (f0 : gF h 1 0 mb = .ref ma) (f1 : gF h 1 1 mb = .int (nI ms.length)) (f2 : gF h 1 2 mb = .int (nI mk)) (hn : ms.length ≤ 12) (fm : ∀ i x, ms[i]? = some x → gA h 2 ma i = .ref x) (hmk : mk < 2 ^ 31) (hf : ms.length ≤ mk) : Xc E m_B_take 2 0 0 [.ref mb] h (Ex (some (.int 0)) h) := by
  refine Xc.of (by decide) (by simp [Value.category]) (Nat.le_of_ble_eq_true rfl) ?_
  show Xw E m_B_take 2 0 0 0 [some (.ref mb), none] [] h _
  refine x_aload_n d_B_take_0 rfl rfl ?_
  refine x_invv d_B_take_1 lm_B_28 (as := []) (S := []) (c_B_marked k1 k2 f0 f1 f2 hn fm .null (Or.inl rfl) ⟨fun _ => rfl, fun j x hx e => absurd (List.getElem?_eq_some_iff.mp hx).1 (by have := nI_inj hmk (by have := (List.getElem?_eq_some_iff.mp hx).1; omega) e; omega)⟩) k1 rfl rfl rfl (Nat.le_of_ble_eq_true rfl) (Nat.le_refl 2) (Nat.le_refl 0) (Nat.le_refl 0) ?_
  rintro _ _ ⟨rfl, rfl⟩
  refine x_ifnonnullN d_B_take_4 ?_
  refine x_iconst (v := 0) d_B_take_7 (by decide) ?_
  exact x_iret d_B_take_8 rfl rfl ⟨rfl, rfl⟩
theorem c_B_take_loop {E : th_E} {h : th_H} {mb ma mk : Nat} {ms : List Nat} (k1 : gk h mb = some (.inl 1)) (k2 : gk h ma = some (.inr (2, 12))) (f0 : gF h 1 0 mb = .ref ma) (f1 : gF h 1 1 mb = .int (nI ms.length)) (f2 : gF h 1 2 mb = .int (nI mk)) (hn : ms.length ≤ 12) (fm : ∀ i x, ms[i]? = some x → gA h 2 ma i = .ref x) (kx : ∀ x ∈ ms, gk h x = some (.inl 0)) (hf : mk < ms.length) : ∀ (m k : Nat) (f : Nat → Value), k + m = ms.length → mk < k → (∀ j x, k ≤ j → ms[j]? = some x → f j = .ref x) → (∀ i x, i + 1 < k → (ms.eraseIdx mk)[i]? = some x → f i = .ref x) → Xw E m_B_take 2 0 0 16 [some (.ref mb), some (.int (nI k))] [] (gsA h 2 ma f) (fun v h' => v = some (.int 1) ∧ ∃ f' : Nat → Value, h' = gpF (gpF (gsA h 2 ma f') 1 1 mb (.int (nI (ms.length - 1)))) 1 2 mb (.int 0) ∧ ∀ i x, (ms.eraseIdx mk)[i]? = some x → f' i = .ref x) := by
  intro m
  induction m with
  | zero =>
    intro k f hk hmk i1 i2
    refine x_iload_n d_B_take_16 rfl rfl ?_
    refine x_aload_n d_B_take_17 rfl rfl ?_
    refine x_getf (v := .int (nI ms.length)) d_B_take_18 lf_B_17 k1 f1 ?_
    refine x_icmp_ge (tgt := 44) d_B_take_21 rfl (fun q21 => ?_) (fun q => absurd (nI_le (by omega) (by omega)) q)
    refine x_aload_n d_B_take_44 rfl rfl ?_
    refine x_dup d_B_take_45 rfl ?_
    refine x_getf (v := .int (nI ms.length)) d_B_take_46 lf_B_17 k1 f1 ?_
    refine x_iconst (v := 1) d_B_take_49 (by decide) ?_
    refine x_isub (v := (nI (ms.length - 1))) d_B_take_50 (by rw [show (1 : Int32) = nI 1 from rfl, pk_sub (by omega)]) ?_
    refine x_putf d_B_take_51 lp_B_17 k1 ⟨_, rfl⟩ ?_
    refine x_aload_n d_B_take_54 rfl rfl ?_
    refine x_iconst (v := 0) d_B_take_55 (by decide) ?_
    refine x_putf d_B_take_56 lp_B_21 k1 ⟨_, rfl⟩ ?_
    refine x_iconst (v := 1) d_B_take_59 (by decide) ?_
    exact x_iret d_B_take_60 rfl rfl ⟨rfl, f, rfl, fun i x hi => i2 i x (by have := (List.getElem?_eq_some_iff.mp hi).1; rw [List.length_eraseIdx, if_pos hf] at this; omega) hi⟩
  | succ m ih =>
    intro k f hk hmk i1 i2
    obtain ⟨x, hx⟩ := get_some (l := ms) (k := k) (by omega)
    refine x_iload_n d_B_take_16 rfl rfl ?_
    refine x_aload_n d_B_take_17 rfl rfl ?_
    refine x_getf (v := .int (nI ms.length)) d_B_take_18 lf_B_17 k1 f1 ?_
    refine x_icmp_ge (tgt := 44) d_B_take_21 rfl (fun q => absurd q (nI_ge (by omega) (by omega))) (fun q21 => ?_)
    refine x_aload_n d_B_take_24 rfl rfl ?_
    refine x_getf (v := .ref ma) d_B_take_25 lf_B_11 k1 f0 ?_
    refine x_iload_n d_B_take_28 rfl rfl ?_
    refine x_iconst (v := 1) d_B_take_29 (by decide) ?_
    refine x_isub (v := (nI (k - 1))) d_B_take_30 (by rw [show (1 : Int32) = nI 1 from rfl, pk_sub (by omega)]) ?_
    refine x_aload_n d_B_take_31 rfl rfl ?_
    refine x_getf (v := .ref ma) d_B_take_32 lf_B_11 k1 f0 ?_
    refine x_iload_n d_B_take_35 rfl rfl ?_
    refine x_aald (v := .ref x) d_B_take_36 k2 rfl (vp_in_nI (by omega) (by decide)) (by rw [nI_cl (by omega), gA_sA, if_pos ⟨rfl, rfl⟩]; exact i1 k x (Nat.le_refl _) hx) ?_
    refine x_aast d_B_take_37 k2 rfl (kx x (List.mem_of_getElem? hx)) rfl (vp_in_nI (by omega) (by decide)) ?_
    rw [nI_cl (by omega), gpA_sA]
    refine x_iinc d_B_take_38 rfl (v := (nI (k + 1))) (nI_1 _) (by decide) (L' := [some (.ref mb), some (.int (nI (k + 1)))]) rfl ?_
    refine x_goto (tgt := 16) d_B_take_41 rfl ?_
    exact ih (k + 1) _ (by omega) (by omega) (fun j y hj hy => by rw [if_neg (by omega)]; exact i1 j y (by omega) hy) (fun i y hi hy => by
      by_cases hik : i = k - 1
      · rw [if_pos hik]
        rw [hik, List.getElem?_eraseIdx_of_ge (by omega), Nat.sub_add_cancel (by omega), hx] at hy
        cases hy
        rfl
      · rw [if_neg hik]
        exact i2 i y (by omega) hy)
theorem c_B_take {E : th_E} {h : th_H} {mb ma mk : Nat} {ms : List Nat} (k1 : gk h mb = some (.inl 1)) (k2 : gk h ma = some (.inr (2, 12))) (f0 : gF h 1 0 mb = .ref ma) (f1 : gF h 1 1 mb = .int (nI ms.length)) (f2 : gF h 1 2 mb = .int (nI mk)) (hn : ms.length ≤ 12) (fm : ∀ i x, ms[i]? = some x → gA h 2 ma i = .ref x) (kx : ∀ x ∈ ms, gk h x = some (.inl 0)) (hf : mk < ms.length) : Xc E m_B_take 2 0 0 [.ref mb] h (fun v h' => v = some (.int 1) ∧ ∃ f' : Nat → Value, h' = gpF (gpF (gsA h 2 ma f') 1 1 mb (.int (nI (ms.length - 1)))) 1 2 mb (.int 0) ∧ ∀ i x, (ms.eraseIdx mk)[i]? = some x → f' i = .ref x) := by
  obtain ⟨y, hy⟩ := get_some hf
  refine Xc.of (by decide) (by simp [Value.category]) (Nat.le_of_ble_eq_true rfl) ?_
  show Xw E m_B_take 2 0 0 0 [some (.ref mb), none] [] h _
  refine x_aload_n d_B_take_0 rfl rfl ?_
  refine x_invv d_B_take_1 lm_B_28 (as := []) (S := []) (c_B_marked k1 k2 f0 f1 f2 hn fm (.ref y) (Or.inr ⟨_, rfl⟩) ⟨fun z => absurd z (by rintro (z | z); exact nI_pos (by omega) z; exact nI_ge hf (by omega) z), fun j x hx e => by have := nI_inj (by omega) (by have := (List.getElem?_eq_some_iff.mp hx).1; omega) e; subst this; rw [hy] at hx; cases hx; rfl⟩) k1 rfl rfl rfl (Nat.le_of_ble_eq_true rfl) (Nat.le_refl 2) (Nat.le_refl 0) (Nat.le_refl 0) ?_
  rintro _ _ ⟨rfl, rfl⟩
  refine x_ifnonnull (tgt := 9) d_B_take_4 rfl ?_
  refine x_aload_n d_B_take_9 rfl rfl ?_
  refine x_getf (v := .int (nI mk)) d_B_take_10 lf_B_21 k1 f2 ?_
  refine x_iconst (v := 1) d_B_take_13 (by decide) ?_
  refine x_iadd (v := (nI (mk + 1))) d_B_take_14 (nI_1 _) ?_
  refine x_istore_n d_B_take_15 rfl (by decide) (L' := [some (.ref mb), some (.int (nI (mk + 1)))]) rfl ?_
  have hh := c_B_take_loop (E := E) k1 k2 f0 f1 f2 hn fm kx hf (ms.length - (mk + 1)) (mk + 1) (gA h 2 ma) (by omega) (by omega) (fun j x _ hx => fm j x hx) (fun i x hi hx => by rw [List.getElem?_eraseIdx_of_lt (by omega)] at hx; exact fm i x hx)
  rw [gsA_self] at hh
  exact hh
