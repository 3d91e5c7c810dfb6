/-! HostProcess (printed by wip/gen/mod_proc.py). -/
theorem i32_out {k : Int32} {n : Nat} (hn : n < 2 ^ 31) (h : ∀ j : Nat, j < n → ¬ k = nI j) : k.toInt < 0 ∨ (n : Int) - 1 < k.toInt := by
  by_cases h0 : k < 0
  · left
    have := Int32.lt_iff_toInt_lt.mp h0
    simpa using this
  · right
    obtain ⟨j, hj, rfl⟩ := nI_of h0
    rw [nI_toInt hj]
    by_cases hjn : j < n
    · exact absurd rfl (h j hjn)
    · omega
theorem c_P_goTo {E : th_E} {h : th_H} {p : Nat} (k1 : gk h p = some (.inl 2)) (l : Int32) : Xc E m_P_goTo 0 0 0 [.ref p, .int l] h (Ex (some (.int 1)) (gpF h 2 6 p (.int l))) := by
  refine Xc.of (by decide) (by simp [Value.category]) (Nat.le_of_ble_eq_true rfl) ?_
  show Xw E m_P_goTo 0 0 0 0 [some (.ref p), some (.int l)] [] h _
  refine x_aload_n d_P_goTo_0 rfl rfl ?_
  refine x_iload_n d_P_goTo_1 rfl rfl ?_
  refine x_putf d_P_goTo_2 lp_P_45 k1 ⟨_, rfl⟩ ?_
  refine x_iconst (v := 1) d_P_goTo_5 (by decide) ?_
  exact x_iret d_P_goTo_6 rfl rfl ⟨rfl, rfl⟩
theorem c_P_set_null {E : th_E} {h : th_H} {p : Nat} (k1 : gk h p = some (.inl 2)) (r : Int32) : Xc E m_P_set 0 0 0 [.ref p, .int r, .null] h (Ex (some (.int 0)) h) := by
  refine Xc.of (by decide) (by simp [Value.category]) (Nat.le_of_ble_eq_true rfl) ?_
  show Xw E m_P_set 0 0 0 0 [some (.ref p), some (.int r), some (.null)] [] h _
  refine x_aload_nN d_P_set_0 rfl rfl ?_
  refine x_ifnonnullN d_P_set_1 ?_
  refine x_iconst (v := 0) d_P_set_4 (by decide) ?_
  exact x_iret d_P_set_5 rfl rfl ⟨rfl, rfl⟩
theorem c_P_set {E : th_E} {h : th_H} {p : Nat} (k1 : gk h p = some (.inl 2)) {ra r x : Nat} (k2 : gk h ra = some (.inr (2, 8))) (f2 : gF h 2 2 p = .ref ra) (hr : r < 8) (kx : gk h x = some (.inl 0)) : Xc E m_P_set 0 0 0 [.ref p, .int (nI r), .ref x] h (Ex (some (.int 1)) (gpA h 2 ra r (.ref x))) := by
  refine Xc.of (by decide) (by simp [Value.category]) (Nat.le_of_ble_eq_true rfl) ?_
  show Xw E m_P_set 0 0 0 0 [some (.ref p), some (.int (nI r)), some (.ref x)] [] h _
  refine x_aload_n d_P_set_0 rfl rfl ?_
  refine x_ifnonnull (tgt := 6) d_P_set_1 rfl ?_
  refine x_aload_n d_P_set_6 rfl rfl ?_
  refine x_getf (v := .ref ra) d_P_set_7 lf_P_24 k1 f2 ?_
  refine x_iload_n d_P_set_10 rfl rfl ?_
  refine x_aload_n d_P_set_11 rfl rfl ?_
  refine x_aast d_P_set_12 k2 rfl kx rfl (vp_in_nI hr (by decide)) ?_
  rw [nI_cl (by omega)]
  refine x_iconst (v := 1) d_P_set_13 (by decide) ?_
  exact x_iret d_P_set_14 rfl rfl ⟨rfl, rfl⟩
theorem c_P_push_no {E : th_E} {h : th_H} {p : Nat} (k1 : gk h p = some (.inl 2)) {ta n : Nat} {pl : Int32} (k2 : gk h ta = some (.inr (1, 6))) (f3 : gF h 2 3 p = .ref ta) (f5 : gF h 2 5 p = .int (nI n)) (f6 : gF h 2 6 p = .int pl) (hn : 6 ≤ n) (hb : n < 2 ^ 31) : Xc E m_P_pushReturn 0 0 0 [.ref p] h (Ex (some (.int 0)) h) := by
  refine Xc.of (by decide) (by simp [Value.category]) (Nat.le_of_ble_eq_true rfl) ?_
  show Xw E m_P_pushReturn 0 0 0 0 [some (.ref p)] [] h _
  refine x_aload_n d_P_pushReturn_0 rfl rfl ?_
  refine x_getf (v := .int (nI n)) d_P_pushReturn_1 lf_P_42 k1 f5 ?_
  refine x_bipush (v := 6) d_P_pushReturn_4 (by decide) ?_
  refine x_icmp_lt (tgt := 11) d_P_pushReturn_6 rfl (fun q => absurd q (nI_nlt (b := 6) hn hb)) (fun q6 => ?_)
  refine x_iconst (v := 0) d_P_pushReturn_9 (by decide) ?_
  exact x_iret d_P_pushReturn_10 rfl rfl ⟨rfl, rfl⟩
theorem c_P_push {E : th_E} {h : th_H} {p : Nat} (k1 : gk h p = some (.inl 2)) {ta n : Nat} {pl : Int32} (k2 : gk h ta = some (.inr (1, 6))) (f3 : gF h 2 3 p = .ref ta) (f5 : gF h 2 5 p = .int (nI n)) (f6 : gF h 2 6 p = .int pl) (hn : n < 6) : Xc E m_P_pushReturn 0 0 0 [.ref p] h (Ex (some (.int 1)) (gpF (gpA h 1 ta n (.int pl)) 2 5 p (.int (nI (n + 1))))) := by
  refine Xc.of (by decide) (by simp [Value.category]) (Nat.le_of_ble_eq_true rfl) ?_
  show Xw E m_P_pushReturn 0 0 0 0 [some (.ref p)] [] h _
  refine x_aload_n d_P_pushReturn_0 rfl rfl ?_
  refine x_getf (v := .int (nI n)) d_P_pushReturn_1 lf_P_42 k1 f5 ?_
  refine x_bipush (v := 6) d_P_pushReturn_4 (by decide) ?_
  refine x_icmp_lt (tgt := 11) d_P_pushReturn_6 rfl (fun q6 => ?_) (fun q => absurd (nI_lt (b := 6) hn (by decide)) q)
  refine x_aload_n d_P_pushReturn_11 rfl rfl ?_
  refine x_getf (v := .ref ta) d_P_pushReturn_12 lf_P_28 k1 f3 ?_
  refine x_aload_n d_P_pushReturn_15 rfl rfl ?_
  refine x_getf (v := .int (nI n)) d_P_pushReturn_16 lf_P_42 k1 f5 ?_
  refine x_aload_n d_P_pushReturn_19 rfl rfl ?_
  refine x_getf (v := .int pl) d_P_pushReturn_20 lf_P_45 k1 f6 ?_
  refine x_iast d_P_pushReturn_23 k2 rfl (vp_in_nI hn (by decide)) ?_
  rw [nI_cl (by omega)]
  refine x_aload_n d_P_pushReturn_24 rfl rfl ?_
  refine x_dup d_P_pushReturn_25 rfl ?_
  refine x_getf (v := .int (nI n)) d_P_pushReturn_26 lf_P_42 k1 (by simp [gF_pF, gF_pA, gF_nO, gF_nA, gF_sA, f5]) ?_
  refine x_iconst (v := 1) d_P_pushReturn_29 (by decide) ?_
  refine x_iadd (v := (nI (n + 1))) d_P_pushReturn_30 (nI_1 _) ?_
  refine x_putf d_P_pushReturn_31 lp_P_42 k1 ⟨_, rfl⟩ ?_
  refine x_iconst (v := 1) d_P_pushReturn_34 (by decide) ?_
  exact x_iret d_P_pushReturn_35 rfl rfl ⟨rfl, rfl⟩
theorem c_P_answer {E : th_E} {h : th_H} {p : Nat} (k1 : gk h p = some (.inl 2)) {mb : Nat} {st pl mk mc rc lk tr dn : Int32} (k2 : gk h mb = some (.inl 1)) (f9 : gF h 2 9 p = .int st) (f6 : gF h 2 6 p = .int pl) (f4 : gF h 2 4 p = .ref mb) (g2 : gF h 1 2 mb = .int mk) (g1 : gF h 1 1 mb = .int mc) (f5 : gF h 2 5 p = .int rc) (f7 : gF h 2 7 p = .int lk) (f8 : gF h 2 8 p = .int tr) (f11 : gF h 2 11 p = .int dn) (htr : tr = 0 ∨ tr = 1) (k r : Int32) (hr : (k = 0 → r = st) ∧ (k = 1 → r = pl) ∧ (k = 2 → r = mk) ∧ (k = 3 → r = mc) ∧ (k = 4 → r = rc) ∧ (k = 5 → r = lk) ∧ (k = 6 → r = tr) ∧ (k = 7 → r = dn) ∧ ((∀ j : Nat, j < 8 → ¬ k = nI j) → r = -1)) : Xc E m_P_answer 0 0 0 [.ref p, .int k] h (Ex (some (.int r)) h) := by
  by_cases h0 : k = 0
  · subst h0
    have hr := hr.1 rfl
    refine Xc.of (by decide) (by simp [Value.category]) (Nat.le_of_ble_eq_true rfl) ?_
    show Xw E m_P_answer 0 0 0 0 [some (.ref p), some (.int 0)] [] h _
    refine x_iload_n d_P_answer_0 rfl rfl ?_
    refine x_tableIn (tgt := 48) (off := 47) d_P_answer_1 (by decide) (by decide) rfl rfl ?_
    refine x_aload_n d_P_answer_48 rfl rfl ?_
    refine x_getf (v := .int st) d_P_answer_49 lf_P_55 k1 f9 ?_
    exact x_iret d_P_answer_52 rfl rfl ⟨by rw [hr], rfl⟩
  by_cases h1 : k = 1
  · subst h1
    have hr := hr.2.1 rfl
    refine Xc.of (by decide) (by simp [Value.category]) (Nat.le_of_ble_eq_true rfl) ?_
    show Xw E m_P_answer 0 0 0 0 [some (.ref p), some (.int 1)] [] h _
    refine x_iload_n d_P_answer_0 rfl rfl ?_
    refine x_tableIn (tgt := 53) (off := 52) d_P_answer_1 (by decide) (by decide) rfl rfl ?_
    refine x_aload_n d_P_answer_53 rfl rfl ?_
    refine x_getf (v := .int pl) d_P_answer_54 lf_P_45 k1 f6 ?_
    exact x_iret d_P_answer_57 rfl rfl ⟨by rw [hr], rfl⟩
  by_cases h2 : k = 2
  · subst h2
    have hr := hr.2.2.1 rfl
    refine Xc.of (by decide) (by simp [Value.category]) (Nat.le_of_ble_eq_true rfl) ?_
    show Xw E m_P_answer 0 0 0 0 [some (.ref p), some (.int 2)] [] h _
    refine x_iload_n d_P_answer_0 rfl rfl ?_
    refine x_tableIn (tgt := 58) (off := 57) d_P_answer_1 (by decide) (by decide) rfl rfl ?_
    refine x_aload_n d_P_answer_58 rfl rfl ?_
    refine x_getf (v := .ref mb) d_P_answer_59 lf_P_35 k1 f4 ?_
    refine x_getf (v := .int mk) d_P_answer_62 lf_P_64 k2 g2 ?_
    exact x_iret d_P_answer_65 rfl rfl ⟨by rw [hr], rfl⟩
  by_cases h3 : k = 3
  · subst h3
    have hr := hr.2.2.2.1 rfl
    refine Xc.of (by decide) (by simp [Value.category]) (Nat.le_of_ble_eq_true rfl) ?_
    show Xw E m_P_answer 0 0 0 0 [some (.ref p), some (.int 3)] [] h _
    refine x_iload_n d_P_answer_0 rfl rfl ?_
    refine x_tableIn (tgt := 66) (off := 65) d_P_answer_1 (by decide) (by decide) rfl rfl ?_
    refine x_aload_n d_P_answer_66 rfl rfl ?_
    refine x_getf (v := .ref mb) d_P_answer_67 lf_P_35 k1 f4 ?_
    refine x_getf (v := .int mc) d_P_answer_70 lf_P_67 k2 g1 ?_
    exact x_iret d_P_answer_73 rfl rfl ⟨by rw [hr], rfl⟩
  by_cases h4 : k = 4
  · subst h4
    have hr := hr.2.2.2.2.1 rfl
    refine Xc.of (by decide) (by simp [Value.category]) (Nat.le_of_ble_eq_true rfl) ?_
    show Xw E m_P_answer 0 0 0 0 [some (.ref p), some (.int 4)] [] h _
    refine x_iload_n d_P_answer_0 rfl rfl ?_
    refine x_tableIn (tgt := 74) (off := 73) d_P_answer_1 (by decide) (by decide) rfl rfl ?_
    refine x_aload_n d_P_answer_74 rfl rfl ?_
    refine x_getf (v := .int rc) d_P_answer_75 lf_P_42 k1 f5 ?_
    exact x_iret d_P_answer_78 rfl rfl ⟨by rw [hr], rfl⟩
  by_cases h5 : k = 5
  · subst h5
    have hr := hr.2.2.2.2.2.1 rfl
    refine Xc.of (by decide) (by simp [Value.category]) (Nat.le_of_ble_eq_true rfl) ?_
    show Xw E m_P_answer 0 0 0 0 [some (.ref p), some (.int 5)] [] h _
    refine x_iload_n d_P_answer_0 rfl rfl ?_
    refine x_tableIn (tgt := 79) (off := 78) d_P_answer_1 (by decide) (by decide) rfl rfl ?_
    refine x_aload_n d_P_answer_79 rfl rfl ?_
    refine x_getf (v := .int lk) d_P_answer_80 lf_P_48 k1 f7 ?_
    exact x_iret d_P_answer_83 rfl rfl ⟨by rw [hr], rfl⟩
  by_cases h6 : k = 6
  · subst h6
    refine Xc.of (by decide) (by simp [Value.category]) (Nat.le_of_ble_eq_true rfl) ?_
    show Xw E m_P_answer 0 0 0 0 [some (.ref p), some (.int 6)] [] h _
    refine x_iload_n d_P_answer_0 rfl rfl ?_
    refine x_tableIn (tgt := 84) (off := 83) d_P_answer_1 (by decide) (by decide) rfl rfl ?_
    refine x_aload_n d_P_answer_84 rfl rfl ?_
    refine x_getf (v := .int tr) d_P_answer_85 lf_P_51 k1 f8 ?_
    refine x_if_eq (tgt := 95) d_P_answer_88 rfl (fun q88 => ?_) (fun q88 => ?_)
    · obtain rfl : r = 0 := by rw [hr.2.2.2.2.2.2.1 rfl]; exact q88
      refine x_iconst (v := 0) d_P_answer_95 (by decide) ?_
      exact x_iret d_P_answer_96 rfl rfl ⟨rfl, rfl⟩
    · obtain rfl : r = 1 := by rw [hr.2.2.2.2.2.2.1 rfl]; exact htr.resolve_left q88
      refine x_iconst (v := 1) d_P_answer_91 (by decide) ?_
      refine x_goto (tgt := 96) d_P_answer_92 rfl ?_
      exact x_iret d_P_answer_96 rfl rfl ⟨rfl, rfl⟩
  by_cases h7 : k = 7
  · subst h7
    have hr := hr.2.2.2.2.2.2.2.1 rfl
    refine Xc.of (by decide) (by simp [Value.category]) (Nat.le_of_ble_eq_true rfl) ?_
    show Xw E m_P_answer 0 0 0 0 [some (.ref p), some (.int 7)] [] h _
    refine x_iload_n d_P_answer_0 rfl rfl ?_
    refine x_tableIn (tgt := 97) (off := 96) d_P_answer_1 (by decide) (by decide) rfl rfl ?_
    refine x_aload_n d_P_answer_97 rfl rfl ?_
    refine x_getf (v := .int dn) d_P_answer_98 lf_P_61 k1 f11 ?_
    exact x_iret d_P_answer_101 rfl rfl ⟨by rw [hr], rfl⟩
  have hr := hr.2.2.2.2.2.2.2.2 (by intro j hj e; rcases (show j = 0 ∨ j = 1 ∨ j = 2 ∨ j = 3 ∨ j = 4 ∨ j = 5 ∨ j = 6 ∨ j = 7 by omega) with rfl | rfl | rfl | rfl | rfl | rfl | rfl | rfl <;> exact absurd e (by assumption))
  refine Xc.of (by decide) (by simp [Value.category]) (Nat.le_of_ble_eq_true rfl) ?_
  show Xw E m_P_answer 0 0 0 0 [some (.ref p), some (.int k)] [] h _
  refine x_iload_n d_P_answer_0 rfl rfl ?_
  refine x_tableOut (tgt := 102) d_P_answer_1 (i32_out (n := 8) (by decide) (fun j hj => by rcases (show j = 0 ∨ j = 1 ∨ j = 2 ∨ j = 3 ∨ j = 4 ∨ j = 5 ∨ j = 6 ∨ j = 7 by omega) with rfl | rfl | rfl | rfl | rfl | rfl | rfl | rfl <;> assumption)) rfl ?_
  refine x_iconst (v := (-1)) d_P_answer_102 (by decide) ?_
  exact x_iret d_P_answer_103 rfl rfl ⟨by rw [hr], rfl⟩
theorem c_P_termAt {E : th_E} {h : th_H} {p : Nat} (k1 : gk h p = some (.inl 2)) {ra mb ma mk : Nat} {rs : Value} {rg : Nat → Nat} {ms : List Nat} (k2 : gk h ra = some (.inr (2, 8))) (k3 : gk h mb = some (.inl 1)) (k4 : gk h ma = some (.inr (2, 12))) (f2 : gF h 2 2 p = .ref ra) (f4 : gF h 2 4 p = .ref mb) (f10 : gF h 2 10 p = rs) (hrs : rs = .null ∨ ∃ a, rs = .ref a) (g0 : gF h 1 0 mb = .ref ma) (g1 : gF h 1 1 mb = .int (nI ms.length)) (g2 : gF h 1 2 mb = .int (nI mk)) (hn : ms.length ≤ 12) (fr : ∀ j, j < 8 → gA h 2 ra j = .ref (rg j)) (fm : ∀ i x, ms[i]? = some x → gA h 2 ma i = .ref x) (k : Int32) (r : Value) (hr : (k < 0 → r = .null) ∧ (∀ j, j < 8 → k = nI j → r = .ref (rg j)) ∧ (k = 8 → r = rs) ∧ (∀ j, j < ms.length → k = nI (9 + j) → ∃ x, ms[j]? = some x ∧ r = .ref x) ∧ (¬ k < nI (9 + ms.length) → r = .null)) : Xc E m_P_termAt 1 0 0 [.ref p, .int k] h (Ex (some r) h) := by
  by_cases c0 : k < 0
  · refine Xc.of (by decide) (by simp [Value.category]) (Nat.le_of_ble_eq_true rfl) ?_
    show Xw E m_P_termAt 1 0 0 0 [some (.ref p), some (.int k)] [] h _
    refine x_iload_n d_P_termAt_0 rfl rfl ?_
    refine x_if_ge (tgt := 6) d_P_termAt_1 rfl (fun q => absurd q (fun z => i32_nl z c0)) (fun q1 => ?_)
    refine x_null d_P_termAt_4 ?_
    exact x_aret d_P_termAt_5 rfl (Or.inl ⟨_, rfl⟩) (Or.inl rfl) ⟨by rw [hr.1 c0], rfl⟩
  obtain ⟨j, hj31, rfl⟩ := nI_of c0
  by_cases c1 : j < 8
  · refine Xc.of (by decide) (by simp [Value.category]) (Nat.le_of_ble_eq_true rfl) ?_
    show Xw E m_P_termAt 1 0 0 0 [some (.ref p), some (.int (nI j))] [] h _
    refine x_iload_n d_P_termAt_0 rfl rfl ?_
    refine x_if_ge (tgt := 6) d_P_termAt_1 rfl (fun q1 => ?_) (fun q => absurd (nI_pos' hj31) q)
    refine x_iload_n d_P_termAt_6 rfl rfl ?_
    refine x_bipush (v := 8) d_P_termAt_7 (by decide) ?_
    refine x_icmp_ge (tgt := 19) d_P_termAt_9 rfl (fun q => absurd q (nI_ge (b := 8) c1 (by decide))) (fun q9 => ?_)
    refine x_aload_n d_P_termAt_12 rfl rfl ?_
    refine x_getf (v := .ref ra) d_P_termAt_13 lf_P_24 k1 f2 ?_
    refine x_iload_n d_P_termAt_16 rfl rfl ?_
    refine x_aald (v := .ref (rg j)) d_P_termAt_17 k2 rfl (vp_in_nI c1 (by decide)) (by rw [nI_cl hj31]; exact fr j c1) ?_
    exact x_aret d_P_termAt_18 rfl (Or.inl ⟨_, rfl⟩) (Or.inr ⟨_, rfl⟩) ⟨by rw [hr.2.1 j c1 rfl], rfl⟩
  by_cases c2 : j = 8
  · subst c2
    refine Xc.of (by decide) (by simp [Value.category]) (Nat.le_of_ble_eq_true rfl) ?_
    show Xw E m_P_termAt 1 0 0 0 [some (.ref p), some (.int 8)] [] h _
    refine x_iload_n d_P_termAt_0 rfl rfl ?_
    refine x_if_ge (tgt := 6) d_P_termAt_1 rfl (fun q1 => ?_) (fun q => absurd (by decide) q)
    refine x_iload_n d_P_termAt_6 rfl rfl ?_
    refine x_bipush (v := 8) d_P_termAt_7 (by decide) ?_
    refine x_icmp_ge (tgt := 19) d_P_termAt_9 rfl (fun q9 => ?_) (fun q => absurd (by decide) q)
    refine x_iload_n d_P_termAt_19 rfl rfl ?_
    refine x_bipush (v := 8) d_P_termAt_20 (by decide) ?_
    refine x_icmp_ne (tgt := 32) d_P_termAt_22 rfl (fun q => absurd rfl q) (fun q22 => ?_)
    refine x_aload_n d_P_termAt_25 rfl rfl ?_
    refine x_getf (v := rs) d_P_termAt_26 lf_P_58 k1 f10 ?_
    refine x_goto (tgt := 43) d_P_termAt_29 rfl ?_
    exact x_aret d_P_termAt_43 rfl (Or.inl ⟨_, rfl⟩) hrs ⟨by rw [hr.2.2.1 rfl], rfl⟩
  have hvr : r = .null ∨ ∃ a, r = .ref a := by
    by_cases c3 : j < 9 + ms.length
    · obtain ⟨x, -, e⟩ := hr.2.2.2.1 (j - 9) (by omega) (by rw [show 9 + (j - 9) = j by omega])
      exact Or.inr ⟨x, e⟩
    · exact Or.inl (hr.2.2.2.2 (nI_nlt (by omega) hj31))
  refine Xc.of (by decide) (by simp [Value.category]) (Nat.le_of_ble_eq_true rfl) ?_
  show Xw E m_P_termAt 1 0 0 0 [some (.ref p), some (.int (nI j))] [] h _
  refine x_iload_n d_P_termAt_0 rfl rfl ?_
  refine x_if_ge (tgt := 6) d_P_termAt_1 rfl (fun q1 => ?_) (fun q => absurd (nI_pos' hj31) q)
  refine x_iload_n d_P_termAt_6 rfl rfl ?_
  refine x_bipush (v := 8) d_P_termAt_7 (by decide) ?_
  refine x_icmp_ge (tgt := 19) d_P_termAt_9 rfl (fun q9 => ?_) (fun q => absurd (nI_le (a := 8) (by omega) hj31) q)
  refine x_iload_n d_P_termAt_19 rfl rfl ?_
  refine x_bipush (v := 8) d_P_termAt_20 (by decide) ?_
  refine x_icmp_ne (tgt := 32) d_P_termAt_22 rfl (fun q22 => ?_) (fun q => absurd q (fun z => c2 (nI_inj hj31 (by decide) z)))
  refine x_aload_n d_P_termAt_32 rfl rfl ?_
  refine x_getf (v := .ref mb) d_P_termAt_33 lf_P_35 k1 f4 ?_
  refine x_iload_n d_P_termAt_36 rfl rfl ?_
  refine x_bipush (v := 9) d_P_termAt_37 (by decide) ?_
  refine x_isub (v := (nI (j - 9))) d_P_termAt_39 (pk_sub (b := 9) (by omega)) ?_
  refine x_invv d_P_termAt_40 lm_P_70 (as := [.int (nI (j - 9))]) (S := []) (c_B_at k3 k4 g0 g1 g2 hn fm (nI (j - 9)) r ⟨fun z => hr.2.2.2.2 (by rcases z with z | z; exact absurd z (nI_pos (by omega)); exact nI_nlt (by have := (nI_leI (by omega) (by omega)).mp z; omega) hj31), fun i x hx e => by obtain ⟨y, hy, e2⟩ := hr.2.2.2.1 i (List.getElem?_eq_some_iff.mp hx).1 (by have hl := (List.getElem?_eq_some_iff.mp hx).1; have := nI_inj (by omega) (by omega) e; rw [show j = 9 + i by omega]); rw [hx] at hy; cases hy; exact e2⟩) k3 rfl rfl rfl (Nat.le_of_ble_eq_true rfl) (Nat.le_refl 1) (Nat.le_refl 0) (Nat.le_refl 0) ?_
  rintro _ _ ⟨rfl, rfl⟩
  exact x_aret d_P_termAt_43 rfl (Or.inl ⟨_, rfl⟩) hvr ⟨rfl, rfl⟩
/-- the heap behind renew -/
def gRen (h : th_H) (p ra mb x nl : Nat) (l : Int32) : th_H := (gpF (gpF (gpF (gpF (gpF (gpF (gpF (gpF (gpF (gsA h 2 ra (fun i => if i = 0 then .ref x else if i < 8 then .ref nl else gA h 2 ra i)) 1 1 mb (.int 0)) 1 2 mb (.int 0)) 2 5 p (.int 0)) 2 6 p (.int l)) 2 7 p (.int 0)) 2 8 p (.int 0)) 2 9 p (.int 1)) 2 10 p .null) 2 11 p (.int 0))
theorem c_P_renew_loop {E : th_E} {h : th_H} {p : Nat} (k1 : gk h p = some (.inl 2)) {ra mb x nl : Nat} (k2 : gk h ra = some (.inr (2, 8))) (k3 : gk h mb = some (.inl 1)) (kx : gk h x = some (.inl 0)) (kn : gk h nl = some (.inl 0)) (f2 : gF h 2 2 p = .ref ra) (f4 : gF h 2 4 p = .ref mb) (l : Int32) : ∀ (m k : Nat), k + m = 8 → Xw E m_P_renew 1 0 0 3 [some (.ref p), some (.int l), some (.ref x), some (.ref nl), some (.int (nI k))] [] (gsA h 2 ra (fun i => if i < k then .ref nl else gA h 2 ra i)) (Ex none (gRen h p ra mb x nl l)) := by
  intro m
  induction m with
  | zero =>
    intro k hk
    refine x_iload d_P_renew_3 rfl ?_
    refine x_bipush (v := 8) d_P_renew_5 (by decide) ?_
    refine x_icmp_ge (tgt := 24) d_P_renew_7 rfl (fun q7 => ?_) (fun q => absurd (nI_le (a := 8) (by omega) (by omega)) q)
    refine x_aload_n d_P_renew_24 rfl rfl ?_
    refine x_getf (v := .ref ra) d_P_renew_25 lf_P_24 k1 f2 ?_
    refine x_iconst (v := 0) d_P_renew_28 (by decide) ?_
    refine x_aload_n d_P_renew_29 rfl rfl ?_
    refine x_aast d_P_renew_30 k2 rfl kx rfl (vp_in_nI (n := 0) (by decide) (by decide)) ?_
    rw [show (0 : Int32).toNatClampNeg = 0 by decide, gpA_sA, show (fun j => if j = 0 then Value.ref x else if j < k then .ref nl else gA h 2 ra j) = (fun i => if i = 0 then .ref x else if i < 8 then .ref nl else gA h 2 ra i) by rw [show k = 8 by omega]]
    refine x_aload_n d_P_renew_31 rfl rfl ?_
    refine x_getf (v := .ref mb) d_P_renew_32 lf_P_35 k1 (by simp [gF_pF, gF_pA, gF_nO, gF_nA, gF_sA, f4]) ?_
    refine x_invv d_P_renew_35 lm_P_39 (as := []) (S := []) (c_B_empty k3) k3 rfl rfl rfl (Nat.le_of_ble_eq_true rfl) (Nat.le_refl 1) (Nat.le_refl 0) (Nat.le_refl 0) ?_
    rintro _ _ ⟨rfl, rfl⟩
    refine x_aload_n d_P_renew_38 rfl rfl ?_
    refine x_iconst (v := 0) d_P_renew_39 (by decide) ?_
    refine x_putf d_P_renew_40 lp_P_42 k1 ⟨_, rfl⟩ ?_
    refine x_aload_n d_P_renew_43 rfl rfl ?_
    refine x_iload_n d_P_renew_44 rfl rfl ?_
    refine x_putf d_P_renew_45 lp_P_45 k1 ⟨_, rfl⟩ ?_
    refine x_aload_n d_P_renew_48 rfl rfl ?_
    refine x_iconst (v := 0) d_P_renew_49 (by decide) ?_
    refine x_putf d_P_renew_50 lp_P_48 k1 ⟨_, rfl⟩ ?_
    refine x_aload_n d_P_renew_53 rfl rfl ?_
    refine x_iconst (v := 0) d_P_renew_54 (by decide) ?_
    refine x_putf d_P_renew_55 lp_P_51 k1 (Or.inl rfl) ?_
    refine x_aload_n d_P_renew_58 rfl rfl ?_
    refine x_iconst (v := 1) d_P_renew_59 (by decide) ?_
    refine x_putf d_P_renew_60 lp_P_55 k1 ⟨_, rfl⟩ ?_
    refine x_aload_n d_P_renew_63 rfl rfl ?_
    refine x_null d_P_renew_64 ?_
    refine x_putf d_P_renew_65 lp_P_58 k1 (Or.inl rfl) ?_
    refine x_aload_n d_P_renew_68 rfl rfl ?_
    refine x_iconst (v := 0) d_P_renew_69 (by decide) ?_
    refine x_putf d_P_renew_70 lp_P_61 k1 ⟨_, rfl⟩ ?_
    exact x_ret ⟨rfl, rfl⟩ rfl d_P_renew_73
  | succ m ih =>
    intro k hk
    refine x_iload d_P_renew_3 rfl ?_
    refine x_bipush (v := 8) d_P_renew_5 (by decide) ?_
    refine x_icmp_ge (tgt := 24) d_P_renew_7 rfl (fun q => absurd q (nI_ge (b := 8) (by omega) (by decide))) (fun q7 => ?_)
    refine x_aload_n d_P_renew_10 rfl rfl ?_
    refine x_getf (v := .ref ra) d_P_renew_11 lf_P_24 k1 f2 ?_
    refine x_iload d_P_renew_14 rfl ?_
    refine x_aload_n d_P_renew_16 rfl rfl ?_
    refine x_aast d_P_renew_17 k2 rfl kn rfl (vp_in_nI (by omega) (by decide)) ?_
    rw [nI_cl (by omega), gpA_sA, show (fun j => if j = k then Value.ref nl else if j < k then .ref nl else gA h 2 ra j) = (fun i => if i < k + 1 then .ref nl else gA h 2 ra i) by funext j; by_cases a1 : j = k <;> by_cases a2 : j < k <;> simp [a1, a2] <;> omega]
    refine x_iinc d_P_renew_18 rfl (v := (nI (k + 1))) (nI_1 _) (by decide) (L' := [some (.ref p), some (.int l), some (.ref x), some (.ref nl), some (.int (nI (k + 1)))]) rfl ?_
    refine x_goto (tgt := 3) d_P_renew_21 rfl ?_
    exact ih (k + 1) (by omega)
theorem c_P_renew {E : th_E} {h : th_H} {p : Nat} (k1 : gk h p = some (.inl 2)) {ra mb x nl : Nat} (k2 : gk h ra = some (.inr (2, 8))) (k3 : gk h mb = some (.inl 1)) (kx : gk h x = some (.inl 0)) (kn : gk h nl = some (.inl 0)) (f2 : gF h 2 2 p = .ref ra) (f4 : gF h 2 4 p = .ref mb) (l : Int32) : Xc E m_P_renew 1 0 0 [.ref p, .int l, .ref x, .ref nl] h (Ex none (gRen h p ra mb x nl l)) := by
  refine Xc.of (by decide) (by simp [Value.category]) (Nat.le_of_ble_eq_true rfl) ?_
  show Xw E m_P_renew 1 0 0 0 [some (.ref p), some (.int l), some (.ref x), some (.ref nl), none] [] h _
  refine x_iconst (v := 0) d_P_renew_0 (by decide) ?_
  refine x_istore d_P_renew_1 (by decide) (L' := [some (.ref p), some (.int l), some (.ref x), some (.ref nl), some (.int 0)]) rfl ?_
  have hh := c_P_renew_loop (E := E) k1 k2 k3 kx kn f2 f4 l 8 0 rfl
  rw [show (fun i => if i < 0 then Value.ref nl else gA h 2 ra i) = gA h 2 ra by funext i; simp, gsA_self] at hh
  exact hh
