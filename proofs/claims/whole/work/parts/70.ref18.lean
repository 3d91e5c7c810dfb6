/-! The reference: term, digest (printed by wip/gen/mod_ref18.py). -/
theorem n_it_some {E : th_E} {h : th_H} {r : Nat} {A : Nat → Nat → Int32} (nl : NL r h) {N u : Nat} {σ : Ho} (y : NR A σ u) (v : vPs N σ) {p : Nat} (hp : p < oCt σ) {w : Int32} {t : Tm} (e : termM (oPr σ p) w = some t) : ∃ j, j < 21 ∧ w = nI j ∧ SL A (21 * p + j) (tF t) ∧ vTm t ∧ Xc E m_N_isTerm 1 0 0 [.ref r, .int (nI p), .int w] (ov r h A) (Ex (some (.int 1)) (ov r h A)) := by
  have yp := y.2.2.2 p hp
  have vp := v.2.2 p hp
  unfold termM at e
  by_cases h1 : w < 0
  · rw [if_pos h1] at e; cases e
  rw [if_neg h1] at e
  obtain ⟨j, hj, rfl⟩ := nI_of h1
  by_cases h2 : nI j < 8
  · rw [if_pos h2, cl_nI hj] at e
    cases e
    have hj8 : j < 8 := (nI_ltI (b := 8) hj (by decide)).mp h2
    exact ⟨j, by omega, rfl, yp.rg j hj8, vp.1 j, n_it_reg nl y v hp hj8⟩
  rw [if_neg h2] at e
  have hj8 : 8 ≤ j := Nat.le_of_not_lt (fun z => h2 (nI_lt (b := 8) z (by decide)))
  by_cases h3 : nI j = 8
  · rw [if_pos h3] at e
    obtain rfl : j = 8 := (nI_eq (b := 8) hj (by decide)).mp h3
    exact ⟨8, by omega, rfl, yp.rs t e, vp.2.2.2.2.2.2.1 t e, n_it_8y nl y v hp (vp.2.2.2.2.2.2.2.mpr ⟨t, e⟩)⟩
  rw [if_neg h3, cl_nI hj] at e
  have hj9 : 9 ≤ j := by
    have : j ≠ 8 := fun z => h3 (by rw [z]; rfl)
    omega
  have hl := (List.getElem?_eq_some_iff.mp e).1
  have hml := vp.2.2.2.1.1
  refine ⟨j, by omega, rfl, ?_, vp.2.2.2.1.2 t (mem_gi e), n_it_msy nl y v hp hj9 hl⟩
  have := yp.ms _ t e
  rw [show 21 * p + 9 + (j - 9) = 21 * p + j by omega] at this
  exact this
theorem n_it_none {E : th_E} {h : th_H} {r : Nat} {A : Nat → Nat → Int32} (nl : NL r h) {N u : Nat} {σ : Ho} (y : NR A σ u) (v : vPs N σ) {p : Nat} (hp : p < oCt σ) {w : Int32} (e : termM (oPr σ p) w = none) : Xc E m_N_isTerm 1 0 0 [.ref r, .int (nI p), .int w] (ov r h A) (Ex (some (.int 0)) (ov r h A)) := by
  have vp := v.2.2 p hp
  unfold termM at e
  by_cases h1 : w < 0
  · exact n_it_neg nl y v hp h1
  rw [if_neg h1] at e
  obtain ⟨j, hj, rfl⟩ := nI_of h1
  by_cases h2 : nI j < 8
  · rw [if_pos h2] at e; cases e
  rw [if_neg h2] at e
  have hj8 : 8 ≤ j := Nat.le_of_not_lt (fun z => h2 (nI_lt (b := 8) z (by decide)))
  by_cases h3 : nI j = 8
  · rw [if_pos h3] at e
    obtain rfl : j = 8 := (nI_eq (b := 8) hj (by decide)).mp h3
    exact n_it_8n nl y v hp (fun z => by obtain ⟨t, ht⟩ := vp.2.2.2.2.2.2.2.mp z; rw [e] at ht; cases ht)
  rw [if_neg h3, cl_nI hj] at e
  have hj9 : 9 ≤ j := by
    have : j ≠ 8 := fun z => h3 (by rw [z]; rfl)
    omega
  exact n_it_msn nl y v hp hj9 hj (List.getElem?_eq_none_iff.mp e)
theorem num_iff {t : Tm} (ok : tOk t) : tS t < 3 ↔ (tS t = 0 ∨ tS t = 1 ∨ tS t = 2) := by
  cases t with
  | leaf q =>
    show q.1 < 3 ↔ (q.1 = 0 ∨ q.1 = 1 ∨ q.1 = 2)
    rcases (show (q.1 = 0 ∨ q.1 = 1 ∨ q.1 = 2) ∨ q = (3, 0) from ok) with (z | z | z) | z <;> rw [z] <;> decide
  | branch k l r =>
    show nI k < 3 ↔ (nI k = 0 ∨ nI k = 1 ∨ nI k = 2)
    rcases ok.1 with rfl | rfl <;> decide
theorem xor_neg (x : Int32) : (x ^^^ 100) < 0 ↔ x < 0 := by
  rw [Int32.lt_iff_toInt_lt, Int32.lt_iff_toInt_lt]
  show (x.toBitVec ^^^ (100 : Int32).toBitVec).toInt < 0 ↔ x.toBitVec.toInt < 0
  have a := BitVec.msb_eq_toInt (x := x.toBitVec ^^^ (100 : Int32).toBitVec)
  have b := BitVec.msb_eq_toInt (x := x.toBitVec)
  rw [BitVec.msb_xor, show (100 : Int32).toBitVec.msb = false from rfl, Bool.xor_false, b] at a
  have := decide_eq_decide.mp a
  exact this.symm
theorem rem_100 (x : Int32) : (x - x / 100 * 100).toInt = x.toInt - x.toInt.tdiv 100 * 100 := by
  have b1 := Int32.le_toInt x
  have b2 := Int32.toInt_lt x
  have e100 : (100 : Int32).toInt = 100 := rfl
  have t1 : x.toInt.tdiv 100 = x.toInt / 100 + if 0 ≤ x.toInt ∨ (100 : Int) ∣ x.toInt then 0 else Int.sign 100 := Int.tdiv_eq_ediv
  have s1 : Int.sign 100 = 1 := rfl
  rw [s1] at t1
  have t2 : -30000000 ≤ x.toInt.tdiv 100 ∧ x.toInt.tdiv 100 ≤ 30000000 := by split at t1 <;> omega
  have t3 : -100 < x.toInt - x.toInt.tdiv 100 * 100 ∧ x.toInt - x.toInt.tdiv 100 * 100 < 100 := by split at t1 <;> omega
  rw [Int32.toInt_sub, Int32.toInt_mul, Int32.toInt_div, e100]
  rw [Int.bmod_eq_of_le (n := x.toInt.tdiv 100) (by omega) (by omega)]
  rw [Int.bmod_eq_of_le (n := x.toInt.tdiv 100 * 100) (by omega) (by omega)]
  rw [Int.bmod_eq_of_le (by omega) (by omega)]
theorem jfm_100 (x : Int32) : jfm x 100 = if x - x / 100 * 100 < 0 then x - x / 100 * 100 + 100 else x - x / 100 * 100 := by
  have e := rem_100 x
  have t1 : x.toInt.tdiv 100 = x.toInt / 100 + if 0 ≤ x.toInt ∨ (100 : Int) ∣ x.toInt then 0 else Int.sign 100 := Int.tdiv_eq_ediv
  have s1 : Int.sign 100 = 1 := rfl
  rw [s1] at t1
  have z0 : (0 : Int32).toInt = 0 := rfl
  have key : ((x ^^^ 100) < 0 ∧ ¬ x - x / 100 * 100 = 0) ↔ x - x / 100 * 100 < 0 := by
    rw [xor_neg, Int32.lt_iff_toInt_lt, Int32.lt_iff_toInt_lt, ← Int32.toInt_inj, e, z0]
    split at t1 <;> omega
  unfold jfm
  simp only [key]
theorem c_N_term_none {E : th_E} {h : th_H} {r : Nat} {A : Nat → Nat → Int32} (nl : NL r h) {N u : Nat} {σ : Ho} (y : NR A σ u) (v : vPs N σ) {p : Nat} (hp : p < oCt σ) {w : Int32} (e : termM (oPr σ p) w = none) : Xc E m_N_term 2 0 0 [.ref r, .int (nI p), .int w] (ov r h A) (Ex (some (.int (-1))) (ov r h A)) := by
  refine Xc.of (by decide) (by simp [Value.category]) (Nat.le_of_ble_eq_true rfl) ?_
  show Xw E m_N_term 2 0 0 0 [some (.ref r), some (.int (nI p)), some (.int w), none, none] [] (ov r h A) _
  refine x_aload_n d_N_term_0 rfl rfl ?_
  refine x_iload_n d_N_term_1 rfl rfl ?_
  refine x_iload_n d_N_term_2 rfl rfl ?_
  refine x_invv d_N_term_3 lm_N_172 (as := [.int (nI p), .int w]) (S := []) (cz' := 0) (cs' := 0) (n_it_none nl y v hp e) nl.o rfl rfl rfl (Nat.le_of_ble_eq_true rfl) (by omega) (by decide) (by decide) ?_
  rintro _ _ ⟨rfl, rfl⟩
  refine x_if_ne (tgt := 11) d_N_term_6 rfl (fun w_ => absurd rfl w_) (fun q6 => ?_)
  refine x_iconst (v := (-1)) d_N_term_9 (by decide) ?_
  exact x_iret d_N_term_10 rfl rfl ⟨rfl, rfl⟩
theorem c_N_digest_none {E : th_E} {h : th_H} {r : Nat} {A : Nat → Nat → Int32} (nl : NL r h) {N u : Nat} {σ : Ho} (y : NR A σ u) (v : vPs N σ) {p : Nat} (hp : p < oCt σ) {w : Int32} (e : termM (oPr σ p) w = none) : Xc E m_N_digest 2 0 0 [.ref r, .int (nI p), .int w] (ov r h A) (Ex (some (.int 0)) (ov r h A)) := by
  refine Xc.of (by decide) (by simp [Value.category]) (Nat.le_of_ble_eq_true rfl) ?_
  show Xw E m_N_digest 2 0 0 0 [some (.ref r), some (.int (nI p)), some (.int w), none, none, none] [] (ov r h A) _
  refine x_aload_n d_N_digest_0 rfl rfl ?_
  refine x_iload_n d_N_digest_1 rfl rfl ?_
  refine x_iload_n d_N_digest_2 rfl rfl ?_
  refine x_invv d_N_digest_3 lm_N_172 (as := [.int (nI p), .int w]) (S := []) (cz' := 0) (cs' := 0) (n_it_none nl y v hp e) nl.o rfl rfl rfl (Nat.le_of_ble_eq_true rfl) (by omega) (by decide) (by decide) ?_
  rintro _ _ ⟨rfl, rfl⟩
  refine x_if_ne (tgt := 11) d_N_digest_6 rfl (fun w_ => absurd rfl w_) (fun q6 => ?_)
  refine x_iconst (v := 0) d_N_digest_9 (by decide) ?_
  exact x_iret d_N_digest_10 rfl rfl ⟨rfl, rfl⟩
theorem c_N_term_no {E : th_E} {h : th_H} {r : Nat} {A : Nat → Nat → Int32} (nl : NL r h) {N u : Nat} {σ : Ho} (y : NR A σ u) (v : vPs N σ) {x w : Int32} (hx : ¬ (¬ x < 0 ∧ x < nI (oCt σ))) : Xc E m_N_term 2 0 0 [.ref r, .int x, .int w] (ov r h A) (Ex (some (.int (-1))) (ov r h A)) := by
  refine Xc.of (by decide) (by simp [Value.category]) (Nat.le_of_ble_eq_true rfl) ?_
  show Xw E m_N_term 2 0 0 0 [some (.ref r), some (.int x), some (.int w), none, none] [] (ov r h A) _
  refine x_aload_n d_N_term_0 rfl rfl ?_
  refine x_iload_n d_N_term_1 rfl rfl ?_
  refine x_iload_n d_N_term_2 rfl rfl ?_
  refine x_invv d_N_term_3 lm_N_172 (as := [.int x, .int w]) (S := []) (cz' := 0) (cs' := 0) (n_it_no nl y v hx) nl.o rfl rfl rfl (Nat.le_of_ble_eq_true rfl) (by omega) (by decide) (by decide) ?_
  rintro _ _ ⟨rfl, rfl⟩
  refine x_if_ne (tgt := 11) d_N_term_6 rfl (fun w_ => absurd rfl w_) (fun q6 => ?_)
  refine x_iconst (v := (-1)) d_N_term_9 (by decide) ?_
  exact x_iret d_N_term_10 rfl rfl ⟨rfl, rfl⟩
theorem c_N_digest_no {E : th_E} {h : th_H} {r : Nat} {A : Nat → Nat → Int32} (nl : NL r h) {N u : Nat} {σ : Ho} (y : NR A σ u) (v : vPs N σ) {x w : Int32} (hx : ¬ (¬ x < 0 ∧ x < nI (oCt σ))) : Xc E m_N_digest 2 0 0 [.ref r, .int x, .int w] (ov r h A) (Ex (some (.int 0)) (ov r h A)) := by
  refine Xc.of (by decide) (by simp [Value.category]) (Nat.le_of_ble_eq_true rfl) ?_
  show Xw E m_N_digest 2 0 0 0 [some (.ref r), some (.int x), some (.int w), none, none, none] [] (ov r h A) _
  refine x_aload_n d_N_digest_0 rfl rfl ?_
  refine x_iload_n d_N_digest_1 rfl rfl ?_
  refine x_iload_n d_N_digest_2 rfl rfl ?_
  refine x_invv d_N_digest_3 lm_N_172 (as := [.int x, .int w]) (S := []) (cz' := 0) (cs' := 0) (n_it_no nl y v hx) nl.o rfl rfl rfl (Nat.le_of_ble_eq_true rfl) (by omega) (by decide) (by decide) ?_
  rintro _ _ ⟨rfl, rfl⟩
  refine x_if_ne (tgt := 11) d_N_digest_6 rfl (fun w_ => absurd rfl w_) (fun q6 => ?_)
  refine x_iconst (v := 0) d_N_digest_9 (by decide) ?_
  exact x_iret d_N_digest_10 rfl rfl ⟨rfl, rfl⟩
theorem c_N_term {E : th_E} {h : th_H} {r : Nat} {A : Nat → Nat → Int32} (nl : NL r h) {N u : Nat} {σ : Ho} (y : NR A σ u) (v : vPs N σ) {p : Nat} (hp : p < oCt σ) {w : Int32} {t : Tm} (e : termM (oPr σ p) w = some t) : Xc E m_N_term 2 0 0 [.ref r, .int (nI p), .int w] (ov r h A) (Ex (some (.int (tSum t))) (ov r h A)) := by
  obtain ⟨j, hj, rfl, sl, vt, c1⟩ := n_it_some (E := E) nl y v hp e
  have hct := v.1
  refine Xc.of (by decide) (by simp [Value.category]) (Nat.le_of_ble_eq_true rfl) ?_
  show Xw E m_N_term 2 0 0 0 [some (.ref r), some (.int (nI p)), some (.int (nI j)), none, none] [] (ov r h A) _
  refine x_aload_n d_N_term_0 rfl rfl ?_
  refine x_iload_n d_N_term_1 rfl rfl ?_
  refine x_iload_n d_N_term_2 rfl rfl ?_
  refine x_invv d_N_term_3 lm_N_172 (as := [.int (nI p), .int (nI j)]) (S := []) (cz' := 0) (cs' := 0) c1 nl.o rfl rfl rfl (Nat.le_of_ble_eq_true rfl) (by omega) (by decide) (by decide) ?_
  rintro _ _ ⟨rfl, rfl⟩
  refine x_if_ne (tgt := 11) d_N_term_6 rfl (fun q6 => ?_) (fun w_ => absurd w_ (by decide))
  refine x_bipush (v := (nI 21)) d_N_term_11 (by decide) ?_
  refine x_iload_n d_N_term_13 rfl rfl ?_
  refine x_imul (v := (nI (21 * p))) d_N_term_14 (pk_mul _ _) ?_
  refine x_iload_n d_N_term_15 rfl rfl ?_
  refine x_iadd (v := (nI (21 * p + j))) d_N_term_16 (nI_add _ _) ?_
  refine x_istore_n d_N_term_17 rfl (by decide) (L' := [some (.ref r), some (.int (nI p)), some (.int (nI j)), some (.int (nI (21 * p + j))), none]) rfl ?_
  refine x_aload_n d_N_term_18 rfl rfl ?_
  refine x_iload_n d_N_term_19 rfl rfl ?_
  refine x_iconst (v := (nI 0)) d_N_term_20 (by decide) ?_
  refine x_invv d_N_term_21 lm_N_66 (as := [.int (nI (21 * p + j)), .int (nI 0)]) (S := []) (cz' := 0) (cs' := 0) (c_N_sortOf nl (by omega) (by decide)) nl.o rfl rfl rfl (Nat.le_of_ble_eq_true rfl) (by omega) (by decide) (by decide) ?_
  rintro _ _ ⟨rfl, rfl⟩
  rw [sl.s0]
  refine x_iconst (v := 3) d_N_term_24 (by decide) ?_
  refine x_icmp_ge (tgt := 40) d_N_term_25 rfl (fun q25 => ?_) (fun q25 => ?_)
  · refine x_iconst (v := 0) d_N_term_40 (by decide) ?_
    refine x_istore d_N_term_41 (by decide) (L' := [some (.ref r), some (.int (nI p)), some (.int (nI j)), some (.int (nI (21 * p + j))), some (.int 0)]) rfl ?_
    refine x_ldc d_N_term_43 lk_N_175 ?_
    refine x_aload_n d_N_term_45 rfl rfl ?_
    refine x_iload_n d_N_term_46 rfl rfl ?_
    refine x_iconst (v := (nI 0)) d_N_term_47 (by decide) ?_
    refine x_invv d_N_term_48 lm_N_66 (as := [.int (nI (21 * p + j)), .int (nI 0)]) (S := [.int 1000000]) (cz' := 0) (cs' := 0) (c_N_sortOf nl (by omega) (by decide)) nl.o rfl rfl rfl (Nat.le_of_ble_eq_true rfl) (by omega) (by decide) (by decide) ?_
    rintro _ _ ⟨rfl, rfl⟩
    rw [sl.s0]
    refine x_imul (v := (1000000 * (tS t))) d_N_term_51 rfl ?_
    refine x_bipush (v := 100) d_N_term_52 (by decide) ?_
    refine x_aload_n d_N_term_54 rfl rfl ?_
    refine x_iload_n d_N_term_55 rfl rfl ?_
    refine x_invv d_N_term_56 lm_N_77 (as := [.int (nI (21 * p + j))]) (S := [.int 100, .int (1000000 * (tS t))]) (cz' := 0) (cs' := 0) (c_N_weight nl (by omega)) nl.o rfl rfl rfl (Nat.le_of_ble_eq_true rfl) (by omega) (by decide) (by decide) ?_
    rintro _ _ ⟨rfl, rfl⟩
    rw [sl.1]
    refine x_imul (v := (100 * (nI ((tF t).length)))) d_N_term_59 rfl ?_
    refine x_iadd (v := ((1000000 * (tS t)) + (100 * (nI ((tF t).length))))) d_N_term_60 rfl ?_
    refine x_iload d_N_term_61 rfl ?_
    refine x_if_ge (tgt := 74) d_N_term_63 rfl (fun q63 => ?_) (fun w_ => absurd (by decide) w_)
    refine x_iload d_N_term_74 rfl ?_
    refine x_iadd (v := (((1000000 * (tS t)) + (100 * (nI ((tF t).length)))) + 0)) d_N_term_76 rfl ?_
    exact x_iret d_N_term_77 rfl rfl ⟨by unfold tSum; rw [if_neg (fun z => Int32.not_lt.mpr q25 ((num_iff vt.1).mpr z)), tF_len], rfl⟩
  · refine x_aload_n d_N_term_28 rfl rfl ?_
    refine x_iload_n d_N_term_29 rfl rfl ?_
    refine x_iconst (v := (nI 0)) d_N_term_30 (by decide) ?_
    refine x_invv d_N_term_31 lm_N_70 (as := [.int (nI (21 * p + j)), .int (nI 0)]) (S := []) (cz' := 0) (cs' := 0) (c_N_numberOf nl (by omega) (by decide)) nl.o rfl rfl rfl (Nat.le_of_ble_eq_true rfl) (by omega) (by decide) (by decide) ?_
    rintro _ _ ⟨rfl, rfl⟩
    rw [sl.n0]
    refine x_bipush (v := 100) d_N_term_34 (by decide) ?_
    refine x_irem (v := ((tN t) - (tN t) / 100 * 100)) d_N_term_36 (by decide) rfl ?_
    refine x_goto (tgt := 41) d_N_term_37 rfl ?_
    refine x_istore d_N_term_41 (by decide) (L' := [some (.ref r), some (.int (nI p)), some (.int (nI j)), some (.int (nI (21 * p + j))), some (.int ((tN t) - (tN t) / 100 * 100))]) rfl ?_
    refine x_ldc d_N_term_43 lk_N_175 ?_
    refine x_aload_n d_N_term_45 rfl rfl ?_
    refine x_iload_n d_N_term_46 rfl rfl ?_
    refine x_iconst (v := (nI 0)) d_N_term_47 (by decide) ?_
    refine x_invv d_N_term_48 lm_N_66 (as := [.int (nI (21 * p + j)), .int (nI 0)]) (S := [.int 1000000]) (cz' := 0) (cs' := 0) (c_N_sortOf nl (by omega) (by decide)) nl.o rfl rfl rfl (Nat.le_of_ble_eq_true rfl) (by omega) (by decide) (by decide) ?_
    rintro _ _ ⟨rfl, rfl⟩
    rw [sl.s0]
    refine x_imul (v := (1000000 * (tS t))) d_N_term_51 rfl ?_
    refine x_bipush (v := 100) d_N_term_52 (by decide) ?_
    refine x_aload_n d_N_term_54 rfl rfl ?_
    refine x_iload_n d_N_term_55 rfl rfl ?_
    refine x_invv d_N_term_56 lm_N_77 (as := [.int (nI (21 * p + j))]) (S := [.int 100, .int (1000000 * (tS t))]) (cz' := 0) (cs' := 0) (c_N_weight nl (by omega)) nl.o rfl rfl rfl (Nat.le_of_ble_eq_true rfl) (by omega) (by decide) (by decide) ?_
    rintro _ _ ⟨rfl, rfl⟩
    rw [sl.1]
    refine x_imul (v := (100 * (nI ((tF t).length)))) d_N_term_59 rfl ?_
    refine x_iadd (v := ((1000000 * (tS t)) + (100 * (nI ((tF t).length))))) d_N_term_60 rfl ?_
    refine x_iload d_N_term_61 rfl ?_
    refine x_if_ge (tgt := 74) d_N_term_63 rfl (fun q63 => ?_) (fun q63 => ?_)
    · have hn : ¬ ((tN t) - (tN t) / 100 * 100) < 0 := i32_nl q63
      refine x_iload d_N_term_74 rfl ?_
      refine x_iadd (v := (((1000000 * (tS t)) + (100 * (nI ((tF t).length)))) + ((tN t) - (tN t) / 100 * 100))) d_N_term_76 rfl ?_
      exact x_iret d_N_term_77 rfl rfl ⟨by unfold tSum; rw [if_pos ((num_iff vt.1).mp (Int32.not_le.mp q25)), jfm_100, if_neg hn, tF_len], rfl⟩
    · have hn : ((tN t) - (tN t) / 100 * 100) < 0 := i32_nge q63
      refine x_iload d_N_term_66 rfl ?_
      refine x_bipush (v := 100) d_N_term_68 (by decide) ?_
      refine x_iadd (v := (((tN t) - (tN t) / 100 * 100) + 100)) d_N_term_70 rfl ?_
      refine x_goto (tgt := 76) d_N_term_71 rfl ?_
      refine x_iadd (v := (((1000000 * (tS t)) + (100 * (nI ((tF t).length)))) + (((tN t) - (tN t) / 100 * 100) + 100))) d_N_term_76 rfl ?_
      exact x_iret d_N_term_77 rfl rfl ⟨by unfold tSum; rw [if_pos ((num_iff vt.1).mp (Int32.not_le.mp q25)), jfm_100, if_pos hn, tF_len], rfl⟩
def mxL (s : Int32) (l : List (Int32 × Int32)) : Int32 := l.foldl (fun s q => if q.1 < 3 then (s * 31 + q.1 + 1) * 31 + q.2 else s * 31 + q.1 + 1) s
theorem mxL_mix : ∀ (t : Tm) (s : Int32), tOk t → mxL s (tF t) = mixM s t
  | .leaf q, s, ok => by
    have := num_iff ok
    simp only [tS] at this
    simp only [mxL, tF, mixM, List.foldl_cons, List.foldl_nil, this]
  | .branch k l r, s, ok => by
    have hk : ¬ nI k < 3 := by rcases ok.1 with rfl | rfl <;> decide
    have h1 := mxL_mix l (s * 31 + nI k + 1) ok.2.1
    have h2 := mxL_mix r (mixM (s * 31 + nI k + 1) l) ok.2.2
    unfold mxL at h1 h2 ⊢
    simp only [tF, mixM, List.foldl_cons, List.foldl_append, if_neg hk, h1, h2]
theorem N_digest_loop {E : th_E} {h : th_H} {r : Nat} {A : Nat → Nat → Int32} (nl : NL r h) {a : Nat} {x1 x2 : Int32} {l : List (Int32 × Int32)} (ha : a < 254) (sl : SL A a l) (hl : l.length ≤ 15) : ∀ (n k : Nat) (s : Int32), l.length + 1 ≤ n + k → k ≤ l.length → Xw E m_N_digest 2 0 0 25 [some (.ref r), some (.int x1), some (.int x2), some (.int (nI a)), some (.int s), some (.int (nI k))] [] (ov r h A) (Ex (some (.int (mxL s (l.drop k)))) (ov r h A)) := by
  intro n
  induction n with
  | zero => exact fun k s h1 h2 => absurd h1 (by omega)
  | succ n ih =>
    intro k s h1 h2
    refine x_iload d_N_digest_25 rfl ?_
    refine x_aload_n d_N_digest_27 rfl rfl ?_
    refine x_iload_n d_N_digest_28 rfl rfl ?_
    refine x_invv d_N_digest_29 lm_N_77 (as := [.int (nI a)]) (S := [.int (nI k)]) (cz' := 0) (cs' := 0) (c_N_weight nl (by omega)) nl.o rfl rfl rfl (Nat.le_of_ble_eq_true rfl) (by omega) (by decide) (by decide) ?_
    rintro _ _ ⟨rfl, rfl⟩
    rw [sl.1]
    refine x_icmp_ge (tgt := 89) d_N_digest_32 rfl (fun q32 => ?_) (fun q32 => ?_)
    · obtain rfl : k = l.length := by have := (nI_leI (by omega) (by omega)).mp q32; omega
      refine x_iload d_N_digest_89 rfl ?_
      exact x_iret d_N_digest_91 rfl rfl ⟨by rw [List.drop_length]; rfl, rfl⟩
    · have hk : k < l.length := Nat.lt_of_not_le (fun z => q32 (nI_le z (by omega)))
      have hg : l[k]? = some l[k] := List.getElem?_eq_getElem hk
      have hm : mxL s (l.drop k) = mxL (if l[k].1 < 3 then (s * 31 + l[k].1 + 1) * 31 + l[k].2 else s * 31 + l[k].1 + 1) (l.drop (k + 1)) := by rw [List.drop_eq_getElem_cons hk]; rfl
      refine x_iload d_N_digest_35 rfl ?_
      refine x_bipush (v := 31) d_N_digest_37 (by decide) ?_
      refine x_imul (v := (s * 31)) d_N_digest_39 rfl ?_
      refine x_aload_n d_N_digest_40 rfl rfl ?_
      refine x_iload_n d_N_digest_41 rfl rfl ?_
      refine x_iload d_N_digest_42 rfl ?_
      refine x_invv d_N_digest_44 lm_N_66 (as := [.int (nI a), .int (nI k)]) (S := [.int (s * 31)]) (cz' := 0) (cs' := 0) (c_N_sortOf nl (by omega) (by omega)) nl.o rfl rfl rfl (Nat.le_of_ble_eq_true rfl) (by omega) (by decide) (by decide) ?_
      rintro _ _ ⟨rfl, rfl⟩
      rw [(sl.2 k _ hg).1]
      refine x_iadd (v := ((s * 31) + (l[k].1))) d_N_digest_47 rfl ?_
      refine x_iconst (v := 1) d_N_digest_48 (by decide) ?_
      refine x_iadd (v := (((s * 31) + (l[k].1)) + 1)) d_N_digest_49 rfl ?_
      refine x_istore d_N_digest_50 (by decide) (L' := [some (.ref r), some (.int x1), some (.int x2), some (.int (nI a)), some (.int (((s * 31) + (l[k].1)) + 1)), some (.int (nI k))]) rfl ?_
      refine x_aload_n d_N_digest_52 rfl rfl ?_
      refine x_iload_n d_N_digest_53 rfl rfl ?_
      refine x_iload d_N_digest_54 rfl ?_
      refine x_invv d_N_digest_56 lm_N_66 (as := [.int (nI a), .int (nI k)]) (S := []) (cz' := 0) (cs' := 0) (c_N_sortOf nl (by omega) (by omega)) nl.o rfl rfl rfl (Nat.le_of_ble_eq_true rfl) (by omega) (by decide) (by decide) ?_
      rintro _ _ ⟨rfl, rfl⟩
      rw [(sl.2 k _ hg).1]
      refine x_iconst (v := 3) d_N_digest_59 (by decide) ?_
      refine x_icmp_ge (tgt := 79) d_N_digest_60 rfl (fun q60 => ?_) (fun q60 => ?_)
      · refine x_iload d_N_digest_79 rfl ?_
        refine x_istore d_N_digest_81 (by decide) (L' := [some (.ref r), some (.int x1), some (.int x2), some (.int (nI a)), some (.int (((s * 31) + (l[k].1)) + 1)), some (.int (nI k))]) rfl ?_
        refine x_iinc d_N_digest_83 rfl (v := (nI (k + 1))) (nI_1 _) (by decide) (L' := [some (.ref r), some (.int x1), some (.int x2), some (.int (nI a)), some (.int (((s * 31) + (l[k].1)) + 1)), some (.int (nI (k + 1)))]) rfl ?_
        refine x_goto (tgt := 25) d_N_digest_86 rfl ?_
        exact (by rw [hm, if_neg (Int32.not_lt.mpr q60)]; exact ih (k + 1) _ (by omega) (by omega))
      · refine x_iload d_N_digest_63 rfl ?_
        refine x_bipush (v := 31) d_N_digest_65 (by decide) ?_
        refine x_imul (v := ((((s * 31) + (l[k].1)) + 1) * 31)) d_N_digest_67 rfl ?_
        refine x_aload_n d_N_digest_68 rfl rfl ?_
        refine x_iload_n d_N_digest_69 rfl rfl ?_
        refine x_iload d_N_digest_70 rfl ?_
        refine x_invv d_N_digest_72 lm_N_70 (as := [.int (nI a), .int (nI k)]) (S := [.int ((((s * 31) + (l[k].1)) + 1) * 31)]) (cz' := 0) (cs' := 0) (c_N_numberOf nl (by omega) (by omega)) nl.o rfl rfl rfl (Nat.le_of_ble_eq_true rfl) (by omega) (by decide) (by decide) ?_
        rintro _ _ ⟨rfl, rfl⟩
        rw [(sl.2 k _ hg).2]
        refine x_iadd (v := (((((s * 31) + (l[k].1)) + 1) * 31) + (l[k].2))) d_N_digest_75 rfl ?_
        refine x_goto (tgt := 81) d_N_digest_76 rfl ?_
        refine x_istore d_N_digest_81 (by decide) (L' := [some (.ref r), some (.int x1), some (.int x2), some (.int (nI a)), some (.int (((((s * 31) + (l[k].1)) + 1) * 31) + (l[k].2))), some (.int (nI k))]) rfl ?_
        refine x_iinc d_N_digest_83 rfl (v := (nI (k + 1))) (nI_1 _) (by decide) (L' := [some (.ref r), some (.int x1), some (.int x2), some (.int (nI a)), some (.int (((((s * 31) + (l[k].1)) + 1) * 31) + (l[k].2))), some (.int (nI (k + 1)))]) rfl ?_
        refine x_goto (tgt := 25) d_N_digest_86 rfl ?_
        exact (by rw [hm, if_pos (Int32.not_le.mp q60)]; exact ih (k + 1) _ (by omega) (by omega))
theorem c_N_digest {E : th_E} {h : th_H} {r : Nat} {A : Nat → Nat → Int32} (nl : NL r h) {N u : Nat} {σ : Ho} (y : NR A σ u) (v : vPs N σ) {p : Nat} (hp : p < oCt σ) {w : Int32} {t : Tm} (e : termM (oPr σ p) w = some t) : Xc E m_N_digest 2 0 0 [.ref r, .int (nI p), .int w] (ov r h A) (Ex (some (.int (mixM 7 t))) (ov r h A)) := by
  obtain ⟨j, hj, rfl, sl, vt, c1⟩ := n_it_some (E := E) nl y v hp e
  have hct := v.1
  refine Xc.of (by decide) (by simp [Value.category]) (Nat.le_of_ble_eq_true rfl) ?_
  show Xw E m_N_digest 2 0 0 0 [some (.ref r), some (.int (nI p)), some (.int (nI j)), none, none, none] [] (ov r h A) _
  refine x_aload_n d_N_digest_0 rfl rfl ?_
  refine x_iload_n d_N_digest_1 rfl rfl ?_
  refine x_iload_n d_N_digest_2 rfl rfl ?_
  refine x_invv d_N_digest_3 lm_N_172 (as := [.int (nI p), .int (nI j)]) (S := []) (cz' := 0) (cs' := 0) c1 nl.o rfl rfl rfl (Nat.le_of_ble_eq_true rfl) (by omega) (by decide) (by decide) ?_
  rintro _ _ ⟨rfl, rfl⟩
  refine x_if_ne (tgt := 11) d_N_digest_6 rfl (fun q6 => ?_) (fun w_ => absurd w_ (by decide))
  refine x_bipush (v := (nI 21)) d_N_digest_11 (by decide) ?_
  refine x_iload_n d_N_digest_13 rfl rfl ?_
  refine x_imul (v := (nI (21 * p))) d_N_digest_14 (pk_mul _ _) ?_
  refine x_iload_n d_N_digest_15 rfl rfl ?_
  refine x_iadd (v := (nI (21 * p + j))) d_N_digest_16 (nI_add _ _) ?_
  refine x_istore_n d_N_digest_17 rfl (by decide) (L' := [some (.ref r), some (.int (nI p)), some (.int (nI j)), some (.int (nI (21 * p + j))), none, none]) rfl ?_
  refine x_bipush (v := 7) d_N_digest_18 (by decide) ?_
  refine x_istore d_N_digest_20 (by decide) (L' := [some (.ref r), some (.int (nI p)), some (.int (nI j)), some (.int (nI (21 * p + j))), some (.int 7), none]) rfl ?_
  refine x_iconst (v := (nI 0)) d_N_digest_22 (by decide) ?_
  refine x_istore d_N_digest_23 (by decide) (L' := [some (.ref r), some (.int (nI p)), some (.int (nI j)), some (.int (nI (21 * p + j))), some (.int 7), some (.int (nI 0))]) rfl ?_
  exact (by rw [← mxL_mix t 7 vt.1]; exact N_digest_loop (E := E) nl (by omega) sl vt.len ((tF t).length + 1) 0 7 (by omega) (by omega))
