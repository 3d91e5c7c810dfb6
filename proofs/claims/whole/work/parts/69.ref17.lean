/-! The reference: isTerm (printed by wip/gen/mod_ref17.py). -/
theorem n_it_reg {E : th_E} {h : th_H} {r : Nat} {A : Nat → Nat → Int32} (nl : NL r h) {N u : Nat} {σ : Ho} (y : NR A σ u) (v : vPs N σ) {p : Nat} (hp : p < oCt σ) {k : Nat} (hk : k < 8) : Xc E m_N_isTerm 1 0 0 [.ref r, .int (nI p), .int (nI k)] (ov r h A) (Ex (some (.int 1)) (ov r h A)) := by
  refine Xc.of (by decide) (by simp [Value.category]) (Nat.le_of_ble_eq_true rfl) ?_
  show Xw E m_N_isTerm 1 0 0 0 [some (.ref r), some (.int (nI p)), some (.int (nI k))] [] (ov r h A) _
  have hct := v.1
  have yp := y.2.2.2 p hp
  have hst := (v.2.2 p hp).2.2.2.2.2.1
  have hml := (v.2.2 p hp).2.2.2.1.1
  refine x_iload_n d_N_isTerm_0 rfl rfl ?_
  refine x_iconst (v := (nI 0)) d_N_isTerm_1 (by decide) ?_
  refine x_aload_n d_N_isTerm_2 rfl rfl ?_
  refine n_get (v := (nI (oCt σ))) d_N_isTerm_3 lf_N_131 nl rfl y.1.2.2.1 ?_
  refine x_iconst (v := (nI 1)) d_N_isTerm_6 (by decide) ?_
  refine x_isub (v := (nI (oCt σ) - nI 1)) d_N_isTerm_7 rfl ?_
  refine x_invs d_N_isTerm_8 lm_N_81 (as := [.int (nI p), .int (nI 0), .int (nI (oCt σ) - nI 1)]) (S := []) (cz' := 0) (cs' := 0) (c_N_in _ _ _) rfl rfl (Nat.le_of_ble_eq_true rfl) (by omega) (by decide) (by decide) ?_
  rintro _ _ ⟨rfl, rfl⟩
  refine x_if_eq (tgt := 63) d_N_isTerm_11 rfl (fun w_ => absurd w_ (fun z => iB_0.mp z ((in_ct (by omega)).mpr ⟨nI_pos (by omega), nI_lt hp (by omega)⟩))) (fun q11 => ?_)
  refine x_iload_n d_N_isTerm_14 rfl rfl ?_
  refine x_iconst (v := (nI 0)) d_N_isTerm_15 (by decide) ?_
  refine x_bipush (v := (nI 7)) d_N_isTerm_16 (by decide) ?_
  refine x_invs d_N_isTerm_18 lm_N_81 (as := [.int (nI k), .int (nI 0), .int (nI 7)]) (S := []) (cz' := 0) (cs' := 0) (c_N_in _ _ _) rfl rfl (Nat.le_of_ble_eq_true rfl) (by omega) (by decide) (by decide) ?_
  rintro _ _ ⟨rfl, rfl⟩
  refine x_if_ne (tgt := 59) d_N_isTerm_21 rfl (fun q21 => ?_) (fun w_ => absurd w_ (fun z => iB_0.mp z ⟨nI_le (Nat.zero_le _) (by omega), nI_le (b := 7) (by omega) (by decide)⟩))
  refine x_iconst (v := (nI 1)) d_N_isTerm_59 (by decide) ?_
  refine x_goto (tgt := 64) d_N_isTerm_60 rfl ?_
  exact x_iret d_N_isTerm_64 rfl rfl ⟨rfl, rfl⟩
theorem n_it_8y {E : th_E} {h : th_H} {r : Nat} {A : Nat → Nat → Int32} (nl : NL r h) {N u : Nat} {σ : Ho} (y : NR A σ u) (v : vPs N σ) {p : Nat} (hp : p < oCt σ) (h3 : pSt (oPr σ p) = 3) : Xc E m_N_isTerm 1 0 0 [.ref r, .int (nI p), .int (nI 8)] (ov r h A) (Ex (some (.int 1)) (ov r h A)) := by
  refine Xc.of (by decide) (by simp [Value.category]) (Nat.le_of_ble_eq_true rfl) ?_
  show Xw E m_N_isTerm 1 0 0 0 [some (.ref r), some (.int (nI p)), some (.int (nI 8))] [] (ov r h A) _
  have hct := v.1
  have yp := y.2.2.2 p hp
  have hst := (v.2.2 p hp).2.2.2.2.2.1
  have hml := (v.2.2 p hp).2.2.2.1.1
  refine x_iload_n d_N_isTerm_0 rfl rfl ?_
  refine x_iconst (v := (nI 0)) d_N_isTerm_1 (by decide) ?_
  refine x_aload_n d_N_isTerm_2 rfl rfl ?_
  refine n_get (v := (nI (oCt σ))) d_N_isTerm_3 lf_N_131 nl rfl y.1.2.2.1 ?_
  refine x_iconst (v := (nI 1)) d_N_isTerm_6 (by decide) ?_
  refine x_isub (v := (nI (oCt σ) - nI 1)) d_N_isTerm_7 rfl ?_
  refine x_invs d_N_isTerm_8 lm_N_81 (as := [.int (nI p), .int (nI 0), .int (nI (oCt σ) - nI 1)]) (S := []) (cz' := 0) (cs' := 0) (c_N_in _ _ _) rfl rfl (Nat.le_of_ble_eq_true rfl) (by omega) (by decide) (by decide) ?_
  rintro _ _ ⟨rfl, rfl⟩
  refine x_if_eq (tgt := 63) d_N_isTerm_11 rfl (fun w_ => absurd w_ (fun z => iB_0.mp z ((in_ct (by omega)).mpr ⟨nI_pos (by omega), nI_lt hp (by omega)⟩))) (fun q11 => ?_)
  refine x_iload_n d_N_isTerm_14 rfl rfl ?_
  refine x_iconst (v := (nI 0)) d_N_isTerm_15 (by decide) ?_
  refine x_bipush (v := (nI 7)) d_N_isTerm_16 (by decide) ?_
  refine x_invs d_N_isTerm_18 lm_N_81 (as := [.int (nI 8), .int (nI 0), .int (nI 7)]) (S := []) (cz' := 0) (cs' := 0) (c_N_in _ _ _) rfl rfl (Nat.le_of_ble_eq_true rfl) (by omega) (by decide) (by decide) ?_
  rintro _ _ ⟨rfl, rfl⟩
  refine x_if_ne (tgt := 59) d_N_isTerm_21 rfl (fun w_ => absurd (by decide) w_) (fun q21 => ?_)
  refine x_iload_n d_N_isTerm_24 rfl rfl ?_
  refine x_bipush (v := (nI 8)) d_N_isTerm_25 (by decide) ?_
  refine x_icmp_ne (tgt := 40) d_N_isTerm_27 rfl (fun w_ => absurd rfl w_) (fun q27 => ?_)
  refine x_aload_n d_N_isTerm_30 rfl rfl ?_
  refine n_fld (j := 6) d_N_isTerm_31 lf_N_25 nl (by decide) rfl rfl ?_
  refine x_iload_n d_N_isTerm_34 rfl rfl ?_
  refine n_ld (j := 6) (i := p) (n := 12) (v := (nI (pSt (oPr σ p)))) d_N_isTerm_35 nl (by decide) (by decide) rfl rfl (by omega) (by decide) yp.st ?_
  refine x_iconst (v := (nI 3)) d_N_isTerm_36 (by decide) ?_
  refine x_icmp_eq (tgt := 59) d_N_isTerm_37 rfl (fun q37 => ?_) (fun w_ => absurd (by rw [h3]) w_)
  refine x_iconst (v := (nI 1)) d_N_isTerm_59 (by decide) ?_
  refine x_goto (tgt := 64) d_N_isTerm_60 rfl ?_
  exact x_iret d_N_isTerm_64 rfl rfl ⟨rfl, rfl⟩
theorem n_it_8n {E : th_E} {h : th_H} {r : Nat} {A : Nat → Nat → Int32} (nl : NL r h) {N u : Nat} {σ : Ho} (y : NR A σ u) (v : vPs N σ) {p : Nat} (hp : p < oCt σ) (h3 : ¬ pSt (oPr σ p) = 3) : Xc E m_N_isTerm 1 0 0 [.ref r, .int (nI p), .int (nI 8)] (ov r h A) (Ex (some (.int 0)) (ov r h A)) := by
  refine Xc.of (by decide) (by simp [Value.category]) (Nat.le_of_ble_eq_true rfl) ?_
  show Xw E m_N_isTerm 1 0 0 0 [some (.ref r), some (.int (nI p)), some (.int (nI 8))] [] (ov r h A) _
  have hct := v.1
  have yp := y.2.2.2 p hp
  have hst := (v.2.2 p hp).2.2.2.2.2.1
  have hml := (v.2.2 p hp).2.2.2.1.1
  refine x_iload_n d_N_isTerm_0 rfl rfl ?_
  refine x_iconst (v := (nI 0)) d_N_isTerm_1 (by decide) ?_
  refine x_aload_n d_N_isTerm_2 rfl rfl ?_
  refine n_get (v := (nI (oCt σ))) d_N_isTerm_3 lf_N_131 nl rfl y.1.2.2.1 ?_
  refine x_iconst (v := (nI 1)) d_N_isTerm_6 (by decide) ?_
  refine x_isub (v := (nI (oCt σ) - nI 1)) d_N_isTerm_7 rfl ?_
  refine x_invs d_N_isTerm_8 lm_N_81 (as := [.int (nI p), .int (nI 0), .int (nI (oCt σ) - nI 1)]) (S := []) (cz' := 0) (cs' := 0) (c_N_in _ _ _) rfl rfl (Nat.le_of_ble_eq_true rfl) (by omega) (by decide) (by decide) ?_
  rintro _ _ ⟨rfl, rfl⟩
  refine x_if_eq (tgt := 63) d_N_isTerm_11 rfl (fun w_ => absurd w_ (fun z => iB_0.mp z ((in_ct (by omega)).mpr ⟨nI_pos (by omega), nI_lt hp (by omega)⟩))) (fun q11 => ?_)
  refine x_iload_n d_N_isTerm_14 rfl rfl ?_
  refine x_iconst (v := (nI 0)) d_N_isTerm_15 (by decide) ?_
  refine x_bipush (v := (nI 7)) d_N_isTerm_16 (by decide) ?_
  refine x_invs d_N_isTerm_18 lm_N_81 (as := [.int (nI 8), .int (nI 0), .int (nI 7)]) (S := []) (cz' := 0) (cs' := 0) (c_N_in _ _ _) rfl rfl (Nat.le_of_ble_eq_true rfl) (by omega) (by decide) (by decide) ?_
  rintro _ _ ⟨rfl, rfl⟩
  refine x_if_ne (tgt := 59) d_N_isTerm_21 rfl (fun w_ => absurd (by decide) w_) (fun q21 => ?_)
  refine x_iload_n d_N_isTerm_24 rfl rfl ?_
  refine x_bipush (v := (nI 8)) d_N_isTerm_25 (by decide) ?_
  refine x_icmp_ne (tgt := 40) d_N_isTerm_27 rfl (fun w_ => absurd rfl w_) (fun q27 => ?_)
  refine x_aload_n d_N_isTerm_30 rfl rfl ?_
  refine n_fld (j := 6) d_N_isTerm_31 lf_N_25 nl (by decide) rfl rfl ?_
  refine x_iload_n d_N_isTerm_34 rfl rfl ?_
  refine n_ld (j := 6) (i := p) (n := 12) (v := (nI (pSt (oPr σ p)))) d_N_isTerm_35 nl (by decide) (by decide) rfl rfl (by omega) (by decide) yp.st ?_
  refine x_iconst (v := (nI 3)) d_N_isTerm_36 (by decide) ?_
  refine x_icmp_eq (tgt := 59) d_N_isTerm_37 rfl (fun w_ => absurd w_ (fun z => h3 ((nI_eq (b := 3) (by omega) (by decide)).mp z))) (fun q37 => ?_)
  refine x_iload_n d_N_isTerm_40 rfl rfl ?_
  refine x_bipush (v := (nI 8)) d_N_isTerm_41 (by decide) ?_
  refine x_icmp_le (tgt := 63) d_N_isTerm_43 rfl (fun q43 => ?_) (fun w_ => absurd (by decide) w_)
  refine x_iconst (v := (nI 0)) d_N_isTerm_63 (by decide) ?_
  exact x_iret d_N_isTerm_64 rfl rfl ⟨rfl, rfl⟩
theorem n_it_msy {E : th_E} {h : th_H} {r : Nat} {A : Nat → Nat → Int32} (nl : NL r h) {N u : Nat} {σ : Ho} (y : NR A σ u) (v : vPs N σ) {p : Nat} (hp : p < oCt σ) {k : Nat} (hk : 9 ≤ k) (hl : k - 9 < (pMs (oPr σ p)).length) : Xc E m_N_isTerm 1 0 0 [.ref r, .int (nI p), .int (nI k)] (ov r h A) (Ex (some (.int 1)) (ov r h A)) := by
  refine Xc.of (by decide) (by simp [Value.category]) (Nat.le_of_ble_eq_true rfl) ?_
  show Xw E m_N_isTerm 1 0 0 0 [some (.ref r), some (.int (nI p)), some (.int (nI k))] [] (ov r h A) _
  have hct := v.1
  have yp := y.2.2.2 p hp
  have hst := (v.2.2 p hp).2.2.2.2.2.1
  have hml := (v.2.2 p hp).2.2.2.1.1
  refine x_iload_n d_N_isTerm_0 rfl rfl ?_
  refine x_iconst (v := (nI 0)) d_N_isTerm_1 (by decide) ?_
  refine x_aload_n d_N_isTerm_2 rfl rfl ?_
  refine n_get (v := (nI (oCt σ))) d_N_isTerm_3 lf_N_131 nl rfl y.1.2.2.1 ?_
  refine x_iconst (v := (nI 1)) d_N_isTerm_6 (by decide) ?_
  refine x_isub (v := (nI (oCt σ) - nI 1)) d_N_isTerm_7 rfl ?_
  refine x_invs d_N_isTerm_8 lm_N_81 (as := [.int (nI p), .int (nI 0), .int (nI (oCt σ) - nI 1)]) (S := []) (cz' := 0) (cs' := 0) (c_N_in _ _ _) rfl rfl (Nat.le_of_ble_eq_true rfl) (by omega) (by decide) (by decide) ?_
  rintro _ _ ⟨rfl, rfl⟩
  refine x_if_eq (tgt := 63) d_N_isTerm_11 rfl (fun w_ => absurd w_ (fun z => iB_0.mp z ((in_ct (by omega)).mpr ⟨nI_pos (by omega), nI_lt hp (by omega)⟩))) (fun q11 => ?_)
  refine x_iload_n d_N_isTerm_14 rfl rfl ?_
  refine x_iconst (v := (nI 0)) d_N_isTerm_15 (by decide) ?_
  refine x_bipush (v := (nI 7)) d_N_isTerm_16 (by decide) ?_
  refine x_invs d_N_isTerm_18 lm_N_81 (as := [.int (nI k), .int (nI 0), .int (nI 7)]) (S := []) (cz' := 0) (cs' := 0) (c_N_in _ _ _) rfl rfl (Nat.le_of_ble_eq_true rfl) (by omega) (by decide) (by decide) ?_
  rintro _ _ ⟨rfl, rfl⟩
  refine x_if_ne (tgt := 59) d_N_isTerm_21 rfl (fun w_ => absurd (iB_f (fun z => absurd ((nI_leI (b := 7) (by omega) (by decide)).mp z.2) (by omega))) w_) (fun q21 => ?_)
  refine x_iload_n d_N_isTerm_24 rfl rfl ?_
  refine x_bipush (v := (nI 8)) d_N_isTerm_25 (by decide) ?_
  refine x_icmp_ne (tgt := 40) d_N_isTerm_27 rfl (fun q27 => ?_) (fun w_ => absurd w_ (fun z => absurd ((nI_eq (b := 8) (by omega) (by decide)).mp z) (by omega)))
  refine x_iload_n d_N_isTerm_40 rfl rfl ?_
  refine x_bipush (v := (nI 8)) d_N_isTerm_41 (by decide) ?_
  refine x_icmp_le (tgt := 63) d_N_isTerm_43 rfl (fun w_ => absurd w_ (nI_ge (a := 8) (by omega) (by omega))) (fun q43 => ?_)
  refine x_iload_n d_N_isTerm_46 rfl rfl ?_
  refine x_bipush (v := (nI 9)) d_N_isTerm_47 (by decide) ?_
  refine x_isub (v := (nI (k - 9))) d_N_isTerm_49 (pk_sub (b := 9) (by omega)) ?_
  refine x_aload_n d_N_isTerm_50 rfl rfl ?_
  refine n_fld (j := 9) d_N_isTerm_51 lf_N_34 nl (by decide) rfl rfl ?_
  refine x_iload_n d_N_isTerm_54 rfl rfl ?_
  refine n_ld (j := 9) (i := p) (n := 12) (v := (nI ((pMs (oPr σ p)).length))) d_N_isTerm_55 nl (by decide) (by decide) rfl rfl (by omega) (by decide) yp.ml ?_
  refine x_icmp_ge (tgt := 63) d_N_isTerm_56 rfl (fun w_ => absurd w_ (nI_ge hl (by omega))) (fun q56 => ?_)
  refine x_iconst (v := (nI 1)) d_N_isTerm_59 (by decide) ?_
  refine x_goto (tgt := 64) d_N_isTerm_60 rfl ?_
  exact x_iret d_N_isTerm_64 rfl rfl ⟨rfl, rfl⟩
theorem n_it_msn {E : th_E} {h : th_H} {r : Nat} {A : Nat → Nat → Int32} (nl : NL r h) {N u : Nat} {σ : Ho} (y : NR A σ u) (v : vPs N σ) {p : Nat} (hp : p < oCt σ) {k : Nat} (hk : 9 ≤ k) (h31 : k < 2 ^ 31) (hl : (pMs (oPr σ p)).length ≤ k - 9) : Xc E m_N_isTerm 1 0 0 [.ref r, .int (nI p), .int (nI k)] (ov r h A) (Ex (some (.int 0)) (ov r h A)) := by
  refine Xc.of (by decide) (by simp [Value.category]) (Nat.le_of_ble_eq_true rfl) ?_
  show Xw E m_N_isTerm 1 0 0 0 [some (.ref r), some (.int (nI p)), some (.int (nI k))] [] (ov r h A) _
  have hct := v.1
  have yp := y.2.2.2 p hp
  have hst := (v.2.2 p hp).2.2.2.2.2.1
  have hml := (v.2.2 p hp).2.2.2.1.1
  refine x_iload_n d_N_isTerm_0 rfl rfl ?_
  refine x_iconst (v := (nI 0)) d_N_isTerm_1 (by decide) ?_
  refine x_aload_n d_N_isTerm_2 rfl rfl ?_
  refine n_get (v := (nI (oCt σ))) d_N_isTerm_3 lf_N_131 nl rfl y.1.2.2.1 ?_
  refine x_iconst (v := (nI 1)) d_N_isTerm_6 (by decide) ?_
  refine x_isub (v := (nI (oCt σ) - nI 1)) d_N_isTerm_7 rfl ?_
  refine x_invs d_N_isTerm_8 lm_N_81 (as := [.int (nI p), .int (nI 0), .int (nI (oCt σ) - nI 1)]) (S := []) (cz' := 0) (cs' := 0) (c_N_in _ _ _) rfl rfl (Nat.le_of_ble_eq_true rfl) (by omega) (by decide) (by decide) ?_
  rintro _ _ ⟨rfl, rfl⟩
  refine x_if_eq (tgt := 63) d_N_isTerm_11 rfl (fun w_ => absurd w_ (fun z => iB_0.mp z ((in_ct (by omega)).mpr ⟨nI_pos (by omega), nI_lt hp (by omega)⟩))) (fun q11 => ?_)
  refine x_iload_n d_N_isTerm_14 rfl rfl ?_
  refine x_iconst (v := (nI 0)) d_N_isTerm_15 (by decide) ?_
  refine x_bipush (v := (nI 7)) d_N_isTerm_16 (by decide) ?_
  refine x_invs d_N_isTerm_18 lm_N_81 (as := [.int (nI k), .int (nI 0), .int (nI 7)]) (S := []) (cz' := 0) (cs' := 0) (c_N_in _ _ _) rfl rfl (Nat.le_of_ble_eq_true rfl) (by omega) (by decide) (by decide) ?_
  rintro _ _ ⟨rfl, rfl⟩
  refine x_if_ne (tgt := 59) d_N_isTerm_21 rfl (fun w_ => absurd (iB_f (fun z => absurd ((nI_leI (b := 7) (by omega) (by decide)).mp z.2) (by omega))) w_) (fun q21 => ?_)
  refine x_iload_n d_N_isTerm_24 rfl rfl ?_
  refine x_bipush (v := (nI 8)) d_N_isTerm_25 (by decide) ?_
  refine x_icmp_ne (tgt := 40) d_N_isTerm_27 rfl (fun q27 => ?_) (fun w_ => absurd w_ (fun z => absurd ((nI_eq (b := 8) (by omega) (by decide)).mp z) (by omega)))
  refine x_iload_n d_N_isTerm_40 rfl rfl ?_
  refine x_bipush (v := (nI 8)) d_N_isTerm_41 (by decide) ?_
  refine x_icmp_le (tgt := 63) d_N_isTerm_43 rfl (fun w_ => absurd w_ (nI_ge (a := 8) (by omega) (by omega))) (fun q43 => ?_)
  refine x_iload_n d_N_isTerm_46 rfl rfl ?_
  refine x_bipush (v := (nI 9)) d_N_isTerm_47 (by decide) ?_
  refine x_isub (v := (nI (k - 9))) d_N_isTerm_49 (pk_sub (b := 9) (by omega)) ?_
  refine x_aload_n d_N_isTerm_50 rfl rfl ?_
  refine n_fld (j := 9) d_N_isTerm_51 lf_N_34 nl (by decide) rfl rfl ?_
  refine x_iload_n d_N_isTerm_54 rfl rfl ?_
  refine n_ld (j := 9) (i := p) (n := 12) (v := (nI ((pMs (oPr σ p)).length))) d_N_isTerm_55 nl (by decide) (by decide) rfl rfl (by omega) (by decide) yp.ml ?_
  refine x_icmp_ge (tgt := 63) d_N_isTerm_56 rfl (fun q56 => ?_) (fun w_ => absurd (nI_le hl (by omega)) w_)
  refine x_iconst (v := (nI 0)) d_N_isTerm_63 (by decide) ?_
  exact x_iret d_N_isTerm_64 rfl rfl ⟨rfl, rfl⟩
theorem n_it_neg {E : th_E} {h : th_H} {r : Nat} {A : Nat → Nat → Int32} (nl : NL r h) {N u : Nat} {σ : Ho} (y : NR A σ u) (v : vPs N σ) {p : Nat} (hp : p < oCt σ) {w : Int32} (hw : w < 0) : Xc E m_N_isTerm 1 0 0 [.ref r, .int (nI p), .int w] (ov r h A) (Ex (some (.int 0)) (ov r h A)) := by
  refine Xc.of (by decide) (by simp [Value.category]) (Nat.le_of_ble_eq_true rfl) ?_
  show Xw E m_N_isTerm 1 0 0 0 [some (.ref r), some (.int (nI p)), some (.int w)] [] (ov r h A) _
  have hct := v.1
  have yp := y.2.2.2 p hp
  have hst := (v.2.2 p hp).2.2.2.2.2.1
  have hml := (v.2.2 p hp).2.2.2.1.1
  refine x_iload_n d_N_isTerm_0 rfl rfl ?_
  refine x_iconst (v := (nI 0)) d_N_isTerm_1 (by decide) ?_
  refine x_aload_n d_N_isTerm_2 rfl rfl ?_
  refine n_get (v := (nI (oCt σ))) d_N_isTerm_3 lf_N_131 nl rfl y.1.2.2.1 ?_
  refine x_iconst (v := (nI 1)) d_N_isTerm_6 (by decide) ?_
  refine x_isub (v := (nI (oCt σ) - nI 1)) d_N_isTerm_7 rfl ?_
  refine x_invs d_N_isTerm_8 lm_N_81 (as := [.int (nI p), .int (nI 0), .int (nI (oCt σ) - nI 1)]) (S := []) (cz' := 0) (cs' := 0) (c_N_in _ _ _) rfl rfl (Nat.le_of_ble_eq_true rfl) (by omega) (by decide) (by decide) ?_
  rintro _ _ ⟨rfl, rfl⟩
  refine x_if_eq (tgt := 63) d_N_isTerm_11 rfl (fun w_ => absurd w_ (fun z => iB_0.mp z ((in_ct (by omega)).mpr ⟨nI_pos (by omega), nI_lt hp (by omega)⟩))) (fun q11 => ?_)
  refine x_iload_n d_N_isTerm_14 rfl rfl ?_
  refine x_iconst (v := (nI 0)) d_N_isTerm_15 (by decide) ?_
  refine x_bipush (v := (nI 7)) d_N_isTerm_16 (by decide) ?_
  refine x_invs d_N_isTerm_18 lm_N_81 (as := [.int w, .int (nI 0), .int (nI 7)]) (S := []) (cz' := 0) (cs' := 0) (c_N_in _ _ _) rfl rfl (Nat.le_of_ble_eq_true rfl) (by omega) (by decide) (by decide) ?_
  rintro _ _ ⟨rfl, rfl⟩
  refine x_if_ne (tgt := 59) d_N_isTerm_21 rfl (fun w_ => absurd (iB_f (fun z => absurd hw (i32_nl z.1))) w_) (fun q21 => ?_)
  refine x_iload_n d_N_isTerm_24 rfl rfl ?_
  refine x_bipush (v := (nI 8)) d_N_isTerm_25 (by decide) ?_
  refine x_icmp_ne (tgt := 40) d_N_isTerm_27 rfl (fun q27 => ?_) (fun w_ => absurd w_ (fun z => absurd hw (by rw [z]; decide)))
  refine x_iload_n d_N_isTerm_40 rfl rfl ?_
  refine x_bipush (v := (nI 8)) d_N_isTerm_41 (by decide) ?_
  refine x_icmp_le (tgt := 63) d_N_isTerm_43 rfl (fun q43 => ?_) (fun w_ => absurd (Int32.le_of_lt (Int32.lt_trans hw (by decide))) w_)
  refine x_iconst (v := (nI 0)) d_N_isTerm_63 (by decide) ?_
  exact x_iret d_N_isTerm_64 rfl rfl ⟨rfl, rfl⟩
theorem n_it_no {E : th_E} {h : th_H} {r : Nat} {A : Nat → Nat → Int32} (nl : NL r h) {N u : Nat} {σ : Ho} (y : NR A σ u) (v : vPs N σ) {x w : Int32} (hx : ¬ (¬ x < 0 ∧ x < nI (oCt σ))) : Xc E m_N_isTerm 1 0 0 [.ref r, .int x, .int w] (ov r h A) (Ex (some (.int 0)) (ov r h A)) := by
  refine Xc.of (by decide) (by simp [Value.category]) (Nat.le_of_ble_eq_true rfl) ?_
  show Xw E m_N_isTerm 1 0 0 0 [some (.ref r), some (.int x), some (.int w)] [] (ov r h A) _
  refine x_iload_n d_N_isTerm_0 rfl rfl ?_
  refine x_iconst (v := (nI 0)) d_N_isTerm_1 (by decide) ?_
  refine x_aload_n d_N_isTerm_2 rfl rfl ?_
  refine n_get (v := (nI (oCt σ))) d_N_isTerm_3 lf_N_131 nl rfl y.1.2.2.1 ?_
  refine x_iconst (v := (nI 1)) d_N_isTerm_6 (by decide) ?_
  refine x_isub (v := (nI (oCt σ) - nI 1)) d_N_isTerm_7 rfl ?_
  refine x_invs d_N_isTerm_8 lm_N_81 (as := [.int x, .int (nI 0), .int (nI (oCt σ) - nI 1)]) (S := []) (cz' := 0) (cs' := 0) (c_N_in _ _ _) rfl rfl (Nat.le_of_ble_eq_true rfl) (by omega) (by decide) (by decide) ?_
  rintro _ _ ⟨rfl, rfl⟩
  refine x_if_eq (tgt := 63) d_N_isTerm_11 rfl (fun q11 => ?_) (fun w_ => absurd (iB_f (fun z => hx ((in_ct (by have := v.1; omega)).mp z))) w_)
  refine x_iconst (v := (nI 0)) d_N_isTerm_63 (by decide) ?_
  exact x_iret d_N_isTerm_64 rfl rfl ⟨rfl, rfl⟩
