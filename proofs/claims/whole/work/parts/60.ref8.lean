/-! The reference: mail (printed by wip/gen/mod_ref8.py). -/
theorem n_ml17y1 {E : th_E} {h : th_H} {r : Nat} {A : Nat → Nat → Int32} (nl : NL r h) {N u : Nat} {σ : Ho} (y : NR A σ u) (v : vPs N σ) {p : Nat} (hp : p < oCt σ) (hN : N < 2 ^ 30) (hm : (pMk (oPr σ p)) < (pMs (oPr σ p)).length) {a b q : Nat} (ha : a < 8) (hb : b < 8) (hq : pidM σ (pRg (oPr σ p) a) = some q) : Xc E m_N_mail 4 0 0 [.ref r, .int (nI p), .int (nI 17), .int (nI a), .int (nI b)] (ov r h A) (Pn r h σ u p (some (deliverM σ q (pRg (oPr σ p) b)))) := by
  refine Xc.of (by decide) (by simp [Value.category]) (Nat.le_of_ble_eq_true rfl) ?_
  show Xw E m_N_mail 4 0 0 0 [some (.ref r), some (.int (nI p)), some (.int (nI 17)), some (.int (nI a)), some (.int (nI b)), none, none, none] [] (ov r h A) _
  have yp := y.2.2.2 p hp
  have hp12 := Nat.lt_of_lt_of_le hp v.1
  have vp := (v.2.2 p hp).L
  have hmk := (v.2.2 p hp).2.2.2.2.1
  have hml := vp.2.2.1.1
  have sa := yp.rg a ha
  have sb := yp.rg b hb
  have hct := v.1
  have hqc := pidM_some v.1 hq
  have en : nmV σ (pRg (oPr σ p) a) = nI q := by unfold nmV; rw [hq]
  refine x_aload_n d_N_mail_0 rfl rfl ?_
  refine n_fld (j := 8) d_N_mail_1 lf_N_31 nl (by decide) rfl rfl ?_
  refine x_iload_n d_N_mail_4 rfl rfl ?_
  refine n_ld (j := 8) (i := p) (n := 12) (v := (nI (pMk (oPr σ p)))) d_N_mail_5 nl (by decide) (by decide) rfl rfl (by omega) (by decide) yp.mk ?_
  refine x_aload_n d_N_mail_6 rfl rfl ?_
  refine n_fld (j := 9) d_N_mail_7 lf_N_34 nl (by decide) rfl rfl ?_
  refine x_iload_n d_N_mail_10 rfl rfl ?_
  refine n_ld (j := 9) (i := p) (n := 12) (v := (nI ((pMs (oPr σ p)).length))) d_N_mail_11 nl (by decide) (by decide) rfl rfl (by omega) (by decide) yp.ml ?_
  refine x_icmp_ge (tgt := 19) d_N_mail_12 rfl (fun w_ => absurd w_ (nI_ge hm (by omega))) (fun q12 => ?_)
  refine x_iconst (v := (nI 1)) d_N_mail_15 (by decide) ?_
  refine x_goto (tgt := 20) d_N_mail_16 rfl ?_
  refine x_istore d_N_mail_20 (by decide) (L' := [some (.ref r), some (.int (nI p)), some (.int (nI 17)), some (.int (nI a)), some (.int (nI b)), some (.int (nI 1)), none, none]) rfl ?_
  refine x_bipush (v := (nI 21)) d_N_mail_22 (by decide) ?_
  refine x_iload_n d_N_mail_24 rfl rfl ?_
  refine x_imul (v := (nI (21 * p))) d_N_mail_25 (pk_mul _ _) ?_
  refine x_bipush (v := (nI 9)) d_N_mail_26 (by decide) ?_
  refine x_iadd (v := (nI (21 * p + 9))) d_N_mail_28 (nI_add _ _) ?_
  refine x_aload_n d_N_mail_29 rfl rfl ?_
  refine n_fld (j := 8) d_N_mail_30 lf_N_31 nl (by decide) rfl rfl ?_
  refine x_iload_n d_N_mail_33 rfl rfl ?_
  refine n_ld (j := 8) (i := p) (n := 12) (v := (nI (pMk (oPr σ p)))) d_N_mail_34 nl (by decide) (by decide) rfl rfl (by omega) (by decide) yp.mk ?_
  refine x_iadd (v := (nI (21 * p + 9 + (pMk (oPr σ p))))) d_N_mail_35 (nI_add _ _) ?_
  refine x_istore d_N_mail_36 (by decide) (L' := [some (.ref r), some (.int (nI p)), some (.int (nI 17)), some (.int (nI a)), some (.int (nI b)), some (.int (nI 1)), some (.int (nI (21 * p + 9 + (pMk (oPr σ p))))), none]) rfl ?_
  refine x_iload_n d_N_mail_38 rfl rfl ?_
  refine x_bipush (v := (nI 17)) d_N_mail_39 (by decide) ?_
  refine x_icmp_ne (tgt := 79) d_N_mail_41 rfl (fun w_ => absurd (by decide) w_) (fun q41 => ?_)
  refine x_aload_n d_N_mail_44 rfl rfl ?_
  refine x_bipush (v := (nI 21)) d_N_mail_45 (by decide) ?_
  refine x_iload_n d_N_mail_47 rfl rfl ?_
  refine x_imul (v := (nI (21 * p))) d_N_mail_48 (pk_mul _ _) ?_
  refine x_iload_n d_N_mail_49 rfl rfl ?_
  refine x_iadd (v := (nI (21 * p + a))) d_N_mail_50 (nI_add _ _) ?_
  refine x_invv d_N_mail_51 lm_N_149 (as := [.int (nI (21 * p + a))]) (S := []) (cz' := 0) (cs' := 0) (c_N_named nl y v (by omega) sa) nl.o rfl rfl rfl (Nat.le_of_ble_eq_true rfl) (by omega) (by decide) (by decide) ?_
  rintro _ _ ⟨rfl, rfl⟩
  rw [en]
  refine x_istore d_N_mail_54 (by decide) (L' := [some (.ref r), some (.int (nI p)), some (.int (nI 17)), some (.int (nI a)), some (.int (nI b)), some (.int (nI 1)), some (.int (nI (21 * p + 9 + (pMk (oPr σ p))))), some (.int (nI q))]) rfl ?_
  refine x_iload d_N_mail_56 rfl ?_
  refine x_if_ge (tgt := 63) d_N_mail_58 rfl (fun q58 => ?_) (fun w_ => absurd (nI_pos' (by omega)) w_)
  refine x_aload_n d_N_mail_63 rfl rfl ?_
  refine x_iload d_N_mail_64 rfl ?_
  refine x_bipush (v := (nI 21)) d_N_mail_66 (by decide) ?_
  refine x_iload_n d_N_mail_68 rfl rfl ?_
  refine x_imul (v := (nI (21 * p))) d_N_mail_69 (pk_mul _ _) ?_
  refine x_iload d_N_mail_70 rfl ?_
  refine x_iadd (v := (nI (21 * p + b))) d_N_mail_72 (nI_add _ _) ?_
  refine x_invv d_N_mail_73 lm_N_122 (as := [.int (nI q), .int (nI (21 * p + b))]) (S := []) (cz' := 0) (cs' := 0) (c_N_deliver nl y v hqc.2.1 (by omega) sb ((v.2.2 p hp).1 b)) nl.o rfl rfl rfl (Nat.le_of_ble_eq_true rfl) (by omega) (by decide) (by decide) ?_
  rintro _ _ ⟨rfl, A2, rfl, y2, t2⟩
  refine x_goto (tgt := 263) d_N_mail_76 rfl ?_
  refine x_iconst (v := (nI 1)) d_N_mail_263 (by decide) ?_
  exact x_iret d_N_mail_264 rfl rfl ⟨rfl, A2, rfl, u, y2, (HdK.deliver _ _ _ _).x⟩
theorem n_ml17n1 {E : th_E} {h : th_H} {r : Nat} {A : Nat → Nat → Int32} (nl : NL r h) {N u : Nat} {σ : Ho} (y : NR A σ u) (v : vPs N σ) {p : Nat} (hp : p < oCt σ) (hN : N < 2 ^ 30) (hm : (pMk (oPr σ p)) < (pMs (oPr σ p)).length) {a : Nat} (b : Int32) (ha : a < 8) (hq : pidM σ (pRg (oPr σ p) a) = none) : Xc E m_N_mail 4 0 0 [.ref r, .int (nI p), .int (nI 17), .int (nI a), .int b] (ov r h A) (Pn r h σ u p none) := by
  refine Xc.of (by decide) (by simp [Value.category]) (Nat.le_of_ble_eq_true rfl) ?_
  show Xw E m_N_mail 4 0 0 0 [some (.ref r), some (.int (nI p)), some (.int (nI 17)), some (.int (nI a)), some (.int b), none, none, none] [] (ov r h A) _
  have yp := y.2.2.2 p hp
  have hp12 := Nat.lt_of_lt_of_le hp v.1
  have vp := (v.2.2 p hp).L
  have hmk := (v.2.2 p hp).2.2.2.2.1
  have hml := vp.2.2.1.1
  have sa := yp.rg a ha
  have en : nmV σ (pRg (oPr σ p) a) = -1 := by unfold nmV; rw [hq]
  refine x_aload_n d_N_mail_0 rfl rfl ?_
  refine n_fld (j := 8) d_N_mail_1 lf_N_31 nl (by decide) rfl rfl ?_
  refine x_iload_n d_N_mail_4 rfl rfl ?_
  refine n_ld (j := 8) (i := p) (n := 12) (v := (nI (pMk (oPr σ p)))) d_N_mail_5 nl (by decide) (by decide) rfl rfl (by omega) (by decide) yp.mk ?_
  refine x_aload_n d_N_mail_6 rfl rfl ?_
  refine n_fld (j := 9) d_N_mail_7 lf_N_34 nl (by decide) rfl rfl ?_
  refine x_iload_n d_N_mail_10 rfl rfl ?_
  refine n_ld (j := 9) (i := p) (n := 12) (v := (nI ((pMs (oPr σ p)).length))) d_N_mail_11 nl (by decide) (by decide) rfl rfl (by omega) (by decide) yp.ml ?_
  refine x_icmp_ge (tgt := 19) d_N_mail_12 rfl (fun w_ => absurd w_ (nI_ge hm (by omega))) (fun q12 => ?_)
  refine x_iconst (v := (nI 1)) d_N_mail_15 (by decide) ?_
  refine x_goto (tgt := 20) d_N_mail_16 rfl ?_
  refine x_istore d_N_mail_20 (by decide) (L' := [some (.ref r), some (.int (nI p)), some (.int (nI 17)), some (.int (nI a)), some (.int b), some (.int (nI 1)), none, none]) rfl ?_
  refine x_bipush (v := (nI 21)) d_N_mail_22 (by decide) ?_
  refine x_iload_n d_N_mail_24 rfl rfl ?_
  refine x_imul (v := (nI (21 * p))) d_N_mail_25 (pk_mul _ _) ?_
  refine x_bipush (v := (nI 9)) d_N_mail_26 (by decide) ?_
  refine x_iadd (v := (nI (21 * p + 9))) d_N_mail_28 (nI_add _ _) ?_
  refine x_aload_n d_N_mail_29 rfl rfl ?_
  refine n_fld (j := 8) d_N_mail_30 lf_N_31 nl (by decide) rfl rfl ?_
  refine x_iload_n d_N_mail_33 rfl rfl ?_
  refine n_ld (j := 8) (i := p) (n := 12) (v := (nI (pMk (oPr σ p)))) d_N_mail_34 nl (by decide) (by decide) rfl rfl (by omega) (by decide) yp.mk ?_
  refine x_iadd (v := (nI (21 * p + 9 + (pMk (oPr σ p))))) d_N_mail_35 (nI_add _ _) ?_
  refine x_istore d_N_mail_36 (by decide) (L' := [some (.ref r), some (.int (nI p)), some (.int (nI 17)), some (.int (nI a)), some (.int b), some (.int (nI 1)), some (.int (nI (21 * p + 9 + (pMk (oPr σ p))))), none]) rfl ?_
  refine x_iload_n d_N_mail_38 rfl rfl ?_
  refine x_bipush (v := (nI 17)) d_N_mail_39 (by decide) ?_
  refine x_icmp_ne (tgt := 79) d_N_mail_41 rfl (fun w_ => absurd (by decide) w_) (fun q41 => ?_)
  refine x_aload_n d_N_mail_44 rfl rfl ?_
  refine x_bipush (v := (nI 21)) d_N_mail_45 (by decide) ?_
  refine x_iload_n d_N_mail_47 rfl rfl ?_
  refine x_imul (v := (nI (21 * p))) d_N_mail_48 (pk_mul _ _) ?_
  refine x_iload_n d_N_mail_49 rfl rfl ?_
  refine x_iadd (v := (nI (21 * p + a))) d_N_mail_50 (nI_add _ _) ?_
  refine x_invv d_N_mail_51 lm_N_149 (as := [.int (nI (21 * p + a))]) (S := []) (cz' := 0) (cs' := 0) (c_N_named nl y v (by omega) sa) nl.o rfl rfl rfl (Nat.le_of_ble_eq_true rfl) (by omega) (by decide) (by decide) ?_
  rintro _ _ ⟨rfl, rfl⟩
  rw [en]
  refine x_istore d_N_mail_54 (by decide) (L' := [some (.ref r), some (.int (nI p)), some (.int (nI 17)), some (.int (nI a)), some (.int b), some (.int (nI 1)), some (.int (nI (21 * p + 9 + (pMk (oPr σ p))))), some (.int (-1))]) rfl ?_
  refine x_iload d_N_mail_56 rfl ?_
  refine x_if_ge (tgt := 63) d_N_mail_58 rfl (fun w_ => absurd w_ (by decide)) (fun q58 => ?_)
  refine x_iconst (v := (nI 0)) d_N_mail_61 (by decide) ?_
  exact x_iret d_N_mail_62 rfl rfl ⟨rfl, A, rfl, y⟩
theorem n_ml17y0 {E : th_E} {h : th_H} {r : Nat} {A : Nat → Nat → Int32} (nl : NL r h) {N u : Nat} {σ : Ho} (y : NR A σ u) (v : vPs N σ) {p : Nat} (hp : p < oCt σ) (hN : N < 2 ^ 30) (hm : (pMs (oPr σ p)).length ≤ (pMk (oPr σ p))) {a b q : Nat} (ha : a < 8) (hb : b < 8) (hq : pidM σ (pRg (oPr σ p) a) = some q) : Xc E m_N_mail 4 0 0 [.ref r, .int (nI p), .int (nI 17), .int (nI a), .int (nI b)] (ov r h A) (Pn r h σ u p (some (deliverM σ q (pRg (oPr σ p) b)))) := by
  refine Xc.of (by decide) (by simp [Value.category]) (Nat.le_of_ble_eq_true rfl) ?_
  show Xw E m_N_mail 4 0 0 0 [some (.ref r), some (.int (nI p)), some (.int (nI 17)), some (.int (nI a)), some (.int (nI b)), none, none, none] [] (ov r h A) _
  have yp := y.2.2.2 p hp
  have hp12 := Nat.lt_of_lt_of_le hp v.1
  have vp := (v.2.2 p hp).L
  have hmk := (v.2.2 p hp).2.2.2.2.1
  have hml := vp.2.2.1.1
  have sa := yp.rg a ha
  have sb := yp.rg b hb
  have hct := v.1
  have hqc := pidM_some v.1 hq
  have en : nmV σ (pRg (oPr σ p) a) = nI q := by unfold nmV; rw [hq]
  refine x_aload_n d_N_mail_0 rfl rfl ?_
  refine n_fld (j := 8) d_N_mail_1 lf_N_31 nl (by decide) rfl rfl ?_
  refine x_iload_n d_N_mail_4 rfl rfl ?_
  refine n_ld (j := 8) (i := p) (n := 12) (v := (nI (pMk (oPr σ p)))) d_N_mail_5 nl (by decide) (by decide) rfl rfl (by omega) (by decide) yp.mk ?_
  refine x_aload_n d_N_mail_6 rfl rfl ?_
  refine n_fld (j := 9) d_N_mail_7 lf_N_34 nl (by decide) rfl rfl ?_
  refine x_iload_n d_N_mail_10 rfl rfl ?_
  refine n_ld (j := 9) (i := p) (n := 12) (v := (nI ((pMs (oPr σ p)).length))) d_N_mail_11 nl (by decide) (by decide) rfl rfl (by omega) (by decide) yp.ml ?_
  refine x_icmp_ge (tgt := 19) d_N_mail_12 rfl (fun q12 => ?_) (fun w_ => absurd (nI_le hm (by omega)) w_)
  refine x_iconst (v := (nI 0)) d_N_mail_19 (by decide) ?_
  refine x_istore d_N_mail_20 (by decide) (L' := [some (.ref r), some (.int (nI p)), some (.int (nI 17)), some (.int (nI a)), some (.int (nI b)), some (.int (nI 0)), none, none]) rfl ?_
  refine x_bipush (v := (nI 21)) d_N_mail_22 (by decide) ?_
  refine x_iload_n d_N_mail_24 rfl rfl ?_
  refine x_imul (v := (nI (21 * p))) d_N_mail_25 (pk_mul _ _) ?_
  refine x_bipush (v := (nI 9)) d_N_mail_26 (by decide) ?_
  refine x_iadd (v := (nI (21 * p + 9))) d_N_mail_28 (nI_add _ _) ?_
  refine x_aload_n d_N_mail_29 rfl rfl ?_
  refine n_fld (j := 8) d_N_mail_30 lf_N_31 nl (by decide) rfl rfl ?_
  refine x_iload_n d_N_mail_33 rfl rfl ?_
  refine n_ld (j := 8) (i := p) (n := 12) (v := (nI (pMk (oPr σ p)))) d_N_mail_34 nl (by decide) (by decide) rfl rfl (by omega) (by decide) yp.mk ?_
  refine x_iadd (v := (nI (21 * p + 9 + (pMk (oPr σ p))))) d_N_mail_35 (nI_add _ _) ?_
  refine x_istore d_N_mail_36 (by decide) (L' := [some (.ref r), some (.int (nI p)), some (.int (nI 17)), some (.int (nI a)), some (.int (nI b)), some (.int (nI 0)), some (.int (nI (21 * p + 9 + (pMk (oPr σ p))))), none]) rfl ?_
  refine x_iload_n d_N_mail_38 rfl rfl ?_
  refine x_bipush (v := (nI 17)) d_N_mail_39 (by decide) ?_
  refine x_icmp_ne (tgt := 79) d_N_mail_41 rfl (fun w_ => absurd (by decide) w_) (fun q41 => ?_)
  refine x_aload_n d_N_mail_44 rfl rfl ?_
  refine x_bipush (v := (nI 21)) d_N_mail_45 (by decide) ?_
  refine x_iload_n d_N_mail_47 rfl rfl ?_
  refine x_imul (v := (nI (21 * p))) d_N_mail_48 (pk_mul _ _) ?_
  refine x_iload_n d_N_mail_49 rfl rfl ?_
  refine x_iadd (v := (nI (21 * p + a))) d_N_mail_50 (nI_add _ _) ?_
  refine x_invv d_N_mail_51 lm_N_149 (as := [.int (nI (21 * p + a))]) (S := []) (cz' := 0) (cs' := 0) (c_N_named nl y v (by omega) sa) nl.o rfl rfl rfl (Nat.le_of_ble_eq_true rfl) (by omega) (by decide) (by decide) ?_
  rintro _ _ ⟨rfl, rfl⟩
  rw [en]
  refine x_istore d_N_mail_54 (by decide) (L' := [some (.ref r), some (.int (nI p)), some (.int (nI 17)), some (.int (nI a)), some (.int (nI b)), some (.int (nI 0)), some (.int (nI (21 * p + 9 + (pMk (oPr σ p))))), some (.int (nI q))]) rfl ?_
  refine x_iload d_N_mail_56 rfl ?_
  refine x_if_ge (tgt := 63) d_N_mail_58 rfl (fun q58 => ?_) (fun w_ => absurd (nI_pos' (by omega)) w_)
  refine x_aload_n d_N_mail_63 rfl rfl ?_
  refine x_iload d_N_mail_64 rfl ?_
  refine x_bipush (v := (nI 21)) d_N_mail_66 (by decide) ?_
  refine x_iload_n d_N_mail_68 rfl rfl ?_
  refine x_imul (v := (nI (21 * p))) d_N_mail_69 (pk_mul _ _) ?_
  refine x_iload d_N_mail_70 rfl ?_
  refine x_iadd (v := (nI (21 * p + b))) d_N_mail_72 (nI_add _ _) ?_
  refine x_invv d_N_mail_73 lm_N_122 (as := [.int (nI q), .int (nI (21 * p + b))]) (S := []) (cz' := 0) (cs' := 0) (c_N_deliver nl y v hqc.2.1 (by omega) sb ((v.2.2 p hp).1 b)) nl.o rfl rfl rfl (Nat.le_of_ble_eq_true rfl) (by omega) (by decide) (by decide) ?_
  rintro _ _ ⟨rfl, A2, rfl, y2, t2⟩
  refine x_goto (tgt := 263) d_N_mail_76 rfl ?_
  refine x_iconst (v := (nI 1)) d_N_mail_263 (by decide) ?_
  exact x_iret d_N_mail_264 rfl rfl ⟨rfl, A2, rfl, u, y2, (HdK.deliver _ _ _ _).x⟩
theorem n_ml17n0 {E : th_E} {h : th_H} {r : Nat} {A : Nat → Nat → Int32} (nl : NL r h) {N u : Nat} {σ : Ho} (y : NR A σ u) (v : vPs N σ) {p : Nat} (hp : p < oCt σ) (hN : N < 2 ^ 30) (hm : (pMs (oPr σ p)).length ≤ (pMk (oPr σ p))) {a : Nat} (b : Int32) (ha : a < 8) (hq : pidM σ (pRg (oPr σ p) a) = none) : Xc E m_N_mail 4 0 0 [.ref r, .int (nI p), .int (nI 17), .int (nI a), .int b] (ov r h A) (Pn r h σ u p none) := by
  refine Xc.of (by decide) (by simp [Value.category]) (Nat.le_of_ble_eq_true rfl) ?_
  show Xw E m_N_mail 4 0 0 0 [some (.ref r), some (.int (nI p)), some (.int (nI 17)), some (.int (nI a)), some (.int b), none, none, none] [] (ov r h A) _
  have yp := y.2.2.2 p hp
  have hp12 := Nat.lt_of_lt_of_le hp v.1
  have vp := (v.2.2 p hp).L
  have hmk := (v.2.2 p hp).2.2.2.2.1
  have hml := vp.2.2.1.1
  have sa := yp.rg a ha
  have en : nmV σ (pRg (oPr σ p) a) = -1 := by unfold nmV; rw [hq]
  refine x_aload_n d_N_mail_0 rfl rfl ?_
  refine n_fld (j := 8) d_N_mail_1 lf_N_31 nl (by decide) rfl rfl ?_
  refine x_iload_n d_N_mail_4 rfl rfl ?_
  refine n_ld (j := 8) (i := p) (n := 12) (v := (nI (pMk (oPr σ p)))) d_N_mail_5 nl (by decide) (by decide) rfl rfl (by omega) (by decide) yp.mk ?_
  refine x_aload_n d_N_mail_6 rfl rfl ?_
  refine n_fld (j := 9) d_N_mail_7 lf_N_34 nl (by decide) rfl rfl ?_
  refine x_iload_n d_N_mail_10 rfl rfl ?_
  refine n_ld (j := 9) (i := p) (n := 12) (v := (nI ((pMs (oPr σ p)).length))) d_N_mail_11 nl (by decide) (by decide) rfl rfl (by omega) (by decide) yp.ml ?_
  refine x_icmp_ge (tgt := 19) d_N_mail_12 rfl (fun q12 => ?_) (fun w_ => absurd (nI_le hm (by omega)) w_)
  refine x_iconst (v := (nI 0)) d_N_mail_19 (by decide) ?_
  refine x_istore d_N_mail_20 (by decide) (L' := [some (.ref r), some (.int (nI p)), some (.int (nI 17)), some (.int (nI a)), some (.int b), some (.int (nI 0)), none, none]) rfl ?_
  refine x_bipush (v := (nI 21)) d_N_mail_22 (by decide) ?_
  refine x_iload_n d_N_mail_24 rfl rfl ?_
  refine x_imul (v := (nI (21 * p))) d_N_mail_25 (pk_mul _ _) ?_
  refine x_bipush (v := (nI 9)) d_N_mail_26 (by decide) ?_
  refine x_iadd (v := (nI (21 * p + 9))) d_N_mail_28 (nI_add _ _) ?_
  refine x_aload_n d_N_mail_29 rfl rfl ?_
  refine n_fld (j := 8) d_N_mail_30 lf_N_31 nl (by decide) rfl rfl ?_
  refine x_iload_n d_N_mail_33 rfl rfl ?_
  refine n_ld (j := 8) (i := p) (n := 12) (v := (nI (pMk (oPr σ p)))) d_N_mail_34 nl (by decide) (by decide) rfl rfl (by omega) (by decide) yp.mk ?_
  refine x_iadd (v := (nI (21 * p + 9 + (pMk (oPr σ p))))) d_N_mail_35 (nI_add _ _) ?_
  refine x_istore d_N_mail_36 (by decide) (L' := [some (.ref r), some (.int (nI p)), some (.int (nI 17)), some (.int (nI a)), some (.int b), some (.int (nI 0)), some (.int (nI (21 * p + 9 + (pMk (oPr σ p))))), none]) rfl ?_
  refine x_iload_n d_N_mail_38 rfl rfl ?_
  refine x_bipush (v := (nI 17)) d_N_mail_39 (by decide) ?_
  refine x_icmp_ne (tgt := 79) d_N_mail_41 rfl (fun w_ => absurd (by decide) w_) (fun q41 => ?_)
  refine x_aload_n d_N_mail_44 rfl rfl ?_
  refine x_bipush (v := (nI 21)) d_N_mail_45 (by decide) ?_
  refine x_iload_n d_N_mail_47 rfl rfl ?_
  refine x_imul (v := (nI (21 * p))) d_N_mail_48 (pk_mul _ _) ?_
  refine x_iload_n d_N_mail_49 rfl rfl ?_
  refine x_iadd (v := (nI (21 * p + a))) d_N_mail_50 (nI_add _ _) ?_
  refine x_invv d_N_mail_51 lm_N_149 (as := [.int (nI (21 * p + a))]) (S := []) (cz' := 0) (cs' := 0) (c_N_named nl y v (by omega) sa) nl.o rfl rfl rfl (Nat.le_of_ble_eq_true rfl) (by omega) (by decide) (by decide) ?_
  rintro _ _ ⟨rfl, rfl⟩
  rw [en]
  refine x_istore d_N_mail_54 (by decide) (L' := [some (.ref r), some (.int (nI p)), some (.int (nI 17)), some (.int (nI a)), some (.int b), some (.int (nI 0)), some (.int (nI (21 * p + 9 + (pMk (oPr σ p))))), some (.int (-1))]) rfl ?_
  refine x_iload d_N_mail_56 rfl ?_
  refine x_if_ge (tgt := 63) d_N_mail_58 rfl (fun w_ => absurd w_ (by decide)) (fun q58 => ?_)
  refine x_iconst (v := (nI 0)) d_N_mail_61 (by decide) ?_
  exact x_iret d_N_mail_62 rfl rfl ⟨rfl, A, rfl, y⟩
theorem n_ml18y {E : th_E} {h : th_H} {r : Nat} {A : Nat → Nat → Int32} (nl : NL r h) {N u : Nat} {σ : Ho} (y : NR A σ u) (v : vPs N σ) {p : Nat} (hp : p < oCt σ) (hN : N < 2 ^ 30) (hm : (pMk (oPr σ p)) < (pMs (oPr σ p)).length) {a : Nat} (b : Int32) {t : Tm} (ha : a < 8) (ht : (pMs (oPr σ p))[(pMk (oPr σ p))]? = some t) : Xc E m_N_mail 4 0 0 [.ref r, .int (nI p), .int (nI 18), .int (nI a), .int b] (ov r h A) (Pn r h σ u p (some (sPr σ p (sRg (oPr σ p) a t)))) := by
  refine Xc.of (by decide) (by simp [Value.category]) (Nat.le_of_ble_eq_true rfl) ?_
  show Xw E m_N_mail 4 0 0 0 [some (.ref r), some (.int (nI p)), some (.int (nI 18)), some (.int (nI a)), some (.int b), none, none, none] [] (ov r h A) _
  have yp := y.2.2.2 p hp
  have hp12 := Nat.lt_of_lt_of_le hp v.1
  have vp := (v.2.2 p hp).L
  have hmk := (v.2.2 p hp).2.2.2.2.1
  have hml := vp.2.2.1.1
  have sm := yp.ms _ t ht
  have hlm := vp.2.2.1.2 t (mem_gi ht)
  refine x_aload_n d_N_mail_0 rfl rfl ?_
  refine n_fld (j := 8) d_N_mail_1 lf_N_31 nl (by decide) rfl rfl ?_
  refine x_iload_n d_N_mail_4 rfl rfl ?_
  refine n_ld (j := 8) (i := p) (n := 12) (v := (nI (pMk (oPr σ p)))) d_N_mail_5 nl (by decide) (by decide) rfl rfl (by omega) (by decide) yp.mk ?_
  refine x_aload_n d_N_mail_6 rfl rfl ?_
  refine n_fld (j := 9) d_N_mail_7 lf_N_34 nl (by decide) rfl rfl ?_
  refine x_iload_n d_N_mail_10 rfl rfl ?_
  refine n_ld (j := 9) (i := p) (n := 12) (v := (nI ((pMs (oPr σ p)).length))) d_N_mail_11 nl (by decide) (by decide) rfl rfl (by omega) (by decide) yp.ml ?_
  refine x_icmp_ge (tgt := 19) d_N_mail_12 rfl (fun w_ => absurd w_ (nI_ge hm (by omega))) (fun q12 => ?_)
  refine x_iconst (v := (nI 1)) d_N_mail_15 (by decide) ?_
  refine x_goto (tgt := 20) d_N_mail_16 rfl ?_
  refine x_istore d_N_mail_20 (by decide) (L' := [some (.ref r), some (.int (nI p)), some (.int (nI 18)), some (.int (nI a)), some (.int b), some (.int (nI 1)), none, none]) rfl ?_
  refine x_bipush (v := (nI 21)) d_N_mail_22 (by decide) ?_
  refine x_iload_n d_N_mail_24 rfl rfl ?_
  refine x_imul (v := (nI (21 * p))) d_N_mail_25 (pk_mul _ _) ?_
  refine x_bipush (v := (nI 9)) d_N_mail_26 (by decide) ?_
  refine x_iadd (v := (nI (21 * p + 9))) d_N_mail_28 (nI_add _ _) ?_
  refine x_aload_n d_N_mail_29 rfl rfl ?_
  refine n_fld (j := 8) d_N_mail_30 lf_N_31 nl (by decide) rfl rfl ?_
  refine x_iload_n d_N_mail_33 rfl rfl ?_
  refine n_ld (j := 8) (i := p) (n := 12) (v := (nI (pMk (oPr σ p)))) d_N_mail_34 nl (by decide) (by decide) rfl rfl (by omega) (by decide) yp.mk ?_
  refine x_iadd (v := (nI (21 * p + 9 + (pMk (oPr σ p))))) d_N_mail_35 (nI_add _ _) ?_
  refine x_istore d_N_mail_36 (by decide) (L' := [some (.ref r), some (.int (nI p)), some (.int (nI 18)), some (.int (nI a)), some (.int b), some (.int (nI 1)), some (.int (nI (21 * p + 9 + (pMk (oPr σ p))))), none]) rfl ?_
  refine x_iload_n d_N_mail_38 rfl rfl ?_
  refine x_bipush (v := (nI 17)) d_N_mail_39 (by decide) ?_
  refine x_icmp_ne (tgt := 79) d_N_mail_41 rfl (fun q41 => ?_) (fun w_ => absurd w_ (by decide))
  refine x_iload_n d_N_mail_79 rfl rfl ?_
  refine x_bipush (v := (nI 18)) d_N_mail_80 (by decide) ?_
  refine x_icmp_ne (tgt := 116) d_N_mail_82 rfl (fun w_ => absurd (by decide) w_) (fun q82 => ?_)
  refine x_iload d_N_mail_85 rfl ?_
  refine x_if_eq (tgt := 105) d_N_mail_87 rfl (fun w_ => absurd w_ (by decide)) (fun q87 => ?_)
  refine x_aload_n d_N_mail_90 rfl rfl ?_
  refine x_iload d_N_mail_91 rfl ?_
  refine x_bipush (v := (nI 21)) d_N_mail_93 (by decide) ?_
  refine x_iload_n d_N_mail_95 rfl rfl ?_
  refine x_imul (v := (nI (21 * p))) d_N_mail_96 (pk_mul _ _) ?_
  refine x_iload_n d_N_mail_97 rfl rfl ?_
  refine x_iadd (v := (nI (21 * p + a))) d_N_mail_98 (nI_add _ _) ?_
  refine x_invv d_N_mail_99 lm_N_107 (as := [.int (nI (21 * p + 9 + (pMk (oPr σ p)))), .int (nI (21 * p + a))]) (S := []) (cz' := 0) (cs' := 0) (c_N_copy nl (by omega) (by omega) sm.1 hlm) nl.o rfl rfl rfl (Nat.le_of_ble_eq_true rfl) (by omega) (by decide) (by decide) ?_
  rintro _ _ ⟨rfl, rfl⟩
  have e1 : Tb (21 * p + a) A (cpA A (21 * p + 9 + (pMk (oPr σ p))) (21 * p + a) (2 * (tF t).length + 1)) := Tb.cp (by omega)
  have q1 : SL (cpA A (21 * p + 9 + (pMk (oPr σ p))) (21 * p + a) (2 * (tF t).length + 1)) (21 * p + a) (tF t) := sm.cp rfl
  generalize cpA A (21 * p + 9 + (pMk (oPr σ p))) (21 * p + a) (2 * (tF t).length + 1) = A1 at e1 q1 ⊢
  refine x_goto (tgt := 263) d_N_mail_102 rfl ?_
  refine x_iconst (v := (nI 1)) d_N_mail_263 (by decide) ?_
  exact x_iret d_N_mail_264 rfl rfl ⟨rfl, A1, rfl, u, y.setP v.L ((Chp.rf p A).tb (k := a) (by omega) e1) ((yp).s_rg vp ha e1 q1), HdX.setP rfl⟩
theorem n_ml18n {E : th_E} {h : th_H} {r : Nat} {A : Nat → Nat → Int32} (nl : NL r h) {N u : Nat} {σ : Ho} (y : NR A σ u) (v : vPs N σ) {p : Nat} (hp : p < oCt σ) (hN : N < 2 ^ 30) (hm : (pMs (oPr σ p)).length ≤ (pMk (oPr σ p))) {c : Nat} (a0 : Int32) : Xc E m_N_mail 4 0 0 [.ref r, .int (nI p), .int (nI 18), .int a0, .int (nI c)] (ov r h A) (Pn r h σ u p (some (sPr σ p (sPl (oPr σ p) c)))) := by
  refine Xc.of (by decide) (by simp [Value.category]) (Nat.le_of_ble_eq_true rfl) ?_
  show Xw E m_N_mail 4 0 0 0 [some (.ref r), some (.int (nI p)), some (.int (nI 18)), some (.int a0), some (.int (nI c)), none, none, none] [] (ov r h A) _
  have yp := y.2.2.2 p hp
  have hp12 := Nat.lt_of_lt_of_le hp v.1
  have vp := (v.2.2 p hp).L
  have hmk := (v.2.2 p hp).2.2.2.2.1
  have hml := vp.2.2.1.1
  refine x_aload_n d_N_mail_0 rfl rfl ?_
  refine n_fld (j := 8) d_N_mail_1 lf_N_31 nl (by decide) rfl rfl ?_
  refine x_iload_n d_N_mail_4 rfl rfl ?_
  refine n_ld (j := 8) (i := p) (n := 12) (v := (nI (pMk (oPr σ p)))) d_N_mail_5 nl (by decide) (by decide) rfl rfl (by omega) (by decide) yp.mk ?_
  refine x_aload_n d_N_mail_6 rfl rfl ?_
  refine n_fld (j := 9) d_N_mail_7 lf_N_34 nl (by decide) rfl rfl ?_
  refine x_iload_n d_N_mail_10 rfl rfl ?_
  refine n_ld (j := 9) (i := p) (n := 12) (v := (nI ((pMs (oPr σ p)).length))) d_N_mail_11 nl (by decide) (by decide) rfl rfl (by omega) (by decide) yp.ml ?_
  refine x_icmp_ge (tgt := 19) d_N_mail_12 rfl (fun q12 => ?_) (fun w_ => absurd (nI_le hm (by omega)) w_)
  refine x_iconst (v := (nI 0)) d_N_mail_19 (by decide) ?_
  refine x_istore d_N_mail_20 (by decide) (L' := [some (.ref r), some (.int (nI p)), some (.int (nI 18)), some (.int a0), some (.int (nI c)), some (.int (nI 0)), none, none]) rfl ?_
  refine x_bipush (v := (nI 21)) d_N_mail_22 (by decide) ?_
  refine x_iload_n d_N_mail_24 rfl rfl ?_
  refine x_imul (v := (nI (21 * p))) d_N_mail_25 (pk_mul _ _) ?_
  refine x_bipush (v := (nI 9)) d_N_mail_26 (by decide) ?_
  refine x_iadd (v := (nI (21 * p + 9))) d_N_mail_28 (nI_add _ _) ?_
  refine x_aload_n d_N_mail_29 rfl rfl ?_
  refine n_fld (j := 8) d_N_mail_30 lf_N_31 nl (by decide) rfl rfl ?_
  refine x_iload_n d_N_mail_33 rfl rfl ?_
  refine n_ld (j := 8) (i := p) (n := 12) (v := (nI (pMk (oPr σ p)))) d_N_mail_34 nl (by decide) (by decide) rfl rfl (by omega) (by decide) yp.mk ?_
  refine x_iadd (v := (nI (21 * p + 9 + (pMk (oPr σ p))))) d_N_mail_35 (nI_add _ _) ?_
  refine x_istore d_N_mail_36 (by decide) (L' := [some (.ref r), some (.int (nI p)), some (.int (nI 18)), some (.int a0), some (.int (nI c)), some (.int (nI 0)), some (.int (nI (21 * p + 9 + (pMk (oPr σ p))))), none]) rfl ?_
  refine x_iload_n d_N_mail_38 rfl rfl ?_
  refine x_bipush (v := (nI 17)) d_N_mail_39 (by decide) ?_
  refine x_icmp_ne (tgt := 79) d_N_mail_41 rfl (fun q41 => ?_) (fun w_ => absurd w_ (by decide))
  refine x_iload_n d_N_mail_79 rfl rfl ?_
  refine x_bipush (v := (nI 18)) d_N_mail_80 (by decide) ?_
  refine x_icmp_ne (tgt := 116) d_N_mail_82 rfl (fun w_ => absurd (by decide) w_) (fun q82 => ?_)
  refine x_iload d_N_mail_85 rfl ?_
  refine x_if_eq (tgt := 105) d_N_mail_87 rfl (fun q87 => ?_) (fun w_ => absurd rfl w_)
  refine x_aload_n d_N_mail_105 rfl rfl ?_
  refine n_fld (j := 7) d_N_mail_106 lf_N_28 nl (by decide) rfl rfl ?_
  refine x_iload_n d_N_mail_109 rfl rfl ?_
  refine x_iload d_N_mail_110 rfl ?_
  refine n_st (j := 7) (i := p) (n := 12) (v := (nI c)) d_N_mail_112 nl (by decide) (by decide) rfl rfl (by omega) (by decide) ?_
  refine x_goto (tgt := 263) d_N_mail_113 rfl ?_
  refine x_iconst (v := (nI 1)) d_N_mail_263 (by decide) ?_
  exact x_iret d_N_mail_264 rfl rfl ⟨rfl, _, rfl, u, y.setP v.L ((Chp.rf p A).up (Or.inl (Or.inr (Or.inr ⟨rfl, by decide⟩)))) (yp.s_pl c), HdX.setP rfl⟩
theorem n_ml201 {E : th_E} {h : th_H} {r : Nat} {A : Nat → Nat → Int32} (nl : NL r h) {N u : Nat} {σ : Ho} (y : NR A σ u) (v : vPs N σ) {p : Nat} (hp : p < oCt σ) (hN : N < 2 ^ 30) (hm : (pMk (oPr σ p)) < (pMs (oPr σ p)).length) {c : Nat} (b : Int32) : Xc E m_N_mail 4 0 0 [.ref r, .int (nI p), .int (nI 20), .int (nI c), .int b] (ov r h A) (Pn r h σ u p (some (sPr σ p (sPl (sMk (oPr σ p) ((pMk (oPr σ p)) + 1)) c)))) := by
  refine Xc.of (by decide) (by simp [Value.category]) (Nat.le_of_ble_eq_true rfl) ?_
  show Xw E m_N_mail 4 0 0 0 [some (.ref r), some (.int (nI p)), some (.int (nI 20)), some (.int (nI c)), some (.int b), none, none, none] [] (ov r h A) _
  have yp := y.2.2.2 p hp
  have hp12 := Nat.lt_of_lt_of_le hp v.1
  have vp := (v.2.2 p hp).L
  have hmk := (v.2.2 p hp).2.2.2.2.1
  have hml := vp.2.2.1.1
  refine x_aload_n d_N_mail_0 rfl rfl ?_
  refine n_fld (j := 8) d_N_mail_1 lf_N_31 nl (by decide) rfl rfl ?_
  refine x_iload_n d_N_mail_4 rfl rfl ?_
  refine n_ld (j := 8) (i := p) (n := 12) (v := (nI (pMk (oPr σ p)))) d_N_mail_5 nl (by decide) (by decide) rfl rfl (by omega) (by decide) yp.mk ?_
  refine x_aload_n d_N_mail_6 rfl rfl ?_
  refine n_fld (j := 9) d_N_mail_7 lf_N_34 nl (by decide) rfl rfl ?_
  refine x_iload_n d_N_mail_10 rfl rfl ?_
  refine n_ld (j := 9) (i := p) (n := 12) (v := (nI ((pMs (oPr σ p)).length))) d_N_mail_11 nl (by decide) (by decide) rfl rfl (by omega) (by decide) yp.ml ?_
  refine x_icmp_ge (tgt := 19) d_N_mail_12 rfl (fun w_ => absurd w_ (nI_ge hm (by omega))) (fun q12 => ?_)
  refine x_iconst (v := (nI 1)) d_N_mail_15 (by decide) ?_
  refine x_goto (tgt := 20) d_N_mail_16 rfl ?_
  refine x_istore d_N_mail_20 (by decide) (L' := [some (.ref r), some (.int (nI p)), some (.int (nI 20)), some (.int (nI c)), some (.int b), some (.int (nI 1)), none, none]) rfl ?_
  refine x_bipush (v := (nI 21)) d_N_mail_22 (by decide) ?_
  refine x_iload_n d_N_mail_24 rfl rfl ?_
  refine x_imul (v := (nI (21 * p))) d_N_mail_25 (pk_mul _ _) ?_
  refine x_bipush (v := (nI 9)) d_N_mail_26 (by decide) ?_
  refine x_iadd (v := (nI (21 * p + 9))) d_N_mail_28 (nI_add _ _) ?_
  refine x_aload_n d_N_mail_29 rfl rfl ?_
  refine n_fld (j := 8) d_N_mail_30 lf_N_31 nl (by decide) rfl rfl ?_
  refine x_iload_n d_N_mail_33 rfl rfl ?_
  refine n_ld (j := 8) (i := p) (n := 12) (v := (nI (pMk (oPr σ p)))) d_N_mail_34 nl (by decide) (by decide) rfl rfl (by omega) (by decide) yp.mk ?_
  refine x_iadd (v := (nI (21 * p + 9 + (pMk (oPr σ p))))) d_N_mail_35 (nI_add _ _) ?_
  refine x_istore d_N_mail_36 (by decide) (L' := [some (.ref r), some (.int (nI p)), some (.int (nI 20)), some (.int (nI c)), some (.int b), some (.int (nI 1)), some (.int (nI (21 * p + 9 + (pMk (oPr σ p))))), none]) rfl ?_
  refine x_iload_n d_N_mail_38 rfl rfl ?_
  refine x_bipush (v := (nI 17)) d_N_mail_39 (by decide) ?_
  refine x_icmp_ne (tgt := 79) d_N_mail_41 rfl (fun q41 => ?_) (fun w_ => absurd w_ (by decide))
  refine x_iload_n d_N_mail_79 rfl rfl ?_
  refine x_bipush (v := (nI 18)) d_N_mail_80 (by decide) ?_
  refine x_icmp_ne (tgt := 116) d_N_mail_82 rfl (fun q82 => ?_) (fun w_ => absurd w_ (by decide))
  refine x_iload_n d_N_mail_116 rfl rfl ?_
  refine x_bipush (v := (nI 19)) d_N_mail_117 (by decide) ?_
  refine x_icmp_ne (tgt := 204) d_N_mail_119 rfl (fun q119 => ?_) (fun w_ => absurd w_ (by decide))
  refine x_aload_n d_N_mail_204 rfl rfl ?_
  refine n_fld (j := 7) d_N_mail_205 lf_N_28 nl (by decide) rfl rfl ?_
  refine x_iload_n d_N_mail_208 rfl rfl ?_
  refine x_iload_n d_N_mail_209 rfl rfl ?_
  refine n_st (j := 7) (i := p) (n := 12) (v := (nI c)) d_N_mail_210 nl (by decide) (by decide) rfl rfl (by omega) (by decide) ?_
  refine x_aload_n d_N_mail_211 rfl rfl ?_
  refine n_fld (j := 8) d_N_mail_212 lf_N_31 nl (by decide) rfl rfl ?_
  refine x_iload_n d_N_mail_215 rfl rfl ?_
  refine x_iload_n d_N_mail_216 rfl rfl ?_
  refine x_bipush (v := (nI 20)) d_N_mail_217 (by decide) ?_
  refine x_icmp_ne (tgt := 233) d_N_mail_219 rfl (fun w_ => absurd (by decide) w_) (fun q219 => ?_)
  refine x_aload_n d_N_mail_222 rfl rfl ?_
  refine n_fld (j := 8) d_N_mail_223 lf_N_31 nl (by decide) rfl rfl ?_
  refine x_iload_n d_N_mail_226 rfl rfl ?_
  refine n_ld (j := 8) (i := p) (n := 12) (v := (nI (pMk (oPr σ p)))) d_N_mail_227 nl (by decide) (by decide) rfl rfl (by omega) (by decide) ((up_r (by decide)).trans yp.mk) ?_
  refine x_iconst (v := (nI 1)) d_N_mail_228 (by decide) ?_
  refine x_iadd (v := (nI (pMk (oPr σ p) + 1))) d_N_mail_229 (nI_add _ _) ?_
  refine x_goto (tgt := 239) d_N_mail_230 rfl ?_
  refine n_st (j := 8) (i := p) (n := 12) (v := (nI (pMk (oPr σ p) + 1))) d_N_mail_239 nl (by decide) (by decide) rfl rfl (by omega) (by decide) ?_
  refine x_iload_n d_N_mail_240 rfl rfl ?_
  refine x_bipush (v := (nI 21)) d_N_mail_241 (by decide) ?_
  refine x_icmp_ne (tgt := 263) d_N_mail_243 rfl (fun q243 => ?_) (fun w_ => absurd w_ (by decide))
  refine x_iconst (v := (nI 1)) d_N_mail_263 (by decide) ?_
  exact x_iret d_N_mail_264 rfl rfl ⟨rfl, _, rfl, u, y.setP v.L (((Chp.rf p A).up (Or.inl (Or.inr (Or.inr ⟨rfl, by decide⟩)))).up (Or.inl (Or.inr (Or.inr ⟨rfl, by decide⟩)))) ((yp.s_pl c).s_mk ((pMk (oPr σ p)) + 1)), HdX.setP rfl⟩
theorem n_ml200 {E : th_E} {h : th_H} {r : Nat} {A : Nat → Nat → Int32} (nl : NL r h) {N u : Nat} {σ : Ho} (y : NR A σ u) (v : vPs N σ) {p : Nat} (hp : p < oCt σ) (hN : N < 2 ^ 30) (hm : (pMs (oPr σ p)).length ≤ (pMk (oPr σ p))) {c : Nat} (b : Int32) : Xc E m_N_mail 4 0 0 [.ref r, .int (nI p), .int (nI 20), .int (nI c), .int b] (ov r h A) (Pn r h σ u p (some (sPr σ p (sPl (sMk (oPr σ p) ((pMk (oPr σ p)) + 1)) c)))) := by
  refine Xc.of (by decide) (by simp [Value.category]) (Nat.le_of_ble_eq_true rfl) ?_
  show Xw E m_N_mail 4 0 0 0 [some (.ref r), some (.int (nI p)), some (.int (nI 20)), some (.int (nI c)), some (.int b), none, none, none] [] (ov r h A) _
  have yp := y.2.2.2 p hp
  have hp12 := Nat.lt_of_lt_of_le hp v.1
  have vp := (v.2.2 p hp).L
  have hmk := (v.2.2 p hp).2.2.2.2.1
  have hml := vp.2.2.1.1
  refine x_aload_n d_N_mail_0 rfl rfl ?_
  refine n_fld (j := 8) d_N_mail_1 lf_N_31 nl (by decide) rfl rfl ?_
  refine x_iload_n d_N_mail_4 rfl rfl ?_
  refine n_ld (j := 8) (i := p) (n := 12) (v := (nI (pMk (oPr σ p)))) d_N_mail_5 nl (by decide) (by decide) rfl rfl (by omega) (by decide) yp.mk ?_
  refine x_aload_n d_N_mail_6 rfl rfl ?_
  refine n_fld (j := 9) d_N_mail_7 lf_N_34 nl (by decide) rfl rfl ?_
  refine x_iload_n d_N_mail_10 rfl rfl ?_
  refine n_ld (j := 9) (i := p) (n := 12) (v := (nI ((pMs (oPr σ p)).length))) d_N_mail_11 nl (by decide) (by decide) rfl rfl (by omega) (by decide) yp.ml ?_
  refine x_icmp_ge (tgt := 19) d_N_mail_12 rfl (fun q12 => ?_) (fun w_ => absurd (nI_le hm (by omega)) w_)
  refine x_iconst (v := (nI 0)) d_N_mail_19 (by decide) ?_
  refine x_istore d_N_mail_20 (by decide) (L' := [some (.ref r), some (.int (nI p)), some (.int (nI 20)), some (.int (nI c)), some (.int b), some (.int (nI 0)), none, none]) rfl ?_
  refine x_bipush (v := (nI 21)) d_N_mail_22 (by decide) ?_
  refine x_iload_n d_N_mail_24 rfl rfl ?_
  refine x_imul (v := (nI (21 * p))) d_N_mail_25 (pk_mul _ _) ?_
  refine x_bipush (v := (nI 9)) d_N_mail_26 (by decide) ?_
  refine x_iadd (v := (nI (21 * p + 9))) d_N_mail_28 (nI_add _ _) ?_
  refine x_aload_n d_N_mail_29 rfl rfl ?_
  refine n_fld (j := 8) d_N_mail_30 lf_N_31 nl (by decide) rfl rfl ?_
  refine x_iload_n d_N_mail_33 rfl rfl ?_
  refine n_ld (j := 8) (i := p) (n := 12) (v := (nI (pMk (oPr σ p)))) d_N_mail_34 nl (by decide) (by decide) rfl rfl (by omega) (by decide) yp.mk ?_
  refine x_iadd (v := (nI (21 * p + 9 + (pMk (oPr σ p))))) d_N_mail_35 (nI_add _ _) ?_
  refine x_istore d_N_mail_36 (by decide) (L' := [some (.ref r), some (.int (nI p)), some (.int (nI 20)), some (.int (nI c)), some (.int b), some (.int (nI 0)), some (.int (nI (21 * p + 9 + (pMk (oPr σ p))))), none]) rfl ?_
  refine x_iload_n d_N_mail_38 rfl rfl ?_
  refine x_bipush (v := (nI 17)) d_N_mail_39 (by decide) ?_
  refine x_icmp_ne (tgt := 79) d_N_mail_41 rfl (fun q41 => ?_) (fun w_ => absurd w_ (by decide))
  refine x_iload_n d_N_mail_79 rfl rfl ?_
  refine x_bipush (v := (nI 18)) d_N_mail_80 (by decide) ?_
  refine x_icmp_ne (tgt := 116) d_N_mail_82 rfl (fun q82 => ?_) (fun w_ => absurd w_ (by decide))
  refine x_iload_n d_N_mail_116 rfl rfl ?_
  refine x_bipush (v := (nI 19)) d_N_mail_117 (by decide) ?_
  refine x_icmp_ne (tgt := 204) d_N_mail_119 rfl (fun q119 => ?_) (fun w_ => absurd w_ (by decide))
  refine x_aload_n d_N_mail_204 rfl rfl ?_
  refine n_fld (j := 7) d_N_mail_205 lf_N_28 nl (by decide) rfl rfl ?_
  refine x_iload_n d_N_mail_208 rfl rfl ?_
  refine x_iload_n d_N_mail_209 rfl rfl ?_
  refine n_st (j := 7) (i := p) (n := 12) (v := (nI c)) d_N_mail_210 nl (by decide) (by decide) rfl rfl (by omega) (by decide) ?_
  refine x_aload_n d_N_mail_211 rfl rfl ?_
  refine n_fld (j := 8) d_N_mail_212 lf_N_31 nl (by decide) rfl rfl ?_
  refine x_iload_n d_N_mail_215 rfl rfl ?_
  refine x_iload_n d_N_mail_216 rfl rfl ?_
  refine x_bipush (v := (nI 20)) d_N_mail_217 (by decide) ?_
  refine x_icmp_ne (tgt := 233) d_N_mail_219 rfl (fun w_ => absurd (by decide) w_) (fun q219 => ?_)
  refine x_aload_n d_N_mail_222 rfl rfl ?_
  refine n_fld (j := 8) d_N_mail_223 lf_N_31 nl (by decide) rfl rfl ?_
  refine x_iload_n d_N_mail_226 rfl rfl ?_
  refine n_ld (j := 8) (i := p) (n := 12) (v := (nI (pMk (oPr σ p)))) d_N_mail_227 nl (by decide) (by decide) rfl rfl (by omega) (by decide) ((up_r (by decide)).trans yp.mk) ?_
  refine x_iconst (v := (nI 1)) d_N_mail_228 (by decide) ?_
  refine x_iadd (v := (nI (pMk (oPr σ p) + 1))) d_N_mail_229 (nI_add _ _) ?_
  refine x_goto (tgt := 239) d_N_mail_230 rfl ?_
  refine n_st (j := 8) (i := p) (n := 12) (v := (nI (pMk (oPr σ p) + 1))) d_N_mail_239 nl (by decide) (by decide) rfl rfl (by omega) (by decide) ?_
  refine x_iload_n d_N_mail_240 rfl rfl ?_
  refine x_bipush (v := (nI 21)) d_N_mail_241 (by decide) ?_
  refine x_icmp_ne (tgt := 263) d_N_mail_243 rfl (fun q243 => ?_) (fun w_ => absurd w_ (by decide))
  refine x_iconst (v := (nI 1)) d_N_mail_263 (by decide) ?_
  exact x_iret d_N_mail_264 rfl rfl ⟨rfl, _, rfl, u, y.setP v.L (((Chp.rf p A).up (Or.inl (Or.inr (Or.inr ⟨rfl, by decide⟩)))).up (Or.inl (Or.inr (Or.inr ⟨rfl, by decide⟩)))) ((yp.s_pl c).s_mk ((pMk (oPr σ p)) + 1)), HdX.setP rfl⟩
theorem n_ml21y {E : th_E} {h : th_H} {r : Nat} {A : Nat → Nat → Int32} (nl : NL r h) {N u : Nat} {σ : Ho} (y : NR A σ u) (v : vPs N σ) {p : Nat} (hp : p < oCt σ) (hN : N < 2 ^ 30) (hm : (pMk (oPr σ p)) < (pMs (oPr σ p)).length) {c : Nat} (b : Int32) : Xc E m_N_mail 4 0 0 [.ref r, .int (nI p), .int (nI 21), .int (nI c), .int b] (ov r h A) (Pn r h σ u p (some (sPr σ p (sPl (oPr σ p) c)))) := by
  refine Xc.of (by decide) (by simp [Value.category]) (Nat.le_of_ble_eq_true rfl) ?_
  show Xw E m_N_mail 4 0 0 0 [some (.ref r), some (.int (nI p)), some (.int (nI 21)), some (.int (nI c)), some (.int b), none, none, none] [] (ov r h A) _
  have yp := y.2.2.2 p hp
  have hp12 := Nat.lt_of_lt_of_le hp v.1
  have vp := (v.2.2 p hp).L
  have hmk := (v.2.2 p hp).2.2.2.2.1
  have hml := vp.2.2.1.1
  refine x_aload_n d_N_mail_0 rfl rfl ?_
  refine n_fld (j := 8) d_N_mail_1 lf_N_31 nl (by decide) rfl rfl ?_
  refine x_iload_n d_N_mail_4 rfl rfl ?_
  refine n_ld (j := 8) (i := p) (n := 12) (v := (nI (pMk (oPr σ p)))) d_N_mail_5 nl (by decide) (by decide) rfl rfl (by omega) (by decide) yp.mk ?_
  refine x_aload_n d_N_mail_6 rfl rfl ?_
  refine n_fld (j := 9) d_N_mail_7 lf_N_34 nl (by decide) rfl rfl ?_
  refine x_iload_n d_N_mail_10 rfl rfl ?_
  refine n_ld (j := 9) (i := p) (n := 12) (v := (nI ((pMs (oPr σ p)).length))) d_N_mail_11 nl (by decide) (by decide) rfl rfl (by omega) (by decide) yp.ml ?_
  refine x_icmp_ge (tgt := 19) d_N_mail_12 rfl (fun w_ => absurd w_ (nI_ge hm (by omega))) (fun q12 => ?_)
  refine x_iconst (v := (nI 1)) d_N_mail_15 (by decide) ?_
  refine x_goto (tgt := 20) d_N_mail_16 rfl ?_
  refine x_istore d_N_mail_20 (by decide) (L' := [some (.ref r), some (.int (nI p)), some (.int (nI 21)), some (.int (nI c)), some (.int b), some (.int (nI 1)), none, none]) rfl ?_
  refine x_bipush (v := (nI 21)) d_N_mail_22 (by decide) ?_
  refine x_iload_n d_N_mail_24 rfl rfl ?_
  refine x_imul (v := (nI (21 * p))) d_N_mail_25 (pk_mul _ _) ?_
  refine x_bipush (v := (nI 9)) d_N_mail_26 (by decide) ?_
  refine x_iadd (v := (nI (21 * p + 9))) d_N_mail_28 (nI_add _ _) ?_
  refine x_aload_n d_N_mail_29 rfl rfl ?_
  refine n_fld (j := 8) d_N_mail_30 lf_N_31 nl (by decide) rfl rfl ?_
  refine x_iload_n d_N_mail_33 rfl rfl ?_
  refine n_ld (j := 8) (i := p) (n := 12) (v := (nI (pMk (oPr σ p)))) d_N_mail_34 nl (by decide) (by decide) rfl rfl (by omega) (by decide) yp.mk ?_
  refine x_iadd (v := (nI (21 * p + 9 + (pMk (oPr σ p))))) d_N_mail_35 (nI_add _ _) ?_
  refine x_istore d_N_mail_36 (by decide) (L' := [some (.ref r), some (.int (nI p)), some (.int (nI 21)), some (.int (nI c)), some (.int b), some (.int (nI 1)), some (.int (nI (21 * p + 9 + (pMk (oPr σ p))))), none]) rfl ?_
  refine x_iload_n d_N_mail_38 rfl rfl ?_
  refine x_bipush (v := (nI 17)) d_N_mail_39 (by decide) ?_
  refine x_icmp_ne (tgt := 79) d_N_mail_41 rfl (fun q41 => ?_) (fun w_ => absurd w_ (by decide))
  refine x_iload_n d_N_mail_79 rfl rfl ?_
  refine x_bipush (v := (nI 18)) d_N_mail_80 (by decide) ?_
  refine x_icmp_ne (tgt := 116) d_N_mail_82 rfl (fun q82 => ?_) (fun w_ => absurd w_ (by decide))
  refine x_iload_n d_N_mail_116 rfl rfl ?_
  refine x_bipush (v := (nI 19)) d_N_mail_117 (by decide) ?_
  refine x_icmp_ne (tgt := 204) d_N_mail_119 rfl (fun q119 => ?_) (fun w_ => absurd w_ (by decide))
  refine x_aload_n d_N_mail_204 rfl rfl ?_
  refine n_fld (j := 7) d_N_mail_205 lf_N_28 nl (by decide) rfl rfl ?_
  refine x_iload_n d_N_mail_208 rfl rfl ?_
  refine x_iload_n d_N_mail_209 rfl rfl ?_
  refine n_st (j := 7) (i := p) (n := 12) (v := (nI c)) d_N_mail_210 nl (by decide) (by decide) rfl rfl (by omega) (by decide) ?_
  refine x_aload_n d_N_mail_211 rfl rfl ?_
  refine n_fld (j := 8) d_N_mail_212 lf_N_31 nl (by decide) rfl rfl ?_
  refine x_iload_n d_N_mail_215 rfl rfl ?_
  refine x_iload_n d_N_mail_216 rfl rfl ?_
  refine x_bipush (v := (nI 20)) d_N_mail_217 (by decide) ?_
  refine x_icmp_ne (tgt := 233) d_N_mail_219 rfl (fun q219 => ?_) (fun w_ => absurd w_ (by decide))
  refine x_aload_n d_N_mail_233 rfl rfl ?_
  refine n_fld (j := 8) d_N_mail_234 lf_N_31 nl (by decide) rfl rfl ?_
  refine x_iload_n d_N_mail_237 rfl rfl ?_
  refine n_ld (j := 8) (i := p) (n := 12) (v := (nI (pMk (oPr σ p)))) d_N_mail_238 nl (by decide) (by decide) rfl rfl (by omega) (by decide) ((up_r (by decide)).trans yp.mk) ?_
  refine n_st (j := 8) (i := p) (n := 12) (v := (nI (pMk (oPr σ p)))) d_N_mail_239 nl (by decide) (by decide) rfl rfl (by omega) (by decide) ?_
  have y2 : NR (up (up A 7 p (nI c)) 8 p (nI (pMk (oPr σ p)))) (sPr σ p (sPl (oPr σ p) c)) u := y.setP v.L (((Chp.rf p A).up (Or.inl (Or.inr (Or.inr ⟨rfl, by decide⟩)))).up (Or.inl (Or.inr (Or.inr ⟨rfl, by decide⟩)))) ((yp.s_pl c).s_mk (pMk (oPr σ p)))
  refine x_iload_n d_N_mail_240 rfl rfl ?_
  refine x_bipush (v := (nI 21)) d_N_mail_241 (by decide) ?_
  refine x_icmp_ne (tgt := 263) d_N_mail_243 rfl (fun w_ => absurd (by decide) w_) (fun q243 => ?_)
  refine x_iload d_N_mail_246 rfl ?_
  refine x_if_ne (tgt := 263) d_N_mail_248 rfl (fun q248 => ?_) (fun w_ => absurd w_ (by decide))
  refine x_iconst (v := (nI 1)) d_N_mail_263 (by decide) ?_
  exact x_iret d_N_mail_264 rfl rfl ⟨rfl, _, rfl, u, y2, HdX.setP rfl⟩
theorem n_ml21n {E : th_E} {h : th_H} {r : Nat} {A : Nat → Nat → Int32} (nl : NL r h) {N u : Nat} {σ : Ho} (y : NR A σ u) (v : vPs N σ) {p : Nat} (hp : p < oCt σ) (hN : N < 2 ^ 30) (hm : (pMs (oPr σ p)).length ≤ (pMk (oPr σ p))) {c : Nat} (b : Int32) (h3 : ¬ pSt (oPr σ p) = 3) : Xc E m_N_mail 4 0 0 [.ref r, .int (nI p), .int (nI 21), .int (nI c), .int b] (ov r h A) (Pn r h σ u p (some (sPr (suspendM σ p) p (sPl (oPr (suspendM σ p) p) c)))) := by
  refine Xc.of (by decide) (by simp [Value.category]) (Nat.le_of_ble_eq_true rfl) ?_
  show Xw E m_N_mail 4 0 0 0 [some (.ref r), some (.int (nI p)), some (.int (nI 21)), some (.int (nI c)), some (.int b), none, none, none] [] (ov r h A) _
  have yp := y.2.2.2 p hp
  have hp12 := Nat.lt_of_lt_of_le hp v.1
  have vp := (v.2.2 p hp).L
  have hmk := (v.2.2 p hp).2.2.2.2.1
  have hml := vp.2.2.1.1
  have suspE : leaveM (sPr σ p (sSt (sPl (oPr σ p) c) 2)) p = sPr (suspendM σ p) p (sPl (oPr (suspendM σ p) p) c) := by
    unfold suspendM leaveM
    refine Prod.ext rfl (Prod.ext rfl (Prod.ext rfl (Prod.ext rfl (Prod.ext rfl ?_))))
    funext x
    show va_up (oPr σ) p _ x = va_up (va_up (oPr σ) p _) p (sPl (va_up (oPr σ) p _ p) c) x
    rw [va_up_self]
    by_cases hx : x = p
    · rw [hx, va_up_self, va_up_self]
    · rw [va_up_ne _ _ hx, va_up_ne _ _ hx, va_up_ne _ _ hx]
  have suspH : HdX p σ u (sPr (suspendM σ p) p (sPl (oPr (suspendM σ p) p) c)) (luM (sPr σ p (sSt (sPl (oPr σ p) c) 2)) p u) := fun U hh => by
    rw [← suspE]
    rcases hh with ⟨a1, a2, a3⟩ | ⟨a1, a2⟩
    · refine Or.inr ⟨?_, if_pos a1⟩
      show pSt (va_up (oPr σ) p _ p) = 2
      rw [va_up_self]
    · exact absurd a1 h3
  refine x_aload_n d_N_mail_0 rfl rfl ?_
  refine n_fld (j := 8) d_N_mail_1 lf_N_31 nl (by decide) rfl rfl ?_
  refine x_iload_n d_N_mail_4 rfl rfl ?_
  refine n_ld (j := 8) (i := p) (n := 12) (v := (nI (pMk (oPr σ p)))) d_N_mail_5 nl (by decide) (by decide) rfl rfl (by omega) (by decide) yp.mk ?_
  refine x_aload_n d_N_mail_6 rfl rfl ?_
  refine n_fld (j := 9) d_N_mail_7 lf_N_34 nl (by decide) rfl rfl ?_
  refine x_iload_n d_N_mail_10 rfl rfl ?_
  refine n_ld (j := 9) (i := p) (n := 12) (v := (nI ((pMs (oPr σ p)).length))) d_N_mail_11 nl (by decide) (by decide) rfl rfl (by omega) (by decide) yp.ml ?_
  refine x_icmp_ge (tgt := 19) d_N_mail_12 rfl (fun q12 => ?_) (fun w_ => absurd (nI_le hm (by omega)) w_)
  refine x_iconst (v := (nI 0)) d_N_mail_19 (by decide) ?_
  refine x_istore d_N_mail_20 (by decide) (L' := [some (.ref r), some (.int (nI p)), some (.int (nI 21)), some (.int (nI c)), some (.int b), some (.int (nI 0)), none, none]) rfl ?_
  refine x_bipush (v := (nI 21)) d_N_mail_22 (by decide) ?_
  refine x_iload_n d_N_mail_24 rfl rfl ?_
  refine x_imul (v := (nI (21 * p))) d_N_mail_25 (pk_mul _ _) ?_
  refine x_bipush (v := (nI 9)) d_N_mail_26 (by decide) ?_
  refine x_iadd (v := (nI (21 * p + 9))) d_N_mail_28 (nI_add _ _) ?_
  refine x_aload_n d_N_mail_29 rfl rfl ?_
  refine n_fld (j := 8) d_N_mail_30 lf_N_31 nl (by decide) rfl rfl ?_
  refine x_iload_n d_N_mail_33 rfl rfl ?_
  refine n_ld (j := 8) (i := p) (n := 12) (v := (nI (pMk (oPr σ p)))) d_N_mail_34 nl (by decide) (by decide) rfl rfl (by omega) (by decide) yp.mk ?_
  refine x_iadd (v := (nI (21 * p + 9 + (pMk (oPr σ p))))) d_N_mail_35 (nI_add _ _) ?_
  refine x_istore d_N_mail_36 (by decide) (L' := [some (.ref r), some (.int (nI p)), some (.int (nI 21)), some (.int (nI c)), some (.int b), some (.int (nI 0)), some (.int (nI (21 * p + 9 + (pMk (oPr σ p))))), none]) rfl ?_
  refine x_iload_n d_N_mail_38 rfl rfl ?_
  refine x_bipush (v := (nI 17)) d_N_mail_39 (by decide) ?_
  refine x_icmp_ne (tgt := 79) d_N_mail_41 rfl (fun q41 => ?_) (fun w_ => absurd w_ (by decide))
  refine x_iload_n d_N_mail_79 rfl rfl ?_
  refine x_bipush (v := (nI 18)) d_N_mail_80 (by decide) ?_
  refine x_icmp_ne (tgt := 116) d_N_mail_82 rfl (fun q82 => ?_) (fun w_ => absurd w_ (by decide))
  refine x_iload_n d_N_mail_116 rfl rfl ?_
  refine x_bipush (v := (nI 19)) d_N_mail_117 (by decide) ?_
  refine x_icmp_ne (tgt := 204) d_N_mail_119 rfl (fun q119 => ?_) (fun w_ => absurd w_ (by decide))
  refine x_aload_n d_N_mail_204 rfl rfl ?_
  refine n_fld (j := 7) d_N_mail_205 lf_N_28 nl (by decide) rfl rfl ?_
  refine x_iload_n d_N_mail_208 rfl rfl ?_
  refine x_iload_n d_N_mail_209 rfl rfl ?_
  refine n_st (j := 7) (i := p) (n := 12) (v := (nI c)) d_N_mail_210 nl (by decide) (by decide) rfl rfl (by omega) (by decide) ?_
  refine x_aload_n d_N_mail_211 rfl rfl ?_
  refine n_fld (j := 8) d_N_mail_212 lf_N_31 nl (by decide) rfl rfl ?_
  refine x_iload_n d_N_mail_215 rfl rfl ?_
  refine x_iload_n d_N_mail_216 rfl rfl ?_
  refine x_bipush (v := (nI 20)) d_N_mail_217 (by decide) ?_
  refine x_icmp_ne (tgt := 233) d_N_mail_219 rfl (fun q219 => ?_) (fun w_ => absurd w_ (by decide))
  refine x_aload_n d_N_mail_233 rfl rfl ?_
  refine n_fld (j := 8) d_N_mail_234 lf_N_31 nl (by decide) rfl rfl ?_
  refine x_iload_n d_N_mail_237 rfl rfl ?_
  refine n_ld (j := 8) (i := p) (n := 12) (v := (nI (pMk (oPr σ p)))) d_N_mail_238 nl (by decide) (by decide) rfl rfl (by omega) (by decide) ((up_r (by decide)).trans yp.mk) ?_
  refine n_st (j := 8) (i := p) (n := 12) (v := (nI (pMk (oPr σ p)))) d_N_mail_239 nl (by decide) (by decide) rfl rfl (by omega) (by decide) ?_
  have y2 : NR (up (up A 7 p (nI c)) 8 p (nI (pMk (oPr σ p)))) (sPr σ p (sPl (oPr σ p) c)) u := y.setP v.L (((Chp.rf p A).up (Or.inl (Or.inr (Or.inr ⟨rfl, by decide⟩)))).up (Or.inl (Or.inr (Or.inr ⟨rfl, by decide⟩)))) ((yp.s_pl c).s_mk (pMk (oPr σ p)))
  refine x_iload_n d_N_mail_240 rfl rfl ?_
  refine x_bipush (v := (nI 21)) d_N_mail_241 (by decide) ?_
  refine x_icmp_ne (tgt := 263) d_N_mail_243 rfl (fun w_ => absurd (by decide) w_) (fun q243 => ?_)
  refine x_iload d_N_mail_246 rfl ?_
  refine x_if_ne (tgt := 263) d_N_mail_248 rfl (fun w_ => absurd (by decide) w_) (fun q248 => ?_)
  refine x_aload_n d_N_mail_251 rfl rfl ?_
  refine n_fld (j := 6) d_N_mail_252 lf_N_25 nl (by decide) rfl rfl ?_
  refine x_iload_n d_N_mail_255 rfl rfl ?_
  refine x_iconst (v := (nI 2)) d_N_mail_256 (by decide) ?_
  refine n_st (j := 6) (i := p) (n := 12) (v := (nI 2)) d_N_mail_257 nl (by decide) (by decide) rfl rfl (by omega) (by decide) ?_
  have y3 : NR (up (up (up A 7 p (nI c)) 8 p (nI (pMk (oPr σ p)))) 6 p (nI 2)) (sPr σ p (sSt (sPl (oPr σ p) c) 2)) u := y.setP v.L ((((Chp.rf p A).up (Or.inl (Or.inr (Or.inr ⟨rfl, by decide⟩)))).up (Or.inl (Or.inr (Or.inr ⟨rfl, by decide⟩)))).up (Or.inl (Or.inr (Or.inr ⟨rfl, by decide⟩)))) (((yp.s_pl c).s_mk (pMk (oPr σ p))).s_st 2)
  have vq : vQ (sPr σ p (sSt (sPl (oPr σ p) c) 2)) := ⟨v.Q.1, v.Q.2.1, v.Q.2.2.1, v.L.setP vp⟩
  refine x_aload_n d_N_mail_258 rfl rfl ?_
  refine x_iload_n d_N_mail_259 rfl rfl ?_
  refine x_invv d_N_mail_260 lm_N_125 (as := [.int (nI p)]) (S := []) (cz' := 0) (cs' := 0) (c_N_leave nl y3 vq (by omega)) nl.o rfl rfl rfl (Nat.le_of_ble_eq_true rfl) (by omega) (by decide) (by decide) ?_
  rintro _ _ ⟨rfl, A4, rfl, y4, e4⟩
  refine x_iconst (v := (nI 1)) d_N_mail_263 (by decide) ?_
  exact x_iret d_N_mail_264 rfl rfl ⟨rfl, A4, rfl, _, suspE ▸ y4, suspH⟩
