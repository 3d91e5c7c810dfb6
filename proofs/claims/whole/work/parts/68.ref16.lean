/-! The reference: queue, process (printed by wip/gen/mod_ref16.py). -/
theorem c_N_queue {E : th_E} {h : th_H} {r : Nat} {A : Nat → Nat → Int32} (nl : NL r h) {N u : Nat} {σ : Ho} (y : NR A σ u) (v : vPs N σ) {j x : Nat} (hj : j < (oQu σ).length) (hx : (oQu σ)[j]? = some x) : Xc E m_N_queue 1 0 0 [.ref r, .int (nI j)] (ov r h A) (Ex (some (.int (nI x))) (ov r h A)) := by
  refine Xc.of (by decide) (by simp [Value.category]) (Nat.le_of_ble_eq_true rfl) ?_
  show Xw E m_N_queue 1 0 0 0 [some (.ref r), some (.int (nI j))] [] (ov r h A) _
  have hlen := v.len
  refine x_iload_n d_N_queue_0 rfl rfl ?_
  refine x_iconst (v := (nI 0)) d_N_queue_1 (by decide) ?_
  refine x_aload_n d_N_queue_2 rfl rfl ?_
  refine n_get (v := (nI ((oQu σ).length))) d_N_queue_3 lf_N_101 nl rfl y.2.2.1.1 ?_
  refine x_iconst (v := (nI 1)) d_N_queue_6 (by decide) ?_
  refine x_isub (v := (nI ((oQu σ).length) - nI 1)) d_N_queue_7 rfl ?_
  refine x_invs d_N_queue_8 lm_N_81 (as := [.int (nI j), .int (nI 0), .int (nI ((oQu σ).length) - nI 1)]) (S := []) (cz' := 0) (cs' := 0) (c_N_in _ _ _) rfl rfl (Nat.le_of_ble_eq_true rfl) (by omega) (by decide) (by decide) ?_
  rintro _ _ ⟨rfl, rfl⟩
  refine x_if_eq (tgt := 23) d_N_queue_11 rfl (fun w_ => absurd w_ (fun z => iB_0.mp z ((in_ct (by omega)).mpr ⟨nI_pos (by omega), nI_lt hj (by omega)⟩))) (fun q11 => ?_)
  refine x_aload_n d_N_queue_14 rfl rfl ?_
  refine n_fld (j := 15) d_N_queue_15 lf_N_53 nl (by decide) rfl rfl ?_
  refine x_iload_n d_N_queue_18 rfl rfl ?_
  refine n_ld (j := 15) (i := j) (n := 12) (v := (nI x)) d_N_queue_19 nl (by decide) (by decide) rfl rfl (by omega) (by decide) (y.2.2.1.2 j x hx) ?_
  refine x_goto (tgt := 24) d_N_queue_20 rfl ?_
  exact x_iret d_N_queue_24 rfl rfl ⟨rfl, rfl⟩
theorem c_N_queue_no {E : th_E} {h : th_H} {r : Nat} {A : Nat → Nat → Int32} (nl : NL r h) {N u : Nat} {σ : Ho} (y : NR A σ u) (v : vPs N σ) {x : Int32} (hx : ¬ (¬ x < 0 ∧ x < nI (oQu σ).length)) : Xc E m_N_queue 1 0 0 [.ref r, .int x] (ov r h A) (Ex (some (.int (-1))) (ov r h A)) := by
  refine Xc.of (by decide) (by simp [Value.category]) (Nat.le_of_ble_eq_true rfl) ?_
  show Xw E m_N_queue 1 0 0 0 [some (.ref r), some (.int x)] [] (ov r h A) _
  refine x_iload_n d_N_queue_0 rfl rfl ?_
  refine x_iconst (v := (nI 0)) d_N_queue_1 (by decide) ?_
  refine x_aload_n d_N_queue_2 rfl rfl ?_
  refine n_get (v := (nI ((oQu σ).length))) d_N_queue_3 lf_N_101 nl rfl y.2.2.1.1 ?_
  refine x_iconst (v := (nI 1)) d_N_queue_6 (by decide) ?_
  refine x_isub (v := (nI ((oQu σ).length) - nI 1)) d_N_queue_7 rfl ?_
  refine x_invs d_N_queue_8 lm_N_81 (as := [.int x, .int (nI 0), .int (nI ((oQu σ).length) - nI 1)]) (S := []) (cz' := 0) (cs' := 0) (c_N_in _ _ _) rfl rfl (Nat.le_of_ble_eq_true rfl) (by omega) (by decide) (by decide) ?_
  rintro _ _ ⟨rfl, rfl⟩
  refine x_if_eq (tgt := 23) d_N_queue_11 rfl (fun q11 => ?_) (fun w_ => absurd (iB_f (fun z => hx ((in_ct (by have := v.len; omega)).mp z))) w_)
  refine x_iconst (v := (-1)) d_N_queue_23 (by decide) ?_
  exact x_iret d_N_queue_24 rfl rfl ⟨rfl, rfl⟩
theorem c_N_process_no {E : th_E} {h : th_H} {r : Nat} {A : Nat → Nat → Int32} (nl : NL r h) {N u : Nat} {σ : Ho} (y : NR A σ u) (v : vPs N σ) {x : Int32} (w : Int32) (hx : ¬ (¬ x < 0 ∧ x < nI (oCt σ))) : Xc E m_N_process 1 0 0 [.ref r, .int x, .int w] (ov r h A) (Ex (some (.int (-1))) (ov r h A)) := by
  refine Xc.of (by decide) (by simp [Value.category]) (Nat.le_of_ble_eq_true rfl) ?_
  show Xw E m_N_process 1 0 0 0 [some (.ref r), some (.int x), some (.int w)] [] (ov r h A) _
  refine x_iload_n d_N_process_0 rfl rfl ?_
  refine x_iconst (v := (nI 0)) d_N_process_1 (by decide) ?_
  refine x_aload_n d_N_process_2 rfl rfl ?_
  refine n_get (v := (nI (oCt σ))) d_N_process_3 lf_N_131 nl rfl y.1.2.2.1 ?_
  refine x_iconst (v := (nI 1)) d_N_process_6 (by decide) ?_
  refine x_isub (v := (nI (oCt σ) - nI 1)) d_N_process_7 rfl ?_
  refine x_invs d_N_process_8 lm_N_81 (as := [.int x, .int (nI 0), .int (nI (oCt σ) - nI 1)]) (S := []) (cz' := 0) (cs' := 0) (c_N_in _ _ _) rfl rfl (Nat.le_of_ble_eq_true rfl) (by omega) (by decide) (by decide) ?_
  rintro _ _ ⟨rfl, rfl⟩
  refine x_if_ne (tgt := 16) d_N_process_11 rfl (fun w_ => absurd (iB_f (fun z => hx ((in_ct (by have := v.1; omega)).mp z))) w_) (fun q11 => ?_)
  refine x_iconst (v := (-1)) d_N_process_14 (by decide) ?_
  exact x_iret d_N_process_15 rfl rfl ⟨rfl, rfl⟩
theorem c_N_process {E : th_E} {h : th_H} {r : Nat} {A : Nat → Nat → Int32} (nl : NL r h) {N u : Nat} {σ : Ho} (y : NR A σ u) (v : vPs N σ) {p : Nat} (hp : p < oCt σ) (w : Int32) : Xc E m_N_process 1 0 0 [.ref r, .int (nI p), .int w] (ov r h A) (Ex (some (.int (ansM (oPr σ p) w))) (ov r h A)) := by
  refine Xc.of (by decide) (by simp [Value.category]) (Nat.le_of_ble_eq_true rfl) ?_
  show Xw E m_N_process 1 0 0 0 [some (.ref r), some (.int (nI p)), some (.int w)] [] (ov r h A) _
  have hct := v.1
  have yp := y.2.2.2 p hp
  refine x_iload_n d_N_process_0 rfl rfl ?_
  refine x_iconst (v := (nI 0)) d_N_process_1 (by decide) ?_
  refine x_aload_n d_N_process_2 rfl rfl ?_
  refine n_get (v := (nI (oCt σ))) d_N_process_3 lf_N_131 nl rfl y.1.2.2.1 ?_
  refine x_iconst (v := (nI 1)) d_N_process_6 (by decide) ?_
  refine x_isub (v := (nI (oCt σ) - nI 1)) d_N_process_7 rfl ?_
  refine x_invs d_N_process_8 lm_N_81 (as := [.int (nI p), .int (nI 0), .int (nI (oCt σ) - nI 1)]) (S := []) (cz' := 0) (cs' := 0) (c_N_in _ _ _) rfl rfl (Nat.le_of_ble_eq_true rfl) (by omega) (by decide) (by decide) ?_
  rintro _ _ ⟨rfl, rfl⟩
  refine x_if_ne (tgt := 16) d_N_process_11 rfl (fun q11 => ?_) (fun w_ => absurd w_ (fun z => iB_0.mp z ((in_ct (by omega)).mpr ⟨nI_pos (by omega), nI_lt hp (by omega)⟩)))
  refine x_iload_n d_N_process_16 rfl rfl ?_
  refine x_iconst (v := (nI 4)) d_N_process_17 (by decide) ?_
  refine x_icmp_ge (tgt := 78) d_N_process_18 rfl (fun q18 => ?_) (fun q18 => ?_)
  · refine x_iload_n d_N_process_78 rfl rfl ?_
    refine x_iconst (v := (nI 4)) d_N_process_79 (by decide) ?_
    refine x_icmp_ne (tgt := 92) d_N_process_80 rfl (fun q80 => ?_) (fun q80 => ?_)
    · refine x_iload_n d_N_process_92 rfl rfl ?_
      refine x_iconst (v := (nI 5)) d_N_process_93 (by decide) ?_
      refine x_icmp_ne (tgt := 106) d_N_process_94 rfl (fun q94 => ?_) (fun q94 => ?_)
      · refine x_iload_n d_N_process_106 rfl rfl ?_
        refine x_bipush (v := (nI 6)) d_N_process_107 (by decide) ?_
        refine x_icmp_ne (tgt := 129) d_N_process_109 rfl (fun q109 => ?_) (fun q109 => ?_)
        · refine x_iload_n d_N_process_129 rfl rfl ?_
          refine x_bipush (v := (nI 7)) d_N_process_130 (by decide) ?_
          refine x_icmp_ne (tgt := 144) d_N_process_132 rfl (fun q132 => ?_) (fun q132 => ?_)
          · refine x_iconst (v := (-1)) d_N_process_144 (by decide) ?_
            exact x_iret d_N_process_145 rfl rfl ⟨by rw [show ansM (oPr σ p) w = -1 by unfold ansM; rw [if_neg (show ¬ w = 0 from fun z => absurd q18 (by rw [z]; decide)), if_neg (show ¬ w = 1 from fun z => absurd q18 (by rw [z]; decide)), if_neg (show ¬ w = 2 from fun z => absurd q18 (by rw [z]; decide)), if_neg (show ¬ w = 3 from fun z => absurd q18 (by rw [z]; decide)), if_neg (show ¬ w = 4 from q80), if_neg (show ¬ w = 5 from q94), if_neg (show ¬ w = 6 from q109), if_neg (show ¬ w = 7 from q132)]], rfl⟩
          · refine x_aload_n d_N_process_135 rfl rfl ?_
            refine n_fld (j := 14) d_N_process_136 lf_N_50 nl (by decide) rfl rfl ?_
            refine x_iload_n d_N_process_139 rfl rfl ?_
            refine n_ld (j := 14) (i := p) (n := 12) (v := (pDn (oPr σ p))) d_N_process_140 nl (by decide) (by decide) rfl rfl (by omega) (by decide) yp.dn ?_
            refine x_goto (tgt := 145) d_N_process_141 rfl ?_
            exact x_iret d_N_process_145 rfl rfl ⟨by rw [show ansM (oPr σ p) w = (pDn (oPr σ p)) by unfold ansM; rw [if_neg (show ¬ w = 0 from fun z => absurd q18 (by rw [z]; decide)), if_neg (show ¬ w = 1 from fun z => absurd q18 (by rw [z]; decide)), if_neg (show ¬ w = 2 from fun z => absurd q18 (by rw [z]; decide)), if_neg (show ¬ w = 3 from fun z => absurd q18 (by rw [z]; decide)), if_neg (show ¬ w = 4 from q80), if_neg (show ¬ w = 5 from q94), if_neg (show ¬ w = 6 from q109), if_pos (show w = 7 from q132)]], rfl⟩
        · refine x_aload_n d_N_process_112 rfl rfl ?_
          refine n_fld (j := 13) d_N_process_113 lf_N_46 nl (by decide) rfl rfl ?_
          refine x_iload_n d_N_process_116 rfl rfl ?_
          refine n_zld (i := p) (v := (if pTr (oPr σ p) = true then 1 else 0)) d_N_process_117 nl (by omega) yp.tr ?_
          refine x_if_eq (tgt := 125) d_N_process_118 rfl (fun q118 => ?_) (fun q118 => ?_)
          · have htr : ¬ pTr (oPr σ p) = true := fun z => by rw [if_pos z] at q118; exact absurd q118 (by decide)
            refine x_iconst (v := (nI 0)) d_N_process_125 (by decide) ?_
            refine x_goto (tgt := 145) d_N_process_126 rfl ?_
            exact x_iret d_N_process_145 rfl rfl ⟨by rw [show ansM (oPr σ p) w = (nI 0) by unfold ansM; rw [if_neg (show ¬ w = 0 from fun z => absurd q18 (by rw [z]; decide)), if_neg (show ¬ w = 1 from fun z => absurd q18 (by rw [z]; decide)), if_neg (show ¬ w = 2 from fun z => absurd q18 (by rw [z]; decide)), if_neg (show ¬ w = 3 from fun z => absurd q18 (by rw [z]; decide)), if_neg (show ¬ w = 4 from q80), if_neg (show ¬ w = 5 from q94), if_pos (show w = 6 from q109)]; exact (by rw [if_neg htr]; rfl)], rfl⟩
          · have htr : pTr (oPr σ p) = true := by by_cases z : pTr (oPr σ p) = true; exact z; exact absurd (if_neg z) q118
            refine x_iconst (v := (nI 1)) d_N_process_121 (by decide) ?_
            refine x_goto (tgt := 145) d_N_process_122 rfl ?_
            exact x_iret d_N_process_145 rfl rfl ⟨by rw [show ansM (oPr σ p) w = (nI 1) by unfold ansM; rw [if_neg (show ¬ w = 0 from fun z => absurd q18 (by rw [z]; decide)), if_neg (show ¬ w = 1 from fun z => absurd q18 (by rw [z]; decide)), if_neg (show ¬ w = 2 from fun z => absurd q18 (by rw [z]; decide)), if_neg (show ¬ w = 3 from fun z => absurd q18 (by rw [z]; decide)), if_neg (show ¬ w = 4 from q80), if_neg (show ¬ w = 5 from q94), if_pos (show w = 6 from q109)]; exact (by rw [if_pos htr]; rfl)], rfl⟩
      · refine x_aload_n d_N_process_97 rfl rfl ?_
        refine n_fld (j := 12) d_N_process_98 lf_N_43 nl (by decide) rfl rfl ?_
        refine x_iload_n d_N_process_101 rfl rfl ?_
        refine n_ld (j := 12) (i := p) (n := 12) (v := (pLk (oPr σ p))) d_N_process_102 nl (by decide) (by decide) rfl rfl (by omega) (by decide) yp.lk ?_
        refine x_goto (tgt := 145) d_N_process_103 rfl ?_
        exact x_iret d_N_process_145 rfl rfl ⟨by rw [show ansM (oPr σ p) w = (pLk (oPr σ p)) by unfold ansM; rw [if_neg (show ¬ w = 0 from fun z => absurd q18 (by rw [z]; decide)), if_neg (show ¬ w = 1 from fun z => absurd q18 (by rw [z]; decide)), if_neg (show ¬ w = 2 from fun z => absurd q18 (by rw [z]; decide)), if_neg (show ¬ w = 3 from fun z => absurd q18 (by rw [z]; decide)), if_neg (show ¬ w = 4 from q80), if_pos (show w = 5 from q94)]], rfl⟩
    · refine x_aload_n d_N_process_83 rfl rfl ?_
      refine n_fld (j := 10) d_N_process_84 lf_N_37 nl (by decide) rfl rfl ?_
      refine x_iload_n d_N_process_87 rfl rfl ?_
      refine n_ld (j := 10) (i := p) (n := 12) (v := (nI (pRe (oPr σ p)).length)) d_N_process_88 nl (by decide) (by decide) rfl rfl (by omega) (by decide) yp.rl ?_
      refine x_goto (tgt := 145) d_N_process_89 rfl ?_
      exact x_iret d_N_process_145 rfl rfl ⟨by rw [show ansM (oPr σ p) w = (nI (pRe (oPr σ p)).length) by unfold ansM; rw [if_neg (show ¬ w = 0 from fun z => absurd q18 (by rw [z]; decide)), if_neg (show ¬ w = 1 from fun z => absurd q18 (by rw [z]; decide)), if_neg (show ¬ w = 2 from fun z => absurd q18 (by rw [z]; decide)), if_neg (show ¬ w = 3 from fun z => absurd q18 (by rw [z]; decide)), if_pos (show w = 4 from q80)]], rfl⟩
  · refine x_iload_n d_N_process_21 rfl rfl ?_
    refine x_if_ne (tgt := 34) d_N_process_22 rfl (fun q22 => ?_) (fun q22 => ?_)
    · refine x_iload_n d_N_process_34 rfl rfl ?_
      refine x_iconst (v := (nI 1)) d_N_process_35 (by decide) ?_
      refine x_icmp_ne (tgt := 48) d_N_process_36 rfl (fun q36 => ?_) (fun q36 => ?_)
      · refine x_iload_n d_N_process_48 rfl rfl ?_
        refine x_iconst (v := (nI 2)) d_N_process_49 (by decide) ?_
        refine x_icmp_ne (tgt := 62) d_N_process_50 rfl (fun q50 => ?_) (fun q50 => ?_)
        · refine x_iload_n d_N_process_62 rfl rfl ?_
          refine x_iconst (v := (nI 3)) d_N_process_63 (by decide) ?_
          refine x_icmp_ne (tgt := 76) d_N_process_64 rfl (fun q64 => ?_) (fun q64 => ?_)
          · refine x_iconst (v := (-1)) d_N_process_76 (by decide) ?_
            exact x_iret d_N_process_77 rfl rfl ⟨by rw [show ansM (oPr σ p) w = -1 by unfold ansM; rw [if_neg (show ¬ w = 0 from q22), if_neg (show ¬ w = 1 from q36), if_neg (show ¬ w = 2 from q50), if_neg (show ¬ w = 3 from q64), if_neg (show ¬ w = 4 from fun z => q18 (by rw [z]; decide)), if_neg (show ¬ w = 5 from fun z => q18 (by rw [z]; decide)), if_neg (show ¬ w = 6 from fun z => q18 (by rw [z]; decide)), if_neg (show ¬ w = 7 from fun z => q18 (by rw [z]; decide))]], rfl⟩
          · refine x_aload_n d_N_process_67 rfl rfl ?_
            refine n_fld (j := 9) d_N_process_68 lf_N_34 nl (by decide) rfl rfl ?_
            refine x_iload_n d_N_process_71 rfl rfl ?_
            refine n_ld (j := 9) (i := p) (n := 12) (v := (nI (pMs (oPr σ p)).length)) d_N_process_72 nl (by decide) (by decide) rfl rfl (by omega) (by decide) yp.ml ?_
            refine x_goto (tgt := 77) d_N_process_73 rfl ?_
            exact x_iret d_N_process_77 rfl rfl ⟨by rw [show ansM (oPr σ p) w = (nI (pMs (oPr σ p)).length) by unfold ansM; rw [if_neg (show ¬ w = 0 from q22), if_neg (show ¬ w = 1 from q36), if_neg (show ¬ w = 2 from q50), if_pos (show w = 3 from q64)]], rfl⟩
        · refine x_aload_n d_N_process_53 rfl rfl ?_
          refine n_fld (j := 8) d_N_process_54 lf_N_31 nl (by decide) rfl rfl ?_
          refine x_iload_n d_N_process_57 rfl rfl ?_
          refine n_ld (j := 8) (i := p) (n := 12) (v := (nI (pMk (oPr σ p)))) d_N_process_58 nl (by decide) (by decide) rfl rfl (by omega) (by decide) yp.mk ?_
          refine x_goto (tgt := 77) d_N_process_59 rfl ?_
          exact x_iret d_N_process_77 rfl rfl ⟨by rw [show ansM (oPr σ p) w = (nI (pMk (oPr σ p))) by unfold ansM; rw [if_neg (show ¬ w = 0 from q22), if_neg (show ¬ w = 1 from q36), if_pos (show w = 2 from q50)]], rfl⟩
      · refine x_aload_n d_N_process_39 rfl rfl ?_
        refine n_fld (j := 7) d_N_process_40 lf_N_28 nl (by decide) rfl rfl ?_
        refine x_iload_n d_N_process_43 rfl rfl ?_
        refine n_ld (j := 7) (i := p) (n := 12) (v := (nI (pPl (oPr σ p)))) d_N_process_44 nl (by decide) (by decide) rfl rfl (by omega) (by decide) yp.pl ?_
        refine x_goto (tgt := 77) d_N_process_45 rfl ?_
        exact x_iret d_N_process_77 rfl rfl ⟨by rw [show ansM (oPr σ p) w = (nI (pPl (oPr σ p))) by unfold ansM; rw [if_neg (show ¬ w = 0 from q22), if_pos (show w = 1 from q36)]], rfl⟩
    · refine x_aload_n d_N_process_25 rfl rfl ?_
      refine n_fld (j := 6) d_N_process_26 lf_N_25 nl (by decide) rfl rfl ?_
      refine x_iload_n d_N_process_29 rfl rfl ?_
      refine n_ld (j := 6) (i := p) (n := 12) (v := (nI (pSt (oPr σ p)))) d_N_process_30 nl (by decide) (by decide) rfl rfl (by omega) (by decide) yp.st ?_
      refine x_goto (tgt := 77) d_N_process_31 rfl ?_
      exact x_iret d_N_process_77 rfl rfl ⟨by rw [show ansM (oPr σ p) w = (nI (pSt (oPr σ p))) by unfold ansM; rw [if_pos (show w = 0 from q22)]], rfl⟩
