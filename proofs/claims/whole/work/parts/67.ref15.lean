/-! The reference: begin, tell, clear, processes (printed by wip/gen/mod_ref15.py). -/
theorem c_N_begin {E : th_E} {h : th_H} {r : Nat} {A : Nat → Nat → Int32} (nl : NL r h) {N u : Nat} {σ : Ho} (y : NR A σ u) (v : vPs N σ) {l : Nat} (n : Int32) (hl : l < 48) (hc : oCt σ < 12) : Xc E m_N_begin 2 0 0 [.ref r, .int (nI l), .int n] (ov r h A) (Nx r h (some (.int (nI (oCt σ)))) (fun A' => NR A' (startM σ l (.leaf (0, n))) u)) := by
  refine Xc.of (by decide) (by simp [Value.category]) (Nat.le_of_ble_eq_true rfl) ?_
  show Xw E m_N_begin 2 0 0 0 [some (.ref r), some (.int (nI l)), some (.int n)] [] (ov r h A) _
  refine x_iload_n d_N_begin_0 rfl rfl ?_
  refine x_iconst (v := (nI 0)) d_N_begin_1 (by decide) ?_
  refine x_bipush (v := (nI 47)) d_N_begin_2 (by decide) ?_
  refine x_invs d_N_begin_4 lm_N_81 (as := [.int (nI l), .int (nI 0), .int (nI 47)]) (S := []) (cz' := 0) (cs' := 0) (c_N_in _ _ _) rfl rfl (Nat.le_of_ble_eq_true rfl) (by omega) (by decide) (by decide) ?_
  rintro _ _ ⟨rfl, rfl⟩
  refine x_if_eq (tgt := 19) d_N_begin_7 rfl (fun w_ => absurd w_ (fun z => iB_0.mp z ⟨nI_le (Nat.zero_le _) (by omega), nI_le (b := 47) (by omega) (by decide)⟩)) (fun q7 => ?_)
  refine x_aload_n d_N_begin_10 rfl rfl ?_
  refine n_get (v := (nI (oCt σ))) d_N_begin_11 lf_N_131 nl rfl y.1.2.2.1 ?_
  refine x_bipush (v := (nI 12)) d_N_begin_14 (by decide) ?_
  refine x_icmp_lt (tgt := 21) d_N_begin_16 rfl (fun q16 => ?_) (fun w_ => absurd (nI_lt (b := 12) hc (by decide)) w_)
  refine x_aload_n d_N_begin_21 rfl rfl ?_
  refine x_sipush (v := (nI 252)) d_N_begin_22 (by decide) ?_
  refine x_iconst (v := (nI 0)) d_N_begin_25 (by decide) ?_
  refine x_iload_n d_N_begin_26 rfl rfl ?_
  refine x_invv d_N_begin_27 lm_N_115 (as := [.int (nI 252), .int (nI 0), .int n]) (S := []) (cz' := 0) (cs' := 0) (c_N_put nl (by decide) _ _) nl.o rfl rfl rfl (Nat.le_of_ble_eq_true rfl) (by omega) (by decide) (by decide) ?_
  rintro _ _ ⟨rfl, rfl⟩
  have e1 : Tb 252 A (putA A 252 (nI 0) n) := Tb.put
  have q1 : SL (putA A 252 (nI 0) n) 252 (tF (.leaf (0, n))) := SL.put
  generalize putA A 252 (nI 0) n = A1 at e1 q1 ⊢
  have y1 := y.tw v.L (by decide) e1
  refine x_aload_n d_N_begin_30 rfl rfl ?_
  refine x_iload_n d_N_begin_31 rfl rfl ?_
  refine x_sipush (v := (nI 252)) d_N_begin_32 (by decide) ?_
  refine x_invv d_N_begin_35 lm_N_152 (as := [.int (nI l), .int (nI 252)]) (S := []) (cz' := 0) (cs' := 0) (c_N_start nl y1 v hc hl (by decide) (Or.inr (Nat.le_refl _)) q1 (vIt n)) nl.o rfl rfl rfl (Nat.le_of_ble_eq_true rfl) (by omega) (by decide) (by decide) ?_
  rintro _ _ ⟨rfl, A2, rfl, y2⟩
  exact x_iret d_N_begin_38 rfl rfl ⟨rfl, A2, rfl, y2⟩
theorem c_N_begin_no {E : th_E} {h : th_H} {r : Nat} {A : Nat → Nat → Int32} (nl : NL r h) {x : Int32} (n : Int32) (hx : ¬ (nI 0 ≤ x ∧ x ≤ nI 47)) : Xc E m_N_begin 2 0 0 [.ref r, .int x, .int n] (ov r h A) (Ex (some (.int (-1))) (ov r h A)) := by
  refine Xc.of (by decide) (by simp [Value.category]) (Nat.le_of_ble_eq_true rfl) ?_
  show Xw E m_N_begin 2 0 0 0 [some (.ref r), some (.int x), some (.int n)] [] (ov r h A) _
  refine x_iload_n d_N_begin_0 rfl rfl ?_
  refine x_iconst (v := (nI 0)) d_N_begin_1 (by decide) ?_
  refine x_bipush (v := (nI 47)) d_N_begin_2 (by decide) ?_
  refine x_invs d_N_begin_4 lm_N_81 (as := [.int x, .int (nI 0), .int (nI 47)]) (S := []) (cz' := 0) (cs' := 0) (c_N_in _ _ _) rfl rfl (Nat.le_of_ble_eq_true rfl) (by omega) (by decide) (by decide) ?_
  rintro _ _ ⟨rfl, rfl⟩
  refine x_if_eq (tgt := 19) d_N_begin_7 rfl (fun q7 => ?_) (fun w_ => absurd (iB_f hx) w_)
  refine x_iconst (v := (-1)) d_N_begin_19 (by decide) ?_
  exact x_iret d_N_begin_20 rfl rfl ⟨rfl, rfl⟩
theorem c_N_begin_full {E : th_E} {h : th_H} {r : Nat} {A : Nat → Nat → Int32} (nl : NL r h) {N u : Nat} {σ : Ho} (y : NR A σ u) (v : vPs N σ) {x : Int32} (n : Int32) (hc : 12 ≤ oCt σ) : Xc E m_N_begin 2 0 0 [.ref r, .int x, .int n] (ov r h A) (Ex (some (.int (-1))) (ov r h A)) := by
  refine Xc.of (by decide) (by simp [Value.category]) (Nat.le_of_ble_eq_true rfl) ?_
  show Xw E m_N_begin 2 0 0 0 [some (.ref r), some (.int x), some (.int n)] [] (ov r h A) _
  refine x_iload_n d_N_begin_0 rfl rfl ?_
  refine x_iconst (v := (nI 0)) d_N_begin_1 (by decide) ?_
  refine x_bipush (v := (nI 47)) d_N_begin_2 (by decide) ?_
  refine x_invs d_N_begin_4 lm_N_81 (as := [.int x, .int (nI 0), .int (nI 47)]) (S := []) (cz' := 0) (cs' := 0) (c_N_in _ _ _) rfl rfl (Nat.le_of_ble_eq_true rfl) (by omega) (by decide) (by decide) ?_
  rintro _ _ ⟨rfl, rfl⟩
  refine x_if_eq (tgt := 19) d_N_begin_7 rfl (fun q7 => ?_) (fun q7 => ?_)
  · refine x_iconst (v := (-1)) d_N_begin_19 (by decide) ?_
    exact x_iret d_N_begin_20 rfl rfl ⟨rfl, rfl⟩
  · refine x_aload_n d_N_begin_10 rfl rfl ?_
    refine n_get (v := (nI (oCt σ))) d_N_begin_11 lf_N_131 nl rfl y.1.2.2.1 ?_
    refine x_bipush (v := (nI 12)) d_N_begin_14 (by decide) ?_
    refine x_icmp_lt (tgt := 21) d_N_begin_16 rfl (fun w_ => absurd w_ (nI_nlt (b := 12) hc (by have := v.1; omega))) (fun q16 => ?_)
    refine x_iconst (v := (-1)) d_N_begin_19 (by decide) ?_
    exact x_iret d_N_begin_20 rfl rfl ⟨rfl, rfl⟩
theorem c_N_tell {E : th_E} {h : th_H} {r : Nat} {A : Nat → Nat → Int32} (nl : NL r h) {N u : Nat} {σ : Ho} (y : NR A σ u) (v : vPs N σ) {p : Nat} (n : Int32) (hp : p < oCt σ) (h3 : ¬ pSt (oPr σ p) = 3) : Xc E m_N_tell 2 0 0 [.ref r, .int (nI p), .int n] (ov r h A) (Nx r h (some (.int 1)) (fun A' => NR A' (deliverM σ p (.leaf (0, n))) u)) := by
  refine Xc.of (by decide) (by simp [Value.category]) (Nat.le_of_ble_eq_true rfl) ?_
  show Xw E m_N_tell 2 0 0 0 [some (.ref r), some (.int (nI p)), some (.int n)] [] (ov r h A) _
  have hct := v.1
  have hst := (v.2.2 p hp).2.2.2.2.2.1
  refine x_iload_n d_N_tell_0 rfl rfl ?_
  refine x_iconst (v := (nI 0)) d_N_tell_1 (by decide) ?_
  refine x_aload_n d_N_tell_2 rfl rfl ?_
  refine n_get (v := (nI (oCt σ))) d_N_tell_3 lf_N_131 nl rfl y.1.2.2.1 ?_
  refine x_iconst (v := (nI 1)) d_N_tell_6 (by decide) ?_
  refine x_isub (v := (nI (oCt σ) - nI 1)) d_N_tell_7 rfl ?_
  refine x_invs d_N_tell_8 lm_N_81 (as := [.int (nI p), .int (nI 0), .int (nI (oCt σ) - nI 1)]) (S := []) (cz' := 0) (cs' := 0) (c_N_in _ _ _) rfl rfl (Nat.le_of_ble_eq_true rfl) (by omega) (by decide) (by decide) ?_
  rintro _ _ ⟨rfl, rfl⟩
  refine x_if_eq (tgt := 24) d_N_tell_11 rfl (fun w_ => absurd w_ (fun z => iB_0.mp z ((in_ct (by omega)).mpr ⟨nI_pos (by omega), nI_lt hp (by omega)⟩))) (fun q11 => ?_)
  refine x_aload_n d_N_tell_14 rfl rfl ?_
  refine n_fld (j := 6) d_N_tell_15 lf_N_25 nl (by decide) rfl rfl ?_
  refine x_iload_n d_N_tell_18 rfl rfl ?_
  refine n_ld (j := 6) (i := p) (n := 12) (v := (nI (pSt (oPr σ p)))) d_N_tell_19 nl (by decide) (by decide) rfl rfl (by omega) (by decide) (y.2.2.2 p hp).st ?_
  refine x_iconst (v := (nI 3)) d_N_tell_20 (by decide) ?_
  refine x_icmp_ne (tgt := 26) d_N_tell_21 rfl (fun q21 => ?_) (fun w_ => absurd w_ (fun z => h3 ((nI_eq (b := 3) (by omega) (by decide)).mp z)))
  refine x_aload_n d_N_tell_26 rfl rfl ?_
  refine x_sipush (v := (nI 252)) d_N_tell_27 (by decide) ?_
  refine x_iconst (v := (nI 0)) d_N_tell_30 (by decide) ?_
  refine x_iload_n d_N_tell_31 rfl rfl ?_
  refine x_invv d_N_tell_32 lm_N_115 (as := [.int (nI 252), .int (nI 0), .int n]) (S := []) (cz' := 0) (cs' := 0) (c_N_put nl (by decide) _ _) nl.o rfl rfl rfl (Nat.le_of_ble_eq_true rfl) (by omega) (by decide) (by decide) ?_
  rintro _ _ ⟨rfl, rfl⟩
  have e1 : Tb 252 A (putA A 252 (nI 0) n) := Tb.put
  have q1 : SL (putA A 252 (nI 0) n) 252 (tF (.leaf (0, n))) := SL.put
  generalize putA A 252 (nI 0) n = A1 at e1 q1 ⊢
  have y1 := y.tw v.L (by decide) e1
  refine x_aload_n d_N_tell_35 rfl rfl ?_
  refine x_iload_n d_N_tell_36 rfl rfl ?_
  refine x_sipush (v := (nI 252)) d_N_tell_37 (by decide) ?_
  refine x_invv d_N_tell_40 lm_N_122 (as := [.int (nI p), .int (nI 252)]) (S := []) (cz' := 0) (cs' := 0) (c_N_deliver nl y1 v hp (by decide) q1 (vIt n)) nl.o rfl rfl rfl (Nat.le_of_ble_eq_true rfl) (by omega) (by decide) (by decide) ?_
  rintro _ _ ⟨rfl, A2, rfl, y2, t2⟩
  refine x_iconst (v := (nI 1)) d_N_tell_43 (by decide) ?_
  exact x_iret d_N_tell_44 rfl rfl ⟨rfl, A2, rfl, y2⟩
theorem c_N_tell_end {E : th_E} {h : th_H} {r : Nat} {A : Nat → Nat → Int32} (nl : NL r h) {N u : Nat} {σ : Ho} (y : NR A σ u) (v : vPs N σ) {p : Nat} (n : Int32) (hp : p < oCt σ) (h3 : pSt (oPr σ p) = 3) : Xc E m_N_tell 2 0 0 [.ref r, .int (nI p), .int n] (ov r h A) (Ex (some (.int 0)) (ov r h A)) := by
  refine Xc.of (by decide) (by simp [Value.category]) (Nat.le_of_ble_eq_true rfl) ?_
  show Xw E m_N_tell 2 0 0 0 [some (.ref r), some (.int (nI p)), some (.int n)] [] (ov r h A) _
  have hct := v.1
  have hst := (v.2.2 p hp).2.2.2.2.2.1
  refine x_iload_n d_N_tell_0 rfl rfl ?_
  refine x_iconst (v := (nI 0)) d_N_tell_1 (by decide) ?_
  refine x_aload_n d_N_tell_2 rfl rfl ?_
  refine n_get (v := (nI (oCt σ))) d_N_tell_3 lf_N_131 nl rfl y.1.2.2.1 ?_
  refine x_iconst (v := (nI 1)) d_N_tell_6 (by decide) ?_
  refine x_isub (v := (nI (oCt σ) - nI 1)) d_N_tell_7 rfl ?_
  refine x_invs d_N_tell_8 lm_N_81 (as := [.int (nI p), .int (nI 0), .int (nI (oCt σ) - nI 1)]) (S := []) (cz' := 0) (cs' := 0) (c_N_in _ _ _) rfl rfl (Nat.le_of_ble_eq_true rfl) (by omega) (by decide) (by decide) ?_
  rintro _ _ ⟨rfl, rfl⟩
  refine x_if_eq (tgt := 24) d_N_tell_11 rfl (fun w_ => absurd w_ (fun z => iB_0.mp z ((in_ct (by omega)).mpr ⟨nI_pos (by omega), nI_lt hp (by omega)⟩))) (fun q11 => ?_)
  refine x_aload_n d_N_tell_14 rfl rfl ?_
  refine n_fld (j := 6) d_N_tell_15 lf_N_25 nl (by decide) rfl rfl ?_
  refine x_iload_n d_N_tell_18 rfl rfl ?_
  refine n_ld (j := 6) (i := p) (n := 12) (v := (nI (pSt (oPr σ p)))) d_N_tell_19 nl (by decide) (by decide) rfl rfl (by omega) (by decide) (y.2.2.2 p hp).st ?_
  refine x_iconst (v := (nI 3)) d_N_tell_20 (by decide) ?_
  refine x_icmp_ne (tgt := 26) d_N_tell_21 rfl (fun w_ => absurd (by rw [h3]) w_) (fun q21 => ?_)
  refine x_iconst (v := (nI 0)) d_N_tell_24 (by decide) ?_
  exact x_iret d_N_tell_25 rfl rfl ⟨rfl, rfl⟩
theorem c_N_tell_no {E : th_E} {h : th_H} {r : Nat} {A : Nat → Nat → Int32} (nl : NL r h) {N u : Nat} {σ : Ho} (y : NR A σ u) (v : vPs N σ) {x : Int32} (n : Int32) (hx : ¬ (¬ x < 0 ∧ x < nI (oCt σ))) : Xc E m_N_tell 2 0 0 [.ref r, .int x, .int n] (ov r h A) (Ex (some (.int 0)) (ov r h A)) := by
  refine Xc.of (by decide) (by simp [Value.category]) (Nat.le_of_ble_eq_true rfl) ?_
  show Xw E m_N_tell 2 0 0 0 [some (.ref r), some (.int x), some (.int n)] [] (ov r h A) _
  refine x_iload_n d_N_tell_0 rfl rfl ?_
  refine x_iconst (v := (nI 0)) d_N_tell_1 (by decide) ?_
  refine x_aload_n d_N_tell_2 rfl rfl ?_
  refine n_get (v := (nI (oCt σ))) d_N_tell_3 lf_N_131 nl rfl y.1.2.2.1 ?_
  refine x_iconst (v := (nI 1)) d_N_tell_6 (by decide) ?_
  refine x_isub (v := (nI (oCt σ) - nI 1)) d_N_tell_7 rfl ?_
  refine x_invs d_N_tell_8 lm_N_81 (as := [.int x, .int (nI 0), .int (nI (oCt σ) - nI 1)]) (S := []) (cz' := 0) (cs' := 0) (c_N_in _ _ _) rfl rfl (Nat.le_of_ble_eq_true rfl) (by omega) (by decide) (by decide) ?_
  rintro _ _ ⟨rfl, rfl⟩
  refine x_if_eq (tgt := 24) d_N_tell_11 rfl (fun q11 => ?_) (fun w_ => absurd (iB_f (fun z => hx ((in_ct (by have := v.1; omega)).mp z))) w_)
  refine x_iconst (v := (nI 0)) d_N_tell_24 (by decide) ?_
  exact x_iret d_N_tell_25 rfl rfl ⟨rfl, rfl⟩
theorem c_N_processes {E : th_E} {h : th_H} {r : Nat} {A : Nat → Nat → Int32} (nl : NL r h) {N u : Nat} {σ : Ho} (y : NR A σ u) (v : vPs N σ) : Xc E m_N_processes 0 0 0 [.ref r] (ov r h A) (Ex (some (.int (nI (oCt σ)))) (ov r h A)) := by
  refine Xc.of (by decide) (by simp [Value.category]) (Nat.le_of_ble_eq_true rfl) ?_
  show Xw E m_N_processes 0 0 0 0 [some (.ref r)] [] (ov r h A) _
  refine x_aload_n d_N_processes_0 rfl rfl ?_
  refine n_get (v := (nI (oCt σ))) d_N_processes_1 lf_N_131 nl rfl y.1.2.2.1 ?_
  exact x_iret d_N_processes_4 rfl rfl ⟨rfl, rfl⟩
theorem c_N_clear0 {E : th_E} {h : th_H} {r : Nat} {A : Nat → Nat → Int32} (nl : NL r h) {N u : Nat} {σ : Ho} (y : NR A σ u) (v : vPs N σ) : Xc E m_N_clear 0 0 0 [.ref r, .int 0] (ov r h A) (Nx r h (some (.int (nI (oCt σ)))) (fun A' => NR A' (clearM σ false) 0)) := by
  refine Xc.of (by decide) (by simp [Value.category]) (Nat.le_of_ble_eq_true rfl) ?_
  show Xw E m_N_clear 0 0 0 0 [some (.ref r), some (.int 0), none] [] (ov r h A) _
  refine x_aload_n d_N_clear_0 rfl rfl ?_
  refine n_get (v := (nI (oCt σ))) d_N_clear_1 lf_N_131 nl rfl y.1.2.2.1 ?_
  refine x_istore_n d_N_clear_4 rfl (by decide) (L' := [some (.ref r), some (.int 0), some (.int (nI (oCt σ)))]) rfl ?_
  refine x_aload_n d_N_clear_5 rfl rfl ?_
  refine x_iconst (v := (nI 0)) d_N_clear_6 (by decide) ?_
  refine n_put (v := (nI 0)) d_N_clear_7 lp_N_131 nl rfl ?_
  refine x_aload_n d_N_clear_10 rfl rfl ?_
  refine x_iconst (v := (nI 0)) d_N_clear_11 (by decide) ?_
  refine n_put (v := (nI 0)) d_N_clear_12 lp_N_101 nl rfl ?_
  refine x_aload_n d_N_clear_15 rfl rfl ?_
  refine x_iconst (v := (nI 0)) d_N_clear_16 (by decide) ?_
  refine n_put (v := (nI 0)) d_N_clear_17 lp_N_104 nl rfl ?_
  refine x_aload_n d_N_clear_20 rfl rfl ?_
  refine x_iload_n d_N_clear_21 rfl rfl ?_
  refine x_if_eq (tgt := 29) d_N_clear_22 rfl (fun q22 => ?_) (fun w_ => absurd rfl w_)
  refine x_aload_n d_N_clear_29 rfl rfl ?_
  refine n_get (v := (nI ((oCd σ).length))) d_N_clear_30 lf_N_85 nl rfl ((up_n (by decide)).trans ((up_n (by decide)).trans ((up_n (by decide)).trans y.1.2.1))) ?_
  refine n_put (v := (nI ((oCd σ).length))) d_N_clear_33 lp_N_85 nl rfl ?_
  refine x_iload_n d_N_clear_36 rfl rfl ?_
  refine x_iret d_N_clear_37 rfl rfl ⟨rfl, _, rfl, ⟨⟨?_, ?_, ?_, ?_⟩, ?_, ⟨?_, fun i x hx => by cases hx⟩, fun p hp => absurd hp (Nat.not_lt_zero _)⟩⟩
  · rw [up_n (by decide), up_n (by decide), up_n (by decide), up_n (by decide)]; exact y.1.1
  · exact up_s
  · rw [up_n (by decide), up_n (by decide), up_n (by decide)]; exact up_s
  · rw [up_n (by decide)]; exact up_s
  · exact fun i q hq => by rw [up_r (by decide), up_r (by decide), up_r (by decide), up_r (by decide), up_r (by decide), up_r (by decide), up_r (by decide), up_r (by decide), up_r (by decide), up_r (by decide), up_r (by decide), up_r (by decide), up_r (by decide), up_r (by decide), up_r (by decide), up_r (by decide)]; exact y.2.1 i q hq
  · rw [up_n (by decide), up_n (by decide)]; exact up_s
theorem c_N_clear1 {E : th_E} {h : th_H} {r : Nat} {A : Nat → Nat → Int32} (nl : NL r h) {N u : Nat} {σ : Ho} (y : NR A σ u) (v : vPs N σ) : Xc E m_N_clear 0 0 0 [.ref r, .int 1] (ov r h A) (Nx r h (some (.int (nI (oCt σ)))) (fun A' => NR A' (clearM σ true) 0)) := by
  refine Xc.of (by decide) (by simp [Value.category]) (Nat.le_of_ble_eq_true rfl) ?_
  show Xw E m_N_clear 0 0 0 0 [some (.ref r), some (.int 1), none] [] (ov r h A) _
  refine x_aload_n d_N_clear_0 rfl rfl ?_
  refine n_get (v := (nI (oCt σ))) d_N_clear_1 lf_N_131 nl rfl y.1.2.2.1 ?_
  refine x_istore_n d_N_clear_4 rfl (by decide) (L' := [some (.ref r), some (.int 1), some (.int (nI (oCt σ)))]) rfl ?_
  refine x_aload_n d_N_clear_5 rfl rfl ?_
  refine x_iconst (v := (nI 0)) d_N_clear_6 (by decide) ?_
  refine n_put (v := (nI 0)) d_N_clear_7 lp_N_131 nl rfl ?_
  refine x_aload_n d_N_clear_10 rfl rfl ?_
  refine x_iconst (v := (nI 0)) d_N_clear_11 (by decide) ?_
  refine n_put (v := (nI 0)) d_N_clear_12 lp_N_101 nl rfl ?_
  refine x_aload_n d_N_clear_15 rfl rfl ?_
  refine x_iconst (v := (nI 0)) d_N_clear_16 (by decide) ?_
  refine n_put (v := (nI 0)) d_N_clear_17 lp_N_104 nl rfl ?_
  refine x_aload_n d_N_clear_20 rfl rfl ?_
  refine x_iload_n d_N_clear_21 rfl rfl ?_
  refine x_if_eq (tgt := 29) d_N_clear_22 rfl (fun w_ => absurd w_ (by decide)) (fun q22 => ?_)
  refine x_iconst (v := (nI 0)) d_N_clear_25 (by decide) ?_
  refine x_goto (tgt := 33) d_N_clear_26 rfl ?_
  refine n_put (v := (nI 0)) d_N_clear_33 lp_N_85 nl rfl ?_
  refine x_iload_n d_N_clear_36 rfl rfl ?_
  refine x_iret d_N_clear_37 rfl rfl ⟨rfl, _, rfl, ⟨⟨?_, ?_, ?_, ?_⟩, ?_, ⟨?_, fun i x hx => by cases hx⟩, fun p hp => absurd hp (Nat.not_lt_zero _)⟩⟩
  · rw [up_n (by decide), up_n (by decide), up_n (by decide), up_n (by decide)]; exact y.1.1
  · exact up_s
  · rw [up_n (by decide), up_n (by decide), up_n (by decide)]; exact up_s
  · rw [up_n (by decide)]; exact up_s
  · exact fun i q hq => by cases hq
  · rw [up_n (by decide), up_n (by decide)]; exact up_s
