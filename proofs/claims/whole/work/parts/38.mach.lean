/-! Machine's helpers (printed by wip/gen/mod_mach.py). -/
abbrev setP (σ : Ho) (p : Nat) (P : Pr) : Ho := sPr σ p P
theorem CR.reg {h : th_H} {o : Nat} {σ : Ho} (z : CR o σ h) (wf : WFh h) (hc : oCt σ ≤ 12) {p : Nat} (hp : p < oCt σ) {r a : Nat} {t : Tm} (q : TR h t a) : CR o (setP σ p (sRg (oPr σ p) r t)) (gpA h 2 (o + 8 + 6 * p) r (.ref a)) ∧ Chg o h (gpA h 2 (o + 8 + 6 * p) r (.ref a)) := ⟨z.sPr wf ((Chg.rf o h).pA ⟨by omega, by omega, by omega⟩ (Or.inr rfl)) ((Keep.rf o h).pA (by omega)) ((KeepQ.rf o h).pA (by omega)) (cPr_reg q (z.2.2.2.2.2 p hp)) (fun y _ hy => (Same.rf o y h).pA ⟨by omega, by omega⟩), (Chg.rf o h).pA ⟨by omega, by omega, by omega⟩ (Or.inr rfl)⟩
theorem CR.pl {h : th_H} {o : Nat} {σ : Ho} (z : CR o σ h) (wf : WFh h) (hc : oCt σ ≤ 12) {p : Nat} (hp : p < oCt σ) (l : Nat) : CR o (setP σ p (sPl (oPr σ p) l)) (gpF h 2 6 (o + 6 + 6 * p) (.int (nI l))) ∧ Chg o h (gpF h 2 6 (o + 6 + 6 * p) (.int (nI l))) := ⟨z.sPr wf ((Chg.rf o h).pF ⟨by omega, by omega⟩ rfl) ((Keep.rf o h).pF (by omega)) ((KeepQ.rf o h).pF (by decide)) (cPr_pl l (z.2.2.2.2.2 p hp)) (fun y _ hy => (Same.rf o y h).pF ⟨by omega, by omega⟩), (Chg.rf o h).pF ⟨by omega, by omega⟩ rfl⟩
theorem CR.trp {h : th_H} {o : Nat} {σ : Ho} (z : CR o σ h) (wf : WFh h) (hc : oCt σ ≤ 12) {p : Nat} (hp : p < oCt σ) (b : Bool) : CR o (setP σ p (sTr (oPr σ p) b)) (gpF h 2 8 (o + 6 + 6 * p) (.int (if b then 1 else 0))) ∧ Chg o h (gpF h 2 8 (o + 6 + 6 * p) (.int (if b then 1 else 0))) := ⟨z.sPr wf ((Chg.rf o h).pF ⟨by omega, by omega⟩ rfl) ((Keep.rf o h).pF (by omega)) ((KeepQ.rf o h).pF (by decide)) (cPr_tr b (z.2.2.2.2.2 p hp)) (fun y _ hy => (Same.rf o y h).pF ⟨by omega, by omega⟩), (Chg.rf o h).pF ⟨by omega, by omega⟩ rfl⟩
theorem CR.dn {h : th_H} {o : Nat} {σ : Ho} (z : CR o σ h) (wf : WFh h) (hc : oCt σ ≤ 12) {p : Nat} (hp : p < oCt σ) (x : Int32) : CR o (setP σ p (sDn (oPr σ p) x)) (gpF h 2 11 (o + 6 + 6 * p) (.int x)) ∧ Chg o h (gpF h 2 11 (o + 6 + 6 * p) (.int x)) := ⟨z.sPr wf ((Chg.rf o h).pF ⟨by omega, by omega⟩ rfl) ((Keep.rf o h).pF (by omega)) ((KeepQ.rf o h).pF (by decide)) (cPr_dn x (z.2.2.2.2.2 p hp)) (fun y _ hy => (Same.rf o y h).pF ⟨by omega, by omega⟩), (Chg.rf o h).pF ⟨by omega, by omega⟩ rfl⟩
theorem c_M_areInts {E : th_E} {h : th_H} {t u : Tm} {x y : Nat} (hx : TR h t x) (hy : TR h u y) {r : Int32} (hr : (tS t = 0 ∧ tS u = 0 → r = 1) ∧ (¬ (tS t = 0 ∧ tS u = 0) → r = 0)) : Xc E m_M_areInts 0 0 0 [.ref x, .ref y] h (Ex (some (.int r)) h) := by
  refine Xc.of (by decide) (by simp [Value.category]) (Nat.le_of_ble_eq_true rfl) ?_
  show Xw E m_M_areInts 0 0 0 0 [some (.ref x), some (.ref y)] [] h _
  refine x_aload_n d_M_areInts_0 rfl rfl ?_
  refine x_getf (v := .int (tS t)) d_M_areInts_1 lf_M_97 hx.k hx.s ?_
  refine x_if_ne (tgt := 18) d_M_areInts_4 rfl (fun q4 => ?_) (fun q4 => ?_)
  · obtain rfl : r = 0 := hr.2 (fun e => q4 e.1)
    refine x_iconst (v := 0) d_M_areInts_18 (by decide) ?_
    exact x_iret d_M_areInts_19 rfl rfl ⟨rfl, rfl⟩
  · refine x_aload_n d_M_areInts_7 rfl rfl ?_
    refine x_getf (v := .int (tS u)) d_M_areInts_8 lf_M_97 hy.k hy.s ?_
    refine x_if_ne (tgt := 18) d_M_areInts_11 rfl (fun q11 => ?_) (fun q11 => ?_)
    · obtain rfl : r = 0 := hr.2 (fun e => q11 e.2)
      refine x_iconst (v := 0) d_M_areInts_18 (by decide) ?_
      exact x_iret d_M_areInts_19 rfl rfl ⟨rfl, rfl⟩
    · obtain rfl : r = 1 := hr.1 ⟨q4, q11⟩
      refine x_iconst (v := 1) d_M_areInts_14 (by decide) ?_
      refine x_goto (tgt := 19) d_M_areInts_15 rfl ?_
      exact x_iret d_M_areInts_19 rfl rfl ⟨rfl, rfl⟩
theorem c_M_goUnless1 {E : th_E} {h : th_H} {p : Nat} (l : Int32) : Xc E m_M_goUnless 1 0 0 [.ref p, .int 1, .int l] h (Ex (some (.int 1)) h) := by
  refine Xc.of (by decide) (by simp [Value.category]) (Nat.le_of_ble_eq_true rfl) ?_
  show Xw E m_M_goUnless 1 0 0 0 [some (.ref p), some (.int 1), some (.int l)] [] h _
  refine x_iload_n d_M_goUnless_0 rfl rfl ?_
  refine x_if_ne (tgt := 12) d_M_goUnless_1 rfl (fun q1 => ?_) (fun w_ => absurd w_ (by decide))
  refine x_iconst (v := 1) d_M_goUnless_12 (by decide) ?_
  refine x_goto (tgt := 17) d_M_goUnless_13 rfl ?_
  exact x_iret d_M_goUnless_17 rfl rfl ⟨rfl, rfl⟩
theorem c_M_goUnless0 {E : th_E} {h : th_H} {p : Nat} (k1 : gk h p = some (.inl 2)) (l : Int32) : Xc E m_M_goUnless 1 0 0 [.ref p, .int 0, .int l] h (Ex (some (.int 1)) (gpF h 2 6 p (.int l))) := by
  refine Xc.of (by decide) (by simp [Value.category]) (Nat.le_of_ble_eq_true rfl) ?_
  show Xw E m_M_goUnless 1 0 0 0 [some (.ref p), some (.int 0), some (.int l)] [] h _
  refine x_iload_n d_M_goUnless_0 rfl rfl ?_
  refine x_if_ne (tgt := 12) d_M_goUnless_1 rfl (fun w_ => absurd rfl w_) (fun q1 => ?_)
  refine x_aload_n d_M_goUnless_4 rfl rfl ?_
  refine x_iload_n d_M_goUnless_5 rfl rfl ?_
  refine x_invv d_M_goUnless_6 lm_M_100 (as := [.int l]) (S := []) (c_P_goTo k1 l) k1 rfl rfl rfl (Nat.le_of_ble_eq_true rfl) (Nat.le_refl 1) (Nat.le_refl 0) (Nat.le_refl 0) ?_
  rintro _ _ ⟨rfl, rfl⟩
  refine x_if_eq (tgt := 16) d_M_goUnless_9 rfl (fun w_ => absurd w_ (by decide)) (fun q9 => ?_)
  refine x_iconst (v := 1) d_M_goUnless_12 (by decide) ?_
  refine x_goto (tgt := 17) d_M_goUnless_13 rfl ?_
  exact x_iret d_M_goUnless_17 rfl rfl ⟨rfl, rfl⟩
theorem c_M_goBack_end {E : th_E} {h : th_H} {o : Nat} {σ : Ho} (z : CR o σ h) {N p : Nat} (v : vPs N σ) (hp : p < oCt σ) (he : pRe (oPr σ p) = []) : Xc E m_M_goBack 51 (2 * endC σ p aNormal) (10 * endC σ p aNormal) [.ref (o + 1), .ref (o + 6 + 6 * p)] h (Mv o h (some (.int 1)) (endM σ p aNormal)) := by
  have hp12 : p < 12 := by have := v.1; omega
  have hc := v.1
  refine Xc.of (by decide) (by simp [Value.category]) (Nat.le_of_ble_eq_true rfl) ?_
  show Xw E m_M_goBack 51 (2 * endC σ p aNormal) (10 * endC σ p aNormal) 0 [some (.ref (o + 1)), some (.ref (o + 6 + 6 * p))] [] h _
  refine x_aload_n d_M_goBack_0 rfl rfl ?_
  refine x_getf (v := .int (nI (pRe (oPr σ p)).length)) d_M_goBack_1 lf_M_157 (z.1.2 p hp12).k (z.2.2.2.2.2 p hp).2.2.1.1 ?_
  refine x_if_gt (tgt := 27) d_M_goBack_4 rfl (fun w_ => absurd w_ (by rw [he]; decide)) (fun q4 => ?_)
  refine x_aload_n d_M_goBack_7 rfl rfl ?_
  refine x_getf (v := .ref (o + 4)) d_M_goBack_8 lf_M_21 z.1.1.kM z.1.1.M1 ?_
  refine x_aload_n d_M_goBack_11 rfl rfl ?_
  refine x_aload_n d_M_goBack_12 rfl rfl ?_
  refine x_getf (v := .ref (o + 4)) d_M_goBack_13 lf_M_21 z.1.1.kM z.1.1.M1 ?_
  refine x_getf (v := .ref (o + 81)) d_M_goBack_16 lf_M_38 z.1.1.kS z.1.1.S3 ?_
  refine x_bipush (v := 14) d_M_goBack_19 (by decide) ?_
  refine x_aald (v := .ref (o + 82 + 14)) d_M_goBack_21 z.1.1.kAt rfl (vp_in_nI (n := 14) (by decide) (by decide)) (by rw [show (14 : Int32).toNatClampNeg = 14 by decide]; exact (z.1.1.at 14 (by decide)).1) ?_
  refine x_invvN d_M_goBack_22 lm_M_42 (as := [.ref (o + 6 + 6 * p), .ref (o + 82 + 14)]) (S := []) (cz' := 0) (cs' := 0) (c_S_end z v hp (r := aNormal) ⟨Or.inl (Or.inr (Or.inl rfl)), by decide⟩ (z.1.1.at 14 (by decide)).2) z.1.1.kS rfl rfl rfl (Nat.le_of_ble_eq_true rfl) (by omega) (by omega) (by omega) ?_
  rintro _ h1 ⟨rfl, z1, chg1⟩
  refine x_iconst (v := 1) d_M_goBack_25 (by decide) ?_
  exact x_iret d_M_goBack_26 rfl rfl ⟨rfl, z1, chg1⟩
theorem c_M_goBack {E : th_E} {h : th_H} {o : Nat} {σ : Ho} (z : CR o σ h) {N p : Nat} (v : vPs N σ) (hp : p < oCt σ) {ys : List Nat} {x : Nat} (he : pRe (oPr σ p) = ys ++ [x]) (hl : ys.length < 6) : Xc E m_M_goBack 51 0 0 [.ref (o + 1), .ref (o + 6 + 6 * p)] h (Mv o h (some (.int 1)) (sPr σ p (sPl (sRe (oPr σ p) ys) x))) := by
  have hp12 : p < 12 := by have := v.1; omega
  have hc := v.1
  refine Xc.of (by decide) (by simp [Value.category]) (Nat.le_of_ble_eq_true rfl) ?_
  show Xw E m_M_goBack 51 0 0 0 [some (.ref (o + 1)), some (.ref (o + 6 + 6 * p))] [] h _
  refine Xw.wf (fun wf => ?_)
  have chg : Chg o h (gpF (gpF h 2 5 (o + 6 + 6 * p) (.int (nI ys.length))) 2 6 (o + 6 + 6 * p) (.int (nI x))) := ((Chg.rf o h).pF ⟨by omega, by omega⟩ rfl).pF ⟨by omega, by omega⟩ rfl
  have fin : CR o (sPr σ p (sPl (sRe (oPr σ p) ys) x)) (gpF (gpF h 2 5 (o + 6 + 6 * p) (.int (nI ys.length))) 2 6 (o + 6 + 6 * p) (.int (nI x))) := z.sPr wf chg (((Keep.rf o h).pF (by omega)).pF (by omega)) (((KeepQ.rf o h).pF (by decide)).pF (by decide)) (cPr_pl x (cPr_pop (l := ys) (fun i y hy => by rw [he, List.getElem?_append_left (List.getElem?_eq_some_iff.mp hy).1]; exact hy) (z.2.2.2.2.2 p hp))) (fun y _ hy => ((Same.rf o y h).pF ⟨by omega, by omega⟩).pF ⟨by omega, by omega⟩)
  refine x_aload_n d_M_goBack_0 rfl rfl ?_
  refine x_getf (v := .int (nI (ys.length + 1))) d_M_goBack_1 lf_M_157 (z.1.2 p hp12).k (by rw [(z.2.2.2.2.2 p hp).2.2.1.1, he, List.length_append]; rfl) ?_
  refine x_if_gt (tgt := 27) d_M_goBack_4 rfl (fun q4 => ?_) (fun w_ => absurd (nI_lt (a := 0) (by omega) (by omega)) w_)
  refine x_aload_n d_M_goBack_27 rfl rfl ?_
  refine x_dup d_M_goBack_28 rfl ?_
  refine x_getf (v := .int (nI (ys.length + 1))) d_M_goBack_29 lf_M_157 (z.1.2 p hp12).k (by rw [(z.2.2.2.2.2 p hp).2.2.1.1, he, List.length_append]; rfl) ?_
  refine x_iconst (v := 1) d_M_goBack_32 (by decide) ?_
  refine x_isub (v := (nI ys.length)) d_M_goBack_33 (nI_pred _) ?_
  refine x_putf d_M_goBack_34 lp_M_157 (z.1.2 p hp12).k ⟨_, rfl⟩ ?_
  refine x_aload_n d_M_goBack_37 rfl rfl ?_
  refine x_aload_n d_M_goBack_38 rfl rfl ?_
  refine x_getf (v := .ref (o + 9 + 6 * p)) d_M_goBack_39 lf_M_160 (z.1.2 p hp12).k (by simp [gF_pF, gF_pA, gF_nO, gF_nA, gF_sA, (z.1.2 p hp12).re]) ?_
  refine x_aload_n d_M_goBack_42 rfl rfl ?_
  refine x_getf (v := .int (nI ys.length)) d_M_goBack_43 lf_M_157 (z.1.2 p hp12).k (by simp [gF_pF]) ?_
  refine x_iald (v := .int (nI x)) d_M_goBack_46 (z.1.2 p hp12).kre rfl (vp_in_nI (by omega) (by decide)) (by rw [nI_cl (by omega), gA_pF]; exact (z.2.2.2.2.2 p hp).2.2.1.2 ys.length x (by rw [he]; simp)) ?_
  refine x_invv d_M_goBack_47 lm_M_100 (as := [.int (nI x)]) (S := []) (c_P_goTo (h := (gpF h 2 5 (o + 6 + 6 * p) (.int (nI ys.length)))) (z.1.2 p hp12).k (nI x)) (z.1.2 p hp12).k rfl rfl rfl (Nat.le_of_ble_eq_true rfl) (by decide) (Nat.le_refl 0) (Nat.le_refl 0) ?_
  rintro _ _ ⟨rfl, rfl⟩
  exact x_iret d_M_goBack_50 rfl rfl ⟨rfl, fin, chg⟩
theorem c_M_send_no {E : th_E} {h : th_H} {o x : Nat} : Xc E m_M_send 2 0 0 [.ref (o + 1), .null, .ref x] h (Ex (some (.int 0)) h) := by
  refine Xc.of (by decide) (by simp [Value.category]) (Nat.le_of_ble_eq_true rfl) ?_
  show Xw E m_M_send 2 0 0 0 [some (.ref (o + 1)), some (.null), some (.ref x)] [] h _
  refine x_aload_nN d_M_send_0 rfl rfl ?_
  refine x_ifnonnullN d_M_send_1 ?_
  refine x_iconst (v := 0) d_M_send_4 (by decide) ?_
  exact x_iret d_M_send_5 rfl rfl ⟨rfl, rfl⟩
theorem c_M_send {E : th_E} {h : th_H} {o : Nat} {σ : Ho} (z : CR o σ h) {N q x : Nat} {t : Tm} (v : vPs N σ) (hq : q < oCt σ) (hx : TR h t x) : Xc E m_M_send 2 0 0 [.ref (o + 1), .ref (o + 6 + 6 * q), .ref x] h (Mv o h (some (.int 1)) (deliverM σ q t)) := by
  refine Xc.of (by decide) (by simp [Value.category]) (Nat.le_of_ble_eq_true rfl) ?_
  show Xw E m_M_send 2 0 0 0 [some (.ref (o + 1)), some (.ref (o + 6 + 6 * q)), some (.ref x)] [] h _
  refine x_aload_n d_M_send_0 rfl rfl ?_
  refine x_ifnonnull (tgt := 6) d_M_send_1 rfl ?_
  refine x_aload_n d_M_send_6 rfl rfl ?_
  refine x_getf (v := .ref (o + 4)) d_M_send_7 lf_M_21 z.1.1.kM z.1.1.M1 ?_
  refine x_aload_n d_M_send_10 rfl rfl ?_
  refine x_aload_n d_M_send_11 rfl rfl ?_
  refine x_invv d_M_send_12 lm_M_163 (as := [.ref (o + 6 + 6 * q), .ref x]) (S := []) (c_S_deliver z v.1 hq (v.2.2 q hq).2.2.2.1.1 (by have := (v.2.2 q hq).2.2.2.2.2.1; omega) (fun e => v.room hq (by omega)) hx) z.1.1.kS rfl rfl rfl (Nat.le_of_ble_eq_true rfl) (Nat.le_refl 2) (Nat.le_refl 0) (Nat.le_refl 0) ?_
  rintro _ h1 ⟨rfl, z1, chg1⟩
  refine x_iconst (v := 1) d_M_send_15 (by decide) ?_
  exact x_iret d_M_send_16 rfl rfl ⟨rfl, z1, chg1⟩
theorem c_M_passOver {E : th_E} {h : th_H} {o : Nat} {σ : Ho} (z : CR o σ h) {N p : Nat} (v : vPs N σ) (hp : p < oCt σ) (l : Nat) : Xc E m_M_passOver 1 0 0 [.ref (o + 6 + 6 * p), .int (nI l)] h (Mv o h (some (.int 1)) (sPr σ p (sPl (sMk (oPr σ p) (pMk (oPr σ p) + 1)) l))) := by
  have hp12 : p < 12 := by have := v.1; omega
  have hc := v.1
  refine Xc.of (by decide) (by simp [Value.category]) (Nat.le_of_ble_eq_true rfl) ?_
  show Xw E m_M_passOver 1 0 0 0 [some (.ref (o + 6 + 6 * p)), some (.int (nI l))] [] h _
  refine Xw.wf (fun wf => ?_)
  have chg : Chg o h (gpF (gpF h 1 2 (o + 10 + 6 * p) (.int (nI (pMk (oPr σ p) + 1)))) 2 6 (o + 6 + 6 * p) (.int (nI l))) := ((Chg.rf o h).pF ⟨by omega, by omega⟩ rfl).pF ⟨by omega, by omega⟩ rfl
  have fin : CR o (sPr σ p (sPl (sMk (oPr σ p) (pMk (oPr σ p) + 1)) l)) (gpF (gpF h 1 2 (o + 10 + 6 * p) (.int (nI (pMk (oPr σ p) + 1)))) 2 6 (o + 6 + 6 * p) (.int (nI l))) := z.sPr wf chg (((Keep.rf o h).pF (by omega)).pF (by omega)) (((KeepQ.rf o h).pF (by decide)).pF (by decide)) (cPr_pl l (cPr_mk _ (z.2.2.2.2.2 p hp))) (fun y _ hy => ((Same.rf o y h).pF ⟨by omega, by omega⟩).pF ⟨by omega, by omega⟩)
  refine x_aload_n d_M_passOver_0 rfl rfl ?_
  refine x_getf (v := .ref (o + 10 + 6 * p)) d_M_passOver_1 lf_M_119 (z.1.2 p hp12).k (z.1.2 p hp12).mb ?_
  refine x_dup d_M_passOver_4 rfl ?_
  refine x_getf (v := .int (nI (pMk (oPr σ p)))) d_M_passOver_5 lf_M_166 (z.1.2 p hp12).kmb (z.2.2.2.2.2 p hp).2.2.2.2.1 ?_
  refine x_iconst (v := 1) d_M_passOver_8 (by decide) ?_
  refine x_iadd (v := (nI (pMk (oPr σ p) + 1))) d_M_passOver_9 (nI_1 _) ?_
  refine x_putf d_M_passOver_10 lp_M_166 (z.1.2 p hp12).kmb ⟨_, rfl⟩ ?_
  refine x_aload_n d_M_passOver_13 rfl rfl ?_
  refine x_iload_n d_M_passOver_14 rfl rfl ?_
  refine x_invv d_M_passOver_15 lm_M_100 (as := [.int (nI l)]) (S := []) (c_P_goTo (h := (gpF h 1 2 (o + 10 + 6 * p) (.int (nI (pMk (oPr σ p) + 1))))) (z.1.2 p hp12).k (nI l)) (z.1.2 p hp12).k rfl rfl rfl (Nat.le_of_ble_eq_true rfl) (Nat.le_refl 1) (Nat.le_refl 0) (Nat.le_refl 0) ?_
  rintro _ _ ⟨rfl, rfl⟩
  exact x_iret d_M_passOver_18 rfl rfl ⟨rfl, fin, chg⟩
theorem c_marked {E : th_E} {h : th_H} {o : Nat} {σ : Ho} (z : CR o σ h) {N p : Nat} (v : vPs N σ) (hN : N < 2 ^ 31) (hp : p < oCt σ) (r : Value) (hr : ((pMs (oPr σ p)).length ≤ pMk (oPr σ p) → r = .null) ∧ ∀ x, (refsOf h 2 (o + 11 + 6 * p) (pMs (oPr σ p)).length)[pMk (oPr σ p)]? = some x → r = .ref x) : Xc E m_B_marked 1 0 0 [.ref (o + 10 + 6 * p)] h (Ex (some r) h) := by
  have hp12 : p < 12 := by have := v.1; omega
  have zp := z.2.2.2.2.2 p hp
  have hms := (v.2.2 p hp).2.2.2.1.1
  have hmk := (v.2.2 p hp).2.2.2.2.1
  have hv : r = .null ∨ ∃ a, r = .ref a := by
    by_cases e : (pMs (oPr σ p)).length ≤ pMk (oPr σ p)
    · exact Or.inl (hr.1 e)
    · obtain ⟨x, hx⟩ := get_some (l := refsOf h 2 (o + 11 + 6 * p) (pMs (oPr σ p)).length) (k := pMk (oPr σ p)) (by rw [refsOf_len]; omega)
      exact Or.inr ⟨x, hr.2 x hx⟩
  refine c_B_marked (k1 := (z.1.2 p hp12).kmb) (k2 := (z.1.2 p hp12).kma) (f0 := (z.1.2 p hp12).ma) (f1 := (by rw [refsOf_len]; exact zp.2.2.2.1.1)) (f2 := zp.2.2.2.2.1) (hn := (by rw [refsOf_len]; exact hms)) (fm := (fun i y hy => (zp.ms hy).1)) r hv ⟨fun e => ?_, fun j x hx e => ?_⟩
  · rw [refsOf_len] at e
    rcases e with e | e
    · exact absurd e (nI_pos (by omega))
    · exact hr.1 ((nI_leI (by omega) (by omega)).mp e)
  · have hj := (refsOf_at hx).1
    have := nI_inj (by omega) (by omega) e
    subst this
    exact hr.2 x hx
theorem c_M_wait_go {E : th_E} {h : th_H} {o : Nat} {σ : Ho} (z : CR o σ h) {N p : Nat} (v : vPs N σ) (hp : p < oCt σ) (hN : N < 2 ^ 31) (l : Nat) (hm : pMk (oPr σ p) < (pMs (oPr σ p)).length) : Xc E m_M_waitOrGoOn 2 0 0 [.ref (o + 1), .ref (o + 6 + 6 * p), .int (nI l)] h (Mv o h (some (.int 1)) (sPr σ p (sPl (oPr σ p) l))) := by
  have hp12 : p < 12 := by have := v.1; omega
  have hc := v.1
  obtain ⟨x, hx⟩ := get_some (l := refsOf h 2 (o + 11 + 6 * p) (pMs (oPr σ p)).length) (k := pMk (oPr σ p)) (by rw [refsOf_len]; exact hm)
  refine Xc.of (by decide) (by simp [Value.category]) (Nat.le_of_ble_eq_true rfl) ?_
  show Xw E m_M_waitOrGoOn 2 0 0 0 [some (.ref (o + 1)), some (.ref (o + 6 + 6 * p)), some (.int (nI l))] [] h _
  refine Xw.wf (fun wf => ?_)
  refine x_aload_n d_M_waitOrGoOn_0 rfl rfl ?_
  refine x_getf (v := .ref (o + 10 + 6 * p)) d_M_waitOrGoOn_1 lf_M_119 (z.1.2 p hp12).k (z.1.2 p hp12).mb ?_
  refine x_invv d_M_waitOrGoOn_4 lm_M_123 (as := []) (S := []) (c_marked z v hN hp (.ref x) ⟨fun e => absurd e (by omega), fun y hy => by rw [hx] at hy; cases hy; rfl⟩) (z.1.2 p hp12).kmb rfl rfl rfl (Nat.le_of_ble_eq_true rfl) (Nat.le_refl 2) (Nat.le_refl 0) (Nat.le_refl 0) ?_
  rintro _ _ ⟨rfl, rfl⟩
  refine x_ifnonnull (tgt := 18) d_M_waitOrGoOn_7 rfl ?_
  refine x_aload_n d_M_waitOrGoOn_18 rfl rfl ?_
  refine x_iload_n d_M_waitOrGoOn_19 rfl rfl ?_
  refine x_invv d_M_waitOrGoOn_20 lm_M_100 (as := [.int (nI l)]) (S := []) (c_P_goTo (z.1.2 p hp12).k (nI l)) (z.1.2 p hp12).k rfl rfl rfl (Nat.le_of_ble_eq_true rfl) (by decide) (Nat.le_refl 0) (Nat.le_refl 0) ?_
  rintro _ _ ⟨rfl, rfl⟩
  exact x_iret d_M_waitOrGoOn_23 rfl rfl ⟨rfl, (z.pl wf hc hp l).1, (z.pl wf hc hp l).2⟩
theorem c_M_wait {E : th_E} {h : th_H} {o : Nat} {σ : Ho} (z : CR o σ h) {N p : Nat} (v : vPs N σ) (hp : p < oCt σ) (hN : N < 2 ^ 31) (l : Nat) (hm : (pMs (oPr σ p)).length ≤ pMk (oPr σ p)) : Xc E m_M_waitOrGoOn 2 0 0 [.ref (o + 1), .ref (o + 6 + 6 * p), .int (nI l)] h (Mv o h (some (.int 1)) (sPr (suspendM σ p) p (sPl (oPr (suspendM σ p) p) l))) := by
  have hp12 : p < 12 := by have := v.1; omega
  have hc := v.1
  refine Xc.of (by decide) (by simp [Value.category]) (Nat.le_of_ble_eq_true rfl) ?_
  show Xw E m_M_waitOrGoOn 2 0 0 0 [some (.ref (o + 1)), some (.ref (o + 6 + 6 * p)), some (.int (nI l))] [] h _
  refine Xw.wf (fun wf => ?_)
  refine x_aload_n d_M_waitOrGoOn_0 rfl rfl ?_
  refine x_getf (v := .ref (o + 10 + 6 * p)) d_M_waitOrGoOn_1 lf_M_119 (z.1.2 p hp12).k (z.1.2 p hp12).mb ?_
  refine x_invv d_M_waitOrGoOn_4 lm_M_123 (as := []) (S := []) (c_marked z v hN hp .null ⟨fun _ => rfl, fun y hy => absurd (refsOf_at hy).1 (by omega)⟩) (z.1.2 p hp12).kmb rfl rfl rfl (Nat.le_of_ble_eq_true rfl) (Nat.le_refl 2) (Nat.le_refl 0) (Nat.le_refl 0) ?_
  rintro _ _ ⟨rfl, rfl⟩
  refine x_ifnonnullN d_M_waitOrGoOn_7 ?_
  refine x_aload_n d_M_waitOrGoOn_10 rfl rfl ?_
  refine x_getf (v := .ref (o + 4)) d_M_waitOrGoOn_11 lf_M_21 z.1.1.kM z.1.1.M1 ?_
  refine x_aload_n d_M_waitOrGoOn_14 rfl rfl ?_
  refine x_invv d_M_waitOrGoOn_15 lm_M_169 (as := [.ref (o + 6 + 6 * p)]) (S := []) (c_S_suspend z hc hp v.len (fun y hy => by have := (v.2.1.2.1 y hy).1; omega)) z.1.1.kS rfl rfl rfl (Nat.le_of_ble_eq_true rfl) (Nat.le_refl 2) (Nat.le_refl 0) (Nat.le_refl 0) ?_
  rintro _ h1 ⟨rfl, z1, chg1⟩
  refine Xw.wf (fun wf1 => ?_)
  refine x_aload_n d_M_waitOrGoOn_18 rfl rfl ?_
  refine x_iload_n d_M_waitOrGoOn_19 rfl rfl ?_
  refine x_invv d_M_waitOrGoOn_20 lm_M_100 (as := [.int (nI l)]) (S := []) (c_P_goTo (z1.1.2 p hp12).k (nI l)) (z1.1.2 p hp12).k rfl rfl rfl (Nat.le_of_ble_eq_true rfl) (by decide) (Nat.le_refl 0) (Nat.le_refl 0) ?_
  rintro _ _ ⟨rfl, rfl⟩
  exact x_iret d_M_waitOrGoOn_23 rfl rfl ⟨rfl, (z1.pl wf1 hc hp l).1, chg1.tr (z1.pl wf1 hc hp l).2⟩
theorem c_M_trap1 {E : th_E} {h : th_H} {o : Nat} {σ : Ho} (z : CR o σ h) {N p : Nat} (v : vPs N σ) (hp : p < oCt σ) : Xc E m_M_trap 0 0 0 [.ref (o + 6 + 6 * p), .int 1] h (Mv o h (some (.int 1)) (sPr σ p (sTr (oPr σ p) true))) := by
  have hp12 : p < 12 := by have := v.1; omega
  have hc := v.1
  refine Xc.of (by decide) (by simp [Value.category]) (Nat.le_of_ble_eq_true rfl) ?_
  show Xw E m_M_trap 0 0 0 0 [some (.ref (o + 6 + 6 * p)), some (.int 1)] [] h _
  refine Xw.wf (fun wf => ?_)
  refine x_aload_n d_M_trap_0 rfl rfl ?_
  refine x_iload_n d_M_trap_1 rfl rfl ?_
  refine x_putf d_M_trap_2 lp_M_188 (z.1.2 p hp12).k (Or.inr rfl) ?_
  refine x_iconst (v := 1) d_M_trap_5 (by decide) ?_
  exact x_iret d_M_trap_6 rfl rfl ⟨rfl, (z.trp wf hc hp true).1, (z.trp wf hc hp true).2⟩
theorem c_M_trap0 {E : th_E} {h : th_H} {o : Nat} {σ : Ho} (z : CR o σ h) {N p : Nat} (v : vPs N σ) (hp : p < oCt σ) : Xc E m_M_trap 0 0 0 [.ref (o + 6 + 6 * p), .int 0] h (Mv o h (some (.int 1)) (sPr σ p (sTr (oPr σ p) false))) := by
  have hp12 : p < 12 := by have := v.1; omega
  have hc := v.1
  refine Xc.of (by decide) (by simp [Value.category]) (Nat.le_of_ble_eq_true rfl) ?_
  show Xw E m_M_trap 0 0 0 0 [some (.ref (o + 6 + 6 * p)), some (.int 0)] [] h _
  refine Xw.wf (fun wf => ?_)
  refine x_aload_n d_M_trap_0 rfl rfl ?_
  refine x_iload_n d_M_trap_1 rfl rfl ?_
  refine x_putf d_M_trap_2 lp_M_188 (z.1.2 p hp12).k (Or.inl rfl) ?_
  refine x_iconst (v := 1) d_M_trap_5 (by decide) ?_
  exact x_iret d_M_trap_6 rfl rfl ⟨rfl, (z.trp wf hc hp false).1, (z.trp wf hc hp false).2⟩
theorem c_M_finish {E : th_E} {h : th_H} {o : Nat} {σ : Ho} (z : CR o σ h) {N p : Nat} (v : vPs N σ) (hp : p < oCt σ) {r : Tm} {x : Nat} (hr : vTm r) (hx : TR h r x) : Xc E m_M_finish 51 (2 * endC σ p r) (10 * endC σ p r) [.ref (o + 1), .ref (o + 6 + 6 * p), .ref x] h (Mv o h (some (.int 1)) (endM σ p r)) := by
  have hp12 : p < 12 := by have := v.1; omega
  have hc := v.1
  refine Xc.of (by decide) (by simp [Value.category]) (Nat.le_of_ble_eq_true rfl) ?_
  show Xw E m_M_finish 51 (2 * endC σ p r) (10 * endC σ p r) 0 [some (.ref (o + 1)), some (.ref (o + 6 + 6 * p)), some (.ref x)] [] h _
  refine x_aload_n d_M_finish_0 rfl rfl ?_
  refine x_getf (v := .ref (o + 4)) d_M_finish_1 lf_M_21 z.1.1.kM z.1.1.M1 ?_
  refine x_aload_n d_M_finish_4 rfl rfl ?_
  refine x_aload_n d_M_finish_5 rfl rfl ?_
  refine x_invvN d_M_finish_6 lm_M_42 (as := [.ref (o + 6 + 6 * p), .ref x]) (S := []) (cz' := 0) (cs' := 0) (c_S_end z v hp hr hx) z.1.1.kS rfl rfl rfl (Nat.le_of_ble_eq_true rfl) (by omega) (by omega) (by omega) ?_
  rintro _ h1 ⟨rfl, z1, chg1⟩
  refine x_iconst (v := 1) d_M_finish_9 (by decide) ?_
  exact x_iret d_M_finish_10 rfl rfl ⟨rfl, z1, chg1⟩
theorem c_M_stop_no {E : th_E} {h : th_H} {o p : Nat} : Xc E m_M_stop 52 0 0 [.ref (o + 1), .ref (o + 6 + 6 * p), .null] h (Ex (some (.int 0)) h) := by
  refine Xc.of (by decide) (by simp [Value.category]) (Nat.le_of_ble_eq_true rfl) ?_
  show Xw E m_M_stop 52 0 0 0 [some (.ref (o + 1)), some (.ref (o + 6 + 6 * p)), some (.null)] [] h _
  refine x_aload_nN d_M_stop_0 rfl rfl ?_
  refine x_ifnonnullN d_M_stop_1 ?_
  refine x_iconst (v := 0) d_M_stop_4 (by decide) ?_
  exact x_iret d_M_stop_5 rfl rfl ⟨rfl, rfl⟩
theorem c_M_stop {E : th_E} {h : th_H} {o : Nat} {σ : Ho} (z : CR o σ h) {N p : Nat} (v : vPs N σ) (hp : p < oCt σ) {q : Nat} (hq : q < oCt σ) : Xc E m_M_stop 52 (2 * sigC FU σ p q aKilled) (10 * sigC FU σ p q aKilled) [.ref (o + 1), .ref (o + 6 + 6 * p), .ref (o + 6 + 6 * q)] h (Mv o h (some (.int 1)) (sigM FU σ p q aKilled)) := by
  have hp12 : p < 12 := by have := v.1; omega
  have hc := v.1
  refine Xc.of (by decide) (by simp [Value.category]) (Nat.le_of_ble_eq_true rfl) ?_
  show Xw E m_M_stop 52 (2 * sigC FU σ p q aKilled) (10 * sigC FU σ p q aKilled) 0 [some (.ref (o + 1)), some (.ref (o + 6 + 6 * p)), some (.ref (o + 6 + 6 * q))] [] h _
  refine x_aload_n d_M_stop_0 rfl rfl ?_
  refine x_ifnonnull (tgt := 6) d_M_stop_1 rfl ?_
  refine x_aload_n d_M_stop_6 rfl rfl ?_
  refine x_getf (v := .ref (o + 4)) d_M_stop_7 lf_M_21 z.1.1.kM z.1.1.M1 ?_
  refine x_aload_n d_M_stop_10 rfl rfl ?_
  refine x_aload_n d_M_stop_11 rfl rfl ?_
  refine x_aload_n d_M_stop_12 rfl rfl ?_
  refine x_getf (v := .ref (o + 4)) d_M_stop_13 lf_M_21 z.1.1.kM z.1.1.M1 ?_
  refine x_getf (v := .ref (o + 81)) d_M_stop_16 lf_M_38 z.1.1.kS z.1.1.S3 ?_
  refine x_bipush (v := 12) d_M_stop_19 (by decide) ?_
  refine x_aald (v := .ref (o + 82 + 12)) d_M_stop_21 z.1.1.kAt rfl (vp_in_nI (n := 12) (by decide) (by decide)) (by rw [show (12 : Int32).toNatClampNeg = 12 by decide]; exact (z.1.1.at 12 (by decide)).1) ?_
  refine x_invvN d_M_stop_22 lm_M_180 (as := [.ref (o + 6 + 6 * p), .ref (o + 6 + 6 * q), .ref (o + 82 + 12)]) (S := []) (cz' := 0) (cs' := 0) (c_S_signal z v hp hq (r := aKilled) ⟨Or.inl (Or.inr (Or.inl rfl)), by decide⟩ (z.1.1.at 12 (by decide)).2) z.1.1.kS rfl rfl rfl (Nat.le_of_ble_eq_true rfl) (by omega) (by omega) (by omega) ?_
  rintro _ h1 ⟨rfl, z1, chg1⟩
  refine x_iconst (v := 1) d_M_stop_25 (by decide) ?_
  exact x_iret d_M_stop_26 rfl rfl ⟨rfl, z1, chg1⟩
theorem c_M_link_no {E : th_E} {h : th_H} {o p : Nat} : Xc E m_M_link 52 0 0 [.ref (o + 1), .ref (o + 6 + 6 * p), .null] h (Ex (some (.int 0)) h) := by
  refine Xc.of (by decide) (by simp [Value.category]) (Nat.le_of_ble_eq_true rfl) ?_
  show Xw E m_M_link 52 0 0 0 [some (.ref (o + 1)), some (.ref (o + 6 + 6 * p)), some (.null)] [] h _
  refine x_aload_nN d_M_link_0 rfl rfl ?_
  refine x_ifnonnullN d_M_link_1 ?_
  refine x_iconst (v := 0) d_M_link_4 (by decide) ?_
  exact x_iret d_M_link_5 rfl rfl ⟨rfl, rfl⟩
def linkM (σ : Ho) (p q : Nat) : Ho := if pSt (oPr σ q) = 3 then sigM FU σ q p aFault else if q = p then σ else tieM σ p q
def linkC (σ : Ho) (p q : Nat) : Nat := if pSt (oPr σ q) = 3 then sigC FU σ q p aFault else 0
theorem c_M_link {E : th_E} {h : th_H} {o : Nat} {σ : Ho} (z : CR o σ h) {N p : Nat} (v : vPs N σ) (hp : p < oCt σ) {q : Nat} (hq : q < oCt σ) : Xc E m_M_link 52 (2 * linkC σ p q) (10 * linkC σ p q) [.ref (o + 1), .ref (o + 6 + 6 * p), .ref (o + 6 + 6 * q)] h (Mv o h (some (.int 1)) (linkM σ p q)) := by
  have hp12 : p < 12 := by have := v.1; omega
  have hc := v.1
  have hq12 : q < 12 := by omega
  by_cases h3 : pSt (oPr σ q) = 3
  · rw [show linkM σ p q = sigM FU σ q p aFault by rw [linkM, if_pos h3], show linkC σ p q = sigC FU σ q p aFault by rw [linkC, if_pos h3]]
    refine Xc.of (by decide) (by simp [Value.category]) (Nat.le_of_ble_eq_true rfl) ?_
    show Xw E m_M_link 52 (2 * (sigC FU σ q p aFault)) (10 * (sigC FU σ q p aFault)) 0 [some (.ref (o + 1)), some (.ref (o + 6 + 6 * p)), some (.ref (o + 6 + 6 * q))] [] h _
    refine x_aload_n d_M_link_0 rfl rfl ?_
    refine x_ifnonnull (tgt := 6) d_M_link_1 rfl ?_
    refine x_aload_n d_M_link_6 rfl rfl ?_
    refine x_getf (v := .int (nI (pSt (oPr σ q)))) d_M_link_7 lf_M_177 (z.1.2 q hq12).k (z.2.2.2.2.2 q hq).2.2.2.2.2.2.2.1 ?_
    refine x_iconst (v := (nI 3)) d_M_link_10 (by decide) ?_
    refine x_icmp_ne (tgt := 36) d_M_link_11 rfl (fun w_ => absurd (by rw [h3]) w_) (fun q11 => ?_)
    refine x_aload_n d_M_link_14 rfl rfl ?_
    refine x_getf (v := .ref (o + 4)) d_M_link_15 lf_M_21 z.1.1.kM z.1.1.M1 ?_
    refine x_aload_n d_M_link_18 rfl rfl ?_
    refine x_aload_n d_M_link_19 rfl rfl ?_
    refine x_aload_n d_M_link_20 rfl rfl ?_
    refine x_getf (v := .ref (o + 4)) d_M_link_21 lf_M_21 z.1.1.kM z.1.1.M1 ?_
    refine x_getf (v := .ref (o + 81)) d_M_link_24 lf_M_38 z.1.1.kS z.1.1.S3 ?_
    refine x_bipush (v := 13) d_M_link_27 (by decide) ?_
    refine x_aald (v := .ref (o + 82 + 13)) d_M_link_29 z.1.1.kAt rfl (vp_in_nI (n := 13) (by decide) (by decide)) (by rw [show (13 : Int32).toNatClampNeg = 13 by decide]; exact (z.1.1.at 13 (by decide)).1) ?_
    refine x_invvN d_M_link_30 lm_M_180 (as := [.ref (o + 6 + 6 * q), .ref (o + 6 + 6 * p), .ref (o + 82 + 13)]) (S := []) (cz' := 0) (cs' := 0) (c_S_signal z v hq hp (r := aFault) ⟨Or.inl (Or.inr (Or.inl rfl)), by decide⟩ (z.1.1.at 13 (by decide)).2) z.1.1.kS rfl rfl rfl (Nat.le_of_ble_eq_true rfl) (by omega) (by omega) (by omega) ?_
    rintro _ h1 ⟨rfl, z1, chg1⟩
    refine x_goto (tgt := 50) d_M_link_33 rfl ?_
    refine x_iconst (v := 1) d_M_link_50 (by decide) ?_
    exact x_iret d_M_link_51 rfl rfl ⟨rfl, z1, chg1⟩
  by_cases hqp : q = p
  · rw [show linkM σ p q = σ by rw [linkM, if_neg h3, if_pos hqp], show linkC σ p q = 0 by rw [linkC, if_neg h3]]
    refine Xc.of (by decide) (by simp [Value.category]) (Nat.le_of_ble_eq_true rfl) ?_
    show Xw E m_M_link 52 (2 * 0) (10 * 0) 0 [some (.ref (o + 1)), some (.ref (o + 6 + 6 * p)), some (.ref (o + 6 + 6 * q))] [] h _
    refine x_aload_n d_M_link_0 rfl rfl ?_
    refine x_ifnonnull (tgt := 6) d_M_link_1 rfl ?_
    refine x_aload_n d_M_link_6 rfl rfl ?_
    refine x_getf (v := .int (nI (pSt (oPr σ q)))) d_M_link_7 lf_M_177 (z.1.2 q hq12).k (z.2.2.2.2.2 q hq).2.2.2.2.2.2.2.1 ?_
    refine x_iconst (v := (nI 3)) d_M_link_10 (by decide) ?_
    refine x_icmp_ne (tgt := 36) d_M_link_11 rfl (fun q11 => ?_) (fun w_ => absurd w_ (fun e => h3 (nI_inj (by have := (v.2.2 q hq).2.2.2.2.2.1; omega) (by decide) e)))
    refine x_aload_n d_M_link_36 rfl rfl ?_
    refine x_aload_n d_M_link_37 rfl rfl ?_
    refine x_acmp_eq (tgt := 50) d_M_link_38 rfl (fun q38 => ?_) (fun w_ => absurd (by rw [hqp]) w_)
    refine x_iconst (v := 1) d_M_link_50 (by decide) ?_
    exact x_iret d_M_link_51 rfl rfl ⟨rfl, z, Chg.rf o h⟩
  rw [show linkM σ p q = tieM σ p q by rw [linkM, if_neg h3, if_neg hqp], show linkC σ p q = 0 by rw [linkC, if_neg h3]]
  refine Xc.of (by decide) (by simp [Value.category]) (Nat.le_of_ble_eq_true rfl) ?_
  show Xw E m_M_link 52 (2 * 0) (10 * 0) 0 [some (.ref (o + 1)), some (.ref (o + 6 + 6 * p)), some (.ref (o + 6 + 6 * q))] [] h _
  refine x_aload_n d_M_link_0 rfl rfl ?_
  refine x_ifnonnull (tgt := 6) d_M_link_1 rfl ?_
  refine x_aload_n d_M_link_6 rfl rfl ?_
  refine x_getf (v := .int (nI (pSt (oPr σ q)))) d_M_link_7 lf_M_177 (z.1.2 q hq12).k (z.2.2.2.2.2 q hq).2.2.2.2.2.2.2.1 ?_
  refine x_iconst (v := (nI 3)) d_M_link_10 (by decide) ?_
  refine x_icmp_ne (tgt := 36) d_M_link_11 rfl (fun q11 => ?_) (fun w_ => absurd w_ (fun e => h3 (nI_inj (by have := (v.2.2 q hq).2.2.2.2.2.1; omega) (by decide) e)))
  refine x_aload_n d_M_link_36 rfl rfl ?_
  refine x_aload_n d_M_link_37 rfl rfl ?_
  refine x_acmp_eq (tgt := 50) d_M_link_38 rfl (fun w_ => absurd w_ (by omega)) (fun q38 => ?_)
  refine x_aload_n d_M_link_41 rfl rfl ?_
  refine x_getf (v := .ref (o + 4)) d_M_link_42 lf_M_21 z.1.1.kM z.1.1.M1 ?_
  refine x_aload_n d_M_link_45 rfl rfl ?_
  refine x_aload_n d_M_link_46 rfl rfl ?_
  refine x_invv d_M_link_47 lm_M_184 (as := [.ref (o + 6 + 6 * p), .ref (o + 6 + 6 * q)]) (S := []) (cz' := 0) (cs' := 0) (c_S_tie z hc hp hq (Ne.symm hqp)) z.1.1.kS rfl rfl rfl (Nat.le_of_ble_eq_true rfl) (by omega) (by omega) (by omega) ?_
  rintro _ h1 ⟨rfl, z1, chg1⟩
  refine x_iconst (v := 1) d_M_link_50 (by decide) ?_
  exact x_iret d_M_link_51 rfl rfl ⟨rfl, z1, chg1⟩
theorem c_M_spawn_no {E : th_E} {h : th_H} {o : Nat} {σ : Ho} (z : CR o σ h) {N p : Nat} (v : vPs N σ) (hp : p < oCt σ) {a l x : Nat} (hf : 12 ≤ oCt σ) : Xc E m_M_spawn 3 0 0 [.ref (o + 1), .ref (o + 6 + 6 * p), .int (nI a), .int (nI l), .ref x] h (Ex (some (.int 0)) h) := by
  have hp12 : p < 12 := by have := v.1; omega
  have hc := v.1
  refine Xc.of (by decide) (by simp [Value.category]) (Nat.le_of_ble_eq_true rfl) ?_
  show Xw E m_M_spawn 3 0 0 0 [some (.ref (o + 1)), some (.ref (o + 6 + 6 * p)), some (.int (nI a)), some (.int (nI l)), some (.ref x), none] [] h _
  refine x_aload_n d_M_spawn_0 rfl rfl ?_
  refine x_getf (v := .ref (o + 4)) d_M_spawn_1 lf_M_21 z.1.1.kM z.1.1.M1 ?_
  refine x_iload_n d_M_spawn_4 rfl rfl ?_
  refine x_aload d_M_spawn_5 rfl ?_
  refine x_invv d_M_spawn_7 lm_M_173 (as := [.int (nI l), .ref x]) (S := []) (c_S_start_no z hc hf) z.1.1.kS rfl rfl rfl (Nat.le_of_ble_eq_true rfl) (Nat.le_refl 3) (Nat.le_refl 0) (Nat.le_refl 0) ?_
  rintro _ _ ⟨rfl, rfl⟩
  refine x_astoreN d_M_spawn_10 (by decide) (L' := [some (.ref (o + 1)), some (.ref (o + 6 + 6 * p)), some (.int (nI a)), some (.int (nI l)), some (.ref x), some (.null)]) rfl ?_
  refine x_aloadN d_M_spawn_12 rfl ?_
  refine x_ifnullN (tgt := 34) d_M_spawn_14 rfl ?_
  refine x_iconst (v := 0) d_M_spawn_34 (by decide) ?_
  exact x_iret d_M_spawn_35 rfl rfl ⟨rfl, rfl⟩
def spawnM (σ : Ho) (p a l : Nat) (t : Tm) : Ho := sPr (startM σ l t) p (sRg (oPr (startM σ l t) p) a (.leaf (2, nI (oCt σ))))
theorem nodup_room {N : Nat} {σ : Ho} (v : vPs N σ) (hf : oCt σ < 12) : (oQu σ).length < 12 := Nat.lt_of_le_of_lt (nodup_len _ _ v.2.1.1 (fun x hx => (v.2.1.2.1 x hx).1)) hf
theorem c_M_spawn {E : th_E} {h : th_H} {o : Nat} {σ : Ho} (z : CR o σ h) {N p : Nat} (v : vPs N σ) (hp : p < oCt σ) {a l x : Nat} {t : Tm} (hf : oCt σ < 12) (ha : a < 8) (hx : TR h t x) : Xc E m_M_spawn 3 0 0 [.ref (o + 1), .ref (o + 6 + 6 * p), .int (nI a), .int (nI l), .ref x] h (Mv o h (some (.int 1)) (spawnM σ p a l t)) := by
  have hp12 : p < 12 := by have := v.1; omega
  have hc := v.1
  refine Xc.of (by decide) (by simp [Value.category]) (Nat.le_of_ble_eq_true rfl) ?_
  show Xw E m_M_spawn 3 0 0 0 [some (.ref (o + 1)), some (.ref (o + 6 + 6 * p)), some (.int (nI a)), some (.int (nI l)), some (.ref x), none] [] h _
  refine x_aload_n d_M_spawn_0 rfl rfl ?_
  refine x_getf (v := .ref (o + 4)) d_M_spawn_1 lf_M_21 z.1.1.kM z.1.1.M1 ?_
  refine x_iload_n d_M_spawn_4 rfl rfl ?_
  refine x_aload d_M_spawn_5 rfl ?_
  refine x_invv d_M_spawn_7 lm_M_173 (as := [.int (nI l), .ref x]) (S := []) (c_S_start z hf (nodup_room v hf) hx) z.1.1.kS rfl rfl rfl (Nat.le_of_ble_eq_true rfl) (Nat.le_refl 3) (Nat.le_refl 0) (Nat.le_refl 0) ?_
  rintro _ h1 ⟨rfl, z1, chg1⟩
  refine Xw.wf (fun wf1 => ?_)
  refine x_astore d_M_spawn_10 (by decide) (L' := [some (.ref (o + 1)), some (.ref (o + 6 + 6 * p)), some (.int (nI a)), some (.int (nI l)), some (.ref x), some (.ref (o + 6 + 6 * oCt σ))]) rfl ?_
  refine x_aload d_M_spawn_12 rfl ?_
  refine x_ifnull d_M_spawn_14 ?_
  refine x_aload_n d_M_spawn_17 rfl rfl ?_
  refine x_iload_n d_M_spawn_18 rfl rfl ?_
  refine x_aload d_M_spawn_19 rfl ?_
  refine x_getf (v := .ref (o + 7 + 6 * oCt σ)) d_M_spawn_21 lf_M_66 (z1.1.2 _ hf).k (z1.1.2 _ hf).pid ?_
  refine x_invv d_M_spawn_24 lm_M_62 (as := [.int (nI a), .ref (o + 7 + 6 * oCt σ)]) (S := []) (c_P_set (z1.1.2 p hp12).k (z1.1.2 p hp12).kr (z1.1.2 p hp12).rg ha (z1.1.2 _ hf).tp.k) (z1.1.2 p hp12).k rfl rfl rfl (Nat.le_of_ble_eq_true rfl) (by decide) (Nat.le_refl 0) (Nat.le_refl 0) ?_
  rintro _ _ ⟨rfl, rfl⟩
  refine x_if_eq (tgt := 34) d_M_spawn_27 rfl (fun w_ => absurd w_ (by decide)) (fun q27 => ?_)
  refine x_iconst (v := 1) d_M_spawn_30 (by decide) ?_
  refine x_goto (tgt := 35) d_M_spawn_31 rfl ?_
  exact x_iret d_M_spawn_35 rfl rfl ⟨rfl, (z1.reg wf1 hf (show p < oCt σ + 1 by omega) (z1.1.2 _ hf).tp).1, chg1.tr (z1.reg wf1 hf (show p < oCt σ + 1 by omega) (z1.1.2 _ hf).tp).2⟩
