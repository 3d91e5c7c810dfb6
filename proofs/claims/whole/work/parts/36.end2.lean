/-! Society: signal, end (printed by wip/gen/mod_end2.py). -/
theorem c_S_signal_of {E : th_E} {h : th_H} {o : Nat} {σ : Ho} (z : CR o σ h) {N n p q x d : Nat} {r : Tm} (lp : Lp E o N n) (v : vPs N σ) (hp : p < oCt σ) (hq : q < oCt σ) (hr : vTm r) (hx : TR h r x) (hn : ¬ pSt (oPr σ q) = 3 → ¬ pTr (oPr σ q) = true → ¬ isN r = true → 13 * live (stopM σ q r) + 13 ≤ n + 0) (hd0 : 18 ≤ d) (hd : ¬ pSt (oPr σ q) = 3 → ¬ pTr (oPr σ q) = true → ¬ isN r = true → 2 * live (stopM σ q r) + 21 ≤ d) : Xc E m_S_signal d (2 * sigC n σ p q r) (10 * sigC n σ p q r) [.ref (o + 4), .ref (o + 6 + 6 * p), .ref (o + 6 + 6 * q), .ref x] h (Mv o h none (sigM n σ p q r)) := by
  have hp12 : p < 12 := by have := v.1; omega
  have hq12 : q < 12 := by have := v.1; omega
  by_cases h3 : pSt (oPr σ q) = 3
  · rw [show sigM n σ p q r = σ by rw [sigM, if_pos h3], show sigC n σ p q r = 0 by rw [sigC, if_pos h3]]
    refine Xc.of (by decide) (by simp [Value.category]) (Nat.le_of_ble_eq_true rfl) ?_
    show Xw E m_S_signal d (2 * 0) (10 * 0) 0 [some (.ref (o + 4)), some (.ref (o + 6 + 6 * p)), some (.ref (o + 6 + 6 * q)), some (.ref x)] [] h _
    refine Xw.wf (fun wf => ?_)
    refine x_aload_n d_S_signal_0 rfl rfl ?_
    refine x_getf (v := .int (nI (pSt (oPr σ q)))) d_S_signal_1 lf_S_65 (z.1.2 q hq12).k (z.2.2.2.2.2 q hq).2.2.2.2.2.2.2.1 ?_
    refine x_iconst (v := (nI 3)) d_S_signal_4 (by decide) ?_
    refine x_icmp_ne (tgt := 9) d_S_signal_5 rfl (fun w_ => absurd (by rw [h3]) w_) (fun q5 => ?_)
    exact x_ret ⟨rfl, z, Chg.rf o h⟩ rfl d_S_signal_8
  by_cases h4 : pTr (oPr σ q) = true
  · rw [show sigM n σ p q r = deliverM σ q (noticeM p r) by rw [sigM, if_neg h3, if_pos h4], show sigC n σ p q r = 1 by rw [sigC, if_neg h3, if_pos h4]]
    refine Xc.of (by decide) (by simp [Value.category]) (Nat.le_of_ble_eq_true rfl) ?_
    show Xw E m_S_signal d (2 * 1) (10 * 1) 0 [some (.ref (o + 4)), some (.ref (o + 6 + 6 * p)), some (.ref (o + 6 + 6 * q)), some (.ref x)] [] h _
    refine Xw.wf (fun wf => ?_)
    refine x_aload_n d_S_signal_0 rfl rfl ?_
    refine x_getf (v := .int (nI (pSt (oPr σ q)))) d_S_signal_1 lf_S_65 (z.1.2 q hq12).k (z.2.2.2.2.2 q hq).2.2.2.2.2.2.2.1 ?_
    refine x_iconst (v := (nI 3)) d_S_signal_4 (by decide) ?_
    refine x_icmp_ne (tgt := 9) d_S_signal_5 rfl (fun q5 => ?_) (fun w_ => absurd w_ (fun e => h3 (nI_inj (by have := (v.2.2 q hq).2.2.2.2.2.1; omega) (by decide) e)))
    refine x_aload_n d_S_signal_9 rfl rfl ?_
    refine x_getf (v := .int 1) d_S_signal_10 lf_S_95 (z.1.2 q hq12).k (by rw [(z.2.2.2.2.2 q hq).2.2.2.2.2.2.1, h4]; rfl) ?_
    refine x_if_eq (tgt := 30) d_S_signal_13 rfl (fun w_ => absurd w_ (by decide)) (fun q13 => ?_)
    refine x_aload_n d_S_signal_16 rfl rfl ?_
    refine x_aload_n d_S_signal_17 rfl rfl ?_
    refine x_aload_n d_S_signal_18 rfl rfl ?_
    refine x_aload_n d_S_signal_19 rfl rfl ?_
    refine x_aload_n d_S_signal_20 rfl rfl ?_
    refine x_invv d_S_signal_21 lm_S_99 (as := [.ref (o + 6 + 6 * p), .ref x]) (S := [.ref (o + 6 + 6 * q), .ref (o + 4)]) (cz' := 0) (cs' := 0) (c_S_exitNotice z v.1 hp hx hr.2) z.1.1.kS rfl rfl rfl (Nat.le_of_ble_eq_true rfl) (by omega) (by omega) (by omega) ?_
    rintro _ h1 ⟨rfl, hnew, hno⟩
    have z1 := z.new v.1 wf hnew
    refine x_invv d_S_signal_24 lm_S_103 (as := [.ref (o + 6 + 6 * q), .ref (gz h)]) (S := []) (cz' := 0) (cs' := 0) (c_S_deliver z1 v.1 hq (v.2.2 q hq).2.2.2.1.1 (by have := (v.2.2 q hq).2.2.2.2.2.1; omega) (fun e => v.room hq (by omega)) hno) z1.1.1.kS rfl rfl rfl (Nat.le_of_ble_eq_true rfl) (by omega) (by omega) (by omega) ?_
    rintro _ h2 ⟨rfl, z2, chg2⟩
    refine x_goto (tgt := 50) d_S_signal_27 rfl ?_
    exact x_ret ⟨rfl, z2, (hnew.chg o).tr chg2⟩ rfl d_S_signal_50
  by_cases h5 : isN r = true
  · rw [show sigM n σ p q r = σ by rw [sigM, if_neg h3, if_neg h4, if_pos h5], show sigC n σ p q r = 0 by rw [sigC, if_neg h3, if_neg h4, if_pos h5]]
    refine Xc.of (by decide) (by simp [Value.category]) (Nat.le_of_ble_eq_true rfl) ?_
    show Xw E m_S_signal d (2 * 0) (10 * 0) 0 [some (.ref (o + 4)), some (.ref (o + 6 + 6 * p)), some (.ref (o + 6 + 6 * q)), some (.ref x)] [] h _
    refine Xw.wf (fun wf => ?_)
    refine x_aload_n d_S_signal_0 rfl rfl ?_
    refine x_getf (v := .int (nI (pSt (oPr σ q)))) d_S_signal_1 lf_S_65 (z.1.2 q hq12).k (z.2.2.2.2.2 q hq).2.2.2.2.2.2.2.1 ?_
    refine x_iconst (v := (nI 3)) d_S_signal_4 (by decide) ?_
    refine x_icmp_ne (tgt := 9) d_S_signal_5 rfl (fun q5 => ?_) (fun w_ => absurd w_ (fun e => h3 (nI_inj (by have := (v.2.2 q hq).2.2.2.2.2.1; omega) (by decide) e)))
    refine x_aload_n d_S_signal_9 rfl rfl ?_
    refine x_getf (v := .int 0) d_S_signal_10 lf_S_95 (z.1.2 q hq12).k (by rw [(z.2.2.2.2.2 q hq).2.2.2.2.2.2.1, eq_false_of_ne_true h4]; rfl) ?_
    refine x_if_eq (tgt := 30) d_S_signal_13 rfl (fun q13 => ?_) (fun w_ => absurd rfl w_)
    refine x_aload_n d_S_signal_30 rfl rfl ?_
    refine x_aload_n d_S_signal_31 rfl rfl ?_
    refine x_getf (v := .ref (o + 81)) d_S_signal_32 lf_S_36 z.1.1.kS z.1.1.S3 ?_
    refine x_bipush (v := 14) d_S_signal_35 (by decide) ?_
    refine x_aald (v := .ref (o + 82 + 14)) d_S_signal_37 z.1.1.kAt rfl (vp_in_nI (n := 14) (by decide) (by decide)) (by rw [show (14 : Int32).toNatClampNeg = 14 by decide]; exact (z.1.1.at 14 (by decide)).1) ?_
    refine x_invsN d_S_signal_38 lm_S_107 (as := [.ref x, .ref (o + 82 + 14)]) (S := []) (cz' := 2 * 0) (cs' := 10 * 0) (c_T_alike r aNormal x (o + 82 + 14) (d - 1) 1 hx (z.1.1.at 14 (by decide)).2 hr.1 (Or.inl (Or.inr (Or.inl rfl))) (by have := hr.2; omega) ⟨fun _ => rfl, fun e => absurd ((isN_iff r).mp h5) e⟩) rfl rfl (Nat.le_of_ble_eq_true rfl) (by omega) (by omega) (by omega) ?_
    rintro _ _ ⟨rfl, rfl⟩
    refine x_if_ne (tgt := 50) d_S_signal_41 rfl (fun q41 => ?_) (fun w_ => absurd w_ (by decide))
    exact x_ret ⟨rfl, z, Chg.rf o h⟩ rfl d_S_signal_50
  have hn := hn h3 h4 h5
  have hd := hd h3 h4 h5
  rw [show sigM n σ p q r = loopM n (stopM σ q r) q r 0 by rw [sigM, if_neg h3, if_neg h4, if_neg h5], show sigC n σ p q r = loopC n (stopM σ q r) q r 0 by rw [sigC, if_neg h3, if_neg h4, if_neg h5]]
  refine Xc.of (by decide) (by simp [Value.category]) (Nat.le_of_ble_eq_true rfl) ?_
  show Xw E m_S_signal d (2 * (loopC n (stopM σ q r) q r 0)) (10 * (loopC n (stopM σ q r) q r 0)) 0 [some (.ref (o + 4)), some (.ref (o + 6 + 6 * p)), some (.ref (o + 6 + 6 * q)), some (.ref x)] [] h _
  refine Xw.wf (fun wf => ?_)
  refine x_aload_n d_S_signal_0 rfl rfl ?_
  refine x_getf (v := .int (nI (pSt (oPr σ q)))) d_S_signal_1 lf_S_65 (z.1.2 q hq12).k (z.2.2.2.2.2 q hq).2.2.2.2.2.2.2.1 ?_
  refine x_iconst (v := (nI 3)) d_S_signal_4 (by decide) ?_
  refine x_icmp_ne (tgt := 9) d_S_signal_5 rfl (fun q5 => ?_) (fun w_ => absurd w_ (fun e => h3 (nI_inj (by have := (v.2.2 q hq).2.2.2.2.2.1; omega) (by decide) e)))
  refine x_aload_n d_S_signal_9 rfl rfl ?_
  refine x_getf (v := .int 0) d_S_signal_10 lf_S_95 (z.1.2 q hq12).k (by rw [(z.2.2.2.2.2 q hq).2.2.2.2.2.2.1, eq_false_of_ne_true h4]; rfl) ?_
  refine x_if_eq (tgt := 30) d_S_signal_13 rfl (fun q13 => ?_) (fun w_ => absurd rfl w_)
  refine x_aload_n d_S_signal_30 rfl rfl ?_
  refine x_aload_n d_S_signal_31 rfl rfl ?_
  refine x_getf (v := .ref (o + 81)) d_S_signal_32 lf_S_36 z.1.1.kS z.1.1.S3 ?_
  refine x_bipush (v := 14) d_S_signal_35 (by decide) ?_
  refine x_aald (v := .ref (o + 82 + 14)) d_S_signal_37 z.1.1.kAt rfl (vp_in_nI (n := 14) (by decide) (by decide)) (by rw [show (14 : Int32).toNatClampNeg = 14 by decide]; exact (z.1.1.at 14 (by decide)).1) ?_
  refine x_invsN d_S_signal_38 lm_S_107 (as := [.ref x, .ref (o + 82 + 14)]) (S := []) (cz' := 2 * (loopC n (stopM σ q r) q r 0)) (cs' := 10 * (loopC n (stopM σ q r) q r 0)) (c_T_alike r aNormal x (o + 82 + 14) (d - 1) 0 hx (z.1.1.at 14 (by decide)).2 hr.1 (Or.inl (Or.inr (Or.inl rfl))) (by have := hr.2; omega) ⟨fun e => absurd ((isN_iff r).mpr e) h5, fun _ => rfl⟩) rfl rfl (Nat.le_of_ble_eq_true rfl) (by omega) (by omega) (by omega) ?_
  rintro _ _ ⟨rfl, rfl⟩
  refine x_if_ne (tgt := 50) d_S_signal_41 rfl (fun w_ => absurd rfl w_) (fun q41 => ?_)
  refine x_aload_n d_S_signal_44 rfl rfl ?_
  refine x_aload_n d_S_signal_45 rfl rfl ?_
  refine x_aload_n d_S_signal_46 rfl rfl ?_
  refine x_invv d_S_signal_47 lm_S_111 (as := [.ref (o + 6 + 6 * q), .ref x]) (S := []) (cz' := 0) (cs' := 0) (c_S_end_of (d := d - 1) z lp v hq hr hx h3 hn (by omega)) z.1.1.kS rfl rfl rfl (Nat.le_of_ble_eq_true rfl) (by omega) (by omega) (by omega) ?_
  rintro _ h2 ⟨rfl, z2, chg2⟩
  exact x_ret ⟨rfl, z2, chg2⟩ rfl d_S_signal_50
theorem Lp_step {E : th_E} {o N n : Nat} (lp : Lp E o N n) : Lp E o N (n + 1) := by
  intro σ h p r x q d z v hp hr hx hq hn hd
  have hp12 : p < 12 := by have := v.1; omega
  have hc := v.1
  by_cases c1 : oCt σ ≤ q
  · rw [show loopM (n + 1) σ p r q = σ by rw [loopM, if_pos c1], show loopC (n + 1) σ p r q = 0 by rw [loopC, if_pos c1]]
    refine x_iload_n d_S_end_32 rfl rfl ?_
    refine x_aload_n d_S_end_33 rfl rfl ?_
    refine x_getf (v := .int (nI (oCt σ))) d_S_end_34 lf_S_40 z.1.1.kS z.2.2.2.2.1 ?_
    refine x_icmp_ge (tgt := 80) d_S_end_37 rfl (fun q37 => ?_) (fun w_ => absurd (nI_le c1 (by omega)) w_)
    exact x_ret ⟨rfl, z, Chg.rf o h⟩ rfl d_S_end_80
  have hq12 : q < 12 := by omega
  have hq : q < oCt σ := by omega
  by_cases c2 : pLk (oPr σ p) &&& bitM q = 0
  · rw [show loopM (n + 1) σ p r q = loopM n σ p r (q + 1) by rw [loopM, if_neg c1, if_pos c2], show loopC (n + 1) σ p r q = loopC n σ p r (q + 1) by rw [loopC, if_neg c1, if_pos c2]]
    refine x_iload_n d_S_end_32 rfl rfl ?_
    refine x_aload_n d_S_end_33 rfl rfl ?_
    refine x_getf (v := .int (nI (oCt σ))) d_S_end_34 lf_S_40 z.1.1.kS z.2.2.2.2.1 ?_
    refine x_icmp_ge (tgt := 80) d_S_end_37 rfl (fun w_ => absurd w_ (nI_ge (by omega) (by omega))) (fun q37 => ?_)
    refine x_aload_n d_S_end_40 rfl rfl ?_
    refine x_getf (v := .int (pLk (oPr σ p))) d_S_end_41 lf_S_81 (z.1.2 p hp12).k (z.2.2.2.2.2 p hp).2.2.2.2.2.1 ?_
    refine x_iconst (v := 1) d_S_end_44 (by decide) ?_
    refine x_iload_n d_S_end_45 rfl rfl ?_
    refine x_ishl (v := ((1 : Int32) <<< ((nI q) &&& 31))) d_S_end_46 rfl ?_
    refine x_iand (v := ((pLk (oPr σ p)) &&& ((1 : Int32) <<< ((nI q) &&& 31)))) d_S_end_47 rfl ?_
    refine x_if_eq (tgt := 74) d_S_end_48 rfl (fun q48 => ?_) (fun w_ => absurd c2 w_)
    refine x_iinc d_S_end_74 rfl (v := (nI (q + 1))) (nI_1 _) (by decide) (L' := [some (.ref (o + 4)), some (.ref (o + 6 + 6 * p)), some (.ref x), some (.int (nI (q + 1)))]) rfl ?_
    refine x_goto (tgt := 32) d_S_end_77 rfl ?_
    exact lp σ h p r x (q + 1) d z v hp hr hx (by omega) (by omega) hd
  rw [loopM_link c1 c2, loopC_link c1 c2]
  refine Xw.wf (fun wf => ?_)
  have v1 := v.untie hp hq
  have l1 := live_untie σ p q
  obtain ⟨v2, ct2, l2⟩ := sig_v (n := n) v1 hp hq hr
  have hun : Xc E m_S_untie 0 0 0 [.ref (o + 4), .ref (o + 6 + 6 * p), .ref (o + 6 + 6 * q)] h (Mv o h none (untieM σ p q)) := by
    by_cases e : p = q
    · subst e; exact c_S_untie_self z v.1 hp
    · exact c_S_untie z v.1 hp hq e
  refine x_iload_n d_S_end_32 rfl rfl ?_
  refine x_aload_n d_S_end_33 rfl rfl ?_
  refine x_getf (v := .int (nI (oCt σ))) d_S_end_34 lf_S_40 z.1.1.kS z.2.2.2.2.1 ?_
  refine x_icmp_ge (tgt := 80) d_S_end_37 rfl (fun w_ => absurd w_ (nI_ge (by omega) (by omega))) (fun q37 => ?_)
  refine x_aload_n d_S_end_40 rfl rfl ?_
  refine x_getf (v := .int (pLk (oPr σ p))) d_S_end_41 lf_S_81 (z.1.2 p hp12).k (z.2.2.2.2.2 p hp).2.2.2.2.2.1 ?_
  refine x_iconst (v := 1) d_S_end_44 (by decide) ?_
  refine x_iload_n d_S_end_45 rfl rfl ?_
  refine x_ishl (v := ((1 : Int32) <<< ((nI q) &&& 31))) d_S_end_46 rfl ?_
  refine x_iand (v := ((pLk (oPr σ p)) &&& ((1 : Int32) <<< ((nI q) &&& 31)))) d_S_end_47 rfl ?_
  refine x_if_eq (tgt := 74) d_S_end_48 rfl (fun w_ => absurd w_ c2) (fun q48 => ?_)
  refine x_aload_n d_S_end_51 rfl rfl ?_
  refine x_aload_n d_S_end_52 rfl rfl ?_
  refine x_aload_n d_S_end_53 rfl rfl ?_
  refine x_getf (v := .ref (o + 5)) d_S_end_54 lf_S_11 z.1.1.kS z.1.1.S0 ?_
  refine x_iload_n d_S_end_57 rfl rfl ?_
  refine x_aald (v := .ref (o + 6 + 6 * q)) d_S_end_58 z.1.1.kT rfl (vp_in_nI (by omega) (by decide)) (by rw [nI_cl (by omega)]; exact z.1.1.tab q hq12) ?_
  refine x_invv d_S_end_59 lm_S_87 (as := [.ref (o + 6 + 6 * p), .ref (o + 6 + 6 * q)]) (S := []) (cz' := 2 * (sigC n (untieM σ p q) p q r + loopC n (sigM n (untieM σ p q) p q r) p r (q + 1))) (cs' := 10 * (sigC n (untieM σ p q) p q r + loopC n (sigM n (untieM σ p q) p q r) p r (q + 1))) hun z.1.1.kS rfl rfl rfl (Nat.le_of_ble_eq_true rfl) (by omega) (by omega) (by omega) ?_
  rintro _ h1 ⟨rfl, z1, chg1⟩
  refine x_aload_n d_S_end_62 rfl rfl ?_
  refine x_aload_n d_S_end_63 rfl rfl ?_
  refine x_aload_n d_S_end_64 rfl rfl ?_
  refine x_getf (v := .ref (o + 5)) d_S_end_65 lf_S_11 z1.1.1.kS z1.1.1.S0 ?_
  refine x_iload_n d_S_end_68 rfl rfl ?_
  refine x_aald (v := .ref (o + 6 + 6 * q)) d_S_end_69 z1.1.1.kT rfl (vp_in_nI (by omega) (by decide)) (by rw [nI_cl (by omega)]; exact z1.1.1.tab q hq12) ?_
  refine x_aload_n d_S_end_70 rfl rfl ?_
  refine x_invv d_S_end_71 lm_S_91 (as := [.ref (o + 6 + 6 * p), .ref (o + 6 + 6 * q), .ref x]) (S := []) (cz' := 2 * loopC n (sigM n (untieM σ p q) p q r) p r (q + 1)) (cs' := 10 * loopC n (sigM n (untieM σ p q) p q r) p r (q + 1)) (c_S_signal_of (d := d - 1) z1 lp v1 hp hq hr (TR.mono (chg1.te wf) _ _ hx) (fun e3 _ _ => by have := live_stop (σ := untieM σ p q) (r := r) hq e3; omega) (by omega) (fun e3 _ _ => by have := live_stop (σ := untieM σ p q) (r := r) hq e3; omega)) z1.1.1.kS rfl rfl rfl (Nat.le_of_ble_eq_true rfl) (by omega) (by omega) (by omega) ?_
  rintro _ h2 ⟨rfl, z2, chg2⟩
  refine x_iinc d_S_end_74 rfl (v := (nI (q + 1))) (nI_1 _) (by decide) (L' := [some (.ref (o + 4)), some (.ref (o + 6 + 6 * p)), some (.ref x), some (.int (nI (q + 1)))]) rfl ?_
  refine x_goto (tgt := 32) d_S_end_77 rfl ?_
  exact (lp _ h2 p r x (q + 1) d z2 v2 (by rw [ct2]; exact hp) hr (TR.mono ((chg1.tr chg2).te wf) _ _ hx) (by rw [ct2]; show q + 1 ≤ oCt σ; omega) (by omega) (by omega)).post (fun u h' y => ⟨y.1, y.2.1, (chg1.tr chg2).tr y.2.2⟩)
theorem Lp_all (E : th_E) (o N : Nat) : ∀ n, Lp E o N n
  | 0 => fun σ h p r x q d z v hp hr hx hq hn hd => by have := v.1; omega
  | n + 1 => Lp_step (Lp_all E o N n)
/-- enough for every end -/
abbrev FU : Nat := 170
def endM (σ : Ho) (p : Nat) (r : Tm) : Ho := if pSt (oPr σ p) = 3 then σ else loopM FU (stopM σ p r) p r 0
def endC (σ : Ho) (p : Nat) (r : Tm) : Nat := if pSt (oPr σ p) = 3 then 0 else loopC FU (stopM σ p r) p r 0
theorem live12 {N : Nat} {σ : Ho} (v : vPs N σ) : live σ ≤ 12 := Nat.le_trans (liveN_le _ _) v.1
theorem end_v {N : Nat} {σ : Ho} {p : Nat} {r : Tm} (v : vPs N σ) (hp : p < oCt σ) (hr : vTm r) : vPs N (endM σ p r) ∧ oCt (endM σ p r) = oCt σ := by
  unfold endM
  by_cases h3 : pSt (oPr σ p) = 3
  · rw [if_pos h3]; exact ⟨v, rfl⟩
  · rw [if_neg h3]
    obtain ⟨a, b, -⟩ := loop_v (N := N) FU (stopM σ p r) p r 0 (v.stop hp hr) hp hr
    exact ⟨a, b⟩
theorem c_S_end {E : th_E} {h : th_H} {o : Nat} {σ : Ho} (z : CR o σ h) {N p x : Nat} {r : Tm} (v : vPs N σ) (hp : p < oCt σ) (hr : vTm r) (hx : TR h r x) : Xc E m_S_end 50 (2 * endC σ p r) (10 * endC σ p r) [.ref (o + 4), .ref (o + 6 + 6 * p), .ref x] h (Mv o h none (endM σ p r)) := by
  have hp12 : p < 12 := by have := v.1; omega
  have h12 := live12 v
  by_cases h3 : pSt (oPr σ p) = 3
  · rw [show endM σ p r = σ by rw [endM, if_pos h3], show endC σ p r = 0 by rw [endC, if_pos h3]]
    refine Xc.of (by decide) (by simp [Value.category]) (Nat.le_of_ble_eq_true rfl) ?_
    show Xw E m_S_end 50 (2 * 0) (10 * 0) 0 [some (.ref (o + 4)), some (.ref (o + 6 + 6 * p)), some (.ref x), none] [] h _
    refine x_aload_n d_S_end_0 rfl rfl ?_
    refine x_getf (v := .int (nI (pSt (oPr σ p)))) d_S_end_1 lf_S_65 (z.1.2 p hp12).k (z.2.2.2.2.2 p hp).2.2.2.2.2.2.2.1 ?_
    refine x_iconst (v := (nI 3)) d_S_end_4 (by decide) ?_
    refine x_icmp_ne (tgt := 9) d_S_end_5 rfl (fun w_ => absurd (by rw [h3]) w_) (fun q5 => ?_)
    exact x_ret ⟨rfl, z, Chg.rf o h⟩ rfl d_S_end_8
  · have := live_stop (r := r) hp h3
    rw [show endM σ p r = loopM FU (stopM σ p r) p r 0 by rw [endM, if_neg h3], show endC σ p r = loopC FU (stopM σ p r) p r 0 by rw [endC, if_neg h3]]
    exact c_S_end_of z (Lp_all E o N FU) v hp hr hx h3 (by show _ ≤ 170 + 0; omega) (by omega)
theorem c_S_signal {E : th_E} {h : th_H} {o : Nat} {σ : Ho} (z : CR o σ h) {N p q x : Nat} {r : Tm} (v : vPs N σ) (hp : p < oCt σ) (hq : q < oCt σ) (hr : vTm r) (hx : TR h r x) : Xc E m_S_signal 51 (2 * sigC FU σ p q r) (10 * sigC FU σ p q r) [.ref (o + 4), .ref (o + 6 + 6 * p), .ref (o + 6 + 6 * q), .ref x] h (Mv o h none (sigM FU σ p q r)) := by
  have h12 := live12 v
  exact c_S_signal_of z (Lp_all E o N FU) v hp hq hr hx (fun e _ _ => by have := live_stop (r := r) hq e; show _ ≤ 170 + 0; omega) (by decide) (fun e _ _ => by have := live_stop (r := r) hq e; omega)
