/-! Society, first part (printed by wip/gen/mod_soc.py). -/
/-- an end: this answer, the object holds σ', nothing else has changed -/
abbrev Mv (o : Nat) (h : th_H) (V : Option Value) (σ' : Ho) : Option Value → th_H → Prop := fun v h' => v = V ∧ CR o σ' h' ∧ Chg o h h'
theorem c_S_numbered {E : th_E} {h : th_H} {o : Nat} {σ : Ho} (z : CR o σ h) (hc : oCt σ ≤ 12) (k : Int32) (r : Value) (hr : (k < 0 ∨ nI (oCt σ) ≤ k → r = .null) ∧ ∀ j : Nat, j < oCt σ → k = nI j → r = .ref (o + 6 + 6 * j)) : Xc E m_S_numbered 0 0 0 [.ref (o + 4), .int k] h (Ex (some r) h) := by
  refine Xc.of (by decide) (by simp [Value.category]) (Nat.le_of_ble_eq_true rfl) ?_
  show Xw E m_S_numbered 0 0 0 0 [some (.ref (o + 4)), some (.int k)] [] h _
  refine x_iload_n d_S_numbered_0 rfl rfl ?_
  refine x_if_lt (tgt := 21) d_S_numbered_1 rfl (fun q1 => ?_) (fun q1 => ?_)
  · obtain rfl : r = .null := hr.1 (Or.inl q1)
    refine x_null d_S_numbered_21 ?_
    exact x_aret d_S_numbered_22 rfl (Or.inl ⟨_, rfl⟩) (Or.inl rfl) ⟨rfl, rfl⟩
  · refine x_iload_n d_S_numbered_4 rfl rfl ?_
    refine x_aload_n d_S_numbered_5 rfl rfl ?_
    refine x_getf (v := .int (nI (oCt σ))) d_S_numbered_6 lf_S_40 z.1.1.kS z.2.2.2.2.1 ?_
    refine x_icmp_ge (tgt := 21) d_S_numbered_9 rfl (fun q9 => ?_) (fun q9 => ?_)
    · obtain rfl : r = .null := hr.1 (Or.inr q9)
      refine x_null d_S_numbered_21 ?_
      exact x_aret d_S_numbered_22 rfl (Or.inl ⟨_, rfl⟩) (Or.inl rfl) ⟨rfl, rfl⟩
    · obtain ⟨j, hj, rfl⟩ := nI_of q1
      have hjn : j < oCt σ := Nat.lt_of_not_le (fun z => q9 (nI_le z hj))
      obtain rfl : r = .ref (o + 6 + 6 * j) := hr.2 j hjn rfl
      refine x_aload_n d_S_numbered_12 rfl rfl ?_
      refine x_getf (v := .ref (o + 5)) d_S_numbered_13 lf_S_11 z.1.1.kS z.1.1.S0 ?_
      refine x_iload_n d_S_numbered_16 rfl rfl ?_
      refine x_aald (v := .ref (o + 6 + 6 * j)) d_S_numbered_17 z.1.1.kT rfl (vp_in_nI (by omega) (by decide)) (by rw [nI_cl hj]; exact z.1.1.tab j (by omega)) ?_
      refine x_goto (tgt := 22) d_S_numbered_18 rfl ?_
      exact x_aret d_S_numbered_22 rfl (Or.inl ⟨_, rfl⟩) (Or.inr ⟨_, rfl⟩) ⟨rfl, rfl⟩
theorem c_S_bearing {E : th_E} {h : th_H} {o : Nat} {σ : Ho} (z : CR o σ h) (hc : oCt σ ≤ 12) {t : Tm} {x : Nat} (q : TR h t x) (r : Value) (hv : r = .null ∨ ∃ a, r = .ref a) (hr : (¬ tS t = 2 → r = .null) ∧ (tS t = 2 → tN t < 0 ∨ nI (oCt σ) ≤ tN t → r = .null) ∧ ∀ j : Nat, tS t = 2 → j < oCt σ → tN t = nI j → r = .ref (o + 6 + 6 * j)) : Xc E m_S_bearing 1 0 0 [.ref (o + 4), .ref x] h (Ex (some r) h) := by
  refine Xc.of (by decide) (by simp [Value.category]) (Nat.le_of_ble_eq_true rfl) ?_
  show Xw E m_S_bearing 1 0 0 0 [some (.ref (o + 4)), some (.ref x)] [] h _
  by_cases hs : tS t = 2
  · refine x_aload_n d_S_bearing_0 rfl rfl ?_
    refine x_getf (v := .int (tS t)) d_S_bearing_1 lf_S_47 q.k q.s ?_
    refine x_iconst (v := 2) d_S_bearing_4 (by decide) ?_
    refine x_icmp_ne (tgt := 19) d_S_bearing_5 rfl (fun q => absurd hs q) (fun q5 => ?_)
    refine x_aload_n d_S_bearing_8 rfl rfl ?_
    refine x_aload_n d_S_bearing_9 rfl rfl ?_
    refine x_getf (v := .int (tN t)) d_S_bearing_10 lf_S_50 q.k q.n ?_
    refine x_invv d_S_bearing_13 lm_S_53 (as := [.int (tN t)]) (S := []) (c_S_numbered z hc (tN t) r ⟨fun a => hr.2.1 hs a, fun j hj e => hr.2.2 j hs hj e⟩) z.1.1.kS rfl rfl rfl (Nat.le_of_ble_eq_true rfl) (Nat.le_refl 1) (Nat.le_refl 0) (Nat.le_refl 0) ?_
    rintro _ _ ⟨rfl, rfl⟩
    refine x_goto (tgt := 20) d_S_bearing_16 rfl ?_
    exact x_aret d_S_bearing_20 rfl (Or.inl ⟨_, rfl⟩) hv ⟨rfl, rfl⟩
  · refine x_aload_n d_S_bearing_0 rfl rfl ?_
    refine x_getf (v := .int (tS t)) d_S_bearing_1 lf_S_47 q.k q.s ?_
    refine x_iconst (v := 2) d_S_bearing_4 (by decide) ?_
    refine x_icmp_ne (tgt := 19) d_S_bearing_5 rfl (fun q5 => ?_) (fun q => absurd q hs)
    refine x_null d_S_bearing_19 ?_
    exact x_aret d_S_bearing_20 rfl (Or.inl ⟨_, rfl⟩) (Or.inl rfl) ⟨by rw [hr.1 hs], rfl⟩
theorem c_S_tie {E : th_E} {h : th_H} {o : Nat} {σ : Ho} (z : CR o σ h) (hc : oCt σ ≤ 12) {p q : Nat} (hp : p < oCt σ) (hq : q < oCt σ) (hpq : p ≠ q) : Xc E m_S_tie 0 0 0 [.ref (o + 4), .ref (o + 6 + 6 * p), .ref (o + 6 + 6 * q)] h (Mv o h none (tieM σ p q)) := by
  have hp12 : p < 12 := by omega
  have hq12 : q < 12 := by omega
  refine Xc.of (by decide) (by simp [Value.category]) (Nat.le_of_ble_eq_true rfl) ?_
  show Xw E m_S_tie 0 0 0 0 [some (.ref (o + 4)), some (.ref (o + 6 + 6 * p)), some (.ref (o + 6 + 6 * q))] [] h _
  refine Xw.wf (fun wf => ?_)
  have chg1 : Chg o h (gpF h 2 7 (o + 6 + 6 * p) (.int (pLk (oPr σ p) ||| bitM q))) := (Chg.rf o h).pF ⟨by omega, by omega⟩ rfl
  have chg : Chg o h (gpF (gpF h 2 7 (o + 6 + 6 * p) (.int (pLk (oPr σ p) ||| bitM q))) 2 7 (o + 6 + 6 * q) (.int (pLk (oPr σ q) ||| bitM p))) := chg1.pF ⟨by omega, by omega⟩ rfl
  have c1 : CR o (sPr σ p (sLk (oPr σ p) (pLk (oPr σ p) ||| bitM q))) (gpF h 2 7 (o + 6 + 6 * p) (.int (pLk (oPr σ p) ||| bitM q))) := z.sPr wf chg1 ((Keep.rf o h).pF (by omega)) ((KeepQ.rf o h).pF (by decide)) (cPr_lk _ (z.2.2.2.2.2 p hp)) (fun r _ hr => (Same.rf o r h).pF ⟨by omega, by omega⟩)
  have e1 : oPr (sPr σ p (sLk (oPr σ p) (pLk (oPr σ p) ||| bitM q))) q = oPr σ q := va_up_ne _ _ (Ne.symm hpq)
  have fin : CR o (tieM σ p q) (gpF (gpF h 2 7 (o + 6 + 6 * p) (.int (pLk (oPr σ p) ||| bitM q))) 2 7 (o + 6 + 6 * q) (.int (pLk (oPr σ q) ||| bitM p))) := by
    unfold tieM
    simp only [e1]
    exact c1.sPr wf ((Chg.rf o _).pF ⟨by omega, by omega⟩ rfl) ((Keep.rf o _).pF (by omega)) ((KeepQ.rf o _).pF (by decide)) (cPr_lk _ (by rw [← e1]; exact c1.2.2.2.2.2 q hq)) (fun r _ hr => (Same.rf o r _).pF ⟨by omega, by omega⟩)
  refine x_aload_n d_S_tie_0 rfl rfl ?_
  refine x_dup d_S_tie_1 rfl ?_
  refine x_getf (v := .int (pLk (oPr σ p))) d_S_tie_2 lf_S_81 (z.1.2 p hp12).k (z.2.2.2.2.2 p hp).2.2.2.2.2.1 ?_
  refine x_iconst (v := 1) d_S_tie_5 (by decide) ?_
  refine x_aload_n d_S_tie_6 rfl rfl ?_
  refine x_getf (v := .int (nI q)) d_S_tie_7 lf_S_61 (z.1.2 q hq12).k (z.1.2 q hq12).n ?_
  refine x_ishl (v := (1 <<< ((nI q) &&& 31))) d_S_tie_10 rfl ?_
  refine x_ior (v := ((pLk (oPr σ p)) ||| (1 <<< ((nI q) &&& 31)))) d_S_tie_11 rfl ?_
  refine x_putf d_S_tie_12 lp_S_81 (z.1.2 p hp12).k ⟨_, rfl⟩ ?_
  refine x_aload_n d_S_tie_15 rfl rfl ?_
  refine x_dup d_S_tie_16 rfl ?_
  refine x_getf (v := .int (pLk (oPr σ q))) d_S_tie_17 lf_S_81 (z.1.2 q hq12).k (by simp [gF_pF, gF_pA, gF_nO, gF_nA, gF_sA, show ¬ (6 * q = 6 * p) by omega, (z.2.2.2.2.2 q hq).2.2.2.2.2.1]) ?_
  refine x_iconst (v := 1) d_S_tie_20 (by decide) ?_
  refine x_aload_n d_S_tie_21 rfl rfl ?_
  refine x_getf (v := .int (nI p)) d_S_tie_22 lf_S_61 (z.1.2 p hp12).k (by simp [gF_pF, gF_pA, gF_nO, gF_nA, gF_sA, (z.1.2 p hp12).n]) ?_
  refine x_ishl (v := (1 <<< ((nI p) &&& 31))) d_S_tie_25 rfl ?_
  refine x_ior (v := ((pLk (oPr σ q)) ||| (1 <<< ((nI p) &&& 31)))) d_S_tie_26 rfl ?_
  refine x_putf d_S_tie_27 lp_S_81 (z.1.2 q hq12).k ⟨_, rfl⟩ ?_
  exact x_ret ⟨rfl, fin, chg⟩ rfl d_S_tie_30
theorem c_S_untie {E : th_E} {h : th_H} {o : Nat} {σ : Ho} (z : CR o σ h) (hc : oCt σ ≤ 12) {p q : Nat} (hp : p < oCt σ) (hq : q < oCt σ) (hpq : p ≠ q) : Xc E m_S_untie 0 0 0 [.ref (o + 4), .ref (o + 6 + 6 * p), .ref (o + 6 + 6 * q)] h (Mv o h none (untieM σ p q)) := by
  have hp12 : p < 12 := by omega
  have hq12 : q < 12 := by omega
  refine Xc.of (by decide) (by simp [Value.category]) (Nat.le_of_ble_eq_true rfl) ?_
  show Xw E m_S_untie 0 0 0 0 [some (.ref (o + 4)), some (.ref (o + 6 + 6 * p)), some (.ref (o + 6 + 6 * q))] [] h _
  refine Xw.wf (fun wf => ?_)
  have chg1 : Chg o h (gpF h 2 7 (o + 6 + 6 * p) (.int (pLk (oPr σ p) &&& (bitM q ^^^ -1)))) := (Chg.rf o h).pF ⟨by omega, by omega⟩ rfl
  have chg : Chg o h (gpF (gpF h 2 7 (o + 6 + 6 * p) (.int (pLk (oPr σ p) &&& (bitM q ^^^ -1)))) 2 7 (o + 6 + 6 * q) (.int (pLk (oPr σ q) &&& (bitM p ^^^ -1)))) := chg1.pF ⟨by omega, by omega⟩ rfl
  have c1 : CR o (sPr σ p (sLk (oPr σ p) (pLk (oPr σ p) &&& (bitM q ^^^ -1)))) (gpF h 2 7 (o + 6 + 6 * p) (.int (pLk (oPr σ p) &&& (bitM q ^^^ -1)))) := z.sPr wf chg1 ((Keep.rf o h).pF (by omega)) ((KeepQ.rf o h).pF (by decide)) (cPr_lk _ (z.2.2.2.2.2 p hp)) (fun r _ hr => (Same.rf o r h).pF ⟨by omega, by omega⟩)
  have e1 : oPr (sPr σ p (sLk (oPr σ p) (pLk (oPr σ p) &&& (bitM q ^^^ -1)))) q = oPr σ q := va_up_ne _ _ (Ne.symm hpq)
  have fin : CR o (untieM σ p q) (gpF (gpF h 2 7 (o + 6 + 6 * p) (.int (pLk (oPr σ p) &&& (bitM q ^^^ -1)))) 2 7 (o + 6 + 6 * q) (.int (pLk (oPr σ q) &&& (bitM p ^^^ -1)))) := by
    unfold untieM
    simp only [e1]
    exact c1.sPr wf ((Chg.rf o _).pF ⟨by omega, by omega⟩ rfl) ((Keep.rf o _).pF (by omega)) ((KeepQ.rf o _).pF (by decide)) (cPr_lk _ (by rw [← e1]; exact c1.2.2.2.2.2 q hq)) (fun r _ hr => (Same.rf o r _).pF ⟨by omega, by omega⟩)
  refine x_aload_n d_S_untie_0 rfl rfl ?_
  refine x_dup d_S_untie_1 rfl ?_
  refine x_getf (v := .int (pLk (oPr σ p))) d_S_untie_2 lf_S_81 (z.1.2 p hp12).k (z.2.2.2.2.2 p hp).2.2.2.2.2.1 ?_
  refine x_iconst (v := 1) d_S_untie_5 (by decide) ?_
  refine x_aload_n d_S_untie_6 rfl rfl ?_
  refine x_getf (v := .int (nI q)) d_S_untie_7 lf_S_61 (z.1.2 q hq12).k (z.1.2 q hq12).n ?_
  refine x_ishl (v := (1 <<< ((nI q) &&& 31))) d_S_untie_10 rfl ?_
  refine x_iconst (v := (-1)) d_S_untie_11 (by decide) ?_
  refine x_ixor (v := ((1 <<< ((nI q) &&& 31)) ^^^ (-1))) d_S_untie_12 rfl ?_
  refine x_iand (v := ((pLk (oPr σ p)) &&& ((1 <<< ((nI q) &&& 31)) ^^^ (-1)))) d_S_untie_13 rfl ?_
  refine x_putf d_S_untie_14 lp_S_81 (z.1.2 p hp12).k ⟨_, rfl⟩ ?_
  refine x_aload_n d_S_untie_17 rfl rfl ?_
  refine x_dup d_S_untie_18 rfl ?_
  refine x_getf (v := .int (pLk (oPr σ q))) d_S_untie_19 lf_S_81 (z.1.2 q hq12).k (by simp [gF_pF, gF_pA, gF_nO, gF_nA, gF_sA, show ¬ (6 * q = 6 * p) by omega, (z.2.2.2.2.2 q hq).2.2.2.2.2.1]) ?_
  refine x_iconst (v := 1) d_S_untie_22 (by decide) ?_
  refine x_aload_n d_S_untie_23 rfl rfl ?_
  refine x_getf (v := .int (nI p)) d_S_untie_24 lf_S_61 (z.1.2 p hp12).k (by simp [gF_pF, gF_pA, gF_nO, gF_nA, gF_sA, (z.1.2 p hp12).n]) ?_
  refine x_ishl (v := (1 <<< ((nI p) &&& 31))) d_S_untie_27 rfl ?_
  refine x_iconst (v := (-1)) d_S_untie_28 (by decide) ?_
  refine x_ixor (v := ((1 <<< ((nI p) &&& 31)) ^^^ (-1))) d_S_untie_29 rfl ?_
  refine x_iand (v := ((pLk (oPr σ q)) &&& ((1 <<< ((nI p) &&& 31)) ^^^ (-1)))) d_S_untie_30 rfl ?_
  refine x_putf d_S_untie_31 lp_S_81 (z.1.2 q hq12).k ⟨_, rfl⟩ ?_
  exact x_ret ⟨rfl, fin, chg⟩ rfl d_S_untie_34
def suspendM (σ : Ho) (p : Nat) : Ho := leaveM (sPr σ p (sSt (oPr σ p) 2)) p
theorem c_S_suspend {E : th_E} {h : th_H} {o : Nat} {σ : Ho} (z : CR o σ h) (hc : oCt σ ≤ 12) {p : Nat} (hp : p < oCt σ) (hql : (oQu σ).length ≤ 12) (hqm : ∀ x ∈ oQu σ, x < 12) : Xc E m_S_suspend 1 0 0 [.ref (o + 4), .ref (o + 6 + 6 * p)] h (Mv o h none (suspendM σ p)) := by
  have hp12 : p < 12 := by omega
  refine Xc.of (by decide) (by simp [Value.category]) (Nat.le_of_ble_eq_true rfl) ?_
  show Xw E m_S_suspend 1 0 0 0 [some (.ref (o + 4)), some (.ref (o + 6 + 6 * p))] [] h _
  refine Xw.wf (fun wf => ?_)
  have chg1 : Chg o h (gpF h 2 9 (o + 6 + 6 * p) (.int (nI 2))) := (Chg.rf o h).pF ⟨by omega, by omega⟩ rfl
  have c1 : CR o (sPr σ p (sSt (oPr σ p) 2)) (gpF h 2 9 (o + 6 + 6 * p) (.int (nI 2))) := z.sPr wf chg1 ((Keep.rf o h).pF (by omega)) ((KeepQ.rf o h).pF (by decide)) (cPr_st 2 (z.2.2.2.2.2 p hp)) (fun r _ hr => (Same.rf o r h).pF ⟨by omega, by omega⟩)
  refine x_aload_n d_S_suspend_0 rfl rfl ?_
  refine x_iconst (v := (nI 2)) d_S_suspend_1 (by decide) ?_
  refine x_putf d_S_suspend_2 lp_S_65 (z.1.2 p hp12).k ⟨_, rfl⟩ ?_
  refine x_aload_n d_S_suspend_5 rfl rfl ?_
  refine x_getf (v := .ref (o + 78)) d_S_suspend_6 lf_S_23 z.1.1.kS (by simp [gF_pF, gF_pA, gF_nO, gF_nA, gF_sA, z.1.1.S1]) ?_
  refine x_aload_n d_S_suspend_9 rfl rfl ?_
  refine x_getf (v := .int (nI p)) d_S_suspend_10 lf_S_61 (z.1.2 p hp12).k (by simp [gF_pF, gF_pA, gF_nO, gF_nA, gF_sA, (z.1.2 p hp12).n]) ?_
  refine x_invv d_S_suspend_13 lm_S_78 (as := [.int (nI p)]) (S := []) (c_L_leave (h := (gpF h 2 9 (o + 6 + 6 * p) (.int (nI 2)))) (ln := o + 78) (na := o + 79) (qs := oQu σ) z.1.1.kL z.1.1.kLa (by simp [gF_pF, z.1.1.L0]) (by simp [gF_pF, z.2.2.2.1.1]) hql hqm hp12 (fun i x hx => z.2.2.2.1.2 i x hx)) z.1.1.kL rfl rfl rfl (Nat.le_of_ble_eq_true rfl) (Nat.le_refl 1) (Nat.le_refl 0) (Nat.le_refl 0) ?_
  rintro _ _ ⟨rfl, f', rfl, hf⟩
  have chg : Chg o h (gpF (gsA (gpF h 2 9 (o + 6 + 6 * p) (.int (nI 2))) 1 (o + 79) f') 3 1 (o + 78) (.int (nI ((oQu σ).filter (fun x => x ≠ p)).length))) := (chg1.sA ⟨by omega, by omega, by omega⟩ (Or.inl rfl)).pF ⟨by omega, by omega⟩ rfl
  have fin : CR o (suspendM σ p) (gpF (gsA (gpF h 2 9 (o + 6 + 6 * p) (.int (nI 2))) 1 (o + 79) f') 3 1 (o + 78) (.int (nI ((oQu σ).filter (fun x => x ≠ p)).length))) := c1.sQu wf (((Chg.rf o _).sA ⟨by omega, by omega, by omega⟩ (Or.inl rfl)).pF ⟨by omega, by omega⟩ rfl) (((Keep.rf o _).sA (by omega)).pF (by omega)) (cQu_set hf) (fun r hr => ((Same.rf o r _).sA ⟨by omega, by have : r < oCt σ := hr; omega⟩).pF ⟨by omega, by omega⟩)
  exact x_ret ⟨rfl, fin, chg⟩ rfl d_S_suspend_16
theorem c_S_deliver {E : th_E} {h : th_H} {o : Nat} {σ : Ho} (z : CR o σ h) (hc : oCt σ ≤ 12) {q : Nat} (hq : q < oCt σ) (hms : (pMs (oPr σ q)).length ≤ 12) (hst : pSt (oPr σ q) < 2 ^ 31) (hql : pSt (oPr σ q) = 2 → (oQu σ).length < 12) {t : Tm} {x : Nat} (hx : TR h t x) : Xc E m_S_deliver 1 0 0 [.ref (o + 4), .ref (o + 6 + 6 * q), .ref x] h (Mv o h none (deliverM σ q t)) := by
  have hq12 : q < 12 := by omega
  have zq := z.2.2.2.2.2 q hq
  refine Xc.of (by decide) (by simp [Value.category]) (Nat.le_of_ble_eq_true rfl) ?_
  show Xw E m_S_deliver 1 0 0 0 [some (.ref (o + 4)), some (.ref (o + 6 + 6 * q)), some (.ref x)] [] h _
  refine Xw.wf (fun wf => ?_)
  by_cases h3 : pSt (oPr σ q) = 3
  · refine x_aload_n d_S_deliver_0 rfl rfl ?_
    refine x_getf (v := .int (nI (pSt (oPr σ q)))) d_S_deliver_1 lf_S_65 (z.1.2 q hq12).k zq.2.2.2.2.2.2.2.1 ?_
    refine x_iconst (v := 3) d_S_deliver_4 (by decide) ?_
    refine x_icmp_eq (tgt := 19) d_S_deliver_5 rfl (fun q5 => ?_) (fun q => absurd (by rw [h3]; rfl) q)
    exact x_ret ⟨rfl, by rw [deliverM, if_pos (Or.inl h3)]; exact z, Chg.rf o h⟩ rfl d_S_deliver_19
  by_cases hf : 12 ≤ (pMs (oPr σ q)).length
  · refine x_aload_n d_S_deliver_0 rfl rfl ?_
    refine x_getf (v := .int (nI (pSt (oPr σ q)))) d_S_deliver_1 lf_S_65 (z.1.2 q hq12).k zq.2.2.2.2.2.2.2.1 ?_
    refine x_iconst (v := 3) d_S_deliver_4 (by decide) ?_
    refine x_icmp_eq (tgt := 19) d_S_deliver_5 rfl (fun q => absurd q (fun e => h3 (nI_inj hst (by decide) e))) (fun q5 => ?_)
    refine x_aload_n d_S_deliver_8 rfl rfl ?_
    refine x_getf (v := .ref (o + 10 + 6 * q)) d_S_deliver_9 lf_S_68 (z.1.2 q hq12).k (z.1.2 q hq12).mb ?_
    refine x_aload_n d_S_deliver_12 rfl rfl ?_
    refine x_invv d_S_deliver_13 lm_S_72 (as := [.ref x]) (S := []) (c_B_put_full (k1 := (z.1.2 q hq12).kmb) (k2 := (z.1.2 q hq12).kma) (f0 := (z.1.2 q hq12).ma) (f1 := (by rw [refsOf_len]; exact zq.2.2.2.1.1)) (f2 := zq.2.2.2.2.1) (hn := (by rw [refsOf_len]; exact hms)) (fm := (fun i y hy => (zq.ms hy).1)) (x := x) (hf := (by rw [refsOf_len]; exact hf))) (z.1.2 q hq12).kmb rfl rfl rfl (Nat.le_of_ble_eq_true rfl) (Nat.le_refl 1) (Nat.le_refl 0) (Nat.le_refl 0) ?_
    rintro _ _ ⟨rfl, rfl⟩
    refine x_if_ne (tgt := 20) d_S_deliver_16 rfl (fun q => absurd rfl q) (fun q16 => ?_)
    exact x_ret ⟨rfl, by rw [deliverM, if_pos (Or.inr hf)]; exact z, Chg.rf o h⟩ rfl d_S_deliver_19
  have chgA : Chg o h (gpF (gpA h 2 (o + 11 + 6 * q) (pMs (oPr σ q)).length (.ref x)) 1 1 (o + 10 + 6 * q) (.int (nI ((pMs (oPr σ q)).length + 1)))) := ((Chg.rf o h).pA ⟨by omega, by omega, by omega⟩ (Or.inr rfl)).pF ⟨by omega, by omega⟩ rfl
  by_cases h2 : pSt (oPr σ q) = 2
  · have chgB : Chg o h (gpF (gpF (gpA h 2 (o + 11 + 6 * q) (pMs (oPr σ q)).length (.ref x)) 1 1 (o + 10 + 6 * q) (.int (nI ((pMs (oPr σ q)).length + 1)))) 2 9 (o + 6 + 6 * q) (.int (nI 1))) := chgA.pF ⟨by omega, by omega⟩ rfl
    have cB : CR o (sPr σ q (sSt (sMs (oPr σ q) (pMs (oPr σ q) ++ [t])) 1)) (gpF (gpF (gpA h 2 (o + 11 + 6 * q) (pMs (oPr σ q)).length (.ref x)) 1 1 (o + 10 + 6 * q) (.int (nI ((pMs (oPr σ q)).length + 1)))) 2 9 (o + 6 + 6 * q) (.int (nI 1))) := z.sPr wf chgB ((((Keep.rf o h).pA (by omega)).pF (by omega)).pF (by omega)) ((((KeepQ.rf o h).pA (by omega)).pF (by decide)).pF (by decide)) (cPr_st 1 (cPr_put hx zq)) (fun r _ hr => (((Same.rf o r h).pA ⟨by omega, by omega⟩).pF ⟨by omega, by omega⟩).pF ⟨by omega, by omega⟩)
    have chgC : Chg o h (gpF (gpA (gpF (gpF (gpA h 2 (o + 11 + 6 * q) (pMs (oPr σ q)).length (.ref x)) 1 1 (o + 10 + 6 * q) (.int (nI ((pMs (oPr σ q)).length + 1)))) 2 9 (o + 6 + 6 * q) (.int (nI 1))) 1 (o + 79) (oQu σ).length (.int (nI q))) 3 1 (o + 78) (.int (nI ((oQu σ).length + 1)))) := (chgB.pA ⟨by omega, by omega, by omega⟩ (Or.inl rfl)).pF ⟨by omega, by omega⟩ rfl
    have cC : CR o (comeM (sPr σ q (sSt (sMs (oPr σ q) (pMs (oPr σ q) ++ [t])) 1)) q) (gpF (gpA (gpF (gpF (gpA h 2 (o + 11 + 6 * q) (pMs (oPr σ q)).length (.ref x)) 1 1 (o + 10 + 6 * q) (.int (nI ((pMs (oPr σ q)).length + 1)))) 2 9 (o + 6 + 6 * q) (.int (nI 1))) 1 (o + 79) (oQu σ).length (.int (nI q))) 3 1 (o + 78) (.int (nI ((oQu σ).length + 1)))) := cB.sQu wf (((Chg.rf o _).pA ⟨by omega, by omega, by omega⟩ (Or.inl rfl)).pF ⟨by omega, by omega⟩ rfl) (((Keep.rf o _).pA (by omega)).pF (by omega)) (cQu_add cB.2.2.2.1) (fun r hr => ((Same.rf o r _).pA ⟨by omega, by have : r < oCt σ := hr; omega⟩).pF ⟨by omega, by omega⟩)
    refine x_aload_n d_S_deliver_0 rfl rfl ?_
    refine x_getf (v := .int (nI (pSt (oPr σ q)))) d_S_deliver_1 lf_S_65 (z.1.2 q hq12).k zq.2.2.2.2.2.2.2.1 ?_
    refine x_iconst (v := 3) d_S_deliver_4 (by decide) ?_
    refine x_icmp_eq (tgt := 19) d_S_deliver_5 rfl (fun q => absurd q (fun e => h3 (nI_inj hst (by decide) e))) (fun q5 => ?_)
    refine x_aload_n d_S_deliver_8 rfl rfl ?_
    refine x_getf (v := .ref (o + 10 + 6 * q)) d_S_deliver_9 lf_S_68 (z.1.2 q hq12).k (z.1.2 q hq12).mb ?_
    refine x_aload_n d_S_deliver_12 rfl rfl ?_
    refine x_invv d_S_deliver_13 lm_S_72 (as := [.ref x]) (S := []) (c_B_put (k1 := (z.1.2 q hq12).kmb) (k2 := (z.1.2 q hq12).kma) (f0 := (z.1.2 q hq12).ma) (f1 := (by rw [refsOf_len]; exact zq.2.2.2.1.1)) (f2 := zq.2.2.2.2.1) (hn := (by rw [refsOf_len]; exact hms)) (fm := (fun i y hy => (zq.ms hy).1)) (x := x) (kx := hx.k) (hf := (by rw [refsOf_len]; omega))) (z.1.2 q hq12).kmb rfl rfl rfl (Nat.le_of_ble_eq_true rfl) (Nat.le_refl 1) (Nat.le_refl 0) (Nat.le_refl 0) ?_
    rintro _ _ ⟨rfl, rfl⟩
    rw [refsOf_len]
    refine x_if_ne (tgt := 20) d_S_deliver_16 rfl (fun q16 => ?_) (fun q => absurd q (by decide))
    refine x_aload_n d_S_deliver_20 rfl rfl ?_
    refine x_getf (v := .int (nI (pSt (oPr σ q)))) d_S_deliver_21 lf_S_65 (z.1.2 q hq12).k (by simp [gF_pF, gF_pA, zq.2.2.2.2.2.2.2.1]) ?_
    refine x_iconst (v := 2) d_S_deliver_24 (by decide) ?_
    refine x_icmp_ne (tgt := 44) d_S_deliver_25 rfl (fun q => absurd (by rw [h2]; rfl) q) (fun q25 => ?_)
    refine x_aload_n d_S_deliver_28 rfl rfl ?_
    refine x_iconst (v := (nI 1)) d_S_deliver_29 (by decide) ?_
    refine x_putf d_S_deliver_30 lp_S_65 (z.1.2 q hq12).k ⟨_, rfl⟩ ?_
    refine x_aload_n d_S_deliver_33 rfl rfl ?_
    refine x_getf (v := .ref (o + 78)) d_S_deliver_34 lf_S_23 z.1.1.kS (by simp [gF_pF, gF_pA, gF_nO, gF_nA, gF_sA, gF_pF, gF_pA, z.1.1.S1]) ?_
    refine x_aload_n d_S_deliver_37 rfl rfl ?_
    refine x_getf (v := .int (nI q)) d_S_deliver_38 lf_S_61 (z.1.2 q hq12).k (by simp [gF_pF, gF_pA, gF_nO, gF_nA, gF_sA, gF_pF, gF_pA, (z.1.2 q hq12).n]) ?_
    refine x_invv d_S_deliver_41 lm_S_62 (as := [.int (nI q)]) (S := []) (c_L_append (h := (gpF (gpF (gpA h 2 (o + 11 + 6 * q) (pMs (oPr σ q)).length (.ref x)) 1 1 (o + 10 + 6 * q) (.int (nI ((pMs (oPr σ q)).length + 1)))) 2 9 (o + 6 + 6 * q) (.int (nI 1)))) (ln := o + 78) (na := o + 79) (n := (oQu σ).length) (q := fun _ => 0) z.1.1.kL z.1.1.kLa (by simp [gF_pF, gF_pA, z.1.1.L0]) (by simp [gF_pF, gF_pA, z.2.2.2.1.1]) (hql h2) (nI q)) z.1.1.kL rfl rfl rfl (Nat.le_of_ble_eq_true rfl) (Nat.le_refl 1) (Nat.le_refl 0) (Nat.le_refl 0) ?_
    rintro _ _ ⟨rfl, rfl⟩
    exact x_ret ⟨rfl, by rw [deliverM, if_neg (fun a => a.elim h3 hf), if_pos h2]; exact cC, chgC⟩ rfl d_S_deliver_44
  · have cA : CR o (sPr σ q (sMs (oPr σ q) (pMs (oPr σ q) ++ [t]))) (gpF (gpA h 2 (o + 11 + 6 * q) (pMs (oPr σ q)).length (.ref x)) 1 1 (o + 10 + 6 * q) (.int (nI ((pMs (oPr σ q)).length + 1)))) := z.sPr wf chgA (((Keep.rf o h).pA (by omega)).pF (by omega)) (((KeepQ.rf o h).pA (by omega)).pF (by decide)) (cPr_put hx zq) (fun r _ hr => ((Same.rf o r h).pA ⟨by omega, by omega⟩).pF ⟨by omega, by omega⟩)
    refine x_aload_n d_S_deliver_0 rfl rfl ?_
    refine x_getf (v := .int (nI (pSt (oPr σ q)))) d_S_deliver_1 lf_S_65 (z.1.2 q hq12).k zq.2.2.2.2.2.2.2.1 ?_
    refine x_iconst (v := 3) d_S_deliver_4 (by decide) ?_
    refine x_icmp_eq (tgt := 19) d_S_deliver_5 rfl (fun q => absurd q (fun e => h3 (nI_inj hst (by decide) e))) (fun q5 => ?_)
    refine x_aload_n d_S_deliver_8 rfl rfl ?_
    refine x_getf (v := .ref (o + 10 + 6 * q)) d_S_deliver_9 lf_S_68 (z.1.2 q hq12).k (z.1.2 q hq12).mb ?_
    refine x_aload_n d_S_deliver_12 rfl rfl ?_
    refine x_invv d_S_deliver_13 lm_S_72 (as := [.ref x]) (S := []) (c_B_put (k1 := (z.1.2 q hq12).kmb) (k2 := (z.1.2 q hq12).kma) (f0 := (z.1.2 q hq12).ma) (f1 := (by rw [refsOf_len]; exact zq.2.2.2.1.1)) (f2 := zq.2.2.2.2.1) (hn := (by rw [refsOf_len]; exact hms)) (fm := (fun i y hy => (zq.ms hy).1)) (x := x) (kx := hx.k) (hf := (by rw [refsOf_len]; omega))) (z.1.2 q hq12).kmb rfl rfl rfl (Nat.le_of_ble_eq_true rfl) (Nat.le_refl 1) (Nat.le_refl 0) (Nat.le_refl 0) ?_
    rintro _ _ ⟨rfl, rfl⟩
    rw [refsOf_len]
    refine x_if_ne (tgt := 20) d_S_deliver_16 rfl (fun q16 => ?_) (fun q => absurd q (by decide))
    refine x_aload_n d_S_deliver_20 rfl rfl ?_
    refine x_getf (v := .int (nI (pSt (oPr σ q)))) d_S_deliver_21 lf_S_65 (z.1.2 q hq12).k (by simp [gF_pF, gF_pA, zq.2.2.2.2.2.2.2.1]) ?_
    refine x_iconst (v := 2) d_S_deliver_24 (by decide) ?_
    refine x_icmp_ne (tgt := 44) d_S_deliver_25 rfl (fun q25 => ?_) (fun q => absurd q (fun e => h2 (nI_inj hst (by decide) e)))
    exact x_ret ⟨rfl, by rw [deliverM, if_neg (fun a => a.elim h3 hf), if_neg h2]; exact cA, chgA⟩ rfl d_S_deliver_44
