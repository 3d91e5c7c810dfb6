/-! perform as a whole, reduce (printed by wip/gen/mod_red.py). -/
theorem c_M_perform {E : th_E} {h : th_H} {o : Nat} {σ : Ho} (z : CR o σ h) {N p : Nat} (v : vPs N σ) (hN : N < 2 ^ 31) (hp : p < oCt σ) {op : Nat} {a b c : Int32} (vi : vIns op a b c) : Xc E m_M_perform 53 (performC σ p op a b c) (5 * performC σ p op a b c) [.ref (o + 1), .ref (o + 6 + 6 * p), .int (nI op), .int a, .int b, .int c] h (Pf o h σ (performM σ p op a b c)) := by
  match op, vi with
  | 0, vi =>
    obtain ⟨i, hi, rfl⟩ := vi
    exact c_perf0 z v hp hi b c
  | 1, vi =>
    obtain ⟨⟨i, hi, rfl⟩, j, hj, rfl⟩ := vi
    exact c_perf1 z v hp hi hj c
  | 2, vi =>
    obtain ⟨⟨i, hi, rfl⟩, j, hj, rfl⟩ := vi
    exact c_perf2 z v hp hi hj c
  | 3, vi =>
    obtain ⟨i, hi, rfl⟩ := vi
    exact c_perf3 z v hp hi b c
  | 4, vi =>
    obtain ⟨i, hi, rfl⟩ := vi
    exact c_perf4 z v hp hi b c
  | 5, vi =>
    obtain ⟨⟨i, hi, rfl⟩, ⟨j, hj, rfl⟩, k, hk, rfl⟩ := vi
    by_cases e : 15 < 1 + tW (pRg (oPr σ p) j) + tW (pRg (oPr σ p) k)
    · exact c_perf5n z v hp hi hj hk e
    · exact c_perf5y z v hp hi hj hk e
  | 6, vi =>
    obtain ⟨⟨i, hi, rfl⟩, ⟨j, hj, rfl⟩, k, hk, rfl⟩ := vi
    by_cases e : 15 < 1 + tW (pRg (oPr σ p) j) + tW (pRg (oPr σ p) k)
    · exact c_perf6n z v hp hi hj hk e
    · exact c_perf6y z v hp hi hj hk e
  | 7, vi =>
    obtain ⟨⟨i, hi, rfl⟩, j, hj, rfl⟩ := vi
    cases e : pRg (oPr σ p) j with
    | leaf q => exact c_perf7n z v hp hi hj c e
    | branch k l r => exact c_perf7y z v hp hi hj c e
  | 8, vi =>
    obtain ⟨⟨i, hi, rfl⟩, j, hj, rfl⟩ := vi
    cases e : pRg (oPr σ p) j with
    | leaf q => exact c_perf8n z v hp hi hj c e
    | branch k l r => exact c_perf8y z v hp hi hj c e
  | 9, vi =>
    obtain ⟨⟨i, hi, rfl⟩, ⟨j, hj, rfl⟩, k, hk, rfl⟩ := vi
    by_cases e : tS (pRg (oPr σ p) j) = 0 ∧ tS (pRg (oPr σ p) k) = 0
    · exact c_perf9y z v hp hi hj hk e
    · exact c_perf9n z v hp hi hj hk e
  | 10, vi =>
    obtain ⟨⟨i, hi, rfl⟩, ⟨j, hj, rfl⟩, k, hk, rfl⟩ := vi
    by_cases e : tS (pRg (oPr σ p) j) = 0 ∧ tS (pRg (oPr σ p) k) = 0
    · exact c_perf10y z v hp hi hj hk e
    · exact c_perf10n z v hp hi hj hk e
  | 11, vi =>
    obtain ⟨⟨i, hi, rfl⟩, ⟨j, hj, rfl⟩, k, hk, rfl⟩ := vi
    by_cases e : tS (pRg (oPr σ p) i) = 0 ∧ tS (pRg (oPr σ p) j) = 0
    · by_cases e2 : tN (pRg (oPr σ p) i) < tN (pRg (oPr σ p) j)
      · exact c_perf11y z v hp hi hj hk e e2
      · exact c_perf11z z v hp hi hj hk e e2
    · exact c_perf11n z v hp hi hj hk e
  | 12, vi =>
    obtain ⟨⟨i, hi, rfl⟩, ⟨j, hj, rfl⟩, k, hk, rfl⟩ := vi
    by_cases e : tF (pRg (oPr σ p) i) = tF (pRg (oPr σ p) j)
    · exact c_perf12y z v hp hi hj hk e
    · exact c_perf12n z v hp hi hj hk e
  | 13, vi =>
    obtain ⟨⟨i, hi, rfl⟩, ⟨j, hj, rfl⟩, k, hk, rfl⟩ := vi
    by_cases e : tS (pRg (oPr σ p) i) = nI j
    · exact c_perf13y z v hp hi (nI j) hk e
    · exact c_perf13n z v hp hi (nI j) hk e
  | 14, vi =>
    obtain ⟨i, hi, rfl⟩ := vi
    exact c_perf14 z v hp hi b c
  | 15, vi =>
    obtain ⟨i, hi, rfl⟩ := vi
    by_cases e : 6 ≤ (pRe (oPr σ p)).length
    · exact c_perf15n z v hp hi b c e
    · exact c_perf15y z v hp hi b c e
  | 16, vi =>
    rcases List.eq_nil_or_concat (pRe (oPr σ p)) with e | ⟨ys, x, e⟩
    · rw [show performC σ p 16 a b c = 2 * endC σ p aNormal by simp only [performC, e, List.getLast?_nil], show 5 * (2 * endC σ p aNormal) = 10 * endC σ p aNormal by omega]
      exact c_perf16e z v hp a b c e
    · rw [List.concat_eq_append] at e
      rw [show performC σ p 16 a b c = 0 by simp only [performC, e, List.getLast?_append, List.getLast?_singleton, Option.some_or]]
      exact c_perf16y z v hp a b c e (by have := (v.2.2 p hp).2.2.1.1; rw [e, List.length_append] at this; simp only [List.length_cons, List.length_nil] at this; omega)
  | 17, vi =>
    obtain ⟨⟨i, hi, rfl⟩, j, hj, rfl⟩ := vi
    cases e : pidM σ (pRg (oPr σ p) i) with
    | none => exact c_perf17n z v hp hi hj c e
    | some q => exact c_perf17y z v hp hi hj c e
  | 18, vi =>
    obtain ⟨⟨i, hi, rfl⟩, j, hj, rfl⟩ := vi
    by_cases e : pMk (oPr σ p) < (pMs (oPr σ p)).length
    · exact c_perf18y z v hp hi hj c hN e
    · exact c_perf18n z v hp hi hj c hN (Nat.le_of_not_lt e)
  | 19, vi =>
    by_cases e : pMk (oPr σ p) < (pMs (oPr σ p)).length
    · exact c_perf19y z v hp a b c hN e
    · exact c_perf19n z v hp a b c hN (Nat.le_of_not_lt e)
  | 20, vi =>
    obtain ⟨i, hi, rfl⟩ := vi
    exact c_perf20 z v hp hi b c
  | 21, vi =>
    obtain ⟨i, hi, rfl⟩ := vi
    by_cases e : pMk (oPr σ p) < (pMs (oPr σ p)).length
    · exact c_perf21g z v hp hi b c hN e
    · exact c_perf21w z v hp hi b c hN (Nat.le_of_not_lt e)
  | 22, vi =>
    obtain ⟨⟨i, hi, rfl⟩, ⟨j, hj, rfl⟩, k, hk, rfl⟩ := vi
    by_cases e : 12 ≤ oCt σ
    · exact c_perf22n z v hp hi hj hk e
    · exact c_perf22y z v hp hi hj hk e
  | 23, vi =>
    obtain ⟨i, hi, rfl⟩ := vi
    cases e : pidM σ (pRg (oPr σ p) i) with
    | none =>
      rw [show performC σ p 23 (nI i) b c = 0 by simp only [performC, cl_nI (show i < 2 ^ 31 by omega), e]]
      exact c_perf23n z v hp hi b c e
    | some q =>
      rw [show performC σ p 23 (nI i) b c = 2 * linkC σ p q by simp only [performC, cl_nI (show i < 2 ^ 31 by omega), e], show 5 * (2 * linkC σ p q) = 10 * linkC σ p q by omega]
      exact c_perf23y z v hp hi b c e
  | 24, vi =>
    by_cases e : a = 1
    · subst e; exact c_perf24y z v hp b c
    · exact c_perf24n z v hp a b c e
  | 25, vi =>
    obtain ⟨i, hi, rfl⟩ := vi
    rw [show performC σ p 25 (nI i) b c = 2 * endC σ p (pRg (oPr σ p) i) by simp only [performC, cl_nI (show i < 2 ^ 31 by omega)], show 5 * (2 * endC σ p (pRg (oPr σ p) i)) = 10 * endC σ p (pRg (oPr σ p) i) by omega]
    exact c_perf25 z v hp hi b c
  | 26, vi =>
    obtain ⟨i, hi, rfl⟩ := vi
    cases e : pidM σ (pRg (oPr σ p) i) with
    | none =>
      rw [show performC σ p 26 (nI i) b c = 0 by simp only [performC, cl_nI (show i < 2 ^ 31 by omega), e]]
      exact c_perf26n z v hp hi b c e
    | some q =>
      rw [show performC σ p 26 (nI i) b c = 2 * sigC FU σ p q aKilled by simp only [performC, cl_nI (show i < 2 ^ 31 by omega), e], show 5 * (2 * sigC FU σ p q aKilled) = 10 * sigC FU σ p q aKilled by omega]
      exact c_perf26y z v hp hi b c e
  | n + 27, vi => exact vi.elim
def redA (σ : Ho) (p : Nat) : Ho := sPr σ p (sDn (oPr σ p) (pDn (oPr σ p) + 1))
def redB (σ : Ho) (p : Nat) : Ho := sPr (redA σ p) p (sPl (oPr (redA σ p) p) (pPl (oPr σ p) + 1))
/-- one reduction -/
def reduceM (σ : Ho) (p : Nat) : Ho := match (oCd σ)[pPl (oPr σ p)]? with
  | none => endM (redA σ p) p aFault
  | some q => (match performM (redB σ p) p q.1 q.2.1 q.2.2.1 q.2.2.2 with
    | some σ' => σ'
    | none => endM (redB σ p) p aFault)
def reduceC (σ : Ho) (p : Nat) : Nat := match (oCd σ)[pPl (oPr σ p)]? with
  | none => 2 * endC (redA σ p) p aFault
  | some q => (match performM (redB σ p) p q.1 q.2.1 q.2.2.1 q.2.2.2 with
    | some _ => performC (redB σ p) p q.1 q.2.1 q.2.2.1 q.2.2.2
    | none => performC (redB σ p) p q.1 q.2.1 q.2.2.1 q.2.2.2 + 2 * endC (redB σ p) p aFault)
def vCd (σ : Ho) : Prop := (oCd σ).length ≤ 48 ∧ ∀ q ∈ oCd σ, vIns q.1 q.2.1 q.2.2.1 q.2.2.2
theorem vPs.redA {N : Nat} {σ : Ho} (v : vPs N σ) {p : Nat} (hp : p < oCt σ) : vPs N (redA σ p) := v.setP (v.2.2 p hp) (fun _ => Iff.rfl)
theorem vPs.redB {N : Nat} {σ : Ho} (v : vPs N σ) {p : Nat} (hp : p < oCt σ) (hl : pPl (oPr σ p) < 48) : vPs N (redB σ p) := by
  have v1 := v.redA hp
  have w := v1.2.2 p hp
  exact v1.setP ⟨w.1, hl, w.2.2⟩ (fun _ => Iff.rfl)
theorem redA_pl (σ : Ho) (p : Nat) : pPl (oPr (redA σ p) p) = pPl (oPr σ p) := by
  show pPl (va_up (oPr σ) p _ p) = _
  rw [va_up_self]
theorem c_M_reduce {E : th_E} {h : th_H} {o : Nat} {σ : Ho} (z : CR o σ h) {N p : Nat} (v : vPs N σ) (vc : vCd σ) (hN : N < 2 ^ 31) (hp : p < oCt σ) : Xc E m_M_reduce 54 (reduceC σ p) (5 * reduceC σ p) [.ref (o + 1), .ref (o + 6 + 6 * p)] h (Mv o h none (reduceM σ p)) := by
  have hp12 : p < 12 := by have := v.1; omega
  have hc := v.1
  have zp := z.2.2.2.2.2 p hp
  have hpl := (v.2.2 p hp).2.1
  have hcl := vc.1
  cases hq : (oCd σ)[pPl (oPr σ p)]? with
  | none =>
    have hl : (oCd σ).length ≤ pPl (oPr σ p) := List.getElem?_eq_none_iff.mp hq
    rw [show reduceC σ p = (2 * endC (redA σ p) p aFault) by simp only [reduceC, hq]]
    refine Xc.of (by decide) (by simp [Value.category]) (Nat.le_of_ble_eq_true rfl) ?_
    show Xw E m_M_reduce 54 (2 * endC (redA σ p) p aFault) (5 * (2 * endC (redA σ p) p aFault)) 0 [some (.ref (o + 1)), some (.ref (o + 6 + 6 * p)), none, none] [] h _
    refine Xw.wf (fun wf => ?_)
    have chgA : Chg o h (gpF h 2 11 (o + 6 + 6 * p) (.int (pDn (oPr σ p) + 1))) := (Chg.rf o h).pF ⟨by omega, by omega⟩ rfl
    have zA : CR o (redA σ p) (gpF h 2 11 (o + 6 + 6 * p) (.int (pDn (oPr σ p) + 1))) := (z.dn wf v.1 hp _).1
    refine x_aload_n d_M_reduce_0 rfl rfl ?_
    refine x_dup d_M_reduce_1 rfl ?_
    refine x_getf (v := .int (pDn (oPr σ p))) d_M_reduce_2 lf_M_25 (z.1.2 p hp12).k zp.2.2.2.2.2.2.2.2.2 ?_
    refine x_iconst (v := 1) d_M_reduce_5 (by decide) ?_
    refine x_iadd (v := ((pDn (oPr σ p)) + 1)) d_M_reduce_6 rfl ?_
    refine x_putf d_M_reduce_7 lp_M_25 (z.1.2 p hp12).k ⟨_, rfl⟩ ?_
    refine x_aload_n d_M_reduce_10 rfl rfl ?_
    refine x_getf (v := .ref (o + 2)) d_M_reduce_11 lf_M_12 z.1.1.kM (by simp [gF_pF, gF_pA, gF_nO, gF_nA, gF_sA, z.1.1.M0]) ?_
    refine x_aload_n d_M_reduce_14 rfl rfl ?_
    refine x_getf (v := .int (nI (pPl (oPr σ p)))) d_M_reduce_15 lf_M_31 (z.1.2 p hp12).k (by simp [gF_pF, gF_pA, gF_nO, gF_nA, gF_sA, zp.2.1]) ?_
    refine x_invv d_M_reduce_18 lm_M_34 (as := [.int (nI (pPl (oPr σ p)))]) (S := []) (cz' := (2 * endC (redA σ p) p aFault)) (cs' := 5 * ((2 * endC (redA σ p) p aFault))) (c_G_reaches (h := (gpF h 2 11 (o + 6 + 6 * p) (.int (pDn (oPr σ p) + 1)))) (n := (oCd σ).length) z.1.1.kG (by simp [gF_pF, z.2.2.1.1]) (nI (pPl (oPr σ p))) 0 ⟨fun e => absurd e.2 (nI_nlt (by omega) (by omega)), fun _ => rfl⟩) z.1.1.kG rfl rfl rfl (Nat.le_of_ble_eq_true rfl) (by decide) (by omega) (by omega) ?_
    rintro _ _ ⟨rfl, rfl⟩
    refine x_if_ne (tgt := 43) d_M_reduce_21 rfl (fun w_ => absurd rfl w_) (fun q21 => ?_)
    refine x_aload_n d_M_reduce_24 rfl rfl ?_
    refine x_getf (v := .ref (o + 4)) d_M_reduce_25 lf_M_21 z.1.1.kM (by simp [gF_pF, gF_pA, gF_nO, gF_nA, gF_sA, z.1.1.M1]) ?_
    refine x_aload_n d_M_reduce_28 rfl rfl ?_
    refine x_aload_n d_M_reduce_29 rfl rfl ?_
    refine x_getf (v := .ref (o + 4)) d_M_reduce_30 lf_M_21 z.1.1.kM (by simp [gF_pF, gF_pA, gF_nO, gF_nA, gF_sA, z.1.1.M1]) ?_
    refine x_getf (v := .ref (o + 81)) d_M_reduce_33 lf_M_38 z.1.1.kS (by simp [gF_pF, gF_pA, gF_nO, gF_nA, gF_sA, z.1.1.S3]) ?_
    refine x_bipush (v := 13) d_M_reduce_36 (by decide) ?_
    refine x_aald (v := .ref (o + 82 + 13)) d_M_reduce_38 zA.1.1.kAt rfl (vp_in_nI (n := 13) (by decide) (by decide)) (by rw [show (13 : Int32).toNatClampNeg = 13 by decide]; exact (zA.1.1.at 13 (by decide)).1) ?_
    refine x_invvN d_M_reduce_39 lm_M_42 (as := [.ref (o + 6 + 6 * p), .ref (o + 82 + 13)]) (S := []) (cz' := 0) (cs' := 0) (c_S_end zA (v.redA hp) hp (r := aFault) ⟨Or.inl (Or.inr (Or.inl rfl)), by decide⟩ (zA.1.1.at 13 (by decide)).2) zA.1.1.kS rfl rfl rfl (Nat.le_of_ble_eq_true rfl) (by decide) (by omega) (by omega) ?_
    rintro _ h9 ⟨rfl, z9, chg9⟩
    exact x_ret ⟨rfl, by simp only [reduceM, hq]; exact z9, chgA.tr chg9⟩ rfl d_M_reduce_42
  | some q =>
    have hl : pPl (oPr σ p) < (oCd σ).length := (List.getElem?_eq_some_iff.mp hq).1
    cases hpm : performM (redB σ p) p q.1 q.2.1 q.2.2.1 q.2.2.2 with
    | some σ' =>
      rw [show reduceC σ p = (performC (redB σ p) p q.1 q.2.1 q.2.2.1 q.2.2.2) by simp only [reduceC, hq, hpm]]
      refine Xc.of (by decide) (by simp [Value.category]) (Nat.le_of_ble_eq_true rfl) ?_
      show Xw E m_M_reduce 54 (performC (redB σ p) p q.1 q.2.1 q.2.2.1 q.2.2.2) (5 * (performC (redB σ p) p q.1 q.2.1 q.2.2.1 q.2.2.2)) 0 [some (.ref (o + 1)), some (.ref (o + 6 + 6 * p)), none, none] [] h _
      refine Xw.wf (fun wf => ?_)
      have chgA : Chg o h (gpF h 2 11 (o + 6 + 6 * p) (.int (pDn (oPr σ p) + 1))) := (Chg.rf o h).pF ⟨by omega, by omega⟩ rfl
      have zA : CR o (redA σ p) (gpF h 2 11 (o + 6 + 6 * p) (.int (pDn (oPr σ p) + 1))) := (z.dn wf v.1 hp _).1
      have chgB : Chg o h (gpF (gpF h 2 11 (o + 6 + 6 * p) (.int (pDn (oPr σ p) + 1))) 2 6 (o + 6 + 6 * p) (.int (nI (pPl (oPr σ p) + 1)))) := chgA.pF ⟨by omega, by omega⟩ rfl
      have zB : CR o (redB σ p) (gpF (gpF h 2 11 (o + 6 + 6 * p) (.int (pDn (oPr σ p) + 1))) 2 6 (o + 6 + 6 * p) (.int (nI (pPl (oPr σ p) + 1)))) := (zA.pl wf v.1 hp _).1
      refine x_aload_n d_M_reduce_0 rfl rfl ?_
      refine x_dup d_M_reduce_1 rfl ?_
      refine x_getf (v := .int (pDn (oPr σ p))) d_M_reduce_2 lf_M_25 (z.1.2 p hp12).k zp.2.2.2.2.2.2.2.2.2 ?_
      refine x_iconst (v := 1) d_M_reduce_5 (by decide) ?_
      refine x_iadd (v := ((pDn (oPr σ p)) + 1)) d_M_reduce_6 rfl ?_
      refine x_putf d_M_reduce_7 lp_M_25 (z.1.2 p hp12).k ⟨_, rfl⟩ ?_
      refine x_aload_n d_M_reduce_10 rfl rfl ?_
      refine x_getf (v := .ref (o + 2)) d_M_reduce_11 lf_M_12 z.1.1.kM (by simp [gF_pF, gF_pA, gF_nO, gF_nA, gF_sA, z.1.1.M0]) ?_
      refine x_aload_n d_M_reduce_14 rfl rfl ?_
      refine x_getf (v := .int (nI (pPl (oPr σ p)))) d_M_reduce_15 lf_M_31 (z.1.2 p hp12).k (by simp [gF_pF, gF_pA, gF_nO, gF_nA, gF_sA, zp.2.1]) ?_
      refine x_invv d_M_reduce_18 lm_M_34 (as := [.int (nI (pPl (oPr σ p)))]) (S := []) (cz' := (performC (redB σ p) p q.1 q.2.1 q.2.2.1 q.2.2.2)) (cs' := 5 * ((performC (redB σ p) p q.1 q.2.1 q.2.2.1 q.2.2.2))) (c_G_reaches (h := (gpF h 2 11 (o + 6 + 6 * p) (.int (pDn (oPr σ p) + 1)))) (n := (oCd σ).length) z.1.1.kG (by simp [gF_pF, z.2.2.1.1]) (nI (pPl (oPr σ p))) 1 ⟨fun _ => rfl, fun e => absurd ⟨nI_pos (by omega), nI_lt hl (by omega)⟩ e⟩) z.1.1.kG rfl rfl rfl (Nat.le_of_ble_eq_true rfl) (by decide) (by omega) (by omega) ?_
      rintro _ _ ⟨rfl, rfl⟩
      refine x_if_ne (tgt := 43) d_M_reduce_21 rfl (fun q21 => ?_) (fun w_ => absurd w_ (by decide))
      refine x_iconst (v := 4) d_M_reduce_43 (by decide) ?_
      refine x_aload_n d_M_reduce_44 rfl rfl ?_
      refine x_getf (v := .int (nI (pPl (oPr σ p)))) d_M_reduce_45 lf_M_31 (z.1.2 p hp12).k (by simp [gF_pF, gF_pA, gF_nO, gF_nA, gF_sA, zp.2.1]) ?_
      refine x_imul (v := (nI (4 * pPl (oPr σ p)))) d_M_reduce_48 (pk_mul 4 _) ?_
      refine x_istore_n d_M_reduce_49 rfl (by decide) (L' := [some (.ref (o + 1)), some (.ref (o + 6 + 6 * p)), some (.int (nI (4 * pPl (oPr σ p)))), none]) rfl ?_
      refine x_aload_n d_M_reduce_50 rfl rfl ?_
      refine x_getf (v := .ref (o + 2)) d_M_reduce_51 lf_M_12 z.1.1.kM (by simp [gF_pF, gF_pA, gF_nO, gF_nA, gF_sA, z.1.1.M0]) ?_
      refine x_getf (v := .ref (o + 3)) d_M_reduce_54 lf_M_46 z.1.1.kG (by simp [gF_pF, gF_pA, gF_nO, gF_nA, gF_sA, z.1.1.G0]) ?_
      refine x_astore_n d_M_reduce_57 rfl (by decide) (L' := [some (.ref (o + 1)), some (.ref (o + 6 + 6 * p)), some (.int (nI (4 * pPl (oPr σ p)))), some (.ref (o + 3))]) rfl ?_
      refine x_aload_n d_M_reduce_58 rfl rfl ?_
      refine x_dup d_M_reduce_59 rfl ?_
      refine x_getf (v := .int (nI (pPl (oPr σ p)))) d_M_reduce_60 lf_M_31 (z.1.2 p hp12).k (by simp [gF_pF, gF_pA, gF_nO, gF_nA, gF_sA, zp.2.1]) ?_
      refine x_iconst (v := 1) d_M_reduce_63 (by decide) ?_
      refine x_iadd (v := (nI (pPl (oPr σ p) + 1))) d_M_reduce_64 (nI_1 _) ?_
      refine x_putf d_M_reduce_65 lp_M_31 (z.1.2 p hp12).k ⟨_, rfl⟩ ?_
      refine x_aload_n d_M_reduce_68 rfl rfl ?_
      refine x_aload_n d_M_reduce_69 rfl rfl ?_
      refine x_aload_n d_M_reduce_70 rfl rfl ?_
      refine x_iload_n d_M_reduce_71 rfl rfl ?_
      refine x_iald (v := .int (nI q.1)) d_M_reduce_72 z.1.1.kGa rfl (vp_in_nI (by omega) (by decide)) (by rw [nI_cl (by omega), gA_pF, gA_pF]; exact (z.2.2.1.2 _ q hq).1) ?_
      refine x_aload_n d_M_reduce_73 rfl rfl ?_
      refine x_iload_n d_M_reduce_74 rfl rfl ?_
      refine x_iconst (v := 1) d_M_reduce_75 (by decide) ?_
      refine x_iadd (v := (nI (4 * pPl (oPr σ p) + 1))) d_M_reduce_76 (nI_1 _) ?_
      refine x_iald (v := .int q.2.1) d_M_reduce_77 z.1.1.kGa rfl (vp_in_nI (by omega) (by decide)) (by rw [nI_cl (by omega), gA_pF, gA_pF]; exact (z.2.2.1.2 _ q hq).2.1) ?_
      refine x_aload_n d_M_reduce_78 rfl rfl ?_
      refine x_iload_n d_M_reduce_79 rfl rfl ?_
      refine x_iconst (v := 2) d_M_reduce_80 (by decide) ?_
      refine x_iadd (v := (nI (4 * pPl (oPr σ p) + 2))) d_M_reduce_81 (nI_add _ 2) ?_
      refine x_iald (v := .int q.2.2.1) d_M_reduce_82 z.1.1.kGa rfl (vp_in_nI (by omega) (by decide)) (by rw [nI_cl (by omega), gA_pF, gA_pF]; exact (z.2.2.1.2 _ q hq).2.2.1) ?_
      refine x_aload_n d_M_reduce_83 rfl rfl ?_
      refine x_iload_n d_M_reduce_84 rfl rfl ?_
      refine x_iconst (v := 3) d_M_reduce_85 (by decide) ?_
      refine x_iadd (v := (nI (4 * pPl (oPr σ p) + 3))) d_M_reduce_86 (nI_add _ 3) ?_
      refine x_iald (v := .int q.2.2.2) d_M_reduce_87 z.1.1.kGa rfl (vp_in_nI (by omega) (by decide)) (by rw [nI_cl (by omega), gA_pF, gA_pF]; exact (z.2.2.1.2 _ q hq).2.2.2) ?_
      refine x_invv d_M_reduce_88 lm_M_50 (as := [.ref (o + 6 + 6 * p), .int (nI q.1), .int q.2.1, .int q.2.2.1, .int q.2.2.2]) (S := []) (cz' := 0) (cs' := 5 * (0)) (c_M_perform zB (v.redB hp (by omega)) hN hp (vc.2 q (List.mem_of_getElem? hq))) zB.1.1.kM rfl rfl rfl (Nat.le_of_ble_eq_true rfl) (by decide) (by omega) (by omega) ?_
      rintro v9 h9 hpf
      rw [hpm] at hpf
      obtain ⟨rfl, z9, chg9⟩ := hpf
      refine x_if_ne (tgt := 112) d_M_reduce_91 rfl (fun q91 => ?_) (fun w_ => absurd w_ (by decide))
      exact x_ret ⟨rfl, by simp only [reduceM, hq, hpm]; exact z9, chgB.tr chg9⟩ rfl d_M_reduce_112
    | none =>
      rw [show reduceC σ p = (performC (redB σ p) p q.1 q.2.1 q.2.2.1 q.2.2.2 + 2 * endC (redB σ p) p aFault) by simp only [reduceC, hq, hpm]]
      refine Xc.of (by decide) (by simp [Value.category]) (Nat.le_of_ble_eq_true rfl) ?_
      show Xw E m_M_reduce 54 (performC (redB σ p) p q.1 q.2.1 q.2.2.1 q.2.2.2 + 2 * endC (redB σ p) p aFault) (5 * (performC (redB σ p) p q.1 q.2.1 q.2.2.1 q.2.2.2 + 2 * endC (redB σ p) p aFault)) 0 [some (.ref (o + 1)), some (.ref (o + 6 + 6 * p)), none, none] [] h _
      refine Xw.wf (fun wf => ?_)
      have chgA : Chg o h (gpF h 2 11 (o + 6 + 6 * p) (.int (pDn (oPr σ p) + 1))) := (Chg.rf o h).pF ⟨by omega, by omega⟩ rfl
      have zA : CR o (redA σ p) (gpF h 2 11 (o + 6 + 6 * p) (.int (pDn (oPr σ p) + 1))) := (z.dn wf v.1 hp _).1
      have chgB : Chg o h (gpF (gpF h 2 11 (o + 6 + 6 * p) (.int (pDn (oPr σ p) + 1))) 2 6 (o + 6 + 6 * p) (.int (nI (pPl (oPr σ p) + 1)))) := chgA.pF ⟨by omega, by omega⟩ rfl
      have zB : CR o (redB σ p) (gpF (gpF h 2 11 (o + 6 + 6 * p) (.int (pDn (oPr σ p) + 1))) 2 6 (o + 6 + 6 * p) (.int (nI (pPl (oPr σ p) + 1)))) := (zA.pl wf v.1 hp _).1
      refine x_aload_n d_M_reduce_0 rfl rfl ?_
      refine x_dup d_M_reduce_1 rfl ?_
      refine x_getf (v := .int (pDn (oPr σ p))) d_M_reduce_2 lf_M_25 (z.1.2 p hp12).k zp.2.2.2.2.2.2.2.2.2 ?_
      refine x_iconst (v := 1) d_M_reduce_5 (by decide) ?_
      refine x_iadd (v := ((pDn (oPr σ p)) + 1)) d_M_reduce_6 rfl ?_
      refine x_putf d_M_reduce_7 lp_M_25 (z.1.2 p hp12).k ⟨_, rfl⟩ ?_
      refine x_aload_n d_M_reduce_10 rfl rfl ?_
      refine x_getf (v := .ref (o + 2)) d_M_reduce_11 lf_M_12 z.1.1.kM (by simp [gF_pF, gF_pA, gF_nO, gF_nA, gF_sA, z.1.1.M0]) ?_
      refine x_aload_n d_M_reduce_14 rfl rfl ?_
      refine x_getf (v := .int (nI (pPl (oPr σ p)))) d_M_reduce_15 lf_M_31 (z.1.2 p hp12).k (by simp [gF_pF, gF_pA, gF_nO, gF_nA, gF_sA, zp.2.1]) ?_
      refine x_invv d_M_reduce_18 lm_M_34 (as := [.int (nI (pPl (oPr σ p)))]) (S := []) (cz' := (performC (redB σ p) p q.1 q.2.1 q.2.2.1 q.2.2.2 + 2 * endC (redB σ p) p aFault)) (cs' := 5 * ((performC (redB σ p) p q.1 q.2.1 q.2.2.1 q.2.2.2 + 2 * endC (redB σ p) p aFault))) (c_G_reaches (h := (gpF h 2 11 (o + 6 + 6 * p) (.int (pDn (oPr σ p) + 1)))) (n := (oCd σ).length) z.1.1.kG (by simp [gF_pF, z.2.2.1.1]) (nI (pPl (oPr σ p))) 1 ⟨fun _ => rfl, fun e => absurd ⟨nI_pos (by omega), nI_lt hl (by omega)⟩ e⟩) z.1.1.kG rfl rfl rfl (Nat.le_of_ble_eq_true rfl) (by decide) (by omega) (by omega) ?_
      rintro _ _ ⟨rfl, rfl⟩
      refine x_if_ne (tgt := 43) d_M_reduce_21 rfl (fun q21 => ?_) (fun w_ => absurd w_ (by decide))
      refine x_iconst (v := 4) d_M_reduce_43 (by decide) ?_
      refine x_aload_n d_M_reduce_44 rfl rfl ?_
      refine x_getf (v := .int (nI (pPl (oPr σ p)))) d_M_reduce_45 lf_M_31 (z.1.2 p hp12).k (by simp [gF_pF, gF_pA, gF_nO, gF_nA, gF_sA, zp.2.1]) ?_
      refine x_imul (v := (nI (4 * pPl (oPr σ p)))) d_M_reduce_48 (pk_mul 4 _) ?_
      refine x_istore_n d_M_reduce_49 rfl (by decide) (L' := [some (.ref (o + 1)), some (.ref (o + 6 + 6 * p)), some (.int (nI (4 * pPl (oPr σ p)))), none]) rfl ?_
      refine x_aload_n d_M_reduce_50 rfl rfl ?_
      refine x_getf (v := .ref (o + 2)) d_M_reduce_51 lf_M_12 z.1.1.kM (by simp [gF_pF, gF_pA, gF_nO, gF_nA, gF_sA, z.1.1.M0]) ?_
      refine x_getf (v := .ref (o + 3)) d_M_reduce_54 lf_M_46 z.1.1.kG (by simp [gF_pF, gF_pA, gF_nO, gF_nA, gF_sA, z.1.1.G0]) ?_
      refine x_astore_n d_M_reduce_57 rfl (by decide) (L' := [some (.ref (o + 1)), some (.ref (o + 6 + 6 * p)), some (.int (nI (4 * pPl (oPr σ p)))), some (.ref (o + 3))]) rfl ?_
      refine x_aload_n d_M_reduce_58 rfl rfl ?_
      refine x_dup d_M_reduce_59 rfl ?_
      refine x_getf (v := .int (nI (pPl (oPr σ p)))) d_M_reduce_60 lf_M_31 (z.1.2 p hp12).k (by simp [gF_pF, gF_pA, gF_nO, gF_nA, gF_sA, zp.2.1]) ?_
      refine x_iconst (v := 1) d_M_reduce_63 (by decide) ?_
      refine x_iadd (v := (nI (pPl (oPr σ p) + 1))) d_M_reduce_64 (nI_1 _) ?_
      refine x_putf d_M_reduce_65 lp_M_31 (z.1.2 p hp12).k ⟨_, rfl⟩ ?_
      refine x_aload_n d_M_reduce_68 rfl rfl ?_
      refine x_aload_n d_M_reduce_69 rfl rfl ?_
      refine x_aload_n d_M_reduce_70 rfl rfl ?_
      refine x_iload_n d_M_reduce_71 rfl rfl ?_
      refine x_iald (v := .int (nI q.1)) d_M_reduce_72 z.1.1.kGa rfl (vp_in_nI (by omega) (by decide)) (by rw [nI_cl (by omega), gA_pF, gA_pF]; exact (z.2.2.1.2 _ q hq).1) ?_
      refine x_aload_n d_M_reduce_73 rfl rfl ?_
      refine x_iload_n d_M_reduce_74 rfl rfl ?_
      refine x_iconst (v := 1) d_M_reduce_75 (by decide) ?_
      refine x_iadd (v := (nI (4 * pPl (oPr σ p) + 1))) d_M_reduce_76 (nI_1 _) ?_
      refine x_iald (v := .int q.2.1) d_M_reduce_77 z.1.1.kGa rfl (vp_in_nI (by omega) (by decide)) (by rw [nI_cl (by omega), gA_pF, gA_pF]; exact (z.2.2.1.2 _ q hq).2.1) ?_
      refine x_aload_n d_M_reduce_78 rfl rfl ?_
      refine x_iload_n d_M_reduce_79 rfl rfl ?_
      refine x_iconst (v := 2) d_M_reduce_80 (by decide) ?_
      refine x_iadd (v := (nI (4 * pPl (oPr σ p) + 2))) d_M_reduce_81 (nI_add _ 2) ?_
      refine x_iald (v := .int q.2.2.1) d_M_reduce_82 z.1.1.kGa rfl (vp_in_nI (by omega) (by decide)) (by rw [nI_cl (by omega), gA_pF, gA_pF]; exact (z.2.2.1.2 _ q hq).2.2.1) ?_
      refine x_aload_n d_M_reduce_83 rfl rfl ?_
      refine x_iload_n d_M_reduce_84 rfl rfl ?_
      refine x_iconst (v := 3) d_M_reduce_85 (by decide) ?_
      refine x_iadd (v := (nI (4 * pPl (oPr σ p) + 3))) d_M_reduce_86 (nI_add _ 3) ?_
      refine x_iald (v := .int q.2.2.2) d_M_reduce_87 z.1.1.kGa rfl (vp_in_nI (by omega) (by decide)) (by rw [nI_cl (by omega), gA_pF, gA_pF]; exact (z.2.2.1.2 _ q hq).2.2.2) ?_
      refine x_invv d_M_reduce_88 lm_M_50 (as := [.ref (o + 6 + 6 * p), .int (nI q.1), .int q.2.1, .int q.2.2.1, .int q.2.2.2]) (S := []) (cz' := 2 * endC (redB σ p) p aFault) (cs' := 5 * (2 * endC (redB σ p) p aFault)) (c_M_perform zB (v.redB hp (by omega)) hN hp (vc.2 q (List.mem_of_getElem? hq))) zB.1.1.kM rfl rfl rfl (Nat.le_of_ble_eq_true rfl) (by decide) (by omega) (by omega) ?_
      rintro v9 h9 hpf
      rw [hpm] at hpf
      obtain ⟨rfl, z9, chg9⟩ := hpf
      refine x_if_ne (tgt := 112) d_M_reduce_91 rfl (fun w_ => absurd rfl w_) (fun q91 => ?_)
      refine x_aload_n d_M_reduce_94 rfl rfl ?_
      refine x_getf (v := .ref (o + 4)) d_M_reduce_95 lf_M_21 z9.1.1.kM z9.1.1.M1 ?_
      refine x_aload_n d_M_reduce_98 rfl rfl ?_
      refine x_aload_n d_M_reduce_99 rfl rfl ?_
      refine x_getf (v := .ref (o + 4)) d_M_reduce_100 lf_M_21 z9.1.1.kM z9.1.1.M1 ?_
      refine x_getf (v := .ref (o + 81)) d_M_reduce_103 lf_M_38 z9.1.1.kS z9.1.1.S3 ?_
      refine x_bipush (v := 13) d_M_reduce_106 (by decide) ?_
      refine x_aald (v := .ref (o + 82 + 13)) d_M_reduce_108 z9.1.1.kAt rfl (vp_in_nI (n := 13) (by decide) (by decide)) (by rw [show (13 : Int32).toNatClampNeg = 13 by decide]; exact (z9.1.1.at 13 (by decide)).1) ?_
      refine x_invvN d_M_reduce_109 lm_M_42 (as := [.ref (o + 6 + 6 * p), .ref (o + 82 + 13)]) (S := []) (cz' := 0) (cs' := 0) (c_S_end z9 (v.redB hp (by omega)) hp (r := aFault) ⟨Or.inl (Or.inr (Or.inl rfl)), by decide⟩ (z9.1.1.at 13 (by decide)).2) z9.1.1.kS rfl rfl rfl (Nat.le_of_ble_eq_true rfl) (by decide) (by omega) (by omega) ?_
      rintro _ h8 ⟨rfl, z8, chg8⟩
      exact x_ret ⟨rfl, by simp only [reduceM, hq, hpm]; exact z8, (chgB.tr chg9).tr chg8⟩ rfl d_M_reduce_112
