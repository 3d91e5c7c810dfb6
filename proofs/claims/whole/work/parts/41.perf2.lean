/-! Machine.perform, operations 14 to 26, reduce (printed by wip/gen/mod_perf2.py). -/
theorem c_bear_none {E : th_E} {h : th_H} {o : Nat} {σ : Ho} (z : CR o σ h) (hc : oCt σ ≤ 12) {t : Tm} {x : Nat} (q : TR h t x) (e : pidM σ t = none) : Xc E m_S_bearing 1 0 0 [.ref (o + 4), .ref x] h (Ex (some .null) h) :=
  c_S_bearing z hc q .null (Or.inl rfl) ⟨fun _ => rfl, fun _ _ => rfl, fun j hs hj hn => by
    rcases pidM_none hc e with a | a | a
    · exact absurd hs a
    · rw [hn] at a; exact absurd a (nI_pos (by omega))
    · rw [hn] at a; exact absurd a (nI_ge hj (by omega))⟩
theorem c_bear_some {E : th_E} {h : th_H} {o : Nat} {σ : Ho} (z : CR o σ h) (hc : oCt σ ≤ 12) {t : Tm} {x k : Nat} (q : TR h t x) (e : pidM σ t = some k) : Xc E m_S_bearing 1 0 0 [.ref (o + 4), .ref x] h (Ex (some (.ref (o + 6 + 6 * k))) h) := by
  obtain ⟨a, b, c⟩ := pidM_some hc e
  refine c_S_bearing z hc q _ (Or.inr ⟨_, rfl⟩) ⟨fun w => absurd a w, fun _ w => ?_, fun j _ hj hn => ?_⟩
  · rw [c] at w
    rcases w with w | w
    · exact absurd w (nI_pos (by omega))
    · exact absurd w (nI_ge b (by omega))
  · rw [c] at hn
    rw [nI_inj (by omega) (by omega) hn]
theorem cPr_take {o p : Nat} {P : Pr} {h : th_H} {m : Nat} {f : Nat → Value} (hm : m < (pMs P).length) (hf : ∀ i x, ((refsOf h 2 (o + 11 + 6 * p) (pMs P).length).eraseIdx m)[i]? = some x → f i = .ref x) (z : cPr o p P h) : cPr o p (sMk (sMs P ((pMs P).eraseIdx m)) 0) (gpF (gpF (gsA h 2 (o + 11 + 6 * p) f) 1 1 (o + 10 + 6 * p) (.int (nI ((pMs P).length - 1)))) 1 2 (o + 10 + 6 * p) (.int 0)) := by
  have zz := z
  obtain ⟨z1, z2, ⟨z3, z4⟩, ⟨z5, z6⟩, z7, z8, z9, z10, ⟨z11, z12⟩, z13⟩ := z
  have te : TE h (gpF (gpF (gsA h 2 (o + 11 + 6 * p) f) 1 1 (o + 10 + 6 * p) (.int (nI ((pMs P).length - 1)))) 1 2 (o + 10 + 6 * p) (.int 0)) := (((TE.rf h).sA).pF (by decide)).pF (by decide)
  have n2 : ∀ k b, gF (gpF (gpF (gsA h 2 (o + 11 + 6 * p) f) 1 1 (o + 10 + 6 * p) (.int (nI ((pMs P).length - 1)))) 1 2 (o + 10 + 6 * p) (.int 0)) 2 k b = gF h 2 k b := fun k b => by rw [gF_pF, if_neg (fun w => absurd w.1 (by decide)), gF_pF, if_neg (fun w => absurd w.1 (by decide)), gF_sA]
  refine ⟨fun j hj => ?_, by rw [n2]; exact z2, ⟨by rw [n2]; exact z3, fun i x hx => ?_⟩, ⟨?_, fun i t ht => ?_⟩, ?_, by rw [n2]; exact z8, by rw [n2]; exact z9, by rw [n2]; exact z10, ⟨fun q => by rw [n2]; exact z11 q, fun t2 q2 => ?_⟩, by rw [n2]; exact z13⟩
  · obtain ⟨b, h1, h2⟩ := z1 j hj
    exact ⟨b, by rw [gA_pF, gA_pF, gA_sA, if_neg (fun w => by omega)]; exact h1, TR.mono te _ _ h2⟩
  · rw [gA_pF, gA_pF, gA_sA, if_neg (fun w => by omega)]; exact z4 i x hx
  · rw [gF_pF, if_neg (fun w => absurd w.2.1 (by decide)), gF_pF, if_pos ⟨rfl, rfl, rfl⟩]
    show _ = Value.int (nI ((pMs P).eraseIdx m).length)
    rw [List.length_eraseIdx, if_pos hm]
  · have ht : ((pMs P).eraseIdx m)[i]? = some t := ht
    have key : ∀ j, (pMs P)[j]? = some t → (refsOf h 2 (o + 11 + 6 * p) (pMs P).length)[j]? = ((refsOf h 2 (o + 11 + 6 * p) (pMs P).length).eraseIdx m)[i]? → ∃ a, f i = .ref a ∧ TR h t a := fun j hj e => by
      obtain ⟨x, hx⟩ := get_some (l := refsOf h 2 (o + 11 + 6 * p) (pMs P).length) (k := j) (by rw [refsOf_len]; exact (List.getElem?_eq_some_iff.mp hj).1)
      obtain ⟨-, t2, h1, h2⟩ := zz.ms hx
      rw [hj] at h1
      cases h1
      exact ⟨x, hf i x (by rw [← e]; exact hx), h2⟩
    have : ∃ a, f i = .ref a ∧ TR h t a := by
      by_cases hi : i < m
      · rw [List.getElem?_eraseIdx_of_lt hi] at ht
        exact key i ht (by rw [List.getElem?_eraseIdx_of_lt hi])
      · rw [List.getElem?_eraseIdx_of_ge (by omega)] at ht
        exact key (i + 1) ht (by rw [List.getElem?_eraseIdx_of_ge (by omega)])
    obtain ⟨a, h1, h2⟩ := this
    exact ⟨a, by rw [gA_pF, gA_pF, gA_sA, if_pos ⟨rfl, rfl⟩]; exact h1, TR.mono te _ _ h2⟩
  · rw [gF_pF, if_pos ⟨rfl, rfl, rfl⟩]; rfl
  · obtain ⟨b, h1, h2⟩ := z12 t2 q2
    exact ⟨b, by rw [n2]; exact h1, TR.mono te _ _ h2⟩
theorem c_perf14 {E : th_E} {h : th_H} {o : Nat} {σ : Ho} (z : CR o σ h) {N p : Nat} (v : vPs N σ) (hp : p < oCt σ) {a : Nat} (ha : a < 48) (b c : Int32) : Xc E m_M_perform 53 0 0 [.ref (o + 1), .ref (o + 6 + 6 * p), .int (nI 14), .int (nI a), .int b, .int c] h (Pf o h σ (performM σ p 14 (nI a) b c)) := by
  have hp12 : p < 12 := by have := v.1; omega
  have hc := v.1
  have zp := z.2.2.2.2.2 p hp
  refine Xc.of (by decide) (by simp [Value.category]) (Nat.le_of_ble_eq_true rfl) ?_
  show Xw E m_M_perform 53 0 0 0 [some (.ref (o + 1)), some (.ref (o + 6 + 6 * p)), some (.int (nI 14)), some (.int (nI a)), some (.int b), some (.int c), none] [] h _
  refine Xw.wf (fun wf => ?_)
  refine x_aload_n d_M_perform_0 rfl rfl ?_
  refine x_getf (v := .ref (o + 8 + 6 * p)) d_M_perform_1 lf_M_54 (z.1.2 p hp12).k (z.1.2 p hp12).rg ?_
  refine x_astore d_M_perform_4 (by decide) (L' := [some (.ref (o + 1)), some (.ref (o + 6 + 6 * p)), some (.int (nI 14)), some (.int (nI a)), some (.int b), some (.int c), some (.ref (o + 8 + 6 * p))]) rfl ?_
  refine x_iload_n d_M_perform_6 rfl rfl ?_
  refine x_tableIn (tgt := 468) (off := 461) d_M_perform_7 (by decide) (by decide) (by decide) rfl ?_
  refine x_aload_n d_M_perform_468 rfl rfl ?_
  refine x_iload_n d_M_perform_469 rfl rfl ?_
  refine x_invv d_M_perform_470 lm_M_100 (as := [.int (nI a)]) (S := []) (c_P_goTo (z.1.2 p hp12).k (nI a)) (z.1.2 p hp12).k rfl rfl rfl (Nat.le_of_ble_eq_true rfl) (by decide) (Nat.le_refl 0) (Nat.le_refl 0) ?_
  rintro _ _ ⟨rfl, rfl⟩
  exact x_iret d_M_perform_473 rfl rfl (Pf.ok (by simp only [performM, cl_nI (show a < 2 ^ 31 by omega)]) (z.pl wf hc hp a).1 (z.pl wf hc hp a).2)
theorem c_perf15n {E : th_E} {h : th_H} {o : Nat} {σ : Ho} (z : CR o σ h) {N p : Nat} (v : vPs N σ) (hp : p < oCt σ) {a : Nat} (ha : a < 48) (b c : Int32) (hl : 6 ≤ (pRe (oPr σ p)).length) : Xc E m_M_perform 53 0 0 [.ref (o + 1), .ref (o + 6 + 6 * p), .int (nI 15), .int (nI a), .int b, .int c] h (Pf o h σ (performM σ p 15 (nI a) b c)) := by
  have hp12 : p < 12 := by have := v.1; omega
  have hc := v.1
  have zp := z.2.2.2.2.2 p hp
  refine Xc.of (by decide) (by simp [Value.category]) (Nat.le_of_ble_eq_true rfl) ?_
  show Xw E m_M_perform 53 0 0 0 [some (.ref (o + 1)), some (.ref (o + 6 + 6 * p)), some (.int (nI 15)), some (.int (nI a)), some (.int b), some (.int c), none] [] h _
  refine Xw.wf (fun wf => ?_)
  refine x_aload_n d_M_perform_0 rfl rfl ?_
  refine x_getf (v := .ref (o + 8 + 6 * p)) d_M_perform_1 lf_M_54 (z.1.2 p hp12).k (z.1.2 p hp12).rg ?_
  refine x_astore d_M_perform_4 (by decide) (L' := [some (.ref (o + 1)), some (.ref (o + 6 + 6 * p)), some (.int (nI 15)), some (.int (nI a)), some (.int b), some (.int c), some (.ref (o + 8 + 6 * p))]) rfl ?_
  refine x_iload_n d_M_perform_6 rfl rfl ?_
  refine x_tableIn (tgt := 474) (off := 467) d_M_perform_7 (by decide) (by decide) (by decide) rfl ?_
  refine x_aload_n d_M_perform_474 rfl rfl ?_
  refine x_invv d_M_perform_475 lm_M_103 (as := []) (S := []) (c_P_push_no (z.1.2 p hp12).k (z.1.2 p hp12).kre (z.1.2 p hp12).re zp.2.2.1.1 zp.2.1 hl (by have := (v.2.2 p hp).2.2.1.1; omega)) (z.1.2 p hp12).k rfl rfl rfl (Nat.le_of_ble_eq_true rfl) (by decide) (Nat.le_refl 0) (Nat.le_refl 0) ?_
  rintro _ _ ⟨rfl, rfl⟩
  refine x_if_eq (tgt := 493) d_M_perform_478 rfl (fun q478 => ?_) (fun w_ => absurd rfl w_)
  refine x_iconst (v := 0) d_M_perform_493 (by decide) ?_
  exact x_iret d_M_perform_494 rfl rfl (Pf.no (by simp only [performM, if_pos hl]) z (Chg.rf o h))
theorem c_perf15y {E : th_E} {h : th_H} {o : Nat} {σ : Ho} (z : CR o σ h) {N p : Nat} (v : vPs N σ) (hp : p < oCt σ) {a : Nat} (ha : a < 48) (b c : Int32) (hl : ¬ 6 ≤ (pRe (oPr σ p)).length) : Xc E m_M_perform 53 0 0 [.ref (o + 1), .ref (o + 6 + 6 * p), .int (nI 15), .int (nI a), .int b, .int c] h (Pf o h σ (performM σ p 15 (nI a) b c)) := by
  have hp12 : p < 12 := by have := v.1; omega
  have hc := v.1
  have zp := z.2.2.2.2.2 p hp
  refine Xc.of (by decide) (by simp [Value.category]) (Nat.le_of_ble_eq_true rfl) ?_
  show Xw E m_M_perform 53 0 0 0 [some (.ref (o + 1)), some (.ref (o + 6 + 6 * p)), some (.int (nI 15)), some (.int (nI a)), some (.int b), some (.int c), none] [] h _
  refine Xw.wf (fun wf => ?_)
  have chg : Chg o h (gpF (gpF (gpA h 1 (o + 9 + 6 * p) (pRe (oPr σ p)).length (.int (nI (pPl (oPr σ p))))) 2 5 (o + 6 + 6 * p) (.int (nI ((pRe (oPr σ p)).length + 1)))) 2 6 (o + 6 + 6 * p) (.int (nI a))) := (((Chg.rf o h).pA ⟨by omega, by omega, by omega⟩ (Or.inl rfl)).pF ⟨by omega, by omega⟩ rfl).pF ⟨by omega, by omega⟩ rfl
  have fin : CR o (sPr σ p (sPl (sRe (oPr σ p) (pRe (oPr σ p) ++ [pPl (oPr σ p)])) a)) (gpF (gpF (gpA h 1 (o + 9 + 6 * p) (pRe (oPr σ p)).length (.int (nI (pPl (oPr σ p))))) 2 5 (o + 6 + 6 * p) (.int (nI ((pRe (oPr σ p)).length + 1)))) 2 6 (o + 6 + 6 * p) (.int (nI a))) := z.sPr wf chg ((((Keep.rf o h).pA (by omega)).pF (by omega)).pF (by omega)) ((((KeepQ.rf o h).pA (by omega)).pF (by decide)).pF (by decide)) (cPr_pl a (cPr_push zp)) (fun y _ hy => (((Same.rf o y h).pA ⟨by omega, by omega⟩).pF ⟨by omega, by omega⟩).pF ⟨by omega, by omega⟩)
  refine x_aload_n d_M_perform_0 rfl rfl ?_
  refine x_getf (v := .ref (o + 8 + 6 * p)) d_M_perform_1 lf_M_54 (z.1.2 p hp12).k (z.1.2 p hp12).rg ?_
  refine x_astore d_M_perform_4 (by decide) (L' := [some (.ref (o + 1)), some (.ref (o + 6 + 6 * p)), some (.int (nI 15)), some (.int (nI a)), some (.int b), some (.int c), some (.ref (o + 8 + 6 * p))]) rfl ?_
  refine x_iload_n d_M_perform_6 rfl rfl ?_
  refine x_tableIn (tgt := 474) (off := 467) d_M_perform_7 (by decide) (by decide) (by decide) rfl ?_
  refine x_aload_n d_M_perform_474 rfl rfl ?_
  refine x_invv d_M_perform_475 lm_M_103 (as := []) (S := []) (c_P_push (z.1.2 p hp12).k (z.1.2 p hp12).kre (z.1.2 p hp12).re zp.2.2.1.1 zp.2.1 (by omega)) (z.1.2 p hp12).k rfl rfl rfl (Nat.le_of_ble_eq_true rfl) (by decide) (Nat.le_refl 0) (Nat.le_refl 0) ?_
  rintro _ _ ⟨rfl, rfl⟩
  refine x_if_eq (tgt := 493) d_M_perform_478 rfl (fun w_ => absurd w_ (by decide)) (fun q478 => ?_)
  refine x_aload_n d_M_perform_481 rfl rfl ?_
  refine x_iload_n d_M_perform_482 rfl rfl ?_
  refine x_invv d_M_perform_483 lm_M_100 (as := [.int (nI a)]) (S := []) (c_P_goTo (h := (gpF (gpA h 1 (o + 9 + 6 * p) (pRe (oPr σ p)).length (.int (nI (pPl (oPr σ p))))) 2 5 (o + 6 + 6 * p) (.int (nI ((pRe (oPr σ p)).length + 1))))) (z.1.2 p hp12).k (nI a)) (z.1.2 p hp12).k rfl rfl rfl (Nat.le_of_ble_eq_true rfl) (by decide) (Nat.le_refl 0) (Nat.le_refl 0) ?_
  rintro _ _ ⟨rfl, rfl⟩
  refine x_if_eq (tgt := 493) d_M_perform_486 rfl (fun w_ => absurd w_ (by decide)) (fun q486 => ?_)
  refine x_iconst (v := 1) d_M_perform_489 (by decide) ?_
  refine x_goto (tgt := 494) d_M_perform_490 rfl ?_
  exact x_iret d_M_perform_494 rfl rfl (Pf.ok (by simp only [performM, cl_nI (show a < 2 ^ 31 by omega), if_neg hl]) fin chg)
theorem c_perf16e {E : th_E} {h : th_H} {o : Nat} {σ : Ho} (z : CR o σ h) {N p : Nat} (v : vPs N σ) (hp : p < oCt σ) (a b c : Int32) (he : pRe (oPr σ p) = []) : Xc E m_M_perform 53 (2 * endC σ p aNormal) (10 * endC σ p aNormal) [.ref (o + 1), .ref (o + 6 + 6 * p), .int (nI 16), .int a, .int b, .int c] h (Pf o h σ (performM σ p 16 a b c)) := by
  have hp12 : p < 12 := by have := v.1; omega
  have hc := v.1
  have zp := z.2.2.2.2.2 p hp
  refine Xc.of (by decide) (by simp [Value.category]) (Nat.le_of_ble_eq_true rfl) ?_
  show Xw E m_M_perform 53 (2 * endC σ p aNormal) (10 * endC σ p aNormal) 0 [some (.ref (o + 1)), some (.ref (o + 6 + 6 * p)), some (.int (nI 16)), some (.int a), some (.int b), some (.int c), none] [] h _
  refine Xw.wf (fun wf => ?_)
  refine x_aload_n d_M_perform_0 rfl rfl ?_
  refine x_getf (v := .ref (o + 8 + 6 * p)) d_M_perform_1 lf_M_54 (z.1.2 p hp12).k (z.1.2 p hp12).rg ?_
  refine x_astore d_M_perform_4 (by decide) (L' := [some (.ref (o + 1)), some (.ref (o + 6 + 6 * p)), some (.int (nI 16)), some (.int a), some (.int b), some (.int c), some (.ref (o + 8 + 6 * p))]) rfl ?_
  refine x_iload_n d_M_perform_6 rfl rfl ?_
  refine x_tableIn (tgt := 495) (off := 488) d_M_perform_7 (by decide) (by decide) (by decide) rfl ?_
  refine x_aload_n d_M_perform_495 rfl rfl ?_
  refine x_aload_n d_M_perform_496 rfl rfl ?_
  refine x_invv d_M_perform_497 lm_M_107 (as := [.ref (o + 6 + 6 * p)]) (S := []) (cz' := 0) (cs' := 0) (c_M_goBack_end z v hp he) z.1.1.kM rfl rfl rfl (Nat.le_of_ble_eq_true rfl) (by decide) (by omega) (by omega) ?_
  rintro _ h1 ⟨rfl, z1, chg1⟩
  exact x_iret d_M_perform_500 rfl rfl (Pf.ok (by simp only [performM, he, List.getLast?_nil]) z1 chg1)
theorem c_perf16y {E : th_E} {h : th_H} {o : Nat} {σ : Ho} (z : CR o σ h) {N p : Nat} (v : vPs N σ) (hp : p < oCt σ) (a b c : Int32) {ys : List Nat} {x : Nat} (he : pRe (oPr σ p) = ys ++ [x]) (hl : ys.length < 6) : Xc E m_M_perform 53 0 0 [.ref (o + 1), .ref (o + 6 + 6 * p), .int (nI 16), .int a, .int b, .int c] h (Pf o h σ (performM σ p 16 a b c)) := by
  have hp12 : p < 12 := by have := v.1; omega
  have hc := v.1
  have zp := z.2.2.2.2.2 p hp
  refine Xc.of (by decide) (by simp [Value.category]) (Nat.le_of_ble_eq_true rfl) ?_
  show Xw E m_M_perform 53 0 0 0 [some (.ref (o + 1)), some (.ref (o + 6 + 6 * p)), some (.int (nI 16)), some (.int a), some (.int b), some (.int c), none] [] h _
  refine Xw.wf (fun wf => ?_)
  refine x_aload_n d_M_perform_0 rfl rfl ?_
  refine x_getf (v := .ref (o + 8 + 6 * p)) d_M_perform_1 lf_M_54 (z.1.2 p hp12).k (z.1.2 p hp12).rg ?_
  refine x_astore d_M_perform_4 (by decide) (L' := [some (.ref (o + 1)), some (.ref (o + 6 + 6 * p)), some (.int (nI 16)), some (.int a), some (.int b), some (.int c), some (.ref (o + 8 + 6 * p))]) rfl ?_
  refine x_iload_n d_M_perform_6 rfl rfl ?_
  refine x_tableIn (tgt := 495) (off := 488) d_M_perform_7 (by decide) (by decide) (by decide) rfl ?_
  refine x_aload_n d_M_perform_495 rfl rfl ?_
  refine x_aload_n d_M_perform_496 rfl rfl ?_
  refine x_invv d_M_perform_497 lm_M_107 (as := [.ref (o + 6 + 6 * p)]) (S := []) (c_M_goBack z v hp he hl) z.1.1.kM rfl rfl rfl (Nat.le_of_ble_eq_true rfl) (by decide) (Nat.le_refl 0) (Nat.le_refl 0) ?_
  rintro _ h1 ⟨rfl, z1, chg1⟩
  exact x_iret d_M_perform_500 rfl rfl (Pf.ok (by simp only [performM, he, List.getLast?_append, List.getLast?_singleton, Option.some_or, List.dropLast_concat]) z1 chg1)
theorem c_perf17n {E : th_E} {h : th_H} {o : Nat} {σ : Ho} (z : CR o σ h) {N p : Nat} (v : vPs N σ) (hp : p < oCt σ) {a : Nat} (ha : a < 8) {b : Nat} (hb : b < 8) (c : Int32) (he : pidM σ (pRg (oPr σ p) a) = none) : Xc E m_M_perform 53 0 0 [.ref (o + 1), .ref (o + 6 + 6 * p), .int (nI 17), .int (nI a), .int (nI b), .int c] h (Pf o h σ (performM σ p 17 (nI a) (nI b) c)) := by
  have hp12 : p < 12 := by have := v.1; omega
  have hc := v.1
  have zp := z.2.2.2.2.2 p hp
  obtain ⟨x, gx, tx⟩ := zp.1 a ha
  obtain ⟨y, gy, ty⟩ := zp.1 b hb
  refine Xc.of (by decide) (by simp [Value.category]) (Nat.le_of_ble_eq_true rfl) ?_
  show Xw E m_M_perform 53 0 0 0 [some (.ref (o + 1)), some (.ref (o + 6 + 6 * p)), some (.int (nI 17)), some (.int (nI a)), some (.int (nI b)), some (.int c), none] [] h _
  refine Xw.wf (fun wf => ?_)
  refine x_aload_n d_M_perform_0 rfl rfl ?_
  refine x_getf (v := .ref (o + 8 + 6 * p)) d_M_perform_1 lf_M_54 (z.1.2 p hp12).k (z.1.2 p hp12).rg ?_
  refine x_astore d_M_perform_4 (by decide) (L' := [some (.ref (o + 1)), some (.ref (o + 6 + 6 * p)), some (.int (nI 17)), some (.int (nI a)), some (.int (nI b)), some (.int c), some (.ref (o + 8 + 6 * p))]) rfl ?_
  refine x_iload_n d_M_perform_6 rfl rfl ?_
  refine x_tableIn (tgt := 501) (off := 494) d_M_perform_7 (by decide) (by decide) (by decide) rfl ?_
  refine x_aload_n d_M_perform_501 rfl rfl ?_
  refine x_aload_n d_M_perform_502 rfl rfl ?_
  refine x_getf (v := .ref (o + 4)) d_M_perform_503 lf_M_21 z.1.1.kM z.1.1.M1 ?_
  refine x_aload d_M_perform_506 rfl ?_
  refine x_iload_n d_M_perform_508 rfl rfl ?_
  refine x_aald (v := .ref x) d_M_perform_509 (z.1.2 p hp12).kr rfl (vp_in_nI ha (by decide)) (by rw [nI_cl (by omega)]; exact gx) ?_
  refine x_invv d_M_perform_510 lm_M_111 (as := [.ref x]) (S := [.ref (o + 1)]) (c_bear_none z hc tx he) z.1.1.kS rfl rfl rfl (Nat.le_of_ble_eq_true rfl) (by decide) (Nat.le_refl 0) (Nat.le_refl 0) ?_
  rintro _ _ ⟨rfl, rfl⟩
  refine x_aload d_M_perform_513 rfl ?_
  refine x_iload d_M_perform_515 rfl ?_
  refine x_aald (v := .ref y) d_M_perform_517 (z.1.2 p hp12).kr rfl (vp_in_nI hb (by decide)) (by rw [nI_cl (by omega)]; exact gy) ?_
  refine x_invv d_M_perform_518 lm_M_115 (as := [.null, .ref y]) (S := []) (c_M_send_no (o := o) (x := y)) z.1.1.kM rfl rfl rfl (Nat.le_of_ble_eq_true rfl) (by decide) (Nat.le_refl 0) (Nat.le_refl 0) ?_
  rintro _ _ ⟨rfl, rfl⟩
  exact x_iret d_M_perform_521 rfl rfl (Pf.no (by simp only [performM, cl_nI (show a < 2 ^ 31 by omega), he]) z (Chg.rf o h))
theorem c_perf17y {E : th_E} {h : th_H} {o : Nat} {σ : Ho} (z : CR o σ h) {N p : Nat} (v : vPs N σ) (hp : p < oCt σ) {a : Nat} (ha : a < 8) {b : Nat} (hb : b < 8) (c : Int32) {q : Nat} (he : pidM σ (pRg (oPr σ p) a) = some q) : Xc E m_M_perform 53 0 0 [.ref (o + 1), .ref (o + 6 + 6 * p), .int (nI 17), .int (nI a), .int (nI b), .int c] h (Pf o h σ (performM σ p 17 (nI a) (nI b) c)) := by
  have hp12 : p < 12 := by have := v.1; omega
  have hc := v.1
  have zp := z.2.2.2.2.2 p hp
  obtain ⟨x, gx, tx⟩ := zp.1 a ha
  obtain ⟨y, gy, ty⟩ := zp.1 b hb
  refine Xc.of (by decide) (by simp [Value.category]) (Nat.le_of_ble_eq_true rfl) ?_
  show Xw E m_M_perform 53 0 0 0 [some (.ref (o + 1)), some (.ref (o + 6 + 6 * p)), some (.int (nI 17)), some (.int (nI a)), some (.int (nI b)), some (.int c), none] [] h _
  refine Xw.wf (fun wf => ?_)
  refine x_aload_n d_M_perform_0 rfl rfl ?_
  refine x_getf (v := .ref (o + 8 + 6 * p)) d_M_perform_1 lf_M_54 (z.1.2 p hp12).k (z.1.2 p hp12).rg ?_
  refine x_astore d_M_perform_4 (by decide) (L' := [some (.ref (o + 1)), some (.ref (o + 6 + 6 * p)), some (.int (nI 17)), some (.int (nI a)), some (.int (nI b)), some (.int c), some (.ref (o + 8 + 6 * p))]) rfl ?_
  refine x_iload_n d_M_perform_6 rfl rfl ?_
  refine x_tableIn (tgt := 501) (off := 494) d_M_perform_7 (by decide) (by decide) (by decide) rfl ?_
  refine x_aload_n d_M_perform_501 rfl rfl ?_
  refine x_aload_n d_M_perform_502 rfl rfl ?_
  refine x_getf (v := .ref (o + 4)) d_M_perform_503 lf_M_21 z.1.1.kM z.1.1.M1 ?_
  refine x_aload d_M_perform_506 rfl ?_
  refine x_iload_n d_M_perform_508 rfl rfl ?_
  refine x_aald (v := .ref x) d_M_perform_509 (z.1.2 p hp12).kr rfl (vp_in_nI ha (by decide)) (by rw [nI_cl (by omega)]; exact gx) ?_
  refine x_invv d_M_perform_510 lm_M_111 (as := [.ref x]) (S := [.ref (o + 1)]) (c_bear_some z hc tx he) z.1.1.kS rfl rfl rfl (Nat.le_of_ble_eq_true rfl) (by decide) (Nat.le_refl 0) (Nat.le_refl 0) ?_
  rintro _ _ ⟨rfl, rfl⟩
  refine x_aload d_M_perform_513 rfl ?_
  refine x_iload d_M_perform_515 rfl ?_
  refine x_aald (v := .ref y) d_M_perform_517 (z.1.2 p hp12).kr rfl (vp_in_nI hb (by decide)) (by rw [nI_cl (by omega)]; exact gy) ?_
  refine x_invv d_M_perform_518 lm_M_115 (as := [.ref (o + 6 + 6 * q), .ref y]) (S := []) (c_M_send z v (pidM_some hc he).2.1 ty) z.1.1.kM rfl rfl rfl (Nat.le_of_ble_eq_true rfl) (by decide) (Nat.le_refl 0) (Nat.le_refl 0) ?_
  rintro _ h1 ⟨rfl, z1, chg1⟩
  exact x_iret d_M_perform_521 rfl rfl (Pf.ok (by simp only [performM, cl_nI (show a < 2 ^ 31 by omega), cl_nI (show b < 2 ^ 31 by omega), he]) z1 chg1)
theorem c_perf18n {E : th_E} {h : th_H} {o : Nat} {σ : Ho} (z : CR o σ h) {N p : Nat} (v : vPs N σ) (hp : p < oCt σ) {a : Nat} (ha : a < 8) {b : Nat} (hb : b < 48) (c : Int32) (hN : N < 2 ^ 31) (hm : (pMs (oPr σ p)).length ≤ pMk (oPr σ p)) : Xc E m_M_perform 53 0 0 [.ref (o + 1), .ref (o + 6 + 6 * p), .int (nI 18), .int (nI a), .int (nI b), .int c] h (Pf o h σ (performM σ p 18 (nI a) (nI b) c)) := by
  have hp12 : p < 12 := by have := v.1; omega
  have hc := v.1
  have zp := z.2.2.2.2.2 p hp
  refine Xc.of (by decide) (by simp [Value.category]) (Nat.le_of_ble_eq_true rfl) ?_
  show Xw E m_M_perform 53 0 0 0 [some (.ref (o + 1)), some (.ref (o + 6 + 6 * p)), some (.int (nI 18)), some (.int (nI a)), some (.int (nI b)), some (.int c), none] [] h _
  refine Xw.wf (fun wf => ?_)
  refine x_aload_n d_M_perform_0 rfl rfl ?_
  refine x_getf (v := .ref (o + 8 + 6 * p)) d_M_perform_1 lf_M_54 (z.1.2 p hp12).k (z.1.2 p hp12).rg ?_
  refine x_astore d_M_perform_4 (by decide) (L' := [some (.ref (o + 1)), some (.ref (o + 6 + 6 * p)), some (.int (nI 18)), some (.int (nI a)), some (.int (nI b)), some (.int c), some (.ref (o + 8 + 6 * p))]) rfl ?_
  refine x_iload_n d_M_perform_6 rfl rfl ?_
  refine x_tableIn (tgt := 522) (off := 515) d_M_perform_7 (by decide) (by decide) (by decide) rfl ?_
  refine x_aload_n d_M_perform_522 rfl rfl ?_
  refine x_aload_n d_M_perform_523 rfl rfl ?_
  refine x_iload_n d_M_perform_524 rfl rfl ?_
  refine x_aload_n d_M_perform_525 rfl rfl ?_
  refine x_getf (v := .ref (o + 10 + 6 * p)) d_M_perform_526 lf_M_119 (z.1.2 p hp12).k (z.1.2 p hp12).mb ?_
  refine x_invv d_M_perform_529 lm_M_123 (as := []) (S := [.int (nI a), .ref (o + 6 + 6 * p), .ref (o + 6 + 6 * p)]) (c_marked z v hN hp .null ⟨fun _ => rfl, fun y hy => absurd (refsOf_at hy).1 (by omega)⟩) (z.1.2 p hp12).kmb rfl rfl rfl (Nat.le_of_ble_eq_true rfl) (by decide) (Nat.le_refl 0) (Nat.le_refl 0) ?_
  rintro _ _ ⟨rfl, rfl⟩
  refine x_invv d_M_perform_532 lm_M_62 (as := [.int (nI a), .null]) (S := [.ref (o + 6 + 6 * p)]) (c_P_set_null (z.1.2 p hp12).k (nI a)) (z.1.2 p hp12).k rfl rfl rfl (Nat.le_of_ble_eq_true rfl) (by decide) (Nat.le_refl 0) (Nat.le_refl 0) ?_
  rintro _ _ ⟨rfl, rfl⟩
  refine x_iload d_M_perform_535 rfl ?_
  refine x_invs d_M_perform_537 lm_M_90 (as := [.ref (o + 6 + 6 * p), .int 0, .int (nI b)]) (S := []) (c_M_goUnless0 (z.1.2 p hp12).k (nI b)) rfl rfl (Nat.le_of_ble_eq_true rfl) (by decide) (Nat.le_refl 0) (Nat.le_refl 0) ?_
  rintro _ _ ⟨rfl, rfl⟩
  exact x_iret d_M_perform_540 rfl rfl (Pf.ok (by simp only [performM, cl_nI (show b < 2 ^ 31 by omega), List.getElem?_eq_none hm]) (z.pl wf hc hp b).1 (z.pl wf hc hp b).2)
theorem c_perf18y {E : th_E} {h : th_H} {o : Nat} {σ : Ho} (z : CR o σ h) {N p : Nat} (v : vPs N σ) (hp : p < oCt σ) {a : Nat} (ha : a < 8) {b : Nat} (hb : b < 48) (c : Int32) (hN : N < 2 ^ 31) (hm : pMk (oPr σ p) < (pMs (oPr σ p)).length) : Xc E m_M_perform 53 0 0 [.ref (o + 1), .ref (o + 6 + 6 * p), .int (nI 18), .int (nI a), .int (nI b), .int c] h (Pf o h σ (performM σ p 18 (nI a) (nI b) c)) := by
  have hp12 : p < 12 := by have := v.1; omega
  have hc := v.1
  have zp := z.2.2.2.2.2 p hp
  obtain ⟨x, hx⟩ := get_some (l := refsOf h 2 (o + 11 + 6 * p) (pMs (oPr σ p)).length) (k := pMk (oPr σ p)) (by rw [refsOf_len]; exact hm)
  obtain ⟨gx, t, ht, tx⟩ := zp.ms hx
  refine Xc.of (by decide) (by simp [Value.category]) (Nat.le_of_ble_eq_true rfl) ?_
  show Xw E m_M_perform 53 0 0 0 [some (.ref (o + 1)), some (.ref (o + 6 + 6 * p)), some (.int (nI 18)), some (.int (nI a)), some (.int (nI b)), some (.int c), none] [] h _
  refine Xw.wf (fun wf => ?_)
  refine x_aload_n d_M_perform_0 rfl rfl ?_
  refine x_getf (v := .ref (o + 8 + 6 * p)) d_M_perform_1 lf_M_54 (z.1.2 p hp12).k (z.1.2 p hp12).rg ?_
  refine x_astore d_M_perform_4 (by decide) (L' := [some (.ref (o + 1)), some (.ref (o + 6 + 6 * p)), some (.int (nI 18)), some (.int (nI a)), some (.int (nI b)), some (.int c), some (.ref (o + 8 + 6 * p))]) rfl ?_
  refine x_iload_n d_M_perform_6 rfl rfl ?_
  refine x_tableIn (tgt := 522) (off := 515) d_M_perform_7 (by decide) (by decide) (by decide) rfl ?_
  refine x_aload_n d_M_perform_522 rfl rfl ?_
  refine x_aload_n d_M_perform_523 rfl rfl ?_
  refine x_iload_n d_M_perform_524 rfl rfl ?_
  refine x_aload_n d_M_perform_525 rfl rfl ?_
  refine x_getf (v := .ref (o + 10 + 6 * p)) d_M_perform_526 lf_M_119 (z.1.2 p hp12).k (z.1.2 p hp12).mb ?_
  refine x_invv d_M_perform_529 lm_M_123 (as := []) (S := [.int (nI a), .ref (o + 6 + 6 * p), .ref (o + 6 + 6 * p)]) (c_marked z v hN hp (.ref x) ⟨fun e => absurd e (by omega), fun y hy => by rw [hx] at hy; cases hy; rfl⟩) (z.1.2 p hp12).kmb rfl rfl rfl (Nat.le_of_ble_eq_true rfl) (by decide) (Nat.le_refl 0) (Nat.le_refl 0) ?_
  rintro _ _ ⟨rfl, rfl⟩
  refine x_invv d_M_perform_532 lm_M_62 (as := [.int (nI a), .ref x]) (S := [.ref (o + 6 + 6 * p)]) (cz' := 0) (cs' := 0) (c_P_set (z.1.2 p hp12).k (z.1.2 p hp12).kr (z.1.2 p hp12).rg ha tx.k) (z.1.2 p hp12).k rfl rfl rfl (Nat.le_of_ble_eq_true rfl) (by omega) (by omega) (by omega) ?_
  rintro _ _ ⟨rfl, rfl⟩
  refine x_iload d_M_perform_535 rfl ?_
  refine x_invs d_M_perform_537 lm_M_90 (as := [.ref (o + 6 + 6 * p), .int 1, .int (nI b)]) (S := []) (c_M_goUnless1 (nI b)) rfl rfl (Nat.le_of_ble_eq_true rfl) (by decide) (Nat.le_refl 0) (Nat.le_refl 0) ?_
  rintro _ _ ⟨rfl, rfl⟩
  exact x_iret d_M_perform_540 rfl rfl (Pf.ok (by simp only [performM, cl_nI (show a < 2 ^ 31 by omega), ht]) (z.reg wf hc hp tx).1 ((z.reg wf hc hp tx).2))
theorem c_perf19n {E : th_E} {h : th_H} {o : Nat} {σ : Ho} (z : CR o σ h) {N p : Nat} (v : vPs N σ) (hp : p < oCt σ) (a b c : Int32) (hN : N < 2 ^ 31) (hm : (pMs (oPr σ p)).length ≤ pMk (oPr σ p)) : Xc E m_M_perform 53 0 0 [.ref (o + 1), .ref (o + 6 + 6 * p), .int (nI 19), .int a, .int b, .int c] h (Pf o h σ (performM σ p 19 a b c)) := by
  have hp12 : p < 12 := by have := v.1; omega
  have hc := v.1
  have zp := z.2.2.2.2.2 p hp
  refine Xc.of (by decide) (by simp [Value.category]) (Nat.le_of_ble_eq_true rfl) ?_
  show Xw E m_M_perform 53 0 0 0 [some (.ref (o + 1)), some (.ref (o + 6 + 6 * p)), some (.int (nI 19)), some (.int a), some (.int b), some (.int c), none] [] h _
  refine Xw.wf (fun wf => ?_)
  refine x_aload_n d_M_perform_0 rfl rfl ?_
  refine x_getf (v := .ref (o + 8 + 6 * p)) d_M_perform_1 lf_M_54 (z.1.2 p hp12).k (z.1.2 p hp12).rg ?_
  refine x_astore d_M_perform_4 (by decide) (L' := [some (.ref (o + 1)), some (.ref (o + 6 + 6 * p)), some (.int (nI 19)), some (.int a), some (.int b), some (.int c), some (.ref (o + 8 + 6 * p))]) rfl ?_
  refine x_iload_n d_M_perform_6 rfl rfl ?_
  refine x_tableIn (tgt := 541) (off := 534) d_M_perform_7 (by decide) (by decide) (by decide) rfl ?_
  refine x_aload_n d_M_perform_541 rfl rfl ?_
  refine x_getf (v := .ref (o + 10 + 6 * p)) d_M_perform_542 lf_M_119 (z.1.2 p hp12).k (z.1.2 p hp12).mb ?_
  refine x_invv d_M_perform_545 lm_M_129 (as := []) (S := []) (c_B_take_none (k1 := (z.1.2 p hp12).kmb) (k2 := (z.1.2 p hp12).kma) (f0 := (z.1.2 p hp12).ma) (f1 := (by rw [refsOf_len]; exact zp.2.2.2.1.1)) (f2 := zp.2.2.2.2.1) (hn := (by rw [refsOf_len]; exact (v.2.2 p hp).2.2.2.1.1)) (fm := (fun i y hy => (zp.ms hy).1)) (hmk := (by have := (v.2.2 p hp).2.2.2.2.1; omega)) (hf := (by rw [refsOf_len]; exact hm))) (z.1.2 p hp12).kmb rfl rfl rfl (Nat.le_of_ble_eq_true rfl) (by decide) (Nat.le_refl 0) (Nat.le_refl 0) ?_
  rintro _ _ ⟨rfl, rfl⟩
  exact x_iret d_M_perform_548 rfl rfl (Pf.no (by simp only [performM, if_neg (Nat.not_lt.mpr hm)]) z (Chg.rf o h))
theorem c_perf19y {E : th_E} {h : th_H} {o : Nat} {σ : Ho} (z : CR o σ h) {N p : Nat} (v : vPs N σ) (hp : p < oCt σ) (a b c : Int32) (hN : N < 2 ^ 31) (hm : pMk (oPr σ p) < (pMs (oPr σ p)).length) : Xc E m_M_perform 53 0 0 [.ref (o + 1), .ref (o + 6 + 6 * p), .int (nI 19), .int a, .int b, .int c] h (Pf o h σ (performM σ p 19 a b c)) := by
  have hp12 : p < 12 := by have := v.1; omega
  have hc := v.1
  have zp := z.2.2.2.2.2 p hp
  refine Xc.of (by decide) (by simp [Value.category]) (Nat.le_of_ble_eq_true rfl) ?_
  show Xw E m_M_perform 53 0 0 0 [some (.ref (o + 1)), some (.ref (o + 6 + 6 * p)), some (.int (nI 19)), some (.int a), some (.int b), some (.int c), none] [] h _
  refine Xw.wf (fun wf => ?_)
  refine x_aload_n d_M_perform_0 rfl rfl ?_
  refine x_getf (v := .ref (o + 8 + 6 * p)) d_M_perform_1 lf_M_54 (z.1.2 p hp12).k (z.1.2 p hp12).rg ?_
  refine x_astore d_M_perform_4 (by decide) (L' := [some (.ref (o + 1)), some (.ref (o + 6 + 6 * p)), some (.int (nI 19)), some (.int a), some (.int b), some (.int c), some (.ref (o + 8 + 6 * p))]) rfl ?_
  refine x_iload_n d_M_perform_6 rfl rfl ?_
  refine x_tableIn (tgt := 541) (off := 534) d_M_perform_7 (by decide) (by decide) (by decide) rfl ?_
  refine x_aload_n d_M_perform_541 rfl rfl ?_
  refine x_getf (v := .ref (o + 10 + 6 * p)) d_M_perform_542 lf_M_119 (z.1.2 p hp12).k (z.1.2 p hp12).mb ?_
  refine x_invv d_M_perform_545 lm_M_129 (as := []) (S := []) (c_B_take (k1 := (z.1.2 p hp12).kmb) (k2 := (z.1.2 p hp12).kma) (f0 := (z.1.2 p hp12).ma) (f1 := (by rw [refsOf_len]; exact zp.2.2.2.1.1)) (f2 := zp.2.2.2.2.1) (hn := (by rw [refsOf_len]; exact (v.2.2 p hp).2.2.2.1.1)) (fm := (fun i y hy => (zp.ms hy).1)) (kx := (fun y hy => (by obtain ⟨i, hi⟩ := List.getElem?_of_mem hy; obtain ⟨_, t, _, ht⟩ := zp.ms hi; exact ht.k))) (hf := (by rw [refsOf_len]; exact hm))) (z.1.2 p hp12).kmb rfl rfl rfl (Nat.le_of_ble_eq_true rfl) (by decide) (Nat.le_refl 0) (Nat.le_refl 0) ?_
  rintro _ _ ⟨rfl, f', rfl, hf⟩
  rw [refsOf_len]
  have chg : Chg o h (gpF (gpF (gsA h 2 (o + 11 + 6 * p) f') 1 1 (o + 10 + 6 * p) (.int (nI ((pMs (oPr σ p)).length - 1)))) 1 2 (o + 10 + 6 * p) (.int 0)) := (((Chg.rf o h).sA ⟨by omega, by omega, by omega⟩ (Or.inr rfl)).pF ⟨by omega, by omega⟩ rfl).pF ⟨by omega, by omega⟩ rfl
  have fin : CR o (sPr σ p (sMk (sMs (oPr σ p) ((pMs (oPr σ p)).eraseIdx (pMk (oPr σ p)))) 0)) (gpF (gpF (gsA h 2 (o + 11 + 6 * p) f') 1 1 (o + 10 + 6 * p) (.int (nI ((pMs (oPr σ p)).length - 1)))) 1 2 (o + 10 + 6 * p) (.int 0)) := z.sPr wf chg ((((Keep.rf o h).sA (by omega)).pF (by omega)).pF (by omega)) ((((KeepQ.rf o h).sA (by omega)).pF (by decide)).pF (by decide)) (cPr_take hm hf zp) (fun y _ hy => (((Same.rf o y h).sA ⟨by omega, by omega⟩).pF ⟨by omega, by omega⟩).pF ⟨by omega, by omega⟩)
  exact x_iret d_M_perform_548 rfl rfl (Pf.ok (by simp only [performM, if_pos hm]) fin chg)
theorem c_perf20 {E : th_E} {h : th_H} {o : Nat} {σ : Ho} (z : CR o σ h) {N p : Nat} (v : vPs N σ) (hp : p < oCt σ) {a : Nat} (ha : a < 48) (b c : Int32) : Xc E m_M_perform 53 0 0 [.ref (o + 1), .ref (o + 6 + 6 * p), .int (nI 20), .int (nI a), .int b, .int c] h (Pf o h σ (performM σ p 20 (nI a) b c)) := by
  have hp12 : p < 12 := by have := v.1; omega
  have hc := v.1
  have zp := z.2.2.2.2.2 p hp
  refine Xc.of (by decide) (by simp [Value.category]) (Nat.le_of_ble_eq_true rfl) ?_
  show Xw E m_M_perform 53 0 0 0 [some (.ref (o + 1)), some (.ref (o + 6 + 6 * p)), some (.int (nI 20)), some (.int (nI a)), some (.int b), some (.int c), none] [] h _
  refine Xw.wf (fun wf => ?_)
  refine x_aload_n d_M_perform_0 rfl rfl ?_
  refine x_getf (v := .ref (o + 8 + 6 * p)) d_M_perform_1 lf_M_54 (z.1.2 p hp12).k (z.1.2 p hp12).rg ?_
  refine x_astore d_M_perform_4 (by decide) (L' := [some (.ref (o + 1)), some (.ref (o + 6 + 6 * p)), some (.int (nI 20)), some (.int (nI a)), some (.int b), some (.int c), some (.ref (o + 8 + 6 * p))]) rfl ?_
  refine x_iload_n d_M_perform_6 rfl rfl ?_
  refine x_tableIn (tgt := 549) (off := 542) d_M_perform_7 (by decide) (by decide) (by decide) rfl ?_
  refine x_aload_n d_M_perform_549 rfl rfl ?_
  refine x_iload_n d_M_perform_550 rfl rfl ?_
  refine x_invs d_M_perform_551 lm_M_132 (as := [.ref (o + 6 + 6 * p), .int (nI a)]) (S := []) (c_M_passOver z v hp a) rfl rfl (Nat.le_of_ble_eq_true rfl) (by decide) (Nat.le_refl 0) (Nat.le_refl 0) ?_
  rintro _ h1 ⟨rfl, z1, chg1⟩
  exact x_iret d_M_perform_554 rfl rfl (Pf.ok (by simp only [performM, cl_nI (show a < 2 ^ 31 by omega)]) z1 chg1)
theorem c_perf21g {E : th_E} {h : th_H} {o : Nat} {σ : Ho} (z : CR o σ h) {N p : Nat} (v : vPs N σ) (hp : p < oCt σ) {a : Nat} (ha : a < 48) (b c : Int32) (hN : N < 2 ^ 31) (hm : pMk (oPr σ p) < (pMs (oPr σ p)).length) : Xc E m_M_perform 53 0 0 [.ref (o + 1), .ref (o + 6 + 6 * p), .int (nI 21), .int (nI a), .int b, .int c] h (Pf o h σ (performM σ p 21 (nI a) b c)) := by
  have hp12 : p < 12 := by have := v.1; omega
  have hc := v.1
  have zp := z.2.2.2.2.2 p hp
  refine Xc.of (by decide) (by simp [Value.category]) (Nat.le_of_ble_eq_true rfl) ?_
  show Xw E m_M_perform 53 0 0 0 [some (.ref (o + 1)), some (.ref (o + 6 + 6 * p)), some (.int (nI 21)), some (.int (nI a)), some (.int b), some (.int c), none] [] h _
  refine Xw.wf (fun wf => ?_)
  refine x_aload_n d_M_perform_0 rfl rfl ?_
  refine x_getf (v := .ref (o + 8 + 6 * p)) d_M_perform_1 lf_M_54 (z.1.2 p hp12).k (z.1.2 p hp12).rg ?_
  refine x_astore d_M_perform_4 (by decide) (L' := [some (.ref (o + 1)), some (.ref (o + 6 + 6 * p)), some (.int (nI 21)), some (.int (nI a)), some (.int b), some (.int c), some (.ref (o + 8 + 6 * p))]) rfl ?_
  refine x_iload_n d_M_perform_6 rfl rfl ?_
  refine x_tableIn (tgt := 555) (off := 548) d_M_perform_7 (by decide) (by decide) (by decide) rfl ?_
  refine x_aload_n d_M_perform_555 rfl rfl ?_
  refine x_aload_n d_M_perform_556 rfl rfl ?_
  refine x_iload_n d_M_perform_557 rfl rfl ?_
  refine x_invv d_M_perform_558 lm_M_136 (as := [.ref (o + 6 + 6 * p), .int (nI a)]) (S := []) (c_M_wait_go z v hp hN a hm) z.1.1.kM rfl rfl rfl (Nat.le_of_ble_eq_true rfl) (by decide) (Nat.le_refl 0) (Nat.le_refl 0) ?_
  rintro _ h1 ⟨rfl, z1, chg1⟩
  exact x_iret d_M_perform_561 rfl rfl (Pf.ok (by simp only [performM, cl_nI (show a < 2 ^ 31 by omega), if_pos hm]) z1 chg1)
theorem c_perf21w {E : th_E} {h : th_H} {o : Nat} {σ : Ho} (z : CR o σ h) {N p : Nat} (v : vPs N σ) (hp : p < oCt σ) {a : Nat} (ha : a < 48) (b c : Int32) (hN : N < 2 ^ 31) (hm : (pMs (oPr σ p)).length ≤ pMk (oPr σ p)) : Xc E m_M_perform 53 0 0 [.ref (o + 1), .ref (o + 6 + 6 * p), .int (nI 21), .int (nI a), .int b, .int c] h (Pf o h σ (performM σ p 21 (nI a) b c)) := by
  have hp12 : p < 12 := by have := v.1; omega
  have hc := v.1
  have zp := z.2.2.2.2.2 p hp
  refine Xc.of (by decide) (by simp [Value.category]) (Nat.le_of_ble_eq_true rfl) ?_
  show Xw E m_M_perform 53 0 0 0 [some (.ref (o + 1)), some (.ref (o + 6 + 6 * p)), some (.int (nI 21)), some (.int (nI a)), some (.int b), some (.int c), none] [] h _
  refine Xw.wf (fun wf => ?_)
  refine x_aload_n d_M_perform_0 rfl rfl ?_
  refine x_getf (v := .ref (o + 8 + 6 * p)) d_M_perform_1 lf_M_54 (z.1.2 p hp12).k (z.1.2 p hp12).rg ?_
  refine x_astore d_M_perform_4 (by decide) (L' := [some (.ref (o + 1)), some (.ref (o + 6 + 6 * p)), some (.int (nI 21)), some (.int (nI a)), some (.int b), some (.int c), some (.ref (o + 8 + 6 * p))]) rfl ?_
  refine x_iload_n d_M_perform_6 rfl rfl ?_
  refine x_tableIn (tgt := 555) (off := 548) d_M_perform_7 (by decide) (by decide) (by decide) rfl ?_
  refine x_aload_n d_M_perform_555 rfl rfl ?_
  refine x_aload_n d_M_perform_556 rfl rfl ?_
  refine x_iload_n d_M_perform_557 rfl rfl ?_
  refine x_invv d_M_perform_558 lm_M_136 (as := [.ref (o + 6 + 6 * p), .int (nI a)]) (S := []) (c_M_wait z v hp hN a hm) z.1.1.kM rfl rfl rfl (Nat.le_of_ble_eq_true rfl) (by decide) (Nat.le_refl 0) (Nat.le_refl 0) ?_
  rintro _ h1 ⟨rfl, z1, chg1⟩
  exact x_iret d_M_perform_561 rfl rfl (Pf.ok (by simp only [performM, cl_nI (show a < 2 ^ 31 by omega), if_neg (Nat.not_lt.mpr hm)]) z1 chg1)
theorem c_perf22n {E : th_E} {h : th_H} {o : Nat} {σ : Ho} (z : CR o σ h) {N p : Nat} (v : vPs N σ) (hp : p < oCt σ) {a : Nat} (ha : a < 8) {b : Nat} (hb : b < 48) {c : Nat} (hcc : c < 8) (hf : 12 ≤ oCt σ) : Xc E m_M_perform 53 0 0 [.ref (o + 1), .ref (o + 6 + 6 * p), .int (nI 22), .int (nI a), .int (nI b), .int (nI c)] h (Pf o h σ (performM σ p 22 (nI a) (nI b) (nI c))) := by
  have hp12 : p < 12 := by have := v.1; omega
  have hc := v.1
  have zp := z.2.2.2.2.2 p hp
  obtain ⟨u, gu, tu⟩ := zp.1 c hcc
  refine Xc.of (by decide) (by simp [Value.category]) (Nat.le_of_ble_eq_true rfl) ?_
  show Xw E m_M_perform 53 0 0 0 [some (.ref (o + 1)), some (.ref (o + 6 + 6 * p)), some (.int (nI 22)), some (.int (nI a)), some (.int (nI b)), some (.int (nI c)), none] [] h _
  refine Xw.wf (fun wf => ?_)
  refine x_aload_n d_M_perform_0 rfl rfl ?_
  refine x_getf (v := .ref (o + 8 + 6 * p)) d_M_perform_1 lf_M_54 (z.1.2 p hp12).k (z.1.2 p hp12).rg ?_
  refine x_astore d_M_perform_4 (by decide) (L' := [some (.ref (o + 1)), some (.ref (o + 6 + 6 * p)), some (.int (nI 22)), some (.int (nI a)), some (.int (nI b)), some (.int (nI c)), some (.ref (o + 8 + 6 * p))]) rfl ?_
  refine x_iload_n d_M_perform_6 rfl rfl ?_
  refine x_tableIn (tgt := 562) (off := 555) d_M_perform_7 (by decide) (by decide) (by decide) rfl ?_
  refine x_aload_n d_M_perform_562 rfl rfl ?_
  refine x_aload_n d_M_perform_563 rfl rfl ?_
  refine x_iload_n d_M_perform_564 rfl rfl ?_
  refine x_iload d_M_perform_565 rfl ?_
  refine x_aload d_M_perform_567 rfl ?_
  refine x_iload d_M_perform_569 rfl ?_
  refine x_aald (v := .ref u) d_M_perform_571 (z.1.2 p hp12).kr rfl (vp_in_nI hcc (by decide)) (by rw [nI_cl (by omega)]; exact gu) ?_
  refine x_invv d_M_perform_572 lm_M_139 (as := [.ref (o + 6 + 6 * p), .int (nI a), .int (nI b), .ref u]) (S := []) (c_M_spawn_no z v hp hf) z.1.1.kM rfl rfl rfl (Nat.le_of_ble_eq_true rfl) (by decide) (Nat.le_refl 0) (Nat.le_refl 0) ?_
  rintro _ _ ⟨rfl, rfl⟩
  exact x_iret d_M_perform_575 rfl rfl (Pf.no (by simp only [performM, if_pos hf]) z (Chg.rf o h))
theorem c_perf22y {E : th_E} {h : th_H} {o : Nat} {σ : Ho} (z : CR o σ h) {N p : Nat} (v : vPs N σ) (hp : p < oCt σ) {a : Nat} (ha : a < 8) {b : Nat} (hb : b < 48) {c : Nat} (hcc : c < 8) (hf : ¬ 12 ≤ oCt σ) : Xc E m_M_perform 53 0 0 [.ref (o + 1), .ref (o + 6 + 6 * p), .int (nI 22), .int (nI a), .int (nI b), .int (nI c)] h (Pf o h σ (performM σ p 22 (nI a) (nI b) (nI c))) := by
  have hp12 : p < 12 := by have := v.1; omega
  have hc := v.1
  have zp := z.2.2.2.2.2 p hp
  obtain ⟨u, gu, tu⟩ := zp.1 c hcc
  refine Xc.of (by decide) (by simp [Value.category]) (Nat.le_of_ble_eq_true rfl) ?_
  show Xw E m_M_perform 53 0 0 0 [some (.ref (o + 1)), some (.ref (o + 6 + 6 * p)), some (.int (nI 22)), some (.int (nI a)), some (.int (nI b)), some (.int (nI c)), none] [] h _
  refine Xw.wf (fun wf => ?_)
  refine x_aload_n d_M_perform_0 rfl rfl ?_
  refine x_getf (v := .ref (o + 8 + 6 * p)) d_M_perform_1 lf_M_54 (z.1.2 p hp12).k (z.1.2 p hp12).rg ?_
  refine x_astore d_M_perform_4 (by decide) (L' := [some (.ref (o + 1)), some (.ref (o + 6 + 6 * p)), some (.int (nI 22)), some (.int (nI a)), some (.int (nI b)), some (.int (nI c)), some (.ref (o + 8 + 6 * p))]) rfl ?_
  refine x_iload_n d_M_perform_6 rfl rfl ?_
  refine x_tableIn (tgt := 562) (off := 555) d_M_perform_7 (by decide) (by decide) (by decide) rfl ?_
  refine x_aload_n d_M_perform_562 rfl rfl ?_
  refine x_aload_n d_M_perform_563 rfl rfl ?_
  refine x_iload_n d_M_perform_564 rfl rfl ?_
  refine x_iload d_M_perform_565 rfl ?_
  refine x_aload d_M_perform_567 rfl ?_
  refine x_iload d_M_perform_569 rfl ?_
  refine x_aald (v := .ref u) d_M_perform_571 (z.1.2 p hp12).kr rfl (vp_in_nI hcc (by decide)) (by rw [nI_cl (by omega)]; exact gu) ?_
  refine x_invv d_M_perform_572 lm_M_139 (as := [.ref (o + 6 + 6 * p), .int (nI a), .int (nI b), .ref u]) (S := []) (c_M_spawn z v hp (by omega) ha tu) z.1.1.kM rfl rfl rfl (Nat.le_of_ble_eq_true rfl) (by decide) (Nat.le_refl 0) (Nat.le_refl 0) ?_
  rintro _ h1 ⟨rfl, z1, chg1⟩
  exact x_iret d_M_perform_575 rfl rfl (Pf.ok (by simp only [performM, cl_nI (show a < 2 ^ 31 by omega), cl_nI (show b < 2 ^ 31 by omega), cl_nI (show c < 2 ^ 31 by omega), if_neg hf]) z1 chg1)
theorem c_perf23n {E : th_E} {h : th_H} {o : Nat} {σ : Ho} (z : CR o σ h) {N p : Nat} (v : vPs N σ) (hp : p < oCt σ) {a : Nat} (ha : a < 8) (b c : Int32) (he : pidM σ (pRg (oPr σ p) a) = none) : Xc E m_M_perform 53 0 0 [.ref (o + 1), .ref (o + 6 + 6 * p), .int (nI 23), .int (nI a), .int b, .int c] h (Pf o h σ (performM σ p 23 (nI a) b c)) := by
  have hp12 : p < 12 := by have := v.1; omega
  have hc := v.1
  have zp := z.2.2.2.2.2 p hp
  obtain ⟨x, gx, tx⟩ := zp.1 a ha
  refine Xc.of (by decide) (by simp [Value.category]) (Nat.le_of_ble_eq_true rfl) ?_
  show Xw E m_M_perform 53 0 0 0 [some (.ref (o + 1)), some (.ref (o + 6 + 6 * p)), some (.int (nI 23)), some (.int (nI a)), some (.int b), some (.int c), none] [] h _
  refine Xw.wf (fun wf => ?_)
  refine x_aload_n d_M_perform_0 rfl rfl ?_
  refine x_getf (v := .ref (o + 8 + 6 * p)) d_M_perform_1 lf_M_54 (z.1.2 p hp12).k (z.1.2 p hp12).rg ?_
  refine x_astore d_M_perform_4 (by decide) (L' := [some (.ref (o + 1)), some (.ref (o + 6 + 6 * p)), some (.int (nI 23)), some (.int (nI a)), some (.int b), some (.int c), some (.ref (o + 8 + 6 * p))]) rfl ?_
  refine x_iload_n d_M_perform_6 rfl rfl ?_
  refine x_tableIn (tgt := 576) (off := 569) d_M_perform_7 (by decide) (by decide) (by decide) rfl ?_
  refine x_aload_n d_M_perform_576 rfl rfl ?_
  refine x_aload_n d_M_perform_577 rfl rfl ?_
  refine x_aload_n d_M_perform_578 rfl rfl ?_
  refine x_getf (v := .ref (o + 4)) d_M_perform_579 lf_M_21 z.1.1.kM z.1.1.M1 ?_
  refine x_aload d_M_perform_582 rfl ?_
  refine x_iload_n d_M_perform_584 rfl rfl ?_
  refine x_aald (v := .ref x) d_M_perform_585 (z.1.2 p hp12).kr rfl (vp_in_nI ha (by decide)) (by rw [nI_cl (by omega)]; exact gx) ?_
  refine x_invv d_M_perform_586 lm_M_111 (as := [.ref x]) (S := [.ref (o + 6 + 6 * p), .ref (o + 1)]) (c_bear_none z hc tx he) z.1.1.kS rfl rfl rfl (Nat.le_of_ble_eq_true rfl) (by decide) (Nat.le_refl 0) (Nat.le_refl 0) ?_
  rintro _ _ ⟨rfl, rfl⟩
  refine x_invv d_M_perform_589 lm_M_143 (as := [.ref (o + 6 + 6 * p), .null]) (S := []) (c_M_link_no (o := o) (p := p)) z.1.1.kM rfl rfl rfl (Nat.le_of_ble_eq_true rfl) (by decide) (Nat.le_refl 0) (Nat.le_refl 0) ?_
  rintro _ _ ⟨rfl, rfl⟩
  exact x_iret d_M_perform_592 rfl rfl (Pf.no (by simp only [performM, cl_nI (show a < 2 ^ 31 by omega), he]) z (Chg.rf o h))
theorem c_perf23y {E : th_E} {h : th_H} {o : Nat} {σ : Ho} (z : CR o σ h) {N p : Nat} (v : vPs N σ) (hp : p < oCt σ) {a : Nat} (ha : a < 8) (b c : Int32) {q : Nat} (he : pidM σ (pRg (oPr σ p) a) = some q) : Xc E m_M_perform 53 (2 * linkC σ p q) (10 * linkC σ p q) [.ref (o + 1), .ref (o + 6 + 6 * p), .int (nI 23), .int (nI a), .int b, .int c] h (Pf o h σ (performM σ p 23 (nI a) b c)) := by
  have hp12 : p < 12 := by have := v.1; omega
  have hc := v.1
  have zp := z.2.2.2.2.2 p hp
  obtain ⟨x, gx, tx⟩ := zp.1 a ha
  refine Xc.of (by decide) (by simp [Value.category]) (Nat.le_of_ble_eq_true rfl) ?_
  show Xw E m_M_perform 53 (2 * linkC σ p q) (10 * linkC σ p q) 0 [some (.ref (o + 1)), some (.ref (o + 6 + 6 * p)), some (.int (nI 23)), some (.int (nI a)), some (.int b), some (.int c), none] [] h _
  refine Xw.wf (fun wf => ?_)
  refine x_aload_n d_M_perform_0 rfl rfl ?_
  refine x_getf (v := .ref (o + 8 + 6 * p)) d_M_perform_1 lf_M_54 (z.1.2 p hp12).k (z.1.2 p hp12).rg ?_
  refine x_astore d_M_perform_4 (by decide) (L' := [some (.ref (o + 1)), some (.ref (o + 6 + 6 * p)), some (.int (nI 23)), some (.int (nI a)), some (.int b), some (.int c), some (.ref (o + 8 + 6 * p))]) rfl ?_
  refine x_iload_n d_M_perform_6 rfl rfl ?_
  refine x_tableIn (tgt := 576) (off := 569) d_M_perform_7 (by decide) (by decide) (by decide) rfl ?_
  refine x_aload_n d_M_perform_576 rfl rfl ?_
  refine x_aload_n d_M_perform_577 rfl rfl ?_
  refine x_aload_n d_M_perform_578 rfl rfl ?_
  refine x_getf (v := .ref (o + 4)) d_M_perform_579 lf_M_21 z.1.1.kM z.1.1.M1 ?_
  refine x_aload d_M_perform_582 rfl ?_
  refine x_iload_n d_M_perform_584 rfl rfl ?_
  refine x_aald (v := .ref x) d_M_perform_585 (z.1.2 p hp12).kr rfl (vp_in_nI ha (by decide)) (by rw [nI_cl (by omega)]; exact gx) ?_
  refine x_invv d_M_perform_586 lm_M_111 (as := [.ref x]) (S := [.ref (o + 6 + 6 * p), .ref (o + 1)]) (cz' := 2 * linkC σ p q) (cs' := 10 * linkC σ p q) (c_bear_some z hc tx he) z.1.1.kS rfl rfl rfl (Nat.le_of_ble_eq_true rfl) (by decide) (by omega) (by omega) ?_
  rintro _ _ ⟨rfl, rfl⟩
  refine x_invv d_M_perform_589 lm_M_143 (as := [.ref (o + 6 + 6 * p), .ref (o + 6 + 6 * q)]) (S := []) (cz' := 0) (cs' := 0) (c_M_link z v hp (pidM_some hc he).2.1) z.1.1.kM rfl rfl rfl (Nat.le_of_ble_eq_true rfl) (by decide) (by omega) (by omega) ?_
  rintro _ h1 ⟨rfl, z1, chg1⟩
  exact x_iret d_M_perform_592 rfl rfl (Pf.ok (by simp only [performM, cl_nI (show a < 2 ^ 31 by omega), he]) z1 chg1)
theorem c_perf26n {E : th_E} {h : th_H} {o : Nat} {σ : Ho} (z : CR o σ h) {N p : Nat} (v : vPs N σ) (hp : p < oCt σ) {a : Nat} (ha : a < 8) (b c : Int32) (he : pidM σ (pRg (oPr σ p) a) = none) : Xc E m_M_perform 53 0 0 [.ref (o + 1), .ref (o + 6 + 6 * p), .int (nI 26), .int (nI a), .int b, .int c] h (Pf o h σ (performM σ p 26 (nI a) b c)) := by
  have hp12 : p < 12 := by have := v.1; omega
  have hc := v.1
  have zp := z.2.2.2.2.2 p hp
  obtain ⟨x, gx, tx⟩ := zp.1 a ha
  refine Xc.of (by decide) (by simp [Value.category]) (Nat.le_of_ble_eq_true rfl) ?_
  show Xw E m_M_perform 53 0 0 0 [some (.ref (o + 1)), some (.ref (o + 6 + 6 * p)), some (.int (nI 26)), some (.int (nI a)), some (.int b), some (.int c), none] [] h _
  refine Xw.wf (fun wf => ?_)
  refine x_aload_n d_M_perform_0 rfl rfl ?_
  refine x_getf (v := .ref (o + 8 + 6 * p)) d_M_perform_1 lf_M_54 (z.1.2 p hp12).k (z.1.2 p hp12).rg ?_
  refine x_astore d_M_perform_4 (by decide) (L' := [some (.ref (o + 1)), some (.ref (o + 6 + 6 * p)), some (.int (nI 26)), some (.int (nI a)), some (.int b), some (.int c), some (.ref (o + 8 + 6 * p))]) rfl ?_
  refine x_iload_n d_M_perform_6 rfl rfl ?_
  refine x_tableIn (tgt := 618) (off := 611) d_M_perform_7 (by decide) (by decide) (by decide) rfl ?_
  refine x_aload_n d_M_perform_618 rfl rfl ?_
  refine x_aload_n d_M_perform_619 rfl rfl ?_
  refine x_aload_n d_M_perform_620 rfl rfl ?_
  refine x_getf (v := .ref (o + 4)) d_M_perform_621 lf_M_21 z.1.1.kM z.1.1.M1 ?_
  refine x_aload d_M_perform_624 rfl ?_
  refine x_iload_n d_M_perform_626 rfl rfl ?_
  refine x_aald (v := .ref x) d_M_perform_627 (z.1.2 p hp12).kr rfl (vp_in_nI ha (by decide)) (by rw [nI_cl (by omega)]; exact gx) ?_
  refine x_invv d_M_perform_628 lm_M_111 (as := [.ref x]) (S := [.ref (o + 6 + 6 * p), .ref (o + 1)]) (c_bear_none z hc tx he) z.1.1.kS rfl rfl rfl (Nat.le_of_ble_eq_true rfl) (by decide) (Nat.le_refl 0) (Nat.le_refl 0) ?_
  rintro _ _ ⟨rfl, rfl⟩
  refine x_invv d_M_perform_631 lm_M_154 (as := [.ref (o + 6 + 6 * p), .null]) (S := []) (c_M_stop_no (o := o) (p := p)) z.1.1.kM rfl rfl rfl (Nat.le_of_ble_eq_true rfl) (by decide) (Nat.le_refl 0) (Nat.le_refl 0) ?_
  rintro _ _ ⟨rfl, rfl⟩
  exact x_iret d_M_perform_634 rfl rfl (Pf.no (by simp only [performM, cl_nI (show a < 2 ^ 31 by omega), he]) z (Chg.rf o h))
theorem c_perf26y {E : th_E} {h : th_H} {o : Nat} {σ : Ho} (z : CR o σ h) {N p : Nat} (v : vPs N σ) (hp : p < oCt σ) {a : Nat} (ha : a < 8) (b c : Int32) {q : Nat} (he : pidM σ (pRg (oPr σ p) a) = some q) : Xc E m_M_perform 53 (2 * sigC FU σ p q aKilled) (10 * sigC FU σ p q aKilled) [.ref (o + 1), .ref (o + 6 + 6 * p), .int (nI 26), .int (nI a), .int b, .int c] h (Pf o h σ (performM σ p 26 (nI a) b c)) := by
  have hp12 : p < 12 := by have := v.1; omega
  have hc := v.1
  have zp := z.2.2.2.2.2 p hp
  obtain ⟨x, gx, tx⟩ := zp.1 a ha
  refine Xc.of (by decide) (by simp [Value.category]) (Nat.le_of_ble_eq_true rfl) ?_
  show Xw E m_M_perform 53 (2 * sigC FU σ p q aKilled) (10 * sigC FU σ p q aKilled) 0 [some (.ref (o + 1)), some (.ref (o + 6 + 6 * p)), some (.int (nI 26)), some (.int (nI a)), some (.int b), some (.int c), none] [] h _
  refine Xw.wf (fun wf => ?_)
  refine x_aload_n d_M_perform_0 rfl rfl ?_
  refine x_getf (v := .ref (o + 8 + 6 * p)) d_M_perform_1 lf_M_54 (z.1.2 p hp12).k (z.1.2 p hp12).rg ?_
  refine x_astore d_M_perform_4 (by decide) (L' := [some (.ref (o + 1)), some (.ref (o + 6 + 6 * p)), some (.int (nI 26)), some (.int (nI a)), some (.int b), some (.int c), some (.ref (o + 8 + 6 * p))]) rfl ?_
  refine x_iload_n d_M_perform_6 rfl rfl ?_
  refine x_tableIn (tgt := 618) (off := 611) d_M_perform_7 (by decide) (by decide) (by decide) rfl ?_
  refine x_aload_n d_M_perform_618 rfl rfl ?_
  refine x_aload_n d_M_perform_619 rfl rfl ?_
  refine x_aload_n d_M_perform_620 rfl rfl ?_
  refine x_getf (v := .ref (o + 4)) d_M_perform_621 lf_M_21 z.1.1.kM z.1.1.M1 ?_
  refine x_aload d_M_perform_624 rfl ?_
  refine x_iload_n d_M_perform_626 rfl rfl ?_
  refine x_aald (v := .ref x) d_M_perform_627 (z.1.2 p hp12).kr rfl (vp_in_nI ha (by decide)) (by rw [nI_cl (by omega)]; exact gx) ?_
  refine x_invv d_M_perform_628 lm_M_111 (as := [.ref x]) (S := [.ref (o + 6 + 6 * p), .ref (o + 1)]) (cz' := 2 * sigC FU σ p q aKilled) (cs' := 10 * sigC FU σ p q aKilled) (c_bear_some z hc tx he) z.1.1.kS rfl rfl rfl (Nat.le_of_ble_eq_true rfl) (by decide) (by omega) (by omega) ?_
  rintro _ _ ⟨rfl, rfl⟩
  refine x_invv d_M_perform_631 lm_M_154 (as := [.ref (o + 6 + 6 * p), .ref (o + 6 + 6 * q)]) (S := []) (cz' := 0) (cs' := 0) (c_M_stop z v hp (pidM_some hc he).2.1) z.1.1.kM rfl rfl rfl (Nat.le_of_ble_eq_true rfl) (by decide) (by omega) (by omega) ?_
  rintro _ h1 ⟨rfl, z1, chg1⟩
  exact x_iret d_M_perform_634 rfl rfl (Pf.ok (by simp only [performM, cl_nI (show a < 2 ^ 31 by omega), he]) z1 chg1)
theorem c_perf24y {E : th_E} {h : th_H} {o : Nat} {σ : Ho} (z : CR o σ h) {N p : Nat} (v : vPs N σ) (hp : p < oCt σ) (b c : Int32) : Xc E m_M_perform 53 0 0 [.ref (o + 1), .ref (o + 6 + 6 * p), .int (nI 24), .int 1, .int b, .int c] h (Pf o h σ (performM σ p 24 1 b c)) := by
  have hp12 : p < 12 := by have := v.1; omega
  have hc := v.1
  have zp := z.2.2.2.2.2 p hp
  refine Xc.of (by decide) (by simp [Value.category]) (Nat.le_of_ble_eq_true rfl) ?_
  show Xw E m_M_perform 53 0 0 0 [some (.ref (o + 1)), some (.ref (o + 6 + 6 * p)), some (.int (nI 24)), some (.int 1), some (.int b), some (.int c), none] [] h _
  refine Xw.wf (fun wf => ?_)
  refine x_aload_n d_M_perform_0 rfl rfl ?_
  refine x_getf (v := .ref (o + 8 + 6 * p)) d_M_perform_1 lf_M_54 (z.1.2 p hp12).k (z.1.2 p hp12).rg ?_
  refine x_astore d_M_perform_4 (by decide) (L' := [some (.ref (o + 1)), some (.ref (o + 6 + 6 * p)), some (.int (nI 24)), some (.int 1), some (.int b), some (.int c), some (.ref (o + 8 + 6 * p))]) rfl ?_
  refine x_iload_n d_M_perform_6 rfl rfl ?_
  refine x_tableIn (tgt := 593) (off := 586) d_M_perform_7 (by decide) (by decide) (by decide) rfl ?_
  refine x_aload_n d_M_perform_593 rfl rfl ?_
  refine x_iload_n d_M_perform_594 rfl rfl ?_
  refine x_iconst (v := 1) d_M_perform_595 (by decide) ?_
  refine x_icmp_ne (tgt := 603) d_M_perform_596 rfl (fun w_ => absurd rfl w_) (fun q596 => ?_)
  refine x_iconst (v := 1) d_M_perform_599 (by decide) ?_
  refine x_goto (tgt := 604) d_M_perform_600 rfl ?_
  refine x_invs d_M_perform_604 lm_M_147 (as := [.ref (o + 6 + 6 * p), .int 1]) (S := []) (c_M_trap1 z v hp) rfl rfl (Nat.le_of_ble_eq_true rfl) (by decide) (Nat.le_refl 0) (Nat.le_refl 0) ?_
  rintro _ h1 ⟨rfl, z1, chg1⟩
  exact x_iret d_M_perform_607 rfl rfl (Pf.ok (by simp only [performM]; rfl) z1 chg1)
theorem c_perf24n {E : th_E} {h : th_H} {o : Nat} {σ : Ho} (z : CR o σ h) {N p : Nat} (v : vPs N σ) (hp : p < oCt σ) (a b c : Int32) (ha : ¬ a = 1) : Xc E m_M_perform 53 0 0 [.ref (o + 1), .ref (o + 6 + 6 * p), .int (nI 24), .int a, .int b, .int c] h (Pf o h σ (performM σ p 24 a b c)) := by
  have hp12 : p < 12 := by have := v.1; omega
  have hc := v.1
  have zp := z.2.2.2.2.2 p hp
  refine Xc.of (by decide) (by simp [Value.category]) (Nat.le_of_ble_eq_true rfl) ?_
  show Xw E m_M_perform 53 0 0 0 [some (.ref (o + 1)), some (.ref (o + 6 + 6 * p)), some (.int (nI 24)), some (.int a), some (.int b), some (.int c), none] [] h _
  refine Xw.wf (fun wf => ?_)
  refine x_aload_n d_M_perform_0 rfl rfl ?_
  refine x_getf (v := .ref (o + 8 + 6 * p)) d_M_perform_1 lf_M_54 (z.1.2 p hp12).k (z.1.2 p hp12).rg ?_
  refine x_astore d_M_perform_4 (by decide) (L' := [some (.ref (o + 1)), some (.ref (o + 6 + 6 * p)), some (.int (nI 24)), some (.int a), some (.int b), some (.int c), some (.ref (o + 8 + 6 * p))]) rfl ?_
  refine x_iload_n d_M_perform_6 rfl rfl ?_
  refine x_tableIn (tgt := 593) (off := 586) d_M_perform_7 (by decide) (by decide) (by decide) rfl ?_
  refine x_aload_n d_M_perform_593 rfl rfl ?_
  refine x_iload_n d_M_perform_594 rfl rfl ?_
  refine x_iconst (v := 1) d_M_perform_595 (by decide) ?_
  refine x_icmp_ne (tgt := 603) d_M_perform_596 rfl (fun q596 => ?_) (fun w_ => absurd w_ ha)
  refine x_iconst (v := 0) d_M_perform_603 (by decide) ?_
  refine x_invs d_M_perform_604 lm_M_147 (as := [.ref (o + 6 + 6 * p), .int 0]) (S := []) (c_M_trap0 z v hp) rfl rfl (Nat.le_of_ble_eq_true rfl) (by decide) (Nat.le_refl 0) (Nat.le_refl 0) ?_
  rintro _ h1 ⟨rfl, z1, chg1⟩
  exact x_iret d_M_perform_607 rfl rfl (Pf.ok (by simp only [performM, beq_eq_false_iff_ne.mpr ha]) z1 chg1)
theorem c_perf25 {E : th_E} {h : th_H} {o : Nat} {σ : Ho} (z : CR o σ h) {N p : Nat} (v : vPs N σ) (hp : p < oCt σ) {a : Nat} (ha : a < 8) (b c : Int32) : Xc E m_M_perform 53 (2 * endC σ p (pRg (oPr σ p) a)) (10 * endC σ p (pRg (oPr σ p) a)) [.ref (o + 1), .ref (o + 6 + 6 * p), .int (nI 25), .int (nI a), .int b, .int c] h (Pf o h σ (performM σ p 25 (nI a) b c)) := by
  have hp12 : p < 12 := by have := v.1; omega
  have hc := v.1
  have zp := z.2.2.2.2.2 p hp
  obtain ⟨x, gx, tx⟩ := zp.1 a ha
  refine Xc.of (by decide) (by simp [Value.category]) (Nat.le_of_ble_eq_true rfl) ?_
  show Xw E m_M_perform 53 (2 * endC σ p (pRg (oPr σ p) a)) (10 * endC σ p (pRg (oPr σ p) a)) 0 [some (.ref (o + 1)), some (.ref (o + 6 + 6 * p)), some (.int (nI 25)), some (.int (nI a)), some (.int b), some (.int c), none] [] h _
  refine Xw.wf (fun wf => ?_)
  refine x_aload_n d_M_perform_0 rfl rfl ?_
  refine x_getf (v := .ref (o + 8 + 6 * p)) d_M_perform_1 lf_M_54 (z.1.2 p hp12).k (z.1.2 p hp12).rg ?_
  refine x_astore d_M_perform_4 (by decide) (L' := [some (.ref (o + 1)), some (.ref (o + 6 + 6 * p)), some (.int (nI 25)), some (.int (nI a)), some (.int b), some (.int c), some (.ref (o + 8 + 6 * p))]) rfl ?_
  refine x_iload_n d_M_perform_6 rfl rfl ?_
  refine x_tableIn (tgt := 608) (off := 601) d_M_perform_7 (by decide) (by decide) (by decide) rfl ?_
  refine x_aload_n d_M_perform_608 rfl rfl ?_
  refine x_aload_n d_M_perform_609 rfl rfl ?_
  refine x_aload d_M_perform_610 rfl ?_
  refine x_iload_n d_M_perform_612 rfl rfl ?_
  refine x_aald (v := .ref x) d_M_perform_613 (z.1.2 p hp12).kr rfl (vp_in_nI ha (by decide)) (by rw [nI_cl (by omega)]; exact gx) ?_
  refine x_invv d_M_perform_614 lm_M_151 (as := [.ref (o + 6 + 6 * p), .ref x]) (S := []) (cz' := 0) (cs' := 0) (c_M_finish z v hp ((v.2.2 p hp).1 a) tx) z.1.1.kM rfl rfl rfl (Nat.le_of_ble_eq_true rfl) (by decide) (by omega) (by omega) ?_
  rintro _ h1 ⟨rfl, z1, chg1⟩
  exact x_iret d_M_perform_617 rfl rfl (Pf.ok (by simp only [performM, cl_nI (show a < 2 ^ 31 by omega)]) z1 chg1)
