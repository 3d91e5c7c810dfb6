/-! The reference: step (printed by wip/gen/mod_ref13.py). -/
theorem Hd.setP {σ : Ho} {u p U : Nat} {P' : Pr} (hs : pSt P' = pSt (oPr σ p)) (hh : Hd p U σ u) : Hd p U (sPr σ p P') u := by
  unfold Hd
  show (((oQu σ).head? = some p ∧ pSt (va_up (oPr σ) p P' p) = 1 ∧ u = U) ∨ (pSt (va_up (oPr σ) p P' p) = 3 ∧ u = 0))
  rw [va_up_self, hs]
  exact hh
theorem redA_stN (σ : Ho) (p : Nat) : pSt (oPr (redA σ p) p) = pSt (oPr σ p) := by
  show pSt (va_up (oPr σ) p _ p) = _
  rw [va_up_self]
theorem redB_stN (σ : Ho) (p : Nat) : pSt (oPr (redB σ p) p) = pSt (oPr σ p) := by
  show pSt (va_up (oPr (redA σ p)) p _ p) = _
  rw [va_up_self]
  exact redA_stN σ p
theorem Hd.redA {σ : Ho} {u p U : Nat} (hh : Hd p U σ u) : Hd p U (redA σ p) u := Hd.setP rfl hh
theorem Hd.redB {σ : Ho} {u p U : Nat} (hh : Hd p U σ u) : Hd p U (redB σ p) u := Hd.setP rfl hh.redA
theorem n_step0 {E : th_E} {h : th_H} {r : Nat} {A : Nat → Nat → Int32} (nl : NL r h) {N u : Nat} {σ : Ho} (y : NR A σ u) (v : vPs N σ) {p : Nat} (hp : p < oCt σ) (vc : vCd σ) (hN : N < 2 ^ 30) (h1 : pSt (oPr σ p) = 1) (hq : (oCd σ)[pPl (oPr σ p)]? = none) : Xc E m_N_step 6 0 0 [.ref r, .int (nI p)] (ov r h A) (Nx r h none (fun A' => ∃ u', NR A' (reduceM σ p) u' ∧ HdX p σ u (reduceM σ p) u')) := by
  refine Xc.of (by decide) (by simp [Value.category]) (Nat.le_of_ble_eq_true rfl) ?_
  show Xw E m_N_step 6 0 0 0 [some (.ref r), some (.int (nI p)), none, none, none] [] (ov r h A) _
  have yp := y.2.2.2 p hp
  have hp12 := Nat.lt_of_lt_of_le hp v.1
  have vA := v.redA hp
  have hpl := (v.2.2 p hp).2.1
  have hcd := vc.1
  have h3A : ¬ pSt (oPr (redA σ p) p) = 3 := by rw [redA_stN]; omega
  have hno := List.getElem?_eq_none_iff.mp hq
  have er : reduceM σ p = endM (redA σ p) p aFault := by unfold reduceM; rw [hq]
  refine x_aload_n d_N_step_0 rfl rfl ?_
  refine n_fld (j := 14) d_N_step_1 lf_N_50 nl (by decide) rfl rfl ?_
  refine x_iload_n d_N_step_4 rfl rfl ?_
  refine x_aload_n d_N_step_5 rfl rfl ?_
  refine n_fld (j := 14) d_N_step_6 lf_N_50 nl (by decide) rfl rfl ?_
  refine x_iload_n d_N_step_9 rfl rfl ?_
  refine n_ld (j := 14) (i := p) (n := 12) (v := (pDn (oPr σ p))) d_N_step_10 nl (by decide) (by decide) rfl rfl (by omega) (by decide) yp.dn ?_
  refine x_iconst (v := (nI 1)) d_N_step_11 (by decide) ?_
  refine x_iadd (v := (pDn (oPr σ p) + (nI 1))) d_N_step_12 rfl ?_
  refine n_st (j := 14) (i := p) (n := 12) (v := (pDn (oPr σ p) + (nI 1))) d_N_step_13 nl (by decide) (by decide) rfl rfl (by omega) (by decide) ?_
  have yA : NR (up A 14 p (pDn (oPr σ p) + (nI 1))) (redA σ p) u := y.setP v.L ((Chp.rf p A).up (Or.inl (Or.inr (Or.inr ⟨rfl, by decide⟩)))) (yp.s_dn _)
  generalize (up A 14 p (pDn (oPr σ p) + (nI 1))) = A1 at yA ⊢
  have ypA := yA.2.2.2 p hp
  refine x_aload_n d_N_step_14 rfl rfl ?_
  refine n_fld (j := 7) d_N_step_15 lf_N_28 nl (by decide) rfl rfl ?_
  refine x_iload_n d_N_step_18 rfl rfl ?_
  refine n_ld (j := 7) (i := p) (n := 12) (v := (nI (pPl (oPr σ p)))) d_N_step_19 nl (by decide) (by decide) rfl rfl (by omega) (by decide) (ypA.pl.trans (by rw [redA_pl])) ?_
  refine x_istore_n d_N_step_20 rfl (by decide) (L' := [some (.ref r), some (.int (nI p)), some (.int (nI (pPl (oPr σ p)))), none, none]) rfl ?_
  refine x_iload_n d_N_step_21 rfl rfl ?_
  refine x_aload_n d_N_step_22 rfl rfl ?_
  refine n_get (v := (nI ((oCd σ).length))) d_N_step_23 lf_N_85 nl rfl yA.1.2.1 ?_
  refine x_icmp_ge (tgt := 33) d_N_step_26 rfl (fun q26 => ?_) (fun w_ => absurd (nI_le hno (by omega)) w_)
  refine x_iconst (v := (nI 0)) d_N_step_33 (by decide) ?_
  refine x_istore_n d_N_step_34 rfl (by decide) (L' := [some (.ref r), some (.int (nI p)), some (.int (nI (pPl (oPr σ p)))), some (.int (nI 0)), none]) rfl ?_
  refine x_iload_n d_N_step_35 rfl rfl ?_
  refine x_if_eq (tgt := 189) d_N_step_36 rfl (fun q36 => ?_) (fun w_ => absurd rfl w_)
  refine x_iload_n d_N_step_189 rfl rfl ?_
  refine x_if_ne (tgt := 200) d_N_step_190 rfl (fun w_ => absurd rfl w_) (fun q190 => ?_)
  refine x_aload_n d_N_step_193 rfl rfl ?_
  refine x_iload_n d_N_step_194 rfl rfl ?_
  refine x_bipush (v := (nI 13)) d_N_step_195 (by decide) ?_
  refine x_invv d_N_step_197 lm_N_146 (as := [.int (nI p), .int (nI 13)]) (S := []) (cz' := 0) (cs' := 0) (c_N_endBy nl yA vA (nI 13) hp h3A) nl.o rfl rfl rfl (Nat.le_of_ble_eq_true rfl) (by omega) (by decide) (by decide) ?_
  rintro _ _ ⟨rfl, A4, rfl, u4, y4, k4⟩
  exact x_ret ⟨rfl, A4, rfl, u4, by rw [er]; exact y4, by rw [er]; exact fun U hh => Or.inl (k4 p U hh.redA)⟩ rfl d_N_step_200
theorem n_step_make1 {E : th_E} {h : th_H} {r : Nat} {A : Nat → Nat → Int32} (nl : NL r h) {N u : Nat} {σ : Ho} (y : NR A σ u) (v : vPs N σ) {p : Nat} (hp : p < oCt σ) (vc : vCd σ) (hN : N < 2 ^ 30) (h1 : pSt (oPr σ p) = 1) {q : Nat × Int32 × Int32 × Int32} (hq : (oCd σ)[pPl (oPr σ p)]? = some q) (ho : 0 ≤ q.1 ∧ q.1 < 11) {σ2 : Ho} (hpm : performM (redB σ p) p q.1 q.2.1 q.2.2.1 q.2.2.2 = some σ2) : Xc E m_N_step 6 0 0 [.ref r, .int (nI p)] (ov r h A) (Nx r h none (fun A' => ∃ u', NR A' (reduceM σ p) u' ∧ HdX p σ u (reduceM σ p) u')) := by
  refine Xc.of (by decide) (by simp [Value.category]) (Nat.le_of_ble_eq_true rfl) ?_
  show Xw E m_N_step 6 0 0 0 [some (.ref r), some (.int (nI p)), none, none, none] [] (ov r h A) _
  have yp := y.2.2.2 p hp
  have hp12 := Nat.lt_of_lt_of_le hp v.1
  have vA := v.redA hp
  have hpl := (v.2.2 p hp).2.1
  have hcd := vc.1
  have h3A : ¬ pSt (oPr (redA σ p) p) = 3 := by rw [redA_stN]; omega
  have hi0 := (List.getElem?_eq_some_iff.mp hq).1
  have vB := v.redB hp (by omega)
  have h3B : ¬ pSt (oPr (redB σ p) p) = 3 := by rw [redB_stN]; omega
  have vi := vc.2 q (mem_gi hq)
  have er : reduceM σ p = σ2 := by unfold reduceM; rw [hq]; simp only [hpm]
  refine x_aload_n d_N_step_0 rfl rfl ?_
  refine n_fld (j := 14) d_N_step_1 lf_N_50 nl (by decide) rfl rfl ?_
  refine x_iload_n d_N_step_4 rfl rfl ?_
  refine x_aload_n d_N_step_5 rfl rfl ?_
  refine n_fld (j := 14) d_N_step_6 lf_N_50 nl (by decide) rfl rfl ?_
  refine x_iload_n d_N_step_9 rfl rfl ?_
  refine n_ld (j := 14) (i := p) (n := 12) (v := (pDn (oPr σ p))) d_N_step_10 nl (by decide) (by decide) rfl rfl (by omega) (by decide) yp.dn ?_
  refine x_iconst (v := (nI 1)) d_N_step_11 (by decide) ?_
  refine x_iadd (v := (pDn (oPr σ p) + (nI 1))) d_N_step_12 rfl ?_
  refine n_st (j := 14) (i := p) (n := 12) (v := (pDn (oPr σ p) + (nI 1))) d_N_step_13 nl (by decide) (by decide) rfl rfl (by omega) (by decide) ?_
  have yA : NR (up A 14 p (pDn (oPr σ p) + (nI 1))) (redA σ p) u := y.setP v.L ((Chp.rf p A).up (Or.inl (Or.inr (Or.inr ⟨rfl, by decide⟩)))) (yp.s_dn _)
  generalize (up A 14 p (pDn (oPr σ p) + (nI 1))) = A1 at yA ⊢
  have ypA := yA.2.2.2 p hp
  refine x_aload_n d_N_step_14 rfl rfl ?_
  refine n_fld (j := 7) d_N_step_15 lf_N_28 nl (by decide) rfl rfl ?_
  refine x_iload_n d_N_step_18 rfl rfl ?_
  refine n_ld (j := 7) (i := p) (n := 12) (v := (nI (pPl (oPr σ p)))) d_N_step_19 nl (by decide) (by decide) rfl rfl (by omega) (by decide) (ypA.pl.trans (by rw [redA_pl])) ?_
  refine x_istore_n d_N_step_20 rfl (by decide) (L' := [some (.ref r), some (.int (nI p)), some (.int (nI (pPl (oPr σ p)))), none, none]) rfl ?_
  refine x_iload_n d_N_step_21 rfl rfl ?_
  refine x_aload_n d_N_step_22 rfl rfl ?_
  refine n_get (v := (nI ((oCd σ).length))) d_N_step_23 lf_N_85 nl rfl yA.1.2.1 ?_
  refine x_icmp_ge (tgt := 33) d_N_step_26 rfl (fun w_ => absurd w_ (nI_ge hi0 (by omega))) (fun q26 => ?_)
  refine x_iconst (v := (nI 1)) d_N_step_29 (by decide) ?_
  refine x_goto (tgt := 34) d_N_step_30 rfl ?_
  refine x_istore_n d_N_step_34 rfl (by decide) (L' := [some (.ref r), some (.int (nI p)), some (.int (nI (pPl (oPr σ p)))), some (.int (nI 1)), none]) rfl ?_
  refine x_iload_n d_N_step_35 rfl rfl ?_
  refine x_if_eq (tgt := 189) d_N_step_36 rfl (fun w_ => absurd w_ (by decide)) (fun q36 => ?_)
  refine x_aload_n d_N_step_39 rfl rfl ?_
  refine n_fld (j := 7) d_N_step_40 lf_N_28 nl (by decide) rfl rfl ?_
  refine x_iload_n d_N_step_43 rfl rfl ?_
  refine x_iload_n d_N_step_44 rfl rfl ?_
  refine x_iconst (v := (nI 1)) d_N_step_45 (by decide) ?_
  refine x_iadd (v := (nI (pPl (oPr σ p) + 1))) d_N_step_46 (nI_add _ _) ?_
  refine n_st (j := 7) (i := p) (n := 12) (v := (nI (pPl (oPr σ p) + 1))) d_N_step_47 nl (by decide) (by decide) rfl rfl (by omega) (by decide) ?_
  have yB : NR (up A1 7 p (nI (pPl (oPr σ p) + 1))) (redB σ p) u := yA.setP vA.L ((Chp.rf p A1).up (Or.inl (Or.inr (Or.inr ⟨rfl, by decide⟩)))) (ypA.s_pl _)
  generalize (up A1 7 p (nI (pPl (oPr σ p) + 1))) = A2 at yB ⊢
  have hc := n_make (E := E) nl yB vB hp hN h3B vi ho
  rw [hpm] at hc
  refine x_aload_n d_N_step_48 rfl rfl ?_
  refine n_fld (j := 1) d_N_step_49 lf_N_7 nl (by decide) rfl rfl ?_
  refine x_iload_n d_N_step_52 rfl rfl ?_
  refine n_ld (j := 1) (i := pPl (oPr σ p)) (n := 48) (v := (nI (q.1))) d_N_step_53 nl (by decide) (by decide) rfl rfl (by omega) (by decide) (yB.2.1 _ q hq).1 ?_
  refine x_istore d_N_step_54 (by decide) (L' := [some (.ref r), some (.int (nI p)), some (.int (nI (pPl (oPr σ p)))), some (.int (nI 1)), some (.int (nI (q.1)))]) rfl ?_
  refine x_iload d_N_step_56 rfl ?_
  refine x_bipush (v := (nI 11)) d_N_step_58 (by decide) ?_
  refine x_icmp_ge (tgt := 99) d_N_step_60 rfl (fun w_ => absurd w_ (nI_ge (b := 11) (by omega) (by decide))) (fun q60 => ?_)
  refine x_aload_n d_N_step_63 rfl rfl ?_
  refine x_bipush (v := (nI 21)) d_N_step_64 (by decide) ?_
  refine x_iload_n d_N_step_66 rfl rfl ?_
  refine x_imul (v := (nI (21 * p))) d_N_step_67 (pk_mul _ _) ?_
  refine x_aload_n d_N_step_68 rfl rfl ?_
  refine n_fld (j := 2) d_N_step_69 lf_N_13 nl (by decide) rfl rfl ?_
  refine x_iload_n d_N_step_72 rfl rfl ?_
  refine n_ld (j := 2) (i := pPl (oPr σ p)) (n := 48) (v := (q.2.1)) d_N_step_73 nl (by decide) (by decide) rfl rfl (by omega) (by decide) (yB.2.1 _ q hq).2.1 ?_
  refine x_iadd (v := (nI (21 * p) + (q.2.1))) d_N_step_74 rfl ?_
  refine x_iload d_N_step_75 rfl ?_
  refine x_bipush (v := (nI 21)) d_N_step_77 (by decide) ?_
  refine x_iload_n d_N_step_79 rfl rfl ?_
  refine x_imul (v := (nI (21 * p))) d_N_step_80 (pk_mul _ _) ?_
  refine x_aload_n d_N_step_81 rfl rfl ?_
  refine n_fld (j := 3) d_N_step_82 lf_N_16 nl (by decide) rfl rfl ?_
  refine x_iload_n d_N_step_85 rfl rfl ?_
  refine n_ld (j := 3) (i := pPl (oPr σ p)) (n := 48) (v := (q.2.2.1)) d_N_step_86 nl (by decide) (by decide) rfl rfl (by omega) (by decide) (yB.2.1 _ q hq).2.2.1 ?_
  refine x_aload_n d_N_step_87 rfl rfl ?_
  refine n_fld (j := 4) d_N_step_88 lf_N_19 nl (by decide) rfl rfl ?_
  refine x_iload_n d_N_step_91 rfl rfl ?_
  refine n_ld (j := 4) (i := pPl (oPr σ p)) (n := 48) (v := (q.2.2.2)) d_N_step_92 nl (by decide) (by decide) rfl rfl (by omega) (by decide) (yB.2.1 _ q hq).2.2.2 ?_
  refine x_invv d_N_step_93 lm_N_155 (as := [.int (nI (21 * p) + (q.2.1)), .int (nI (q.1)), .int (nI (21 * p)), .int (q.2.2.1), .int (q.2.2.2)]) (S := []) (cz' := 0) (cs' := 0) hc nl.o rfl rfl rfl (Nat.le_of_ble_eq_true rfl) (by omega) (by decide) (by decide) ?_
  rintro _ _ ⟨rfl, A3, rfl, u3, y3, k3⟩
  refine x_goto (tgt := 188) d_N_step_96 rfl ?_
  refine x_istore_n d_N_step_188 rfl (by decide) (L' := [some (.ref r), some (.int (nI p)), some (.int (nI (pPl (oPr σ p)))), some (.int 1), some (.int (nI (q.1)))]) rfl ?_
  refine x_iload_n d_N_step_189 rfl rfl ?_
  refine x_if_ne (tgt := 200) d_N_step_190 rfl (fun q190 => ?_) (fun w_ => absurd w_ (by decide))
  exact x_ret ⟨rfl, A3, rfl, u3, by rw [er]; exact y3, by rw [er]; exact fun U hh => k3 U hh.redB⟩ rfl d_N_step_200
theorem n_step_make0 {E : th_E} {h : th_H} {r : Nat} {A : Nat → Nat → Int32} (nl : NL r h) {N u : Nat} {σ : Ho} (y : NR A σ u) (v : vPs N σ) {p : Nat} (hp : p < oCt σ) (vc : vCd σ) (hN : N < 2 ^ 30) (h1 : pSt (oPr σ p) = 1) {q : Nat × Int32 × Int32 × Int32} (hq : (oCd σ)[pPl (oPr σ p)]? = some q) (ho : 0 ≤ q.1 ∧ q.1 < 11) (hpm : performM (redB σ p) p q.1 q.2.1 q.2.2.1 q.2.2.2 = none) : Xc E m_N_step 6 0 0 [.ref r, .int (nI p)] (ov r h A) (Nx r h none (fun A' => ∃ u', NR A' (reduceM σ p) u' ∧ HdX p σ u (reduceM σ p) u')) := by
  refine Xc.of (by decide) (by simp [Value.category]) (Nat.le_of_ble_eq_true rfl) ?_
  show Xw E m_N_step 6 0 0 0 [some (.ref r), some (.int (nI p)), none, none, none] [] (ov r h A) _
  have yp := y.2.2.2 p hp
  have hp12 := Nat.lt_of_lt_of_le hp v.1
  have vA := v.redA hp
  have hpl := (v.2.2 p hp).2.1
  have hcd := vc.1
  have h3A : ¬ pSt (oPr (redA σ p) p) = 3 := by rw [redA_stN]; omega
  have hi0 := (List.getElem?_eq_some_iff.mp hq).1
  have vB := v.redB hp (by omega)
  have h3B : ¬ pSt (oPr (redB σ p) p) = 3 := by rw [redB_stN]; omega
  have vi := vc.2 q (mem_gi hq)
  have er : reduceM σ p = endM (redB σ p) p aFault := by unfold reduceM; rw [hq]; simp only [hpm]
  refine x_aload_n d_N_step_0 rfl rfl ?_
  refine n_fld (j := 14) d_N_step_1 lf_N_50 nl (by decide) rfl rfl ?_
  refine x_iload_n d_N_step_4 rfl rfl ?_
  refine x_aload_n d_N_step_5 rfl rfl ?_
  refine n_fld (j := 14) d_N_step_6 lf_N_50 nl (by decide) rfl rfl ?_
  refine x_iload_n d_N_step_9 rfl rfl ?_
  refine n_ld (j := 14) (i := p) (n := 12) (v := (pDn (oPr σ p))) d_N_step_10 nl (by decide) (by decide) rfl rfl (by omega) (by decide) yp.dn ?_
  refine x_iconst (v := (nI 1)) d_N_step_11 (by decide) ?_
  refine x_iadd (v := (pDn (oPr σ p) + (nI 1))) d_N_step_12 rfl ?_
  refine n_st (j := 14) (i := p) (n := 12) (v := (pDn (oPr σ p) + (nI 1))) d_N_step_13 nl (by decide) (by decide) rfl rfl (by omega) (by decide) ?_
  have yA : NR (up A 14 p (pDn (oPr σ p) + (nI 1))) (redA σ p) u := y.setP v.L ((Chp.rf p A).up (Or.inl (Or.inr (Or.inr ⟨rfl, by decide⟩)))) (yp.s_dn _)
  generalize (up A 14 p (pDn (oPr σ p) + (nI 1))) = A1 at yA ⊢
  have ypA := yA.2.2.2 p hp
  refine x_aload_n d_N_step_14 rfl rfl ?_
  refine n_fld (j := 7) d_N_step_15 lf_N_28 nl (by decide) rfl rfl ?_
  refine x_iload_n d_N_step_18 rfl rfl ?_
  refine n_ld (j := 7) (i := p) (n := 12) (v := (nI (pPl (oPr σ p)))) d_N_step_19 nl (by decide) (by decide) rfl rfl (by omega) (by decide) (ypA.pl.trans (by rw [redA_pl])) ?_
  refine x_istore_n d_N_step_20 rfl (by decide) (L' := [some (.ref r), some (.int (nI p)), some (.int (nI (pPl (oPr σ p)))), none, none]) rfl ?_
  refine x_iload_n d_N_step_21 rfl rfl ?_
  refine x_aload_n d_N_step_22 rfl rfl ?_
  refine n_get (v := (nI ((oCd σ).length))) d_N_step_23 lf_N_85 nl rfl yA.1.2.1 ?_
  refine x_icmp_ge (tgt := 33) d_N_step_26 rfl (fun w_ => absurd w_ (nI_ge hi0 (by omega))) (fun q26 => ?_)
  refine x_iconst (v := (nI 1)) d_N_step_29 (by decide) ?_
  refine x_goto (tgt := 34) d_N_step_30 rfl ?_
  refine x_istore_n d_N_step_34 rfl (by decide) (L' := [some (.ref r), some (.int (nI p)), some (.int (nI (pPl (oPr σ p)))), some (.int (nI 1)), none]) rfl ?_
  refine x_iload_n d_N_step_35 rfl rfl ?_
  refine x_if_eq (tgt := 189) d_N_step_36 rfl (fun w_ => absurd w_ (by decide)) (fun q36 => ?_)
  refine x_aload_n d_N_step_39 rfl rfl ?_
  refine n_fld (j := 7) d_N_step_40 lf_N_28 nl (by decide) rfl rfl ?_
  refine x_iload_n d_N_step_43 rfl rfl ?_
  refine x_iload_n d_N_step_44 rfl rfl ?_
  refine x_iconst (v := (nI 1)) d_N_step_45 (by decide) ?_
  refine x_iadd (v := (nI (pPl (oPr σ p) + 1))) d_N_step_46 (nI_add _ _) ?_
  refine n_st (j := 7) (i := p) (n := 12) (v := (nI (pPl (oPr σ p) + 1))) d_N_step_47 nl (by decide) (by decide) rfl rfl (by omega) (by decide) ?_
  have yB : NR (up A1 7 p (nI (pPl (oPr σ p) + 1))) (redB σ p) u := yA.setP vA.L ((Chp.rf p A1).up (Or.inl (Or.inr (Or.inr ⟨rfl, by decide⟩)))) (ypA.s_pl _)
  generalize (up A1 7 p (nI (pPl (oPr σ p) + 1))) = A2 at yB ⊢
  have hc := n_make (E := E) nl yB vB hp hN h3B vi ho
  rw [hpm] at hc
  refine x_aload_n d_N_step_48 rfl rfl ?_
  refine n_fld (j := 1) d_N_step_49 lf_N_7 nl (by decide) rfl rfl ?_
  refine x_iload_n d_N_step_52 rfl rfl ?_
  refine n_ld (j := 1) (i := pPl (oPr σ p)) (n := 48) (v := (nI (q.1))) d_N_step_53 nl (by decide) (by decide) rfl rfl (by omega) (by decide) (yB.2.1 _ q hq).1 ?_
  refine x_istore d_N_step_54 (by decide) (L' := [some (.ref r), some (.int (nI p)), some (.int (nI (pPl (oPr σ p)))), some (.int (nI 1)), some (.int (nI (q.1)))]) rfl ?_
  refine x_iload d_N_step_56 rfl ?_
  refine x_bipush (v := (nI 11)) d_N_step_58 (by decide) ?_
  refine x_icmp_ge (tgt := 99) d_N_step_60 rfl (fun w_ => absurd w_ (nI_ge (b := 11) (by omega) (by decide))) (fun q60 => ?_)
  refine x_aload_n d_N_step_63 rfl rfl ?_
  refine x_bipush (v := (nI 21)) d_N_step_64 (by decide) ?_
  refine x_iload_n d_N_step_66 rfl rfl ?_
  refine x_imul (v := (nI (21 * p))) d_N_step_67 (pk_mul _ _) ?_
  refine x_aload_n d_N_step_68 rfl rfl ?_
  refine n_fld (j := 2) d_N_step_69 lf_N_13 nl (by decide) rfl rfl ?_
  refine x_iload_n d_N_step_72 rfl rfl ?_
  refine n_ld (j := 2) (i := pPl (oPr σ p)) (n := 48) (v := (q.2.1)) d_N_step_73 nl (by decide) (by decide) rfl rfl (by omega) (by decide) (yB.2.1 _ q hq).2.1 ?_
  refine x_iadd (v := (nI (21 * p) + (q.2.1))) d_N_step_74 rfl ?_
  refine x_iload d_N_step_75 rfl ?_
  refine x_bipush (v := (nI 21)) d_N_step_77 (by decide) ?_
  refine x_iload_n d_N_step_79 rfl rfl ?_
  refine x_imul (v := (nI (21 * p))) d_N_step_80 (pk_mul _ _) ?_
  refine x_aload_n d_N_step_81 rfl rfl ?_
  refine n_fld (j := 3) d_N_step_82 lf_N_16 nl (by decide) rfl rfl ?_
  refine x_iload_n d_N_step_85 rfl rfl ?_
  refine n_ld (j := 3) (i := pPl (oPr σ p)) (n := 48) (v := (q.2.2.1)) d_N_step_86 nl (by decide) (by decide) rfl rfl (by omega) (by decide) (yB.2.1 _ q hq).2.2.1 ?_
  refine x_aload_n d_N_step_87 rfl rfl ?_
  refine n_fld (j := 4) d_N_step_88 lf_N_19 nl (by decide) rfl rfl ?_
  refine x_iload_n d_N_step_91 rfl rfl ?_
  refine n_ld (j := 4) (i := pPl (oPr σ p)) (n := 48) (v := (q.2.2.2)) d_N_step_92 nl (by decide) (by decide) rfl rfl (by omega) (by decide) (yB.2.1 _ q hq).2.2.2 ?_
  refine x_invv d_N_step_93 lm_N_155 (as := [.int (nI (21 * p) + (q.2.1)), .int (nI (q.1)), .int (nI (21 * p)), .int (q.2.2.1), .int (q.2.2.2)]) (S := []) (cz' := 0) (cs' := 0) hc nl.o rfl rfl rfl (Nat.le_of_ble_eq_true rfl) (by omega) (by decide) (by decide) ?_
  rintro _ _ ⟨rfl, A3, rfl, y3⟩
  refine x_goto (tgt := 188) d_N_step_96 rfl ?_
  refine x_istore_n d_N_step_188 rfl (by decide) (L' := [some (.ref r), some (.int (nI p)), some (.int (nI (pPl (oPr σ p)))), some (.int 0), some (.int (nI (q.1)))]) rfl ?_
  refine x_iload_n d_N_step_189 rfl rfl ?_
  refine x_if_ne (tgt := 200) d_N_step_190 rfl (fun w_ => absurd rfl w_) (fun q190 => ?_)
  refine x_aload_n d_N_step_193 rfl rfl ?_
  refine x_iload_n d_N_step_194 rfl rfl ?_
  refine x_bipush (v := (nI 13)) d_N_step_195 (by decide) ?_
  refine x_invv d_N_step_197 lm_N_146 (as := [.int (nI p), .int (nI 13)]) (S := []) (cz' := 0) (cs' := 0) (c_N_endBy nl y3 vB (nI 13) hp h3B) nl.o rfl rfl rfl (Nat.le_of_ble_eq_true rfl) (by omega) (by decide) (by decide) ?_
  rintro _ _ ⟨rfl, A4, rfl, u4, y4, k4⟩
  exact x_ret ⟨rfl, A4, rfl, u4, by rw [er]; exact y4, by rw [er]; exact fun U hh => Or.inl (k4 p U hh.redB)⟩ rfl d_N_step_200
theorem n_step_branch1 {E : th_E} {h : th_H} {r : Nat} {A : Nat → Nat → Int32} (nl : NL r h) {N u : Nat} {σ : Ho} (y : NR A σ u) (v : vPs N σ) {p : Nat} (hp : p < oCt σ) (vc : vCd σ) (hN : N < 2 ^ 30) (h1 : pSt (oPr σ p) = 1) {q : Nat × Int32 × Int32 × Int32} (hq : (oCd σ)[pPl (oPr σ p)]? = some q) (ho : 11 ≤ q.1 ∧ q.1 < 17) {σ2 : Ho} (hpm : performM (redB σ p) p q.1 q.2.1 q.2.2.1 q.2.2.2 = some σ2) : Xc E m_N_step 6 0 0 [.ref r, .int (nI p)] (ov r h A) (Nx r h none (fun A' => ∃ u', NR A' (reduceM σ p) u' ∧ HdX p σ u (reduceM σ p) u')) := by
  refine Xc.of (by decide) (by simp [Value.category]) (Nat.le_of_ble_eq_true rfl) ?_
  show Xw E m_N_step 6 0 0 0 [some (.ref r), some (.int (nI p)), none, none, none] [] (ov r h A) _
  have yp := y.2.2.2 p hp
  have hp12 := Nat.lt_of_lt_of_le hp v.1
  have vA := v.redA hp
  have hpl := (v.2.2 p hp).2.1
  have hcd := vc.1
  have h3A : ¬ pSt (oPr (redA σ p) p) = 3 := by rw [redA_stN]; omega
  have hi0 := (List.getElem?_eq_some_iff.mp hq).1
  have vB := v.redB hp (by omega)
  have h3B : ¬ pSt (oPr (redB σ p) p) = 3 := by rw [redB_stN]; omega
  have vi := vc.2 q (mem_gi hq)
  have er : reduceM σ p = σ2 := by unfold reduceM; rw [hq]; simp only [hpm]
  refine x_aload_n d_N_step_0 rfl rfl ?_
  refine n_fld (j := 14) d_N_step_1 lf_N_50 nl (by decide) rfl rfl ?_
  refine x_iload_n d_N_step_4 rfl rfl ?_
  refine x_aload_n d_N_step_5 rfl rfl ?_
  refine n_fld (j := 14) d_N_step_6 lf_N_50 nl (by decide) rfl rfl ?_
  refine x_iload_n d_N_step_9 rfl rfl ?_
  refine n_ld (j := 14) (i := p) (n := 12) (v := (pDn (oPr σ p))) d_N_step_10 nl (by decide) (by decide) rfl rfl (by omega) (by decide) yp.dn ?_
  refine x_iconst (v := (nI 1)) d_N_step_11 (by decide) ?_
  refine x_iadd (v := (pDn (oPr σ p) + (nI 1))) d_N_step_12 rfl ?_
  refine n_st (j := 14) (i := p) (n := 12) (v := (pDn (oPr σ p) + (nI 1))) d_N_step_13 nl (by decide) (by decide) rfl rfl (by omega) (by decide) ?_
  have yA : NR (up A 14 p (pDn (oPr σ p) + (nI 1))) (redA σ p) u := y.setP v.L ((Chp.rf p A).up (Or.inl (Or.inr (Or.inr ⟨rfl, by decide⟩)))) (yp.s_dn _)
  generalize (up A 14 p (pDn (oPr σ p) + (nI 1))) = A1 at yA ⊢
  have ypA := yA.2.2.2 p hp
  refine x_aload_n d_N_step_14 rfl rfl ?_
  refine n_fld (j := 7) d_N_step_15 lf_N_28 nl (by decide) rfl rfl ?_
  refine x_iload_n d_N_step_18 rfl rfl ?_
  refine n_ld (j := 7) (i := p) (n := 12) (v := (nI (pPl (oPr σ p)))) d_N_step_19 nl (by decide) (by decide) rfl rfl (by omega) (by decide) (ypA.pl.trans (by rw [redA_pl])) ?_
  refine x_istore_n d_N_step_20 rfl (by decide) (L' := [some (.ref r), some (.int (nI p)), some (.int (nI (pPl (oPr σ p)))), none, none]) rfl ?_
  refine x_iload_n d_N_step_21 rfl rfl ?_
  refine x_aload_n d_N_step_22 rfl rfl ?_
  refine n_get (v := (nI ((oCd σ).length))) d_N_step_23 lf_N_85 nl rfl yA.1.2.1 ?_
  refine x_icmp_ge (tgt := 33) d_N_step_26 rfl (fun w_ => absurd w_ (nI_ge hi0 (by omega))) (fun q26 => ?_)
  refine x_iconst (v := (nI 1)) d_N_step_29 (by decide) ?_
  refine x_goto (tgt := 34) d_N_step_30 rfl ?_
  refine x_istore_n d_N_step_34 rfl (by decide) (L' := [some (.ref r), some (.int (nI p)), some (.int (nI (pPl (oPr σ p)))), some (.int (nI 1)), none]) rfl ?_
  refine x_iload_n d_N_step_35 rfl rfl ?_
  refine x_if_eq (tgt := 189) d_N_step_36 rfl (fun w_ => absurd w_ (by decide)) (fun q36 => ?_)
  refine x_aload_n d_N_step_39 rfl rfl ?_
  refine n_fld (j := 7) d_N_step_40 lf_N_28 nl (by decide) rfl rfl ?_
  refine x_iload_n d_N_step_43 rfl rfl ?_
  refine x_iload_n d_N_step_44 rfl rfl ?_
  refine x_iconst (v := (nI 1)) d_N_step_45 (by decide) ?_
  refine x_iadd (v := (nI (pPl (oPr σ p) + 1))) d_N_step_46 (nI_add _ _) ?_
  refine n_st (j := 7) (i := p) (n := 12) (v := (nI (pPl (oPr σ p) + 1))) d_N_step_47 nl (by decide) (by decide) rfl rfl (by omega) (by decide) ?_
  have yB : NR (up A1 7 p (nI (pPl (oPr σ p) + 1))) (redB σ p) u := yA.setP vA.L ((Chp.rf p A1).up (Or.inl (Or.inr (Or.inr ⟨rfl, by decide⟩)))) (ypA.s_pl _)
  generalize (up A1 7 p (nI (pPl (oPr σ p) + 1))) = A2 at yB ⊢
  have hc := n_branch (E := E) nl yB vB hp hN h3B vi ho
  rw [hpm] at hc
  refine x_aload_n d_N_step_48 rfl rfl ?_
  refine n_fld (j := 1) d_N_step_49 lf_N_7 nl (by decide) rfl rfl ?_
  refine x_iload_n d_N_step_52 rfl rfl ?_
  refine n_ld (j := 1) (i := pPl (oPr σ p)) (n := 48) (v := (nI (q.1))) d_N_step_53 nl (by decide) (by decide) rfl rfl (by omega) (by decide) (yB.2.1 _ q hq).1 ?_
  refine x_istore d_N_step_54 (by decide) (L' := [some (.ref r), some (.int (nI p)), some (.int (nI (pPl (oPr σ p)))), some (.int (nI 1)), some (.int (nI (q.1)))]) rfl ?_
  refine x_iload d_N_step_56 rfl ?_
  refine x_bipush (v := (nI 11)) d_N_step_58 (by decide) ?_
  refine x_icmp_ge (tgt := 99) d_N_step_60 rfl (fun q60 => ?_) (fun w_ => absurd (nI_le (a := 11) (by omega) (by omega)) w_)
  refine x_iload d_N_step_99 rfl ?_
  refine x_bipush (v := (nI 17)) d_N_step_101 (by decide) ?_
  refine x_icmp_ge (tgt := 134) d_N_step_103 rfl (fun w_ => absurd w_ (nI_ge (b := 17) (by omega) (by decide))) (fun q103 => ?_)
  refine x_aload_n d_N_step_106 rfl rfl ?_
  refine x_iload_n d_N_step_107 rfl rfl ?_
  refine x_iload d_N_step_108 rfl ?_
  refine x_aload_n d_N_step_110 rfl rfl ?_
  refine n_fld (j := 2) d_N_step_111 lf_N_13 nl (by decide) rfl rfl ?_
  refine x_iload_n d_N_step_114 rfl rfl ?_
  refine n_ld (j := 2) (i := pPl (oPr σ p)) (n := 48) (v := (q.2.1)) d_N_step_115 nl (by decide) (by decide) rfl rfl (by omega) (by decide) (yB.2.1 _ q hq).2.1 ?_
  refine x_aload_n d_N_step_116 rfl rfl ?_
  refine n_fld (j := 3) d_N_step_117 lf_N_16 nl (by decide) rfl rfl ?_
  refine x_iload_n d_N_step_120 rfl rfl ?_
  refine n_ld (j := 3) (i := pPl (oPr σ p)) (n := 48) (v := (q.2.2.1)) d_N_step_121 nl (by decide) (by decide) rfl rfl (by omega) (by decide) (yB.2.1 _ q hq).2.2.1 ?_
  refine x_aload_n d_N_step_122 rfl rfl ?_
  refine n_fld (j := 4) d_N_step_123 lf_N_19 nl (by decide) rfl rfl ?_
  refine x_iload_n d_N_step_126 rfl rfl ?_
  refine n_ld (j := 4) (i := pPl (oPr σ p)) (n := 48) (v := (q.2.2.2)) d_N_step_127 nl (by decide) (by decide) rfl rfl (by omega) (by decide) (yB.2.1 _ q hq).2.2.2 ?_
  refine x_invv d_N_step_128 lm_N_159 (as := [.int (nI p), .int (nI (q.1)), .int (q.2.1), .int (q.2.2.1), .int (q.2.2.2)]) (S := []) (cz' := 0) (cs' := 0) hc nl.o rfl rfl rfl (Nat.le_of_ble_eq_true rfl) (by omega) (by decide) (by decide) ?_
  rintro _ _ ⟨rfl, A3, rfl, u3, y3, k3⟩
  refine x_goto (tgt := 188) d_N_step_131 rfl ?_
  refine x_istore_n d_N_step_188 rfl (by decide) (L' := [some (.ref r), some (.int (nI p)), some (.int (nI (pPl (oPr σ p)))), some (.int 1), some (.int (nI (q.1)))]) rfl ?_
  refine x_iload_n d_N_step_189 rfl rfl ?_
  refine x_if_ne (tgt := 200) d_N_step_190 rfl (fun q190 => ?_) (fun w_ => absurd w_ (by decide))
  exact x_ret ⟨rfl, A3, rfl, u3, by rw [er]; exact y3, by rw [er]; exact fun U hh => k3 U hh.redB⟩ rfl d_N_step_200
theorem n_step_branch0 {E : th_E} {h : th_H} {r : Nat} {A : Nat → Nat → Int32} (nl : NL r h) {N u : Nat} {σ : Ho} (y : NR A σ u) (v : vPs N σ) {p : Nat} (hp : p < oCt σ) (vc : vCd σ) (hN : N < 2 ^ 30) (h1 : pSt (oPr σ p) = 1) {q : Nat × Int32 × Int32 × Int32} (hq : (oCd σ)[pPl (oPr σ p)]? = some q) (ho : 11 ≤ q.1 ∧ q.1 < 17) (hpm : performM (redB σ p) p q.1 q.2.1 q.2.2.1 q.2.2.2 = none) : Xc E m_N_step 6 0 0 [.ref r, .int (nI p)] (ov r h A) (Nx r h none (fun A' => ∃ u', NR A' (reduceM σ p) u' ∧ HdX p σ u (reduceM σ p) u')) := by
  refine Xc.of (by decide) (by simp [Value.category]) (Nat.le_of_ble_eq_true rfl) ?_
  show Xw E m_N_step 6 0 0 0 [some (.ref r), some (.int (nI p)), none, none, none] [] (ov r h A) _
  have yp := y.2.2.2 p hp
  have hp12 := Nat.lt_of_lt_of_le hp v.1
  have vA := v.redA hp
  have hpl := (v.2.2 p hp).2.1
  have hcd := vc.1
  have h3A : ¬ pSt (oPr (redA σ p) p) = 3 := by rw [redA_stN]; omega
  have hi0 := (List.getElem?_eq_some_iff.mp hq).1
  have vB := v.redB hp (by omega)
  have h3B : ¬ pSt (oPr (redB σ p) p) = 3 := by rw [redB_stN]; omega
  have vi := vc.2 q (mem_gi hq)
  have er : reduceM σ p = endM (redB σ p) p aFault := by unfold reduceM; rw [hq]; simp only [hpm]
  refine x_aload_n d_N_step_0 rfl rfl ?_
  refine n_fld (j := 14) d_N_step_1 lf_N_50 nl (by decide) rfl rfl ?_
  refine x_iload_n d_N_step_4 rfl rfl ?_
  refine x_aload_n d_N_step_5 rfl rfl ?_
  refine n_fld (j := 14) d_N_step_6 lf_N_50 nl (by decide) rfl rfl ?_
  refine x_iload_n d_N_step_9 rfl rfl ?_
  refine n_ld (j := 14) (i := p) (n := 12) (v := (pDn (oPr σ p))) d_N_step_10 nl (by decide) (by decide) rfl rfl (by omega) (by decide) yp.dn ?_
  refine x_iconst (v := (nI 1)) d_N_step_11 (by decide) ?_
  refine x_iadd (v := (pDn (oPr σ p) + (nI 1))) d_N_step_12 rfl ?_
  refine n_st (j := 14) (i := p) (n := 12) (v := (pDn (oPr σ p) + (nI 1))) d_N_step_13 nl (by decide) (by decide) rfl rfl (by omega) (by decide) ?_
  have yA : NR (up A 14 p (pDn (oPr σ p) + (nI 1))) (redA σ p) u := y.setP v.L ((Chp.rf p A).up (Or.inl (Or.inr (Or.inr ⟨rfl, by decide⟩)))) (yp.s_dn _)
  generalize (up A 14 p (pDn (oPr σ p) + (nI 1))) = A1 at yA ⊢
  have ypA := yA.2.2.2 p hp
  refine x_aload_n d_N_step_14 rfl rfl ?_
  refine n_fld (j := 7) d_N_step_15 lf_N_28 nl (by decide) rfl rfl ?_
  refine x_iload_n d_N_step_18 rfl rfl ?_
  refine n_ld (j := 7) (i := p) (n := 12) (v := (nI (pPl (oPr σ p)))) d_N_step_19 nl (by decide) (by decide) rfl rfl (by omega) (by decide) (ypA.pl.trans (by rw [redA_pl])) ?_
  refine x_istore_n d_N_step_20 rfl (by decide) (L' := [some (.ref r), some (.int (nI p)), some (.int (nI (pPl (oPr σ p)))), none, none]) rfl ?_
  refine x_iload_n d_N_step_21 rfl rfl ?_
  refine x_aload_n d_N_step_22 rfl rfl ?_
  refine n_get (v := (nI ((oCd σ).length))) d_N_step_23 lf_N_85 nl rfl yA.1.2.1 ?_
  refine x_icmp_ge (tgt := 33) d_N_step_26 rfl (fun w_ => absurd w_ (nI_ge hi0 (by omega))) (fun q26 => ?_)
  refine x_iconst (v := (nI 1)) d_N_step_29 (by decide) ?_
  refine x_goto (tgt := 34) d_N_step_30 rfl ?_
  refine x_istore_n d_N_step_34 rfl (by decide) (L' := [some (.ref r), some (.int (nI p)), some (.int (nI (pPl (oPr σ p)))), some (.int (nI 1)), none]) rfl ?_
  refine x_iload_n d_N_step_35 rfl rfl ?_
  refine x_if_eq (tgt := 189) d_N_step_36 rfl (fun w_ => absurd w_ (by decide)) (fun q36 => ?_)
  refine x_aload_n d_N_step_39 rfl rfl ?_
  refine n_fld (j := 7) d_N_step_40 lf_N_28 nl (by decide) rfl rfl ?_
  refine x_iload_n d_N_step_43 rfl rfl ?_
  refine x_iload_n d_N_step_44 rfl rfl ?_
  refine x_iconst (v := (nI 1)) d_N_step_45 (by decide) ?_
  refine x_iadd (v := (nI (pPl (oPr σ p) + 1))) d_N_step_46 (nI_add _ _) ?_
  refine n_st (j := 7) (i := p) (n := 12) (v := (nI (pPl (oPr σ p) + 1))) d_N_step_47 nl (by decide) (by decide) rfl rfl (by omega) (by decide) ?_
  have yB : NR (up A1 7 p (nI (pPl (oPr σ p) + 1))) (redB σ p) u := yA.setP vA.L ((Chp.rf p A1).up (Or.inl (Or.inr (Or.inr ⟨rfl, by decide⟩)))) (ypA.s_pl _)
  generalize (up A1 7 p (nI (pPl (oPr σ p) + 1))) = A2 at yB ⊢
  have hc := n_branch (E := E) nl yB vB hp hN h3B vi ho
  rw [hpm] at hc
  refine x_aload_n d_N_step_48 rfl rfl ?_
  refine n_fld (j := 1) d_N_step_49 lf_N_7 nl (by decide) rfl rfl ?_
  refine x_iload_n d_N_step_52 rfl rfl ?_
  refine n_ld (j := 1) (i := pPl (oPr σ p)) (n := 48) (v := (nI (q.1))) d_N_step_53 nl (by decide) (by decide) rfl rfl (by omega) (by decide) (yB.2.1 _ q hq).1 ?_
  refine x_istore d_N_step_54 (by decide) (L' := [some (.ref r), some (.int (nI p)), some (.int (nI (pPl (oPr σ p)))), some (.int (nI 1)), some (.int (nI (q.1)))]) rfl ?_
  refine x_iload d_N_step_56 rfl ?_
  refine x_bipush (v := (nI 11)) d_N_step_58 (by decide) ?_
  refine x_icmp_ge (tgt := 99) d_N_step_60 rfl (fun q60 => ?_) (fun w_ => absurd (nI_le (a := 11) (by omega) (by omega)) w_)
  refine x_iload d_N_step_99 rfl ?_
  refine x_bipush (v := (nI 17)) d_N_step_101 (by decide) ?_
  refine x_icmp_ge (tgt := 134) d_N_step_103 rfl (fun w_ => absurd w_ (nI_ge (b := 17) (by omega) (by decide))) (fun q103 => ?_)
  refine x_aload_n d_N_step_106 rfl rfl ?_
  refine x_iload_n d_N_step_107 rfl rfl ?_
  refine x_iload d_N_step_108 rfl ?_
  refine x_aload_n d_N_step_110 rfl rfl ?_
  refine n_fld (j := 2) d_N_step_111 lf_N_13 nl (by decide) rfl rfl ?_
  refine x_iload_n d_N_step_114 rfl rfl ?_
  refine n_ld (j := 2) (i := pPl (oPr σ p)) (n := 48) (v := (q.2.1)) d_N_step_115 nl (by decide) (by decide) rfl rfl (by omega) (by decide) (yB.2.1 _ q hq).2.1 ?_
  refine x_aload_n d_N_step_116 rfl rfl ?_
  refine n_fld (j := 3) d_N_step_117 lf_N_16 nl (by decide) rfl rfl ?_
  refine x_iload_n d_N_step_120 rfl rfl ?_
  refine n_ld (j := 3) (i := pPl (oPr σ p)) (n := 48) (v := (q.2.2.1)) d_N_step_121 nl (by decide) (by decide) rfl rfl (by omega) (by decide) (yB.2.1 _ q hq).2.2.1 ?_
  refine x_aload_n d_N_step_122 rfl rfl ?_
  refine n_fld (j := 4) d_N_step_123 lf_N_19 nl (by decide) rfl rfl ?_
  refine x_iload_n d_N_step_126 rfl rfl ?_
  refine n_ld (j := 4) (i := pPl (oPr σ p)) (n := 48) (v := (q.2.2.2)) d_N_step_127 nl (by decide) (by decide) rfl rfl (by omega) (by decide) (yB.2.1 _ q hq).2.2.2 ?_
  refine x_invv d_N_step_128 lm_N_159 (as := [.int (nI p), .int (nI (q.1)), .int (q.2.1), .int (q.2.2.1), .int (q.2.2.2)]) (S := []) (cz' := 0) (cs' := 0) hc nl.o rfl rfl rfl (Nat.le_of_ble_eq_true rfl) (by omega) (by decide) (by decide) ?_
  rintro _ _ ⟨rfl, A3, rfl, y3⟩
  refine x_goto (tgt := 188) d_N_step_131 rfl ?_
  refine x_istore_n d_N_step_188 rfl (by decide) (L' := [some (.ref r), some (.int (nI p)), some (.int (nI (pPl (oPr σ p)))), some (.int 0), some (.int (nI (q.1)))]) rfl ?_
  refine x_iload_n d_N_step_189 rfl rfl ?_
  refine x_if_ne (tgt := 200) d_N_step_190 rfl (fun w_ => absurd rfl w_) (fun q190 => ?_)
  refine x_aload_n d_N_step_193 rfl rfl ?_
  refine x_iload_n d_N_step_194 rfl rfl ?_
  refine x_bipush (v := (nI 13)) d_N_step_195 (by decide) ?_
  refine x_invv d_N_step_197 lm_N_146 (as := [.int (nI p), .int (nI 13)]) (S := []) (cz' := 0) (cs' := 0) (c_N_endBy nl y3 vB (nI 13) hp h3B) nl.o rfl rfl rfl (Nat.le_of_ble_eq_true rfl) (by omega) (by decide) (by decide) ?_
  rintro _ _ ⟨rfl, A4, rfl, u4, y4, k4⟩
  exact x_ret ⟨rfl, A4, rfl, u4, by rw [er]; exact y4, by rw [er]; exact fun U hh => Or.inl (k4 p U hh.redB)⟩ rfl d_N_step_200
theorem n_step_mail1 {E : th_E} {h : th_H} {r : Nat} {A : Nat → Nat → Int32} (nl : NL r h) {N u : Nat} {σ : Ho} (y : NR A σ u) (v : vPs N σ) {p : Nat} (hp : p < oCt σ) (vc : vCd σ) (hN : N < 2 ^ 30) (h1 : pSt (oPr σ p) = 1) {q : Nat × Int32 × Int32 × Int32} (hq : (oCd σ)[pPl (oPr σ p)]? = some q) (ho : 17 ≤ q.1 ∧ q.1 < 22) {σ2 : Ho} (hpm : performM (redB σ p) p q.1 q.2.1 q.2.2.1 q.2.2.2 = some σ2) : Xc E m_N_step 6 0 0 [.ref r, .int (nI p)] (ov r h A) (Nx r h none (fun A' => ∃ u', NR A' (reduceM σ p) u' ∧ HdX p σ u (reduceM σ p) u')) := by
  refine Xc.of (by decide) (by simp [Value.category]) (Nat.le_of_ble_eq_true rfl) ?_
  show Xw E m_N_step 6 0 0 0 [some (.ref r), some (.int (nI p)), none, none, none] [] (ov r h A) _
  have yp := y.2.2.2 p hp
  have hp12 := Nat.lt_of_lt_of_le hp v.1
  have vA := v.redA hp
  have hpl := (v.2.2 p hp).2.1
  have hcd := vc.1
  have h3A : ¬ pSt (oPr (redA σ p) p) = 3 := by rw [redA_stN]; omega
  have hi0 := (List.getElem?_eq_some_iff.mp hq).1
  have vB := v.redB hp (by omega)
  have h3B : ¬ pSt (oPr (redB σ p) p) = 3 := by rw [redB_stN]; omega
  have vi := vc.2 q (mem_gi hq)
  have er : reduceM σ p = σ2 := by unfold reduceM; rw [hq]; simp only [hpm]
  refine x_aload_n d_N_step_0 rfl rfl ?_
  refine n_fld (j := 14) d_N_step_1 lf_N_50 nl (by decide) rfl rfl ?_
  refine x_iload_n d_N_step_4 rfl rfl ?_
  refine x_aload_n d_N_step_5 rfl rfl ?_
  refine n_fld (j := 14) d_N_step_6 lf_N_50 nl (by decide) rfl rfl ?_
  refine x_iload_n d_N_step_9 rfl rfl ?_
  refine n_ld (j := 14) (i := p) (n := 12) (v := (pDn (oPr σ p))) d_N_step_10 nl (by decide) (by decide) rfl rfl (by omega) (by decide) yp.dn ?_
  refine x_iconst (v := (nI 1)) d_N_step_11 (by decide) ?_
  refine x_iadd (v := (pDn (oPr σ p) + (nI 1))) d_N_step_12 rfl ?_
  refine n_st (j := 14) (i := p) (n := 12) (v := (pDn (oPr σ p) + (nI 1))) d_N_step_13 nl (by decide) (by decide) rfl rfl (by omega) (by decide) ?_
  have yA : NR (up A 14 p (pDn (oPr σ p) + (nI 1))) (redA σ p) u := y.setP v.L ((Chp.rf p A).up (Or.inl (Or.inr (Or.inr ⟨rfl, by decide⟩)))) (yp.s_dn _)
  generalize (up A 14 p (pDn (oPr σ p) + (nI 1))) = A1 at yA ⊢
  have ypA := yA.2.2.2 p hp
  refine x_aload_n d_N_step_14 rfl rfl ?_
  refine n_fld (j := 7) d_N_step_15 lf_N_28 nl (by decide) rfl rfl ?_
  refine x_iload_n d_N_step_18 rfl rfl ?_
  refine n_ld (j := 7) (i := p) (n := 12) (v := (nI (pPl (oPr σ p)))) d_N_step_19 nl (by decide) (by decide) rfl rfl (by omega) (by decide) (ypA.pl.trans (by rw [redA_pl])) ?_
  refine x_istore_n d_N_step_20 rfl (by decide) (L' := [some (.ref r), some (.int (nI p)), some (.int (nI (pPl (oPr σ p)))), none, none]) rfl ?_
  refine x_iload_n d_N_step_21 rfl rfl ?_
  refine x_aload_n d_N_step_22 rfl rfl ?_
  refine n_get (v := (nI ((oCd σ).length))) d_N_step_23 lf_N_85 nl rfl yA.1.2.1 ?_
  refine x_icmp_ge (tgt := 33) d_N_step_26 rfl (fun w_ => absurd w_ (nI_ge hi0 (by omega))) (fun q26 => ?_)
  refine x_iconst (v := (nI 1)) d_N_step_29 (by decide) ?_
  refine x_goto (tgt := 34) d_N_step_30 rfl ?_
  refine x_istore_n d_N_step_34 rfl (by decide) (L' := [some (.ref r), some (.int (nI p)), some (.int (nI (pPl (oPr σ p)))), some (.int (nI 1)), none]) rfl ?_
  refine x_iload_n d_N_step_35 rfl rfl ?_
  refine x_if_eq (tgt := 189) d_N_step_36 rfl (fun w_ => absurd w_ (by decide)) (fun q36 => ?_)
  refine x_aload_n d_N_step_39 rfl rfl ?_
  refine n_fld (j := 7) d_N_step_40 lf_N_28 nl (by decide) rfl rfl ?_
  refine x_iload_n d_N_step_43 rfl rfl ?_
  refine x_iload_n d_N_step_44 rfl rfl ?_
  refine x_iconst (v := (nI 1)) d_N_step_45 (by decide) ?_
  refine x_iadd (v := (nI (pPl (oPr σ p) + 1))) d_N_step_46 (nI_add _ _) ?_
  refine n_st (j := 7) (i := p) (n := 12) (v := (nI (pPl (oPr σ p) + 1))) d_N_step_47 nl (by decide) (by decide) rfl rfl (by omega) (by decide) ?_
  have yB : NR (up A1 7 p (nI (pPl (oPr σ p) + 1))) (redB σ p) u := yA.setP vA.L ((Chp.rf p A1).up (Or.inl (Or.inr (Or.inr ⟨rfl, by decide⟩)))) (ypA.s_pl _)
  generalize (up A1 7 p (nI (pPl (oPr σ p) + 1))) = A2 at yB ⊢
  have hc := n_mail (E := E) nl yB vB hp hN h3B vi ho
  rw [hpm] at hc
  refine x_aload_n d_N_step_48 rfl rfl ?_
  refine n_fld (j := 1) d_N_step_49 lf_N_7 nl (by decide) rfl rfl ?_
  refine x_iload_n d_N_step_52 rfl rfl ?_
  refine n_ld (j := 1) (i := pPl (oPr σ p)) (n := 48) (v := (nI (q.1))) d_N_step_53 nl (by decide) (by decide) rfl rfl (by omega) (by decide) (yB.2.1 _ q hq).1 ?_
  refine x_istore d_N_step_54 (by decide) (L' := [some (.ref r), some (.int (nI p)), some (.int (nI (pPl (oPr σ p)))), some (.int (nI 1)), some (.int (nI (q.1)))]) rfl ?_
  refine x_iload d_N_step_56 rfl ?_
  refine x_bipush (v := (nI 11)) d_N_step_58 (by decide) ?_
  refine x_icmp_ge (tgt := 99) d_N_step_60 rfl (fun q60 => ?_) (fun w_ => absurd (nI_le (a := 11) (by omega) (by omega)) w_)
  refine x_iload d_N_step_99 rfl ?_
  refine x_bipush (v := (nI 17)) d_N_step_101 (by decide) ?_
  refine x_icmp_ge (tgt := 134) d_N_step_103 rfl (fun q103 => ?_) (fun w_ => absurd (nI_le (a := 17) (by omega) (by omega)) w_)
  refine x_iload d_N_step_134 rfl ?_
  refine x_bipush (v := (nI 22)) d_N_step_136 (by decide) ?_
  refine x_icmp_ge (tgt := 163) d_N_step_138 rfl (fun w_ => absurd w_ (nI_ge (b := 22) (by omega) (by decide))) (fun q138 => ?_)
  refine x_aload_n d_N_step_141 rfl rfl ?_
  refine x_iload_n d_N_step_142 rfl rfl ?_
  refine x_iload d_N_step_143 rfl ?_
  refine x_aload_n d_N_step_145 rfl rfl ?_
  refine n_fld (j := 2) d_N_step_146 lf_N_13 nl (by decide) rfl rfl ?_
  refine x_iload_n d_N_step_149 rfl rfl ?_
  refine n_ld (j := 2) (i := pPl (oPr σ p)) (n := 48) (v := (q.2.1)) d_N_step_150 nl (by decide) (by decide) rfl rfl (by omega) (by decide) (yB.2.1 _ q hq).2.1 ?_
  refine x_aload_n d_N_step_151 rfl rfl ?_
  refine n_fld (j := 3) d_N_step_152 lf_N_16 nl (by decide) rfl rfl ?_
  refine x_iload_n d_N_step_155 rfl rfl ?_
  refine n_ld (j := 3) (i := pPl (oPr σ p)) (n := 48) (v := (q.2.2.1)) d_N_step_156 nl (by decide) (by decide) rfl rfl (by omega) (by decide) (yB.2.1 _ q hq).2.2.1 ?_
  refine x_invv d_N_step_157 lm_N_162 (as := [.int (nI p), .int (nI (q.1)), .int (q.2.1), .int (q.2.2.1)]) (S := []) (cz' := 0) (cs' := 0) hc nl.o rfl rfl rfl (Nat.le_of_ble_eq_true rfl) (by omega) (by decide) (by decide) ?_
  rintro _ _ ⟨rfl, A3, rfl, u3, y3, k3⟩
  refine x_goto (tgt := 188) d_N_step_160 rfl ?_
  refine x_istore_n d_N_step_188 rfl (by decide) (L' := [some (.ref r), some (.int (nI p)), some (.int (nI (pPl (oPr σ p)))), some (.int 1), some (.int (nI (q.1)))]) rfl ?_
  refine x_iload_n d_N_step_189 rfl rfl ?_
  refine x_if_ne (tgt := 200) d_N_step_190 rfl (fun q190 => ?_) (fun w_ => absurd w_ (by decide))
  exact x_ret ⟨rfl, A3, rfl, u3, by rw [er]; exact y3, by rw [er]; exact fun U hh => k3 U hh.redB⟩ rfl d_N_step_200
theorem n_step_mail0 {E : th_E} {h : th_H} {r : Nat} {A : Nat → Nat → Int32} (nl : NL r h) {N u : Nat} {σ : Ho} (y : NR A σ u) (v : vPs N σ) {p : Nat} (hp : p < oCt σ) (vc : vCd σ) (hN : N < 2 ^ 30) (h1 : pSt (oPr σ p) = 1) {q : Nat × Int32 × Int32 × Int32} (hq : (oCd σ)[pPl (oPr σ p)]? = some q) (ho : 17 ≤ q.1 ∧ q.1 < 22) (hpm : performM (redB σ p) p q.1 q.2.1 q.2.2.1 q.2.2.2 = none) : Xc E m_N_step 6 0 0 [.ref r, .int (nI p)] (ov r h A) (Nx r h none (fun A' => ∃ u', NR A' (reduceM σ p) u' ∧ HdX p σ u (reduceM σ p) u')) := by
  refine Xc.of (by decide) (by simp [Value.category]) (Nat.le_of_ble_eq_true rfl) ?_
  show Xw E m_N_step 6 0 0 0 [some (.ref r), some (.int (nI p)), none, none, none] [] (ov r h A) _
  have yp := y.2.2.2 p hp
  have hp12 := Nat.lt_of_lt_of_le hp v.1
  have vA := v.redA hp
  have hpl := (v.2.2 p hp).2.1
  have hcd := vc.1
  have h3A : ¬ pSt (oPr (redA σ p) p) = 3 := by rw [redA_stN]; omega
  have hi0 := (List.getElem?_eq_some_iff.mp hq).1
  have vB := v.redB hp (by omega)
  have h3B : ¬ pSt (oPr (redB σ p) p) = 3 := by rw [redB_stN]; omega
  have vi := vc.2 q (mem_gi hq)
  have er : reduceM σ p = endM (redB σ p) p aFault := by unfold reduceM; rw [hq]; simp only [hpm]
  refine x_aload_n d_N_step_0 rfl rfl ?_
  refine n_fld (j := 14) d_N_step_1 lf_N_50 nl (by decide) rfl rfl ?_
  refine x_iload_n d_N_step_4 rfl rfl ?_
  refine x_aload_n d_N_step_5 rfl rfl ?_
  refine n_fld (j := 14) d_N_step_6 lf_N_50 nl (by decide) rfl rfl ?_
  refine x_iload_n d_N_step_9 rfl rfl ?_
  refine n_ld (j := 14) (i := p) (n := 12) (v := (pDn (oPr σ p))) d_N_step_10 nl (by decide) (by decide) rfl rfl (by omega) (by decide) yp.dn ?_
  refine x_iconst (v := (nI 1)) d_N_step_11 (by decide) ?_
  refine x_iadd (v := (pDn (oPr σ p) + (nI 1))) d_N_step_12 rfl ?_
  refine n_st (j := 14) (i := p) (n := 12) (v := (pDn (oPr σ p) + (nI 1))) d_N_step_13 nl (by decide) (by decide) rfl rfl (by omega) (by decide) ?_
  have yA : NR (up A 14 p (pDn (oPr σ p) + (nI 1))) (redA σ p) u := y.setP v.L ((Chp.rf p A).up (Or.inl (Or.inr (Or.inr ⟨rfl, by decide⟩)))) (yp.s_dn _)
  generalize (up A 14 p (pDn (oPr σ p) + (nI 1))) = A1 at yA ⊢
  have ypA := yA.2.2.2 p hp
  refine x_aload_n d_N_step_14 rfl rfl ?_
  refine n_fld (j := 7) d_N_step_15 lf_N_28 nl (by decide) rfl rfl ?_
  refine x_iload_n d_N_step_18 rfl rfl ?_
  refine n_ld (j := 7) (i := p) (n := 12) (v := (nI (pPl (oPr σ p)))) d_N_step_19 nl (by decide) (by decide) rfl rfl (by omega) (by decide) (ypA.pl.trans (by rw [redA_pl])) ?_
  refine x_istore_n d_N_step_20 rfl (by decide) (L' := [some (.ref r), some (.int (nI p)), some (.int (nI (pPl (oPr σ p)))), none, none]) rfl ?_
  refine x_iload_n d_N_step_21 rfl rfl ?_
  refine x_aload_n d_N_step_22 rfl rfl ?_
  refine n_get (v := (nI ((oCd σ).length))) d_N_step_23 lf_N_85 nl rfl yA.1.2.1 ?_
  refine x_icmp_ge (tgt := 33) d_N_step_26 rfl (fun w_ => absurd w_ (nI_ge hi0 (by omega))) (fun q26 => ?_)
  refine x_iconst (v := (nI 1)) d_N_step_29 (by decide) ?_
  refine x_goto (tgt := 34) d_N_step_30 rfl ?_
  refine x_istore_n d_N_step_34 rfl (by decide) (L' := [some (.ref r), some (.int (nI p)), some (.int (nI (pPl (oPr σ p)))), some (.int (nI 1)), none]) rfl ?_
  refine x_iload_n d_N_step_35 rfl rfl ?_
  refine x_if_eq (tgt := 189) d_N_step_36 rfl (fun w_ => absurd w_ (by decide)) (fun q36 => ?_)
  refine x_aload_n d_N_step_39 rfl rfl ?_
  refine n_fld (j := 7) d_N_step_40 lf_N_28 nl (by decide) rfl rfl ?_
  refine x_iload_n d_N_step_43 rfl rfl ?_
  refine x_iload_n d_N_step_44 rfl rfl ?_
  refine x_iconst (v := (nI 1)) d_N_step_45 (by decide) ?_
  refine x_iadd (v := (nI (pPl (oPr σ p) + 1))) d_N_step_46 (nI_add _ _) ?_
  refine n_st (j := 7) (i := p) (n := 12) (v := (nI (pPl (oPr σ p) + 1))) d_N_step_47 nl (by decide) (by decide) rfl rfl (by omega) (by decide) ?_
  have yB : NR (up A1 7 p (nI (pPl (oPr σ p) + 1))) (redB σ p) u := yA.setP vA.L ((Chp.rf p A1).up (Or.inl (Or.inr (Or.inr ⟨rfl, by decide⟩)))) (ypA.s_pl _)
  generalize (up A1 7 p (nI (pPl (oPr σ p) + 1))) = A2 at yB ⊢
  have hc := n_mail (E := E) nl yB vB hp hN h3B vi ho
  rw [hpm] at hc
  refine x_aload_n d_N_step_48 rfl rfl ?_
  refine n_fld (j := 1) d_N_step_49 lf_N_7 nl (by decide) rfl rfl ?_
  refine x_iload_n d_N_step_52 rfl rfl ?_
  refine n_ld (j := 1) (i := pPl (oPr σ p)) (n := 48) (v := (nI (q.1))) d_N_step_53 nl (by decide) (by decide) rfl rfl (by omega) (by decide) (yB.2.1 _ q hq).1 ?_
  refine x_istore d_N_step_54 (by decide) (L' := [some (.ref r), some (.int (nI p)), some (.int (nI (pPl (oPr σ p)))), some (.int (nI 1)), some (.int (nI (q.1)))]) rfl ?_
  refine x_iload d_N_step_56 rfl ?_
  refine x_bipush (v := (nI 11)) d_N_step_58 (by decide) ?_
  refine x_icmp_ge (tgt := 99) d_N_step_60 rfl (fun q60 => ?_) (fun w_ => absurd (nI_le (a := 11) (by omega) (by omega)) w_)
  refine x_iload d_N_step_99 rfl ?_
  refine x_bipush (v := (nI 17)) d_N_step_101 (by decide) ?_
  refine x_icmp_ge (tgt := 134) d_N_step_103 rfl (fun q103 => ?_) (fun w_ => absurd (nI_le (a := 17) (by omega) (by omega)) w_)
  refine x_iload d_N_step_134 rfl ?_
  refine x_bipush (v := (nI 22)) d_N_step_136 (by decide) ?_
  refine x_icmp_ge (tgt := 163) d_N_step_138 rfl (fun w_ => absurd w_ (nI_ge (b := 22) (by omega) (by decide))) (fun q138 => ?_)
  refine x_aload_n d_N_step_141 rfl rfl ?_
  refine x_iload_n d_N_step_142 rfl rfl ?_
  refine x_iload d_N_step_143 rfl ?_
  refine x_aload_n d_N_step_145 rfl rfl ?_
  refine n_fld (j := 2) d_N_step_146 lf_N_13 nl (by decide) rfl rfl ?_
  refine x_iload_n d_N_step_149 rfl rfl ?_
  refine n_ld (j := 2) (i := pPl (oPr σ p)) (n := 48) (v := (q.2.1)) d_N_step_150 nl (by decide) (by decide) rfl rfl (by omega) (by decide) (yB.2.1 _ q hq).2.1 ?_
  refine x_aload_n d_N_step_151 rfl rfl ?_
  refine n_fld (j := 3) d_N_step_152 lf_N_16 nl (by decide) rfl rfl ?_
  refine x_iload_n d_N_step_155 rfl rfl ?_
  refine n_ld (j := 3) (i := pPl (oPr σ p)) (n := 48) (v := (q.2.2.1)) d_N_step_156 nl (by decide) (by decide) rfl rfl (by omega) (by decide) (yB.2.1 _ q hq).2.2.1 ?_
  refine x_invv d_N_step_157 lm_N_162 (as := [.int (nI p), .int (nI (q.1)), .int (q.2.1), .int (q.2.2.1)]) (S := []) (cz' := 0) (cs' := 0) hc nl.o rfl rfl rfl (Nat.le_of_ble_eq_true rfl) (by omega) (by decide) (by decide) ?_
  rintro _ _ ⟨rfl, A3, rfl, y3⟩
  refine x_goto (tgt := 188) d_N_step_160 rfl ?_
  refine x_istore_n d_N_step_188 rfl (by decide) (L' := [some (.ref r), some (.int (nI p)), some (.int (nI (pPl (oPr σ p)))), some (.int 0), some (.int (nI (q.1)))]) rfl ?_
  refine x_iload_n d_N_step_189 rfl rfl ?_
  refine x_if_ne (tgt := 200) d_N_step_190 rfl (fun w_ => absurd rfl w_) (fun q190 => ?_)
  refine x_aload_n d_N_step_193 rfl rfl ?_
  refine x_iload_n d_N_step_194 rfl rfl ?_
  refine x_bipush (v := (nI 13)) d_N_step_195 (by decide) ?_
  refine x_invv d_N_step_197 lm_N_146 (as := [.int (nI p), .int (nI 13)]) (S := []) (cz' := 0) (cs' := 0) (c_N_endBy nl y3 vB (nI 13) hp h3B) nl.o rfl rfl rfl (Nat.le_of_ble_eq_true rfl) (by omega) (by decide) (by decide) ?_
  rintro _ _ ⟨rfl, A4, rfl, u4, y4, k4⟩
  exact x_ret ⟨rfl, A4, rfl, u4, by rw [er]; exact y4, by rw [er]; exact fun U hh => Or.inl (k4 p U hh.redB)⟩ rfl d_N_step_200
theorem n_step_life1 {E : th_E} {h : th_H} {r : Nat} {A : Nat → Nat → Int32} (nl : NL r h) {N u : Nat} {σ : Ho} (y : NR A σ u) (v : vPs N σ) {p : Nat} (hp : p < oCt σ) (vc : vCd σ) (hN : N < 2 ^ 30) (h1 : pSt (oPr σ p) = 1) {q : Nat × Int32 × Int32 × Int32} (hq : (oCd σ)[pPl (oPr σ p)]? = some q) (ho : 22 ≤ q.1 ∧ q.1 < 27) {σ2 : Ho} (hpm : performM (redB σ p) p q.1 q.2.1 q.2.2.1 q.2.2.2 = some σ2) : Xc E m_N_step 6 0 0 [.ref r, .int (nI p)] (ov r h A) (Nx r h none (fun A' => ∃ u', NR A' (reduceM σ p) u' ∧ HdX p σ u (reduceM σ p) u')) := by
  refine Xc.of (by decide) (by simp [Value.category]) (Nat.le_of_ble_eq_true rfl) ?_
  show Xw E m_N_step 6 0 0 0 [some (.ref r), some (.int (nI p)), none, none, none] [] (ov r h A) _
  have yp := y.2.2.2 p hp
  have hp12 := Nat.lt_of_lt_of_le hp v.1
  have vA := v.redA hp
  have hpl := (v.2.2 p hp).2.1
  have hcd := vc.1
  have h3A : ¬ pSt (oPr (redA σ p) p) = 3 := by rw [redA_stN]; omega
  have hi0 := (List.getElem?_eq_some_iff.mp hq).1
  have vB := v.redB hp (by omega)
  have h3B : ¬ pSt (oPr (redB σ p) p) = 3 := by rw [redB_stN]; omega
  have vi := vc.2 q (mem_gi hq)
  have er : reduceM σ p = σ2 := by unfold reduceM; rw [hq]; simp only [hpm]
  refine x_aload_n d_N_step_0 rfl rfl ?_
  refine n_fld (j := 14) d_N_step_1 lf_N_50 nl (by decide) rfl rfl ?_
  refine x_iload_n d_N_step_4 rfl rfl ?_
  refine x_aload_n d_N_step_5 rfl rfl ?_
  refine n_fld (j := 14) d_N_step_6 lf_N_50 nl (by decide) rfl rfl ?_
  refine x_iload_n d_N_step_9 rfl rfl ?_
  refine n_ld (j := 14) (i := p) (n := 12) (v := (pDn (oPr σ p))) d_N_step_10 nl (by decide) (by decide) rfl rfl (by omega) (by decide) yp.dn ?_
  refine x_iconst (v := (nI 1)) d_N_step_11 (by decide) ?_
  refine x_iadd (v := (pDn (oPr σ p) + (nI 1))) d_N_step_12 rfl ?_
  refine n_st (j := 14) (i := p) (n := 12) (v := (pDn (oPr σ p) + (nI 1))) d_N_step_13 nl (by decide) (by decide) rfl rfl (by omega) (by decide) ?_
  have yA : NR (up A 14 p (pDn (oPr σ p) + (nI 1))) (redA σ p) u := y.setP v.L ((Chp.rf p A).up (Or.inl (Or.inr (Or.inr ⟨rfl, by decide⟩)))) (yp.s_dn _)
  generalize (up A 14 p (pDn (oPr σ p) + (nI 1))) = A1 at yA ⊢
  have ypA := yA.2.2.2 p hp
  refine x_aload_n d_N_step_14 rfl rfl ?_
  refine n_fld (j := 7) d_N_step_15 lf_N_28 nl (by decide) rfl rfl ?_
  refine x_iload_n d_N_step_18 rfl rfl ?_
  refine n_ld (j := 7) (i := p) (n := 12) (v := (nI (pPl (oPr σ p)))) d_N_step_19 nl (by decide) (by decide) rfl rfl (by omega) (by decide) (ypA.pl.trans (by rw [redA_pl])) ?_
  refine x_istore_n d_N_step_20 rfl (by decide) (L' := [some (.ref r), some (.int (nI p)), some (.int (nI (pPl (oPr σ p)))), none, none]) rfl ?_
  refine x_iload_n d_N_step_21 rfl rfl ?_
  refine x_aload_n d_N_step_22 rfl rfl ?_
  refine n_get (v := (nI ((oCd σ).length))) d_N_step_23 lf_N_85 nl rfl yA.1.2.1 ?_
  refine x_icmp_ge (tgt := 33) d_N_step_26 rfl (fun w_ => absurd w_ (nI_ge hi0 (by omega))) (fun q26 => ?_)
  refine x_iconst (v := (nI 1)) d_N_step_29 (by decide) ?_
  refine x_goto (tgt := 34) d_N_step_30 rfl ?_
  refine x_istore_n d_N_step_34 rfl (by decide) (L' := [some (.ref r), some (.int (nI p)), some (.int (nI (pPl (oPr σ p)))), some (.int (nI 1)), none]) rfl ?_
  refine x_iload_n d_N_step_35 rfl rfl ?_
  refine x_if_eq (tgt := 189) d_N_step_36 rfl (fun w_ => absurd w_ (by decide)) (fun q36 => ?_)
  refine x_aload_n d_N_step_39 rfl rfl ?_
  refine n_fld (j := 7) d_N_step_40 lf_N_28 nl (by decide) rfl rfl ?_
  refine x_iload_n d_N_step_43 rfl rfl ?_
  refine x_iload_n d_N_step_44 rfl rfl ?_
  refine x_iconst (v := (nI 1)) d_N_step_45 (by decide) ?_
  refine x_iadd (v := (nI (pPl (oPr σ p) + 1))) d_N_step_46 (nI_add _ _) ?_
  refine n_st (j := 7) (i := p) (n := 12) (v := (nI (pPl (oPr σ p) + 1))) d_N_step_47 nl (by decide) (by decide) rfl rfl (by omega) (by decide) ?_
  have yB : NR (up A1 7 p (nI (pPl (oPr σ p) + 1))) (redB σ p) u := yA.setP vA.L ((Chp.rf p A1).up (Or.inl (Or.inr (Or.inr ⟨rfl, by decide⟩)))) (ypA.s_pl _)
  generalize (up A1 7 p (nI (pPl (oPr σ p) + 1))) = A2 at yB ⊢
  have hc := n_life (E := E) nl yB vB hp hN h3B vi ho
  rw [hpm] at hc
  refine x_aload_n d_N_step_48 rfl rfl ?_
  refine n_fld (j := 1) d_N_step_49 lf_N_7 nl (by decide) rfl rfl ?_
  refine x_iload_n d_N_step_52 rfl rfl ?_
  refine n_ld (j := 1) (i := pPl (oPr σ p)) (n := 48) (v := (nI (q.1))) d_N_step_53 nl (by decide) (by decide) rfl rfl (by omega) (by decide) (yB.2.1 _ q hq).1 ?_
  refine x_istore d_N_step_54 (by decide) (L' := [some (.ref r), some (.int (nI p)), some (.int (nI (pPl (oPr σ p)))), some (.int (nI 1)), some (.int (nI (q.1)))]) rfl ?_
  refine x_iload d_N_step_56 rfl ?_
  refine x_bipush (v := (nI 11)) d_N_step_58 (by decide) ?_
  refine x_icmp_ge (tgt := 99) d_N_step_60 rfl (fun q60 => ?_) (fun w_ => absurd (nI_le (a := 11) (by omega) (by omega)) w_)
  refine x_iload d_N_step_99 rfl ?_
  refine x_bipush (v := (nI 17)) d_N_step_101 (by decide) ?_
  refine x_icmp_ge (tgt := 134) d_N_step_103 rfl (fun q103 => ?_) (fun w_ => absurd (nI_le (a := 17) (by omega) (by omega)) w_)
  refine x_iload d_N_step_134 rfl ?_
  refine x_bipush (v := (nI 22)) d_N_step_136 (by decide) ?_
  refine x_icmp_ge (tgt := 163) d_N_step_138 rfl (fun q138 => ?_) (fun w_ => absurd (nI_le (a := 22) (by omega) (by omega)) w_)
  refine x_aload_n d_N_step_163 rfl rfl ?_
  refine x_iload_n d_N_step_164 rfl rfl ?_
  refine x_iload d_N_step_165 rfl ?_
  refine x_aload_n d_N_step_167 rfl rfl ?_
  refine n_fld (j := 2) d_N_step_168 lf_N_13 nl (by decide) rfl rfl ?_
  refine x_iload_n d_N_step_171 rfl rfl ?_
  refine n_ld (j := 2) (i := pPl (oPr σ p)) (n := 48) (v := (q.2.1)) d_N_step_172 nl (by decide) (by decide) rfl rfl (by omega) (by decide) (yB.2.1 _ q hq).2.1 ?_
  refine x_aload_n d_N_step_173 rfl rfl ?_
  refine n_fld (j := 3) d_N_step_174 lf_N_16 nl (by decide) rfl rfl ?_
  refine x_iload_n d_N_step_177 rfl rfl ?_
  refine n_ld (j := 3) (i := pPl (oPr σ p)) (n := 48) (v := (q.2.2.1)) d_N_step_178 nl (by decide) (by decide) rfl rfl (by omega) (by decide) (yB.2.1 _ q hq).2.2.1 ?_
  refine x_aload_n d_N_step_179 rfl rfl ?_
  refine n_fld (j := 4) d_N_step_180 lf_N_19 nl (by decide) rfl rfl ?_
  refine x_iload_n d_N_step_183 rfl rfl ?_
  refine n_ld (j := 4) (i := pPl (oPr σ p)) (n := 48) (v := (q.2.2.2)) d_N_step_184 nl (by decide) (by decide) rfl rfl (by omega) (by decide) (yB.2.1 _ q hq).2.2.2 ?_
  refine x_invv d_N_step_185 lm_N_166 (as := [.int (nI p), .int (nI (q.1)), .int (q.2.1), .int (q.2.2.1), .int (q.2.2.2)]) (S := []) (cz' := 0) (cs' := 0) hc nl.o rfl rfl rfl (Nat.le_of_ble_eq_true rfl) (by omega) (by decide) (by decide) ?_
  rintro _ _ ⟨rfl, A3, rfl, u3, y3, k3⟩
  refine x_istore_n d_N_step_188 rfl (by decide) (L' := [some (.ref r), some (.int (nI p)), some (.int (nI (pPl (oPr σ p)))), some (.int 1), some (.int (nI (q.1)))]) rfl ?_
  refine x_iload_n d_N_step_189 rfl rfl ?_
  refine x_if_ne (tgt := 200) d_N_step_190 rfl (fun q190 => ?_) (fun w_ => absurd w_ (by decide))
  exact x_ret ⟨rfl, A3, rfl, u3, by rw [er]; exact y3, by rw [er]; exact fun U hh => k3 U hh.redB⟩ rfl d_N_step_200
theorem n_step_life0 {E : th_E} {h : th_H} {r : Nat} {A : Nat → Nat → Int32} (nl : NL r h) {N u : Nat} {σ : Ho} (y : NR A σ u) (v : vPs N σ) {p : Nat} (hp : p < oCt σ) (vc : vCd σ) (hN : N < 2 ^ 30) (h1 : pSt (oPr σ p) = 1) {q : Nat × Int32 × Int32 × Int32} (hq : (oCd σ)[pPl (oPr σ p)]? = some q) (ho : 22 ≤ q.1 ∧ q.1 < 27) (hpm : performM (redB σ p) p q.1 q.2.1 q.2.2.1 q.2.2.2 = none) : Xc E m_N_step 6 0 0 [.ref r, .int (nI p)] (ov r h A) (Nx r h none (fun A' => ∃ u', NR A' (reduceM σ p) u' ∧ HdX p σ u (reduceM σ p) u')) := by
  refine Xc.of (by decide) (by simp [Value.category]) (Nat.le_of_ble_eq_true rfl) ?_
  show Xw E m_N_step 6 0 0 0 [some (.ref r), some (.int (nI p)), none, none, none] [] (ov r h A) _
  have yp := y.2.2.2 p hp
  have hp12 := Nat.lt_of_lt_of_le hp v.1
  have vA := v.redA hp
  have hpl := (v.2.2 p hp).2.1
  have hcd := vc.1
  have h3A : ¬ pSt (oPr (redA σ p) p) = 3 := by rw [redA_stN]; omega
  have hi0 := (List.getElem?_eq_some_iff.mp hq).1
  have vB := v.redB hp (by omega)
  have h3B : ¬ pSt (oPr (redB σ p) p) = 3 := by rw [redB_stN]; omega
  have vi := vc.2 q (mem_gi hq)
  have er : reduceM σ p = endM (redB σ p) p aFault := by unfold reduceM; rw [hq]; simp only [hpm]
  refine x_aload_n d_N_step_0 rfl rfl ?_
  refine n_fld (j := 14) d_N_step_1 lf_N_50 nl (by decide) rfl rfl ?_
  refine x_iload_n d_N_step_4 rfl rfl ?_
  refine x_aload_n d_N_step_5 rfl rfl ?_
  refine n_fld (j := 14) d_N_step_6 lf_N_50 nl (by decide) rfl rfl ?_
  refine x_iload_n d_N_step_9 rfl rfl ?_
  refine n_ld (j := 14) (i := p) (n := 12) (v := (pDn (oPr σ p))) d_N_step_10 nl (by decide) (by decide) rfl rfl (by omega) (by decide) yp.dn ?_
  refine x_iconst (v := (nI 1)) d_N_step_11 (by decide) ?_
  refine x_iadd (v := (pDn (oPr σ p) + (nI 1))) d_N_step_12 rfl ?_
  refine n_st (j := 14) (i := p) (n := 12) (v := (pDn (oPr σ p) + (nI 1))) d_N_step_13 nl (by decide) (by decide) rfl rfl (by omega) (by decide) ?_
  have yA : NR (up A 14 p (pDn (oPr σ p) + (nI 1))) (redA σ p) u := y.setP v.L ((Chp.rf p A).up (Or.inl (Or.inr (Or.inr ⟨rfl, by decide⟩)))) (yp.s_dn _)
  generalize (up A 14 p (pDn (oPr σ p) + (nI 1))) = A1 at yA ⊢
  have ypA := yA.2.2.2 p hp
  refine x_aload_n d_N_step_14 rfl rfl ?_
  refine n_fld (j := 7) d_N_step_15 lf_N_28 nl (by decide) rfl rfl ?_
  refine x_iload_n d_N_step_18 rfl rfl ?_
  refine n_ld (j := 7) (i := p) (n := 12) (v := (nI (pPl (oPr σ p)))) d_N_step_19 nl (by decide) (by decide) rfl rfl (by omega) (by decide) (ypA.pl.trans (by rw [redA_pl])) ?_
  refine x_istore_n d_N_step_20 rfl (by decide) (L' := [some (.ref r), some (.int (nI p)), some (.int (nI (pPl (oPr σ p)))), none, none]) rfl ?_
  refine x_iload_n d_N_step_21 rfl rfl ?_
  refine x_aload_n d_N_step_22 rfl rfl ?_
  refine n_get (v := (nI ((oCd σ).length))) d_N_step_23 lf_N_85 nl rfl yA.1.2.1 ?_
  refine x_icmp_ge (tgt := 33) d_N_step_26 rfl (fun w_ => absurd w_ (nI_ge hi0 (by omega))) (fun q26 => ?_)
  refine x_iconst (v := (nI 1)) d_N_step_29 (by decide) ?_
  refine x_goto (tgt := 34) d_N_step_30 rfl ?_
  refine x_istore_n d_N_step_34 rfl (by decide) (L' := [some (.ref r), some (.int (nI p)), some (.int (nI (pPl (oPr σ p)))), some (.int (nI 1)), none]) rfl ?_
  refine x_iload_n d_N_step_35 rfl rfl ?_
  refine x_if_eq (tgt := 189) d_N_step_36 rfl (fun w_ => absurd w_ (by decide)) (fun q36 => ?_)
  refine x_aload_n d_N_step_39 rfl rfl ?_
  refine n_fld (j := 7) d_N_step_40 lf_N_28 nl (by decide) rfl rfl ?_
  refine x_iload_n d_N_step_43 rfl rfl ?_
  refine x_iload_n d_N_step_44 rfl rfl ?_
  refine x_iconst (v := (nI 1)) d_N_step_45 (by decide) ?_
  refine x_iadd (v := (nI (pPl (oPr σ p) + 1))) d_N_step_46 (nI_add _ _) ?_
  refine n_st (j := 7) (i := p) (n := 12) (v := (nI (pPl (oPr σ p) + 1))) d_N_step_47 nl (by decide) (by decide) rfl rfl (by omega) (by decide) ?_
  have yB : NR (up A1 7 p (nI (pPl (oPr σ p) + 1))) (redB σ p) u := yA.setP vA.L ((Chp.rf p A1).up (Or.inl (Or.inr (Or.inr ⟨rfl, by decide⟩)))) (ypA.s_pl _)
  generalize (up A1 7 p (nI (pPl (oPr σ p) + 1))) = A2 at yB ⊢
  have hc := n_life (E := E) nl yB vB hp hN h3B vi ho
  rw [hpm] at hc
  refine x_aload_n d_N_step_48 rfl rfl ?_
  refine n_fld (j := 1) d_N_step_49 lf_N_7 nl (by decide) rfl rfl ?_
  refine x_iload_n d_N_step_52 rfl rfl ?_
  refine n_ld (j := 1) (i := pPl (oPr σ p)) (n := 48) (v := (nI (q.1))) d_N_step_53 nl (by decide) (by decide) rfl rfl (by omega) (by decide) (yB.2.1 _ q hq).1 ?_
  refine x_istore d_N_step_54 (by decide) (L' := [some (.ref r), some (.int (nI p)), some (.int (nI (pPl (oPr σ p)))), some (.int (nI 1)), some (.int (nI (q.1)))]) rfl ?_
  refine x_iload d_N_step_56 rfl ?_
  refine x_bipush (v := (nI 11)) d_N_step_58 (by decide) ?_
  refine x_icmp_ge (tgt := 99) d_N_step_60 rfl (fun q60 => ?_) (fun w_ => absurd (nI_le (a := 11) (by omega) (by omega)) w_)
  refine x_iload d_N_step_99 rfl ?_
  refine x_bipush (v := (nI 17)) d_N_step_101 (by decide) ?_
  refine x_icmp_ge (tgt := 134) d_N_step_103 rfl (fun q103 => ?_) (fun w_ => absurd (nI_le (a := 17) (by omega) (by omega)) w_)
  refine x_iload d_N_step_134 rfl ?_
  refine x_bipush (v := (nI 22)) d_N_step_136 (by decide) ?_
  refine x_icmp_ge (tgt := 163) d_N_step_138 rfl (fun q138 => ?_) (fun w_ => absurd (nI_le (a := 22) (by omega) (by omega)) w_)
  refine x_aload_n d_N_step_163 rfl rfl ?_
  refine x_iload_n d_N_step_164 rfl rfl ?_
  refine x_iload d_N_step_165 rfl ?_
  refine x_aload_n d_N_step_167 rfl rfl ?_
  refine n_fld (j := 2) d_N_step_168 lf_N_13 nl (by decide) rfl rfl ?_
  refine x_iload_n d_N_step_171 rfl rfl ?_
  refine n_ld (j := 2) (i := pPl (oPr σ p)) (n := 48) (v := (q.2.1)) d_N_step_172 nl (by decide) (by decide) rfl rfl (by omega) (by decide) (yB.2.1 _ q hq).2.1 ?_
  refine x_aload_n d_N_step_173 rfl rfl ?_
  refine n_fld (j := 3) d_N_step_174 lf_N_16 nl (by decide) rfl rfl ?_
  refine x_iload_n d_N_step_177 rfl rfl ?_
  refine n_ld (j := 3) (i := pPl (oPr σ p)) (n := 48) (v := (q.2.2.1)) d_N_step_178 nl (by decide) (by decide) rfl rfl (by omega) (by decide) (yB.2.1 _ q hq).2.2.1 ?_
  refine x_aload_n d_N_step_179 rfl rfl ?_
  refine n_fld (j := 4) d_N_step_180 lf_N_19 nl (by decide) rfl rfl ?_
  refine x_iload_n d_N_step_183 rfl rfl ?_
  refine n_ld (j := 4) (i := pPl (oPr σ p)) (n := 48) (v := (q.2.2.2)) d_N_step_184 nl (by decide) (by decide) rfl rfl (by omega) (by decide) (yB.2.1 _ q hq).2.2.2 ?_
  refine x_invv d_N_step_185 lm_N_166 (as := [.int (nI p), .int (nI (q.1)), .int (q.2.1), .int (q.2.2.1), .int (q.2.2.2)]) (S := []) (cz' := 0) (cs' := 0) hc nl.o rfl rfl rfl (Nat.le_of_ble_eq_true rfl) (by omega) (by decide) (by decide) ?_
  rintro _ _ ⟨rfl, A3, rfl, y3⟩
  refine x_istore_n d_N_step_188 rfl (by decide) (L' := [some (.ref r), some (.int (nI p)), some (.int (nI (pPl (oPr σ p)))), some (.int 0), some (.int (nI (q.1)))]) rfl ?_
  refine x_iload_n d_N_step_189 rfl rfl ?_
  refine x_if_ne (tgt := 200) d_N_step_190 rfl (fun w_ => absurd rfl w_) (fun q190 => ?_)
  refine x_aload_n d_N_step_193 rfl rfl ?_
  refine x_iload_n d_N_step_194 rfl rfl ?_
  refine x_bipush (v := (nI 13)) d_N_step_195 (by decide) ?_
  refine x_invv d_N_step_197 lm_N_146 (as := [.int (nI p), .int (nI 13)]) (S := []) (cz' := 0) (cs' := 0) (c_N_endBy nl y3 vB (nI 13) hp h3B) nl.o rfl rfl rfl (Nat.le_of_ble_eq_true rfl) (by omega) (by decide) (by decide) ?_
  rintro _ _ ⟨rfl, A4, rfl, u4, y4, k4⟩
  exact x_ret ⟨rfl, A4, rfl, u4, by rw [er]; exact y4, by rw [er]; exact fun U hh => Or.inl (k4 p U hh.redB)⟩ rfl d_N_step_200
theorem c_N_step {E : th_E} {h : th_H} {r : Nat} {A : Nat → Nat → Int32} (nl : NL r h) {N u : Nat} {σ : Ho} (y : NR A σ u) (v : vPs N σ) {p : Nat} (hp : p < oCt σ) (vc : vCd σ) (hN : N < 2 ^ 30) (h1 : pSt (oPr σ p) = 1) : Xc E m_N_step 6 0 0 [.ref r, .int (nI p)] (ov r h A) (Nx r h none (fun A' => ∃ u', NR A' (reduceM σ p) u' ∧ HdX p σ u (reduceM σ p) u')) := by
  cases hq : (oCd σ)[pPl (oPr σ p)]? with
  | none => exact n_step0 nl y v hp vc hN h1 hq
  | some q =>
    have h27 : q.1 < 27 := by
      have vi := vc.2 q (mem_gi hq)
      refine Nat.lt_of_not_le (fun z => ?_)
      obtain ⟨o, a, b, c⟩ := q
      obtain ⟨m, rfl⟩ : ∃ m, o = m + 27 := ⟨o - 27, by have : 27 ≤ o := z; omega⟩
      exact vi.elim
    cases hpm : performM (redB σ p) p q.1 q.2.1 q.2.2.1 q.2.2.2 with
    | none =>
      by_cases g1 : q.1 < 11
      · exact n_step_make0 nl y v hp vc hN h1 hq ⟨by omega, g1⟩ hpm
      by_cases g2 : q.1 < 17
      · exact n_step_branch0 nl y v hp vc hN h1 hq ⟨by omega, g2⟩ hpm
      by_cases g3 : q.1 < 22
      · exact n_step_mail0 nl y v hp vc hN h1 hq ⟨by omega, g3⟩ hpm
      exact n_step_life0 nl y v hp vc hN h1 hq ⟨by omega, h27⟩ hpm
    | some σ2 =>
      by_cases g1 : q.1 < 11
      · exact n_step_make1 nl y v hp vc hN h1 hq ⟨by omega, g1⟩ hpm
      by_cases g2 : q.1 < 17
      · exact n_step_branch1 nl y v hp vc hN h1 hq ⟨by omega, g2⟩ hpm
      by_cases g3 : q.1 < 22
      · exact n_step_mail1 nl y v hp vc hN h1 hq ⟨by omega, g3⟩ hpm
      exact n_step_life1 nl y v hp vc hN h1 hq ⟨by omega, h27⟩ hpm
