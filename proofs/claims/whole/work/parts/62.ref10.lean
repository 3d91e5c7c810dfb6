/-! The reference: life (printed by wip/gen/mod_ref10.py). -/
theorem sigM_eq (σ : Ho) (p q : Nat) (t : Tm) : (sgB σ q t → sigM FU σ p q t = endM σ q t) ∧ (¬ sgB σ q t → sigM FU σ p q t = sig1 σ p q t) := by
  unfold sigM endM sig1 sgB
  by_cases h3 : pSt (oPr σ q) = 3
  · rw [if_pos h3, if_pos h3, if_pos h3]
    exact ⟨fun z => absurd h3 z.1, fun _ => rfl⟩
  rw [if_neg h3, if_neg h3, if_neg h3]
  by_cases h4 : pTr (oPr σ q) = true
  · rw [if_pos h4, if_pos h4]
    exact ⟨fun z => absurd h4 z.2.1, fun _ => rfl⟩
  rw [if_neg h4, if_neg h4]
  by_cases h5 : isN t = true
  · rw [if_pos h5]
    exact ⟨fun z => absurd h5 z.2.2, fun _ => rfl⟩
  rw [if_neg h5]
  exact ⟨fun _ => rfl, fun z => absurd ⟨h3, h4, h5⟩ z⟩
theorem tie_pr (σ : Ho) (p q x : Nat) : ∃ l, oPr (tieM σ p q) x = sLk (oPr σ x) l := by
  unfold tieM
  show ∃ l, va_up (va_up (oPr σ) p _) q _ x = _
  by_cases h : x = q
  · rw [h, va_up_self]
    by_cases h2 : q = p
    · show ∃ l, sLk (va_up (oPr σ) p _ q) _ = _
      rw [h2, va_up_self]
      exact ⟨_, rfl⟩
    · show ∃ l, sLk (va_up (oPr σ) p _ q) _ = _
      rw [va_up_ne _ _ h2]
      exact ⟨_, rfl⟩
  · rw [va_up_ne _ _ h]
    by_cases h2 : x = p
    · rw [h2, va_up_self]; exact ⟨_, rfl⟩
    · rw [va_up_ne _ _ h2]; exact ⟨_, rfl⟩
theorem HdK.tie (σ : Ho) (u p q : Nat) : HdK σ u (tieM σ p q) u := fun P U h => by
  obtain ⟨l, e⟩ := tie_pr σ p q P
  unfold Hd
  rw [e]
  exact h
theorem HdX.spawn {σ : Ho} {u p a l : Nat} {t : Tm} (hp : p < oCt σ) : HdX p σ u (spawnM σ p a l t) u := fun U hh => Or.inl (by
  have e : pSt (oPr (spawnM σ p a l t) p) = pSt (oPr σ p) := by
    unfold spawnM startM comeM
    show pSt (va_up (va_up (oPr σ) (oCt σ) (newP l t)) p (sRg (va_up (oPr σ) (oCt σ) (newP l t) p) a _) p) = _
    rw [va_up_self, va_up_ne _ _ (by omega : p ≠ oCt σ)]
  unfold Hd
  rw [e]
  rcases hh with ⟨a1, a2, a3⟩ | a1
  · refine Or.inl ⟨?_, a2, a3⟩
    show (oQu σ ++ [oCt σ]).head? = some p
    cases hl : oQu σ with
    | nil => rw [hl] at a1; cases a1
    | cons x m => rw [hl] at a1; exact a1
  · exact Or.inr a1)
theorem n_lf22y {E : th_E} {h : th_H} {r : Nat} {A : Nat → Nat → Int32} (nl : NL r h) {N u : Nat} {σ : Ho} (y : NR A σ u) (v : vPs N σ) {p : Nat} (hp : p < oCt σ) {a b c : Nat} (ha : a < 8) (hb : b < 48) (hc8 : c < 8) (hc : oCt σ < 12) : Xc E m_N_life 5 0 0 [.ref r, .int (nI p), .int (nI 22), .int (nI a), .int (nI b), .int (nI c)] (ov r h A) (Pn r h σ u p (some (spawnM σ p a b (pRg (oPr σ p) c)))) := by
  refine Xc.of (by decide) (by simp [Value.category]) (Nat.le_of_ble_eq_true rfl) ?_
  show Xw E m_N_life 5 0 0 0 [some (.ref r), some (.int (nI p)), some (.int (nI 22)), some (.int (nI a)), some (.int (nI b)), some (.int (nI c)), none, none] [] (ov r h A) _
  have yp := y.2.2.2 p hp
  have hp12 := Nat.lt_of_lt_of_le hp v.1
  have vp := (v.2.2 p hp).L
  have hct := v.1
  have sc := yp.rg c hc8
  refine x_bipush (v := (nI 21)) d_N_life_0 (by decide) ?_
  refine x_iload_n d_N_life_2 rfl rfl ?_
  refine x_imul (v := (nI (21 * p))) d_N_life_3 (pk_mul _ _) ?_
  refine x_iload_n d_N_life_4 rfl rfl ?_
  refine x_iadd (v := (nI (21 * p + a))) d_N_life_5 (nI_add _ _) ?_
  refine x_istore d_N_life_6 (by decide) (L' := [some (.ref r), some (.int (nI p)), some (.int (nI 22)), some (.int (nI a)), some (.int (nI b)), some (.int (nI c)), some (.int (nI (21 * p + a))), none]) rfl ?_
  refine x_iload_n d_N_life_8 rfl rfl ?_
  refine x_bipush (v := (nI 22)) d_N_life_9 (by decide) ?_
  refine x_icmp_ne (tgt := 48) d_N_life_11 rfl (fun w_ => absurd (by decide) w_) (fun q11 => ?_)
  refine x_aload_n d_N_life_14 rfl rfl ?_
  refine n_get (v := (nI (oCt σ))) d_N_life_15 lf_N_131 nl rfl y.1.2.2.1 ?_
  refine x_bipush (v := (nI 12)) d_N_life_18 (by decide) ?_
  refine x_icmp_lt (tgt := 25) d_N_life_20 rfl (fun q20 => ?_) (fun w_ => absurd (nI_lt (b := 12) hc (by decide)) w_)
  refine x_aload_n d_N_life_25 rfl rfl ?_
  refine x_iload d_N_life_26 rfl ?_
  refine x_iconst (v := (nI 2)) d_N_life_28 (by decide) ?_
  refine x_aload_n d_N_life_29 rfl rfl ?_
  refine x_iload d_N_life_30 rfl ?_
  refine x_bipush (v := (nI 21)) d_N_life_32 (by decide) ?_
  refine x_iload_n d_N_life_34 rfl rfl ?_
  refine x_imul (v := (nI (21 * p))) d_N_life_35 (pk_mul _ _) ?_
  refine x_iload d_N_life_36 rfl ?_
  refine x_iadd (v := (nI (21 * p + c))) d_N_life_38 (nI_add _ _) ?_
  refine x_invv d_N_life_39 lm_N_152 (as := [.int (nI b), .int (nI (21 * p + c))]) (S := [.int (nI 2), .int (nI (21 * p + a)), .ref r]) (cz' := 0) (cs' := 0) (c_N_start nl y v hc hb (by omega) (Or.inl (by omega)) sc ((v.2.2 p hp).1 c)) nl.o rfl rfl rfl (Nat.le_of_ble_eq_true rfl) (by omega) (by decide) (by decide) ?_
  rintro _ _ ⟨rfl, A2, rfl, y2⟩
  have v2 := v.start hc (show b ≤ 48 by omega) ((v.2.2 p hp).1 c)
  have hp2 : p < oCt (startM σ b (pRg (oPr σ p) c)) := by show p < oCt σ + 1; omega
  have yp2 := y2.2.2.2 p hp2
  refine x_invv d_N_life_42 lm_N_115 (as := [.int (nI (21 * p + a)), .int (nI 2), .int (nI (oCt σ))]) (S := []) (cz' := 0) (cs' := 0) (c_N_put nl (by omega) _ _) nl.o rfl rfl rfl (Nat.le_of_ble_eq_true rfl) (by omega) (by decide) (by decide) ?_
  rintro _ _ ⟨rfl, rfl⟩
  have e1 : Tb (21 * p + a) A2 (putA A2 (21 * p + a) (nI 2) (nI (oCt σ))) := Tb.put
  have q1 : SL (putA A2 (21 * p + a) (nI 2) (nI (oCt σ))) (21 * p + a) (tF (.leaf (2, nI (oCt σ)))) := SL.put
  generalize (putA A2 (21 * p + a) (nI 2) (nI (oCt σ))) = A1 at e1 q1 ⊢
  refine x_goto (tgt := 241) d_N_life_45 rfl ?_
  refine x_iconst (v := (nI 1)) d_N_life_241 (by decide) ?_
  exact x_iret d_N_life_242 rfl rfl ⟨rfl, A1, rfl, u, y2.setP v2.L ((Chp.rf p A2).tb (k := a) (by omega) e1) (yp2.s_rg (v2.2.2 p hp2).L ha e1 q1), HdX.spawn hp⟩
theorem n_lf22n {E : th_E} {h : th_H} {r : Nat} {A : Nat → Nat → Int32} (nl : NL r h) {N u : Nat} {σ : Ho} (y : NR A σ u) (v : vPs N σ) {p : Nat} (hp : p < oCt σ) {a : Nat} (ha : a < 8) (b c : Int32) (hc : 12 ≤ oCt σ) : Xc E m_N_life 5 0 0 [.ref r, .int (nI p), .int (nI 22), .int (nI a), .int b, .int c] (ov r h A) (Pn r h σ u p none) := by
  refine Xc.of (by decide) (by simp [Value.category]) (Nat.le_of_ble_eq_true rfl) ?_
  show Xw E m_N_life 5 0 0 0 [some (.ref r), some (.int (nI p)), some (.int (nI 22)), some (.int (nI a)), some (.int b), some (.int c), none, none] [] (ov r h A) _
  have yp := y.2.2.2 p hp
  have hp12 := Nat.lt_of_lt_of_le hp v.1
  have vp := (v.2.2 p hp).L
  have hct := v.1
  refine x_bipush (v := (nI 21)) d_N_life_0 (by decide) ?_
  refine x_iload_n d_N_life_2 rfl rfl ?_
  refine x_imul (v := (nI (21 * p))) d_N_life_3 (pk_mul _ _) ?_
  refine x_iload_n d_N_life_4 rfl rfl ?_
  refine x_iadd (v := (nI (21 * p + a))) d_N_life_5 (nI_add _ _) ?_
  refine x_istore d_N_life_6 (by decide) (L' := [some (.ref r), some (.int (nI p)), some (.int (nI 22)), some (.int (nI a)), some (.int b), some (.int c), some (.int (nI (21 * p + a))), none]) rfl ?_
  refine x_iload_n d_N_life_8 rfl rfl ?_
  refine x_bipush (v := (nI 22)) d_N_life_9 (by decide) ?_
  refine x_icmp_ne (tgt := 48) d_N_life_11 rfl (fun w_ => absurd (by decide) w_) (fun q11 => ?_)
  refine x_aload_n d_N_life_14 rfl rfl ?_
  refine n_get (v := (nI (oCt σ))) d_N_life_15 lf_N_131 nl rfl y.1.2.2.1 ?_
  refine x_bipush (v := (nI 12)) d_N_life_18 (by decide) ?_
  refine x_icmp_lt (tgt := 25) d_N_life_20 rfl (fun w_ => absurd w_ (nI_nlt (b := 12) hc (by omega))) (fun q20 => ?_)
  refine x_iconst (v := (nI 0)) d_N_life_23 (by decide) ?_
  exact x_iret d_N_life_24 rfl rfl ⟨rfl, A, rfl, y⟩
theorem n_lf24t {E : th_E} {h : th_H} {r : Nat} {A : Nat → Nat → Int32} (nl : NL r h) {N u : Nat} {σ : Ho} (y : NR A σ u) (v : vPs N σ) {p : Nat} (hp : p < oCt σ) (a0 b c : Int32) (h1 : a0 = 1) : Xc E m_N_life 5 0 0 [.ref r, .int (nI p), .int (nI 24), .int a0, .int b, .int c] (ov r h A) (Pn r h σ u p (some (sPr σ p (sTr (oPr σ p) true)))) := by
  refine Xc.of (by decide) (by simp [Value.category]) (Nat.le_of_ble_eq_true rfl) ?_
  show Xw E m_N_life 5 0 0 0 [some (.ref r), some (.int (nI p)), some (.int (nI 24)), some (.int a0), some (.int b), some (.int c), none, none] [] (ov r h A) _
  have yp := y.2.2.2 p hp
  have hp12 := Nat.lt_of_lt_of_le hp v.1
  have vp := (v.2.2 p hp).L
  have hct := v.1
  refine x_bipush (v := (nI 21)) d_N_life_0 (by decide) ?_
  refine x_iload_n d_N_life_2 rfl rfl ?_
  refine x_imul (v := (nI (21 * p))) d_N_life_3 (pk_mul _ _) ?_
  refine x_iload_n d_N_life_4 rfl rfl ?_
  refine x_iadd (v := ((nI (21 * p)) + a0)) d_N_life_5 rfl ?_
  refine x_istore d_N_life_6 (by decide) (L' := [some (.ref r), some (.int (nI p)), some (.int (nI 24)), some (.int a0), some (.int b), some (.int c), some (.int ((nI (21 * p)) + a0)), none]) rfl ?_
  refine x_iload_n d_N_life_8 rfl rfl ?_
  refine x_bipush (v := (nI 22)) d_N_life_9 (by decide) ?_
  refine x_icmp_ne (tgt := 48) d_N_life_11 rfl (fun q11 => ?_) (fun w_ => absurd w_ (by decide))
  refine x_iload_n d_N_life_48 rfl rfl ?_
  refine x_bipush (v := (nI 24)) d_N_life_49 (by decide) ?_
  refine x_icmp_ne (tgt := 73) d_N_life_51 rfl (fun w_ => absurd (by decide) w_) (fun q51 => ?_)
  refine x_aload_n d_N_life_54 rfl rfl ?_
  refine n_fld (j := 13) d_N_life_55 lf_N_46 nl (by decide) rfl rfl ?_
  refine x_iload_n d_N_life_58 rfl rfl ?_
  refine x_iload_n d_N_life_59 rfl rfl ?_
  refine x_iconst (v := (nI 1)) d_N_life_60 (by decide) ?_
  refine x_icmp_ne (tgt := 68) d_N_life_61 rfl (fun w_ => absurd h1 w_) (fun q61 => ?_)
  refine x_iconst (v := (nI 1)) d_N_life_64 (by decide) ?_
  refine x_goto (tgt := 69) d_N_life_65 rfl ?_
  refine n_zst (i := p) (v := (nI 1)) d_N_life_69 nl (by omega) (Or.inr rfl) ?_
  refine x_goto (tgt := 241) d_N_life_70 rfl ?_
  refine x_iconst (v := (nI 1)) d_N_life_241 (by decide) ?_
  exact x_iret d_N_life_242 rfl rfl ⟨rfl, _, rfl, u, y.setP v.L ((Chp.rf p A).up (Or.inl (Or.inr (Or.inr ⟨rfl, by decide⟩)))) (yp.s_tr true), HdX.setP rfl⟩
theorem n_lf24f {E : th_E} {h : th_H} {r : Nat} {A : Nat → Nat → Int32} (nl : NL r h) {N u : Nat} {σ : Ho} (y : NR A σ u) (v : vPs N σ) {p : Nat} (hp : p < oCt σ) (a0 b c : Int32) (h1 : ¬ a0 = 1) : Xc E m_N_life 5 0 0 [.ref r, .int (nI p), .int (nI 24), .int a0, .int b, .int c] (ov r h A) (Pn r h σ u p (some (sPr σ p (sTr (oPr σ p) false)))) := by
  refine Xc.of (by decide) (by simp [Value.category]) (Nat.le_of_ble_eq_true rfl) ?_
  show Xw E m_N_life 5 0 0 0 [some (.ref r), some (.int (nI p)), some (.int (nI 24)), some (.int a0), some (.int b), some (.int c), none, none] [] (ov r h A) _
  have yp := y.2.2.2 p hp
  have hp12 := Nat.lt_of_lt_of_le hp v.1
  have vp := (v.2.2 p hp).L
  have hct := v.1
  refine x_bipush (v := (nI 21)) d_N_life_0 (by decide) ?_
  refine x_iload_n d_N_life_2 rfl rfl ?_
  refine x_imul (v := (nI (21 * p))) d_N_life_3 (pk_mul _ _) ?_
  refine x_iload_n d_N_life_4 rfl rfl ?_
  refine x_iadd (v := ((nI (21 * p)) + a0)) d_N_life_5 rfl ?_
  refine x_istore d_N_life_6 (by decide) (L' := [some (.ref r), some (.int (nI p)), some (.int (nI 24)), some (.int a0), some (.int b), some (.int c), some (.int ((nI (21 * p)) + a0)), none]) rfl ?_
  refine x_iload_n d_N_life_8 rfl rfl ?_
  refine x_bipush (v := (nI 22)) d_N_life_9 (by decide) ?_
  refine x_icmp_ne (tgt := 48) d_N_life_11 rfl (fun q11 => ?_) (fun w_ => absurd w_ (by decide))
  refine x_iload_n d_N_life_48 rfl rfl ?_
  refine x_bipush (v := (nI 24)) d_N_life_49 (by decide) ?_
  refine x_icmp_ne (tgt := 73) d_N_life_51 rfl (fun w_ => absurd (by decide) w_) (fun q51 => ?_)
  refine x_aload_n d_N_life_54 rfl rfl ?_
  refine n_fld (j := 13) d_N_life_55 lf_N_46 nl (by decide) rfl rfl ?_
  refine x_iload_n d_N_life_58 rfl rfl ?_
  refine x_iload_n d_N_life_59 rfl rfl ?_
  refine x_iconst (v := (nI 1)) d_N_life_60 (by decide) ?_
  refine x_icmp_ne (tgt := 68) d_N_life_61 rfl (fun q61 => ?_) (fun w_ => absurd w_ h1)
  refine x_iconst (v := (nI 0)) d_N_life_68 (by decide) ?_
  refine n_zst (i := p) (v := (nI 0)) d_N_life_69 nl (by omega) (Or.inl rfl) ?_
  refine x_goto (tgt := 241) d_N_life_70 rfl ?_
  refine x_iconst (v := (nI 1)) d_N_life_241 (by decide) ?_
  exact x_iret d_N_life_242 rfl rfl ⟨rfl, _, rfl, u, y.setP v.L ((Chp.rf p A).up (Or.inl (Or.inr (Or.inr ⟨rfl, by decide⟩)))) (yp.s_tr false), HdX.setP rfl⟩
theorem n_lf25 {E : th_E} {h : th_H} {r : Nat} {A : Nat → Nat → Int32} (nl : NL r h) {N u : Nat} {σ : Ho} (y : NR A σ u) (v : vPs N σ) {p : Nat} (hp : p < oCt σ) {a : Nat} (ha : a < 8) (b c : Int32) (h3 : ¬ pSt (oPr σ p) = 3) : Xc E m_N_life 5 0 0 [.ref r, .int (nI p), .int (nI 25), .int (nI a), .int b, .int c] (ov r h A) (Pn r h σ u p (some (endM σ p (pRg (oPr σ p) a)))) := by
  refine Xc.of (by decide) (by simp [Value.category]) (Nat.le_of_ble_eq_true rfl) ?_
  show Xw E m_N_life 5 0 0 0 [some (.ref r), some (.int (nI p)), some (.int (nI 25)), some (.int (nI a)), some (.int b), some (.int c), none, none] [] (ov r h A) _
  have yp := y.2.2.2 p hp
  have hp12 := Nat.lt_of_lt_of_le hp v.1
  have vp := (v.2.2 p hp).L
  have hct := v.1
  have sa := yp.rg a ha
  refine x_bipush (v := (nI 21)) d_N_life_0 (by decide) ?_
  refine x_iload_n d_N_life_2 rfl rfl ?_
  refine x_imul (v := (nI (21 * p))) d_N_life_3 (pk_mul _ _) ?_
  refine x_iload_n d_N_life_4 rfl rfl ?_
  refine x_iadd (v := (nI (21 * p + a))) d_N_life_5 (nI_add _ _) ?_
  refine x_istore d_N_life_6 (by decide) (L' := [some (.ref r), some (.int (nI p)), some (.int (nI 25)), some (.int (nI a)), some (.int b), some (.int c), some (.int (nI (21 * p + a))), none]) rfl ?_
  refine x_iload_n d_N_life_8 rfl rfl ?_
  refine x_bipush (v := (nI 22)) d_N_life_9 (by decide) ?_
  refine x_icmp_ne (tgt := 48) d_N_life_11 rfl (fun q11 => ?_) (fun w_ => absurd w_ (by decide))
  refine x_iload_n d_N_life_48 rfl rfl ?_
  refine x_bipush (v := (nI 24)) d_N_life_49 (by decide) ?_
  refine x_icmp_ne (tgt := 73) d_N_life_51 rfl (fun q51 => ?_) (fun w_ => absurd w_ (by decide))
  refine x_iload_n d_N_life_73 rfl rfl ?_
  refine x_bipush (v := (nI 25)) d_N_life_74 (by decide) ?_
  refine x_icmp_ne (tgt := 99) d_N_life_76 rfl (fun w_ => absurd (by decide) w_) (fun q76 => ?_)
  refine x_aload_n d_N_life_79 rfl rfl ?_
  refine x_iload d_N_life_80 rfl ?_
  refine x_sipush (v := (nI 252)) d_N_life_82 (by decide) ?_
  refine x_invv d_N_life_85 lm_N_107 (as := [.int (nI (21 * p + a)), .int (nI 252)]) (S := []) (cz' := 0) (cs' := 0) (c_N_copy nl (by omega) (by decide) sa.1 (vp.1 a)) nl.o rfl rfl rfl (Nat.le_of_ble_eq_true rfl) (by omega) (by decide) (by decide) ?_
  rintro _ _ ⟨rfl, rfl⟩
  have hla := vp.1 a
  have e1 : Tb 252 A (cpA A (21 * p + a) 252 (2 * (tF (pRg (oPr σ p) a)).length + 1)) := Tb.cp (by omega)
  have q1 : SL (cpA A (21 * p + a) 252 (2 * (tF (pRg (oPr σ p) a)).length + 1)) 252 (tF (pRg (oPr σ p) a)) := sa.cp rfl
  generalize (cpA A (21 * p + a) 252 (2 * (tF (pRg (oPr σ p) a)).length + 1)) = A1 at e1 q1 ⊢
  refine x_aload_n d_N_life_88 rfl rfl ?_
  refine x_iload_n d_N_life_89 rfl rfl ?_
  refine x_sipush (v := (nI 252)) d_N_life_90 (by decide) ?_
  refine x_invv d_N_life_93 lm_N_137 (as := [.int (nI p), .int (nI 252)]) (S := []) (cz' := 0) (cs' := 0) (c_N_end nl (y.tw v.L (by decide) e1) v hp (by decide) q1 ((v.2.2 p hp).1 a) h3) nl.o rfl rfl rfl (Nat.le_of_ble_eq_true rfl) (by omega) (by decide) (by decide) ?_
  rintro _ _ ⟨rfl, A2, rfl, u2, y2, k2⟩
  refine x_goto (tgt := 241) d_N_life_96 rfl ?_
  refine x_iconst (v := (nI 1)) d_N_life_241 (by decide) ?_
  exact x_iret d_N_life_242 rfl rfl ⟨rfl, A2, rfl, u2, y2, k2.x⟩
theorem n_lf23n {E : th_E} {h : th_H} {r : Nat} {A : Nat → Nat → Int32} (nl : NL r h) {N u : Nat} {σ : Ho} (y : NR A σ u) (v : vPs N σ) {p : Nat} (hp : p < oCt σ) {a : Nat} (ha : a < 8) (b c : Int32) (hq : pidM σ (pRg (oPr σ p) a) = none) : Xc E m_N_life 5 0 0 [.ref r, .int (nI p), .int (nI 23), .int (nI a), .int b, .int c] (ov r h A) (Pn r h σ u p none) := by
  refine Xc.of (by decide) (by simp [Value.category]) (Nat.le_of_ble_eq_true rfl) ?_
  show Xw E m_N_life 5 0 0 0 [some (.ref r), some (.int (nI p)), some (.int (nI 23)), some (.int (nI a)), some (.int b), some (.int c), none, none] [] (ov r h A) _
  have yp := y.2.2.2 p hp
  have hp12 := Nat.lt_of_lt_of_le hp v.1
  have vp := (v.2.2 p hp).L
  have hct := v.1
  have sa := yp.rg a ha
  have en : nmV σ (pRg (oPr σ p) a) = -1 := by unfold nmV; rw [hq]
  refine x_bipush (v := (nI 21)) d_N_life_0 (by decide) ?_
  refine x_iload_n d_N_life_2 rfl rfl ?_
  refine x_imul (v := (nI (21 * p))) d_N_life_3 (pk_mul _ _) ?_
  refine x_iload_n d_N_life_4 rfl rfl ?_
  refine x_iadd (v := (nI (21 * p + a))) d_N_life_5 (nI_add _ _) ?_
  refine x_istore d_N_life_6 (by decide) (L' := [some (.ref r), some (.int (nI p)), some (.int (nI 23)), some (.int (nI a)), some (.int b), some (.int c), some (.int (nI (21 * p + a))), none]) rfl ?_
  refine x_iload_n d_N_life_8 rfl rfl ?_
  refine x_bipush (v := (nI 22)) d_N_life_9 (by decide) ?_
  refine x_icmp_ne (tgt := 48) d_N_life_11 rfl (fun q11 => ?_) (fun w_ => absurd w_ (by decide))
  refine x_iload_n d_N_life_48 rfl rfl ?_
  refine x_bipush (v := (nI 24)) d_N_life_49 (by decide) ?_
  refine x_icmp_ne (tgt := 73) d_N_life_51 rfl (fun q51 => ?_) (fun w_ => absurd w_ (by decide))
  refine x_iload_n d_N_life_73 rfl rfl ?_
  refine x_bipush (v := (nI 25)) d_N_life_74 (by decide) ?_
  refine x_icmp_ne (tgt := 99) d_N_life_76 rfl (fun q76 => ?_) (fun w_ => absurd w_ (by decide))
  refine x_aload_n d_N_life_99 rfl rfl ?_
  refine x_iload d_N_life_100 rfl ?_
  refine x_invv d_N_life_102 lm_N_149 (as := [.int (nI (21 * p + a))]) (S := []) (cz' := 0) (cs' := 0) (c_N_named nl y v (by omega) sa) nl.o rfl rfl rfl (Nat.le_of_ble_eq_true rfl) (by omega) (by decide) (by decide) ?_
  rintro _ _ ⟨rfl, rfl⟩
  rw [en]
  refine x_istore d_N_life_105 (by decide) (L' := [some (.ref r), some (.int (nI p)), some (.int (nI 23)), some (.int (nI a)), some (.int b), some (.int c), some (.int (nI (21 * p + a))), some (.int (-1))]) rfl ?_
  refine x_iload d_N_life_107 rfl ?_
  refine x_if_ge (tgt := 114) d_N_life_109 rfl (fun w_ => absurd w_ (by decide)) (fun q109 => ?_)
  refine x_iconst (v := (nI 0)) d_N_life_112 (by decide) ?_
  exact x_iret d_N_life_113 rfl rfl ⟨rfl, A, rfl, y⟩
theorem n_lf26n {E : th_E} {h : th_H} {r : Nat} {A : Nat → Nat → Int32} (nl : NL r h) {N u : Nat} {σ : Ho} (y : NR A σ u) (v : vPs N σ) {p : Nat} (hp : p < oCt σ) {a : Nat} (ha : a < 8) (b c : Int32) (hq : pidM σ (pRg (oPr σ p) a) = none) : Xc E m_N_life 5 0 0 [.ref r, .int (nI p), .int (nI 26), .int (nI a), .int b, .int c] (ov r h A) (Pn r h σ u p none) := by
  refine Xc.of (by decide) (by simp [Value.category]) (Nat.le_of_ble_eq_true rfl) ?_
  show Xw E m_N_life 5 0 0 0 [some (.ref r), some (.int (nI p)), some (.int (nI 26)), some (.int (nI a)), some (.int b), some (.int c), none, none] [] (ov r h A) _
  have yp := y.2.2.2 p hp
  have hp12 := Nat.lt_of_lt_of_le hp v.1
  have vp := (v.2.2 p hp).L
  have hct := v.1
  have sa := yp.rg a ha
  have en : nmV σ (pRg (oPr σ p) a) = -1 := by unfold nmV; rw [hq]
  refine x_bipush (v := (nI 21)) d_N_life_0 (by decide) ?_
  refine x_iload_n d_N_life_2 rfl rfl ?_
  refine x_imul (v := (nI (21 * p))) d_N_life_3 (pk_mul _ _) ?_
  refine x_iload_n d_N_life_4 rfl rfl ?_
  refine x_iadd (v := (nI (21 * p + a))) d_N_life_5 (nI_add _ _) ?_
  refine x_istore d_N_life_6 (by decide) (L' := [some (.ref r), some (.int (nI p)), some (.int (nI 26)), some (.int (nI a)), some (.int b), some (.int c), some (.int (nI (21 * p + a))), none]) rfl ?_
  refine x_iload_n d_N_life_8 rfl rfl ?_
  refine x_bipush (v := (nI 22)) d_N_life_9 (by decide) ?_
  refine x_icmp_ne (tgt := 48) d_N_life_11 rfl (fun q11 => ?_) (fun w_ => absurd w_ (by decide))
  refine x_iload_n d_N_life_48 rfl rfl ?_
  refine x_bipush (v := (nI 24)) d_N_life_49 (by decide) ?_
  refine x_icmp_ne (tgt := 73) d_N_life_51 rfl (fun q51 => ?_) (fun w_ => absurd w_ (by decide))
  refine x_iload_n d_N_life_73 rfl rfl ?_
  refine x_bipush (v := (nI 25)) d_N_life_74 (by decide) ?_
  refine x_icmp_ne (tgt := 99) d_N_life_76 rfl (fun q76 => ?_) (fun w_ => absurd w_ (by decide))
  refine x_aload_n d_N_life_99 rfl rfl ?_
  refine x_iload d_N_life_100 rfl ?_
  refine x_invv d_N_life_102 lm_N_149 (as := [.int (nI (21 * p + a))]) (S := []) (cz' := 0) (cs' := 0) (c_N_named nl y v (by omega) sa) nl.o rfl rfl rfl (Nat.le_of_ble_eq_true rfl) (by omega) (by decide) (by decide) ?_
  rintro _ _ ⟨rfl, rfl⟩
  rw [en]
  refine x_istore d_N_life_105 (by decide) (L' := [some (.ref r), some (.int (nI p)), some (.int (nI 26)), some (.int (nI a)), some (.int b), some (.int c), some (.int (nI (21 * p + a))), some (.int (-1))]) rfl ?_
  refine x_iload d_N_life_107 rfl ?_
  refine x_if_ge (tgt := 114) d_N_life_109 rfl (fun w_ => absurd w_ (by decide)) (fun q109 => ?_)
  refine x_iconst (v := (nI 0)) d_N_life_112 (by decide) ?_
  exact x_iret d_N_life_113 rfl rfl ⟨rfl, A, rfl, y⟩
theorem n_lf26y {E : th_E} {h : th_H} {r : Nat} {A : Nat → Nat → Int32} (nl : NL r h) {N u : Nat} {σ : Ho} (y : NR A σ u) (v : vPs N σ) {p : Nat} (hp : p < oCt σ) {a q : Nat} (ha : a < 8) (b c : Int32) (hq : pidM σ (pRg (oPr σ p) a) = some q) : Xc E m_N_life 5 0 0 [.ref r, .int (nI p), .int (nI 26), .int (nI a), .int b, .int c] (ov r h A) (Pn r h σ u p (some (sigM FU σ p q aKilled))) := by
  refine Xc.of (by decide) (by simp [Value.category]) (Nat.le_of_ble_eq_true rfl) ?_
  show Xw E m_N_life 5 0 0 0 [some (.ref r), some (.int (nI p)), some (.int (nI 26)), some (.int (nI a)), some (.int b), some (.int c), none, none] [] (ov r h A) _
  have yp := y.2.2.2 p hp
  have hp12 := Nat.lt_of_lt_of_le hp v.1
  have vp := (v.2.2 p hp).L
  have hct := v.1
  have sa := yp.rg a ha
  have en : nmV σ (pRg (oPr σ p) a) = nI q := by unfold nmV; rw [hq]
  have hqc := (pidM_some v.1 hq).2.1
  refine x_bipush (v := (nI 21)) d_N_life_0 (by decide) ?_
  refine x_iload_n d_N_life_2 rfl rfl ?_
  refine x_imul (v := (nI (21 * p))) d_N_life_3 (pk_mul _ _) ?_
  refine x_iload_n d_N_life_4 rfl rfl ?_
  refine x_iadd (v := (nI (21 * p + a))) d_N_life_5 (nI_add _ _) ?_
  refine x_istore d_N_life_6 (by decide) (L' := [some (.ref r), some (.int (nI p)), some (.int (nI 26)), some (.int (nI a)), some (.int b), some (.int c), some (.int (nI (21 * p + a))), none]) rfl ?_
  refine x_iload_n d_N_life_8 rfl rfl ?_
  refine x_bipush (v := (nI 22)) d_N_life_9 (by decide) ?_
  refine x_icmp_ne (tgt := 48) d_N_life_11 rfl (fun q11 => ?_) (fun w_ => absurd w_ (by decide))
  refine x_iload_n d_N_life_48 rfl rfl ?_
  refine x_bipush (v := (nI 24)) d_N_life_49 (by decide) ?_
  refine x_icmp_ne (tgt := 73) d_N_life_51 rfl (fun q51 => ?_) (fun w_ => absurd w_ (by decide))
  refine x_iload_n d_N_life_73 rfl rfl ?_
  refine x_bipush (v := (nI 25)) d_N_life_74 (by decide) ?_
  refine x_icmp_ne (tgt := 99) d_N_life_76 rfl (fun q76 => ?_) (fun w_ => absurd w_ (by decide))
  refine x_aload_n d_N_life_99 rfl rfl ?_
  refine x_iload d_N_life_100 rfl ?_
  refine x_invv d_N_life_102 lm_N_149 (as := [.int (nI (21 * p + a))]) (S := []) (cz' := 0) (cs' := 0) (c_N_named nl y v (by omega) sa) nl.o rfl rfl rfl (Nat.le_of_ble_eq_true rfl) (by omega) (by decide) (by decide) ?_
  rintro _ _ ⟨rfl, rfl⟩
  rw [en]
  refine x_istore d_N_life_105 (by decide) (L' := [some (.ref r), some (.int (nI p)), some (.int (nI 26)), some (.int (nI a)), some (.int b), some (.int c), some (.int (nI (21 * p + a))), some (.int (nI q))]) rfl ?_
  refine x_iload d_N_life_107 rfl ?_
  refine x_if_ge (tgt := 114) d_N_life_109 rfl (fun q109 => ?_) (fun w_ => absurd (nI_pos' (by omega)) w_)
  refine x_iload_n d_N_life_114 rfl rfl ?_
  refine x_bipush (v := (nI 26)) d_N_life_115 (by decide) ?_
  refine x_icmp_ne (tgt := 155) d_N_life_117 rfl (fun w_ => absurd (by decide) w_) (fun q117 => ?_)
  refine x_aload_n d_N_life_120 rfl rfl ?_
  refine x_sipush (v := (nI 252)) d_N_life_121 (by decide) ?_
  refine x_iconst (v := (nI 1)) d_N_life_124 (by decide) ?_
  refine x_bipush (v := (nI 12)) d_N_life_125 (by decide) ?_
  refine x_invv d_N_life_127 lm_N_115 (as := [.int (nI 252), .int (nI 1), .int (nI 12)]) (S := []) (cz' := 0) (cs' := 0) (c_N_put nl (by decide) _ _) nl.o rfl rfl rfl (Nat.le_of_ble_eq_true rfl) (by omega) (by decide) (by decide) ?_
  rintro _ _ ⟨rfl, rfl⟩
  have e1 : Tb 252 A (putA A 252 (nI 1) (nI 12)) := Tb.put
  have q1 : SL (putA A 252 (nI 1) (nI 12)) 252 (tF aKilled) := SL.put
  generalize (putA A 252 (nI 1) (nI 12)) = A1 at e1 q1 ⊢
  have y1 := y.tw v.L (by decide) e1
  refine x_aload_n d_N_life_130 rfl rfl ?_
  refine x_iload d_N_life_131 rfl ?_
  refine x_iload_n d_N_life_133 rfl rfl ?_
  refine x_sipush (v := (nI 252)) d_N_life_134 (by decide) ?_
  refine x_invv d_N_life_137 lm_N_134 (as := [.int (nI q), .int (nI p), .int (nI 252)]) (S := []) (cz' := 0) (cs' := 0) (c_N_signal (p := p) (q := q) nl y1 v (by omega) hqc (by decide) q1 (vAtom _)) nl.o rfl rfl rfl (Nat.le_of_ble_eq_true rfl) (by omega) (by decide) (by decide) ?_
  rintro _ _ (⟨hb, rfl, rfl⟩ | ⟨hb, rfl, A2, rfl, y2, t2⟩)
  · have ee := (sigM_eq σ p q aKilled).1 hb
    refine x_if_eq (tgt := 241) d_N_life_140 rfl (fun w_ => absurd w_ (by decide)) (fun q140 => ?_)
    refine x_aload_n d_N_life_143 rfl rfl ?_
    refine x_iload d_N_life_144 rfl ?_
    refine x_sipush (v := (nI 252)) d_N_life_146 (by decide) ?_
    refine x_invv d_N_life_149 lm_N_137 (as := [.int (nI q), .int (nI 252)]) (S := []) (cz' := 0) (cs' := 0) (c_N_end nl y1 v hqc (by decide) q1 (vAtom _) hb.1) nl.o rfl rfl rfl (Nat.le_of_ble_eq_true rfl) (by omega) (by decide) (by decide) ?_
    rintro _ _ ⟨rfl, A2, rfl, u2, y2, k2⟩
    refine x_goto (tgt := 241) d_N_life_152 rfl ?_
    refine x_iconst (v := (nI 1)) d_N_life_241 (by decide) ?_
    exact x_iret d_N_life_242 rfl rfl ⟨rfl, A2, rfl, u2, by rw [ee]; exact y2, by rw [ee]; exact k2.x⟩
  · have ee := (sigM_eq σ p q aKilled).2 hb
    refine x_if_eq (tgt := 241) d_N_life_140 rfl (fun q140 => ?_) (fun w_ => absurd rfl w_)
    refine x_iconst (v := (nI 1)) d_N_life_241 (by decide) ?_
    exact x_iret d_N_life_242 rfl rfl ⟨rfl, A2, rfl, u, by rw [ee]; exact y2, by rw [ee]; exact (HdK.sg _ _ _ _ _).x⟩
theorem n_lf23e {E : th_E} {h : th_H} {r : Nat} {A : Nat → Nat → Int32} (nl : NL r h) {N u : Nat} {σ : Ho} (y : NR A σ u) (v : vPs N σ) {p : Nat} (hp : p < oCt σ) {a q : Nat} (ha : a < 8) (b c : Int32) (hq : pidM σ (pRg (oPr σ p) a) = some q) (h3 : pSt (oPr σ q) = 3) : Xc E m_N_life 5 0 0 [.ref r, .int (nI p), .int (nI 23), .int (nI a), .int b, .int c] (ov r h A) (Pn r h σ u p (some (sigM FU σ q p aFault))) := by
  refine Xc.of (by decide) (by simp [Value.category]) (Nat.le_of_ble_eq_true rfl) ?_
  show Xw E m_N_life 5 0 0 0 [some (.ref r), some (.int (nI p)), some (.int (nI 23)), some (.int (nI a)), some (.int b), some (.int c), none, none] [] (ov r h A) _
  have yp := y.2.2.2 p hp
  have hp12 := Nat.lt_of_lt_of_le hp v.1
  have vp := (v.2.2 p hp).L
  have hct := v.1
  have sa := yp.rg a ha
  have en : nmV σ (pRg (oPr σ p) a) = nI q := by unfold nmV; rw [hq]
  have hqc := (pidM_some v.1 hq).2.1
  refine x_bipush (v := (nI 21)) d_N_life_0 (by decide) ?_
  refine x_iload_n d_N_life_2 rfl rfl ?_
  refine x_imul (v := (nI (21 * p))) d_N_life_3 (pk_mul _ _) ?_
  refine x_iload_n d_N_life_4 rfl rfl ?_
  refine x_iadd (v := (nI (21 * p + a))) d_N_life_5 (nI_add _ _) ?_
  refine x_istore d_N_life_6 (by decide) (L' := [some (.ref r), some (.int (nI p)), some (.int (nI 23)), some (.int (nI a)), some (.int b), some (.int c), some (.int (nI (21 * p + a))), none]) rfl ?_
  refine x_iload_n d_N_life_8 rfl rfl ?_
  refine x_bipush (v := (nI 22)) d_N_life_9 (by decide) ?_
  refine x_icmp_ne (tgt := 48) d_N_life_11 rfl (fun q11 => ?_) (fun w_ => absurd w_ (by decide))
  refine x_iload_n d_N_life_48 rfl rfl ?_
  refine x_bipush (v := (nI 24)) d_N_life_49 (by decide) ?_
  refine x_icmp_ne (tgt := 73) d_N_life_51 rfl (fun q51 => ?_) (fun w_ => absurd w_ (by decide))
  refine x_iload_n d_N_life_73 rfl rfl ?_
  refine x_bipush (v := (nI 25)) d_N_life_74 (by decide) ?_
  refine x_icmp_ne (tgt := 99) d_N_life_76 rfl (fun q76 => ?_) (fun w_ => absurd w_ (by decide))
  refine x_aload_n d_N_life_99 rfl rfl ?_
  refine x_iload d_N_life_100 rfl ?_
  refine x_invv d_N_life_102 lm_N_149 (as := [.int (nI (21 * p + a))]) (S := []) (cz' := 0) (cs' := 0) (c_N_named nl y v (by omega) sa) nl.o rfl rfl rfl (Nat.le_of_ble_eq_true rfl) (by omega) (by decide) (by decide) ?_
  rintro _ _ ⟨rfl, rfl⟩
  rw [en]
  refine x_istore d_N_life_105 (by decide) (L' := [some (.ref r), some (.int (nI p)), some (.int (nI 23)), some (.int (nI a)), some (.int b), some (.int c), some (.int (nI (21 * p + a))), some (.int (nI q))]) rfl ?_
  refine x_iload d_N_life_107 rfl ?_
  refine x_if_ge (tgt := 114) d_N_life_109 rfl (fun q109 => ?_) (fun w_ => absurd (nI_pos' (by omega)) w_)
  refine x_iload_n d_N_life_114 rfl rfl ?_
  refine x_bipush (v := (nI 26)) d_N_life_115 (by decide) ?_
  refine x_icmp_ne (tgt := 155) d_N_life_117 rfl (fun q117 => ?_) (fun w_ => absurd w_ (by decide))
  refine x_aload_n d_N_life_155 rfl rfl ?_
  refine n_fld (j := 6) d_N_life_156 lf_N_25 nl (by decide) rfl rfl ?_
  refine x_iload d_N_life_159 rfl ?_
  refine n_ld (j := 6) (i := q) (n := 12) (v := (nI (pSt (oPr σ q)))) d_N_life_161 nl (by decide) (by decide) rfl rfl (by omega) (by decide) (y.2.2.2 q hqc).st ?_
  refine x_iconst (v := (nI 3)) d_N_life_162 (by decide) ?_
  refine x_icmp_ne (tgt := 200) d_N_life_163 rfl (fun w_ => absurd (by rw [h3]) w_) (fun q163 => ?_)
  refine x_aload_n d_N_life_166 rfl rfl ?_
  refine x_sipush (v := (nI 252)) d_N_life_167 (by decide) ?_
  refine x_iconst (v := (nI 1)) d_N_life_170 (by decide) ?_
  refine x_bipush (v := (nI 13)) d_N_life_171 (by decide) ?_
  refine x_invv d_N_life_173 lm_N_115 (as := [.int (nI 252), .int (nI 1), .int (nI 13)]) (S := []) (cz' := 0) (cs' := 0) (c_N_put nl (by decide) _ _) nl.o rfl rfl rfl (Nat.le_of_ble_eq_true rfl) (by omega) (by decide) (by decide) ?_
  rintro _ _ ⟨rfl, rfl⟩
  have e1 : Tb 252 A (putA A 252 (nI 1) (nI 13)) := Tb.put
  have q1 : SL (putA A 252 (nI 1) (nI 13)) 252 (tF aFault) := SL.put
  generalize (putA A 252 (nI 1) (nI 13)) = A1 at e1 q1 ⊢
  have y1 := y.tw v.L (by decide) e1
  refine x_aload_n d_N_life_176 rfl rfl ?_
  refine x_iload_n d_N_life_177 rfl rfl ?_
  refine x_iload d_N_life_178 rfl ?_
  refine x_sipush (v := (nI 252)) d_N_life_180 (by decide) ?_
  refine x_invv d_N_life_183 lm_N_134 (as := [.int (nI p), .int (nI q), .int (nI 252)]) (S := []) (cz' := 0) (cs' := 0) (c_N_signal (p := q) (q := p) nl y1 v (by omega) hp (by decide) q1 (vAtom _)) nl.o rfl rfl rfl (Nat.le_of_ble_eq_true rfl) (by omega) (by decide) (by decide) ?_
  rintro _ _ (⟨hb, rfl, rfl⟩ | ⟨hb, rfl, A2, rfl, y2, t2⟩)
  · have ee := (sigM_eq σ q p aFault).1 hb
    refine x_if_eq (tgt := 241) d_N_life_186 rfl (fun w_ => absurd w_ (by decide)) (fun q186 => ?_)
    refine x_aload_n d_N_life_189 rfl rfl ?_
    refine x_iload_n d_N_life_190 rfl rfl ?_
    refine x_sipush (v := (nI 252)) d_N_life_191 (by decide) ?_
    refine x_invv d_N_life_194 lm_N_137 (as := [.int (nI p), .int (nI 252)]) (S := []) (cz' := 0) (cs' := 0) (c_N_end nl y1 v hp (by decide) q1 (vAtom _) hb.1) nl.o rfl rfl rfl (Nat.le_of_ble_eq_true rfl) (by omega) (by decide) (by decide) ?_
    rintro _ _ ⟨rfl, A2, rfl, u2, y2, k2⟩
    refine x_goto (tgt := 241) d_N_life_197 rfl ?_
    refine x_iconst (v := (nI 1)) d_N_life_241 (by decide) ?_
    exact x_iret d_N_life_242 rfl rfl ⟨rfl, A2, rfl, u2, by rw [ee]; exact y2, by rw [ee]; exact k2.x⟩
  · have ee := (sigM_eq σ q p aFault).2 hb
    refine x_if_eq (tgt := 241) d_N_life_186 rfl (fun q186 => ?_) (fun w_ => absurd rfl w_)
    refine x_iconst (v := (nI 1)) d_N_life_241 (by decide) ?_
    exact x_iret d_N_life_242 rfl rfl ⟨rfl, A2, rfl, u, by rw [ee]; exact y2, by rw [ee]; exact (HdK.sg _ _ _ _ _).x⟩
theorem n_lf23s {E : th_E} {h : th_H} {r : Nat} {A : Nat → Nat → Int32} (nl : NL r h) {N u : Nat} {σ : Ho} (y : NR A σ u) (v : vPs N σ) {p : Nat} (hp : p < oCt σ) {a q : Nat} (ha : a < 8) (b c : Int32) (hq : pidM σ (pRg (oPr σ p) a) = some q) (h3 : ¬ pSt (oPr σ q) = 3) (h4 : q = p) : Xc E m_N_life 5 0 0 [.ref r, .int (nI p), .int (nI 23), .int (nI a), .int b, .int c] (ov r h A) (Pn r h σ u p (some σ)) := by
  refine Xc.of (by decide) (by simp [Value.category]) (Nat.le_of_ble_eq_true rfl) ?_
  show Xw E m_N_life 5 0 0 0 [some (.ref r), some (.int (nI p)), some (.int (nI 23)), some (.int (nI a)), some (.int b), some (.int c), none, none] [] (ov r h A) _
  have yp := y.2.2.2 p hp
  have hp12 := Nat.lt_of_lt_of_le hp v.1
  have vp := (v.2.2 p hp).L
  have hct := v.1
  have sa := yp.rg a ha
  have en : nmV σ (pRg (oPr σ p) a) = nI q := by unfold nmV; rw [hq]
  have hqc := (pidM_some v.1 hq).2.1
  have hst := (v.2.2 q hqc).2.2.2.2.2.1
  refine x_bipush (v := (nI 21)) d_N_life_0 (by decide) ?_
  refine x_iload_n d_N_life_2 rfl rfl ?_
  refine x_imul (v := (nI (21 * p))) d_N_life_3 (pk_mul _ _) ?_
  refine x_iload_n d_N_life_4 rfl rfl ?_
  refine x_iadd (v := (nI (21 * p + a))) d_N_life_5 (nI_add _ _) ?_
  refine x_istore d_N_life_6 (by decide) (L' := [some (.ref r), some (.int (nI p)), some (.int (nI 23)), some (.int (nI a)), some (.int b), some (.int c), some (.int (nI (21 * p + a))), none]) rfl ?_
  refine x_iload_n d_N_life_8 rfl rfl ?_
  refine x_bipush (v := (nI 22)) d_N_life_9 (by decide) ?_
  refine x_icmp_ne (tgt := 48) d_N_life_11 rfl (fun q11 => ?_) (fun w_ => absurd w_ (by decide))
  refine x_iload_n d_N_life_48 rfl rfl ?_
  refine x_bipush (v := (nI 24)) d_N_life_49 (by decide) ?_
  refine x_icmp_ne (tgt := 73) d_N_life_51 rfl (fun q51 => ?_) (fun w_ => absurd w_ (by decide))
  refine x_iload_n d_N_life_73 rfl rfl ?_
  refine x_bipush (v := (nI 25)) d_N_life_74 (by decide) ?_
  refine x_icmp_ne (tgt := 99) d_N_life_76 rfl (fun q76 => ?_) (fun w_ => absurd w_ (by decide))
  refine x_aload_n d_N_life_99 rfl rfl ?_
  refine x_iload d_N_life_100 rfl ?_
  refine x_invv d_N_life_102 lm_N_149 (as := [.int (nI (21 * p + a))]) (S := []) (cz' := 0) (cs' := 0) (c_N_named nl y v (by omega) sa) nl.o rfl rfl rfl (Nat.le_of_ble_eq_true rfl) (by omega) (by decide) (by decide) ?_
  rintro _ _ ⟨rfl, rfl⟩
  rw [en]
  refine x_istore d_N_life_105 (by decide) (L' := [some (.ref r), some (.int (nI p)), some (.int (nI 23)), some (.int (nI a)), some (.int b), some (.int c), some (.int (nI (21 * p + a))), some (.int (nI q))]) rfl ?_
  refine x_iload d_N_life_107 rfl ?_
  refine x_if_ge (tgt := 114) d_N_life_109 rfl (fun q109 => ?_) (fun w_ => absurd (nI_pos' (by omega)) w_)
  refine x_iload_n d_N_life_114 rfl rfl ?_
  refine x_bipush (v := (nI 26)) d_N_life_115 (by decide) ?_
  refine x_icmp_ne (tgt := 155) d_N_life_117 rfl (fun q117 => ?_) (fun w_ => absurd w_ (by decide))
  refine x_aload_n d_N_life_155 rfl rfl ?_
  refine n_fld (j := 6) d_N_life_156 lf_N_25 nl (by decide) rfl rfl ?_
  refine x_iload d_N_life_159 rfl ?_
  refine n_ld (j := 6) (i := q) (n := 12) (v := (nI (pSt (oPr σ q)))) d_N_life_161 nl (by decide) (by decide) rfl rfl (by omega) (by decide) (y.2.2.2 q hqc).st ?_
  refine x_iconst (v := (nI 3)) d_N_life_162 (by decide) ?_
  refine x_icmp_ne (tgt := 200) d_N_life_163 rfl (fun q163 => ?_) (fun w_ => absurd w_ (fun z => h3 ((nI_eq (b := 3) (by omega) (by decide)).mp z)))
  refine x_iload d_N_life_200 rfl ?_
  refine x_iload_n d_N_life_202 rfl rfl ?_
  refine x_icmp_eq (tgt := 241) d_N_life_203 rfl (fun q203 => ?_) (fun w_ => absurd (by rw [h4]) w_)
  refine x_iconst (v := (nI 1)) d_N_life_241 (by decide) ?_
  exact x_iret d_N_life_242 rfl rfl ⟨rfl, A, rfl, u, y, HdX.rf _ _ _⟩
theorem n_lf23t {E : th_E} {h : th_H} {r : Nat} {A : Nat → Nat → Int32} (nl : NL r h) {N u : Nat} {σ : Ho} (y : NR A σ u) (v : vPs N σ) {p : Nat} (hp : p < oCt σ) {a q : Nat} (ha : a < 8) (b c : Int32) (hq : pidM σ (pRg (oPr σ p) a) = some q) (h3 : ¬ pSt (oPr σ q) = 3) (h4 : ¬ q = p) : Xc E m_N_life 5 0 0 [.ref r, .int (nI p), .int (nI 23), .int (nI a), .int b, .int c] (ov r h A) (Pn r h σ u p (some (tieM σ p q))) := by
  refine Xc.of (by decide) (by simp [Value.category]) (Nat.le_of_ble_eq_true rfl) ?_
  show Xw E m_N_life 5 0 0 0 [some (.ref r), some (.int (nI p)), some (.int (nI 23)), some (.int (nI a)), some (.int b), some (.int c), none, none] [] (ov r h A) _
  have yp := y.2.2.2 p hp
  have hp12 := Nat.lt_of_lt_of_le hp v.1
  have vp := (v.2.2 p hp).L
  have hct := v.1
  have sa := yp.rg a ha
  have en : nmV σ (pRg (oPr σ p) a) = nI q := by unfold nmV; rw [hq]
  have hqc := (pidM_some v.1 hq).2.1
  have hst := (v.2.2 q hqc).2.2.2.2.2.1
  refine x_bipush (v := (nI 21)) d_N_life_0 (by decide) ?_
  refine x_iload_n d_N_life_2 rfl rfl ?_
  refine x_imul (v := (nI (21 * p))) d_N_life_3 (pk_mul _ _) ?_
  refine x_iload_n d_N_life_4 rfl rfl ?_
  refine x_iadd (v := (nI (21 * p + a))) d_N_life_5 (nI_add _ _) ?_
  refine x_istore d_N_life_6 (by decide) (L' := [some (.ref r), some (.int (nI p)), some (.int (nI 23)), some (.int (nI a)), some (.int b), some (.int c), some (.int (nI (21 * p + a))), none]) rfl ?_
  refine x_iload_n d_N_life_8 rfl rfl ?_
  refine x_bipush (v := (nI 22)) d_N_life_9 (by decide) ?_
  refine x_icmp_ne (tgt := 48) d_N_life_11 rfl (fun q11 => ?_) (fun w_ => absurd w_ (by decide))
  refine x_iload_n d_N_life_48 rfl rfl ?_
  refine x_bipush (v := (nI 24)) d_N_life_49 (by decide) ?_
  refine x_icmp_ne (tgt := 73) d_N_life_51 rfl (fun q51 => ?_) (fun w_ => absurd w_ (by decide))
  refine x_iload_n d_N_life_73 rfl rfl ?_
  refine x_bipush (v := (nI 25)) d_N_life_74 (by decide) ?_
  refine x_icmp_ne (tgt := 99) d_N_life_76 rfl (fun q76 => ?_) (fun w_ => absurd w_ (by decide))
  refine x_aload_n d_N_life_99 rfl rfl ?_
  refine x_iload d_N_life_100 rfl ?_
  refine x_invv d_N_life_102 lm_N_149 (as := [.int (nI (21 * p + a))]) (S := []) (cz' := 0) (cs' := 0) (c_N_named nl y v (by omega) sa) nl.o rfl rfl rfl (Nat.le_of_ble_eq_true rfl) (by omega) (by decide) (by decide) ?_
  rintro _ _ ⟨rfl, rfl⟩
  rw [en]
  refine x_istore d_N_life_105 (by decide) (L' := [some (.ref r), some (.int (nI p)), some (.int (nI 23)), some (.int (nI a)), some (.int b), some (.int c), some (.int (nI (21 * p + a))), some (.int (nI q))]) rfl ?_
  refine x_iload d_N_life_107 rfl ?_
  refine x_if_ge (tgt := 114) d_N_life_109 rfl (fun q109 => ?_) (fun w_ => absurd (nI_pos' (by omega)) w_)
  refine x_iload_n d_N_life_114 rfl rfl ?_
  refine x_bipush (v := (nI 26)) d_N_life_115 (by decide) ?_
  refine x_icmp_ne (tgt := 155) d_N_life_117 rfl (fun q117 => ?_) (fun w_ => absurd w_ (by decide))
  refine x_aload_n d_N_life_155 rfl rfl ?_
  refine n_fld (j := 6) d_N_life_156 lf_N_25 nl (by decide) rfl rfl ?_
  refine x_iload d_N_life_159 rfl ?_
  refine n_ld (j := 6) (i := q) (n := 12) (v := (nI (pSt (oPr σ q)))) d_N_life_161 nl (by decide) (by decide) rfl rfl (by omega) (by decide) (y.2.2.2 q hqc).st ?_
  refine x_iconst (v := (nI 3)) d_N_life_162 (by decide) ?_
  refine x_icmp_ne (tgt := 200) d_N_life_163 rfl (fun q163 => ?_) (fun w_ => absurd w_ (fun z => h3 ((nI_eq (b := 3) (by omega) (by decide)).mp z)))
  refine x_iload d_N_life_200 rfl ?_
  refine x_iload_n d_N_life_202 rfl rfl ?_
  refine x_icmp_eq (tgt := 241) d_N_life_203 rfl (fun w_ => absurd w_ (fun z => h4 ((nI_eq (by omega) (by omega)).mp z))) (fun q203 => ?_)
  refine x_aload_n d_N_life_206 rfl rfl ?_
  refine n_fld (j := 12) d_N_life_207 lf_N_43 nl (by decide) rfl rfl ?_
  refine x_iload_n d_N_life_210 rfl rfl ?_
  refine x_aload_n d_N_life_211 rfl rfl ?_
  refine n_fld (j := 12) d_N_life_212 lf_N_43 nl (by decide) rfl rfl ?_
  refine x_iload_n d_N_life_215 rfl rfl ?_
  refine n_ld (j := 12) (i := p) (n := 12) (v := (pLk (oPr σ p))) d_N_life_216 nl (by decide) (by decide) rfl rfl (by omega) (by decide) yp.lk ?_
  refine x_iconst (v := (nI 1)) d_N_life_217 (by decide) ?_
  refine x_iload d_N_life_218 rfl ?_
  refine x_ishl (v := (bitM q)) d_N_life_220 rfl ?_
  refine x_ior (v := (pLk (oPr σ p) ||| (bitM q))) d_N_life_221 rfl ?_
  refine n_st (j := 12) (i := p) (n := 12) (v := (pLk (oPr σ p) ||| (bitM q))) d_N_life_222 nl (by decide) (by decide) rfl rfl (by omega) (by decide) ?_
  have y2 : NR (up A 12 p (pLk (oPr σ p) ||| (bitM q))) (sPr σ p (sLk (oPr σ p) (pLk (oPr σ p) ||| (bitM q)))) u := y.setP v.L ((Chp.rf p A).up (Or.inl (Or.inr (Or.inr ⟨rfl, by decide⟩)))) (yp.s_lk _)
  have v2 : vLs (sPr σ p (sLk (oPr σ p) (pLk (oPr σ p) ||| (bitM q)))) := v.L.setP vp
  generalize up A 12 p (pLk (oPr σ p) ||| (bitM q)) = A2 at y2 ⊢
  have yq := y2.2.2.2 q hqc
  refine x_aload_n d_N_life_223 rfl rfl ?_
  refine n_fld (j := 12) d_N_life_224 lf_N_43 nl (by decide) rfl rfl ?_
  refine x_iload d_N_life_227 rfl ?_
  refine x_aload_n d_N_life_229 rfl rfl ?_
  refine n_fld (j := 12) d_N_life_230 lf_N_43 nl (by decide) rfl rfl ?_
  refine x_iload d_N_life_233 rfl ?_
  refine n_ld (j := 12) (i := q) (n := 12) (v := (pLk (oPr (sPr σ p (sLk (oPr σ p) (pLk (oPr σ p) ||| (bitM q)))) q))) d_N_life_235 nl (by decide) (by decide) rfl rfl (by omega) (by decide) yq.lk ?_
  refine x_iconst (v := (nI 1)) d_N_life_236 (by decide) ?_
  refine x_iload_n d_N_life_237 rfl rfl ?_
  refine x_ishl (v := (bitM p)) d_N_life_238 rfl ?_
  refine x_ior (v := (pLk (oPr (sPr σ p (sLk (oPr σ p) (pLk (oPr σ p) ||| (bitM q)))) q) ||| (bitM p))) d_N_life_239 rfl ?_
  refine n_st (j := 12) (i := q) (n := 12) (v := (pLk (oPr (sPr σ p (sLk (oPr σ p) (pLk (oPr σ p) ||| (bitM q)))) q) ||| (bitM p))) d_N_life_240 nl (by decide) (by decide) rfl rfl (by omega) (by decide) ?_
  refine x_iconst (v := (nI 1)) d_N_life_241 (by decide) ?_
  exact x_iret d_N_life_242 rfl rfl ⟨rfl, _, rfl, u, y2.setP v2 ((Chp.rf q A2).up (Or.inl (Or.inr (Or.inr ⟨rfl, by decide⟩)))) (yq.s_lk _), (HdK.tie σ u p q).x⟩
