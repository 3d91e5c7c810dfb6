/-! The reference: end (printed by wip/gen/mod_ref3.py). -/
/-- the stack lies in the rows telling and next -/
def skR (A : Nat → Nat → Int32) : List (Nat × Nat) → Prop
  | [] => True
  | x :: l => A 16 l.length = nI x.1 ∧ A 17 l.length = nI x.2 ∧ skR A l
theorem skR.eqv {A A' : Nat → Nat → Int32} : ∀ {l : List (Nat × Nat)}, skR A l → (∀ j i, (j = 16 ∨ j = 17) → i < l.length → A' j i = A j i) → skR A' l
  | [], _, _ => trivial
  | x :: l, h, e => ⟨(e 16 _ (by decide) (Nat.lt_succ_self _)).trans h.1, (e 17 _ (by decide) (Nat.lt_succ_self _)).trans h.2.1, skR.eqv h.2.2 (fun j i hj hi => e j i hj (Nat.lt_succ_of_lt hi))⟩
def skm : List (Nat × Nat) → Nat
  | [] => 0
  | x :: l => (13 - x.2) + skm l
/-- those who are telling have ended with t -/
def skI (σ : Ho) (t : Tm) (l : List (Nat × Nat)) : Prop := ∀ x ∈ l, x.1 < oCt σ ∧ x.2 ≤ oCt σ ∧ pRs (oPr σ x.1) = some t
def EP (r : Nat) (h : th_H) (t : Tm) (σ : Ho) (u : Nat) (l : List (Nat × Nat)) : Option Value → th_H → Prop := Nx r h none (fun A' => ∃ u', NR A' (runS t σ l) u' ∧ HdK σ u (runS t σ l) u')
theorem EP.to {r : Nat} {h : th_H} {t : Tm} {σ σ' : Ho} {u u' : Nat} {l l' : List (Nat × Nat)} (e : runS t σ l = runS t σ' l') (k : HdK σ u σ' u') : ∀ v h', EP r h t σ' u' l' v h' → EP r h t σ u l v h' := fun v h' ⟨a, A', b, w, c, d⟩ => ⟨a, A', b, w, by rw [e]; exact c, by rw [e]; exact k.tr d⟩
theorem skI.untie {σ : Ho} {t : Tm} {l : List (Nat × Nat)} (z : skI σ t l) (p q : Nat) : skI (untieM σ p q) t l := fun x hx => by
  obtain ⟨m, e⟩ := untie_pr σ p q x.1
  exact ⟨(z x hx).1, (z x hx).2.1, by rw [e]; exact (z x hx).2.2⟩
theorem sig1_ct (σ : Ho) (p q : Nat) (t : Tm) : oCt (sig1 σ p q t) = oCt σ := by
  unfold sig1
  split
  · rfl
  · split
    · exact deliver_ct _ _ _
    · rfl
theorem sig1_rs (σ : Ho) (p q : Nat) (t : Tm) (x : Nat) : pRs (oPr (sig1 σ p q t) x) = pRs (oPr σ x) := by
  unfold sig1
  split
  · rfl
  · split
    · exact (deliver_pr _ _ _ _).1
    · rfl
theorem sig1_live (σ : Ho) (p q : Nat) (t : Tm) : live (sig1 σ p q t) ≤ live σ := by
  unfold sig1
  split
  · exact Nat.le_refl _
  · split
    · exact live_deliver _ _ _
    · exact Nat.le_refl _
theorem vPs.sg {N : Nat} {σ : Ho} (v : vPs N σ) {p q : Nat} {t : Tm} (hq : q < oCt σ) (ht : vTm t) : vPs N (sig1 σ p q t) := by
  unfold sig1
  split
  · exact v
  · split
    · exact v.deliver hq (vNotice ht)
    · exact v
theorem skI.sg {σ : Ho} {t : Tm} {l : List (Nat × Nat)} (z : skI σ t l) (p q : Nat) (s : Tm) : skI (sig1 σ p q s) t l := fun x hx => ⟨by rw [sig1_ct]; exact (z x hx).1, by rw [sig1_ct]; exact (z x hx).2.1, by rw [sig1_rs]; exact (z x hx).2.2⟩
theorem skI.stop {σ : Ho} {t : Tm} {l : List (Nat × Nat)} (z : skI σ t l) (q : Nat) : skI (stopM σ q t) t l := fun x hx => ⟨(z x hx).1, (z x hx).2.1, by
  by_cases h : x.1 = q
  · exact ((stop_st σ q t x.1).1 h).2
  · rw [(stop_st σ q t x.1).2 h]; exact (z x hx).2.2⟩
theorem N_end_loop {E : th_E} {h : th_H} {r N : Nat} (nl : NL r h) {t : Tm} (ht : vTm t) {a1 a2 : Int32} : ∀ (K : Nat) (l : List (Nat × Nat)) (A : Nat → Nat → Int32) (σ : Ho) (u : Nat), NR A σ u → vPs N σ → skR A l → skI σ t l → l.length + live σ ≤ 12 → 14 * live σ + skm l ≤ K → ∀ x4 x5, Xw E m_N_end 3 0 0 22 [some (.ref r), some (.int a1), some (.int a2), some (.int (nI l.length)), x4, x5] [] (ov r h A) (EP r h t σ u l) := by
  intro K
  induction K using Nat.strongRecOn with
  | ind K ih0 =>
    have ih : ∀ (l : List (Nat × Nat)) (A : Nat → Nat → Int32) (σ : Ho) (u : Nat), NR A σ u → vPs N σ → skR A l → skI σ t l → l.length + live σ ≤ 12 → 14 * live σ + skm l < K → ∀ x4 x5, Xw E m_N_end 3 0 0 22 [some (.ref r), some (.int a1), some (.int a2), some (.int (nI l.length)), x4, x5] [] (ov r h A) (EP r h t σ u l) := fun l A σ u y v sk si hl hK => ih0 _ hK l A σ u y v sk si hl (Nat.le_refl _)
    intro stk A σ u y v sk skI0 hl hK x4 x5
    have hct := v.1
    cases stk with
    | nil =>
      refine x_iload_n d_N_end_22 rfl rfl ?_
      refine x_if_le (tgt := 187) d_N_end_23 rfl (fun _ => ?_) (fun w_ => absurd (show nI 0 ≤ 0 by decide) w_)
      exact x_ret ⟨rfl, A, rfl, u, y, HdK.rf _ _⟩ rfl d_N_end_187
    | cons x l =>
      obtain ⟨p, q⟩ := x
      obtain ⟨hp, hqc, hrs0⟩ := skI0 (p, q) List.mem_cons_self
      replace hp : p < oCt σ := hp
      replace hqc : q ≤ oCt σ := hqc
      simp only [List.length_cons] at hl
      have hp12 := Nat.lt_of_lt_of_le hp v.1
      show Xw E m_N_end 3 0 0 22 [some (.ref r), some (.int a1), some (.int a2), some (.int (nI (l.length + 1))), x4, x5] [] (ov r h A) _
      refine x_iload_n d_N_end_22 rfl rfl ?_
      refine x_if_le (tgt := 187) d_N_end_23 rfl (fun w_ => absurd w_ (nI_nle (by omega) (by omega))) (fun q23 => ?_)
      refine x_aload_n d_N_end_26 rfl rfl ?_
      refine n_fld (j := 16) d_N_end_27 lf_N_56 nl (by decide) rfl rfl ?_
      refine x_iload_n d_N_end_30 rfl rfl ?_
      refine x_iconst (v := (nI 1)) d_N_end_31 (by decide) ?_
      refine x_isub (v := (nI (l.length))) d_N_end_32 (nI_pred _) ?_
      refine n_ld (j := 16) (i := l.length) (n := 13) (v := (nI p)) d_N_end_33 nl (by decide) (by decide) rfl rfl (by omega) (by decide) sk.1 ?_
      refine x_istore d_N_end_34 (by decide) (L' := [some (.ref r), some (.int a1), some (.int a2), some (.int (nI (l.length + 1))), some (.int (nI p)), x5]) rfl ?_
      refine x_aload_n d_N_end_36 rfl rfl ?_
      refine n_fld (j := 17) d_N_end_37 lf_N_59 nl (by decide) rfl rfl ?_
      refine x_iload_n d_N_end_40 rfl rfl ?_
      refine x_iconst (v := (nI 1)) d_N_end_41 (by decide) ?_
      refine x_isub (v := (nI (l.length))) d_N_end_42 (nI_pred _) ?_
      refine n_ld (j := 17) (i := l.length) (n := 13) (v := (nI q)) d_N_end_43 nl (by decide) (by decide) rfl rfl (by omega) (by decide) sk.2.1 ?_
      refine x_istore d_N_end_44 (by decide) (L' := [some (.ref r), some (.int a1), some (.int a2), some (.int (nI (l.length + 1))), some (.int (nI p)), some (.int (nI q))]) rfl ?_
      refine x_aload_n d_N_end_46 rfl rfl ?_
      refine n_fld (j := 17) d_N_end_47 lf_N_59 nl (by decide) rfl rfl ?_
      refine x_iload_n d_N_end_50 rfl rfl ?_
      refine x_iconst (v := (nI 1)) d_N_end_51 (by decide) ?_
      refine x_isub (v := (nI (l.length))) d_N_end_52 (nI_pred _) ?_
      refine x_iload d_N_end_53 rfl ?_
      refine x_iconst (v := (nI 1)) d_N_end_55 (by decide) ?_
      refine x_iadd (v := (nI (q + 1))) d_N_end_56 (nI_add _ _) ?_
      refine n_st (j := 17) (i := l.length) (n := 13) (v := (nI (q + 1))) d_N_end_57 nl (by decide) (by decide) rfl rfl (by omega) (by decide) ?_
      have y1 : NR (up A 17 l.length (nI (q + 1))) σ u := y.fr v.L (fun j i hj => up_n (fun z => hj (Or.inr (Or.inr z.1))))
      have sk1 : skR (up A 17 l.length (nI (q + 1))) ((p, q + 1) :: l) := ⟨(up_r (by decide)).trans sk.1, up_s, sk.2.2.eqv (fun j i hj hi => up_n (fun z => by omega))⟩
      generalize (up A 17 l.length (nI (q + 1))) = A1 at y1 sk1 ⊢
      refine x_iload d_N_end_58 rfl ?_
      refine x_aload_n d_N_end_60 rfl rfl ?_
      refine n_get (v := (nI (oCt σ))) d_N_end_61 lf_N_131 nl rfl y1.1.2.2.1 ?_
      refine x_icmp_lt (tgt := 74) d_N_end_64 rfl (fun q64 => ?_) (fun q64 => ?_)
      · have hq : q < oCt σ := (nI_ltI (by omega) (by omega)).mp q64
        have hnq : ¬ oCt σ ≤ q := by omega
        have yp := y1.2.2.2 p hp
        refine x_aload_n d_N_end_74 rfl rfl ?_
        refine n_fld (j := 12) d_N_end_75 lf_N_43 nl (by decide) rfl rfl ?_
        refine x_iload d_N_end_78 rfl ?_
        refine n_ld (j := 12) (i := p) (n := 12) (v := (pLk (oPr σ p))) d_N_end_80 nl (by decide) (by decide) rfl rfl (by omega) (by decide) yp.lk ?_
        refine x_iload d_N_end_81 rfl ?_
        refine x_ishr (v := (((pLk (oPr σ p)) : Int32) >>> ((nI q) &&& 31))) d_N_end_83 rfl ?_
        refine x_iconst (v := (nI 1)) d_N_end_84 (by decide) ?_
        refine x_iand (v := ((((pLk (oPr σ p)) : Int32) >>> ((nI q) &&& 31)) &&& (nI 1))) d_N_end_85 rfl ?_
        refine x_iconst (v := (nI 1)) d_N_end_86 (by decide) ?_
        refine x_icmp_ne (tgt := 184) d_N_end_87 rfl (fun q87 => ?_) (fun q87 => ?_)
        · have h2 : pLk (oPr σ p) &&& bitM q = 0 := by by_cases z : pLk (oPr σ p) &&& bitM q = 0; exact z; exact absurd ((lk_bit _ (by omega)).mpr z) q87
          refine x_goto (tgt := 22) d_N_end_184 rfl ?_
          exact (ih ((p, q + 1) :: l) A1 σ u y1 v sk1 (show skI σ t ((p, q + 1) :: l) from fun x hx => by rcases List.mem_cons.mp hx with rfl | hx; exact ⟨hp, (by show q + 1 ≤ oCt σ; omega), hrs0⟩; exact skI0 x (List.mem_cons_of_mem _ hx)) hl (by simp only [skm] at hK ⊢; omega) _ _).post (EP.to (rs_no v hp ht hnq h2) (HdK.rf _ _))
        · have h2 : ¬ pLk (oPr σ p) &&& bitM q = 0 := (lk_bit _ (by omega)).mp q87
          refine x_aload_n d_N_end_90 rfl rfl ?_
          refine n_fld (j := 12) d_N_end_91 lf_N_43 nl (by decide) rfl rfl ?_
          refine x_iload d_N_end_94 rfl ?_
          refine x_aload_n d_N_end_96 rfl rfl ?_
          refine n_fld (j := 12) d_N_end_97 lf_N_43 nl (by decide) rfl rfl ?_
          refine x_iload d_N_end_100 rfl ?_
          refine n_ld (j := 12) (i := p) (n := 12) (v := (pLk (oPr σ p))) d_N_end_102 nl (by decide) (by decide) rfl rfl (by omega) (by decide) yp.lk ?_
          refine x_iconst (v := (nI 1)) d_N_end_103 (by decide) ?_
          refine x_iload d_N_end_104 rfl ?_
          refine x_ishl (v := (bitM q)) d_N_end_106 rfl ?_
          refine x_iconst (v := (-1)) d_N_end_107 (by decide) ?_
          refine x_ixor (v := ((bitM q) ^^^ (-1))) d_N_end_108 rfl ?_
          refine x_iand (v := ((pLk (oPr σ p)) &&& ((bitM q) ^^^ (-1)))) d_N_end_109 rfl ?_
          refine n_st (j := 12) (i := p) (n := 12) (v := ((pLk (oPr σ p)) &&& ((bitM q) ^^^ (-1)))) d_N_end_110 nl (by decide) (by decide) rfl rfl (by omega) (by decide) ?_
          have y2 : NR (up A1 12 p (pLk (oPr σ p) &&& ((bitM q) ^^^ (-1)))) (sPr σ p (sLk (oPr σ p) (pLk (oPr σ p) &&& ((bitM q) ^^^ (-1))))) u := y1.setP v.L ((Chp.rf p A1).up (Or.inl (Or.inr (Or.inr ⟨rfl, by decide⟩)))) (yp.s_lk _)
          have v2 : vLs (sPr σ p (sLk (oPr σ p) (pLk (oPr σ p) &&& ((bitM q) ^^^ (-1))))) := v.L.setP (v.2.2 p hp).L
          have sk2 : skR (up A1 12 p (pLk (oPr σ p) &&& ((bitM q) ^^^ (-1)))) ((p, q + 1) :: l) := sk1.eqv (fun j i hj hi => up_r (by omega))
          generalize up A1 12 p (pLk (oPr σ p) &&& ((bitM q) ^^^ (-1))) = A2 at y2 sk2 ⊢
          have yq := y2.2.2.2 q hq
          refine x_aload_n d_N_end_111 rfl rfl ?_
          refine n_fld (j := 12) d_N_end_112 lf_N_43 nl (by decide) rfl rfl ?_
          refine x_iload d_N_end_115 rfl ?_
          refine x_aload_n d_N_end_117 rfl rfl ?_
          refine n_fld (j := 12) d_N_end_118 lf_N_43 nl (by decide) rfl rfl ?_
          refine x_iload d_N_end_121 rfl ?_
          refine n_ld (j := 12) (i := q) (n := 12) (v := (pLk (oPr (sPr σ p (sLk (oPr σ p) (pLk (oPr σ p) &&& ((bitM q) ^^^ (-1))))) q))) d_N_end_123 nl (by decide) (by decide) rfl rfl (by omega) (by decide) yq.lk ?_
          refine x_iconst (v := (nI 1)) d_N_end_124 (by decide) ?_
          refine x_iload d_N_end_125 rfl ?_
          refine x_ishl (v := (bitM p)) d_N_end_127 rfl ?_
          refine x_iconst (v := (-1)) d_N_end_128 (by decide) ?_
          refine x_ixor (v := ((bitM p) ^^^ (-1))) d_N_end_129 rfl ?_
          refine x_iand (v := ((pLk (oPr (sPr σ p (sLk (oPr σ p) (pLk (oPr σ p) &&& ((bitM q) ^^^ (-1))))) q)) &&& ((bitM p) ^^^ (-1)))) d_N_end_130 rfl ?_
          refine n_st (j := 12) (i := q) (n := 12) (v := ((pLk (oPr (sPr σ p (sLk (oPr σ p) (pLk (oPr σ p) &&& ((bitM q) ^^^ (-1))))) q)) &&& ((bitM p) ^^^ (-1)))) d_N_end_131 nl (by decide) (by decide) rfl rfl (by omega) (by decide) ?_
          have y3 : NR (up A2 12 q ((pLk (oPr (sPr σ p (sLk (oPr σ p) (pLk (oPr σ p) &&& ((bitM q) ^^^ (-1))))) q)) &&& ((bitM p) ^^^ (-1)))) (untieM σ p q) u := y2.setP v2 ((Chp.rf q A2).up (Or.inl (Or.inr (Or.inr ⟨rfl, by decide⟩)))) (yq.s_lk _)
          have sk3 : skR (up A2 12 q ((pLk (oPr (sPr σ p (sLk (oPr σ p) (pLk (oPr σ p) &&& ((bitM q) ^^^ (-1))))) q)) &&& ((bitM p) ^^^ (-1)))) ((p, q + 1) :: l) := sk2.eqv (fun j i hj hi => up_r (by omega))
          generalize up A2 12 q ((pLk (oPr (sPr σ p (sLk (oPr σ p) (pLk (oPr σ p) &&& ((bitM q) ^^^ (-1))))) q)) &&& ((bitM p) ^^^ (-1))) = A3 at y3 sk3 ⊢
          have v3 := v.untie hp hq
          have i3 := (show skI σ t ((p, q + 1) :: l) from fun x hx => by rcases List.mem_cons.mp hx with rfl | hx; exact ⟨hp, (by show q + 1 ≤ oCt σ; omega), hrs0⟩; exact skI0 x (List.mem_cons_of_mem _ hx)).untie p q
          have l3 := live_untie σ p q
          have hrs := (i3 (p, q + 1) List.mem_cons_self).2.2
          have sl3 : SL A3 (21 * p + 8) (tF t) := (y3.2.2.2 p hp).rs t hrs
          refine x_aload_n d_N_end_132 rfl rfl ?_
          refine x_iload d_N_end_133 rfl ?_
          refine x_iload d_N_end_135 rfl ?_
          refine x_bipush (v := (nI 21)) d_N_end_137 (by decide) ?_
          refine x_iload d_N_end_139 rfl ?_
          refine x_imul (v := (nI (21 * p))) d_N_end_141 (pk_mul _ _) ?_
          refine x_bipush (v := (nI 8)) d_N_end_142 (by decide) ?_
          refine x_iadd (v := (nI (21 * p + 8))) d_N_end_144 (nI_add _ _) ?_
          refine x_invv d_N_end_145 lm_N_134 (as := [.int (nI q), .int (nI p), .int (nI ((21 * p) + 8))]) (S := []) (cz' := 0) (cs' := 0) (c_N_signal nl y3 v3 (by omega) hq (by omega) sl3 ht) nl.o rfl rfl rfl (Nat.le_of_ble_eq_true rfl) (by omega) (by decide) (by decide) ?_
          rintro _ _ (⟨hb, rfl, rfl⟩ | ⟨hb, rfl, A4, rfl, y4, t4⟩)
          · refine x_if_eq (tgt := 184) d_N_end_148 rfl (fun w_ => absurd w_ (by decide)) (fun q148 => ?_)
            refine x_aload_n d_N_end_151 rfl rfl ?_
            refine x_iload d_N_end_152 rfl ?_
            refine x_bipush (v := (nI 21)) d_N_end_154 (by decide) ?_
            refine x_iload d_N_end_156 rfl ?_
            refine x_imul (v := (nI (21 * p))) d_N_end_158 (pk_mul _ _) ?_
            refine x_bipush (v := (nI 8)) d_N_end_159 (by decide) ?_
            refine x_iadd (v := (nI (21 * p + 8))) d_N_end_161 (nI_add _ _) ?_
            refine x_invv d_N_end_162 lm_N_128 (as := [.int (nI q), .int (nI (21 * p + 8))]) (S := []) (cz' := 0) (cs' := 0) (c_N_stop nl y3 v3 hq (by omega) sl3 ht) nl.o rfl rfl rfl (Nat.le_of_ble_eq_true rfl) (by omega) (by decide) (by decide) ?_
            rintro _ _ ⟨rfl, A4, rfl, y4, t4⟩
            have sk4 : skR A4 ((p, q + 1) :: l) := sk3.eqv (fun j i hj hi => t4 j i hj)
            have l4 := live_stop (σ := untieM σ p q) (r := t) hq hb.1
            refine x_aload_n d_N_end_165 rfl rfl ?_
            refine n_fld (j := 16) d_N_end_166 lf_N_56 nl (by decide) rfl rfl ?_
            refine x_iload_n d_N_end_169 rfl rfl ?_
            refine x_iload d_N_end_170 rfl ?_
            refine n_st (j := 16) (i := l.length + 1) (n := 13) (v := (nI q)) d_N_end_172 nl (by decide) (by decide) rfl rfl (by omega) (by decide) ?_
            refine x_aload_n d_N_end_173 rfl rfl ?_
            refine n_fld (j := 17) d_N_end_174 lf_N_59 nl (by decide) rfl rfl ?_
            refine x_iload_n d_N_end_177 rfl rfl ?_
            refine x_iconst (v := (nI 0)) d_N_end_178 (by decide) ?_
            refine n_st (j := 17) (i := l.length + 1) (n := 13) (v := (nI 0)) d_N_end_179 nl (by decide) (by decide) rfl rfl (by omega) (by decide) ?_
            have y6 : NR (up (up A4 16 (l.length + 1) (nI q)) 17 (l.length + 1) (nI 0)) (stopM (untieM σ p q) q t) (luM (untieM σ p q) q u) := y4.fr (v3.stop hq ht).L (fun j i hj => by rw [up_n (fun z => hj (Or.inr (Or.inr z.1))), up_n (fun z => hj (Or.inr (Or.inl z.1)))])
            have sk6 : skR (up (up A4 16 (l.length + 1) (nI q)) 17 (l.length + 1) (nI 0)) ((q, 0) :: (p, q + 1) :: l) := ⟨(up_r (by decide)).trans up_s, up_s, sk4.eqv (fun j i hj hi => by rw [up_n (fun z => by simp only [List.length_cons] at hi; omega), up_n (fun z => by simp only [List.length_cons] at hi; omega)])⟩
            generalize up (up A4 16 (l.length + 1) (nI q)) 17 (l.length + 1) (nI 0) = A6 at y6 sk6 ⊢
            refine x_iload_n d_N_end_180 rfl rfl ?_
            refine x_iconst (v := (nI 1)) d_N_end_181 (by decide) ?_
            refine x_iadd (v := (nI (l.length + 1 + 1))) d_N_end_182 (nI_add _ _) ?_
            refine x_istore_n d_N_end_183 rfl (by decide) (L' := [some (.ref r), some (.int a1), some (.int a2), some (.int (nI (l.length + 1 + 1))), some (.int (nI p)), some (.int (nI q))]) rfl ?_
            refine x_goto (tgt := 22) d_N_end_184 rfl ?_
            exact (ih ((q, 0) :: (p, q + 1) :: l) A6 _ _ y6 (v3.stop hq ht) sk6 (fun x hx => by rcases List.mem_cons.mp hx with rfl | hx; exact ⟨hq, Nat.zero_le _, ((stop_st _ q t q).1 rfl).2⟩; exact i3.stop q x hx) (by simp only [List.length_cons] at hl ⊢; omega) (by simp only [skm] at hK ⊢; omega) _ _).post (EP.to (rs_push v hp ht hnq h2 hb) ((HdK.untie _ _ _ _).tr (HdK.stop _ _ _ _)))
          · refine x_if_eq (tgt := 184) d_N_end_148 rfl (fun q148 => ?_) (fun w_ => absurd rfl w_)
            refine x_goto (tgt := 22) d_N_end_184 rfl ?_
            exact (ih ((p, q + 1) :: l) A4 _ u y4 (v3.sg hq ht) (sk3.eqv (fun j i hj hi => t4 j i hj)) (i3.sg p q t) (by have := sig1_live (untieM σ p q) p q t; simp only [List.length_cons]; omega) (by have := sig1_live (untieM σ p q) p q t; simp only [skm] at hK ⊢; omega) _ _).post (EP.to (rs_sig v hp ht hnq h2 hb) ((HdK.untie _ _ _ _).tr (HdK.sg _ _ _ _ _)))
      · have hq : oCt σ ≤ q := Nat.le_of_not_lt (fun z => q64 (nI_lt z (by omega)))
        refine x_iload_n d_N_end_67 rfl rfl ?_
        refine x_iconst (v := (nI 1)) d_N_end_68 (by decide) ?_
        refine x_isub (v := (nI (l.length))) d_N_end_69 (nI_pred _) ?_
        refine x_istore_n d_N_end_70 rfl (by decide) (L' := [some (.ref r), some (.int a1), some (.int a2), some (.int (nI (l.length))), some (.int (nI p)), some (.int (nI q))]) rfl ?_
        refine x_goto (tgt := 184) d_N_end_71 rfl ?_
        refine x_goto (tgt := 22) d_N_end_184 rfl ?_
        exact (ih l A1 σ u y1 v sk1.2.2 (fun x hx => skI0 x (List.mem_cons_of_mem _ hx)) (by omega) (by simp only [skm] at hK; omega) _ _).post (EP.to (rs_pop hq) (HdK.rf _ _))
theorem c_N_end {E : th_E} {h : th_H} {r : Nat} {A : Nat → Nat → Int32} (nl : NL r h) {N u : Nat} {σ : Ho} (y : NR A σ u) (v : vPs N σ) {p s : Nat} {t : Tm} (hp : p < oCt σ) (hs : s < 254) (sl : SL A s (tF t)) (ht : vTm t) (h3 : ¬ pSt (oPr σ p) = 3) : Xc E m_N_end 3 0 0 [.ref r, .int (nI p), .int (nI s)] (ov r h A) (Nx r h none (fun A' => ∃ u', NR A' (endM σ p t) u' ∧ HdK σ u (endM σ p t) u')) := by
  refine Xc.of (by decide) (by simp [Value.category]) (Nat.le_of_ble_eq_true rfl) ?_
  show Xw E m_N_end 3 0 0 0 [some (.ref r), some (.int (nI p)), some (.int (nI s)), none, none, none] [] (ov r h A) _
  have hp12 := Nat.lt_of_lt_of_le hp v.1
  refine x_aload_n d_N_end_0 rfl rfl ?_
  refine x_iload_n d_N_end_1 rfl rfl ?_
  refine x_iload_n d_N_end_2 rfl rfl ?_
  refine x_invv d_N_end_3 lm_N_128 (as := [.int (nI p), .int (nI s)]) (S := []) (cz' := 0) (cs' := 0) (c_N_stop nl y v hp hs sl ht) nl.o rfl rfl rfl (Nat.le_of_ble_eq_true rfl) (by omega) (by decide) (by decide) ?_
  rintro _ _ ⟨rfl, A1, rfl, y1, t1⟩
  refine x_iconst (v := (nI 1)) d_N_end_6 (by decide) ?_
  refine x_istore_n d_N_end_7 rfl (by decide) (L' := [some (.ref r), some (.int (nI p)), some (.int (nI s)), some (.int (nI 1)), none, none]) rfl ?_
  refine x_aload_n d_N_end_8 rfl rfl ?_
  refine n_fld (j := 16) d_N_end_9 lf_N_56 nl (by decide) rfl rfl ?_
  refine x_iconst (v := (nI 0)) d_N_end_12 (by decide) ?_
  refine x_iload_n d_N_end_13 rfl rfl ?_
  refine n_st (j := 16) (i := 0) (n := 13) (v := (nI p)) d_N_end_14 nl (by decide) (by decide) rfl rfl (by omega) (by decide) ?_
  refine x_aload_n d_N_end_15 rfl rfl ?_
  refine n_fld (j := 17) d_N_end_16 lf_N_59 nl (by decide) rfl rfl ?_
  refine x_iconst (v := (nI 0)) d_N_end_19 (by decide) ?_
  refine x_iconst (v := (nI 0)) d_N_end_20 (by decide) ?_
  refine n_st (j := 17) (i := 0) (n := 13) (v := (nI 0)) d_N_end_21 nl (by decide) (by decide) rfl rfl (by omega) (by decide) ?_
  have v1 := v.stop hp ht
  have l1 := live_stop (r := t) hp h3
  have l0 := live12 v
  have y3 : NR (up (up A1 16 0 (nI p)) 17 0 (nI 0)) (stopM σ p t) (luM σ p u) := y1.fr v1.L (fun j i hj => by rw [up_n (fun z => hj (Or.inr (Or.inr z.1))), up_n (fun z => hj (Or.inr (Or.inl z.1)))])
  have sk3 : skR (up (up A1 16 0 (nI p)) 17 0 (nI 0)) [(p, 0)] := ⟨(up_r (by decide)).trans up_s, up_s, trivial⟩
  have si : skI (stopM σ p t) t [(p, 0)] := fun x hx => by rw [List.mem_singleton.mp hx]; exact ⟨hp, Nat.zero_le _, ((stop_st σ p t p).1 rfl).2⟩
  have e : endM σ p t = runS t (stopM σ p t) [(p, 0)] := by unfold endM; rw [if_neg h3]; rfl
  rw [e]
  exact (N_end_loop (E := E) nl ht _ [(p, 0)] (up (up A1 16 0 (nI p)) 17 0 (nI 0)) _ _ y3 v1 sk3 si (by show 1 + _ ≤ 12; omega) (Nat.le_refl _) none none).post (fun v h' ⟨a, A', b, w, c, d⟩ => ⟨a, A', b, w, c, (HdK.stop σ u p t).tr d⟩)
theorem vAtom (x : Int32) : vTm (.leaf (1, x)) := ⟨Or.inl (Or.inr (Or.inl rfl)), by show 1 ≤ 15; decide⟩
theorem c_N_endBy {E : th_E} {h : th_H} {r : Nat} {A : Nat → Nat → Int32} (nl : NL r h) {N u : Nat} {σ : Ho} (y : NR A σ u) (v : vPs N σ) {p : Nat} (x : Int32) (hp : p < oCt σ) (h3 : ¬ pSt (oPr σ p) = 3) : Xc E m_N_endBy 4 0 0 [.ref r, .int (nI p), .int x] (ov r h A) (Nx r h none (fun A' => ∃ u', NR A' (endM σ p (.leaf (1, x))) u' ∧ HdK σ u (endM σ p (.leaf (1, x))) u')) := by
  refine Xc.of (by decide) (by simp [Value.category]) (Nat.le_of_ble_eq_true rfl) ?_
  show Xw E m_N_endBy 4 0 0 0 [some (.ref r), some (.int (nI p)), some (.int x)] [] (ov r h A) _
  refine x_aload_n d_N_endBy_0 rfl rfl ?_
  refine x_sipush (v := (nI 252)) d_N_endBy_1 (by decide) ?_
  refine x_iconst (v := (nI 1)) d_N_endBy_4 (by decide) ?_
  refine x_iload_n d_N_endBy_5 rfl rfl ?_
  refine x_invv d_N_endBy_6 lm_N_115 (as := [.int (nI 252), .int (nI 1), .int x]) (S := []) (cz' := 0) (cs' := 0) (c_N_put nl (by decide) _ _) nl.o rfl rfl rfl (Nat.le_of_ble_eq_true rfl) (by omega) (by decide) (by decide) ?_
  rintro _ _ ⟨rfl, rfl⟩
  have e1 : Tb 252 A (putA A 252 (nI 1) x) := Tb.put
  have q1 : SL (putA A 252 (nI 1) x) 252 (tF (.leaf (1, x))) := SL.put
  generalize putA A 252 (nI 1) x = A1 at e1 q1 ⊢
  refine x_aload_n d_N_endBy_9 rfl rfl ?_
  refine x_iload_n d_N_endBy_10 rfl rfl ?_
  refine x_sipush (v := (nI 252)) d_N_endBy_11 (by decide) ?_
  refine x_invv d_N_endBy_14 lm_N_137 (as := [.int (nI p), .int (nI 252)]) (S := []) (cz' := 0) (cs' := 0) (c_N_end nl (y.tw v.L (by decide) e1) v hp (by decide) q1 (vAtom x) h3) nl.o rfl rfl rfl (Nat.le_of_ble_eq_true rfl) (by omega) (by decide) (by decide) ?_
  rintro _ _ ⟨rfl, A2, rfl, y2⟩
  exact x_ret ⟨rfl, A2, rfl, y2⟩ rfl d_N_endBy_17
