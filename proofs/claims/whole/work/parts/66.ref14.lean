/-! The reference: run (printed by wip/gen/mod_ref14.py). -/
theorem NR.us {A : Nat → Nat → Int32} {σ : Ho} {u : Nat} (y : NR A σ u) (v : vLs σ) (w : Nat) : NR (up A 0 19 (nI w)) σ w := y.setQ v (fun j i hn => up_n (fun z => hn (Or.inr ⟨z.1, Or.inr z.2⟩))) up_s ⟨(up_n (by decide)).trans y.2.2.1.1, fun i x hx => (up_r (by decide)).trans (y.2.2.1.2 i x hx)⟩
theorem N_run_loop {E : th_E} {h : th_H} {r : Nat} (nl : NL r h) {n : Nat} (hn : n ≤ 15) : ∀ (m k : Nat) (σ : Ho) (A : Nat → Nat → Int32) (x3 x4 : Option Value) (N : Nat), NR A σ (oSp σ) → vPs N σ → vCd σ → k + m = n → N + m < 2 ^ 30 → Xw E m_N_run 7 0 0 14 [some (.ref r), some (.int (nI n)), some (.int (nI k)), x3, x4] [] (ov r h A) (Nx r h (some (.int (nI (k + (runM m σ).2)))) (fun A' => NR A' (runM m σ).1 (oSp (runM m σ).1))) := by
  intro m
  induction m with
  | zero =>
    intro k σ A x3 x4 N y v vc hk hN
    obtain rfl : k = n := by omega
    refine x_iload_n d_N_run_14 rfl rfl ?_
    refine x_iload_n d_N_run_15 rfl rfl ?_
    refine x_icmp_ge (tgt := 115) d_N_run_16 rfl (fun _ => ?_) (fun q => absurd (nI_le (Nat.le_refl _) (by omega)) q)
    refine x_iload_n d_N_run_115 rfl rfl ?_
    exact x_iret d_N_run_116 rfl rfl ⟨rfl, A, rfl, y⟩
  | succ m ih =>
    intro k σ A x3 x4 N y v vc hk hN
    have hct := v.1
    cases hl : oQu σ with
    | nil =>
      have er : runM (m + 1) σ = (σ, 0) := by rw [runM, hl]
      rw [er]
      refine x_iload_n d_N_run_14 rfl rfl ?_
      refine x_iload_n d_N_run_15 rfl rfl ?_
      refine x_icmp_ge (tgt := 115) d_N_run_16 rfl (fun w_ => absurd w_ (nI_ge (show k < n by omega) (by omega))) (fun q16 => ?_)
      refine x_aload_n d_N_run_19 rfl rfl ?_
      refine n_get (v := (nI 0)) d_N_run_20 lf_N_101 nl rfl (by rw [y.2.2.1.1, hl]; rfl) ?_
      refine x_if_le (tgt := 115) d_N_run_23 rfl (fun q23 => ?_) (fun w_ => absurd (by decide) w_)
      refine x_iload_n d_N_run_115 rfl rfl ?_
      exact x_iret d_N_run_116 rfl rfl ⟨rfl, A, rfl, y⟩
    | cons p l =>
      have hpq : p ∈ oQu σ := by rw [hl]; exact List.mem_cons_self
      obtain ⟨hp, h1⟩ := v.2.1.2.1 p hpq
      have hp12 := Nat.lt_of_lt_of_le hp v.1
      have hlen := v.len
      have er : runM (m + 1) σ = ((runM m (turnM (reduceM σ p) p)).1, (runM m (turnM (reduceM σ p) p)).2 + 1) := by rw [runM, hl]
      rw [er]
      simp only []
      rw [show k + ((runM m (turnM (reduceM σ p) p)).2 + 1) = k + 1 + (runM m (turnM (reduceM σ p) p)).2 by omega]
      obtain ⟨v2, hp2, c2, t2, s2⟩ := reduce_v v vc hp h1
      have vc2 : vCd (reduceM σ p) := by unfold vCd; rw [c2]; exact vc
      have hct2 := v2.1
      have hlen2 := v2.len
      have hhd : Hd p (oSp σ + 1) σ (oSp σ + 1) := Or.inl ⟨by rw [hl]; rfl, h1, rfl⟩
      refine x_iload_n d_N_run_14 rfl rfl ?_
      refine x_iload_n d_N_run_15 rfl rfl ?_
      refine x_icmp_ge (tgt := 115) d_N_run_16 rfl (fun w_ => absurd w_ (nI_ge (show k < n by omega) (by omega))) (fun q16 => ?_)
      refine x_aload_n d_N_run_19 rfl rfl ?_
      refine n_get (v := (nI (l.length + 1))) d_N_run_20 lf_N_101 nl rfl (by rw [y.2.2.1.1, hl]; rfl) ?_
      refine x_if_le (tgt := 115) d_N_run_23 rfl (fun w_ => absurd w_ (nI_nle (by omega) (by rw [hl, List.length_cons] at hlen; omega))) (fun q23 => ?_)
      refine x_aload_n d_N_run_26 rfl rfl ?_
      refine n_fld (j := 15) d_N_run_27 lf_N_53 nl (by decide) rfl rfl ?_
      refine x_iconst (v := (nI 0)) d_N_run_30 (by decide) ?_
      refine n_ld (j := 15) (i := 0) (n := 12) (v := (nI p)) d_N_run_31 nl (by decide) (by decide) rfl rfl (by decide) (by decide) (y.2.2.1.2 0 p (by rw [hl]; rfl)) ?_
      refine x_istore_n d_N_run_32 rfl (by decide) (L' := [some (.ref r), some (.int (nI n)), some (.int (nI k)), some (.int (nI p)), x4]) rfl ?_
      refine x_aload_n d_N_run_33 rfl rfl ?_
      refine x_aload_n d_N_run_34 rfl rfl ?_
      refine n_get (v := (nI (oSp σ))) d_N_run_35 lf_N_104 nl rfl y.1.2.2.2 ?_
      refine x_iconst (v := (nI 1)) d_N_run_38 (by decide) ?_
      refine x_iadd (v := (nI (oSp σ + 1))) d_N_run_39 (nI_add _ _) ?_
      refine n_put (v := (nI (oSp σ + 1))) d_N_run_40 lp_N_104 nl rfl ?_
      have y1 := y.us v.L (oSp σ + 1)
      generalize up A 0 19 (nI (oSp σ + 1)) = A1 at y1 ⊢
      refine x_aload_n d_N_run_43 rfl rfl ?_
      refine x_iload_n d_N_run_44 rfl rfl ?_
      refine x_invv d_N_run_45 lm_N_169 (as := [.int (nI p)]) (S := []) (cz' := 0) (cs' := 0) (c_N_step nl y1 v hp vc (by omega) h1) nl.o rfl rfl rfl (Nat.le_of_ble_eq_true rfl) (by omega) (by decide) (by decide) ?_
      rintro _ _ ⟨rfl, A2, rfl, u2, y2, k2⟩
      refine x_iload_n d_N_run_48 rfl rfl ?_
      refine x_iconst (v := (nI 1)) d_N_run_49 (by decide) ?_
      refine x_iadd (v := (nI (k + 1))) d_N_run_50 (nI_add _ _) ?_
      refine x_istore_n d_N_run_51 rfl (by decide) (L' := [some (.ref r), some (.int (nI n)), some (.int (nI (k + 1))), some (.int (nI p)), x4]) rfl ?_
      have yp2 := y2.2.2.2 p hp2
      have hcase : ((oQu (reduceM σ p)).head? = some p ∧ pSt (oPr (reduceM σ p) p) = 1 ∧ u2 = oSp σ + 1) ∨ (¬ pSt (oPr (reduceM σ p) p) = 1 ∧ u2 = 0) := by
        rcases k2 _ hhd with (z | z) | z
        · exact Or.inl z
        · exact Or.inr ⟨by omega, z.2⟩
        · exact Or.inr ⟨by omega, z.2⟩
      rcases hcase with ⟨g1, g2, rfl⟩ | ⟨g2, rfl⟩
      · cases hl2 : oQu (reduceM σ p) with
        | nil => rw [hl2] at g1; cases g1
        | cons x l2 =>
          obtain rfl : x = p := by rw [hl2] at g1; cases g1; rfl
          by_cases hlt : nI (oSp σ + 1) < oQt (reduceM σ x)
          · have et : turnM (reduceM σ x) x = sSp (reduceM σ x) (oSp σ + 1) := by unfold turnM; rw [s2, if_pos g2, if_pos hlt]
            rw [et]
            refine x_aload_n d_N_run_52 rfl rfl ?_
            refine n_get (v := (nI (l2.length + 1))) d_N_run_53 lf_N_101 nl rfl (by rw [y2.2.2.1.1, hl2]; rfl) ?_
            refine x_if_le (tgt := 83) d_N_run_56 rfl (fun w_ => absurd w_ (nI_nle (by omega) (by rw [hl2, List.length_cons] at hlen2; omega))) (fun q56 => ?_)
            refine x_aload_n d_N_run_59 rfl rfl ?_
            refine n_fld (j := 15) d_N_run_60 lf_N_53 nl (by decide) rfl rfl ?_
            refine x_iconst (v := (nI 0)) d_N_run_63 (by decide) ?_
            refine n_ld (j := 15) (i := 0) (n := 12) (v := (nI x)) d_N_run_64 nl (by decide) (by decide) rfl rfl (by decide) (by decide) (y2.2.2.1.2 0 x (by rw [hl2]; rfl)) ?_
            refine x_iload_n d_N_run_65 rfl rfl ?_
            refine x_icmp_ne (tgt := 83) d_N_run_66 rfl (fun w_ => absurd rfl w_) (fun q66 => ?_)
            refine x_aload_n d_N_run_69 rfl rfl ?_
            refine n_fld (j := 6) d_N_run_70 lf_N_25 nl (by decide) rfl rfl ?_
            refine x_iload_n d_N_run_73 rfl rfl ?_
            refine n_ld (j := 6) (i := x) (n := 12) (v := (nI 1)) d_N_run_74 nl (by decide) (by decide) rfl rfl (by omega) (by decide) (by rw [yp2.st, g2]) ?_
            refine x_iconst (v := (nI 1)) d_N_run_75 (by decide) ?_
            refine x_icmp_ne (tgt := 83) d_N_run_76 rfl (fun w_ => absurd rfl w_) (fun q76 => ?_)
            refine x_iconst (v := (nI 1)) d_N_run_79 (by decide) ?_
            refine x_goto (tgt := 84) d_N_run_80 rfl ?_
            refine x_istore d_N_run_84 (by decide) (L' := [some (.ref r), some (.int (nI n)), some (.int (nI (k + 1))), some (.int (nI x)), some (.int (nI 1))]) rfl ?_
            refine x_iload d_N_run_86 rfl ?_
            refine x_if_eq (tgt := 112) d_N_run_88 rfl (fun w_ => absurd w_ (by decide)) (fun q88 => ?_)
            refine x_aload_n d_N_run_91 rfl rfl ?_
            refine n_get (v := (nI (oSp σ + 1))) d_N_run_92 lf_N_104 nl rfl y2.1.2.2.2 ?_
            refine x_aload_n d_N_run_95 rfl rfl ?_
            refine n_get (v := (oQt (reduceM σ x))) d_N_run_96 lf_N_62 nl rfl y2.1.1 ?_
            refine x_icmp_lt (tgt := 112) d_N_run_99 rfl (fun q99 => ?_) (fun w_ => absurd hlt w_)
            refine x_goto (tgt := 14) d_N_run_112 rfl ?_
            exact ih (k + 1) _ A2 _ _ (N + 1) y2 v2 vc2 (by omega) (by omega)
          · have et : turnM (reduceM σ x) x = sSp (sQu (reduceM σ x) ((oQu (reduceM σ x)).filter (fun z => z ≠ x) ++ [x])) 0 := by unfold turnM; rw [s2, if_pos g2, if_neg hlt]
            rw [et]
            refine x_aload_n d_N_run_52 rfl rfl ?_
            refine n_get (v := (nI (l2.length + 1))) d_N_run_53 lf_N_101 nl rfl (by rw [y2.2.2.1.1, hl2]; rfl) ?_
            refine x_if_le (tgt := 83) d_N_run_56 rfl (fun w_ => absurd w_ (nI_nle (by omega) (by rw [hl2, List.length_cons] at hlen2; omega))) (fun q56 => ?_)
            refine x_aload_n d_N_run_59 rfl rfl ?_
            refine n_fld (j := 15) d_N_run_60 lf_N_53 nl (by decide) rfl rfl ?_
            refine x_iconst (v := (nI 0)) d_N_run_63 (by decide) ?_
            refine n_ld (j := 15) (i := 0) (n := 12) (v := (nI x)) d_N_run_64 nl (by decide) (by decide) rfl rfl (by decide) (by decide) (y2.2.2.1.2 0 x (by rw [hl2]; rfl)) ?_
            refine x_iload_n d_N_run_65 rfl rfl ?_
            refine x_icmp_ne (tgt := 83) d_N_run_66 rfl (fun w_ => absurd rfl w_) (fun q66 => ?_)
            refine x_aload_n d_N_run_69 rfl rfl ?_
            refine n_fld (j := 6) d_N_run_70 lf_N_25 nl (by decide) rfl rfl ?_
            refine x_iload_n d_N_run_73 rfl rfl ?_
            refine n_ld (j := 6) (i := x) (n := 12) (v := (nI 1)) d_N_run_74 nl (by decide) (by decide) rfl rfl (by omega) (by decide) (by rw [yp2.st, g2]) ?_
            refine x_iconst (v := (nI 1)) d_N_run_75 (by decide) ?_
            refine x_icmp_ne (tgt := 83) d_N_run_76 rfl (fun w_ => absurd rfl w_) (fun q76 => ?_)
            refine x_iconst (v := (nI 1)) d_N_run_79 (by decide) ?_
            refine x_goto (tgt := 84) d_N_run_80 rfl ?_
            refine x_istore d_N_run_84 (by decide) (L' := [some (.ref r), some (.int (nI n)), some (.int (nI (k + 1))), some (.int (nI x)), some (.int (nI 1))]) rfl ?_
            refine x_iload d_N_run_86 rfl ?_
            refine x_if_eq (tgt := 112) d_N_run_88 rfl (fun w_ => absurd w_ (by decide)) (fun q88 => ?_)
            refine x_aload_n d_N_run_91 rfl rfl ?_
            refine n_get (v := (nI (oSp σ + 1))) d_N_run_92 lf_N_104 nl rfl y2.1.2.2.2 ?_
            refine x_aload_n d_N_run_95 rfl rfl ?_
            refine n_get (v := (oQt (reduceM σ x))) d_N_run_96 lf_N_62 nl rfl y2.1.1 ?_
            refine x_icmp_lt (tgt := 112) d_N_run_99 rfl (fun w_ => absurd w_ hlt) (fun q99 => ?_)
            refine x_aload_n d_N_run_102 rfl rfl ?_
            refine x_iload_n d_N_run_103 rfl rfl ?_
            refine x_invv d_N_run_104 lm_N_125 (as := [.int (nI x)]) (S := []) (cz' := 0) (cs' := 0) (c_N_leave nl y2 v2.Q (by omega)) nl.o rfl rfl rfl (Nat.le_of_ble_eq_true rfl) (by omega) (by decide) (by decide) ?_
            rintro _ _ ⟨rfl, A3, rfl, y3, e3⟩
            have hu : luM (reduceM σ x) x (oSp σ + 1) = 0 := if_pos g1
            rw [hu] at y3
            have hlf : (oQu (leaveM (reduceM σ x) x)).length < 12 := by
              show ((oQu (reduceM σ x)).filter (fun z => z ≠ x)).length < 12
              have h0 : ((oQu (reduceM σ x)).filter (fun z => z ≠ x)).length ≤ l2.length := by rw [hl2, List.filter_cons_of_neg (by simp)]; exact List.length_filter_le _ _
              rw [hl2, List.length_cons] at hlen2
              omega
            refine x_aload_n d_N_run_107 rfl rfl ?_
            refine x_iload_n d_N_run_108 rfl rfl ?_
            refine x_invv d_N_run_109 lm_N_111 (as := [.int (nI x)]) (S := []) (cz' := 0) (cs' := 0) (c_N_come (n := (oQu (leaveM (reduceM σ x) x)).length) nl y3.2.2.1.1 hlf _) nl.o rfl rfl rfl (Nat.le_of_ble_eq_true rfl) (by omega) (by decide) (by decide) ?_
            rintro _ _ ⟨rfl, rfl⟩
            have y4 := y3.come (q := x) v2.L
            refine x_goto (tgt := 14) d_N_run_112 rfl ?_
            exact ih (k + 1) _ _ _ _ (N + 1) y4 (et ▸ (turn_v v2 hp2).1) vc2 (by omega) (by omega)
      · have et : turnM (reduceM σ p) p = sSp (reduceM σ p) 0 := by unfold turnM; rw [if_neg g2]
        rw [et]
        cases hl2 : oQu (reduceM σ p) with
        | nil =>
          refine x_aload_n d_N_run_52 rfl rfl ?_
          refine n_get (v := (nI 0)) d_N_run_53 lf_N_101 nl rfl (by rw [y2.2.2.1.1, hl2]; rfl) ?_
          refine x_if_le (tgt := 83) d_N_run_56 rfl (fun q56 => ?_) (fun w_ => absurd (by decide) w_)
          refine x_iconst (v := (nI 0)) d_N_run_83 (by decide) ?_
          refine x_istore d_N_run_84 (by decide) (L' := [some (.ref r), some (.int (nI n)), some (.int (nI (k + 1))), some (.int (nI p)), some (.int (nI 0))]) rfl ?_
          refine x_iload d_N_run_86 rfl ?_
          refine x_if_eq (tgt := 112) d_N_run_88 rfl (fun q88 => ?_) (fun w_ => absurd rfl w_)
          refine x_goto (tgt := 14) d_N_run_112 rfl ?_
          exact ih (k + 1) _ A2 _ _ (N + 1) y2 v2 vc2 (by omega) (by omega)
        | cons x l2 =>
          have hx := v2.2.1.2.1 x (by rw [hl2]; exact List.mem_cons_self)
          have hxp : x ≠ p := fun z => g2 (by have h := hx.2; rw [z] at h; exact h)
          refine x_aload_n d_N_run_52 rfl rfl ?_
          refine n_get (v := (nI (l2.length + 1))) d_N_run_53 lf_N_101 nl rfl (by rw [y2.2.2.1.1, hl2]; rfl) ?_
          refine x_if_le (tgt := 83) d_N_run_56 rfl (fun w_ => absurd w_ (nI_nle (by omega) (by rw [hl2, List.length_cons] at hlen2; omega))) (fun q56 => ?_)
          refine x_aload_n d_N_run_59 rfl rfl ?_
          refine n_fld (j := 15) d_N_run_60 lf_N_53 nl (by decide) rfl rfl ?_
          refine x_iconst (v := (nI 0)) d_N_run_63 (by decide) ?_
          refine n_ld (j := 15) (i := 0) (n := 12) (v := (nI x)) d_N_run_64 nl (by decide) (by decide) rfl rfl (by decide) (by decide) (y2.2.2.1.2 0 x (by rw [hl2]; rfl)) ?_
          refine x_iload_n d_N_run_65 rfl rfl ?_
          refine x_icmp_ne (tgt := 83) d_N_run_66 rfl (fun q66 => ?_) (fun w_ => absurd w_ (fun z => hxp ((nI_eq (by omega) (by omega)).mp z)))
          refine x_iconst (v := (nI 0)) d_N_run_83 (by decide) ?_
          refine x_istore d_N_run_84 (by decide) (L' := [some (.ref r), some (.int (nI n)), some (.int (nI (k + 1))), some (.int (nI p)), some (.int (nI 0))]) rfl ?_
          refine x_iload d_N_run_86 rfl ?_
          refine x_if_eq (tgt := 112) d_N_run_88 rfl (fun q88 => ?_) (fun w_ => absurd rfl w_)
          refine x_goto (tgt := 14) d_N_run_112 rfl ?_
          exact ih (k + 1) _ A2 _ _ (N + 1) y2 v2 vc2 (by omega) (by omega)
theorem c_N_run {E : th_E} {h : th_H} {r : Nat} {A : Nat → Nat → Int32} (nl : NL r h) {N n : Nat} {σ : Ho} (y : NR A σ (oSp σ)) (v : vPs N σ) (vc : vCd σ) (hn1 : 1 ≤ n) (hn : n ≤ 15) (hN : N + n < 2 ^ 30) : Xc E m_N_run 7 0 0 [.ref r, .int (nI n)] (ov r h A) (Nx r h (some (.int (nI (runM n σ).2))) (fun A' => NR A' (runM n σ).1 (oSp (runM n σ).1))) := by
  refine Xc.of (by decide) (by simp [Value.category]) (Nat.le_of_ble_eq_true rfl) ?_
  show Xw E m_N_run 7 0 0 0 [some (.ref r), some (.int (nI n)), none, none, none] [] (ov r h A) _
  refine x_iload_n d_N_run_0 rfl rfl ?_
  refine x_iconst (v := (nI 1)) d_N_run_1 (by decide) ?_
  refine x_bipush (v := (nI 15)) d_N_run_2 (by decide) ?_
  refine x_invs d_N_run_4 lm_N_81 (as := [.int (nI n), .int (nI 1), .int (nI 15)]) (S := []) (cz' := 0) (cs' := 0) (c_N_in _ _ _) rfl rfl (Nat.le_of_ble_eq_true rfl) (by omega) (by decide) (by decide) ?_
  rintro _ _ ⟨rfl, rfl⟩
  refine x_if_ne (tgt := 12) d_N_run_7 rfl (fun q7 => ?_) (fun w_ => absurd w_ (fun z => iB_0.mp z ⟨nI_le hn1 (by omega), nI_le hn (by decide)⟩))
  refine x_iconst (v := (nI 0)) d_N_run_12 (by decide) ?_
  refine x_istore_n d_N_run_13 rfl (by decide) (L' := [some (.ref r), some (.int (nI n)), some (.int (nI 0)), none, none]) rfl ?_
  exact (by have key := N_run_loop (E := E) nl hn n 0 σ A none none N y v vc (by omega) (by omega); rw [Nat.zero_add] at key; exact key)
theorem c_N_run_no {E : th_E} {h : th_H} {r : Nat} {A : Nat → Nat → Int32} (nl : NL r h) {x : Int32} (hx : ¬ (nI 1 ≤ x ∧ x ≤ nI 15)) : Xc E m_N_run 7 0 0 [.ref r, .int x] (ov r h A) (Ex (some (.int (-1))) (ov r h A)) := by
  refine Xc.of (by decide) (by simp [Value.category]) (Nat.le_of_ble_eq_true rfl) ?_
  show Xw E m_N_run 7 0 0 0 [some (.ref r), some (.int x), none, none, none] [] (ov r h A) _
  refine x_iload_n d_N_run_0 rfl rfl ?_
  refine x_iconst (v := (nI 1)) d_N_run_1 (by decide) ?_
  refine x_bipush (v := (nI 15)) d_N_run_2 (by decide) ?_
  refine x_invs d_N_run_4 lm_N_81 (as := [.int x, .int (nI 1), .int (nI 15)]) (S := []) (cz' := 0) (cs' := 0) (c_N_in _ _ _) rfl rfl (Nat.le_of_ble_eq_true rfl) (by omega) (by decide) (by decide) ?_
  rintro _ _ ⟨rfl, rfl⟩
  refine x_if_ne (tgt := 12) d_N_run_7 rfl (fun w_ => absurd (iB_f hx) w_) (fun q7 => ?_)
  refine x_iconst (v := (-1)) d_N_run_10 (by decide) ?_
  exact x_iret d_N_run_11 rfl rfl ⟨rfl, rfl⟩
