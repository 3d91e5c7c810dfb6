/-! The reference: start, named, sameness (printed by wip/gen/mod_ref4.py). -/
/-- a process more -/
theorem NR.add {A A' : Nat → Nat → Int32} {σ : Ho} {u : Nat} {P' : Pr} (y : NR A σ u) (v : vLs σ) (hc : oCt σ < 12) (e : ∀ j i, ¬ own (oCt σ) j i → ¬ fre j i → ¬ (j = 0 ∧ i = 7) → A' j i = A j i) (h7 : A' 0 7 = nI (oCt σ + 1)) (q : nPr A' (oCt σ) P') : NR A' (sCt (sPr σ (oCt σ) P') (oCt σ + 1)) u := by
  have e0 : ∀ k, k ≠ 7 → A' 0 k = A 0 k := fun k hk => e 0 k (fun z => by unfold own at z; omega) (fun z => by unfold fre at z; omega) (fun z => hk z.2)
  have e1 : ∀ j i, (j = 1 ∨ j = 2 ∨ j = 3 ∨ j = 4 ∨ j = 15) → A' j i = A j i := fun j i hj => e j i (fun z => by unfold own at z; omega) (fun z => by unfold fre at z; omega) (fun z => by omega)
  refine ⟨⟨(e0 0 (by decide)).trans y.1.1, (e0 1 (by decide)).trans y.1.2.1, h7, (e0 19 (by decide)).trans y.1.2.2.2⟩, fun i q hq => ?_, ⟨(e0 17 (by decide)).trans y.2.2.1.1, fun i x hx => (e1 15 i (by decide)).trans (y.2.2.1.2 i x hx)⟩, fun x hx => ?_⟩
  · have := y.2.1 i q hq
    exact ⟨(e1 1 i (by decide)).trans this.1, (e1 2 i (by decide)).trans this.2.1, (e1 3 i (by decide)).trans this.2.2.1, (e1 4 i (by decide)).trans this.2.2.2⟩
  · replace hx : x < oCt σ + 1 := hx
    show nPr A' x (va_up (oPr σ) (oCt σ) P' x)
    by_cases h : x = oCt σ
    · rw [h, va_up_self]; exact q
    · rw [va_up_ne _ _ h]
      exact (y.2.2.2 x (by omega)).eqv (v.2 x (by omega)) (fun j i ho => e j i (own_ne h ho) (own_fre (by omega) ho) (fun z => by unfold own at ho; omega))
theorem N_start_loop {E : th_E} {h : th_H} {r : Nat} (nl : NL r h) {A0 : Nat → Nat → Int32} {n : Nat} (hn : n < 12) {l s : Int32} {Post : Option Value → th_H → Prop} (K : ∀ A, (∀ j, 1 ≤ j → j < 8 → SL A (21 * n + j) (tF nilT)) → (∀ j i, ¬ (j = 5 ∧ 672 * n ≤ i ∧ i < 672 * n + 672) → A j i = A0 j i) → Xw E m_N_start 1 0 0 44 [some (.ref r), some (.int l), some (.int s), some (.int (nI n)), some (.int (nI 8))] [] (ov r h A) Post) : ∀ m k A, k + m = 8 → 1 ≤ k → (∀ j, 1 ≤ j → j < k → SL A (21 * n + j) (tF nilT)) → (∀ j i, ¬ (j = 5 ∧ 672 * n ≤ i ∧ i < 672 * n + 672) → A j i = A0 j i) → Xw E m_N_start 1 0 0 18 [some (.ref r), some (.int l), some (.int s), some (.int (nI n)), some (.int (nI k))] [] (ov r h A) Post := by
  intro m
  induction m with
  | zero =>
    intro k A hk h1 sl fr
    obtain rfl : k = 8 := by omega
    refine x_iload d_N_start_18 rfl ?_
    refine x_bipush (v := (nI 8)) d_N_start_20 (by decide) ?_
    exact x_icmp_ge (tgt := 44) d_N_start_22 rfl (fun _ => K A sl fr) (fun q => absurd (nI_le (a := 8) (b := 8) (by omega) (by omega)) q)
  | succ m ih =>
    intro k A hkm h1 sl fr
    refine x_iload d_N_start_18 rfl ?_
    refine x_bipush (v := (nI 8)) d_N_start_20 (by decide) ?_
    refine x_icmp_ge (tgt := 44) d_N_start_22 rfl (fun q22 => ?_) (fun q22 => ?_)
    · obtain rfl : k = 8 := by have := (nI_leI (a := 8) (by omega) (by omega)).mp q22; omega
      exact K A sl fr
    · have hk : k < 8 := Nat.lt_of_not_le (fun z => q22 (nI_le z (by omega)))
      refine x_aload_n d_N_start_25 rfl rfl ?_
      refine x_bipush (v := (nI 21)) d_N_start_26 (by decide) ?_
      refine x_iload_n d_N_start_28 rfl rfl ?_
      refine x_imul (v := (nI (21 * n))) d_N_start_29 (pk_mul _ _) ?_
      refine x_iload d_N_start_30 rfl ?_
      refine x_iadd (v := (nI (21 * n + k))) d_N_start_32 (nI_add _ _) ?_
      refine x_iconst (v := (nI 3)) d_N_start_33 (by decide) ?_
      refine x_iconst (v := (nI 0)) d_N_start_34 (by decide) ?_
      refine x_invv d_N_start_35 lm_N_115 (as := [.int (nI (21 * n + k)), .int (nI 3), .int (nI 0)]) (S := []) (cz' := 0) (cs' := 0) (c_N_put nl (by omega) _ _) nl.o rfl rfl rfl (Nat.le_of_ble_eq_true rfl) (by omega) (by decide) (by decide) ?_
      rintro _ _ ⟨rfl, rfl⟩
      have e1 : Tb (21 * n + k) A (putA A (21 * n + k) (nI 3) (nI 0)) := Tb.put
      have q1 : SL (putA A (21 * n + k) (nI 3) (nI 0)) (21 * n + k) (tF nilT) := SL.put
      generalize putA A (21 * n + k) (nI 3) (nI 0) = A1 at e1 q1 ⊢
      refine x_iinc d_N_start_38 rfl (v := (nI (k + 1))) (nI_1 _) (by decide) (L' := [some (.ref r), some (.int l), some (.int s), some (.int (nI n)), some (.int (nI (k + 1)))]) rfl ?_
      refine x_goto (tgt := 18) d_N_start_41 rfl ?_
      exact ih (k + 1) A1 (by omega) (by omega) (fun j h1 h2 => by by_cases hj : j = k; exact (by rw [hj]; exact q1); exact (sl j h1 (by omega)).tb (by decide) e1 (by omega)) (fun j i hn => (e1 j i (fun z => hn ⟨z.1, by omega, by omega⟩)).trans (fr j i hn))
theorem c_N_start {E : th_E} {h : th_H} {r : Nat} {A : Nat → Nat → Int32} (nl : NL r h) {N u : Nat} {σ : Ho} (y : NR A σ u) (v : vPs N σ) {l s : Nat} {t : Tm} (hc : oCt σ < 12) (hl : l < 48) (hs : s < 254) (hsn : s < 21 * oCt σ ∨ 252 ≤ s) (sl : SL A s (tF t)) (ht : vTm t) : Xc E m_N_start 1 0 0 [.ref r, .int (nI l), .int (nI s)] (ov r h A) (Nx r h (some (.int (nI (oCt σ)))) (fun A' => NR A' (startM σ l t) u)) := by
  refine Xc.of (by decide) (by simp [Value.category]) (Nat.le_of_ble_eq_true rfl) ?_
  show Xw E m_N_start 1 0 0 0 [some (.ref r), some (.int (nI l)), some (.int (nI s)), none, none] [] (ov r h A) _
  have hlt := ht.len
  have hqr : (oQu σ).length < 12 := Nat.lt_of_le_of_lt (nodup_len _ _ v.2.1.1 (fun x hx => (v.2.1.2.1 x hx).1)) hc
  refine x_aload_n d_N_start_0 rfl rfl ?_
  refine n_get (v := (nI (oCt σ))) d_N_start_1 lf_N_131 nl rfl y.1.2.2.1 ?_
  refine x_istore_n d_N_start_4 rfl (by decide) (L' := [some (.ref r), some (.int (nI l)), some (.int (nI s)), some (.int (nI (oCt σ))), none]) rfl ?_
  refine x_aload_n d_N_start_5 rfl rfl ?_
  refine x_aload_n d_N_start_6 rfl rfl ?_
  refine n_get (v := (nI (oCt σ))) d_N_start_7 lf_N_131 nl rfl y.1.2.2.1 ?_
  refine x_iconst (v := (nI 1)) d_N_start_10 (by decide) ?_
  refine x_iadd (v := (nI (oCt σ + 1))) d_N_start_11 (nI_add _ _) ?_
  refine n_put (v := (nI (oCt σ + 1))) d_N_start_12 lp_N_131 nl rfl ?_
  refine x_iconst (v := (nI 1)) d_N_start_15 (by decide) ?_
  refine x_istore d_N_start_16 (by decide) (L' := [some (.ref r), some (.int (nI l)), some (.int (nI s)), some (.int (nI (oCt σ))), some (.int (nI 1))]) rfl ?_
  refine N_start_loop (A0 := up A 0 7 (nI (oCt σ + 1))) nl hc (fun A1 sl1 fr1 => ?_) 7 1 _ rfl (Nat.le_refl _) (fun j h1 h2 => by omega) (fun _ _ _ => rfl)
  have sls : SL A1 s (tF t) := sl.eqv hlt (fun i h1 h2 => (fr1 5 i (fun z => by omega)).trans (up_r (by decide)))
  refine x_aload_n d_N_start_44 rfl rfl ?_
  refine x_iload_n d_N_start_45 rfl rfl ?_
  refine x_bipush (v := (nI 21)) d_N_start_46 (by decide) ?_
  refine x_iload_n d_N_start_48 rfl rfl ?_
  refine x_imul (v := (nI (21 * (oCt σ)))) d_N_start_49 (pk_mul _ _) ?_
  refine x_invv d_N_start_50 lm_N_107 (as := [.int (nI s), .int (nI (21 * (oCt σ)))]) (S := []) (cz' := 0) (cs' := 0) (c_N_copy nl hs (by omega) sls.1 hlt) nl.o rfl rfl rfl (Nat.le_of_ble_eq_true rfl) (by omega) (by decide) (by decide) ?_
  rintro _ _ ⟨rfl, rfl⟩
  have e2 : Tb (21 * oCt σ) A1 (cpA A1 s (21 * oCt σ) (2 * (tF t).length + 1)) := Tb.cp (by omega)
  have q2 : SL (cpA A1 s (21 * oCt σ) (2 * (tF t).length + 1)) (21 * oCt σ) (tF t) := sls.cp rfl
  generalize (cpA A1 s (21 * oCt σ) (2 * (tF t).length + 1)) = A2 at e2 q2 ⊢
  refine x_aload_n d_N_start_53 rfl rfl ?_
  refine n_fld (j := 6) d_N_start_54 lf_N_25 nl (by decide) rfl rfl ?_
  refine x_iload_n d_N_start_57 rfl rfl ?_
  refine x_iconst (v := (nI 1)) d_N_start_58 (by decide) ?_
  refine n_st (j := 6) (i := oCt σ) (n := 12) (v := (nI 1)) d_N_start_59 nl (by decide) (by decide) rfl rfl (by omega) (by decide) ?_
  refine x_aload_n d_N_start_60 rfl rfl ?_
  refine n_fld (j := 7) d_N_start_61 lf_N_28 nl (by decide) rfl rfl ?_
  refine x_iload_n d_N_start_64 rfl rfl ?_
  refine x_iload_n d_N_start_65 rfl rfl ?_
  refine n_st (j := 7) (i := oCt σ) (n := 12) (v := (nI l)) d_N_start_66 nl (by decide) (by decide) rfl rfl (by omega) (by decide) ?_
  refine x_aload_n d_N_start_67 rfl rfl ?_
  refine n_fld (j := 8) d_N_start_68 lf_N_31 nl (by decide) rfl rfl ?_
  refine x_iload_n d_N_start_71 rfl rfl ?_
  refine x_iconst (v := (nI 0)) d_N_start_72 (by decide) ?_
  refine n_st (j := 8) (i := oCt σ) (n := 12) (v := (nI 0)) d_N_start_73 nl (by decide) (by decide) rfl rfl (by omega) (by decide) ?_
  refine x_aload_n d_N_start_74 rfl rfl ?_
  refine n_fld (j := 9) d_N_start_75 lf_N_34 nl (by decide) rfl rfl ?_
  refine x_iload_n d_N_start_78 rfl rfl ?_
  refine x_iconst (v := (nI 0)) d_N_start_79 (by decide) ?_
  refine n_st (j := 9) (i := oCt σ) (n := 12) (v := (nI 0)) d_N_start_80 nl (by decide) (by decide) rfl rfl (by omega) (by decide) ?_
  refine x_aload_n d_N_start_81 rfl rfl ?_
  refine n_fld (j := 10) d_N_start_82 lf_N_37 nl (by decide) rfl rfl ?_
  refine x_iload_n d_N_start_85 rfl rfl ?_
  refine x_iconst (v := (nI 0)) d_N_start_86 (by decide) ?_
  refine n_st (j := 10) (i := oCt σ) (n := 12) (v := (nI 0)) d_N_start_87 nl (by decide) (by decide) rfl rfl (by omega) (by decide) ?_
  refine x_aload_n d_N_start_88 rfl rfl ?_
  refine n_fld (j := 12) d_N_start_89 lf_N_43 nl (by decide) rfl rfl ?_
  refine x_iload_n d_N_start_92 rfl rfl ?_
  refine x_iconst (v := (nI 0)) d_N_start_93 (by decide) ?_
  refine n_st (j := 12) (i := oCt σ) (n := 12) (v := (nI 0)) d_N_start_94 nl (by decide) (by decide) rfl rfl (by omega) (by decide) ?_
  refine x_aload_n d_N_start_95 rfl rfl ?_
  refine n_fld (j := 13) d_N_start_96 lf_N_46 nl (by decide) rfl rfl ?_
  refine x_iload_n d_N_start_99 rfl rfl ?_
  refine x_iconst (v := (nI 0)) d_N_start_100 (by decide) ?_
  refine n_zst (i := oCt σ) (v := (nI 0)) d_N_start_101 nl (by omega) (Or.inl rfl) ?_
  refine x_aload_n d_N_start_102 rfl rfl ?_
  refine n_fld (j := 14) d_N_start_103 lf_N_50 nl (by decide) rfl rfl ?_
  refine x_iload_n d_N_start_106 rfl rfl ?_
  refine x_iconst (v := (nI 0)) d_N_start_107 (by decide) ?_
  refine n_st (j := 14) (i := oCt σ) (n := 12) (v := (nI 0)) d_N_start_108 nl (by decide) (by decide) rfl rfl (by omega) (by decide) ?_
  have np : nPr (up (up (up (up (up (up (up (up A2 6 (oCt σ) (nI 1)) 7 (oCt σ) (nI l)) 8 (oCt σ) (nI 0)) 9 (oCt σ) (nI 0)) 10 (oCt σ) (nI 0)) 12 (oCt σ) (nI 0)) 13 (oCt σ) (nI 0)) 14 (oCt σ) (nI 0)) (oCt σ) (newP l t) := by
    refine ⟨?_, ?_, ?_, ?_, ?_, ?_, ?_, ?_, fun i x hx => (by cases hx), fun k hk => ?_, fun u hu => (by cases hu), fun i u hu => (by cases hu)⟩
    iterate 8 · simp [up, newP]; try rfl
    show SL _ (21 * oCt σ + k) (tF (va_up (fun _ => nilT) 0 t k))
    refine SL.up (SL.up (SL.up (SL.up (SL.up (SL.up (SL.up (SL.up ?_ (by decide)) (by decide)) (by decide)) (by decide)) (by decide)) (by decide)) (by decide)) (by decide)
    by_cases h : k = 0
    · rw [h, va_up_self]; exact q2
    · rw [va_up_ne _ _ h]; exact (sl1 k (by omega) hk).tb (by decide) e2 (by omega)
  have y3 : NR (up (up (up (up (up (up (up (up A2 6 (oCt σ) (nI 1)) 7 (oCt σ) (nI l)) 8 (oCt σ) (nI 0)) 9 (oCt σ) (nI 0)) 10 (oCt σ) (nI 0)) 12 (oCt σ) (nI 0)) 13 (oCt σ) (nI 0)) 14 (oCt σ) (nI 0)) (sCt (sPr σ (oCt σ) (newP l t)) (oCt σ + 1)) u := y.add v.L hc (fun j i h1 h2 h3 => by
    have g : ∀ m, (m = 6 ∨ m = 7 ∨ m = 8 ∨ m = 9 ∨ m = 10 ∨ m = 12 ∨ m = 13 ∨ m = 14) → ¬ (j = m ∧ i = oCt σ) := fun m hm z => h1 (Or.inr (Or.inr ⟨z.2, by rw [z.1]; exact hm⟩))
    have g5 : ¬ (j = 5 ∧ 672 * oCt σ ≤ i ∧ i < 672 * oCt σ + 672) := fun z => h1 (Or.inl z)
    rw [up_n (g 14 (by decide)), up_n (g 13 (by decide)), up_n (g 12 (by decide)), up_n (g 10 (by decide)), up_n (g 9 (by decide)), up_n (g 8 (by decide)), up_n (g 7 (by decide)), up_n (g 6 (by decide)), e2 j i (fun z => g5 ⟨z.1, by omega, by omega⟩), fr1 j i g5, up_n h3]) (by
    rw [up_r (by decide), up_r (by decide), up_r (by decide), up_r (by decide), up_r (by decide), up_r (by decide), up_r (by decide), up_r (by decide), e2.r (by decide), fr1 _ _ (fun z => absurd z.1 (by decide)), up_s]) np
  generalize (up (up (up (up (up (up (up (up A2 6 (oCt σ) (nI 1)) 7 (oCt σ) (nI l)) 8 (oCt σ) (nI 0)) 9 (oCt σ) (nI 0)) 10 (oCt σ) (nI 0)) 12 (oCt σ) (nI 0)) 13 (oCt σ) (nI 0)) 14 (oCt σ) (nI 0)) = A3 at y3 ⊢
  have v3 : vLs (sCt (sPr σ (oCt σ) (newP l t)) (oCt σ + 1)) := ⟨hc, fun x hx => ((v.start hc (by omega) ht).2.2 x hx).L⟩
  refine x_aload_n d_N_start_109 rfl rfl ?_
  refine x_iload_n d_N_start_110 rfl rfl ?_
  refine x_invv d_N_start_111 lm_N_111 (as := [.int (nI (oCt σ))]) (S := []) (cz' := 0) (cs' := 0) (c_N_come (n := (oQu σ).length) nl y3.2.2.1.1 hqr _) nl.o rfl rfl rfl (Nat.le_of_ble_eq_true rfl) (by omega) (by decide) (by decide) ?_
  rintro _ _ ⟨rfl, rfl⟩
  refine x_iload_n d_N_start_114 rfl rfl ?_
  exact x_iret d_N_start_115 rfl rfl ⟨rfl, _, rfl, y3.come v3⟩
