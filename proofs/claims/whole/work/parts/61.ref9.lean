/-! The reference: a message taken; life (printed by wip/gen/mod_ref9.py). -/
theorem N_take_loop {E : th_E} {h : th_H} {r : Nat} (nl : NL r h) {A0 : Nat → Nat → Int32} {p m n : Nat} (hp : p < 12) {ms : List Tm} (hn : ms.length = n + 1) (h12 : n < 12) (hms : ∀ t ∈ ms, (tF t).length ≤ 15) (h9 : A0 9 p = nI n) {a0 b0 w6 : Int32} {Post : Option Value → th_H → Prop} (K : ∀ A, (∀ i t, i < n → (ms.eraseIdx m)[i]? = some t → SL A (21 * p + 9 + i) (tF t)) → (∀ i t, n ≤ i → ms[i]? = some t → SL A (21 * p + 9 + i) (tF t)) → (∀ j i, ¬ (j = 5 ∧ 672 * p + 288 ≤ i ∧ i < 672 * p + 672) → A j i = A0 j i) → Xw E m_N_mail 4 0 0 194 [some (.ref r), some (.int (nI p)), some (.int (nI 19)), some (.int a0), some (.int b0), some (.int (nI 1)), some (.int w6), some (.int (nI n))] [] (ov r h A) Post) : ∀ (g k : Nat) (A : Nat → Nat → Int32), n + 1 ≤ g + k → m ≤ k → k ≤ n → (∀ i t, i < k → (ms.eraseIdx m)[i]? = some t → SL A (21 * p + 9 + i) (tF t)) → (∀ i t, k ≤ i → ms[i]? = some t → SL A (21 * p + 9 + i) (tF t)) → (∀ j i, ¬ (j = 5 ∧ 672 * p + 288 ≤ i ∧ i < 672 * p + 672) → A j i = A0 j i) → Xw E m_N_mail 4 0 0 151 [some (.ref r), some (.int (nI p)), some (.int (nI 19)), some (.int a0), some (.int b0), some (.int (nI 1)), some (.int w6), some (.int (nI k))] [] (ov r h A) Post := by
  intro g
  induction g with
  | zero => exact fun k A h1 h2 h3 => absurd h1 (by omega)
  | succ g ih =>
    intro k A h1 h2 h3 i1 i2 i3
    refine x_iload d_N_mail_151 rfl ?_
    refine x_aload_n d_N_mail_153 rfl rfl ?_
    refine n_fld (j := 9) d_N_mail_154 lf_N_34 nl (by decide) rfl rfl ?_
    refine x_iload_n d_N_mail_157 rfl rfl ?_
    refine n_ld (j := 9) (i := p) (n := 12) (v := (nI n)) d_N_mail_158 nl (by decide) (by decide) rfl rfl (by omega) (by decide) ((i3 9 p (by omega)).trans h9) ?_
    refine x_icmp_ge (tgt := 194) d_N_mail_159 rfl (fun q159 => ?_) (fun q159 => ?_)
    · obtain rfl : k = n := by have := (nI_leI (by omega) (by omega)).mp q159; omega
      exact K A i1 i2 i3
    · have hk : k < n := Nat.lt_of_not_le (fun z => q159 (nI_le z (by omega)))
      obtain ⟨t1, ht1⟩ : ∃ t1, ms[k + 1]? = some t1 := ⟨_, List.getElem?_eq_getElem (by omega)⟩
      have s1 := i2 (k + 1) t1 (by omega) ht1
      have hl1 := hms t1 (mem_gi ht1)
      refine x_aload_n d_N_mail_162 rfl rfl ?_
      refine x_bipush (v := (nI 21)) d_N_mail_163 (by decide) ?_
      refine x_iload_n d_N_mail_165 rfl rfl ?_
      refine x_imul (v := (nI (21 * p))) d_N_mail_166 (pk_mul _ _) ?_
      refine x_bipush (v := (nI 9)) d_N_mail_167 (by decide) ?_
      refine x_iadd (v := (nI (21 * p + 9))) d_N_mail_169 (nI_add _ _) ?_
      refine x_iload d_N_mail_170 rfl ?_
      refine x_iadd (v := (nI (21 * p + 9 + k))) d_N_mail_172 (nI_add _ _) ?_
      refine x_iconst (v := (nI 1)) d_N_mail_173 (by decide) ?_
      refine x_iadd (v := (nI (21 * p + 9 + k + 1))) d_N_mail_174 (nI_add _ _) ?_
      refine x_bipush (v := (nI 21)) d_N_mail_175 (by decide) ?_
      refine x_iload_n d_N_mail_177 rfl rfl ?_
      refine x_imul (v := (nI (21 * p))) d_N_mail_178 (pk_mul _ _) ?_
      refine x_bipush (v := (nI 9)) d_N_mail_179 (by decide) ?_
      refine x_iadd (v := (nI (21 * p + 9))) d_N_mail_181 (nI_add _ _) ?_
      refine x_iload d_N_mail_182 rfl ?_
      refine x_iadd (v := (nI (21 * p + 9 + k))) d_N_mail_184 (nI_add _ _) ?_
      refine x_invv d_N_mail_185 lm_N_107 (as := [.int (nI (21 * p + 9 + k + 1)), .int (nI (21 * p + 9 + k))]) (S := []) (cz' := 0) (cs' := 0) (c_N_copy (f := 21 * p + 9 + k + 1) nl (by omega) (by omega) s1.1 hl1) nl.o rfl rfl rfl (Nat.le_of_ble_eq_true rfl) (by omega) (by decide) (by decide) ?_
      rintro _ _ ⟨rfl, rfl⟩
      have e1 : Tb (21 * p + 9 + k) A (cpA A (21 * p + 9 + k + 1) (21 * p + 9 + k) (2 * (tF t1).length + 1)) := Tb.cp (by omega)
      have q1 : SL (cpA A (21 * p + 9 + k + 1) (21 * p + 9 + k) (2 * (tF t1).length + 1)) (21 * p + 9 + k) (tF t1) := s1.cp rfl
      generalize (cpA A (21 * p + 9 + k + 1) (21 * p + 9 + k) (2 * (tF t1).length + 1)) = A1 at e1 q1 ⊢
      refine x_iinc d_N_mail_188 rfl (v := (nI (k + 1))) (nI_1 _) (by decide) (L' := [some (.ref r), some (.int (nI p)), some (.int (nI 19)), some (.int a0), some (.int b0), some (.int (nI 1)), some (.int w6), some (.int (nI (k + 1)))]) rfl ?_
      refine x_goto (tgt := 151) d_N_mail_191 rfl ?_
      exact ih (k + 1) A1 (by omega) (by omega) (by omega) (fun i t hi ht => by by_cases hik : i = k; (subst hik; rw [List.getElem?_eraseIdx, if_neg (by omega), ht1] at ht; cases ht; exact q1); exact (i1 i t (by omega) ht).tb (hms t (List.mem_of_mem_eraseIdx (mem_gi ht))) e1 (by omega)) (fun i t hi ht => (i2 i t (by omega) ht).tb (hms t (mem_gi ht)) e1 (by omega)) (fun j i hn => (e1 j i (fun z => hn ⟨z.1, by omega, by omega⟩)).trans (i3 j i hn))
theorem nPr.s_take {A A' : Nat → Nat → Int32} {p n m : Nat} {P : Pr} (y : nPr A p P) (v : vL P) (hn : (pMs P).length = n + 1) (hm : m ≤ n) (h9 : A' 9 p = nI n) (i1 : ∀ i t, i < n → ((pMs P).eraseIdx m)[i]? = some t → SL A' (21 * p + 9 + i) (tF t)) (e : ∀ j i, ¬ (j = 5 ∧ 672 * p + 288 ≤ i ∧ i < 672 * p + 672) → ¬ (j = 9 ∧ i = p) → A' j i = A j i) : nPr A' p (sMs P ((pMs P).eraseIdx m)) := by
  have hl : ((pMs P).eraseIdx m).length = n := by rw [List.length_eraseIdx, if_pos (by omega), hn]; rfl
  have g : ∀ j i, j ≠ 5 → j ≠ 9 → A' j i = A j i := fun j i h1 h2 => e j i (fun z => h1 z.1) (fun z => h2 z.1)
  refine ⟨(g _ _ (by decide) (by decide)).trans y.st, (g _ _ (by decide) (by decide)).trans y.pl, (g _ _ (by decide) (by decide)).trans y.mk, by show _ = nI ((pMs P).eraseIdx m).length; rw [hl]; exact h9, (g _ _ (by decide) (by decide)).trans y.rl, (g _ _ (by decide) (by decide)).trans y.lk, (g _ _ (by decide) (by decide)).trans y.tr, (g _ _ (by decide) (by decide)).trans y.dn, fun i x hx => (g _ _ (by decide) (by decide)).trans (y.re i x hx), fun k hk => (y.rg k hk).eqv (v.1 k) (fun i h1 h2 => e 5 i (fun z => by omega) (fun z => by omega)), fun t ht => (y.rs t ht).eqv (v.2.2.2 t ht) (fun i h1 h2 => e 5 i (fun z => by omega) (fun z => by omega)), fun i t ht => ?_⟩
  replace ht : ((pMs P).eraseIdx m)[i]? = some t := ht
  have hi := (List.getElem?_eq_some_iff.mp ht).1
  exact i1 i t (by omega) ht
theorem n_ml19y {E : th_E} {h : th_H} {r : Nat} {A : Nat → Nat → Int32} (nl : NL r h) {N u : Nat} {σ : Ho} (y : NR A σ u) (v : vPs N σ) {p : Nat} (hp : p < oCt σ) (hN : N < 2 ^ 30) (hm : (pMk (oPr σ p)) < (pMs (oPr σ p)).length) (a0 b0 : Int32) : Xc E m_N_mail 4 0 0 [.ref r, .int (nI p), .int (nI 19), .int a0, .int b0] (ov r h A) (Pn r h σ u p (some (sPr σ p (sMk (sMs (oPr σ p) ((pMs (oPr σ p)).eraseIdx (pMk (oPr σ p)))) 0)))) := by
  refine Xc.of (by decide) (by simp [Value.category]) (Nat.le_of_ble_eq_true rfl) ?_
  show Xw E m_N_mail 4 0 0 0 [some (.ref r), some (.int (nI p)), some (.int (nI 19)), some (.int a0), some (.int b0), none, none, none] [] (ov r h A) _
  have yp := y.2.2.2 p hp
  have hp12 := Nat.lt_of_lt_of_le hp v.1
  have vp := (v.2.2 p hp).L
  have hmk := (v.2.2 p hp).2.2.2.2.1
  have hml := vp.2.2.1.1
  refine x_aload_n d_N_mail_0 rfl rfl ?_
  refine n_fld (j := 8) d_N_mail_1 lf_N_31 nl (by decide) rfl rfl ?_
  refine x_iload_n d_N_mail_4 rfl rfl ?_
  refine n_ld (j := 8) (i := p) (n := 12) (v := (nI (pMk (oPr σ p)))) d_N_mail_5 nl (by decide) (by decide) rfl rfl (by omega) (by decide) yp.mk ?_
  refine x_aload_n d_N_mail_6 rfl rfl ?_
  refine n_fld (j := 9) d_N_mail_7 lf_N_34 nl (by decide) rfl rfl ?_
  refine x_iload_n d_N_mail_10 rfl rfl ?_
  refine n_ld (j := 9) (i := p) (n := 12) (v := (nI ((pMs (oPr σ p)).length))) d_N_mail_11 nl (by decide) (by decide) rfl rfl (by omega) (by decide) yp.ml ?_
  refine x_icmp_ge (tgt := 19) d_N_mail_12 rfl (fun w_ => absurd w_ (nI_ge hm (by omega))) (fun q12 => ?_)
  refine x_iconst (v := (nI 1)) d_N_mail_15 (by decide) ?_
  refine x_goto (tgt := 20) d_N_mail_16 rfl ?_
  refine x_istore d_N_mail_20 (by decide) (L' := [some (.ref r), some (.int (nI p)), some (.int (nI 19)), some (.int a0), some (.int b0), some (.int (nI 1)), none, none]) rfl ?_
  refine x_bipush (v := (nI 21)) d_N_mail_22 (by decide) ?_
  refine x_iload_n d_N_mail_24 rfl rfl ?_
  refine x_imul (v := (nI (21 * p))) d_N_mail_25 (pk_mul _ _) ?_
  refine x_bipush (v := (nI 9)) d_N_mail_26 (by decide) ?_
  refine x_iadd (v := (nI (21 * p + 9))) d_N_mail_28 (nI_add _ _) ?_
  refine x_aload_n d_N_mail_29 rfl rfl ?_
  refine n_fld (j := 8) d_N_mail_30 lf_N_31 nl (by decide) rfl rfl ?_
  refine x_iload_n d_N_mail_33 rfl rfl ?_
  refine n_ld (j := 8) (i := p) (n := 12) (v := (nI (pMk (oPr σ p)))) d_N_mail_34 nl (by decide) (by decide) rfl rfl (by omega) (by decide) yp.mk ?_
  refine x_iadd (v := (nI (21 * p + 9 + (pMk (oPr σ p))))) d_N_mail_35 (nI_add _ _) ?_
  refine x_istore d_N_mail_36 (by decide) (L' := [some (.ref r), some (.int (nI p)), some (.int (nI 19)), some (.int a0), some (.int b0), some (.int (nI 1)), some (.int (nI (21 * p + 9 + (pMk (oPr σ p))))), none]) rfl ?_
  refine x_iload_n d_N_mail_38 rfl rfl ?_
  refine x_bipush (v := (nI 17)) d_N_mail_39 (by decide) ?_
  refine x_icmp_ne (tgt := 79) d_N_mail_41 rfl (fun q41 => ?_) (fun w_ => absurd w_ (by decide))
  refine x_iload_n d_N_mail_79 rfl rfl ?_
  refine x_bipush (v := (nI 18)) d_N_mail_80 (by decide) ?_
  refine x_icmp_ne (tgt := 116) d_N_mail_82 rfl (fun q82 => ?_) (fun w_ => absurd w_ (by decide))
  refine x_iload_n d_N_mail_116 rfl rfl ?_
  refine x_bipush (v := (nI 19)) d_N_mail_117 (by decide) ?_
  refine x_icmp_ne (tgt := 204) d_N_mail_119 rfl (fun w_ => absurd (by decide) w_) (fun q119 => ?_)
  refine x_iload d_N_mail_122 rfl ?_
  refine x_if_ne (tgt := 129) d_N_mail_124 rfl (fun q124 => ?_) (fun w_ => absurd w_ (by decide))
  refine x_aload_n d_N_mail_129 rfl rfl ?_
  refine n_fld (j := 9) d_N_mail_130 lf_N_34 nl (by decide) rfl rfl ?_
  refine x_iload_n d_N_mail_133 rfl rfl ?_
  refine x_aload_n d_N_mail_134 rfl rfl ?_
  refine n_fld (j := 9) d_N_mail_135 lf_N_34 nl (by decide) rfl rfl ?_
  refine x_iload_n d_N_mail_138 rfl rfl ?_
  refine n_ld (j := 9) (i := p) (n := 12) (v := (nI ((pMs (oPr σ p)).length))) d_N_mail_139 nl (by decide) (by decide) rfl rfl (by omega) (by decide) yp.ml ?_
  refine x_iconst (v := (nI 1)) d_N_mail_140 (by decide) ?_
  refine x_isub (v := (nI ((pMs (oPr σ p)).length - 1))) d_N_mail_141 (pk_sub (b := 1) (by omega)) ?_
  refine n_st (j := 9) (i := p) (n := 12) (v := (nI ((pMs (oPr σ p)).length - 1))) d_N_mail_142 nl (by decide) (by decide) rfl rfl (by omega) (by decide) ?_
  refine x_aload_n d_N_mail_143 rfl rfl ?_
  refine n_fld (j := 8) d_N_mail_144 lf_N_31 nl (by decide) rfl rfl ?_
  refine x_iload_n d_N_mail_147 rfl rfl ?_
  refine n_ld (j := 8) (i := p) (n := 12) (v := (nI (pMk (oPr σ p)))) d_N_mail_148 nl (by decide) (by decide) rfl rfl (by omega) (by decide) ((up_r (by decide)).trans yp.mk) ?_
  refine x_istore d_N_mail_149 (by decide) (L' := [some (.ref r), some (.int (nI p)), some (.int (nI 19)), some (.int a0), some (.int b0), some (.int (nI 1)), some (.int (nI (21 * p + 9 + (pMk (oPr σ p))))), some (.int (nI (pMk (oPr σ p))))]) rfl ?_
  have hln : (pMs (oPr σ p)).length = ((pMs (oPr σ p)).length - 1) + 1 := by omega
  refine N_take_loop (A0 := (up A 9 p (nI ((pMs (oPr σ p)).length - 1)))) (m := (pMk (oPr σ p))) (n := (pMs (oPr σ p)).length - 1) (ms := pMs (oPr σ p)) nl hp12 hln (by omega) vp.2.2.1.2 up_s (fun A2 i1 i2 i3 => ?_) ((pMs (oPr σ p)).length + 1) (pMk (oPr σ p)) _ (by omega) (Nat.le_refl _) (by omega) (fun i t hi ht => (yp.ms i t (by rw [List.getElem?_eraseIdx, if_pos hi] at ht; exact ht)).up (by decide)) (fun i t hi ht => (yp.ms i t ht).up (by decide)) (fun _ _ _ => rfl)
  have y2 : nPr A2 p (sMs (oPr σ p) ((pMs (oPr σ p)).eraseIdx (pMk (oPr σ p)))) := yp.s_take vp hln (by omega) ((i3 9 p (by omega)).trans up_s) i1 (fun j i h1 h2 => (i3 j i h1).trans (up_n h2))
  refine x_aload_n d_N_mail_194 rfl rfl ?_
  refine n_fld (j := 8) d_N_mail_195 lf_N_31 nl (by decide) rfl rfl ?_
  refine x_iload_n d_N_mail_198 rfl rfl ?_
  refine x_iconst (v := (nI 0)) d_N_mail_199 (by decide) ?_
  refine n_st (j := 8) (i := p) (n := 12) (v := (nI 0)) d_N_mail_200 nl (by decide) (by decide) rfl rfl (by omega) (by decide) ?_
  refine x_goto (tgt := 263) d_N_mail_201 rfl ?_
  refine x_iconst (v := (nI 1)) d_N_mail_263 (by decide) ?_
  exact x_iret d_N_mail_264 rfl rfl ⟨rfl, _, rfl, u, y.setP v.L (Chp.up (fun j i h1 h2 => (i3 j i (fun z => h1 (Or.inl ⟨z.1, by omega, by omega⟩))).trans (up_n (fun z => h1 (Or.inr (Or.inr ⟨z.2, by rw [z.1]; decide⟩))))) (Or.inl (Or.inr (Or.inr ⟨rfl, by decide⟩)))) (y2.s_mk 0), HdX.setP rfl⟩
theorem n_ml19n {E : th_E} {h : th_H} {r : Nat} {A : Nat → Nat → Int32} (nl : NL r h) {N u : Nat} {σ : Ho} (y : NR A σ u) (v : vPs N σ) {p : Nat} (hp : p < oCt σ) (hN : N < 2 ^ 30) (hm : (pMs (oPr σ p)).length ≤ (pMk (oPr σ p))) (a0 b0 : Int32) : Xc E m_N_mail 4 0 0 [.ref r, .int (nI p), .int (nI 19), .int a0, .int b0] (ov r h A) (Pn r h σ u p none) := by
  refine Xc.of (by decide) (by simp [Value.category]) (Nat.le_of_ble_eq_true rfl) ?_
  show Xw E m_N_mail 4 0 0 0 [some (.ref r), some (.int (nI p)), some (.int (nI 19)), some (.int a0), some (.int b0), none, none, none] [] (ov r h A) _
  have yp := y.2.2.2 p hp
  have hp12 := Nat.lt_of_lt_of_le hp v.1
  have vp := (v.2.2 p hp).L
  have hmk := (v.2.2 p hp).2.2.2.2.1
  have hml := vp.2.2.1.1
  refine x_aload_n d_N_mail_0 rfl rfl ?_
  refine n_fld (j := 8) d_N_mail_1 lf_N_31 nl (by decide) rfl rfl ?_
  refine x_iload_n d_N_mail_4 rfl rfl ?_
  refine n_ld (j := 8) (i := p) (n := 12) (v := (nI (pMk (oPr σ p)))) d_N_mail_5 nl (by decide) (by decide) rfl rfl (by omega) (by decide) yp.mk ?_
  refine x_aload_n d_N_mail_6 rfl rfl ?_
  refine n_fld (j := 9) d_N_mail_7 lf_N_34 nl (by decide) rfl rfl ?_
  refine x_iload_n d_N_mail_10 rfl rfl ?_
  refine n_ld (j := 9) (i := p) (n := 12) (v := (nI ((pMs (oPr σ p)).length))) d_N_mail_11 nl (by decide) (by decide) rfl rfl (by omega) (by decide) yp.ml ?_
  refine x_icmp_ge (tgt := 19) d_N_mail_12 rfl (fun q12 => ?_) (fun w_ => absurd (nI_le hm (by omega)) w_)
  refine x_iconst (v := (nI 0)) d_N_mail_19 (by decide) ?_
  refine x_istore d_N_mail_20 (by decide) (L' := [some (.ref r), some (.int (nI p)), some (.int (nI 19)), some (.int a0), some (.int b0), some (.int (nI 0)), none, none]) rfl ?_
  refine x_bipush (v := (nI 21)) d_N_mail_22 (by decide) ?_
  refine x_iload_n d_N_mail_24 rfl rfl ?_
  refine x_imul (v := (nI (21 * p))) d_N_mail_25 (pk_mul _ _) ?_
  refine x_bipush (v := (nI 9)) d_N_mail_26 (by decide) ?_
  refine x_iadd (v := (nI (21 * p + 9))) d_N_mail_28 (nI_add _ _) ?_
  refine x_aload_n d_N_mail_29 rfl rfl ?_
  refine n_fld (j := 8) d_N_mail_30 lf_N_31 nl (by decide) rfl rfl ?_
  refine x_iload_n d_N_mail_33 rfl rfl ?_
  refine n_ld (j := 8) (i := p) (n := 12) (v := (nI (pMk (oPr σ p)))) d_N_mail_34 nl (by decide) (by decide) rfl rfl (by omega) (by decide) yp.mk ?_
  refine x_iadd (v := (nI (21 * p + 9 + (pMk (oPr σ p))))) d_N_mail_35 (nI_add _ _) ?_
  refine x_istore d_N_mail_36 (by decide) (L' := [some (.ref r), some (.int (nI p)), some (.int (nI 19)), some (.int a0), some (.int b0), some (.int (nI 0)), some (.int (nI (21 * p + 9 + (pMk (oPr σ p))))), none]) rfl ?_
  refine x_iload_n d_N_mail_38 rfl rfl ?_
  refine x_bipush (v := (nI 17)) d_N_mail_39 (by decide) ?_
  refine x_icmp_ne (tgt := 79) d_N_mail_41 rfl (fun q41 => ?_) (fun w_ => absurd w_ (by decide))
  refine x_iload_n d_N_mail_79 rfl rfl ?_
  refine x_bipush (v := (nI 18)) d_N_mail_80 (by decide) ?_
  refine x_icmp_ne (tgt := 116) d_N_mail_82 rfl (fun q82 => ?_) (fun w_ => absurd w_ (by decide))
  refine x_iload_n d_N_mail_116 rfl rfl ?_
  refine x_bipush (v := (nI 19)) d_N_mail_117 (by decide) ?_
  refine x_icmp_ne (tgt := 204) d_N_mail_119 rfl (fun w_ => absurd (by decide) w_) (fun q119 => ?_)
  refine x_iload d_N_mail_122 rfl ?_
  refine x_if_ne (tgt := 129) d_N_mail_124 rfl (fun w_ => absurd rfl w_) (fun q124 => ?_)
  refine x_iconst (v := (nI 0)) d_N_mail_127 (by decide) ?_
  exact x_iret d_N_mail_128 rfl rfl ⟨rfl, A, rfl, y⟩
