/-! The law's body (printed by wip/gen/mod_law.py). -/
theorem W_0 {E : th_E} {o b tl L i N cz cs : Nat} {xs : Nat → Int32} {σ : Ho} {h : th_H} {Post : Option Value → th_H → Prop} (iw : IW o b tl L xs σ σ h) (wf : WFh h) (v : vPs N σ) (vc : vCd σ) (hN : N + 15 < 2 ^ 30) (hE : E.2.2.2.2 0 = .ref tl) (hL : L ≤ 2561) (hi : i + 4 < L) (K : ∀ σ' h', IW o b tl L xs σ' σ' h' → vPs (N + 15) σ' → vCd σ' → Xw E m_W_law 64 cz cs 412 [some (.ref b), some (.ref o), some (.ref (o + 98)), some (.int (nI i))] [] h' Post) : Xw E m_W_law 64 (cz + 318) (cs + 1590) 96 [some (.ref b), some (.ref o), some (.ref (o + 98)), some (.int (nI i))] [] h Post := by
  have rb := iw.2.2.1
  have kO := iw.1.1.1.kO
  obtain ⟨V, σ', c1, dH, dN, hc1, hdH, hdN, v2, vc2, cH, cN⟩ := PR_add (E := E) iw wf v vc hE (xs (i + 1)) (xs (i + 2)) (xs (i + 3)) (xs (i + 4))
  refine x_aload_n d_W_law_96 rfl rfl ?_
  refine x_aload_n d_W_law_97 rfl rfl ?_
  refine x_iload_n d_W_law_98 rfl rfl ?_
  refine x_iconst (v := (nI 1)) d_W_law_99 (by decide) ?_
  refine x_iadd (v := (nI (i + 1))) d_W_law_100 (nI_add _ _) ?_
  refine x_iald (v := .int (xs (i + 1))) d_W_law_101 rb.1 rfl (vp_in_nI (by omega) (by omega)) (by rw [nI_cl (by omega)]; exact rb.2 _ (by omega)) ?_
  refine x_aload_n d_W_law_102 rfl rfl ?_
  refine x_iload_n d_W_law_103 rfl rfl ?_
  refine x_iconst (v := (nI 2)) d_W_law_104 (by decide) ?_
  refine x_iadd (v := (nI (i + 2))) d_W_law_105 (nI_add _ _) ?_
  refine x_iald (v := .int (xs (i + 2))) d_W_law_106 rb.1 rfl (vp_in_nI (by omega) (by omega)) (by rw [nI_cl (by omega)]; exact rb.2 _ (by omega)) ?_
  refine x_aload_n d_W_law_107 rfl rfl ?_
  refine x_iload_n d_W_law_108 rfl rfl ?_
  refine x_iconst (v := (nI 3)) d_W_law_109 (by decide) ?_
  refine x_iadd (v := (nI (i + 3))) d_W_law_110 (nI_add _ _) ?_
  refine x_iald (v := .int (xs (i + 3))) d_W_law_111 rb.1 rfl (vp_in_nI (by omega) (by omega)) (by rw [nI_cl (by omega)]; exact rb.2 _ (by omega)) ?_
  refine x_aload_n d_W_law_112 rfl rfl ?_
  refine x_iload_n d_W_law_113 rfl rfl ?_
  refine x_iconst (v := (nI 4)) d_W_law_114 (by decide) ?_
  refine x_iadd (v := (nI (i + 4))) d_W_law_115 (nI_add _ _) ?_
  refine x_iald (v := .int (xs (i + 4))) d_W_law_116 rb.1 rfl (vp_in_nI (by omega) (by omega)) (by rw [nI_cl (by omega)]; exact rb.2 _ (by omega)) ?_
  refine x_invv d_W_law_117 lm_W_21 (as := [.int (xs (i + 1)), .int (xs (i + 2)), .int (xs (i + 3)), .int (xs (i + 4))]) (S := []) (cz' := cz) (cs' := cs) cH kO rfl rfl rfl (Nat.le_of_ble_eq_true rfl) (by omega) (by omega) (by omega) ?_
  rintro _ h1 ⟨rfl, iw1⟩
  have rb1 := iw1.2.2.1
  have kN : gk h1 (o + 98) = some (.inl 8) := by obtain ⟨A, _, nl, _⟩ := iw1.2.1; exact nl.1
  refine x_aload_n d_W_law_120 rfl rfl ?_
  refine x_aload_n d_W_law_121 rfl rfl ?_
  refine x_iload_n d_W_law_122 rfl rfl ?_
  refine x_iconst (v := (nI 1)) d_W_law_123 (by decide) ?_
  refine x_iadd (v := (nI (i + 1))) d_W_law_124 (nI_add _ _) ?_
  refine x_iald (v := .int (xs (i + 1))) d_W_law_125 rb1.1 rfl (vp_in_nI (by omega) (by omega)) (by rw [nI_cl (by omega)]; exact rb1.2 _ (by omega)) ?_
  refine x_aload_n d_W_law_126 rfl rfl ?_
  refine x_iload_n d_W_law_127 rfl rfl ?_
  refine x_iconst (v := (nI 2)) d_W_law_128 (by decide) ?_
  refine x_iadd (v := (nI (i + 2))) d_W_law_129 (nI_add _ _) ?_
  refine x_iald (v := .int (xs (i + 2))) d_W_law_130 rb1.1 rfl (vp_in_nI (by omega) (by omega)) (by rw [nI_cl (by omega)]; exact rb1.2 _ (by omega)) ?_
  refine x_aload_n d_W_law_131 rfl rfl ?_
  refine x_iload_n d_W_law_132 rfl rfl ?_
  refine x_iconst (v := (nI 3)) d_W_law_133 (by decide) ?_
  refine x_iadd (v := (nI (i + 3))) d_W_law_134 (nI_add _ _) ?_
  refine x_iald (v := .int (xs (i + 3))) d_W_law_135 rb1.1 rfl (vp_in_nI (by omega) (by omega)) (by rw [nI_cl (by omega)]; exact rb1.2 _ (by omega)) ?_
  refine x_aload_n d_W_law_136 rfl rfl ?_
  refine x_iload_n d_W_law_137 rfl rfl ?_
  refine x_iconst (v := (nI 4)) d_W_law_138 (by decide) ?_
  refine x_iadd (v := (nI (i + 4))) d_W_law_139 (nI_add _ _) ?_
  refine x_iald (v := .int (xs (i + 4))) d_W_law_140 rb1.1 rfl (vp_in_nI (by omega) (by omega)) (by rw [nI_cl (by omega)]; exact rb1.2 _ (by omega)) ?_
  refine x_invv d_W_law_141 lm_W_25 (as := [.int (xs (i + 1)), .int (xs (i + 2)), .int (xs (i + 3)), .int (xs (i + 4))]) (S := [.int V]) (cz' := cz) (cs' := cs) (cN h1 iw1) kN rfl rfl rfl (Nat.le_of_ble_eq_true rfl) (by omega) (by omega) (by omega) ?_
  rintro _ h2 ⟨rfl, iw2⟩
  exact x_icmp_eq (tgt := 412) d_W_law_144 rfl (fun _ => K _ _ iw2 v2 vc2) (fun w_ => absurd rfl w_)
theorem W_1 {E : th_E} {o b tl L i N cz cs : Nat} {xs : Nat → Int32} {σ : Ho} {h : th_H} {Post : Option Value → th_H → Prop} (iw : IW o b tl L xs σ σ h) (wf : WFh h) (v : vPs N σ) (vc : vCd σ) (hN : N + 15 < 2 ^ 30) (hE : E.2.2.2.2 0 = .ref tl) (hL : L ≤ 2561) (hi : i + 4 < L) (K : ∀ σ' h', IW o b tl L xs σ' σ' h' → vPs (N + 15) σ' → vCd σ' → Xw E m_W_law 64 cz cs 412 [some (.ref b), some (.ref o), some (.ref (o + 98)), some (.int (nI i))] [] h' Post) : Xw E m_W_law 64 (cz + 318) (cs + 1590) 149 [some (.ref b), some (.ref o), some (.ref (o + 98)), some (.int (nI i))] [] h Post := by
  have rb := iw.2.2.1
  have kO := iw.1.1.1.kO
  obtain ⟨V, σ', c1, dH, dN, hc1, hdH, hdN, v2, vc2, cH, cN⟩ := PR_begin (E := E) iw wf v vc (xs (i + 1)) (xs (i + 2))
  refine x_aload_n d_W_law_149 rfl rfl ?_
  refine x_aload_n d_W_law_150 rfl rfl ?_
  refine x_iload_n d_W_law_151 rfl rfl ?_
  refine x_iconst (v := (nI 1)) d_W_law_152 (by decide) ?_
  refine x_iadd (v := (nI (i + 1))) d_W_law_153 (nI_add _ _) ?_
  refine x_iald (v := .int (xs (i + 1))) d_W_law_154 rb.1 rfl (vp_in_nI (by omega) (by omega)) (by rw [nI_cl (by omega)]; exact rb.2 _ (by omega)) ?_
  refine x_aload_n d_W_law_155 rfl rfl ?_
  refine x_iload_n d_W_law_156 rfl rfl ?_
  refine x_iconst (v := (nI 2)) d_W_law_157 (by decide) ?_
  refine x_iadd (v := (nI (i + 2))) d_W_law_158 (nI_add _ _) ?_
  refine x_iald (v := .int (xs (i + 2))) d_W_law_159 rb.1 rfl (vp_in_nI (by omega) (by omega)) (by rw [nI_cl (by omega)]; exact rb.2 _ (by omega)) ?_
  refine x_invv d_W_law_160 lm_W_26 (as := [.int (xs (i + 1)), .int (xs (i + 2))]) (S := []) (cz' := cz) (cs' := cs) cH kO rfl rfl rfl (Nat.le_of_ble_eq_true rfl) (by omega) (by omega) (by omega) ?_
  rintro _ h1 ⟨rfl, iw1⟩
  have rb1 := iw1.2.2.1
  have kN : gk h1 (o + 98) = some (.inl 8) := by obtain ⟨A, _, nl, _⟩ := iw1.2.1; exact nl.1
  refine x_aload_n d_W_law_163 rfl rfl ?_
  refine x_aload_n d_W_law_164 rfl rfl ?_
  refine x_iload_n d_W_law_165 rfl rfl ?_
  refine x_iconst (v := (nI 1)) d_W_law_166 (by decide) ?_
  refine x_iadd (v := (nI (i + 1))) d_W_law_167 (nI_add _ _) ?_
  refine x_iald (v := .int (xs (i + 1))) d_W_law_168 rb1.1 rfl (vp_in_nI (by omega) (by omega)) (by rw [nI_cl (by omega)]; exact rb1.2 _ (by omega)) ?_
  refine x_aload_n d_W_law_169 rfl rfl ?_
  refine x_iload_n d_W_law_170 rfl rfl ?_
  refine x_iconst (v := (nI 2)) d_W_law_171 (by decide) ?_
  refine x_iadd (v := (nI (i + 2))) d_W_law_172 (nI_add _ _) ?_
  refine x_iald (v := .int (xs (i + 2))) d_W_law_173 rb1.1 rfl (vp_in_nI (by omega) (by omega)) (by rw [nI_cl (by omega)]; exact rb1.2 _ (by omega)) ?_
  refine x_invv d_W_law_174 lm_W_30 (as := [.int (xs (i + 1)), .int (xs (i + 2))]) (S := [.int V]) (cz' := cz) (cs' := cs) (cN h1 iw1) kN rfl rfl rfl (Nat.le_of_ble_eq_true rfl) (by omega) (by omega) (by omega) ?_
  rintro _ h2 ⟨rfl, iw2⟩
  exact x_icmp_eq (tgt := 412) d_W_law_177 rfl (fun _ => K _ _ iw2 v2 vc2) (fun w_ => absurd rfl w_)
theorem W_2 {E : th_E} {o b tl L i N cz cs : Nat} {xs : Nat → Int32} {σ : Ho} {h : th_H} {Post : Option Value → th_H → Prop} (iw : IW o b tl L xs σ σ h) (wf : WFh h) (v : vPs N σ) (vc : vCd σ) (hN : N + 15 < 2 ^ 30) (hE : E.2.2.2.2 0 = .ref tl) (hL : L ≤ 2561) (hi : i + 4 < L) (K : ∀ σ' h', IW o b tl L xs σ' σ' h' → vPs (N + 15) σ' → vCd σ' → Xw E m_W_law 64 cz cs 412 [some (.ref b), some (.ref o), some (.ref (o + 98)), some (.int (nI i))] [] h' Post) : Xw E m_W_law 64 (cz + 318) (cs + 1590) 182 [some (.ref b), some (.ref o), some (.ref (o + 98)), some (.int (nI i))] [] h Post := by
  have rb := iw.2.2.1
  have kO := iw.1.1.1.kO
  obtain ⟨V, σ', c1, dH, dN, hc1, hdH, hdN, v2, vc2, cH, cN⟩ := PR_tell (E := E) iw wf v vc (xs (i + 1)) (xs (i + 2))
  refine x_aload_n d_W_law_182 rfl rfl ?_
  refine x_aload_n d_W_law_183 rfl rfl ?_
  refine x_iload_n d_W_law_184 rfl rfl ?_
  refine x_iconst (v := (nI 1)) d_W_law_185 (by decide) ?_
  refine x_iadd (v := (nI (i + 1))) d_W_law_186 (nI_add _ _) ?_
  refine x_iald (v := .int (xs (i + 1))) d_W_law_187 rb.1 rfl (vp_in_nI (by omega) (by omega)) (by rw [nI_cl (by omega)]; exact rb.2 _ (by omega)) ?_
  refine x_aload_n d_W_law_188 rfl rfl ?_
  refine x_iload_n d_W_law_189 rfl rfl ?_
  refine x_iconst (v := (nI 2)) d_W_law_190 (by decide) ?_
  refine x_iadd (v := (nI (i + 2))) d_W_law_191 (nI_add _ _) ?_
  refine x_iald (v := .int (xs (i + 2))) d_W_law_192 rb.1 rfl (vp_in_nI (by omega) (by omega)) (by rw [nI_cl (by omega)]; exact rb.2 _ (by omega)) ?_
  refine x_invv d_W_law_193 lm_W_31 (as := [.int (xs (i + 1)), .int (xs (i + 2))]) (S := []) (cz' := cz) (cs' := cs) cH kO rfl rfl rfl (Nat.le_of_ble_eq_true rfl) (by omega) (by omega) (by omega) ?_
  rintro _ h1 ⟨rfl, iw1⟩
  have rb1 := iw1.2.2.1
  have kN : gk h1 (o + 98) = some (.inl 8) := by obtain ⟨A, _, nl, _⟩ := iw1.2.1; exact nl.1
  refine x_aload_n d_W_law_196 rfl rfl ?_
  refine x_aload_n d_W_law_197 rfl rfl ?_
  refine x_iload_n d_W_law_198 rfl rfl ?_
  refine x_iconst (v := (nI 1)) d_W_law_199 (by decide) ?_
  refine x_iadd (v := (nI (i + 1))) d_W_law_200 (nI_add _ _) ?_
  refine x_iald (v := .int (xs (i + 1))) d_W_law_201 rb1.1 rfl (vp_in_nI (by omega) (by omega)) (by rw [nI_cl (by omega)]; exact rb1.2 _ (by omega)) ?_
  refine x_aload_n d_W_law_202 rfl rfl ?_
  refine x_iload_n d_W_law_203 rfl rfl ?_
  refine x_iconst (v := (nI 2)) d_W_law_204 (by decide) ?_
  refine x_iadd (v := (nI (i + 2))) d_W_law_205 (nI_add _ _) ?_
  refine x_iald (v := .int (xs (i + 2))) d_W_law_206 rb1.1 rfl (vp_in_nI (by omega) (by omega)) (by rw [nI_cl (by omega)]; exact rb1.2 _ (by omega)) ?_
  refine x_invv d_W_law_207 lm_W_35 (as := [.int (xs (i + 1)), .int (xs (i + 2))]) (S := [.int V]) (cz' := cz) (cs' := cs) (cN h1 iw1) kN rfl rfl rfl (Nat.le_of_ble_eq_true rfl) (by omega) (by omega) (by omega) ?_
  rintro _ h2 ⟨rfl, iw2⟩
  exact x_icmp_eq (tgt := 412) d_W_law_210 rfl (fun _ => K _ _ iw2 v2 vc2) (fun w_ => absurd rfl w_)
theorem W_3 {E : th_E} {o b tl L i N cz cs : Nat} {xs : Nat → Int32} {σ : Ho} {h : th_H} {Post : Option Value → th_H → Prop} (iw : IW o b tl L xs σ σ h) (wf : WFh h) (v : vPs N σ) (vc : vCd σ) (hN : N + 15 < 2 ^ 30) (hE : E.2.2.2.2 0 = .ref tl) (hL : L ≤ 2561) (hi : i + 4 < L) (K : ∀ σ' h', IW o b tl L xs σ' σ' h' → vPs (N + 15) σ' → vCd σ' → Xw E m_W_law 64 cz cs 412 [some (.ref b), some (.ref o), some (.ref (o + 98)), some (.int (nI i))] [] h' Post) : Xw E m_W_law 64 (cz + 318) (cs + 1590) 215 [some (.ref b), some (.ref o), some (.ref (o + 98)), some (.int (nI i))] [] h Post := by
  have rb := iw.2.2.1
  have kO := iw.1.1.1.kO
  obtain ⟨V, σ', c1, dH, dN, hc1, hdH, hdN, v2, vc2, cH, cN⟩ := PR_run (E := E) iw wf v vc hN (xs (i + 1))
  refine x_aload_n d_W_law_215 rfl rfl ?_
  refine x_aload_n d_W_law_216 rfl rfl ?_
  refine x_iload_n d_W_law_217 rfl rfl ?_
  refine x_iconst (v := (nI 1)) d_W_law_218 (by decide) ?_
  refine x_iadd (v := (nI (i + 1))) d_W_law_219 (nI_add _ _) ?_
  refine x_iald (v := .int (xs (i + 1))) d_W_law_220 rb.1 rfl (vp_in_nI (by omega) (by omega)) (by rw [nI_cl (by omega)]; exact rb.2 _ (by omega)) ?_
  refine x_invv d_W_law_221 lm_W_36 (as := [.int (xs (i + 1))]) (S := []) (cz' := cz) (cs' := cs) cH kO rfl rfl rfl (Nat.le_of_ble_eq_true rfl) (by omega) (by omega) (by omega) ?_
  rintro _ h1 ⟨rfl, iw1⟩
  have rb1 := iw1.2.2.1
  have kN : gk h1 (o + 98) = some (.inl 8) := by obtain ⟨A, _, nl, _⟩ := iw1.2.1; exact nl.1
  refine x_aload_n d_W_law_224 rfl rfl ?_
  refine x_aload_n d_W_law_225 rfl rfl ?_
  refine x_iload_n d_W_law_226 rfl rfl ?_
  refine x_iconst (v := (nI 1)) d_W_law_227 (by decide) ?_
  refine x_iadd (v := (nI (i + 1))) d_W_law_228 (nI_add _ _) ?_
  refine x_iald (v := .int (xs (i + 1))) d_W_law_229 rb1.1 rfl (vp_in_nI (by omega) (by omega)) (by rw [nI_cl (by omega)]; exact rb1.2 _ (by omega)) ?_
  refine x_invv d_W_law_230 lm_W_40 (as := [.int (xs (i + 1))]) (S := [.int V]) (cz' := cz) (cs' := cs) (cN h1 iw1) kN rfl rfl rfl (Nat.le_of_ble_eq_true rfl) (by omega) (by omega) (by omega) ?_
  rintro _ h2 ⟨rfl, iw2⟩
  exact x_icmp_eq (tgt := 412) d_W_law_233 rfl (fun _ => K _ _ iw2 v2 vc2) (fun w_ => absurd rfl w_)
theorem W_5 {E : th_E} {o b tl L i N cz cs : Nat} {xs : Nat → Int32} {σ : Ho} {h : th_H} {Post : Option Value → th_H → Prop} (iw : IW o b tl L xs σ σ h) (wf : WFh h) (v : vPs N σ) (vc : vCd σ) (hN : N + 15 < 2 ^ 30) (hE : E.2.2.2.2 0 = .ref tl) (hL : L ≤ 2561) (hi : i + 4 < L) (K : ∀ σ' h', IW o b tl L xs σ' σ' h' → vPs (N + 15) σ' → vCd σ' → Xw E m_W_law 64 cz cs 412 [some (.ref b), some (.ref o), some (.ref (o + 98)), some (.int (nI i))] [] h' Post) : Xw E m_W_law 64 (cz + 318) (cs + 1590) 277 [some (.ref b), some (.ref o), some (.ref (o + 98)), some (.int (nI i))] [] h Post := by
  have rb := iw.2.2.1
  have kO := iw.1.1.1.kO
  obtain ⟨V, σ', c1, dH, dN, hc1, hdH, hdN, v2, vc2, cH, cN⟩ := PR_process (E := E) iw v vc (xs (i + 1)) (xs (i + 2))
  refine x_aload_n d_W_law_277 rfl rfl ?_
  refine x_aload_n d_W_law_278 rfl rfl ?_
  refine x_iload_n d_W_law_279 rfl rfl ?_
  refine x_iconst (v := (nI 1)) d_W_law_280 (by decide) ?_
  refine x_iadd (v := (nI (i + 1))) d_W_law_281 (nI_add _ _) ?_
  refine x_iald (v := .int (xs (i + 1))) d_W_law_282 rb.1 rfl (vp_in_nI (by omega) (by omega)) (by rw [nI_cl (by omega)]; exact rb.2 _ (by omega)) ?_
  refine x_aload_n d_W_law_283 rfl rfl ?_
  refine x_iload_n d_W_law_284 rfl rfl ?_
  refine x_iconst (v := (nI 2)) d_W_law_285 (by decide) ?_
  refine x_iadd (v := (nI (i + 2))) d_W_law_286 (nI_add _ _) ?_
  refine x_iald (v := .int (xs (i + 2))) d_W_law_287 rb.1 rfl (vp_in_nI (by omega) (by omega)) (by rw [nI_cl (by omega)]; exact rb.2 _ (by omega)) ?_
  refine x_invv d_W_law_288 lm_W_46 (as := [.int (xs (i + 1)), .int (xs (i + 2))]) (S := []) (cz' := cz) (cs' := cs) cH kO rfl rfl rfl (Nat.le_of_ble_eq_true rfl) (by omega) (by omega) (by omega) ?_
  rintro _ h1 ⟨rfl, iw1⟩
  have rb1 := iw1.2.2.1
  have kN : gk h1 (o + 98) = some (.inl 8) := by obtain ⟨A, _, nl, _⟩ := iw1.2.1; exact nl.1
  refine x_aload_n d_W_law_291 rfl rfl ?_
  refine x_aload_n d_W_law_292 rfl rfl ?_
  refine x_iload_n d_W_law_293 rfl rfl ?_
  refine x_iconst (v := (nI 1)) d_W_law_294 (by decide) ?_
  refine x_iadd (v := (nI (i + 1))) d_W_law_295 (nI_add _ _) ?_
  refine x_iald (v := .int (xs (i + 1))) d_W_law_296 rb1.1 rfl (vp_in_nI (by omega) (by omega)) (by rw [nI_cl (by omega)]; exact rb1.2 _ (by omega)) ?_
  refine x_aload_n d_W_law_297 rfl rfl ?_
  refine x_iload_n d_W_law_298 rfl rfl ?_
  refine x_iconst (v := (nI 2)) d_W_law_299 (by decide) ?_
  refine x_iadd (v := (nI (i + 2))) d_W_law_300 (nI_add _ _) ?_
  refine x_iald (v := .int (xs (i + 2))) d_W_law_301 rb1.1 rfl (vp_in_nI (by omega) (by omega)) (by rw [nI_cl (by omega)]; exact rb1.2 _ (by omega)) ?_
  refine x_invv d_W_law_302 lm_W_49 (as := [.int (xs (i + 1)), .int (xs (i + 2))]) (S := [.int V]) (cz' := cz) (cs' := cs) (cN h1 iw1) kN rfl rfl rfl (Nat.le_of_ble_eq_true rfl) (by omega) (by omega) (by omega) ?_
  rintro _ h2 ⟨rfl, iw2⟩
  exact x_icmp_eq (tgt := 412) d_W_law_305 rfl (fun _ => K _ _ iw2 v2 vc2) (fun w_ => absurd rfl w_)
theorem W_6 {E : th_E} {o b tl L i N cz cs : Nat} {xs : Nat → Int32} {σ : Ho} {h : th_H} {Post : Option Value → th_H → Prop} (iw : IW o b tl L xs σ σ h) (wf : WFh h) (v : vPs N σ) (vc : vCd σ) (hN : N + 15 < 2 ^ 30) (hE : E.2.2.2.2 0 = .ref tl) (hL : L ≤ 2561) (hi : i + 4 < L) (K : ∀ σ' h', IW o b tl L xs σ' σ' h' → vPs (N + 15) σ' → vCd σ' → Xw E m_W_law 64 cz cs 412 [some (.ref b), some (.ref o), some (.ref (o + 98)), some (.int (nI i))] [] h' Post) : Xw E m_W_law 64 (cz + 318) (cs + 1590) 310 [some (.ref b), some (.ref o), some (.ref (o + 98)), some (.int (nI i))] [] h Post := by
  have rb := iw.2.2.1
  have kO := iw.1.1.1.kO
  obtain ⟨V, σ', c1, dH, dN, hc1, hdH, hdN, v2, vc2, cH, cN⟩ := PR_queue (E := E) iw v vc (xs (i + 1))
  refine x_aload_n d_W_law_310 rfl rfl ?_
  refine x_aload_n d_W_law_311 rfl rfl ?_
  refine x_iload_n d_W_law_312 rfl rfl ?_
  refine x_iconst (v := (nI 1)) d_W_law_313 (by decide) ?_
  refine x_iadd (v := (nI (i + 1))) d_W_law_314 (nI_add _ _) ?_
  refine x_iald (v := .int (xs (i + 1))) d_W_law_315 rb.1 rfl (vp_in_nI (by omega) (by omega)) (by rw [nI_cl (by omega)]; exact rb.2 _ (by omega)) ?_
  refine x_invv d_W_law_316 lm_W_50 (as := [.int (xs (i + 1))]) (S := []) (cz' := cz) (cs' := cs) cH kO rfl rfl rfl (Nat.le_of_ble_eq_true rfl) (by omega) (by omega) (by omega) ?_
  rintro _ h1 ⟨rfl, iw1⟩
  have rb1 := iw1.2.2.1
  have kN : gk h1 (o + 98) = some (.inl 8) := by obtain ⟨A, _, nl, _⟩ := iw1.2.1; exact nl.1
  refine x_aload_n d_W_law_319 rfl rfl ?_
  refine x_aload_n d_W_law_320 rfl rfl ?_
  refine x_iload_n d_W_law_321 rfl rfl ?_
  refine x_iconst (v := (nI 1)) d_W_law_322 (by decide) ?_
  refine x_iadd (v := (nI (i + 1))) d_W_law_323 (nI_add _ _) ?_
  refine x_iald (v := .int (xs (i + 1))) d_W_law_324 rb1.1 rfl (vp_in_nI (by omega) (by omega)) (by rw [nI_cl (by omega)]; exact rb1.2 _ (by omega)) ?_
  refine x_invv d_W_law_325 lm_W_53 (as := [.int (xs (i + 1))]) (S := [.int V]) (cz' := cz) (cs' := cs) (cN h1 iw1) kN rfl rfl rfl (Nat.le_of_ble_eq_true rfl) (by omega) (by omega) (by omega) ?_
  rintro _ h2 ⟨rfl, iw2⟩
  exact x_icmp_eq (tgt := 412) d_W_law_328 rfl (fun _ => K _ _ iw2 v2 vc2) (fun w_ => absurd rfl w_)
theorem W_7 {E : th_E} {o b tl L i N cz cs : Nat} {xs : Nat → Int32} {σ : Ho} {h : th_H} {Post : Option Value → th_H → Prop} (iw : IW o b tl L xs σ σ h) (wf : WFh h) (v : vPs N σ) (vc : vCd σ) (hN : N + 15 < 2 ^ 30) (hE : E.2.2.2.2 0 = .ref tl) (hL : L ≤ 2561) (hi : i + 4 < L) (K : ∀ σ' h', IW o b tl L xs σ' σ' h' → vPs (N + 15) σ' → vCd σ' → Xw E m_W_law 64 cz cs 412 [some (.ref b), some (.ref o), some (.ref (o + 98)), some (.int (nI i))] [] h' Post) : Xw E m_W_law 64 (cz + 318) (cs + 1590) 333 [some (.ref b), some (.ref o), some (.ref (o + 98)), some (.int (nI i))] [] h Post := by
  have rb := iw.2.2.1
  have kO := iw.1.1.1.kO
  obtain ⟨V, σ', c1, dH, dN, hc1, hdH, hdN, v2, vc2, cH, cN⟩ := PR_processes (E := E) iw v vc
  refine x_aload_n d_W_law_333 rfl rfl ?_
  refine x_invv d_W_law_334 lm_W_54 (as := []) (S := []) (cz' := cz) (cs' := cs) cH kO rfl rfl rfl (Nat.le_of_ble_eq_true rfl) (by omega) (by omega) (by omega) ?_
  rintro _ h1 ⟨rfl, iw1⟩
  have rb1 := iw1.2.2.1
  have kN : gk h1 (o + 98) = some (.inl 8) := by obtain ⟨A, _, nl, _⟩ := iw1.2.1; exact nl.1
  refine x_aload_n d_W_law_337 rfl rfl ?_
  refine x_invv d_W_law_338 lm_W_58 (as := []) (S := [.int V]) (cz' := cz) (cs' := cs) (cN h1 iw1) kN rfl rfl rfl (Nat.le_of_ble_eq_true rfl) (by omega) (by omega) (by omega) ?_
  rintro _ h2 ⟨rfl, iw2⟩
  exact x_icmp_eq (tgt := 412) d_W_law_341 rfl (fun _ => K _ _ iw2 v2 vc2) (fun w_ => absurd rfl w_)
theorem W_8 {E : th_E} {o b tl L i N cz cs : Nat} {xs : Nat → Int32} {σ : Ho} {h : th_H} {Post : Option Value → th_H → Prop} (iw : IW o b tl L xs σ σ h) (wf : WFh h) (v : vPs N σ) (vc : vCd σ) (hN : N + 15 < 2 ^ 30) (hE : E.2.2.2.2 0 = .ref tl) (hL : L ≤ 2561) (hi : i + 4 < L) (K : ∀ σ' h', IW o b tl L xs σ' σ' h' → vPs (N + 15) σ' → vCd σ' → Xw E m_W_law 64 cz cs 412 [some (.ref b), some (.ref o), some (.ref (o + 98)), some (.int (nI i))] [] h' Post) : Xw E m_W_law 64 (cz + 318) (cs + 1590) 346 [some (.ref b), some (.ref o), some (.ref (o + 98)), some (.int (nI i))] [] h Post := by
  have rb := iw.2.2.1
  have kO := iw.1.1.1.kO
  obtain ⟨V, σ', c1, dH, dN, hc1, hdH, hdN, v2, vc2, cH, cN⟩ := PR_term (E := E) iw v vc (xs (i + 1)) (xs (i + 2))
  refine x_aload_n d_W_law_346 rfl rfl ?_
  refine x_aload_n d_W_law_347 rfl rfl ?_
  refine x_iload_n d_W_law_348 rfl rfl ?_
  refine x_iconst (v := (nI 1)) d_W_law_349 (by decide) ?_
  refine x_iadd (v := (nI (i + 1))) d_W_law_350 (nI_add _ _) ?_
  refine x_iald (v := .int (xs (i + 1))) d_W_law_351 rb.1 rfl (vp_in_nI (by omega) (by omega)) (by rw [nI_cl (by omega)]; exact rb.2 _ (by omega)) ?_
  refine x_aload_n d_W_law_352 rfl rfl ?_
  refine x_iload_n d_W_law_353 rfl rfl ?_
  refine x_iconst (v := (nI 2)) d_W_law_354 (by decide) ?_
  refine x_iadd (v := (nI (i + 2))) d_W_law_355 (nI_add _ _) ?_
  refine x_iald (v := .int (xs (i + 2))) d_W_law_356 rb.1 rfl (vp_in_nI (by omega) (by omega)) (by rw [nI_cl (by omega)]; exact rb.2 _ (by omega)) ?_
  refine x_invv d_W_law_357 lm_W_59 (as := [.int (xs (i + 1)), .int (xs (i + 2))]) (S := []) (cz' := cz) (cs' := cs) cH kO rfl rfl rfl (Nat.le_of_ble_eq_true rfl) (by omega) (by omega) (by omega) ?_
  rintro _ h1 ⟨rfl, iw1⟩
  have rb1 := iw1.2.2.1
  have kN : gk h1 (o + 98) = some (.inl 8) := by obtain ⟨A, _, nl, _⟩ := iw1.2.1; exact nl.1
  refine x_aload_n d_W_law_360 rfl rfl ?_
  refine x_aload_n d_W_law_361 rfl rfl ?_
  refine x_iload_n d_W_law_362 rfl rfl ?_
  refine x_iconst (v := (nI 1)) d_W_law_363 (by decide) ?_
  refine x_iadd (v := (nI (i + 1))) d_W_law_364 (nI_add _ _) ?_
  refine x_iald (v := .int (xs (i + 1))) d_W_law_365 rb1.1 rfl (vp_in_nI (by omega) (by omega)) (by rw [nI_cl (by omega)]; exact rb1.2 _ (by omega)) ?_
  refine x_aload_n d_W_law_366 rfl rfl ?_
  refine x_iload_n d_W_law_367 rfl rfl ?_
  refine x_iconst (v := (nI 2)) d_W_law_368 (by decide) ?_
  refine x_iadd (v := (nI (i + 2))) d_W_law_369 (nI_add _ _) ?_
  refine x_iald (v := .int (xs (i + 2))) d_W_law_370 rb1.1 rfl (vp_in_nI (by omega) (by omega)) (by rw [nI_cl (by omega)]; exact rb1.2 _ (by omega)) ?_
  refine x_invv d_W_law_371 lm_W_62 (as := [.int (xs (i + 1)), .int (xs (i + 2))]) (S := [.int V]) (cz' := cz) (cs' := cs) (cN h1 iw1) kN rfl rfl rfl (Nat.le_of_ble_eq_true rfl) (by omega) (by omega) (by omega) ?_
  rintro _ h2 ⟨rfl, iw2⟩
  exact x_icmp_eq (tgt := 412) d_W_law_374 rfl (fun _ => K _ _ iw2 v2 vc2) (fun w_ => absurd rfl w_)
theorem W_9 {E : th_E} {o b tl L i N cz cs : Nat} {xs : Nat → Int32} {σ : Ho} {h : th_H} {Post : Option Value → th_H → Prop} (iw : IW o b tl L xs σ σ h) (wf : WFh h) (v : vPs N σ) (vc : vCd σ) (hN : N + 15 < 2 ^ 30) (hE : E.2.2.2.2 0 = .ref tl) (hL : L ≤ 2561) (hi : i + 4 < L) (K : ∀ σ' h', IW o b tl L xs σ' σ' h' → vPs (N + 15) σ' → vCd σ' → Xw E m_W_law 64 cz cs 412 [some (.ref b), some (.ref o), some (.ref (o + 98)), some (.int (nI i))] [] h' Post) : Xw E m_W_law 64 (cz + 318) (cs + 1590) 379 [some (.ref b), some (.ref o), some (.ref (o + 98)), some (.int (nI i))] [] h Post := by
  have rb := iw.2.2.1
  have kO := iw.1.1.1.kO
  obtain ⟨V, σ', c1, dH, dN, hc1, hdH, hdN, v2, vc2, cH, cN⟩ := PR_digest (E := E) iw v vc (xs (i + 1)) (xs (i + 2))
  refine x_aload_n d_W_law_379 rfl rfl ?_
  refine x_aload_n d_W_law_380 rfl rfl ?_
  refine x_iload_n d_W_law_381 rfl rfl ?_
  refine x_iconst (v := (nI 1)) d_W_law_382 (by decide) ?_
  refine x_iadd (v := (nI (i + 1))) d_W_law_383 (nI_add _ _) ?_
  refine x_iald (v := .int (xs (i + 1))) d_W_law_384 rb.1 rfl (vp_in_nI (by omega) (by omega)) (by rw [nI_cl (by omega)]; exact rb.2 _ (by omega)) ?_
  refine x_aload_n d_W_law_385 rfl rfl ?_
  refine x_iload_n d_W_law_386 rfl rfl ?_
  refine x_iconst (v := (nI 2)) d_W_law_387 (by decide) ?_
  refine x_iadd (v := (nI (i + 2))) d_W_law_388 (nI_add _ _) ?_
  refine x_iald (v := .int (xs (i + 2))) d_W_law_389 rb.1 rfl (vp_in_nI (by omega) (by omega)) (by rw [nI_cl (by omega)]; exact rb.2 _ (by omega)) ?_
  refine x_invv d_W_law_390 lm_W_63 (as := [.int (xs (i + 1)), .int (xs (i + 2))]) (S := []) (cz' := cz) (cs' := cs) cH kO rfl rfl rfl (Nat.le_of_ble_eq_true rfl) (by omega) (by omega) (by omega) ?_
  rintro _ h1 ⟨rfl, iw1⟩
  have rb1 := iw1.2.2.1
  have kN : gk h1 (o + 98) = some (.inl 8) := by obtain ⟨A, _, nl, _⟩ := iw1.2.1; exact nl.1
  refine x_aload_n d_W_law_393 rfl rfl ?_
  refine x_aload_n d_W_law_394 rfl rfl ?_
  refine x_iload_n d_W_law_395 rfl rfl ?_
  refine x_iconst (v := (nI 1)) d_W_law_396 (by decide) ?_
  refine x_iadd (v := (nI (i + 1))) d_W_law_397 (nI_add _ _) ?_
  refine x_iald (v := .int (xs (i + 1))) d_W_law_398 rb1.1 rfl (vp_in_nI (by omega) (by omega)) (by rw [nI_cl (by omega)]; exact rb1.2 _ (by omega)) ?_
  refine x_aload_n d_W_law_399 rfl rfl ?_
  refine x_iload_n d_W_law_400 rfl rfl ?_
  refine x_iconst (v := (nI 2)) d_W_law_401 (by decide) ?_
  refine x_iadd (v := (nI (i + 2))) d_W_law_402 (nI_add _ _) ?_
  refine x_iald (v := .int (xs (i + 2))) d_W_law_403 rb1.1 rfl (vp_in_nI (by omega) (by omega)) (by rw [nI_cl (by omega)]; exact rb1.2 _ (by omega)) ?_
  refine x_invv d_W_law_404 lm_W_66 (as := [.int (xs (i + 1)), .int (xs (i + 2))]) (S := [.int V]) (cz' := cz) (cs' := cs) (cN h1 iw1) kN rfl rfl rfl (Nat.le_of_ble_eq_true rfl) (by omega) (by omega) (by omega) ?_
  rintro _ h2 ⟨rfl, iw2⟩
  exact x_icmp_eq (tgt := 412) d_W_law_407 rfl (fun _ => K _ _ iw2 v2 vc2) (fun w_ => absurd rfl w_)
theorem W_4 {E : th_E} {o b tl L i N cz cs : Nat} {xs : Nat → Int32} {σ : Ho} {h : th_H} {Post : Option Value → th_H → Prop} (iw : IW o b tl L xs σ σ h) (wf : WFh h) (v : vPs N σ) (vc : vCd σ) (hN : N + 15 < 2 ^ 30) (hE : E.2.2.2.2 0 = .ref tl) (hL : L ≤ 2561) (hi : i + 4 < L) (K : ∀ σ' h', IW o b tl L xs σ' σ' h' → vPs (N + 15) σ' → vCd σ' → Xw E m_W_law 64 cz cs 412 [some (.ref b), some (.ref o), some (.ref (o + 98)), some (.int (nI i))] [] h' Post) : Xw E m_W_law 64 (cz + 318) (cs + 1590) 238 [some (.ref b), some (.ref o), some (.ref (o + 98)), some (.int (nI i))] [] h Post := by
  have rb := iw.2.2.1
  have kO := iw.1.1.1.kO
  refine x_aload_n d_W_law_238 rfl rfl ?_
  refine x_aload_n d_W_law_239 rfl rfl ?_
  refine x_iload_n d_W_law_240 rfl rfl ?_
  refine x_iconst (v := (nI 1)) d_W_law_241 (by decide) ?_
  refine x_iadd (v := (nI (i + 1))) d_W_law_242 (nI_add _ _) ?_
  refine x_iald (v := .int (xs (i + 1))) d_W_law_243 rb.1 rfl (vp_in_nI (by omega) (by omega)) (by rw [nI_cl (by omega)]; exact rb.2 _ (by omega)) ?_
  refine x_if_eq (tgt := 251) d_W_law_244 rfl (fun q1 => ?_) (fun q1 => ?_)
  · obtain ⟨V, σ', c1, dH, dN, hc1, hdH, hdN, v2, vc2, cH, cN⟩ := PR_clear0 (E := E) iw wf v vc
    refine x_iconst (v := 0) d_W_law_251 (by decide) ?_
    refine x_invv d_W_law_252 lm_W_41 (as := [.int 0]) (S := []) (cz' := cz) (cs' := cs) cH kO rfl rfl rfl (Nat.le_of_ble_eq_true rfl) (by omega) (by omega) (by omega) ?_
    rintro _ h1 ⟨rfl, iw1⟩
    have rb1 := iw1.2.2.1
    have kN : gk h1 (o + 98) = some (.inl 8) := by obtain ⟨A, _, nl, _⟩ := iw1.2.1; exact nl.1
    refine x_aload_n d_W_law_255 rfl rfl ?_
    refine x_aload_n d_W_law_256 rfl rfl ?_
    refine x_iload_n d_W_law_257 rfl rfl ?_
    refine x_iconst (v := (nI 1)) d_W_law_258 (by decide) ?_
    refine x_iadd (v := (nI (i + 1))) d_W_law_259 (nI_add _ _) ?_
    refine x_iald (v := .int (xs (i + 1))) d_W_law_260 rb1.1 rfl (vp_in_nI (by omega) (by omega)) (by rw [nI_cl (by omega)]; exact rb1.2 _ (by omega)) ?_
    refine x_if_eq (tgt := 268) d_W_law_261 rfl (fun _ => ?_) (fun w_ => absurd q1 w_)
    refine x_iconst (v := 0) d_W_law_268 (by decide) ?_
    refine x_invv d_W_law_269 lm_W_45 (as := [.int 0]) (S := [.int V]) (cz' := cz) (cs' := cs) (cN h1 iw1) kN rfl rfl rfl (Nat.le_of_ble_eq_true rfl) (by omega) (by omega) (by omega) ?_
    rintro _ h2 ⟨rfl, iw2⟩
    exact x_icmp_eq (tgt := 412) d_W_law_272 rfl (fun _ => K _ _ iw2 v2 vc2) (fun w_ => absurd rfl w_)
  · obtain ⟨V, σ', c1, dH, dN, hc1, hdH, hdN, v2, vc2, cH, cN⟩ := PR_clear1 (E := E) iw wf v vc
    refine x_iconst (v := 1) d_W_law_247 (by decide) ?_
    refine x_goto (tgt := 252) d_W_law_248 rfl ?_
    refine x_invv d_W_law_252 lm_W_41 (as := [.int 1]) (S := []) (cz' := cz) (cs' := cs) cH kO rfl rfl rfl (Nat.le_of_ble_eq_true rfl) (by omega) (by omega) (by omega) ?_
    rintro _ h1 ⟨rfl, iw1⟩
    have rb1 := iw1.2.2.1
    have kN : gk h1 (o + 98) = some (.inl 8) := by obtain ⟨A, _, nl, _⟩ := iw1.2.1; exact nl.1
    refine x_aload_n d_W_law_255 rfl rfl ?_
    refine x_aload_n d_W_law_256 rfl rfl ?_
    refine x_iload_n d_W_law_257 rfl rfl ?_
    refine x_iconst (v := (nI 1)) d_W_law_258 (by decide) ?_
    refine x_iadd (v := (nI (i + 1))) d_W_law_259 (nI_add _ _) ?_
    refine x_iald (v := .int (xs (i + 1))) d_W_law_260 rb1.1 rfl (vp_in_nI (by omega) (by omega)) (by rw [nI_cl (by omega)]; exact rb1.2 _ (by omega)) ?_
    refine x_if_eq (tgt := 268) d_W_law_261 rfl (fun w_ => absurd w_ q1) (fun _ => ?_)
    refine x_iconst (v := 1) d_W_law_264 (by decide) ?_
    refine x_goto (tgt := 269) d_W_law_265 rfl ?_
    refine x_invv d_W_law_269 lm_W_45 (as := [.int 1]) (S := [.int V]) (cz' := cz) (cs' := cs) (cN h1 iw1) kN rfl rfl rfl (Nat.le_of_ble_eq_true rfl) (by omega) (by omega) (by omega) ?_
    rintro _ h2 ⟨rfl, iw2⟩
    exact x_icmp_eq (tgt := 412) d_W_law_272 rfl (fun _ => K _ _ iw2 v2 vc2) (fun w_ => absurd rfl w_)
theorem W_end {L i : Nat} (hL : L ≤ 2561) (hi : i < 5000) : (nI L - nI 5 < nI i) ↔ L < i + 5 := by
  have e1 : (nI L - nI 5).toInt = (L : Int) - 5 := pk_sub_toInt (by omega) (by decide)
  have e2 : (nI i).toInt = (i : Int) := nI_toInt (by omega)
  rw [Int32.lt_iff_toInt_lt, e1, e2]
  omega
theorem W_out {x : Int32} (h : ¬ x = 0 ∧ ¬ x = 1 ∧ ¬ x = 2 ∧ ¬ x = 3 ∧ ¬ x = 4 ∧ ¬ x = 5 ∧ ¬ x = 6 ∧ ¬ x = 7 ∧ ¬ x = 8 ∧ ¬ x = 9) : x.toInt < 0 ∨ 9 < x.toInt := by
  have a := fun (y : Int32) (z : x.toInt = y.toInt) => Int32.toInt_inj.mp z
  obtain ⟨h0, h1, h2, h3, h4, h5, h6, h7, h8, h9⟩ := h
  have t0 : ¬ x.toInt = 0 := fun z => h0 (a 0 z)
  have t1 : ¬ x.toInt = 1 := fun z => h1 (a 1 z)
  have t2 : ¬ x.toInt = 2 := fun z => h2 (a 2 z)
  have t3 : ¬ x.toInt = 3 := fun z => h3 (a 3 z)
  have t4 : ¬ x.toInt = 4 := fun z => h4 (a 4 z)
  have t5 : ¬ x.toInt = 5 := fun z => h5 (a 5 z)
  have t6 : ¬ x.toInt = 6 := fun z => h6 (a 6 z)
  have t7 : ¬ x.toInt = 7 := fun z => h7 (a 7 z)
  have t8 : ¬ x.toInt = 8 := fun z => h8 (a 8 z)
  have t9 : ¬ x.toInt = 9 := fun z => h9 (a 9 z)
  omega
theorem W_loop {E : th_E} {o b tl L : Nat} {xs : Nat → Int32} (hE : E.2.2.2.2 0 = .ref tl) (hL : L ≤ 2561) : ∀ (m k : Nat) (σ : Ho) (h : th_H), IW o b tl L xs σ σ h → vPs (15 * k) σ → vCd σ → L ≤ 5 * (k + m) + 5 ∧ k + m ≤ 512 → Xw E m_W_law 64 (318 * m) (1590 * m) 28 [some (.ref b), some (.ref o), some (.ref (o + 98)), some (.int (nI (5 * k + 1)))] [] h (fun v _ => v = some (.int 1)) := by
  intro m
  induction m with
  | zero =>
    intro k σ h iw v vc hm
    have rb := iw.2.2.1
    refine x_iload_n d_W_law_28 rfl rfl ?_
    refine x_aload_n d_W_law_29 rfl rfl ?_
    refine x_alen (v := (nI L)) d_W_law_30 rb.1 rfl rfl ?_
    refine x_iconst (v := (nI 5)) d_W_law_31 (by decide) ?_
    refine x_isub (v := (nI L - nI 5)) d_W_law_32 rfl ?_
    refine x_icmp_gt (tgt := 418) d_W_law_33 rfl (fun _ => ?_) (fun w_ => absurd ((W_end hL (by omega)).mpr (by omega)) w_)
    refine x_iconst (v := 1) d_W_law_418 (by decide) ?_
    exact x_iret d_W_law_419 rfl rfl rfl
  | succ m ih =>
    intro k σ h iw v vc hm
    have rb := iw.2.2.1
    refine Xw.wf (fun wf => ?_)
    refine x_iload_n d_W_law_28 rfl rfl ?_
    refine x_aload_n d_W_law_29 rfl rfl ?_
    refine x_alen (v := (nI L)) d_W_law_30 rb.1 rfl rfl ?_
    refine x_iconst (v := (nI 5)) d_W_law_31 (by decide) ?_
    refine x_isub (v := (nI L - nI 5)) d_W_law_32 rfl ?_
    refine x_icmp_gt (tgt := 418) d_W_law_33 rfl (fun _ => ?_) (fun q33 => ?_)
    · refine x_iconst (v := 1) d_W_law_418 (by decide) ?_
      exact x_iret d_W_law_419 rfl rfl rfl
    have hi : 5 * k + 1 + 4 < L := by have := mt (W_end (L := L) (i := 5 * k + 1) hL (by omega)).mpr q33; omega
    refine x_aload_n d_W_law_36 rfl rfl ?_
    refine x_iload_n d_W_law_37 rfl rfl ?_
    refine x_iald (v := .int (xs (5 * k + 1))) d_W_law_38 rb.1 rfl (vp_in_nI (by omega) (by omega)) (by rw [nI_cl (by omega)]; exact rb.2 _ (by omega)) ?_
    refine x_bipush (v := 15) d_W_law_39 (by decide) ?_
    refine x_iand (v := (xs (5 * k + 1) &&& 15)) d_W_law_41 rfl ?_
    rw [show 318 * (m + 1) = 318 * m + 318 by omega, show 1590 * (m + 1) = 1590 * m + 1590 by omega]
    have K : ∀ σ' h', IW o b tl L xs σ' σ' h' → vPs (15 * k + 15) σ' → vCd σ' → Xw E m_W_law 64 (318 * m) (1590 * m) 412 [some (.ref b), some (.ref o), some (.ref (o + 98)), some (.int (nI (5 * k + 1)))] [] h' (fun v _ => v = some (.int 1)) := fun σ' h' iw' v' vc' => by
      refine x_iinc d_W_law_412 rfl (v := (nI (5 * (k + 1) + 1))) (by rw [show 5 * (k + 1) + 1 = 5 * k + 1 + 5 by omega]; exact nI_add _ 5) (by decide) (L' := [some (.ref b), some (.ref o), some (.ref (o + 98)), some (.int (nI (5 * (k + 1) + 1)))]) rfl ?_
      refine x_goto (tgt := 28) d_W_law_415 rfl ?_
      exact ih (k + 1) σ' h' iw' (by rw [show 15 * (k + 1) = 15 * k + 15 by omega]; exact v') vc' (by omega)
    have hN : 15 * k + 15 < 2 ^ 30 := by omega
    by_cases e0 : xs (5 * k + 1) &&& 15 = 0
    · exact x_tableIn (off := 54) (tgt := 96) d_W_law_42 (by rw [e0]; decide) (by rw [e0]; decide) (by rw [e0]; rfl) rfl (W_0 iw wf v vc hN hE hL hi K)
    by_cases e1 : xs (5 * k + 1) &&& 15 = 1
    · exact x_tableIn (off := 107) (tgt := 149) d_W_law_42 (by rw [e1]; decide) (by rw [e1]; decide) (by rw [e1]; rfl) rfl (W_1 iw wf v vc hN hE hL hi K)
    by_cases e2 : xs (5 * k + 1) &&& 15 = 2
    · exact x_tableIn (off := 140) (tgt := 182) d_W_law_42 (by rw [e2]; decide) (by rw [e2]; decide) (by rw [e2]; rfl) rfl (W_2 iw wf v vc hN hE hL hi K)
    by_cases e3 : xs (5 * k + 1) &&& 15 = 3
    · exact x_tableIn (off := 173) (tgt := 215) d_W_law_42 (by rw [e3]; decide) (by rw [e3]; decide) (by rw [e3]; rfl) rfl (W_3 iw wf v vc hN hE hL hi K)
    by_cases e4 : xs (5 * k + 1) &&& 15 = 4
    · exact x_tableIn (off := 196) (tgt := 238) d_W_law_42 (by rw [e4]; decide) (by rw [e4]; decide) (by rw [e4]; rfl) rfl (W_4 iw wf v vc hN hE hL hi K)
    by_cases e5 : xs (5 * k + 1) &&& 15 = 5
    · exact x_tableIn (off := 235) (tgt := 277) d_W_law_42 (by rw [e5]; decide) (by rw [e5]; decide) (by rw [e5]; rfl) rfl (W_5 iw wf v vc hN hE hL hi K)
    by_cases e6 : xs (5 * k + 1) &&& 15 = 6
    · exact x_tableIn (off := 268) (tgt := 310) d_W_law_42 (by rw [e6]; decide) (by rw [e6]; decide) (by rw [e6]; rfl) rfl (W_6 iw wf v vc hN hE hL hi K)
    by_cases e7 : xs (5 * k + 1) &&& 15 = 7
    · exact x_tableIn (off := 291) (tgt := 333) d_W_law_42 (by rw [e7]; decide) (by rw [e7]; decide) (by rw [e7]; rfl) rfl (W_7 iw wf v vc hN hE hL hi K)
    by_cases e8 : xs (5 * k + 1) &&& 15 = 8
    · exact x_tableIn (off := 304) (tgt := 346) d_W_law_42 (by rw [e8]; decide) (by rw [e8]; decide) (by rw [e8]; rfl) rfl (W_8 iw wf v vc hN hE hL hi K)
    by_cases e9 : xs (5 * k + 1) &&& 15 = 9
    · exact x_tableIn (off := 337) (tgt := 379) d_W_law_42 (by rw [e9]; decide) (by rw [e9]; decide) (by rw [e9]; rfl) rfl (W_9 iw wf v vc hN hE hL hi K)
    exact x_tableOut (tgt := 412) d_W_law_42 (W_out ⟨e0, e1, e2, e3, e4, e5, e6, e7, e8, e9⟩) rfl ((K σ h iw (v.mono (by omega)) vc).room (Nat.le_refl _) (by omega) (by omega))
def cell0 (L : Nat) (xs : Nat → Int32) : Int32 := if 0 < L then xs 0 else 0
theorem c_W_cell {E : th_E} {h : th_H} {b L : Nat} {xs : Nat → Int32} (rb : Rd h b L xs) (hL : L ≤ 2561) : Xc E m_W_cell 0 0 0 [.ref b, .int (nI 0)] h (Ex (some (.int (cell0 L xs))) h) := by
  refine Xc.of (by decide) (by simp [Value.category]) (Nat.le_of_ble_eq_true rfl) ?_
  show Xw E m_W_cell 0 0 0 0 [some (.ref b), some (.int (nI 0))] [] h _
  refine x_iload_n d_W_cell_0 rfl rfl ?_
  refine x_aload_n d_W_cell_1 rfl rfl ?_
  refine x_alen (v := (nI L)) d_W_cell_2 rb.1 rfl rfl ?_
  refine x_icmp_ge (tgt := 12) d_W_cell_3 rfl (fun q => ?_) (fun q => ?_)
  · have hl : ¬ 0 < L := by have := (nI_leI (b := 0) (by omega) (by decide)).mp q; omega
    refine x_iconst (v := 0) d_W_cell_12 (by decide) ?_
    exact x_iret d_W_cell_13 rfl rfl ⟨by unfold cell0; rw [if_neg hl], rfl⟩
  · have hl : 0 < L := Nat.lt_of_not_le (fun z => q (nI_le z (by decide)))
    refine x_aload_n d_W_cell_6 rfl rfl ?_
    refine x_iload_n d_W_cell_7 rfl rfl ?_
    refine x_iald (v := .int (xs 0)) d_W_cell_8 rb.1 rfl (vp_in_nI hl (by omega)) (by rw [nI_cl (by decide)]; exact rb.2 0 hl) ?_
    refine x_goto (tgt := 13) d_W_cell_9 rfl ?_
    exact x_iret d_W_cell_13 rfl rfl ⟨by unfold cell0; rw [if_pos hl], rfl⟩
theorem dvN0 : ∀ k : Fin 22, nsc k.1 = true → dv_N k.1 = .int 0 := by decide +kernel
theorem nsc_22 {k : Nat} (h : nsc k = true) : k < 22 := by
  unfold nsc at h
  simp only [Bool.or_eq_true, beq_iff_eq] at h
  omega
theorem W_law {E : th_E} {b tl L : Nat} {xs : Nat → Int32} {h : th_H} (rb : Rd h b L xs) (rt : Rd h tl 81 limM) (hE : E.2.2.2.2 0 = .ref tl) (hL : L ≤ 2561) : Xw E m_W_law 64 162932 823513 0 [some (.ref b), none, none, none] [] h (fun v _ => v = some (.int 1)) := by
  refine Xw.wf (fun wf => ?_)
  refine y_new (cz' := 162931) (cs' := 823508) d_W_law_0 ln_W_7 (by decide) (by decide) (fun h1 z1 e1 g1 _ => ?_)
  refine x_dup d_W_law_3 rfl ?_
  refine x_aload_n d_W_law_4 rfl rfl ?_
  refine x_iconst (v := (nI 0)) d_W_law_5 (by decide) ?_
  have rb1 := rb.new wf e1
  refine x_invs d_W_law_6 lm_W_9 (as := [.ref b, .int (nI 0)]) (S := [.ref (gz h), .ref (gz h)]) (cz' := 162931) (cs' := 823508) (c_W_cell rb1 hL) rfl rfl (Nat.le_of_ble_eq_true rfl) (by decide) (by decide) (by decide) ?_
  rintro _ _ ⟨rfl, rfl⟩
  refine x_invi d_W_law_9 lm_W_15 (as := [.int (cell0 L xs)]) (S := [.ref (gz h)]) (cz' := 162834) (cs' := 822628) (c_H_init (o := gz h) (cell0 L xs) g1 z1) rfl rfl (Nat.le_of_ble_eq_true rfl) (by decide) (by decide) (by decide) ?_
  rintro _ h2 ⟨rfl, z2, n2, cr2⟩
  have e2 : New h h2 := e1.made n2 (Nat.le_refl _)
  refine x_astore_n d_W_law_12 rfl (by decide) (L' := [some (.ref b), some (.ref (gz h)), none, none]) rfl ?_
  refine Xw.wf (fun wf2 => ?_)
  refine y_new (cz' := 162833) (cs' := 822606) d_W_law_13 ln_W_18 (by decide) (by decide) (fun h3 z3 e3 g3 f3 => ?_)
  rw [z2] at z3 g3 f3 ⊢
  refine x_dup d_W_law_16 rfl ?_
  refine x_aload_n d_W_law_17 rfl rfl ?_
  refine x_iconst (v := (nI 0)) d_W_law_18 (by decide) ?_
  have rb3 := rb.new wf (e2.tr e3)
  refine x_invs d_W_law_19 lm_W_9 (as := [.ref b, .int (nI 0)]) (S := [.ref (gz h + 98), .ref (gz h + 98)]) (cz' := 162833) (cs' := 822606) (c_W_cell rb3 hL) rfl rfl (Nat.le_of_ble_eq_true rfl) (by decide) (by decide) (by decide) ?_
  rintro _ _ ⟨rfl, rfl⟩
  refine x_invi d_W_law_22 lm_W_20 (as := [.int (cell0 L xs)]) (S := [.ref (gz h + 98)]) (cz' := 162816) (cs' := 814080) (c_N_init (r := gz h + 98) (cell0 L xs) g3 z3 (fun k hk => by rw [f3 k]; exact dvN0 ⟨k, nsc_22 hk⟩ hk)) rfl rfl (Nat.le_of_ble_eq_true rfl) (by decide) (by decide) (by decide) ?_
  rintro _ h4 ⟨rfl, z4, n4, A, ea, nl, y⟩
  have e4 : New h2 h4 := e3.made n4 (by rw [z2]; exact Nat.le_refl _)
  have cr4 := cr2.new (Nat.zero_le _) wf2 e4
  refine x_astore_n d_W_law_25 rfl (by decide) (L' := [some (.ref b), some (.ref (gz h)), some (.ref (gz h + 98)), none]) rfl ?_
  refine x_iconst (v := (nI 1)) d_W_law_26 (by decide) ?_
  refine x_istore_n d_W_law_27 rfl (by decide) (L' := [some (.ref b), some (.ref (gz h)), some (.ref (gz h + 98)), some (.int (nI 1))]) rfl ?_
  exact W_loop hE hL 512 0 (hoM (cell0 L xs)) h4 ⟨cr4, ⟨A, ea, nl, y⟩, rb.new wf (e2.tr e4), rt.new wf (e2.tr e4)⟩ ⟨Nat.zero_le _, ⟨List.nodup_nil, fun x hx => absurd hx List.not_mem_nil, fun x hx => absurd hx (Nat.not_lt_zero _)⟩, fun p hp => absurd hp (Nat.not_lt_zero _)⟩ ⟨Nat.zero_le _, fun q hq => absurd hq List.not_mem_nil⟩ ⟨by omega, by decide⟩
