/-! The reference: branch (printed by wip/gen/mod_ref7.py). -/
theorem HdX.rf (p : Nat) (σ : Ho) (u : Nat) : HdX p σ u σ u := fun _ hh => Or.inl hh
theorem nPr.s_push {A : Nat → Nat → Int32} {p n x : Nat} {P : Pr} (y : nPr A p P) (hn : (pRe P).length = n) : nPr (up (up A 11 (6 * p + n) (nI x)) 10 p (nI (n + 1))) p (sRe P (pRe P ++ [x])) := by
  have g : ∀ j i, j ≠ 11 → j ≠ 10 → up (up A 11 (6 * p + n) (nI x)) 10 p (nI (n + 1)) j i = A j i := fun j i h1 h2 => (up_r h2).trans (up_r h1)
  refine ⟨(g _ _ (by decide) (by decide)).trans y.st, (g _ _ (by decide) (by decide)).trans y.pl, (g _ _ (by decide) (by decide)).trans y.mk, (g _ _ (by decide) (by decide)).trans y.ml, ?_, (g _ _ (by decide) (by decide)).trans y.lk, (g _ _ (by decide) (by decide)).trans y.tr, (g _ _ (by decide) (by decide)).trans y.dn, fun i z hz => ?_, fun k hk => ((y.rg k hk).up (by decide)).up (by decide), fun t ht => ((y.rs t ht).up (by decide)).up (by decide), fun i t ht => ((y.ms i t ht).up (by decide)).up (by decide)⟩
  · show _ = nI (pRe P ++ [x]).length
    rw [up_s, List.length_append, hn]; rfl
  · replace hz : (pRe P ++ [x])[i]? = some z := hz
    rw [up_r (by decide)]
    by_cases h : i = n
    · subst h
      rw [List.getElem?_append_right (by omega), hn, Nat.sub_self] at hz
      cases hz
      rw [up_s]
    · have hi := (List.getElem?_eq_some_iff.mp hz).1
      rw [List.length_append, hn, List.length_cons, List.length_nil] at hi
      rw [List.getElem?_append_left (by omega)] at hz
      rw [up_n (fun w => h (by omega))]
      exact y.re i z hz
theorem nPr.s_pop {A : Nat → Nat → Int32} {p n : Nat} {P : Pr} (y : nPr A p P) (hn : (pRe P).length = n + 1) : nPr (up A 10 p (nI n)) p (sRe P (pRe P).dropLast) := by
  refine ⟨(up_r (by decide)).trans y.st, (up_r (by decide)).trans y.pl, (up_r (by decide)).trans y.mk, (up_r (by decide)).trans y.ml, ?_, (up_r (by decide)).trans y.lk, (up_r (by decide)).trans y.tr, (up_r (by decide)).trans y.dn, fun i z hz => ?_, fun k hk => (y.rg k hk).up (by decide), fun t ht => (y.rs t ht).up (by decide), fun i t ht => (y.ms i t ht).up (by decide)⟩
  · show _ = nI (pRe P).dropLast.length
    rw [up_s, List.length_dropLast, hn]; rfl
  · replace hz : (pRe P).dropLast[i]? = some z := hz
    have hi := (List.getElem?_eq_some_iff.mp hz).1
    rw [List.length_dropLast] at hi
    rw [up_r (by decide)]
    rw [List.getElem?_dropLast, if_pos hi] at hz
    exact y.re i z hz
theorem n_br11n {E : th_E} {h : th_H} {r : Nat} {A : Nat → Nat → Int32} (nl : NL r h) {N u : Nat} {σ : Ho} (y : NR A σ u) (v : vPs N σ) {p : Nat} (hp : p < oCt σ) {a b c : Nat} (ha : a < 8) (hb : b < 8) (hn : ¬ (tS (pRg (oPr σ p) a) = 0 ∧ tS (pRg (oPr σ p) b) = 0)) : Xc E m_N_branch 5 0 0 [.ref r, .int (nI p), .int (nI 11), .int (nI a), .int (nI b), .int (nI c)] (ov r h A) (Pn r h σ u p none) := by
  refine Xc.of (by decide) (by simp [Value.category]) (Nat.le_of_ble_eq_true rfl) ?_
  show Xw E m_N_branch 5 0 0 0 [some (.ref r), some (.int (nI p)), some (.int (nI 11)), some (.int (nI a)), some (.int (nI b)), some (.int (nI c)), none, none] [] (ov r h A) _
  have yp := y.2.2.2 p hp
  have hp12 := Nat.lt_of_lt_of_le hp v.1
  have vp := (v.2.2 p hp).L
  have sa := yp.rg a ha
  have hla := vp.1 a
  have sb := yp.rg b hb
  have hlb := vp.1 b
  refine x_bipush (v := (nI 21)) d_N_branch_0 (by decide) ?_
  refine x_iload_n d_N_branch_2 rfl rfl ?_
  refine x_imul (v := (nI (21 * p))) d_N_branch_3 (pk_mul _ _) ?_
  refine x_iload_n d_N_branch_4 rfl rfl ?_
  refine x_iadd (v := (nI (21 * p + a))) d_N_branch_5 (nI_add _ _) ?_
  refine x_istore d_N_branch_6 (by decide) (L' := [some (.ref r), some (.int (nI p)), some (.int (nI 11)), some (.int (nI a)), some (.int (nI b)), some (.int (nI c)), some (.int (nI (21 * p + a))), none]) rfl ?_
  refine x_bipush (v := (nI 21)) d_N_branch_8 (by decide) ?_
  refine x_iload_n d_N_branch_10 rfl rfl ?_
  refine x_imul (v := (nI (21 * p))) d_N_branch_11 (pk_mul _ _) ?_
  refine x_iload d_N_branch_12 rfl ?_
  refine x_iadd (v := (nI (21 * p + b))) d_N_branch_14 (nI_add _ _) ?_
  refine x_istore d_N_branch_15 (by decide) (L' := [some (.ref r), some (.int (nI p)), some (.int (nI 11)), some (.int (nI a)), some (.int (nI b)), some (.int (nI c)), some (.int (nI (21 * p + a))), some (.int (nI (21 * p + b)))]) rfl ?_
  refine x_iload_n d_N_branch_17 rfl rfl ?_
  refine x_bipush (v := (nI 11)) d_N_branch_18 (by decide) ?_
  refine x_icmp_ne (tgt := 70) d_N_branch_20 rfl (fun w_ => absurd (by decide) w_) (fun q20 => ?_)
  refine x_aload_n d_N_branch_23 rfl rfl ?_
  refine x_iload d_N_branch_24 rfl ?_
  refine x_iconst (v := (nI 0)) d_N_branch_26 (by decide) ?_
  refine x_invv d_N_branch_27 lm_N_66 (as := [.int (nI (21 * p + a)), .int (nI 0)]) (S := []) (cz' := 0) (cs' := 0) (c_N_sortOf nl (by omega) (by decide)) nl.o rfl rfl rfl (Nat.le_of_ble_eq_true rfl) (by omega) (by decide) (by decide) ?_
  rintro _ _ ⟨rfl, rfl⟩
  rw [sa.s0]
  refine x_if_ne (tgt := 43) d_N_branch_30 rfl (fun q30 => ?_) (fun q30 => ?_)
  · refine x_iconst (v := (nI 0)) d_N_branch_43 (by decide) ?_
    exact x_iret d_N_branch_44 rfl rfl ⟨rfl, A, rfl, y⟩
  · have h2 : ¬ tS (pRg (oPr σ p) b) = 0 := fun z => hn ⟨q30, z⟩
    refine x_aload_n d_N_branch_33 rfl rfl ?_
    refine x_iload d_N_branch_34 rfl ?_
    refine x_iconst (v := (nI 0)) d_N_branch_36 (by decide) ?_
    refine x_invv d_N_branch_37 lm_N_66 (as := [.int (nI (21 * p + b)), .int (nI 0)]) (S := []) (cz' := 0) (cs' := 0) (c_N_sortOf nl (by omega) (by decide)) nl.o rfl rfl rfl (Nat.le_of_ble_eq_true rfl) (by omega) (by decide) (by decide) ?_
    rintro _ _ ⟨rfl, rfl⟩
    rw [sb.s0]
    refine x_if_eq (tgt := 45) d_N_branch_40 rfl (fun w_ => absurd w_ h2) (fun q40 => ?_)
    refine x_iconst (v := (nI 0)) d_N_branch_43 (by decide) ?_
    exact x_iret d_N_branch_44 rfl rfl ⟨rfl, A, rfl, y⟩
theorem n_br11t {E : th_E} {h : th_H} {r : Nat} {A : Nat → Nat → Int32} (nl : NL r h) {N u : Nat} {σ : Ho} (y : NR A σ u) (v : vPs N σ) {p : Nat} (hp : p < oCt σ) {a b c : Nat} (ha : a < 8) (hb : b < 8) (h1 : tS (pRg (oPr σ p) a) = 0) (h2 : tS (pRg (oPr σ p) b) = 0) (h3 : tN (pRg (oPr σ p) a) < tN (pRg (oPr σ p) b)) : Xc E m_N_branch 5 0 0 [.ref r, .int (nI p), .int (nI 11), .int (nI a), .int (nI b), .int (nI c)] (ov r h A) (Pn r h σ u p (some σ)) := by
  refine Xc.of (by decide) (by simp [Value.category]) (Nat.le_of_ble_eq_true rfl) ?_
  show Xw E m_N_branch 5 0 0 0 [some (.ref r), some (.int (nI p)), some (.int (nI 11)), some (.int (nI a)), some (.int (nI b)), some (.int (nI c)), none, none] [] (ov r h A) _
  have yp := y.2.2.2 p hp
  have hp12 := Nat.lt_of_lt_of_le hp v.1
  have vp := (v.2.2 p hp).L
  have sa := yp.rg a ha
  have hla := vp.1 a
  have sb := yp.rg b hb
  have hlb := vp.1 b
  refine x_bipush (v := (nI 21)) d_N_branch_0 (by decide) ?_
  refine x_iload_n d_N_branch_2 rfl rfl ?_
  refine x_imul (v := (nI (21 * p))) d_N_branch_3 (pk_mul _ _) ?_
  refine x_iload_n d_N_branch_4 rfl rfl ?_
  refine x_iadd (v := (nI (21 * p + a))) d_N_branch_5 (nI_add _ _) ?_
  refine x_istore d_N_branch_6 (by decide) (L' := [some (.ref r), some (.int (nI p)), some (.int (nI 11)), some (.int (nI a)), some (.int (nI b)), some (.int (nI c)), some (.int (nI (21 * p + a))), none]) rfl ?_
  refine x_bipush (v := (nI 21)) d_N_branch_8 (by decide) ?_
  refine x_iload_n d_N_branch_10 rfl rfl ?_
  refine x_imul (v := (nI (21 * p))) d_N_branch_11 (pk_mul _ _) ?_
  refine x_iload d_N_branch_12 rfl ?_
  refine x_iadd (v := (nI (21 * p + b))) d_N_branch_14 (nI_add _ _) ?_
  refine x_istore d_N_branch_15 (by decide) (L' := [some (.ref r), some (.int (nI p)), some (.int (nI 11)), some (.int (nI a)), some (.int (nI b)), some (.int (nI c)), some (.int (nI (21 * p + a))), some (.int (nI (21 * p + b)))]) rfl ?_
  refine x_iload_n d_N_branch_17 rfl rfl ?_
  refine x_bipush (v := (nI 11)) d_N_branch_18 (by decide) ?_
  refine x_icmp_ne (tgt := 70) d_N_branch_20 rfl (fun w_ => absurd (by decide) w_) (fun q20 => ?_)
  refine x_aload_n d_N_branch_23 rfl rfl ?_
  refine x_iload d_N_branch_24 rfl ?_
  refine x_iconst (v := (nI 0)) d_N_branch_26 (by decide) ?_
  refine x_invv d_N_branch_27 lm_N_66 (as := [.int (nI (21 * p + a)), .int (nI 0)]) (S := []) (cz' := 0) (cs' := 0) (c_N_sortOf nl (by omega) (by decide)) nl.o rfl rfl rfl (Nat.le_of_ble_eq_true rfl) (by omega) (by decide) (by decide) ?_
  rintro _ _ ⟨rfl, rfl⟩
  rw [sa.s0]
  refine x_if_ne (tgt := 43) d_N_branch_30 rfl (fun w_ => absurd h1 w_) (fun q30 => ?_)
  refine x_aload_n d_N_branch_33 rfl rfl ?_
  refine x_iload d_N_branch_34 rfl ?_
  refine x_iconst (v := (nI 0)) d_N_branch_36 (by decide) ?_
  refine x_invv d_N_branch_37 lm_N_66 (as := [.int (nI (21 * p + b)), .int (nI 0)]) (S := []) (cz' := 0) (cs' := 0) (c_N_sortOf nl (by omega) (by decide)) nl.o rfl rfl rfl (Nat.le_of_ble_eq_true rfl) (by omega) (by decide) (by decide) ?_
  rintro _ _ ⟨rfl, rfl⟩
  rw [sb.s0]
  refine x_if_eq (tgt := 45) d_N_branch_40 rfl (fun q40 => ?_) (fun w_ => absurd h2 w_)
  refine x_aload_n d_N_branch_45 rfl rfl ?_
  refine x_iload d_N_branch_46 rfl ?_
  refine x_iconst (v := (nI 0)) d_N_branch_48 (by decide) ?_
  refine x_invv d_N_branch_49 lm_N_70 (as := [.int (nI (21 * p + a)), .int (nI 0)]) (S := []) (cz' := 0) (cs' := 0) (c_N_numberOf nl (by omega) (by decide)) nl.o rfl rfl rfl (Nat.le_of_ble_eq_true rfl) (by omega) (by decide) (by decide) ?_
  rintro _ _ ⟨rfl, rfl⟩
  rw [sa.n0]
  refine x_aload_n d_N_branch_52 rfl rfl ?_
  refine x_iload d_N_branch_53 rfl ?_
  refine x_iconst (v := (nI 0)) d_N_branch_55 (by decide) ?_
  refine x_invv d_N_branch_56 lm_N_70 (as := [.int (nI (21 * p + b)), .int (nI 0)]) (S := [.int (tN (pRg (oPr σ p) a))]) (cz' := 0) (cs' := 0) (c_N_numberOf nl (by omega) (by decide)) nl.o rfl rfl rfl (Nat.le_of_ble_eq_true rfl) (by omega) (by decide) (by decide) ?_
  rintro _ _ ⟨rfl, rfl⟩
  rw [sb.n0]
  refine x_icmp_lt (tgt := 70) d_N_branch_59 rfl (fun q59 => ?_) (fun w_ => absurd h3 w_)
  refine x_iload_n d_N_branch_70 rfl rfl ?_
  refine x_bipush (v := (nI 12)) d_N_branch_71 (by decide) ?_
  refine x_icmp_ne (tgt := 95) d_N_branch_73 rfl (fun q73 => ?_) (fun w_ => absurd w_ (by decide))
  refine x_iload_n d_N_branch_95 rfl rfl ?_
  refine x_bipush (v := (nI 13)) d_N_branch_96 (by decide) ?_
  refine x_icmp_ne (tgt := 121) d_N_branch_98 rfl (fun q98 => ?_) (fun w_ => absurd w_ (by decide))
  refine x_iload_n d_N_branch_121 rfl rfl ?_
  refine x_bipush (v := (nI 15)) d_N_branch_122 (by decide) ?_
  refine x_icmp_ne (tgt := 176) d_N_branch_124 rfl (fun q124 => ?_) (fun w_ => absurd w_ (by decide))
  refine x_iload_n d_N_branch_176 rfl rfl ?_
  refine x_bipush (v := (nI 14)) d_N_branch_177 (by decide) ?_
  refine x_icmp_eq (tgt := 188) d_N_branch_179 rfl (fun w_ => absurd w_ (by decide)) (fun q179 => ?_)
  refine x_iload_n d_N_branch_182 rfl rfl ?_
  refine x_bipush (v := (nI 15)) d_N_branch_183 (by decide) ?_
  refine x_icmp_ne (tgt := 195) d_N_branch_185 rfl (fun q185 => ?_) (fun w_ => absurd w_ (by decide))
  refine x_iload_n d_N_branch_195 rfl rfl ?_
  refine x_bipush (v := (nI 16)) d_N_branch_196 (by decide) ?_
  refine x_icmp_ne (tgt := 220) d_N_branch_198 rfl (fun q198 => ?_) (fun w_ => absurd w_ (by decide))
  refine x_iload_n d_N_branch_220 rfl rfl ?_
  refine x_bipush (v := (nI 16)) d_N_branch_221 (by decide) ?_
  refine x_icmp_ne (tgt := 262) d_N_branch_223 rfl (fun q223 => ?_) (fun w_ => absurd w_ (by decide))
  refine x_iconst (v := (nI 1)) d_N_branch_262 (by decide) ?_
  exact x_iret d_N_branch_263 rfl rfl ⟨rfl, A, rfl, u, y, HdX.rf _ _ _⟩
theorem n_br11f {E : th_E} {h : th_H} {r : Nat} {A : Nat → Nat → Int32} (nl : NL r h) {N u : Nat} {σ : Ho} (y : NR A σ u) (v : vPs N σ) {p : Nat} (hp : p < oCt σ) {a b c : Nat} (ha : a < 8) (hb : b < 8) (h1 : tS (pRg (oPr σ p) a) = 0) (h2 : tS (pRg (oPr σ p) b) = 0) (h3 : ¬ tN (pRg (oPr σ p) a) < tN (pRg (oPr σ p) b)) : Xc E m_N_branch 5 0 0 [.ref r, .int (nI p), .int (nI 11), .int (nI a), .int (nI b), .int (nI c)] (ov r h A) (Pn r h σ u p (some (sPr σ p (sPl (oPr σ p) c)))) := by
  refine Xc.of (by decide) (by simp [Value.category]) (Nat.le_of_ble_eq_true rfl) ?_
  show Xw E m_N_branch 5 0 0 0 [some (.ref r), some (.int (nI p)), some (.int (nI 11)), some (.int (nI a)), some (.int (nI b)), some (.int (nI c)), none, none] [] (ov r h A) _
  have yp := y.2.2.2 p hp
  have hp12 := Nat.lt_of_lt_of_le hp v.1
  have vp := (v.2.2 p hp).L
  have sa := yp.rg a ha
  have hla := vp.1 a
  have sb := yp.rg b hb
  have hlb := vp.1 b
  refine x_bipush (v := (nI 21)) d_N_branch_0 (by decide) ?_
  refine x_iload_n d_N_branch_2 rfl rfl ?_
  refine x_imul (v := (nI (21 * p))) d_N_branch_3 (pk_mul _ _) ?_
  refine x_iload_n d_N_branch_4 rfl rfl ?_
  refine x_iadd (v := (nI (21 * p + a))) d_N_branch_5 (nI_add _ _) ?_
  refine x_istore d_N_branch_6 (by decide) (L' := [some (.ref r), some (.int (nI p)), some (.int (nI 11)), some (.int (nI a)), some (.int (nI b)), some (.int (nI c)), some (.int (nI (21 * p + a))), none]) rfl ?_
  refine x_bipush (v := (nI 21)) d_N_branch_8 (by decide) ?_
  refine x_iload_n d_N_branch_10 rfl rfl ?_
  refine x_imul (v := (nI (21 * p))) d_N_branch_11 (pk_mul _ _) ?_
  refine x_iload d_N_branch_12 rfl ?_
  refine x_iadd (v := (nI (21 * p + b))) d_N_branch_14 (nI_add _ _) ?_
  refine x_istore d_N_branch_15 (by decide) (L' := [some (.ref r), some (.int (nI p)), some (.int (nI 11)), some (.int (nI a)), some (.int (nI b)), some (.int (nI c)), some (.int (nI (21 * p + a))), some (.int (nI (21 * p + b)))]) rfl ?_
  refine x_iload_n d_N_branch_17 rfl rfl ?_
  refine x_bipush (v := (nI 11)) d_N_branch_18 (by decide) ?_
  refine x_icmp_ne (tgt := 70) d_N_branch_20 rfl (fun w_ => absurd (by decide) w_) (fun q20 => ?_)
  refine x_aload_n d_N_branch_23 rfl rfl ?_
  refine x_iload d_N_branch_24 rfl ?_
  refine x_iconst (v := (nI 0)) d_N_branch_26 (by decide) ?_
  refine x_invv d_N_branch_27 lm_N_66 (as := [.int (nI (21 * p + a)), .int (nI 0)]) (S := []) (cz' := 0) (cs' := 0) (c_N_sortOf nl (by omega) (by decide)) nl.o rfl rfl rfl (Nat.le_of_ble_eq_true rfl) (by omega) (by decide) (by decide) ?_
  rintro _ _ ⟨rfl, rfl⟩
  rw [sa.s0]
  refine x_if_ne (tgt := 43) d_N_branch_30 rfl (fun w_ => absurd h1 w_) (fun q30 => ?_)
  refine x_aload_n d_N_branch_33 rfl rfl ?_
  refine x_iload d_N_branch_34 rfl ?_
  refine x_iconst (v := (nI 0)) d_N_branch_36 (by decide) ?_
  refine x_invv d_N_branch_37 lm_N_66 (as := [.int (nI (21 * p + b)), .int (nI 0)]) (S := []) (cz' := 0) (cs' := 0) (c_N_sortOf nl (by omega) (by decide)) nl.o rfl rfl rfl (Nat.le_of_ble_eq_true rfl) (by omega) (by decide) (by decide) ?_
  rintro _ _ ⟨rfl, rfl⟩
  rw [sb.s0]
  refine x_if_eq (tgt := 45) d_N_branch_40 rfl (fun q40 => ?_) (fun w_ => absurd h2 w_)
  refine x_aload_n d_N_branch_45 rfl rfl ?_
  refine x_iload d_N_branch_46 rfl ?_
  refine x_iconst (v := (nI 0)) d_N_branch_48 (by decide) ?_
  refine x_invv d_N_branch_49 lm_N_70 (as := [.int (nI (21 * p + a)), .int (nI 0)]) (S := []) (cz' := 0) (cs' := 0) (c_N_numberOf nl (by omega) (by decide)) nl.o rfl rfl rfl (Nat.le_of_ble_eq_true rfl) (by omega) (by decide) (by decide) ?_
  rintro _ _ ⟨rfl, rfl⟩
  rw [sa.n0]
  refine x_aload_n d_N_branch_52 rfl rfl ?_
  refine x_iload d_N_branch_53 rfl ?_
  refine x_iconst (v := (nI 0)) d_N_branch_55 (by decide) ?_
  refine x_invv d_N_branch_56 lm_N_70 (as := [.int (nI (21 * p + b)), .int (nI 0)]) (S := [.int (tN (pRg (oPr σ p) a))]) (cz' := 0) (cs' := 0) (c_N_numberOf nl (by omega) (by decide)) nl.o rfl rfl rfl (Nat.le_of_ble_eq_true rfl) (by omega) (by decide) (by decide) ?_
  rintro _ _ ⟨rfl, rfl⟩
  rw [sb.n0]
  refine x_icmp_lt (tgt := 70) d_N_branch_59 rfl (fun w_ => absurd w_ h3) (fun q59 => ?_)
  refine x_aload_n d_N_branch_62 rfl rfl ?_
  refine n_fld (j := 7) d_N_branch_63 lf_N_28 nl (by decide) rfl rfl ?_
  refine x_iload_n d_N_branch_66 rfl rfl ?_
  refine x_iload d_N_branch_67 rfl ?_
  refine n_st (j := 7) (i := p) (n := 12) (v := (nI c)) d_N_branch_69 nl (by decide) (by decide) rfl rfl (by omega) (by decide) ?_
  refine x_iload_n d_N_branch_70 rfl rfl ?_
  refine x_bipush (v := (nI 12)) d_N_branch_71 (by decide) ?_
  refine x_icmp_ne (tgt := 95) d_N_branch_73 rfl (fun q73 => ?_) (fun w_ => absurd w_ (by decide))
  refine x_iload_n d_N_branch_95 rfl rfl ?_
  refine x_bipush (v := (nI 13)) d_N_branch_96 (by decide) ?_
  refine x_icmp_ne (tgt := 121) d_N_branch_98 rfl (fun q98 => ?_) (fun w_ => absurd w_ (by decide))
  refine x_iload_n d_N_branch_121 rfl rfl ?_
  refine x_bipush (v := (nI 15)) d_N_branch_122 (by decide) ?_
  refine x_icmp_ne (tgt := 176) d_N_branch_124 rfl (fun q124 => ?_) (fun w_ => absurd w_ (by decide))
  refine x_iload_n d_N_branch_176 rfl rfl ?_
  refine x_bipush (v := (nI 14)) d_N_branch_177 (by decide) ?_
  refine x_icmp_eq (tgt := 188) d_N_branch_179 rfl (fun w_ => absurd w_ (by decide)) (fun q179 => ?_)
  refine x_iload_n d_N_branch_182 rfl rfl ?_
  refine x_bipush (v := (nI 15)) d_N_branch_183 (by decide) ?_
  refine x_icmp_ne (tgt := 195) d_N_branch_185 rfl (fun q185 => ?_) (fun w_ => absurd w_ (by decide))
  refine x_iload_n d_N_branch_195 rfl rfl ?_
  refine x_bipush (v := (nI 16)) d_N_branch_196 (by decide) ?_
  refine x_icmp_ne (tgt := 220) d_N_branch_198 rfl (fun q198 => ?_) (fun w_ => absurd w_ (by decide))
  refine x_iload_n d_N_branch_220 rfl rfl ?_
  refine x_bipush (v := (nI 16)) d_N_branch_221 (by decide) ?_
  refine x_icmp_ne (tgt := 262) d_N_branch_223 rfl (fun q223 => ?_) (fun w_ => absurd w_ (by decide))
  refine x_iconst (v := (nI 1)) d_N_branch_262 (by decide) ?_
  exact x_iret d_N_branch_263 rfl rfl ⟨rfl, _, rfl, u, y.setP v.L ((Chp.rf p A).up (Or.inl (Or.inr (Or.inr ⟨rfl, by decide⟩)))) (yp.s_pl c), HdX.setP rfl⟩
theorem n_br12t {E : th_E} {h : th_H} {r : Nat} {A : Nat → Nat → Int32} (nl : NL r h) {N u : Nat} {σ : Ho} (y : NR A σ u) (v : vPs N σ) {p : Nat} (hp : p < oCt σ) {a b c : Nat} (ha : a < 8) (hb : b < 8) (h3 : tF (pRg (oPr σ p) a) = tF (pRg (oPr σ p) b)) : Xc E m_N_branch 5 0 0 [.ref r, .int (nI p), .int (nI 12), .int (nI a), .int (nI b), .int (nI c)] (ov r h A) (Pn r h σ u p (some σ)) := by
  refine Xc.of (by decide) (by simp [Value.category]) (Nat.le_of_ble_eq_true rfl) ?_
  show Xw E m_N_branch 5 0 0 0 [some (.ref r), some (.int (nI p)), some (.int (nI 12)), some (.int (nI a)), some (.int (nI b)), some (.int (nI c)), none, none] [] (ov r h A) _
  have yp := y.2.2.2 p hp
  have hp12 := Nat.lt_of_lt_of_le hp v.1
  have vp := (v.2.2 p hp).L
  have sa := yp.rg a ha
  have hla := vp.1 a
  have sb := yp.rg b hb
  have hlb := vp.1 b
  refine x_bipush (v := (nI 21)) d_N_branch_0 (by decide) ?_
  refine x_iload_n d_N_branch_2 rfl rfl ?_
  refine x_imul (v := (nI (21 * p))) d_N_branch_3 (pk_mul _ _) ?_
  refine x_iload_n d_N_branch_4 rfl rfl ?_
  refine x_iadd (v := (nI (21 * p + a))) d_N_branch_5 (nI_add _ _) ?_
  refine x_istore d_N_branch_6 (by decide) (L' := [some (.ref r), some (.int (nI p)), some (.int (nI 12)), some (.int (nI a)), some (.int (nI b)), some (.int (nI c)), some (.int (nI (21 * p + a))), none]) rfl ?_
  refine x_bipush (v := (nI 21)) d_N_branch_8 (by decide) ?_
  refine x_iload_n d_N_branch_10 rfl rfl ?_
  refine x_imul (v := (nI (21 * p))) d_N_branch_11 (pk_mul _ _) ?_
  refine x_iload d_N_branch_12 rfl ?_
  refine x_iadd (v := (nI (21 * p + b))) d_N_branch_14 (nI_add _ _) ?_
  refine x_istore d_N_branch_15 (by decide) (L' := [some (.ref r), some (.int (nI p)), some (.int (nI 12)), some (.int (nI a)), some (.int (nI b)), some (.int (nI c)), some (.int (nI (21 * p + a))), some (.int (nI (21 * p + b)))]) rfl ?_
  refine x_iload_n d_N_branch_17 rfl rfl ?_
  refine x_bipush (v := (nI 11)) d_N_branch_18 (by decide) ?_
  refine x_icmp_ne (tgt := 70) d_N_branch_20 rfl (fun q20 => ?_) (fun w_ => absurd w_ (by decide))
  refine x_iload_n d_N_branch_70 rfl rfl ?_
  refine x_bipush (v := (nI 12)) d_N_branch_71 (by decide) ?_
  refine x_icmp_ne (tgt := 95) d_N_branch_73 rfl (fun w_ => absurd (by decide) w_) (fun q73 => ?_)
  refine x_aload_n d_N_branch_76 rfl rfl ?_
  refine x_iload d_N_branch_77 rfl ?_
  refine x_iload d_N_branch_79 rfl ?_
  refine x_invv d_N_branch_81 lm_N_143 (as := [.int (nI (21 * p + a)), .int (nI (21 * p + b))]) (S := []) (cz' := 0) (cs' := 0) (c_N_isSame nl (by omega) (by omega) sa sb hla hlb) nl.o rfl rfl rfl (Nat.le_of_ble_eq_true rfl) (by omega) (by decide) (by decide) ?_
  rintro _ _ ⟨rfl, rfl⟩
  refine x_if_ne (tgt := 95) d_N_branch_84 rfl (fun q84 => ?_) (fun w_ => absurd w_ (fun z => iB_0.mp z h3))
  refine x_iload_n d_N_branch_95 rfl rfl ?_
  refine x_bipush (v := (nI 13)) d_N_branch_96 (by decide) ?_
  refine x_icmp_ne (tgt := 121) d_N_branch_98 rfl (fun q98 => ?_) (fun w_ => absurd w_ (by decide))
  refine x_iload_n d_N_branch_121 rfl rfl ?_
  refine x_bipush (v := (nI 15)) d_N_branch_122 (by decide) ?_
  refine x_icmp_ne (tgt := 176) d_N_branch_124 rfl (fun q124 => ?_) (fun w_ => absurd w_ (by decide))
  refine x_iload_n d_N_branch_176 rfl rfl ?_
  refine x_bipush (v := (nI 14)) d_N_branch_177 (by decide) ?_
  refine x_icmp_eq (tgt := 188) d_N_branch_179 rfl (fun w_ => absurd w_ (by decide)) (fun q179 => ?_)
  refine x_iload_n d_N_branch_182 rfl rfl ?_
  refine x_bipush (v := (nI 15)) d_N_branch_183 (by decide) ?_
  refine x_icmp_ne (tgt := 195) d_N_branch_185 rfl (fun q185 => ?_) (fun w_ => absurd w_ (by decide))
  refine x_iload_n d_N_branch_195 rfl rfl ?_
  refine x_bipush (v := (nI 16)) d_N_branch_196 (by decide) ?_
  refine x_icmp_ne (tgt := 220) d_N_branch_198 rfl (fun q198 => ?_) (fun w_ => absurd w_ (by decide))
  refine x_iload_n d_N_branch_220 rfl rfl ?_
  refine x_bipush (v := (nI 16)) d_N_branch_221 (by decide) ?_
  refine x_icmp_ne (tgt := 262) d_N_branch_223 rfl (fun q223 => ?_) (fun w_ => absurd w_ (by decide))
  refine x_iconst (v := (nI 1)) d_N_branch_262 (by decide) ?_
  exact x_iret d_N_branch_263 rfl rfl ⟨rfl, A, rfl, u, y, HdX.rf _ _ _⟩
theorem n_br12f {E : th_E} {h : th_H} {r : Nat} {A : Nat → Nat → Int32} (nl : NL r h) {N u : Nat} {σ : Ho} (y : NR A σ u) (v : vPs N σ) {p : Nat} (hp : p < oCt σ) {a b c : Nat} (ha : a < 8) (hb : b < 8) (h3 : ¬ tF (pRg (oPr σ p) a) = tF (pRg (oPr σ p) b)) : Xc E m_N_branch 5 0 0 [.ref r, .int (nI p), .int (nI 12), .int (nI a), .int (nI b), .int (nI c)] (ov r h A) (Pn r h σ u p (some (sPr σ p (sPl (oPr σ p) c)))) := by
  refine Xc.of (by decide) (by simp [Value.category]) (Nat.le_of_ble_eq_true rfl) ?_
  show Xw E m_N_branch 5 0 0 0 [some (.ref r), some (.int (nI p)), some (.int (nI 12)), some (.int (nI a)), some (.int (nI b)), some (.int (nI c)), none, none] [] (ov r h A) _
  have yp := y.2.2.2 p hp
  have hp12 := Nat.lt_of_lt_of_le hp v.1
  have vp := (v.2.2 p hp).L
  have sa := yp.rg a ha
  have hla := vp.1 a
  have sb := yp.rg b hb
  have hlb := vp.1 b
  refine x_bipush (v := (nI 21)) d_N_branch_0 (by decide) ?_
  refine x_iload_n d_N_branch_2 rfl rfl ?_
  refine x_imul (v := (nI (21 * p))) d_N_branch_3 (pk_mul _ _) ?_
  refine x_iload_n d_N_branch_4 rfl rfl ?_
  refine x_iadd (v := (nI (21 * p + a))) d_N_branch_5 (nI_add _ _) ?_
  refine x_istore d_N_branch_6 (by decide) (L' := [some (.ref r), some (.int (nI p)), some (.int (nI 12)), some (.int (nI a)), some (.int (nI b)), some (.int (nI c)), some (.int (nI (21 * p + a))), none]) rfl ?_
  refine x_bipush (v := (nI 21)) d_N_branch_8 (by decide) ?_
  refine x_iload_n d_N_branch_10 rfl rfl ?_
  refine x_imul (v := (nI (21 * p))) d_N_branch_11 (pk_mul _ _) ?_
  refine x_iload d_N_branch_12 rfl ?_
  refine x_iadd (v := (nI (21 * p + b))) d_N_branch_14 (nI_add _ _) ?_
  refine x_istore d_N_branch_15 (by decide) (L' := [some (.ref r), some (.int (nI p)), some (.int (nI 12)), some (.int (nI a)), some (.int (nI b)), some (.int (nI c)), some (.int (nI (21 * p + a))), some (.int (nI (21 * p + b)))]) rfl ?_
  refine x_iload_n d_N_branch_17 rfl rfl ?_
  refine x_bipush (v := (nI 11)) d_N_branch_18 (by decide) ?_
  refine x_icmp_ne (tgt := 70) d_N_branch_20 rfl (fun q20 => ?_) (fun w_ => absurd w_ (by decide))
  refine x_iload_n d_N_branch_70 rfl rfl ?_
  refine x_bipush (v := (nI 12)) d_N_branch_71 (by decide) ?_
  refine x_icmp_ne (tgt := 95) d_N_branch_73 rfl (fun w_ => absurd (by decide) w_) (fun q73 => ?_)
  refine x_aload_n d_N_branch_76 rfl rfl ?_
  refine x_iload d_N_branch_77 rfl ?_
  refine x_iload d_N_branch_79 rfl ?_
  refine x_invv d_N_branch_81 lm_N_143 (as := [.int (nI (21 * p + a)), .int (nI (21 * p + b))]) (S := []) (cz' := 0) (cs' := 0) (c_N_isSame nl (by omega) (by omega) sa sb hla hlb) nl.o rfl rfl rfl (Nat.le_of_ble_eq_true rfl) (by omega) (by decide) (by decide) ?_
  rintro _ _ ⟨rfl, rfl⟩
  refine x_if_ne (tgt := 95) d_N_branch_84 rfl (fun w_ => absurd (iB_f h3) w_) (fun q84 => ?_)
  refine x_aload_n d_N_branch_87 rfl rfl ?_
  refine n_fld (j := 7) d_N_branch_88 lf_N_28 nl (by decide) rfl rfl ?_
  refine x_iload_n d_N_branch_91 rfl rfl ?_
  refine x_iload d_N_branch_92 rfl ?_
  refine n_st (j := 7) (i := p) (n := 12) (v := (nI c)) d_N_branch_94 nl (by decide) (by decide) rfl rfl (by omega) (by decide) ?_
  refine x_iload_n d_N_branch_95 rfl rfl ?_
  refine x_bipush (v := (nI 13)) d_N_branch_96 (by decide) ?_
  refine x_icmp_ne (tgt := 121) d_N_branch_98 rfl (fun q98 => ?_) (fun w_ => absurd w_ (by decide))
  refine x_iload_n d_N_branch_121 rfl rfl ?_
  refine x_bipush (v := (nI 15)) d_N_branch_122 (by decide) ?_
  refine x_icmp_ne (tgt := 176) d_N_branch_124 rfl (fun q124 => ?_) (fun w_ => absurd w_ (by decide))
  refine x_iload_n d_N_branch_176 rfl rfl ?_
  refine x_bipush (v := (nI 14)) d_N_branch_177 (by decide) ?_
  refine x_icmp_eq (tgt := 188) d_N_branch_179 rfl (fun w_ => absurd w_ (by decide)) (fun q179 => ?_)
  refine x_iload_n d_N_branch_182 rfl rfl ?_
  refine x_bipush (v := (nI 15)) d_N_branch_183 (by decide) ?_
  refine x_icmp_ne (tgt := 195) d_N_branch_185 rfl (fun q185 => ?_) (fun w_ => absurd w_ (by decide))
  refine x_iload_n d_N_branch_195 rfl rfl ?_
  refine x_bipush (v := (nI 16)) d_N_branch_196 (by decide) ?_
  refine x_icmp_ne (tgt := 220) d_N_branch_198 rfl (fun q198 => ?_) (fun w_ => absurd w_ (by decide))
  refine x_iload_n d_N_branch_220 rfl rfl ?_
  refine x_bipush (v := (nI 16)) d_N_branch_221 (by decide) ?_
  refine x_icmp_ne (tgt := 262) d_N_branch_223 rfl (fun q223 => ?_) (fun w_ => absurd w_ (by decide))
  refine x_iconst (v := (nI 1)) d_N_branch_262 (by decide) ?_
  exact x_iret d_N_branch_263 rfl rfl ⟨rfl, _, rfl, u, y.setP v.L ((Chp.rf p A).up (Or.inl (Or.inr (Or.inr ⟨rfl, by decide⟩)))) (yp.s_pl c), HdX.setP rfl⟩
theorem n_br13t {E : th_E} {h : th_H} {r : Nat} {A : Nat → Nat → Int32} (nl : NL r h) {N u : Nat} {σ : Ho} (y : NR A σ u) (v : vPs N σ) {p : Nat} (hp : p < oCt σ) {a c : Nat} (ha : a < 8) (b : Int32) (h3 : tS (pRg (oPr σ p) a) = b) : Xc E m_N_branch 5 0 0 [.ref r, .int (nI p), .int (nI 13), .int (nI a), .int b, .int (nI c)] (ov r h A) (Pn r h σ u p (some σ)) := by
  refine Xc.of (by decide) (by simp [Value.category]) (Nat.le_of_ble_eq_true rfl) ?_
  show Xw E m_N_branch 5 0 0 0 [some (.ref r), some (.int (nI p)), some (.int (nI 13)), some (.int (nI a)), some (.int b), some (.int (nI c)), none, none] [] (ov r h A) _
  have yp := y.2.2.2 p hp
  have hp12 := Nat.lt_of_lt_of_le hp v.1
  have vp := (v.2.2 p hp).L
  have sa := yp.rg a ha
  refine x_bipush (v := (nI 21)) d_N_branch_0 (by decide) ?_
  refine x_iload_n d_N_branch_2 rfl rfl ?_
  refine x_imul (v := (nI (21 * p))) d_N_branch_3 (pk_mul _ _) ?_
  refine x_iload_n d_N_branch_4 rfl rfl ?_
  refine x_iadd (v := (nI (21 * p + a))) d_N_branch_5 (nI_add _ _) ?_
  refine x_istore d_N_branch_6 (by decide) (L' := [some (.ref r), some (.int (nI p)), some (.int (nI 13)), some (.int (nI a)), some (.int b), some (.int (nI c)), some (.int (nI (21 * p + a))), none]) rfl ?_
  refine x_bipush (v := (nI 21)) d_N_branch_8 (by decide) ?_
  refine x_iload_n d_N_branch_10 rfl rfl ?_
  refine x_imul (v := (nI (21 * p))) d_N_branch_11 (pk_mul _ _) ?_
  refine x_iload d_N_branch_12 rfl ?_
  refine x_iadd (v := ((nI (21 * p)) + b)) d_N_branch_14 rfl ?_
  refine x_istore d_N_branch_15 (by decide) (L' := [some (.ref r), some (.int (nI p)), some (.int (nI 13)), some (.int (nI a)), some (.int b), some (.int (nI c)), some (.int (nI (21 * p + a))), some (.int ((nI (21 * p)) + b))]) rfl ?_
  refine x_iload_n d_N_branch_17 rfl rfl ?_
  refine x_bipush (v := (nI 11)) d_N_branch_18 (by decide) ?_
  refine x_icmp_ne (tgt := 70) d_N_branch_20 rfl (fun q20 => ?_) (fun w_ => absurd w_ (by decide))
  refine x_iload_n d_N_branch_70 rfl rfl ?_
  refine x_bipush (v := (nI 12)) d_N_branch_71 (by decide) ?_
  refine x_icmp_ne (tgt := 95) d_N_branch_73 rfl (fun q73 => ?_) (fun w_ => absurd w_ (by decide))
  refine x_iload_n d_N_branch_95 rfl rfl ?_
  refine x_bipush (v := (nI 13)) d_N_branch_96 (by decide) ?_
  refine x_icmp_ne (tgt := 121) d_N_branch_98 rfl (fun w_ => absurd (by decide) w_) (fun q98 => ?_)
  refine x_aload_n d_N_branch_101 rfl rfl ?_
  refine x_iload d_N_branch_102 rfl ?_
  refine x_iconst (v := (nI 0)) d_N_branch_104 (by decide) ?_
  refine x_invv d_N_branch_105 lm_N_66 (as := [.int (nI (21 * p + a)), .int (nI 0)]) (S := []) (cz' := 0) (cs' := 0) (c_N_sortOf nl (by omega) (by decide)) nl.o rfl rfl rfl (Nat.le_of_ble_eq_true rfl) (by omega) (by decide) (by decide) ?_
  rintro _ _ ⟨rfl, rfl⟩
  rw [sa.s0]
  refine x_iload d_N_branch_108 rfl ?_
  refine x_icmp_eq (tgt := 121) d_N_branch_110 rfl (fun q110 => ?_) (fun w_ => absurd h3 w_)
  refine x_iload_n d_N_branch_121 rfl rfl ?_
  refine x_bipush (v := (nI 15)) d_N_branch_122 (by decide) ?_
  refine x_icmp_ne (tgt := 176) d_N_branch_124 rfl (fun q124 => ?_) (fun w_ => absurd w_ (by decide))
  refine x_iload_n d_N_branch_176 rfl rfl ?_
  refine x_bipush (v := (nI 14)) d_N_branch_177 (by decide) ?_
  refine x_icmp_eq (tgt := 188) d_N_branch_179 rfl (fun w_ => absurd w_ (by decide)) (fun q179 => ?_)
  refine x_iload_n d_N_branch_182 rfl rfl ?_
  refine x_bipush (v := (nI 15)) d_N_branch_183 (by decide) ?_
  refine x_icmp_ne (tgt := 195) d_N_branch_185 rfl (fun q185 => ?_) (fun w_ => absurd w_ (by decide))
  refine x_iload_n d_N_branch_195 rfl rfl ?_
  refine x_bipush (v := (nI 16)) d_N_branch_196 (by decide) ?_
  refine x_icmp_ne (tgt := 220) d_N_branch_198 rfl (fun q198 => ?_) (fun w_ => absurd w_ (by decide))
  refine x_iload_n d_N_branch_220 rfl rfl ?_
  refine x_bipush (v := (nI 16)) d_N_branch_221 (by decide) ?_
  refine x_icmp_ne (tgt := 262) d_N_branch_223 rfl (fun q223 => ?_) (fun w_ => absurd w_ (by decide))
  refine x_iconst (v := (nI 1)) d_N_branch_262 (by decide) ?_
  exact x_iret d_N_branch_263 rfl rfl ⟨rfl, A, rfl, u, y, HdX.rf _ _ _⟩
theorem n_br13f {E : th_E} {h : th_H} {r : Nat} {A : Nat → Nat → Int32} (nl : NL r h) {N u : Nat} {σ : Ho} (y : NR A σ u) (v : vPs N σ) {p : Nat} (hp : p < oCt σ) {a c : Nat} (ha : a < 8) (b : Int32) (h3 : ¬ tS (pRg (oPr σ p) a) = b) : Xc E m_N_branch 5 0 0 [.ref r, .int (nI p), .int (nI 13), .int (nI a), .int b, .int (nI c)] (ov r h A) (Pn r h σ u p (some (sPr σ p (sPl (oPr σ p) c)))) := by
  refine Xc.of (by decide) (by simp [Value.category]) (Nat.le_of_ble_eq_true rfl) ?_
  show Xw E m_N_branch 5 0 0 0 [some (.ref r), some (.int (nI p)), some (.int (nI 13)), some (.int (nI a)), some (.int b), some (.int (nI c)), none, none] [] (ov r h A) _
  have yp := y.2.2.2 p hp
  have hp12 := Nat.lt_of_lt_of_le hp v.1
  have vp := (v.2.2 p hp).L
  have sa := yp.rg a ha
  refine x_bipush (v := (nI 21)) d_N_branch_0 (by decide) ?_
  refine x_iload_n d_N_branch_2 rfl rfl ?_
  refine x_imul (v := (nI (21 * p))) d_N_branch_3 (pk_mul _ _) ?_
  refine x_iload_n d_N_branch_4 rfl rfl ?_
  refine x_iadd (v := (nI (21 * p + a))) d_N_branch_5 (nI_add _ _) ?_
  refine x_istore d_N_branch_6 (by decide) (L' := [some (.ref r), some (.int (nI p)), some (.int (nI 13)), some (.int (nI a)), some (.int b), some (.int (nI c)), some (.int (nI (21 * p + a))), none]) rfl ?_
  refine x_bipush (v := (nI 21)) d_N_branch_8 (by decide) ?_
  refine x_iload_n d_N_branch_10 rfl rfl ?_
  refine x_imul (v := (nI (21 * p))) d_N_branch_11 (pk_mul _ _) ?_
  refine x_iload d_N_branch_12 rfl ?_
  refine x_iadd (v := ((nI (21 * p)) + b)) d_N_branch_14 rfl ?_
  refine x_istore d_N_branch_15 (by decide) (L' := [some (.ref r), some (.int (nI p)), some (.int (nI 13)), some (.int (nI a)), some (.int b), some (.int (nI c)), some (.int (nI (21 * p + a))), some (.int ((nI (21 * p)) + b))]) rfl ?_
  refine x_iload_n d_N_branch_17 rfl rfl ?_
  refine x_bipush (v := (nI 11)) d_N_branch_18 (by decide) ?_
  refine x_icmp_ne (tgt := 70) d_N_branch_20 rfl (fun q20 => ?_) (fun w_ => absurd w_ (by decide))
  refine x_iload_n d_N_branch_70 rfl rfl ?_
  refine x_bipush (v := (nI 12)) d_N_branch_71 (by decide) ?_
  refine x_icmp_ne (tgt := 95) d_N_branch_73 rfl (fun q73 => ?_) (fun w_ => absurd w_ (by decide))
  refine x_iload_n d_N_branch_95 rfl rfl ?_
  refine x_bipush (v := (nI 13)) d_N_branch_96 (by decide) ?_
  refine x_icmp_ne (tgt := 121) d_N_branch_98 rfl (fun w_ => absurd (by decide) w_) (fun q98 => ?_)
  refine x_aload_n d_N_branch_101 rfl rfl ?_
  refine x_iload d_N_branch_102 rfl ?_
  refine x_iconst (v := (nI 0)) d_N_branch_104 (by decide) ?_
  refine x_invv d_N_branch_105 lm_N_66 (as := [.int (nI (21 * p + a)), .int (nI 0)]) (S := []) (cz' := 0) (cs' := 0) (c_N_sortOf nl (by omega) (by decide)) nl.o rfl rfl rfl (Nat.le_of_ble_eq_true rfl) (by omega) (by decide) (by decide) ?_
  rintro _ _ ⟨rfl, rfl⟩
  rw [sa.s0]
  refine x_iload d_N_branch_108 rfl ?_
  refine x_icmp_eq (tgt := 121) d_N_branch_110 rfl (fun w_ => absurd w_ h3) (fun q110 => ?_)
  refine x_aload_n d_N_branch_113 rfl rfl ?_
  refine n_fld (j := 7) d_N_branch_114 lf_N_28 nl (by decide) rfl rfl ?_
  refine x_iload_n d_N_branch_117 rfl rfl ?_
  refine x_iload d_N_branch_118 rfl ?_
  refine n_st (j := 7) (i := p) (n := 12) (v := (nI c)) d_N_branch_120 nl (by decide) (by decide) rfl rfl (by omega) (by decide) ?_
  refine x_iload_n d_N_branch_121 rfl rfl ?_
  refine x_bipush (v := (nI 15)) d_N_branch_122 (by decide) ?_
  refine x_icmp_ne (tgt := 176) d_N_branch_124 rfl (fun q124 => ?_) (fun w_ => absurd w_ (by decide))
  refine x_iload_n d_N_branch_176 rfl rfl ?_
  refine x_bipush (v := (nI 14)) d_N_branch_177 (by decide) ?_
  refine x_icmp_eq (tgt := 188) d_N_branch_179 rfl (fun w_ => absurd w_ (by decide)) (fun q179 => ?_)
  refine x_iload_n d_N_branch_182 rfl rfl ?_
  refine x_bipush (v := (nI 15)) d_N_branch_183 (by decide) ?_
  refine x_icmp_ne (tgt := 195) d_N_branch_185 rfl (fun q185 => ?_) (fun w_ => absurd w_ (by decide))
  refine x_iload_n d_N_branch_195 rfl rfl ?_
  refine x_bipush (v := (nI 16)) d_N_branch_196 (by decide) ?_
  refine x_icmp_ne (tgt := 220) d_N_branch_198 rfl (fun q198 => ?_) (fun w_ => absurd w_ (by decide))
  refine x_iload_n d_N_branch_220 rfl rfl ?_
  refine x_bipush (v := (nI 16)) d_N_branch_221 (by decide) ?_
  refine x_icmp_ne (tgt := 262) d_N_branch_223 rfl (fun q223 => ?_) (fun w_ => absurd w_ (by decide))
  refine x_iconst (v := (nI 1)) d_N_branch_262 (by decide) ?_
  exact x_iret d_N_branch_263 rfl rfl ⟨rfl, _, rfl, u, y.setP v.L ((Chp.rf p A).up (Or.inl (Or.inr (Or.inr ⟨rfl, by decide⟩)))) (yp.s_pl c), HdX.setP rfl⟩
theorem n_br14 {E : th_E} {h : th_H} {r : Nat} {A : Nat → Nat → Int32} (nl : NL r h) {N u : Nat} {σ : Ho} (y : NR A σ u) (v : vPs N σ) {p : Nat} (hp : p < oCt σ) {c : Nat} (b b2 : Int32) : Xc E m_N_branch 5 0 0 [.ref r, .int (nI p), .int (nI 14), .int (nI c), .int b, .int b2] (ov r h A) (Pn r h σ u p (some (sPr σ p (sPl (oPr σ p) c)))) := by
  refine Xc.of (by decide) (by simp [Value.category]) (Nat.le_of_ble_eq_true rfl) ?_
  show Xw E m_N_branch 5 0 0 0 [some (.ref r), some (.int (nI p)), some (.int (nI 14)), some (.int (nI c)), some (.int b), some (.int b2), none, none] [] (ov r h A) _
  have yp := y.2.2.2 p hp
  have hp12 := Nat.lt_of_lt_of_le hp v.1
  have vp := (v.2.2 p hp).L
  refine x_bipush (v := (nI 21)) d_N_branch_0 (by decide) ?_
  refine x_iload_n d_N_branch_2 rfl rfl ?_
  refine x_imul (v := (nI (21 * p))) d_N_branch_3 (pk_mul _ _) ?_
  refine x_iload_n d_N_branch_4 rfl rfl ?_
  refine x_iadd (v := (nI (21 * p + c))) d_N_branch_5 (nI_add _ _) ?_
  refine x_istore d_N_branch_6 (by decide) (L' := [some (.ref r), some (.int (nI p)), some (.int (nI 14)), some (.int (nI c)), some (.int b), some (.int b2), some (.int (nI (21 * p + c))), none]) rfl ?_
  refine x_bipush (v := (nI 21)) d_N_branch_8 (by decide) ?_
  refine x_iload_n d_N_branch_10 rfl rfl ?_
  refine x_imul (v := (nI (21 * p))) d_N_branch_11 (pk_mul _ _) ?_
  refine x_iload d_N_branch_12 rfl ?_
  refine x_iadd (v := ((nI (21 * p)) + b)) d_N_branch_14 rfl ?_
  refine x_istore d_N_branch_15 (by decide) (L' := [some (.ref r), some (.int (nI p)), some (.int (nI 14)), some (.int (nI c)), some (.int b), some (.int b2), some (.int (nI (21 * p + c))), some (.int ((nI (21 * p)) + b))]) rfl ?_
  refine x_iload_n d_N_branch_17 rfl rfl ?_
  refine x_bipush (v := (nI 11)) d_N_branch_18 (by decide) ?_
  refine x_icmp_ne (tgt := 70) d_N_branch_20 rfl (fun q20 => ?_) (fun w_ => absurd w_ (by decide))
  refine x_iload_n d_N_branch_70 rfl rfl ?_
  refine x_bipush (v := (nI 12)) d_N_branch_71 (by decide) ?_
  refine x_icmp_ne (tgt := 95) d_N_branch_73 rfl (fun q73 => ?_) (fun w_ => absurd w_ (by decide))
  refine x_iload_n d_N_branch_95 rfl rfl ?_
  refine x_bipush (v := (nI 13)) d_N_branch_96 (by decide) ?_
  refine x_icmp_ne (tgt := 121) d_N_branch_98 rfl (fun q98 => ?_) (fun w_ => absurd w_ (by decide))
  refine x_iload_n d_N_branch_121 rfl rfl ?_
  refine x_bipush (v := (nI 15)) d_N_branch_122 (by decide) ?_
  refine x_icmp_ne (tgt := 176) d_N_branch_124 rfl (fun q124 => ?_) (fun w_ => absurd w_ (by decide))
  refine x_iload_n d_N_branch_176 rfl rfl ?_
  refine x_bipush (v := (nI 14)) d_N_branch_177 (by decide) ?_
  refine x_icmp_eq (tgt := 188) d_N_branch_179 rfl (fun q179 => ?_) (fun w_ => absurd (by decide) w_)
  refine x_aload_n d_N_branch_188 rfl rfl ?_
  refine n_fld (j := 7) d_N_branch_189 lf_N_28 nl (by decide) rfl rfl ?_
  refine x_iload_n d_N_branch_192 rfl rfl ?_
  refine x_iload_n d_N_branch_193 rfl rfl ?_
  refine n_st (j := 7) (i := p) (n := 12) (v := (nI c)) d_N_branch_194 nl (by decide) (by decide) rfl rfl (by omega) (by decide) ?_
  refine x_iload_n d_N_branch_195 rfl rfl ?_
  refine x_bipush (v := (nI 16)) d_N_branch_196 (by decide) ?_
  refine x_icmp_ne (tgt := 220) d_N_branch_198 rfl (fun q198 => ?_) (fun w_ => absurd w_ (by decide))
  refine x_iload_n d_N_branch_220 rfl rfl ?_
  refine x_bipush (v := (nI 16)) d_N_branch_221 (by decide) ?_
  refine x_icmp_ne (tgt := 262) d_N_branch_223 rfl (fun q223 => ?_) (fun w_ => absurd w_ (by decide))
  refine x_iconst (v := (nI 1)) d_N_branch_262 (by decide) ?_
  exact x_iret d_N_branch_263 rfl rfl ⟨rfl, _, rfl, u, y.setP v.L ((Chp.rf p A).up (Or.inl (Or.inr (Or.inr ⟨rfl, by decide⟩)))) (yp.s_pl c), HdX.setP rfl⟩
theorem n_br15y {E : th_E} {h : th_H} {r : Nat} {A : Nat → Nat → Int32} (nl : NL r h) {N u : Nat} {σ : Ho} (y : NR A σ u) (v : vPs N σ) {p : Nat} (hp : p < oCt σ) {c : Nat} (b b2 : Int32) (hl : (pRe (oPr σ p)).length < 6) : Xc E m_N_branch 5 0 0 [.ref r, .int (nI p), .int (nI 15), .int (nI c), .int b, .int b2] (ov r h A) (Pn r h σ u p (some (sPr σ p (sPl (sRe (oPr σ p) (pRe (oPr σ p) ++ [pPl (oPr σ p)])) c)))) := by
  refine Xc.of (by decide) (by simp [Value.category]) (Nat.le_of_ble_eq_true rfl) ?_
  show Xw E m_N_branch 5 0 0 0 [some (.ref r), some (.int (nI p)), some (.int (nI 15)), some (.int (nI c)), some (.int b), some (.int b2), none, none] [] (ov r h A) _
  have yp := y.2.2.2 p hp
  have hp12 := Nat.lt_of_lt_of_le hp v.1
  have vp := (v.2.2 p hp).L
  refine x_bipush (v := (nI 21)) d_N_branch_0 (by decide) ?_
  refine x_iload_n d_N_branch_2 rfl rfl ?_
  refine x_imul (v := (nI (21 * p))) d_N_branch_3 (pk_mul _ _) ?_
  refine x_iload_n d_N_branch_4 rfl rfl ?_
  refine x_iadd (v := (nI (21 * p + c))) d_N_branch_5 (nI_add _ _) ?_
  refine x_istore d_N_branch_6 (by decide) (L' := [some (.ref r), some (.int (nI p)), some (.int (nI 15)), some (.int (nI c)), some (.int b), some (.int b2), some (.int (nI (21 * p + c))), none]) rfl ?_
  refine x_bipush (v := (nI 21)) d_N_branch_8 (by decide) ?_
  refine x_iload_n d_N_branch_10 rfl rfl ?_
  refine x_imul (v := (nI (21 * p))) d_N_branch_11 (pk_mul _ _) ?_
  refine x_iload d_N_branch_12 rfl ?_
  refine x_iadd (v := ((nI (21 * p)) + b)) d_N_branch_14 rfl ?_
  refine x_istore d_N_branch_15 (by decide) (L' := [some (.ref r), some (.int (nI p)), some (.int (nI 15)), some (.int (nI c)), some (.int b), some (.int b2), some (.int (nI (21 * p + c))), some (.int ((nI (21 * p)) + b))]) rfl ?_
  refine x_iload_n d_N_branch_17 rfl rfl ?_
  refine x_bipush (v := (nI 11)) d_N_branch_18 (by decide) ?_
  refine x_icmp_ne (tgt := 70) d_N_branch_20 rfl (fun q20 => ?_) (fun w_ => absurd w_ (by decide))
  refine x_iload_n d_N_branch_70 rfl rfl ?_
  refine x_bipush (v := (nI 12)) d_N_branch_71 (by decide) ?_
  refine x_icmp_ne (tgt := 95) d_N_branch_73 rfl (fun q73 => ?_) (fun w_ => absurd w_ (by decide))
  refine x_iload_n d_N_branch_95 rfl rfl ?_
  refine x_bipush (v := (nI 13)) d_N_branch_96 (by decide) ?_
  refine x_icmp_ne (tgt := 121) d_N_branch_98 rfl (fun q98 => ?_) (fun w_ => absurd w_ (by decide))
  refine x_iload_n d_N_branch_121 rfl rfl ?_
  refine x_bipush (v := (nI 15)) d_N_branch_122 (by decide) ?_
  refine x_icmp_ne (tgt := 176) d_N_branch_124 rfl (fun w_ => absurd (by decide) w_) (fun q124 => ?_)
  refine x_aload_n d_N_branch_127 rfl rfl ?_
  refine n_fld (j := 10) d_N_branch_128 lf_N_37 nl (by decide) rfl rfl ?_
  refine x_iload_n d_N_branch_131 rfl rfl ?_
  refine n_ld (j := 10) (i := p) (n := 12) (v := (nI ((pRe (oPr σ p)).length))) d_N_branch_132 nl (by decide) (by decide) rfl rfl (by omega) (by decide) yp.rl ?_
  refine x_bipush (v := (nI 6)) d_N_branch_133 (by decide) ?_
  refine x_icmp_lt (tgt := 140) d_N_branch_135 rfl (fun q135 => ?_) (fun w_ => absurd (nI_lt (b := 6) hl (by decide)) w_)
  refine x_aload_n d_N_branch_140 rfl rfl ?_
  refine n_fld (j := 11) d_N_branch_141 lf_N_40 nl (by decide) rfl rfl ?_
  refine x_bipush (v := (nI 6)) d_N_branch_144 (by decide) ?_
  refine x_iload_n d_N_branch_146 rfl rfl ?_
  refine x_imul (v := (nI (6 * p))) d_N_branch_147 (pk_mul _ _) ?_
  refine x_aload_n d_N_branch_148 rfl rfl ?_
  refine n_fld (j := 10) d_N_branch_149 lf_N_37 nl (by decide) rfl rfl ?_
  refine x_iload_n d_N_branch_152 rfl rfl ?_
  refine n_ld (j := 10) (i := p) (n := 12) (v := (nI ((pRe (oPr σ p)).length))) d_N_branch_153 nl (by decide) (by decide) rfl rfl (by omega) (by decide) yp.rl ?_
  refine x_iadd (v := (nI (6 * p + ((pRe (oPr σ p)).length)))) d_N_branch_154 (nI_add _ _) ?_
  refine x_aload_n d_N_branch_155 rfl rfl ?_
  refine n_fld (j := 7) d_N_branch_156 lf_N_28 nl (by decide) rfl rfl ?_
  refine x_iload_n d_N_branch_159 rfl rfl ?_
  refine n_ld (j := 7) (i := p) (n := 12) (v := (nI (pPl (oPr σ p)))) d_N_branch_160 nl (by decide) (by decide) rfl rfl (by omega) (by decide) yp.pl ?_
  refine n_st (j := 11) (i := 6 * p + ((pRe (oPr σ p)).length)) (n := 72) (v := (nI (pPl (oPr σ p)))) d_N_branch_161 nl (by decide) (by decide) rfl rfl (by omega) (by decide) ?_
  refine x_aload_n d_N_branch_162 rfl rfl ?_
  refine n_fld (j := 10) d_N_branch_163 lf_N_37 nl (by decide) rfl rfl ?_
  refine x_iload_n d_N_branch_166 rfl rfl ?_
  refine x_aload_n d_N_branch_167 rfl rfl ?_
  refine n_fld (j := 10) d_N_branch_168 lf_N_37 nl (by decide) rfl rfl ?_
  refine x_iload_n d_N_branch_171 rfl rfl ?_
  refine n_ld (j := 10) (i := p) (n := 12) (v := (nI ((pRe (oPr σ p)).length))) d_N_branch_172 nl (by decide) (by decide) rfl rfl (by omega) (by decide) ((up_r (by decide)).trans yp.rl) ?_
  refine x_iconst (v := (nI 1)) d_N_branch_173 (by decide) ?_
  refine x_iadd (v := (nI ((pRe (oPr σ p)).length + 1))) d_N_branch_174 (nI_add _ _) ?_
  refine n_st (j := 10) (i := p) (n := 12) (v := (nI ((pRe (oPr σ p)).length + 1))) d_N_branch_175 nl (by decide) (by decide) rfl rfl (by omega) (by decide) ?_
  refine x_iload_n d_N_branch_176 rfl rfl ?_
  refine x_bipush (v := (nI 14)) d_N_branch_177 (by decide) ?_
  refine x_icmp_eq (tgt := 188) d_N_branch_179 rfl (fun w_ => absurd w_ (by decide)) (fun q179 => ?_)
  refine x_iload_n d_N_branch_182 rfl rfl ?_
  refine x_bipush (v := (nI 15)) d_N_branch_183 (by decide) ?_
  refine x_icmp_ne (tgt := 195) d_N_branch_185 rfl (fun w_ => absurd (by decide) w_) (fun q185 => ?_)
  refine x_aload_n d_N_branch_188 rfl rfl ?_
  refine n_fld (j := 7) d_N_branch_189 lf_N_28 nl (by decide) rfl rfl ?_
  refine x_iload_n d_N_branch_192 rfl rfl ?_
  refine x_iload_n d_N_branch_193 rfl rfl ?_
  refine n_st (j := 7) (i := p) (n := 12) (v := (nI c)) d_N_branch_194 nl (by decide) (by decide) rfl rfl (by omega) (by decide) ?_
  refine x_iload_n d_N_branch_195 rfl rfl ?_
  refine x_bipush (v := (nI 16)) d_N_branch_196 (by decide) ?_
  refine x_icmp_ne (tgt := 220) d_N_branch_198 rfl (fun q198 => ?_) (fun w_ => absurd w_ (by decide))
  refine x_iload_n d_N_branch_220 rfl rfl ?_
  refine x_bipush (v := (nI 16)) d_N_branch_221 (by decide) ?_
  refine x_icmp_ne (tgt := 262) d_N_branch_223 rfl (fun q223 => ?_) (fun w_ => absurd w_ (by decide))
  refine x_iconst (v := (nI 1)) d_N_branch_262 (by decide) ?_
  exact x_iret d_N_branch_263 rfl rfl ⟨rfl, _, rfl, u, y.setP v.L ((((Chp.rf p A).up (Or.inl (Or.inr (Or.inl ⟨rfl, by omega, by omega⟩)))).up (Or.inl (Or.inr (Or.inr ⟨rfl, by decide⟩)))).up (Or.inl (Or.inr (Or.inr ⟨rfl, by decide⟩)))) ((yp.s_push rfl).s_pl c), HdX.setP rfl⟩
theorem n_br15n {E : th_E} {h : th_H} {r : Nat} {A : Nat → Nat → Int32} (nl : NL r h) {N u : Nat} {σ : Ho} (y : NR A σ u) (v : vPs N σ) {p : Nat} (hp : p < oCt σ) {c : Nat} (b b2 : Int32) (hl : 6 ≤ (pRe (oPr σ p)).length) : Xc E m_N_branch 5 0 0 [.ref r, .int (nI p), .int (nI 15), .int (nI c), .int b, .int b2] (ov r h A) (Pn r h σ u p none) := by
  refine Xc.of (by decide) (by simp [Value.category]) (Nat.le_of_ble_eq_true rfl) ?_
  show Xw E m_N_branch 5 0 0 0 [some (.ref r), some (.int (nI p)), some (.int (nI 15)), some (.int (nI c)), some (.int b), some (.int b2), none, none] [] (ov r h A) _
  have yp := y.2.2.2 p hp
  have hp12 := Nat.lt_of_lt_of_le hp v.1
  have vp := (v.2.2 p hp).L
  refine x_bipush (v := (nI 21)) d_N_branch_0 (by decide) ?_
  refine x_iload_n d_N_branch_2 rfl rfl ?_
  refine x_imul (v := (nI (21 * p))) d_N_branch_3 (pk_mul _ _) ?_
  refine x_iload_n d_N_branch_4 rfl rfl ?_
  refine x_iadd (v := (nI (21 * p + c))) d_N_branch_5 (nI_add _ _) ?_
  refine x_istore d_N_branch_6 (by decide) (L' := [some (.ref r), some (.int (nI p)), some (.int (nI 15)), some (.int (nI c)), some (.int b), some (.int b2), some (.int (nI (21 * p + c))), none]) rfl ?_
  refine x_bipush (v := (nI 21)) d_N_branch_8 (by decide) ?_
  refine x_iload_n d_N_branch_10 rfl rfl ?_
  refine x_imul (v := (nI (21 * p))) d_N_branch_11 (pk_mul _ _) ?_
  refine x_iload d_N_branch_12 rfl ?_
  refine x_iadd (v := ((nI (21 * p)) + b)) d_N_branch_14 rfl ?_
  refine x_istore d_N_branch_15 (by decide) (L' := [some (.ref r), some (.int (nI p)), some (.int (nI 15)), some (.int (nI c)), some (.int b), some (.int b2), some (.int (nI (21 * p + c))), some (.int ((nI (21 * p)) + b))]) rfl ?_
  refine x_iload_n d_N_branch_17 rfl rfl ?_
  refine x_bipush (v := (nI 11)) d_N_branch_18 (by decide) ?_
  refine x_icmp_ne (tgt := 70) d_N_branch_20 rfl (fun q20 => ?_) (fun w_ => absurd w_ (by decide))
  refine x_iload_n d_N_branch_70 rfl rfl ?_
  refine x_bipush (v := (nI 12)) d_N_branch_71 (by decide) ?_
  refine x_icmp_ne (tgt := 95) d_N_branch_73 rfl (fun q73 => ?_) (fun w_ => absurd w_ (by decide))
  refine x_iload_n d_N_branch_95 rfl rfl ?_
  refine x_bipush (v := (nI 13)) d_N_branch_96 (by decide) ?_
  refine x_icmp_ne (tgt := 121) d_N_branch_98 rfl (fun q98 => ?_) (fun w_ => absurd w_ (by decide))
  refine x_iload_n d_N_branch_121 rfl rfl ?_
  refine x_bipush (v := (nI 15)) d_N_branch_122 (by decide) ?_
  refine x_icmp_ne (tgt := 176) d_N_branch_124 rfl (fun w_ => absurd (by decide) w_) (fun q124 => ?_)
  refine x_aload_n d_N_branch_127 rfl rfl ?_
  refine n_fld (j := 10) d_N_branch_128 lf_N_37 nl (by decide) rfl rfl ?_
  refine x_iload_n d_N_branch_131 rfl rfl ?_
  refine n_ld (j := 10) (i := p) (n := 12) (v := (nI ((pRe (oPr σ p)).length))) d_N_branch_132 nl (by decide) (by decide) rfl rfl (by omega) (by decide) yp.rl ?_
  refine x_bipush (v := (nI 6)) d_N_branch_133 (by decide) ?_
  refine x_icmp_lt (tgt := 140) d_N_branch_135 rfl (fun w_ => absurd w_ (nI_nlt (b := 6) hl (by have := vp.2.1; omega))) (fun q135 => ?_)
  refine x_iconst (v := (nI 0)) d_N_branch_138 (by decide) ?_
  exact x_iret d_N_branch_139 rfl rfl ⟨rfl, A, rfl, y⟩
theorem n_br16e {E : th_E} {h : th_H} {r : Nat} {A : Nat → Nat → Int32} (nl : NL r h) {N u : Nat} {σ : Ho} (y : NR A σ u) (v : vPs N σ) {p : Nat} (hp : p < oCt σ) (a0 b b2 : Int32) (hl : pRe (oPr σ p) = []) (h3 : ¬ pSt (oPr σ p) = 3) : Xc E m_N_branch 5 0 0 [.ref r, .int (nI p), .int (nI 16), .int a0, .int b, .int b2] (ov r h A) (Pn r h σ u p (some (endM σ p aNormal))) := by
  refine Xc.of (by decide) (by simp [Value.category]) (Nat.le_of_ble_eq_true rfl) ?_
  show Xw E m_N_branch 5 0 0 0 [some (.ref r), some (.int (nI p)), some (.int (nI 16)), some (.int a0), some (.int b), some (.int b2), none, none] [] (ov r h A) _
  have yp := y.2.2.2 p hp
  have hp12 := Nat.lt_of_lt_of_le hp v.1
  have vp := (v.2.2 p hp).L
  refine x_bipush (v := (nI 21)) d_N_branch_0 (by decide) ?_
  refine x_iload_n d_N_branch_2 rfl rfl ?_
  refine x_imul (v := (nI (21 * p))) d_N_branch_3 (pk_mul _ _) ?_
  refine x_iload_n d_N_branch_4 rfl rfl ?_
  refine x_iadd (v := ((nI (21 * p)) + a0)) d_N_branch_5 rfl ?_
  refine x_istore d_N_branch_6 (by decide) (L' := [some (.ref r), some (.int (nI p)), some (.int (nI 16)), some (.int a0), some (.int b), some (.int b2), some (.int ((nI (21 * p)) + a0)), none]) rfl ?_
  refine x_bipush (v := (nI 21)) d_N_branch_8 (by decide) ?_
  refine x_iload_n d_N_branch_10 rfl rfl ?_
  refine x_imul (v := (nI (21 * p))) d_N_branch_11 (pk_mul _ _) ?_
  refine x_iload d_N_branch_12 rfl ?_
  refine x_iadd (v := ((nI (21 * p)) + b)) d_N_branch_14 rfl ?_
  refine x_istore d_N_branch_15 (by decide) (L' := [some (.ref r), some (.int (nI p)), some (.int (nI 16)), some (.int a0), some (.int b), some (.int b2), some (.int ((nI (21 * p)) + a0)), some (.int ((nI (21 * p)) + b))]) rfl ?_
  refine x_iload_n d_N_branch_17 rfl rfl ?_
  refine x_bipush (v := (nI 11)) d_N_branch_18 (by decide) ?_
  refine x_icmp_ne (tgt := 70) d_N_branch_20 rfl (fun q20 => ?_) (fun w_ => absurd w_ (by decide))
  refine x_iload_n d_N_branch_70 rfl rfl ?_
  refine x_bipush (v := (nI 12)) d_N_branch_71 (by decide) ?_
  refine x_icmp_ne (tgt := 95) d_N_branch_73 rfl (fun q73 => ?_) (fun w_ => absurd w_ (by decide))
  refine x_iload_n d_N_branch_95 rfl rfl ?_
  refine x_bipush (v := (nI 13)) d_N_branch_96 (by decide) ?_
  refine x_icmp_ne (tgt := 121) d_N_branch_98 rfl (fun q98 => ?_) (fun w_ => absurd w_ (by decide))
  refine x_iload_n d_N_branch_121 rfl rfl ?_
  refine x_bipush (v := (nI 15)) d_N_branch_122 (by decide) ?_
  refine x_icmp_ne (tgt := 176) d_N_branch_124 rfl (fun q124 => ?_) (fun w_ => absurd w_ (by decide))
  refine x_iload_n d_N_branch_176 rfl rfl ?_
  refine x_bipush (v := (nI 14)) d_N_branch_177 (by decide) ?_
  refine x_icmp_eq (tgt := 188) d_N_branch_179 rfl (fun w_ => absurd w_ (by decide)) (fun q179 => ?_)
  refine x_iload_n d_N_branch_182 rfl rfl ?_
  refine x_bipush (v := (nI 15)) d_N_branch_183 (by decide) ?_
  refine x_icmp_ne (tgt := 195) d_N_branch_185 rfl (fun q185 => ?_) (fun w_ => absurd w_ (by decide))
  refine x_iload_n d_N_branch_195 rfl rfl ?_
  refine x_bipush (v := (nI 16)) d_N_branch_196 (by decide) ?_
  refine x_icmp_ne (tgt := 220) d_N_branch_198 rfl (fun w_ => absurd (by decide) w_) (fun q198 => ?_)
  refine x_aload_n d_N_branch_201 rfl rfl ?_
  refine n_fld (j := 10) d_N_branch_202 lf_N_37 nl (by decide) rfl rfl ?_
  refine x_iload_n d_N_branch_205 rfl rfl ?_
  refine n_ld (j := 10) (i := p) (n := 12) (v := (nI 0)) d_N_branch_206 nl (by decide) (by decide) rfl rfl (by omega) (by decide) (by rw [yp.rl, hl]; rfl) ?_
  refine x_if_ne (tgt := 220) d_N_branch_207 rfl (fun w_ => absurd rfl w_) (fun q207 => ?_)
  refine x_aload_n d_N_branch_210 rfl rfl ?_
  refine x_iload_n d_N_branch_211 rfl rfl ?_
  refine x_bipush (v := (nI 14)) d_N_branch_212 (by decide) ?_
  refine x_invv d_N_branch_214 lm_N_146 (as := [.int (nI p), .int (nI 14)]) (S := []) (cz' := 0) (cs' := 0) (c_N_endBy nl y v (nI 14) hp h3) nl.o rfl rfl rfl (Nat.le_of_ble_eq_true rfl) (by omega) (by decide) (by decide) ?_
  rintro _ _ ⟨rfl, A2, rfl, u2, y2, k2⟩
  refine x_goto (tgt := 262) d_N_branch_217 rfl ?_
  refine x_iconst (v := (nI 1)) d_N_branch_262 (by decide) ?_
  exact x_iret d_N_branch_263 rfl rfl ⟨rfl, A2, rfl, u2, y2, k2.x⟩
theorem n_br16r {E : th_E} {h : th_H} {r : Nat} {A : Nat → Nat → Int32} (nl : NL r h) {N u : Nat} {σ : Ho} (y : NR A σ u) (v : vPs N σ) {p : Nat} (hp : p < oCt σ) (a0 b b2 : Int32) {n x : Nat} (hl : (pRe (oPr σ p)).length = n + 1) (hx : (pRe (oPr σ p))[n]? = some x) : Xc E m_N_branch 5 0 0 [.ref r, .int (nI p), .int (nI 16), .int a0, .int b, .int b2] (ov r h A) (Pn r h σ u p (some (sPr σ p (sPl (sRe (oPr σ p) (pRe (oPr σ p)).dropLast) x)))) := by
  refine Xc.of (by decide) (by simp [Value.category]) (Nat.le_of_ble_eq_true rfl) ?_
  show Xw E m_N_branch 5 0 0 0 [some (.ref r), some (.int (nI p)), some (.int (nI 16)), some (.int a0), some (.int b), some (.int b2), none, none] [] (ov r h A) _
  have yp := y.2.2.2 p hp
  have hp12 := Nat.lt_of_lt_of_le hp v.1
  have vp := (v.2.2 p hp).L
  refine x_bipush (v := (nI 21)) d_N_branch_0 (by decide) ?_
  refine x_iload_n d_N_branch_2 rfl rfl ?_
  refine x_imul (v := (nI (21 * p))) d_N_branch_3 (pk_mul _ _) ?_
  refine x_iload_n d_N_branch_4 rfl rfl ?_
  refine x_iadd (v := ((nI (21 * p)) + a0)) d_N_branch_5 rfl ?_
  refine x_istore d_N_branch_6 (by decide) (L' := [some (.ref r), some (.int (nI p)), some (.int (nI 16)), some (.int a0), some (.int b), some (.int b2), some (.int ((nI (21 * p)) + a0)), none]) rfl ?_
  refine x_bipush (v := (nI 21)) d_N_branch_8 (by decide) ?_
  refine x_iload_n d_N_branch_10 rfl rfl ?_
  refine x_imul (v := (nI (21 * p))) d_N_branch_11 (pk_mul _ _) ?_
  refine x_iload d_N_branch_12 rfl ?_
  refine x_iadd (v := ((nI (21 * p)) + b)) d_N_branch_14 rfl ?_
  refine x_istore d_N_branch_15 (by decide) (L' := [some (.ref r), some (.int (nI p)), some (.int (nI 16)), some (.int a0), some (.int b), some (.int b2), some (.int ((nI (21 * p)) + a0)), some (.int ((nI (21 * p)) + b))]) rfl ?_
  refine x_iload_n d_N_branch_17 rfl rfl ?_
  refine x_bipush (v := (nI 11)) d_N_branch_18 (by decide) ?_
  refine x_icmp_ne (tgt := 70) d_N_branch_20 rfl (fun q20 => ?_) (fun w_ => absurd w_ (by decide))
  refine x_iload_n d_N_branch_70 rfl rfl ?_
  refine x_bipush (v := (nI 12)) d_N_branch_71 (by decide) ?_
  refine x_icmp_ne (tgt := 95) d_N_branch_73 rfl (fun q73 => ?_) (fun w_ => absurd w_ (by decide))
  refine x_iload_n d_N_branch_95 rfl rfl ?_
  refine x_bipush (v := (nI 13)) d_N_branch_96 (by decide) ?_
  refine x_icmp_ne (tgt := 121) d_N_branch_98 rfl (fun q98 => ?_) (fun w_ => absurd w_ (by decide))
  refine x_iload_n d_N_branch_121 rfl rfl ?_
  refine x_bipush (v := (nI 15)) d_N_branch_122 (by decide) ?_
  refine x_icmp_ne (tgt := 176) d_N_branch_124 rfl (fun q124 => ?_) (fun w_ => absurd w_ (by decide))
  refine x_iload_n d_N_branch_176 rfl rfl ?_
  refine x_bipush (v := (nI 14)) d_N_branch_177 (by decide) ?_
  refine x_icmp_eq (tgt := 188) d_N_branch_179 rfl (fun w_ => absurd w_ (by decide)) (fun q179 => ?_)
  refine x_iload_n d_N_branch_182 rfl rfl ?_
  refine x_bipush (v := (nI 15)) d_N_branch_183 (by decide) ?_
  refine x_icmp_ne (tgt := 195) d_N_branch_185 rfl (fun q185 => ?_) (fun w_ => absurd w_ (by decide))
  refine x_iload_n d_N_branch_195 rfl rfl ?_
  refine x_bipush (v := (nI 16)) d_N_branch_196 (by decide) ?_
  refine x_icmp_ne (tgt := 220) d_N_branch_198 rfl (fun w_ => absurd (by decide) w_) (fun q198 => ?_)
  refine x_aload_n d_N_branch_201 rfl rfl ?_
  refine n_fld (j := 10) d_N_branch_202 lf_N_37 nl (by decide) rfl rfl ?_
  refine x_iload_n d_N_branch_205 rfl rfl ?_
  refine n_ld (j := 10) (i := p) (n := 12) (v := (nI (n + 1))) d_N_branch_206 nl (by decide) (by decide) rfl rfl (by omega) (by decide) (by rw [yp.rl, hl]) ?_
  refine x_if_ne (tgt := 220) d_N_branch_207 rfl (fun q207 => ?_) (fun w_ => absurd w_ (nI_ne0 (by omega) (by have := vp.2.1; omega)))
  refine x_iload_n d_N_branch_220 rfl rfl ?_
  refine x_bipush (v := (nI 16)) d_N_branch_221 (by decide) ?_
  refine x_icmp_ne (tgt := 262) d_N_branch_223 rfl (fun w_ => absurd (by decide) w_) (fun q223 => ?_)
  refine x_aload_n d_N_branch_226 rfl rfl ?_
  refine n_fld (j := 10) d_N_branch_227 lf_N_37 nl (by decide) rfl rfl ?_
  refine x_iload_n d_N_branch_230 rfl rfl ?_
  refine x_aload_n d_N_branch_231 rfl rfl ?_
  refine n_fld (j := 10) d_N_branch_232 lf_N_37 nl (by decide) rfl rfl ?_
  refine x_iload_n d_N_branch_235 rfl rfl ?_
  refine n_ld (j := 10) (i := p) (n := 12) (v := (nI (n + 1))) d_N_branch_236 nl (by decide) (by decide) rfl rfl (by omega) (by decide) (by rw [yp.rl, hl]) ?_
  refine x_iconst (v := (nI 1)) d_N_branch_237 (by decide) ?_
  refine x_isub (v := (nI (n))) d_N_branch_238 (nI_pred _) ?_
  refine n_st (j := 10) (i := p) (n := 12) (v := (nI (n))) d_N_branch_239 nl (by decide) (by decide) rfl rfl (by omega) (by decide) ?_
  refine x_aload_n d_N_branch_240 rfl rfl ?_
  refine n_fld (j := 7) d_N_branch_241 lf_N_28 nl (by decide) rfl rfl ?_
  refine x_iload_n d_N_branch_244 rfl rfl ?_
  refine x_aload_n d_N_branch_245 rfl rfl ?_
  refine n_fld (j := 11) d_N_branch_246 lf_N_40 nl (by decide) rfl rfl ?_
  refine x_bipush (v := (nI 6)) d_N_branch_249 (by decide) ?_
  refine x_iload_n d_N_branch_251 rfl rfl ?_
  refine x_imul (v := (nI (6 * p))) d_N_branch_252 (pk_mul _ _) ?_
  refine x_aload_n d_N_branch_253 rfl rfl ?_
  refine n_fld (j := 10) d_N_branch_254 lf_N_37 nl (by decide) rfl rfl ?_
  refine x_iload_n d_N_branch_257 rfl rfl ?_
  refine n_ld (j := 10) (i := p) (n := 12) (v := (nI (n))) d_N_branch_258 nl (by decide) (by decide) rfl rfl (by omega) (by decide) up_s ?_
  refine x_iadd (v := (nI (6 * p + n))) d_N_branch_259 (nI_add _ _) ?_
  refine n_ld (j := 11) (i := 6 * p + n) (n := 72) (v := (nI x)) d_N_branch_260 nl (by decide) (by decide) rfl rfl (by have := vp.2.1; omega) (by decide) ((up_r (by decide)).trans (yp.re n x hx)) ?_
  refine n_st (j := 7) (i := p) (n := 12) (v := (nI x)) d_N_branch_261 nl (by decide) (by decide) rfl rfl (by omega) (by decide) ?_
  refine x_iconst (v := (nI 1)) d_N_branch_262 (by decide) ?_
  exact x_iret d_N_branch_263 rfl rfl ⟨rfl, _, rfl, u, y.setP v.L (((Chp.rf p A).up (Or.inl (Or.inr (Or.inr ⟨rfl, by decide⟩)))).up (Or.inl (Or.inr (Or.inr ⟨rfl, by decide⟩)))) ((yp.s_pop hl).s_pl x), HdX.setP rfl⟩
