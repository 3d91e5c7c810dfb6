/-! The reference: its operations as a whole (printed by wip/gen/mod_ref11.py). -/
theorem n_make7n' {E : th_E} {h : th_H} {r : Nat} {A : Nat → Nat → Int32} (nl : NL r h) {N u : Nat} {σ : Ho} (y : NR A σ u) (v : vPs N σ) {p : Nat} (hp : p < oCt σ) {a b : Nat} (ha : a < 8) (hb : b < 8) (c : Int32) {q : Int32 × Int32} (ht : (pRg (oPr σ p) b) = .leaf q) : Xc E m_N_make 2 0 0 [.ref r, .int (nI (21 * p + a)), .int (nI 7), .int (nI (21 * p)), .int (nI b), .int c] (ov r h A) (Pn r h σ u p none) := by
  refine Xc.of (by decide) (by simp [Value.category]) (Nat.le_of_ble_eq_true rfl) ?_
  show Xw E m_N_make 2 0 0 0 [some (.ref r), some (.int (nI (21 * p + a))), some (.int (nI 7)), some (.int (nI (21 * p))), some (.int (nI b)), some (.int c), none, none, none] [] (ov r h A) _
  have yp := y.2.2.2 p hp
  have hp12 := Nat.lt_of_lt_of_le hp v.1
  have vp := (v.2.2 p hp).L
  have sb := yp.rg b hb
  rw [ht] at sb
  refine x_iload_n d_N_make_0 rfl rfl ?_
  refine x_if_ne (tgt := 12) d_N_make_1 rfl (fun q1 => ?_) (fun w_ => absurd w_ (by decide))
  refine x_iload_n d_N_make_12 rfl rfl ?_
  refine x_iconst (v := (nI 1)) d_N_make_13 (by decide) ?_
  refine x_icmp_ne (tgt := 25) d_N_make_14 rfl (fun q14 => ?_) (fun w_ => absurd w_ (by decide))
  refine x_iload_n d_N_make_25 rfl rfl ?_
  refine x_iconst (v := (nI 2)) d_N_make_26 (by decide) ?_
  refine x_icmp_ne (tgt := 39) d_N_make_27 rfl (fun q27 => ?_) (fun w_ => absurd w_ (by decide))
  refine x_iload_n d_N_make_39 rfl rfl ?_
  refine x_iconst (v := (nI 3)) d_N_make_40 (by decide) ?_
  refine x_icmp_ne (tgt := 54) d_N_make_41 rfl (fun q41 => ?_) (fun w_ => absurd w_ (by decide))
  refine x_iload_n d_N_make_54 rfl rfl ?_
  refine x_iconst (v := (nI 4)) d_N_make_55 (by decide) ?_
  refine x_icmp_ne (tgt := 66) d_N_make_56 rfl (fun q56 => ?_) (fun w_ => absurd w_ (by decide))
  refine x_iload_n d_N_make_66 rfl rfl ?_
  refine x_iconst (v := (nI 5)) d_N_make_67 (by decide) ?_
  refine x_icmp_ge (tgt := 73) d_N_make_68 rfl (fun q68 => ?_) (fun w_ => absurd (by decide) w_)
  refine x_iload_n d_N_make_73 rfl rfl ?_
  refine x_iload d_N_make_74 rfl ?_
  refine x_iadd (v := (nI (21 * p + b))) d_N_make_76 (nI_add _ _) ?_
  refine x_istore d_N_make_77 (by decide) (L' := [some (.ref r), some (.int (nI (21 * p + a))), some (.int (nI 7)), some (.int (nI (21 * p))), some (.int (nI b)), some (.int c), some (.int (nI (21 * p + b))), none, none]) rfl ?_
  refine x_iload_n d_N_make_79 rfl rfl ?_
  refine x_iload d_N_make_80 rfl ?_
  refine x_iadd (v := ((nI (21 * p)) + c)) d_N_make_82 rfl ?_
  refine x_istore d_N_make_83 (by decide) (L' := [some (.ref r), some (.int (nI (21 * p + a))), some (.int (nI 7)), some (.int (nI (21 * p))), some (.int (nI b)), some (.int c), some (.int (nI (21 * p + b))), some (.int ((nI (21 * p)) + c)), none]) rfl ?_
  refine x_iload_n d_N_make_85 rfl rfl ?_
  refine x_bipush (v := (nI 7)) d_N_make_86 (by decide) ?_
  refine x_icmp_ge (tgt := 171) d_N_make_88 rfl (fun q88 => ?_) (fun w_ => absurd (by decide) w_)
  refine x_iload_n d_N_make_171 rfl rfl ?_
  refine x_bipush (v := (nI 9)) d_N_make_172 (by decide) ?_
  refine x_icmp_ge (tgt := 255) d_N_make_174 rfl (fun w_ => absurd w_ (by decide)) (fun q174 => ?_)
  refine x_aload_n d_N_make_177 rfl rfl ?_
  refine x_iload d_N_make_178 rfl ?_
  refine x_invv d_N_make_180 lm_N_77 (as := [.int (nI (21 * p + b))]) (S := []) (cz' := 0) (cs' := 0) (c_N_weight nl (by omega)) nl.o rfl rfl rfl (Nat.le_of_ble_eq_true rfl) (by omega) (by decide) (by decide) ?_
  rintro _ _ ⟨rfl, rfl⟩
  rw [sb.1]
  refine x_iconst (v := (nI 1)) d_N_make_183 (by decide) ?_
  refine x_icmp_ne (tgt := 189) d_N_make_184 rfl (fun w_ => absurd rfl w_) (fun q184 => ?_)
  refine x_iconst (v := (nI 0)) d_N_make_187 (by decide) ?_
  exact x_iret d_N_make_188 rfl rfl ⟨rfl, A, rfl, y⟩
theorem n_make7y' {E : th_E} {h : th_H} {r : Nat} {A : Nat → Nat → Int32} (nl : NL r h) {N u : Nat} {σ : Ho} (y : NR A σ u) (v : vPs N σ) {p : Nat} (hp : p < oCt σ) {a b : Nat} (ha : a < 8) (hb : b < 8) (c : Int32) {k : Nat} {l r2 : Tm} (ht : (pRg (oPr σ p) b) = (.branch k l r2)) : Xc E m_N_make 2 0 0 [.ref r, .int (nI (21 * p + a)), .int (nI 7), .int (nI (21 * p)), .int (nI b), .int c] (ov r h A) (Pn r h σ u p (some (sPr σ p (sRg (oPr σ p) a l)))) := by
  refine Xc.of (by decide) (by simp [Value.category]) (Nat.le_of_ble_eq_true rfl) ?_
  show Xw E m_N_make 2 0 0 0 [some (.ref r), some (.int (nI (21 * p + a))), some (.int (nI 7)), some (.int (nI (21 * p))), some (.int (nI b)), some (.int c), none, none, none] [] (ov r h A) _
  have yp := y.2.2.2 p hp
  have hp12 := Nat.lt_of_lt_of_le hp v.1
  have vp := (v.2.2 p hp).L
  have sb := yp.rg b hb
  have hlb := vp.1 b
  have hok := ((v.2.2 p hp).1 b).1
  rw [ht] at sb hlb hok
  have hbl := brl (k := k) (l := l) (r2 := r2)
  have hl0 := tF_pos l
  have hr0 := tF_pos r2
  refine x_iload_n d_N_make_0 rfl rfl ?_
  refine x_if_ne (tgt := 12) d_N_make_1 rfl (fun q1 => ?_) (fun w_ => absurd w_ (by decide))
  refine x_iload_n d_N_make_12 rfl rfl ?_
  refine x_iconst (v := (nI 1)) d_N_make_13 (by decide) ?_
  refine x_icmp_ne (tgt := 25) d_N_make_14 rfl (fun q14 => ?_) (fun w_ => absurd w_ (by decide))
  refine x_iload_n d_N_make_25 rfl rfl ?_
  refine x_iconst (v := (nI 2)) d_N_make_26 (by decide) ?_
  refine x_icmp_ne (tgt := 39) d_N_make_27 rfl (fun q27 => ?_) (fun w_ => absurd w_ (by decide))
  refine x_iload_n d_N_make_39 rfl rfl ?_
  refine x_iconst (v := (nI 3)) d_N_make_40 (by decide) ?_
  refine x_icmp_ne (tgt := 54) d_N_make_41 rfl (fun q41 => ?_) (fun w_ => absurd w_ (by decide))
  refine x_iload_n d_N_make_54 rfl rfl ?_
  refine x_iconst (v := (nI 4)) d_N_make_55 (by decide) ?_
  refine x_icmp_ne (tgt := 66) d_N_make_56 rfl (fun q56 => ?_) (fun w_ => absurd w_ (by decide))
  refine x_iload_n d_N_make_66 rfl rfl ?_
  refine x_iconst (v := (nI 5)) d_N_make_67 (by decide) ?_
  refine x_icmp_ge (tgt := 73) d_N_make_68 rfl (fun q68 => ?_) (fun w_ => absurd (by decide) w_)
  refine x_iload_n d_N_make_73 rfl rfl ?_
  refine x_iload d_N_make_74 rfl ?_
  refine x_iadd (v := (nI (21 * p + b))) d_N_make_76 (nI_add _ _) ?_
  refine x_istore d_N_make_77 (by decide) (L' := [some (.ref r), some (.int (nI (21 * p + a))), some (.int (nI 7)), some (.int (nI (21 * p))), some (.int (nI b)), some (.int c), some (.int (nI (21 * p + b))), none, none]) rfl ?_
  refine x_iload_n d_N_make_79 rfl rfl ?_
  refine x_iload d_N_make_80 rfl ?_
  refine x_iadd (v := ((nI (21 * p)) + c)) d_N_make_82 rfl ?_
  refine x_istore d_N_make_83 (by decide) (L' := [some (.ref r), some (.int (nI (21 * p + a))), some (.int (nI 7)), some (.int (nI (21 * p))), some (.int (nI b)), some (.int c), some (.int (nI (21 * p + b))), some (.int ((nI (21 * p)) + c)), none]) rfl ?_
  refine x_iload_n d_N_make_85 rfl rfl ?_
  refine x_bipush (v := (nI 7)) d_N_make_86 (by decide) ?_
  refine x_icmp_ge (tgt := 171) d_N_make_88 rfl (fun q88 => ?_) (fun w_ => absurd (by decide) w_)
  refine x_iload_n d_N_make_171 rfl rfl ?_
  refine x_bipush (v := (nI 9)) d_N_make_172 (by decide) ?_
  refine x_icmp_ge (tgt := 255) d_N_make_174 rfl (fun w_ => absurd w_ (by decide)) (fun q174 => ?_)
  refine x_aload_n d_N_make_177 rfl rfl ?_
  refine x_iload d_N_make_178 rfl ?_
  refine x_invv d_N_make_180 lm_N_77 (as := [.int (nI (21 * p + b))]) (S := []) (cz' := 0) (cs' := 0) (c_N_weight nl (by omega)) nl.o rfl rfl rfl (Nat.le_of_ble_eq_true rfl) (by omega) (by decide) (by decide) ?_
  rintro _ _ ⟨rfl, rfl⟩
  rw [sb.1]
  refine x_iconst (v := (nI 1)) d_N_make_183 (by decide) ?_
  refine x_icmp_ne (tgt := 189) d_N_make_184 rfl (fun q184 => ?_) (fun w_ => absurd w_ (fun z => by have := (nI_eq (b := 1) (by omega) (by decide)).mp z; omega))
  refine x_aload_n d_N_make_189 rfl rfl ?_
  refine x_iload d_N_make_190 rfl ?_
  refine x_iconst (v := (nI 1)) d_N_make_192 (by decide) ?_
  refine x_invv d_N_make_193 lm_N_140 (as := [.int (nI (21 * p + b)), .int (nI 1)]) (S := []) (cz' := 0) (cs' := 0) (c_N_behind (p := 1) (x := l) (post := tF r2) nl (by omega) sb hok.2.1 rfl (by omega)) nl.o rfl rfl rfl (Nat.le_of_ble_eq_true rfl) (by omega) (by decide) (by decide) ?_
  rintro _ _ ⟨rfl, rfl⟩
  refine x_istore d_N_make_196 (by decide) (L' := [some (.ref r), some (.int (nI (21 * p + a))), some (.int (nI 7)), some (.int (nI (21 * p))), some (.int (nI b)), some (.int c), some (.int (nI (21 * p + b))), some (.int ((nI (21 * p)) + c)), some (.int (nI (1 + (tF l).length)))]) rfl ?_
  refine x_aload_n d_N_make_198 rfl rfl ?_
  refine n_fld (j := 5) d_N_make_199 lf_N_22 nl (by decide) rfl rfl ?_
  refine x_sipush (v := (nI 8064)) d_N_make_202 (by decide) ?_
  refine x_iconst (v := (nI 0)) d_N_make_205 (by decide) ?_
  refine n_st (j := 5) (i := 8064) (n := 8128) (v := (nI 0)) d_N_make_206 nl (by decide) (by decide) rfl rfl (by decide) (by decide) ?_
  have f1 : Tb 252 A (up A 5 8064 (nI 0)) := Tb.up (by decide) (by decide)
  have g1 : SL (up A 5 8064 (nI 0)) 252 [] := ⟨up_s, fun i q hq => by cases hq⟩
  generalize (up A 5 8064 (nI 0)) = B1 at f1 g1 ⊢
  have sb1 := sb.tb hlb f1 (by omega)
  refine x_aload_n d_N_make_207 rfl rfl ?_
  refine x_sipush (v := (nI 252)) d_N_make_208 (by decide) ?_
  refine x_iload d_N_make_211 rfl ?_
  refine x_iload_n d_N_make_213 rfl rfl ?_
  refine x_bipush (v := (nI 7)) d_N_make_214 (by decide) ?_
  refine x_icmp_ne (tgt := 223) d_N_make_216 rfl (fun w_ => absurd (by decide) w_) (fun q216 => ?_)
  refine x_iconst (v := (nI 1)) d_N_make_219 (by decide) ?_
  refine x_goto (tgt := 225) d_N_make_220 rfl ?_
  refine x_iload_n d_N_make_225 rfl rfl ?_
  refine x_bipush (v := (nI 7)) d_N_make_226 (by decide) ?_
  refine x_icmp_ne (tgt := 236) d_N_make_228 rfl (fun w_ => absurd (by decide) w_) (fun q228 => ?_)
  refine x_iload d_N_make_231 rfl ?_
  refine x_goto (tgt := 242) d_N_make_233 rfl ?_
  refine x_invv d_N_make_242 lm_N_118 (as := [.int (nI 252), .int (nI (21 * p + b)), .int (nI 1), .int (nI (1 + (tF l).length))]) (S := []) (cz' := 0) (cs' := 0) (c_N_addParts (s := 252) (o := 21 * p + b) (f := 1) (e := (1 + (tF l).length)) (w := 0) nl (by decide) (by omega) (by omega) (by omega) (by omega) g1.1 (by omega)) nl.o rfl rfl rfl (Nat.le_of_ble_eq_true rfl) (by omega) (by decide) (by decide) ?_
  rintro _ _ ⟨rfl, rfl⟩
  have f2 := f1.tr (Tb.ap (A := B1) (s := 252) (o := 21 * p + b) (f := 1) (w := 0) (c := (1 + (tF l).length) - 1) (by omega))
  have g2 : SL (apA B1 252 (21 * p + b) 1 0 ((1 + (tF l).length) - 1)) 252 (tF l) := by have z := g1.ap (w := 0) rfl sb1 (show 1 ≤ (1 + (tF l).length) by omega) (by omega); rw [List.nil_append, part1] at z; exact z
  generalize (apA B1 252 (21 * p + b) 1 0 ((1 + (tF l).length) - 1)) = B2 at f2 g2 ⊢
  have y2 := y.tw v.L (by decide) f2
  refine x_aload_n d_N_make_245 rfl rfl ?_
  refine x_sipush (v := (nI 252)) d_N_make_246 (by decide) ?_
  refine x_iload_n d_N_make_249 rfl rfl ?_
  refine x_invv d_N_make_250 lm_N_107 (as := [.int (nI 252), .int (nI (21 * p + a))]) (S := []) (cz' := 0) (cs' := 0) (c_N_copy nl (by omega) (by omega) g2.1 (by omega)) nl.o rfl rfl rfl (Nat.le_of_ble_eq_true rfl) (by omega) (by decide) (by decide) ?_
  rintro _ _ ⟨rfl, rfl⟩
  have e1 : Tb (21 * p + a) B2 (cpA B2 252 (21 * p + a) (2 * (tF l).length + 1)) := Tb.cp (by omega)
  have q1 : SL (cpA B2 252 (21 * p + a) (2 * (tF l).length + 1)) (21 * p + a) (tF l) := g2.cp rfl
  generalize cpA B2 252 (21 * p + a) (2 * (tF l).length + 1) = A1 at e1 q1 ⊢
  refine x_iconst (v := (nI 1)) d_N_make_253 (by decide) ?_
  exact x_iret d_N_make_254 rfl rfl ⟨rfl, A1, rfl, u, y2.setP v.L ((Chp.rf p B2).tb (k := a) (by omega) e1) ((y2.2.2.2 p hp).s_rg vp ha e1 q1), HdX.setP rfl⟩
theorem n_make8n' {E : th_E} {h : th_H} {r : Nat} {A : Nat → Nat → Int32} (nl : NL r h) {N u : Nat} {σ : Ho} (y : NR A σ u) (v : vPs N σ) {p : Nat} (hp : p < oCt σ) {a b : Nat} (ha : a < 8) (hb : b < 8) (c : Int32) {q : Int32 × Int32} (ht : (pRg (oPr σ p) b) = .leaf q) : Xc E m_N_make 2 0 0 [.ref r, .int (nI (21 * p + a)), .int (nI 8), .int (nI (21 * p)), .int (nI b), .int c] (ov r h A) (Pn r h σ u p none) := by
  refine Xc.of (by decide) (by simp [Value.category]) (Nat.le_of_ble_eq_true rfl) ?_
  show Xw E m_N_make 2 0 0 0 [some (.ref r), some (.int (nI (21 * p + a))), some (.int (nI 8)), some (.int (nI (21 * p))), some (.int (nI b)), some (.int c), none, none, none] [] (ov r h A) _
  have yp := y.2.2.2 p hp
  have hp12 := Nat.lt_of_lt_of_le hp v.1
  have vp := (v.2.2 p hp).L
  have sb := yp.rg b hb
  rw [ht] at sb
  refine x_iload_n d_N_make_0 rfl rfl ?_
  refine x_if_ne (tgt := 12) d_N_make_1 rfl (fun q1 => ?_) (fun w_ => absurd w_ (by decide))
  refine x_iload_n d_N_make_12 rfl rfl ?_
  refine x_iconst (v := (nI 1)) d_N_make_13 (by decide) ?_
  refine x_icmp_ne (tgt := 25) d_N_make_14 rfl (fun q14 => ?_) (fun w_ => absurd w_ (by decide))
  refine x_iload_n d_N_make_25 rfl rfl ?_
  refine x_iconst (v := (nI 2)) d_N_make_26 (by decide) ?_
  refine x_icmp_ne (tgt := 39) d_N_make_27 rfl (fun q27 => ?_) (fun w_ => absurd w_ (by decide))
  refine x_iload_n d_N_make_39 rfl rfl ?_
  refine x_iconst (v := (nI 3)) d_N_make_40 (by decide) ?_
  refine x_icmp_ne (tgt := 54) d_N_make_41 rfl (fun q41 => ?_) (fun w_ => absurd w_ (by decide))
  refine x_iload_n d_N_make_54 rfl rfl ?_
  refine x_iconst (v := (nI 4)) d_N_make_55 (by decide) ?_
  refine x_icmp_ne (tgt := 66) d_N_make_56 rfl (fun q56 => ?_) (fun w_ => absurd w_ (by decide))
  refine x_iload_n d_N_make_66 rfl rfl ?_
  refine x_iconst (v := (nI 5)) d_N_make_67 (by decide) ?_
  refine x_icmp_ge (tgt := 73) d_N_make_68 rfl (fun q68 => ?_) (fun w_ => absurd (by decide) w_)
  refine x_iload_n d_N_make_73 rfl rfl ?_
  refine x_iload d_N_make_74 rfl ?_
  refine x_iadd (v := (nI (21 * p + b))) d_N_make_76 (nI_add _ _) ?_
  refine x_istore d_N_make_77 (by decide) (L' := [some (.ref r), some (.int (nI (21 * p + a))), some (.int (nI 8)), some (.int (nI (21 * p))), some (.int (nI b)), some (.int c), some (.int (nI (21 * p + b))), none, none]) rfl ?_
  refine x_iload_n d_N_make_79 rfl rfl ?_
  refine x_iload d_N_make_80 rfl ?_
  refine x_iadd (v := ((nI (21 * p)) + c)) d_N_make_82 rfl ?_
  refine x_istore d_N_make_83 (by decide) (L' := [some (.ref r), some (.int (nI (21 * p + a))), some (.int (nI 8)), some (.int (nI (21 * p))), some (.int (nI b)), some (.int c), some (.int (nI (21 * p + b))), some (.int ((nI (21 * p)) + c)), none]) rfl ?_
  refine x_iload_n d_N_make_85 rfl rfl ?_
  refine x_bipush (v := (nI 7)) d_N_make_86 (by decide) ?_
  refine x_icmp_ge (tgt := 171) d_N_make_88 rfl (fun q88 => ?_) (fun w_ => absurd (by decide) w_)
  refine x_iload_n d_N_make_171 rfl rfl ?_
  refine x_bipush (v := (nI 9)) d_N_make_172 (by decide) ?_
  refine x_icmp_ge (tgt := 255) d_N_make_174 rfl (fun w_ => absurd w_ (by decide)) (fun q174 => ?_)
  refine x_aload_n d_N_make_177 rfl rfl ?_
  refine x_iload d_N_make_178 rfl ?_
  refine x_invv d_N_make_180 lm_N_77 (as := [.int (nI (21 * p + b))]) (S := []) (cz' := 0) (cs' := 0) (c_N_weight nl (by omega)) nl.o rfl rfl rfl (Nat.le_of_ble_eq_true rfl) (by omega) (by decide) (by decide) ?_
  rintro _ _ ⟨rfl, rfl⟩
  rw [sb.1]
  refine x_iconst (v := (nI 1)) d_N_make_183 (by decide) ?_
  refine x_icmp_ne (tgt := 189) d_N_make_184 rfl (fun w_ => absurd rfl w_) (fun q184 => ?_)
  refine x_iconst (v := (nI 0)) d_N_make_187 (by decide) ?_
  exact x_iret d_N_make_188 rfl rfl ⟨rfl, A, rfl, y⟩
theorem n_make8y' {E : th_E} {h : th_H} {r : Nat} {A : Nat → Nat → Int32} (nl : NL r h) {N u : Nat} {σ : Ho} (y : NR A σ u) (v : vPs N σ) {p : Nat} (hp : p < oCt σ) {a b : Nat} (ha : a < 8) (hb : b < 8) (c : Int32) {k : Nat} {l r2 : Tm} (ht : (pRg (oPr σ p) b) = (.branch k l r2)) : Xc E m_N_make 2 0 0 [.ref r, .int (nI (21 * p + a)), .int (nI 8), .int (nI (21 * p)), .int (nI b), .int c] (ov r h A) (Pn r h σ u p (some (sPr σ p (sRg (oPr σ p) a r2)))) := by
  refine Xc.of (by decide) (by simp [Value.category]) (Nat.le_of_ble_eq_true rfl) ?_
  show Xw E m_N_make 2 0 0 0 [some (.ref r), some (.int (nI (21 * p + a))), some (.int (nI 8)), some (.int (nI (21 * p))), some (.int (nI b)), some (.int c), none, none, none] [] (ov r h A) _
  have yp := y.2.2.2 p hp
  have hp12 := Nat.lt_of_lt_of_le hp v.1
  have vp := (v.2.2 p hp).L
  have sb := yp.rg b hb
  have hlb := vp.1 b
  have hok := ((v.2.2 p hp).1 b).1
  rw [ht] at sb hlb hok
  have hbl := brl (k := k) (l := l) (r2 := r2)
  have hl0 := tF_pos l
  have hr0 := tF_pos r2
  refine x_iload_n d_N_make_0 rfl rfl ?_
  refine x_if_ne (tgt := 12) d_N_make_1 rfl (fun q1 => ?_) (fun w_ => absurd w_ (by decide))
  refine x_iload_n d_N_make_12 rfl rfl ?_
  refine x_iconst (v := (nI 1)) d_N_make_13 (by decide) ?_
  refine x_icmp_ne (tgt := 25) d_N_make_14 rfl (fun q14 => ?_) (fun w_ => absurd w_ (by decide))
  refine x_iload_n d_N_make_25 rfl rfl ?_
  refine x_iconst (v := (nI 2)) d_N_make_26 (by decide) ?_
  refine x_icmp_ne (tgt := 39) d_N_make_27 rfl (fun q27 => ?_) (fun w_ => absurd w_ (by decide))
  refine x_iload_n d_N_make_39 rfl rfl ?_
  refine x_iconst (v := (nI 3)) d_N_make_40 (by decide) ?_
  refine x_icmp_ne (tgt := 54) d_N_make_41 rfl (fun q41 => ?_) (fun w_ => absurd w_ (by decide))
  refine x_iload_n d_N_make_54 rfl rfl ?_
  refine x_iconst (v := (nI 4)) d_N_make_55 (by decide) ?_
  refine x_icmp_ne (tgt := 66) d_N_make_56 rfl (fun q56 => ?_) (fun w_ => absurd w_ (by decide))
  refine x_iload_n d_N_make_66 rfl rfl ?_
  refine x_iconst (v := (nI 5)) d_N_make_67 (by decide) ?_
  refine x_icmp_ge (tgt := 73) d_N_make_68 rfl (fun q68 => ?_) (fun w_ => absurd (by decide) w_)
  refine x_iload_n d_N_make_73 rfl rfl ?_
  refine x_iload d_N_make_74 rfl ?_
  refine x_iadd (v := (nI (21 * p + b))) d_N_make_76 (nI_add _ _) ?_
  refine x_istore d_N_make_77 (by decide) (L' := [some (.ref r), some (.int (nI (21 * p + a))), some (.int (nI 8)), some (.int (nI (21 * p))), some (.int (nI b)), some (.int c), some (.int (nI (21 * p + b))), none, none]) rfl ?_
  refine x_iload_n d_N_make_79 rfl rfl ?_
  refine x_iload d_N_make_80 rfl ?_
  refine x_iadd (v := ((nI (21 * p)) + c)) d_N_make_82 rfl ?_
  refine x_istore d_N_make_83 (by decide) (L' := [some (.ref r), some (.int (nI (21 * p + a))), some (.int (nI 8)), some (.int (nI (21 * p))), some (.int (nI b)), some (.int c), some (.int (nI (21 * p + b))), some (.int ((nI (21 * p)) + c)), none]) rfl ?_
  refine x_iload_n d_N_make_85 rfl rfl ?_
  refine x_bipush (v := (nI 7)) d_N_make_86 (by decide) ?_
  refine x_icmp_ge (tgt := 171) d_N_make_88 rfl (fun q88 => ?_) (fun w_ => absurd (by decide) w_)
  refine x_iload_n d_N_make_171 rfl rfl ?_
  refine x_bipush (v := (nI 9)) d_N_make_172 (by decide) ?_
  refine x_icmp_ge (tgt := 255) d_N_make_174 rfl (fun w_ => absurd w_ (by decide)) (fun q174 => ?_)
  refine x_aload_n d_N_make_177 rfl rfl ?_
  refine x_iload d_N_make_178 rfl ?_
  refine x_invv d_N_make_180 lm_N_77 (as := [.int (nI (21 * p + b))]) (S := []) (cz' := 0) (cs' := 0) (c_N_weight nl (by omega)) nl.o rfl rfl rfl (Nat.le_of_ble_eq_true rfl) (by omega) (by decide) (by decide) ?_
  rintro _ _ ⟨rfl, rfl⟩
  rw [sb.1]
  refine x_iconst (v := (nI 1)) d_N_make_183 (by decide) ?_
  refine x_icmp_ne (tgt := 189) d_N_make_184 rfl (fun q184 => ?_) (fun w_ => absurd w_ (fun z => by have := (nI_eq (b := 1) (by omega) (by decide)).mp z; omega))
  refine x_aload_n d_N_make_189 rfl rfl ?_
  refine x_iload d_N_make_190 rfl ?_
  refine x_iconst (v := (nI 1)) d_N_make_192 (by decide) ?_
  refine x_invv d_N_make_193 lm_N_140 (as := [.int (nI (21 * p + b)), .int (nI 1)]) (S := []) (cz' := 0) (cs' := 0) (c_N_behind (p := 1) (x := l) (post := tF r2) nl (by omega) sb hok.2.1 rfl (by omega)) nl.o rfl rfl rfl (Nat.le_of_ble_eq_true rfl) (by omega) (by decide) (by decide) ?_
  rintro _ _ ⟨rfl, rfl⟩
  refine x_istore d_N_make_196 (by decide) (L' := [some (.ref r), some (.int (nI (21 * p + a))), some (.int (nI 8)), some (.int (nI (21 * p))), some (.int (nI b)), some (.int c), some (.int (nI (21 * p + b))), some (.int ((nI (21 * p)) + c)), some (.int (nI (1 + (tF l).length)))]) rfl ?_
  refine x_aload_n d_N_make_198 rfl rfl ?_
  refine n_fld (j := 5) d_N_make_199 lf_N_22 nl (by decide) rfl rfl ?_
  refine x_sipush (v := (nI 8064)) d_N_make_202 (by decide) ?_
  refine x_iconst (v := (nI 0)) d_N_make_205 (by decide) ?_
  refine n_st (j := 5) (i := 8064) (n := 8128) (v := (nI 0)) d_N_make_206 nl (by decide) (by decide) rfl rfl (by decide) (by decide) ?_
  have f1 : Tb 252 A (up A 5 8064 (nI 0)) := Tb.up (by decide) (by decide)
  have g1 : SL (up A 5 8064 (nI 0)) 252 [] := ⟨up_s, fun i q hq => by cases hq⟩
  generalize (up A 5 8064 (nI 0)) = B1 at f1 g1 ⊢
  have sb1 := sb.tb hlb f1 (by omega)
  refine x_aload_n d_N_make_207 rfl rfl ?_
  refine x_sipush (v := (nI 252)) d_N_make_208 (by decide) ?_
  refine x_iload d_N_make_211 rfl ?_
  refine x_iload_n d_N_make_213 rfl rfl ?_
  refine x_bipush (v := (nI 7)) d_N_make_214 (by decide) ?_
  refine x_icmp_ne (tgt := 223) d_N_make_216 rfl (fun q216 => ?_) (fun w_ => absurd w_ (by decide))
  refine x_iload d_N_make_223 rfl ?_
  refine x_iload_n d_N_make_225 rfl rfl ?_
  refine x_bipush (v := (nI 7)) d_N_make_226 (by decide) ?_
  refine x_icmp_ne (tgt := 236) d_N_make_228 rfl (fun q228 => ?_) (fun w_ => absurd w_ (by decide))
  refine x_aload_n d_N_make_236 rfl rfl ?_
  refine x_iload d_N_make_237 rfl ?_
  refine x_invv d_N_make_239 lm_N_77 (as := [.int (nI (21 * p + b))]) (S := [.int (nI (1 + (tF l).length)), .int (nI (21 * p + b)), .int (nI 252), .ref r]) (cz' := 0) (cs' := 0) (c_N_weight nl (by omega)) nl.o rfl rfl rfl (Nat.le_of_ble_eq_true rfl) (by omega) (by decide) (by decide) ?_
  rintro _ _ ⟨rfl, rfl⟩
  rw [sb1.1]
  refine x_invv d_N_make_242 lm_N_118 (as := [.int (nI 252), .int (nI (21 * p + b)), .int (nI (1 + (tF l).length)), .int (nI ((tF (.branch k l r2)).length))]) (S := []) (cz' := 0) (cs' := 0) (c_N_addParts (s := 252) (o := 21 * p + b) (f := (1 + (tF l).length)) (e := (tF (.branch k l r2)).length) (w := 0) nl (by decide) (by omega) (by omega) (by omega) (by omega) g1.1 (by omega)) nl.o rfl rfl rfl (Nat.le_of_ble_eq_true rfl) (by omega) (by decide) (by decide) ?_
  rintro _ _ ⟨rfl, rfl⟩
  have f2 := f1.tr (Tb.ap (A := B1) (s := 252) (o := 21 * p + b) (f := (1 + (tF l).length)) (w := 0) (c := (tF (.branch k l r2)).length - (1 + (tF l).length)) (by omega))
  have g2 : SL (apA B1 252 (21 * p + b) (1 + (tF l).length) 0 ((tF (.branch k l r2)).length - (1 + (tF l).length))) 252 (tF r2) := by have z := g1.ap (w := 0) rfl sb1 (show (1 + (tF l).length) ≤ (tF (.branch k l r2)).length by omega) (by omega); rw [List.nil_append, part2] at z; exact z
  generalize (apA B1 252 (21 * p + b) (1 + (tF l).length) 0 ((tF (.branch k l r2)).length - (1 + (tF l).length))) = B2 at f2 g2 ⊢
  have y2 := y.tw v.L (by decide) f2
  refine x_aload_n d_N_make_245 rfl rfl ?_
  refine x_sipush (v := (nI 252)) d_N_make_246 (by decide) ?_
  refine x_iload_n d_N_make_249 rfl rfl ?_
  refine x_invv d_N_make_250 lm_N_107 (as := [.int (nI 252), .int (nI (21 * p + a))]) (S := []) (cz' := 0) (cs' := 0) (c_N_copy nl (by omega) (by omega) g2.1 (by omega)) nl.o rfl rfl rfl (Nat.le_of_ble_eq_true rfl) (by omega) (by decide) (by decide) ?_
  rintro _ _ ⟨rfl, rfl⟩
  have e1 : Tb (21 * p + a) B2 (cpA B2 252 (21 * p + a) (2 * (tF r2).length + 1)) := Tb.cp (by omega)
  have q1 : SL (cpA B2 252 (21 * p + a) (2 * (tF r2).length + 1)) (21 * p + a) (tF r2) := g2.cp rfl
  generalize cpA B2 252 (21 * p + a) (2 * (tF r2).length + 1) = A1 at e1 q1 ⊢
  refine x_iconst (v := (nI 1)) d_N_make_253 (by decide) ?_
  exact x_iret d_N_make_254 rfl rfl ⟨rfl, A1, rfl, u, y2.setP v.L ((Chp.rf p B2).tb (k := a) (by omega) e1) ((y2.2.2.2 p hp).s_rg vp ha e1 q1), HdX.setP rfl⟩
theorem n_make {E : th_E} {h : th_H} {r : Nat} {A : Nat → Nat → Int32} (nl : NL r h) {N u : Nat} {σ : Ho} (y : NR A σ u) (v : vPs N σ) {p : Nat} (hp : p < oCt σ) (hN : N < 2 ^ 30) (h3 : ¬ pSt (oPr σ p) = 3) {op : Nat} {a b c : Int32} (vi : vIns op a b c) (ho : 0 ≤ op ∧ op < 11) : Xc E m_N_make 2 0 0 [.ref r, .int (nI (21 * p) + a), .int (nI op), .int (nI (21 * p)), .int b, .int c] (ov r h A) (Pn r h σ u p (performM σ p op a b c)) := by
  match op, vi, ho with
  | 0, vi, _ =>
    obtain ⟨i, hi, rfl⟩ := vi
    rw [nI_add]
    simp only [performM, cl_nI (show i < 2 ^ 31 by omega)]
    exact n_make0 nl y v hp hi b c
  | 1, vi, _ =>
    obtain ⟨⟨i, hi, rfl⟩, j, hj, rfl⟩ := vi
    rw [nI_add]
    simp only [performM, cl_nI (show i < 2 ^ 31 by omega)]
    exact n_make1 nl y v hp hi _ c
  | 2, vi, _ =>
    obtain ⟨⟨i, hi, rfl⟩, j, hj, rfl⟩ := vi
    rw [nI_add]
    simp only [performM, cl_nI (show i < 2 ^ 31 by omega), cl_nI (show j < 2 ^ 31 by omega)]
    exact n_make2 nl y v hp hi hj c
  | 3, vi, _ =>
    obtain ⟨i, hi, rfl⟩ := vi
    rw [nI_add]
    simp only [performM, cl_nI (show i < 2 ^ 31 by omega)]
    exact n_make3 nl y v hp hi b c
  | 4, vi, _ =>
    obtain ⟨i, hi, rfl⟩ := vi
    rw [nI_add]
    simp only [performM, cl_nI (show i < 2 ^ 31 by omega)]
    exact n_make4 nl y v hp hi b c
  | 5, vi, _ =>
    obtain ⟨⟨i, hi, rfl⟩, ⟨j, hj, rfl⟩, k, hk, rfl⟩ := vi
    rw [nI_add]
    by_cases hw : (tF (pRg (oPr σ p) j)).length + (tF (pRg (oPr σ p) k)).length ≤ 14
    · have hx : ¬ 15 < 1 + tW (pRg (oPr σ p) j) + tW (pRg (oPr σ p) k) := by rw [← tF_len, ← tF_len]; omega
      simp only [performM, cl_nI (show i < 2 ^ 31 by omega), cl_nI (show j < 2 ^ 31 by omega), cl_nI (show k < 2 ^ 31 by omega), if_neg hx]
      exact n_make5y nl y v hp hi hj hk hw
    · have hx : 15 < 1 + tW (pRg (oPr σ p) j) + tW (pRg (oPr σ p) k) := by rw [← tF_len, ← tF_len]; omega
      simp only [performM, cl_nI (show i < 2 ^ 31 by omega), cl_nI (show j < 2 ^ 31 by omega), cl_nI (show k < 2 ^ 31 by omega), if_pos hx]
      exact n_make5n nl y v hp hi hj hk (by omega)
  | 6, vi, _ =>
    obtain ⟨⟨i, hi, rfl⟩, ⟨j, hj, rfl⟩, k, hk, rfl⟩ := vi
    rw [nI_add]
    by_cases hw : (tF (pRg (oPr σ p) j)).length + (tF (pRg (oPr σ p) k)).length ≤ 14
    · have hx : ¬ 15 < 1 + tW (pRg (oPr σ p) j) + tW (pRg (oPr σ p) k) := by rw [← tF_len, ← tF_len]; omega
      simp only [performM, cl_nI (show i < 2 ^ 31 by omega), cl_nI (show j < 2 ^ 31 by omega), cl_nI (show k < 2 ^ 31 by omega), if_neg hx]
      exact n_make6y nl y v hp hi hj hk hw
    · have hx : 15 < 1 + tW (pRg (oPr σ p) j) + tW (pRg (oPr σ p) k) := by rw [← tF_len, ← tF_len]; omega
      simp only [performM, cl_nI (show i < 2 ^ 31 by omega), cl_nI (show j < 2 ^ 31 by omega), cl_nI (show k < 2 ^ 31 by omega), if_pos hx]
      exact n_make6n nl y v hp hi hj hk (by omega)
  | 7, vi, _ =>
    obtain ⟨⟨i, hi, rfl⟩, j, hj, rfl⟩ := vi
    rw [nI_add]
    cases ht : (pRg (oPr σ p) j) with
    | leaf q =>
      have e : performM σ p 7 (nI i) (nI j) c = none := by simp only [performM, cl_nI (show i < 2 ^ 31 by omega), cl_nI (show j < 2 ^ 31 by omega), ht]
      rw [e]
      exact n_make7n' nl y v hp hi hj c ht
    | branch k l r2 =>
      have e : performM σ p 7 (nI i) (nI j) c = some (sPr σ p (sRg (oPr σ p) i l)) := by simp only [performM, cl_nI (show i < 2 ^ 31 by omega), cl_nI (show j < 2 ^ 31 by omega), ht]
      rw [e]
      exact n_make7y' nl y v hp hi hj c ht
  | 8, vi, _ =>
    obtain ⟨⟨i, hi, rfl⟩, j, hj, rfl⟩ := vi
    rw [nI_add]
    cases ht : (pRg (oPr σ p) j) with
    | leaf q =>
      have e : performM σ p 8 (nI i) (nI j) c = none := by simp only [performM, cl_nI (show i < 2 ^ 31 by omega), cl_nI (show j < 2 ^ 31 by omega), ht]
      rw [e]
      exact n_make8n' nl y v hp hi hj c ht
    | branch k l r2 =>
      have e : performM σ p 8 (nI i) (nI j) c = some (sPr σ p (sRg (oPr σ p) i r2)) := by simp only [performM, cl_nI (show i < 2 ^ 31 by omega), cl_nI (show j < 2 ^ 31 by omega), ht]
      rw [e]
      exact n_make8y' nl y v hp hi hj c ht
  | 9, vi, _ =>
    obtain ⟨⟨i, hi, rfl⟩, ⟨j, hj, rfl⟩, k, hk, rfl⟩ := vi
    rw [nI_add]
    by_cases hs : tS (pRg (oPr σ p) j) = 0 ∧ tS (pRg (oPr σ p) k) = 0
    · simp only [performM, cl_nI (show i < 2 ^ 31 by omega), cl_nI (show j < 2 ^ 31 by omega), cl_nI (show k < 2 ^ 31 by omega), if_pos hs]
      exact n_make9y nl y v hp hi hj hk hs.1 hs.2
    · simp only [performM, cl_nI (show i < 2 ^ 31 by omega), cl_nI (show j < 2 ^ 31 by omega), cl_nI (show k < 2 ^ 31 by omega), if_neg hs]
      exact n_make9n nl y v hp hi hj hk hs
  | 10, vi, _ =>
    obtain ⟨⟨i, hi, rfl⟩, ⟨j, hj, rfl⟩, k, hk, rfl⟩ := vi
    rw [nI_add]
    by_cases hs : tS (pRg (oPr σ p) j) = 0 ∧ tS (pRg (oPr σ p) k) = 0
    · simp only [performM, cl_nI (show i < 2 ^ 31 by omega), cl_nI (show j < 2 ^ 31 by omega), cl_nI (show k < 2 ^ 31 by omega), if_pos hs]
      exact n_make10y nl y v hp hi hj hk hs.1 hs.2
    · simp only [performM, cl_nI (show i < 2 ^ 31 by omega), cl_nI (show j < 2 ^ 31 by omega), cl_nI (show k < 2 ^ 31 by omega), if_neg hs]
      exact n_make10n nl y v hp hi hj hk hs
  | n + 11, vi, ho => exact absurd ho.2 (by omega)
theorem n_branch {E : th_E} {h : th_H} {r : Nat} {A : Nat → Nat → Int32} (nl : NL r h) {N u : Nat} {σ : Ho} (y : NR A σ u) (v : vPs N σ) {p : Nat} (hp : p < oCt σ) (hN : N < 2 ^ 30) (h3 : ¬ pSt (oPr σ p) = 3) {op : Nat} {a b c : Int32} (vi : vIns op a b c) (ho : 11 ≤ op ∧ op < 17) : Xc E m_N_branch 5 0 0 [.ref r, .int (nI p), .int (nI op), .int a, .int b, .int c] (ov r h A) (Pn r h σ u p (performM σ p op a b c)) := by
  match op, vi, ho with
  | 11, vi, _ =>
    obtain ⟨⟨i, hi, rfl⟩, ⟨j, hj, rfl⟩, k, hk, rfl⟩ := vi
    by_cases hs : tS (pRg (oPr σ p) i) = 0 ∧ tS (pRg (oPr σ p) j) = 0
    · by_cases hl : tN (pRg (oPr σ p) i) < tN (pRg (oPr σ p) j)
      · simp only [performM, cl_nI (show i < 2 ^ 31 by omega), cl_nI (show j < 2 ^ 31 by omega), cl_nI (show k < 2 ^ 31 by omega), if_pos hs, if_pos hl]
        exact n_br11t nl y v hp hi hj hs.1 hs.2 hl
      · simp only [performM, cl_nI (show i < 2 ^ 31 by omega), cl_nI (show j < 2 ^ 31 by omega), cl_nI (show k < 2 ^ 31 by omega), if_pos hs, if_neg hl]
        exact n_br11f nl y v hp hi hj hs.1 hs.2 hl
    · simp only [performM, cl_nI (show i < 2 ^ 31 by omega), cl_nI (show j < 2 ^ 31 by omega), cl_nI (show k < 2 ^ 31 by omega), if_neg hs]
      exact n_br11n nl y v hp hi hj hs
  | 12, vi, _ =>
    obtain ⟨⟨i, hi, rfl⟩, ⟨j, hj, rfl⟩, k, hk, rfl⟩ := vi
    by_cases hs : tF (pRg (oPr σ p) i) = tF (pRg (oPr σ p) j)
    · simp only [performM, cl_nI (show i < 2 ^ 31 by omega), cl_nI (show j < 2 ^ 31 by omega), cl_nI (show k < 2 ^ 31 by omega), if_pos hs]
      exact n_br12t nl y v hp hi hj hs
    · simp only [performM, cl_nI (show i < 2 ^ 31 by omega), cl_nI (show j < 2 ^ 31 by omega), cl_nI (show k < 2 ^ 31 by omega), if_neg hs]
      exact n_br12f nl y v hp hi hj hs
  | 13, vi, _ =>
    obtain ⟨⟨i, hi, rfl⟩, ⟨j, hj, rfl⟩, k, hk, rfl⟩ := vi
    by_cases hs : tS (pRg (oPr σ p) i) = nI j
    · simp only [performM, cl_nI (show i < 2 ^ 31 by omega), cl_nI (show j < 2 ^ 31 by omega), cl_nI (show k < 2 ^ 31 by omega), if_pos hs]
      exact n_br13t nl y v hp hi (nI j) hs
    · simp only [performM, cl_nI (show i < 2 ^ 31 by omega), cl_nI (show j < 2 ^ 31 by omega), cl_nI (show k < 2 ^ 31 by omega), if_neg hs]
      exact n_br13f nl y v hp hi (nI j) hs
  | 14, vi, _ =>
    obtain ⟨i, hi, rfl⟩ := vi
    simp only [performM, cl_nI (show i < 2 ^ 31 by omega)]
    exact n_br14 nl y v hp b c
  | 15, vi, _ =>
    obtain ⟨i, hi, rfl⟩ := vi
    by_cases hs : 6 ≤ (pRe (oPr σ p)).length
    · simp only [performM, cl_nI (show i < 2 ^ 31 by omega), if_pos hs]
      exact n_br15n nl y v hp b c hs
    · simp only [performM, cl_nI (show i < 2 ^ 31 by omega), if_neg hs]
      exact n_br15y nl y v hp b c (by omega)
  | 16, vi, _ =>
    cases hl : (pRe (oPr σ p)).getLast? with
    | none =>
      have e : performM σ p 16 a b c = some (endM σ p aNormal) := by simp only [performM, hl]
      rw [e]
      exact n_br16e nl y v hp a b c (List.getLast?_eq_none_iff.mp hl) h3
    | some x =>
      have e : performM σ p 16 a b c = some (sPr σ p (sPl (sRe (oPr σ p) (pRe (oPr σ p)).dropLast) x)) := by simp only [performM, hl]
      rw [e]
      have hne : pRe (oPr σ p) ≠ [] := fun z => by rw [z] at hl; cases hl
      have hln : (pRe (oPr σ p)).length = ((pRe (oPr σ p)).length - 1) + 1 := by have := List.length_pos_iff.mpr hne; omega
      exact n_br16r nl y v hp a b c hln (by rw [List.getLast?_eq_getElem?] at hl; exact hl)
  | 0, vi, ho => exact absurd ho.1 (by decide)
  | 1, vi, ho => exact absurd ho.1 (by decide)
  | 2, vi, ho => exact absurd ho.1 (by decide)
  | 3, vi, ho => exact absurd ho.1 (by decide)
  | 4, vi, ho => exact absurd ho.1 (by decide)
  | 5, vi, ho => exact absurd ho.1 (by decide)
  | 6, vi, ho => exact absurd ho.1 (by decide)
  | 7, vi, ho => exact absurd ho.1 (by decide)
  | 8, vi, ho => exact absurd ho.1 (by decide)
  | 9, vi, ho => exact absurd ho.1 (by decide)
  | 10, vi, ho => exact absurd ho.1 (by decide)
  | n + 17, vi, ho => exact absurd ho.2 (by omega)
