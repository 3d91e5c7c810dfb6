/-! The reference: make (printed by wip/gen/mod_ref6.py). -/
/-- behind an operation of p: the head of the queue and the turn -/
def HdX (p : Nat) (σ : Ho) (u : Nat) (σ' : Ho) (u' : Nat) : Prop := ∀ U, Hd p U σ u → Hd p U σ' u' ∨ (pSt (oPr σ' p) = 2 ∧ u' = 0)
theorem HdX.setP {σ : Ho} {u p : Nat} {P' : Pr} (hs : pSt P' = pSt (oPr σ p)) : HdX p σ u (sPr σ p P') u := fun U hh => Or.inl (by
  unfold Hd
  show (((oQu σ).head? = some p ∧ pSt (va_up (oPr σ) p P' p) = 1 ∧ u = U) ∨ (pSt (va_up (oPr σ) p P' p) = 3 ∧ u = 0))
  rw [va_up_self, hs]
  exact hh)
theorem HdK.x {σ σ' : Ho} {u u' p : Nat} (k : HdK σ u σ' u') : HdX p σ u σ' u' := fun U hh => Or.inl (k p U hh)
def Pn (r : Nat) (h : th_H) (σ : Ho) (u p : Nat) (res : Option Ho) : Option Value → th_H → Prop := match res with
  | some σ' => Nx r h (some (.int 1)) (fun A' => ∃ u', NR A' σ' u' ∧ HdX p σ u σ' u')
  | none => Nx r h (some (.int 0)) (fun A' => NR A' σ u)
theorem n_make0 {E : th_E} {h : th_H} {r : Nat} {A : Nat → Nat → Int32} (nl : NL r h) {N u : Nat} {σ : Ho} (y : NR A σ u) (v : vPs N σ) {p : Nat} (hp : p < oCt σ) {a : Nat} (ha : a < 8) (b c : Int32) : Xc E m_N_make 2 0 0 [.ref r, .int (nI (21 * p + a)), .int (nI 0), .int (nI (21 * p)), .int b, .int c] (ov r h A) (Pn r h σ u p (some (sPr σ p (sRg (oPr σ p) a (.leaf (0, b)))))) := by
  refine Xc.of (by decide) (by simp [Value.category]) (Nat.le_of_ble_eq_true rfl) ?_
  show Xw E m_N_make 2 0 0 0 [some (.ref r), some (.int (nI (21 * p + a))), some (.int (nI 0)), some (.int (nI (21 * p))), some (.int b), some (.int c), none, none, none] [] (ov r h A) _
  have yp := y.2.2.2 p hp
  have hp12 := Nat.lt_of_lt_of_le hp v.1
  have vp := (v.2.2 p hp).L
  refine x_iload_n d_N_make_0 rfl rfl ?_
  refine x_if_ne (tgt := 12) d_N_make_1 rfl (fun w_ => absurd (by decide) w_) (fun q1 => ?_)
  refine x_aload_n d_N_make_4 rfl rfl ?_
  refine x_iload_n d_N_make_5 rfl rfl ?_
  refine x_iconst (v := (nI 0)) d_N_make_6 (by decide) ?_
  refine x_iload d_N_make_7 rfl ?_
  refine x_invv d_N_make_9 lm_N_115 (as := [.int (nI (21 * p + a)), .int (nI 0), .int b]) (S := []) (cz' := 0) (cs' := 0) (c_N_put nl (by omega) _ _) nl.o rfl rfl rfl (Nat.le_of_ble_eq_true rfl) (by omega) (by decide) (by decide) ?_
  rintro _ _ ⟨rfl, rfl⟩
  have e1 : Tb (21 * p + a) A (putA A (21 * p + a) (nI 0) b) := Tb.put
  have q1 : SL (putA A (21 * p + a) (nI 0) b) (21 * p + a) (tF (.leaf (0, b))) := SL.put
  generalize (putA A (21 * p + a) (nI 0) b) = A1 at e1 q1 ⊢
  refine x_iload_n d_N_make_12 rfl rfl ?_
  refine x_iconst (v := (nI 1)) d_N_make_13 (by decide) ?_
  refine x_icmp_ne (tgt := 25) d_N_make_14 rfl (fun q14 => ?_) (fun w_ => absurd w_ (by decide))
  refine x_iload_n d_N_make_25 rfl rfl ?_
  refine x_iconst (v := (nI 2)) d_N_make_26 (by decide) ?_
  refine x_icmp_ne (tgt := 39) d_N_make_27 rfl (fun q27 => ?_) (fun w_ => absurd w_ (by decide))
  refine x_iload_n d_N_make_39 rfl rfl ?_
  refine x_iconst (v := (nI 3)) d_N_make_40 (by decide) ?_
  refine x_icmp_ne (tgt := 54) d_N_make_41 rfl (fun q41 => ?_) (fun w_ => absurd w_ (by decide))
  refine x_iload_n d_N_make_54 rfl rfl ?_
  refine x_iconst (v := (nI 4)) d_N_make_55 (by decide) ?_
  refine x_icmp_ne (tgt := 66) d_N_make_56 rfl (fun q56 => ?_) (fun w_ => absurd w_ (by decide))
  refine x_iload_n d_N_make_66 rfl rfl ?_
  refine x_iconst (v := (nI 5)) d_N_make_67 (by decide) ?_
  refine x_icmp_ge (tgt := 73) d_N_make_68 rfl (fun w_ => absurd w_ (by decide)) (fun q68 => ?_)
  refine x_iconst (v := (nI 1)) d_N_make_71 (by decide) ?_
  exact x_iret d_N_make_72 rfl rfl ⟨rfl, A1, rfl, u, y.setP v.L ((Chp.rf p A).tb (k := a) (by omega) e1) ((yp).s_rg vp ha e1 q1), HdX.setP rfl⟩
theorem n_make1 {E : th_E} {h : th_H} {r : Nat} {A : Nat → Nat → Int32} (nl : NL r h) {N u : Nat} {σ : Ho} (y : NR A σ u) (v : vPs N σ) {p : Nat} (hp : p < oCt σ) {a : Nat} (ha : a < 8) (b c : Int32) : Xc E m_N_make 2 0 0 [.ref r, .int (nI (21 * p + a)), .int (nI 1), .int (nI (21 * p)), .int b, .int c] (ov r h A) (Pn r h σ u p (some (sPr σ p (sRg (oPr σ p) a (.leaf (1, b)))))) := by
  refine Xc.of (by decide) (by simp [Value.category]) (Nat.le_of_ble_eq_true rfl) ?_
  show Xw E m_N_make 2 0 0 0 [some (.ref r), some (.int (nI (21 * p + a))), some (.int (nI 1)), some (.int (nI (21 * p))), some (.int b), some (.int c), none, none, none] [] (ov r h A) _
  have yp := y.2.2.2 p hp
  have hp12 := Nat.lt_of_lt_of_le hp v.1
  have vp := (v.2.2 p hp).L
  refine x_iload_n d_N_make_0 rfl rfl ?_
  refine x_if_ne (tgt := 12) d_N_make_1 rfl (fun q1 => ?_) (fun w_ => absurd w_ (by decide))
  refine x_iload_n d_N_make_12 rfl rfl ?_
  refine x_iconst (v := (nI 1)) d_N_make_13 (by decide) ?_
  refine x_icmp_ne (tgt := 25) d_N_make_14 rfl (fun w_ => absurd (by decide) w_) (fun q14 => ?_)
  refine x_aload_n d_N_make_17 rfl rfl ?_
  refine x_iload_n d_N_make_18 rfl rfl ?_
  refine x_iconst (v := (nI 1)) d_N_make_19 (by decide) ?_
  refine x_iload d_N_make_20 rfl ?_
  refine x_invv d_N_make_22 lm_N_115 (as := [.int (nI (21 * p + a)), .int (nI 1), .int b]) (S := []) (cz' := 0) (cs' := 0) (c_N_put nl (by omega) _ _) nl.o rfl rfl rfl (Nat.le_of_ble_eq_true rfl) (by omega) (by decide) (by decide) ?_
  rintro _ _ ⟨rfl, rfl⟩
  have e1 : Tb (21 * p + a) A (putA A (21 * p + a) (nI 1) b) := Tb.put
  have q1 : SL (putA A (21 * p + a) (nI 1) b) (21 * p + a) (tF (.leaf (1, b))) := SL.put
  generalize (putA A (21 * p + a) (nI 1) b) = A1 at e1 q1 ⊢
  refine x_iload_n d_N_make_25 rfl rfl ?_
  refine x_iconst (v := (nI 2)) d_N_make_26 (by decide) ?_
  refine x_icmp_ne (tgt := 39) d_N_make_27 rfl (fun q27 => ?_) (fun w_ => absurd w_ (by decide))
  refine x_iload_n d_N_make_39 rfl rfl ?_
  refine x_iconst (v := (nI 3)) d_N_make_40 (by decide) ?_
  refine x_icmp_ne (tgt := 54) d_N_make_41 rfl (fun q41 => ?_) (fun w_ => absurd w_ (by decide))
  refine x_iload_n d_N_make_54 rfl rfl ?_
  refine x_iconst (v := (nI 4)) d_N_make_55 (by decide) ?_
  refine x_icmp_ne (tgt := 66) d_N_make_56 rfl (fun q56 => ?_) (fun w_ => absurd w_ (by decide))
  refine x_iload_n d_N_make_66 rfl rfl ?_
  refine x_iconst (v := (nI 5)) d_N_make_67 (by decide) ?_
  refine x_icmp_ge (tgt := 73) d_N_make_68 rfl (fun w_ => absurd w_ (by decide)) (fun q68 => ?_)
  refine x_iconst (v := (nI 1)) d_N_make_71 (by decide) ?_
  exact x_iret d_N_make_72 rfl rfl ⟨rfl, A1, rfl, u, y.setP v.L ((Chp.rf p A).tb (k := a) (by omega) e1) ((yp).s_rg vp ha e1 q1), HdX.setP rfl⟩
theorem n_make3 {E : th_E} {h : th_H} {r : Nat} {A : Nat → Nat → Int32} (nl : NL r h) {N u : Nat} {σ : Ho} (y : NR A σ u) (v : vPs N σ) {p : Nat} (hp : p < oCt σ) {a : Nat} (ha : a < 8) (b c : Int32) : Xc E m_N_make 2 0 0 [.ref r, .int (nI (21 * p + a)), .int (nI 3), .int (nI (21 * p)), .int b, .int c] (ov r h A) (Pn r h σ u p (some (sPr σ p (sRg (oPr σ p) a (.leaf (2, nI p)))))) := by
  refine Xc.of (by decide) (by simp [Value.category]) (Nat.le_of_ble_eq_true rfl) ?_
  show Xw E m_N_make 2 0 0 0 [some (.ref r), some (.int (nI (21 * p + a))), some (.int (nI 3)), some (.int (nI (21 * p))), some (.int b), some (.int c), none, none, none] [] (ov r h A) _
  have yp := y.2.2.2 p hp
  have hp12 := Nat.lt_of_lt_of_le hp v.1
  have vp := (v.2.2 p hp).L
  refine x_iload_n d_N_make_0 rfl rfl ?_
  refine x_if_ne (tgt := 12) d_N_make_1 rfl (fun q1 => ?_) (fun w_ => absurd w_ (by decide))
  refine x_iload_n d_N_make_12 rfl rfl ?_
  refine x_iconst (v := (nI 1)) d_N_make_13 (by decide) ?_
  refine x_icmp_ne (tgt := 25) d_N_make_14 rfl (fun q14 => ?_) (fun w_ => absurd w_ (by decide))
  refine x_iload_n d_N_make_25 rfl rfl ?_
  refine x_iconst (v := (nI 2)) d_N_make_26 (by decide) ?_
  refine x_icmp_ne (tgt := 39) d_N_make_27 rfl (fun q27 => ?_) (fun w_ => absurd w_ (by decide))
  refine x_iload_n d_N_make_39 rfl rfl ?_
  refine x_iconst (v := (nI 3)) d_N_make_40 (by decide) ?_
  refine x_icmp_ne (tgt := 54) d_N_make_41 rfl (fun w_ => absurd (by decide) w_) (fun q41 => ?_)
  refine x_aload_n d_N_make_44 rfl rfl ?_
  refine x_iload_n d_N_make_45 rfl rfl ?_
  refine x_iconst (v := (nI 2)) d_N_make_46 (by decide) ?_
  refine x_iload_n d_N_make_47 rfl rfl ?_
  refine x_bipush (v := (nI 21)) d_N_make_48 (by decide) ?_
  refine x_idiv (v := (nI p)) d_N_make_50 (by decide) ((pk_div (by omega) (by decide) (by decide)).trans (by rw [Nat.mul_div_cancel_left _ (by decide)])) ?_
  refine x_invv d_N_make_51 lm_N_115 (as := [.int (nI (21 * p + a)), .int (nI 2), .int (nI p)]) (S := []) (cz' := 0) (cs' := 0) (c_N_put nl (by omega) _ _) nl.o rfl rfl rfl (Nat.le_of_ble_eq_true rfl) (by omega) (by decide) (by decide) ?_
  rintro _ _ ⟨rfl, rfl⟩
  have e1 : Tb (21 * p + a) A (putA A (21 * p + a) (nI 2) (nI p)) := Tb.put
  have q1 : SL (putA A (21 * p + a) (nI 2) (nI p)) (21 * p + a) (tF (.leaf (2, nI p))) := SL.put
  generalize (putA A (21 * p + a) (nI 2) (nI p)) = A1 at e1 q1 ⊢
  refine x_iload_n d_N_make_54 rfl rfl ?_
  refine x_iconst (v := (nI 4)) d_N_make_55 (by decide) ?_
  refine x_icmp_ne (tgt := 66) d_N_make_56 rfl (fun q56 => ?_) (fun w_ => absurd w_ (by decide))
  refine x_iload_n d_N_make_66 rfl rfl ?_
  refine x_iconst (v := (nI 5)) d_N_make_67 (by decide) ?_
  refine x_icmp_ge (tgt := 73) d_N_make_68 rfl (fun w_ => absurd w_ (by decide)) (fun q68 => ?_)
  refine x_iconst (v := (nI 1)) d_N_make_71 (by decide) ?_
  exact x_iret d_N_make_72 rfl rfl ⟨rfl, A1, rfl, u, y.setP v.L ((Chp.rf p A).tb (k := a) (by omega) e1) ((yp).s_rg vp ha e1 q1), HdX.setP rfl⟩
theorem n_make4 {E : th_E} {h : th_H} {r : Nat} {A : Nat → Nat → Int32} (nl : NL r h) {N u : Nat} {σ : Ho} (y : NR A σ u) (v : vPs N σ) {p : Nat} (hp : p < oCt σ) {a : Nat} (ha : a < 8) (b c : Int32) : Xc E m_N_make 2 0 0 [.ref r, .int (nI (21 * p + a)), .int (nI 4), .int (nI (21 * p)), .int b, .int c] (ov r h A) (Pn r h σ u p (some (sPr σ p (sRg (oPr σ p) a nilT)))) := by
  refine Xc.of (by decide) (by simp [Value.category]) (Nat.le_of_ble_eq_true rfl) ?_
  show Xw E m_N_make 2 0 0 0 [some (.ref r), some (.int (nI (21 * p + a))), some (.int (nI 4)), some (.int (nI (21 * p))), some (.int b), some (.int c), none, none, none] [] (ov r h A) _
  have yp := y.2.2.2 p hp
  have hp12 := Nat.lt_of_lt_of_le hp v.1
  have vp := (v.2.2 p hp).L
  refine x_iload_n d_N_make_0 rfl rfl ?_
  refine x_if_ne (tgt := 12) d_N_make_1 rfl (fun q1 => ?_) (fun w_ => absurd w_ (by decide))
  refine x_iload_n d_N_make_12 rfl rfl ?_
  refine x_iconst (v := (nI 1)) d_N_make_13 (by decide) ?_
  refine x_icmp_ne (tgt := 25) d_N_make_14 rfl (fun q14 => ?_) (fun w_ => absurd w_ (by decide))
  refine x_iload_n d_N_make_25 rfl rfl ?_
  refine x_iconst (v := (nI 2)) d_N_make_26 (by decide) ?_
  refine x_icmp_ne (tgt := 39) d_N_make_27 rfl (fun q27 => ?_) (fun w_ => absurd w_ (by decide))
  refine x_iload_n d_N_make_39 rfl rfl ?_
  refine x_iconst (v := (nI 3)) d_N_make_40 (by decide) ?_
  refine x_icmp_ne (tgt := 54) d_N_make_41 rfl (fun q41 => ?_) (fun w_ => absurd w_ (by decide))
  refine x_iload_n d_N_make_54 rfl rfl ?_
  refine x_iconst (v := (nI 4)) d_N_make_55 (by decide) ?_
  refine x_icmp_ne (tgt := 66) d_N_make_56 rfl (fun w_ => absurd (by decide) w_) (fun q56 => ?_)
  refine x_aload_n d_N_make_59 rfl rfl ?_
  refine x_iload_n d_N_make_60 rfl rfl ?_
  refine x_iconst (v := (nI 3)) d_N_make_61 (by decide) ?_
  refine x_iconst (v := (nI 0)) d_N_make_62 (by decide) ?_
  refine x_invv d_N_make_63 lm_N_115 (as := [.int (nI (21 * p + a)), .int (nI 3), .int (nI 0)]) (S := []) (cz' := 0) (cs' := 0) (c_N_put nl (by omega) _ _) nl.o rfl rfl rfl (Nat.le_of_ble_eq_true rfl) (by omega) (by decide) (by decide) ?_
  rintro _ _ ⟨rfl, rfl⟩
  have e1 : Tb (21 * p + a) A (putA A (21 * p + a) (nI 3) (nI 0)) := Tb.put
  have q1 : SL (putA A (21 * p + a) (nI 3) (nI 0)) (21 * p + a) (tF nilT) := SL.put
  generalize (putA A (21 * p + a) (nI 3) (nI 0)) = A1 at e1 q1 ⊢
  refine x_iload_n d_N_make_66 rfl rfl ?_
  refine x_iconst (v := (nI 5)) d_N_make_67 (by decide) ?_
  refine x_icmp_ge (tgt := 73) d_N_make_68 rfl (fun w_ => absurd w_ (by decide)) (fun q68 => ?_)
  refine x_iconst (v := (nI 1)) d_N_make_71 (by decide) ?_
  exact x_iret d_N_make_72 rfl rfl ⟨rfl, A1, rfl, u, y.setP v.L ((Chp.rf p A).tb (k := a) (by omega) e1) ((yp).s_rg vp ha e1 q1), HdX.setP rfl⟩
theorem n_make2 {E : th_E} {h : th_H} {r : Nat} {A : Nat → Nat → Int32} (nl : NL r h) {N u : Nat} {σ : Ho} (y : NR A σ u) (v : vPs N σ) {p : Nat} (hp : p < oCt σ) {a b : Nat} (ha : a < 8) (hb : b < 8) (c : Int32) : Xc E m_N_make 2 0 0 [.ref r, .int (nI (21 * p + a)), .int (nI 2), .int (nI (21 * p)), .int (nI b), .int c] (ov r h A) (Pn r h σ u p (some (sPr σ p (sRg (oPr σ p) a (pRg (oPr σ p) b))))) := by
  refine Xc.of (by decide) (by simp [Value.category]) (Nat.le_of_ble_eq_true rfl) ?_
  show Xw E m_N_make 2 0 0 0 [some (.ref r), some (.int (nI (21 * p + a))), some (.int (nI 2)), some (.int (nI (21 * p))), some (.int (nI b)), some (.int c), none, none, none] [] (ov r h A) _
  have yp := y.2.2.2 p hp
  have hp12 := Nat.lt_of_lt_of_le hp v.1
  have vp := (v.2.2 p hp).L
  have sb := yp.rg b hb
  have hlb := vp.1 b
  refine x_iload_n d_N_make_0 rfl rfl ?_
  refine x_if_ne (tgt := 12) d_N_make_1 rfl (fun q1 => ?_) (fun w_ => absurd w_ (by decide))
  refine x_iload_n d_N_make_12 rfl rfl ?_
  refine x_iconst (v := (nI 1)) d_N_make_13 (by decide) ?_
  refine x_icmp_ne (tgt := 25) d_N_make_14 rfl (fun q14 => ?_) (fun w_ => absurd w_ (by decide))
  refine x_iload_n d_N_make_25 rfl rfl ?_
  refine x_iconst (v := (nI 2)) d_N_make_26 (by decide) ?_
  refine x_icmp_ne (tgt := 39) d_N_make_27 rfl (fun w_ => absurd (by decide) w_) (fun q27 => ?_)
  refine x_aload_n d_N_make_30 rfl rfl ?_
  refine x_iload_n d_N_make_31 rfl rfl ?_
  refine x_iload d_N_make_32 rfl ?_
  refine x_iadd (v := (nI (21 * p + b))) d_N_make_34 (nI_add _ _) ?_
  refine x_iload_n d_N_make_35 rfl rfl ?_
  refine x_invv d_N_make_36 lm_N_107 (as := [.int (nI (21 * p + b)), .int (nI (21 * p + a))]) (S := []) (cz' := 0) (cs' := 0) (c_N_copy nl (by omega) (by omega) sb.1 hlb) nl.o rfl rfl rfl (Nat.le_of_ble_eq_true rfl) (by omega) (by decide) (by decide) ?_
  rintro _ _ ⟨rfl, rfl⟩
  have e1 : Tb (21 * p + a) A (cpA A (21 * p + b) (21 * p + a) (2 * (tF (pRg (oPr σ p) b)).length + 1)) := Tb.cp (by omega)
  have q1 : SL (cpA A (21 * p + b) (21 * p + a) (2 * (tF (pRg (oPr σ p) b)).length + 1)) (21 * p + a) (tF (pRg (oPr σ p) b)) := sb.cp rfl
  generalize cpA A (21 * p + b) (21 * p + a) (2 * (tF (pRg (oPr σ p) b)).length + 1) = A1 at e1 q1 ⊢
  refine x_iload_n d_N_make_39 rfl rfl ?_
  refine x_iconst (v := (nI 3)) d_N_make_40 (by decide) ?_
  refine x_icmp_ne (tgt := 54) d_N_make_41 rfl (fun q41 => ?_) (fun w_ => absurd w_ (by decide))
  refine x_iload_n d_N_make_54 rfl rfl ?_
  refine x_iconst (v := (nI 4)) d_N_make_55 (by decide) ?_
  refine x_icmp_ne (tgt := 66) d_N_make_56 rfl (fun q56 => ?_) (fun w_ => absurd w_ (by decide))
  refine x_iload_n d_N_make_66 rfl rfl ?_
  refine x_iconst (v := (nI 5)) d_N_make_67 (by decide) ?_
  refine x_icmp_ge (tgt := 73) d_N_make_68 rfl (fun w_ => absurd w_ (by decide)) (fun q68 => ?_)
  refine x_iconst (v := (nI 1)) d_N_make_71 (by decide) ?_
  exact x_iret d_N_make_72 rfl rfl ⟨rfl, A1, rfl, u, y.setP v.L ((Chp.rf p A).tb (k := a) (by omega) e1) ((yp).s_rg vp ha e1 q1), HdX.setP rfl⟩
theorem n_make5y {E : th_E} {h : th_H} {r : Nat} {A : Nat → Nat → Int32} (nl : NL r h) {N u : Nat} {σ : Ho} (y : NR A σ u) (v : vPs N σ) {p : Nat} (hp : p < oCt σ) {a b c : Nat} (ha : a < 8) (hb : b < 8) (hc : c < 8) (hw : (tF (pRg (oPr σ p) b)).length + (tF (pRg (oPr σ p) c)).length ≤ 14) : Xc E m_N_make 2 0 0 [.ref r, .int (nI (21 * p + a)), .int (nI 5), .int (nI (21 * p)), .int (nI b), .int (nI c)] (ov r h A) (Pn r h σ u p (some (sPr σ p (sRg (oPr σ p) a (.branch 4 (pRg (oPr σ p) b) (pRg (oPr σ p) c)))))) := by
  refine Xc.of (by decide) (by simp [Value.category]) (Nat.le_of_ble_eq_true rfl) ?_
  show Xw E m_N_make 2 0 0 0 [some (.ref r), some (.int (nI (21 * p + a))), some (.int (nI 5)), some (.int (nI (21 * p))), some (.int (nI b)), some (.int (nI c)), none, none, none] [] (ov r h A) _
  have yp := y.2.2.2 p hp
  have hp12 := Nat.lt_of_lt_of_le hp v.1
  have vp := (v.2.2 p hp).L
  have sb := yp.rg b hb
  have hlb := vp.1 b
  have sc := yp.rg c hc
  have hlc := vp.1 c
  have hb0 := tF_pos (pRg (oPr σ p) b)
  have hc0 := tF_pos (pRg (oPr σ p) c)
  refine x_iload_n d_N_make_0 rfl rfl ?_
  refine x_if_ne (tgt := 12) d_N_make_1 rfl (fun q1 => ?_) (fun w_ => absurd w_ (by decide))
  refine x_iload_n d_N_make_12 rfl rfl ?_
  refine x_iconst (v := (nI 1)) d_N_make_13 (by decide) ?_
  refine x_icmp_ne (tgt := 25) d_N_make_14 rfl (fun q14 => ?_) (fun w_ => absurd w_ (by decide))
  refine x_iload_n d_N_make_25 rfl rfl ?_
  refine x_iconst (v := (nI 2)) d_N_make_26 (by decide) ?_
  refine x_icmp_ne (tgt := 39) d_N_make_27 rfl (fun q27 => ?_) (fun w_ => absurd w_ (by decide))
  refine x_iload_n d_N_make_39 rfl rfl ?_
  refine x_iconst (v := (nI 3)) d_N_make_40 (by decide) ?_
  refine x_icmp_ne (tgt := 54) d_N_make_41 rfl (fun q41 => ?_) (fun w_ => absurd w_ (by decide))
  refine x_iload_n d_N_make_54 rfl rfl ?_
  refine x_iconst (v := (nI 4)) d_N_make_55 (by decide) ?_
  refine x_icmp_ne (tgt := 66) d_N_make_56 rfl (fun q56 => ?_) (fun w_ => absurd w_ (by decide))
  refine x_iload_n d_N_make_66 rfl rfl ?_
  refine x_iconst (v := (nI 5)) d_N_make_67 (by decide) ?_
  refine x_icmp_ge (tgt := 73) d_N_make_68 rfl (fun q68 => ?_) (fun w_ => absurd (by decide) w_)
  refine x_iload_n d_N_make_73 rfl rfl ?_
  refine x_iload d_N_make_74 rfl ?_
  refine x_iadd (v := (nI (21 * p + b))) d_N_make_76 (nI_add _ _) ?_
  refine x_istore d_N_make_77 (by decide) (L' := [some (.ref r), some (.int (nI (21 * p + a))), some (.int (nI 5)), some (.int (nI (21 * p))), some (.int (nI b)), some (.int (nI c)), some (.int (nI (21 * p + b))), none, none]) rfl ?_
  refine x_iload_n d_N_make_79 rfl rfl ?_
  refine x_iload d_N_make_80 rfl ?_
  refine x_iadd (v := (nI (21 * p + c))) d_N_make_82 (nI_add _ _) ?_
  refine x_istore d_N_make_83 (by decide) (L' := [some (.ref r), some (.int (nI (21 * p + a))), some (.int (nI 5)), some (.int (nI (21 * p))), some (.int (nI b)), some (.int (nI c)), some (.int (nI (21 * p + b))), some (.int (nI (21 * p + c))), none]) rfl ?_
  refine x_iload_n d_N_make_85 rfl rfl ?_
  refine x_bipush (v := (nI 7)) d_N_make_86 (by decide) ?_
  refine x_icmp_ge (tgt := 171) d_N_make_88 rfl (fun w_ => absurd w_ (by decide)) (fun q88 => ?_)
  refine x_aload_n d_N_make_91 rfl rfl ?_
  refine x_iload d_N_make_92 rfl ?_
  refine x_invv d_N_make_94 lm_N_77 (as := [.int (nI (21 * p + b))]) (S := []) (cz' := 0) (cs' := 0) (c_N_weight nl (by omega)) nl.o rfl rfl rfl (Nat.le_of_ble_eq_true rfl) (by omega) (by decide) (by decide) ?_
  rintro _ _ ⟨rfl, rfl⟩
  rw [sb.1]
  refine x_aload_n d_N_make_97 rfl rfl ?_
  refine x_iload d_N_make_98 rfl ?_
  refine x_invv d_N_make_100 lm_N_77 (as := [.int (nI (21 * p + c))]) (S := [.int (nI ((tF (pRg (oPr σ p) b)).length))]) (cz' := 0) (cs' := 0) (c_N_weight nl (by omega)) nl.o rfl rfl rfl (Nat.le_of_ble_eq_true rfl) (by omega) (by decide) (by decide) ?_
  rintro _ _ ⟨rfl, rfl⟩
  rw [sc.1]
  refine x_iadd (v := (nI ((tF (pRg (oPr σ p) b)).length + ((tF (pRg (oPr σ p) c)).length)))) d_N_make_103 (nI_add _ _) ?_
  refine x_bipush (v := (nI 14)) d_N_make_104 (by decide) ?_
  refine x_icmp_le (tgt := 111) d_N_make_106 rfl (fun q106 => ?_) (fun w_ => absurd (nI_le (b := 14) hw (by decide)) w_)
  refine x_aload_n d_N_make_111 rfl rfl ?_
  refine x_sipush (v := (nI 252)) d_N_make_112 (by decide) ?_
  refine x_iload_n d_N_make_115 rfl rfl ?_
  refine x_iconst (v := (nI 5)) d_N_make_116 (by decide) ?_
  refine x_icmp_ne (tgt := 124) d_N_make_117 rfl (fun w_ => absurd (by decide) w_) (fun q117 => ?_)
  refine x_iconst (v := (nI 4)) d_N_make_120 (by decide) ?_
  refine x_goto (tgt := 125) d_N_make_121 rfl ?_
  refine x_iconst (v := (nI 0)) d_N_make_125 (by decide) ?_
  refine x_invv d_N_make_126 lm_N_115 (as := [.int (nI 252), .int (nI 4), .int (nI 0)]) (S := []) (cz' := 0) (cs' := 0) (c_N_put nl (by decide) _ _) nl.o rfl rfl rfl (Nat.le_of_ble_eq_true rfl) (by omega) (by decide) (by decide) ?_
  rintro _ _ ⟨rfl, rfl⟩
  have f1 : Tb 252 A (putA A 252 (nI 4) (nI 0)) := Tb.put
  have g1 : SL (putA A 252 (nI 4) (nI 0)) 252 [(nI 4, nI 0)] := SL.put
  generalize (putA A 252 (nI 4) (nI 0)) = B1 at f1 g1 ⊢
  have sb1 := sb.tb hlb f1 (by omega)
  refine x_aload_n d_N_make_129 rfl rfl ?_
  refine x_sipush (v := (nI 252)) d_N_make_130 (by decide) ?_
  refine x_iload d_N_make_133 rfl ?_
  refine x_iconst (v := (nI 0)) d_N_make_135 (by decide) ?_
  refine x_aload_n d_N_make_136 rfl rfl ?_
  refine x_iload d_N_make_137 rfl ?_
  refine x_invv d_N_make_139 lm_N_77 (as := [.int (nI (21 * p + b))]) (S := [.int (nI 0), .int (nI (21 * p + b)), .int (nI 252), .ref r]) (cz' := 0) (cs' := 0) (c_N_weight nl (by omega)) nl.o rfl rfl rfl (Nat.le_of_ble_eq_true rfl) (by omega) (by decide) (by decide) ?_
  rintro _ _ ⟨rfl, rfl⟩
  rw [sb1.1]
  refine x_invv d_N_make_142 lm_N_118 (as := [.int (nI 252), .int (nI (21 * p + b)), .int (nI 0), .int (nI ((tF (pRg (oPr σ p) b)).length))]) (S := []) (cz' := 0) (cs' := 0) (c_N_addParts (s := 252) (o := 21 * p + b) (f := 0) (e := (tF (pRg (oPr σ p) b)).length) (w := 1) nl (by decide) (by omega) (by omega) (Nat.zero_le _) hlb g1.1 (by omega)) nl.o rfl rfl rfl (Nat.le_of_ble_eq_true rfl) (by omega) (by decide) (by decide) ?_
  rintro _ _ ⟨rfl, rfl⟩
  have f2 := f1.tr (Tb.ap (A := B1) (s := 252) (o := 21 * p + b) (f := 0) (w := 1) (c := (tF (pRg (oPr σ p) b)).length - 0) (by omega))
  have g2 : SL (apA B1 252 (21 * p + b) 0 1 ((tF (pRg (oPr σ p) b)).length - 0)) 252 ([(nI 4, nI 0)] ++ tF (pRg (oPr σ p) b)) := by have z := g1.ap (w := 1) rfl sb1 (Nat.zero_le _) (Nat.le_refl _); rw [List.drop_zero, Nat.sub_zero, List.take_length] at z; rw [Nat.sub_zero]; exact z
  generalize (apA B1 252 (21 * p + b) 0 1 ((tF (pRg (oPr σ p) b)).length - 0)) = B2 at f2 g2 ⊢
  have sc2 := sc.tb hlc f2 (by omega)
  have hl2 : ([(nI 4, nI 0)] ++ tF (pRg (oPr σ p) b)).length = 1 + (tF (pRg (oPr σ p) b)).length := by rw [List.length_append]; rfl
  refine x_aload_n d_N_make_145 rfl rfl ?_
  refine x_sipush (v := (nI 252)) d_N_make_146 (by decide) ?_
  refine x_iload d_N_make_149 rfl ?_
  refine x_iconst (v := (nI 0)) d_N_make_151 (by decide) ?_
  refine x_aload_n d_N_make_152 rfl rfl ?_
  refine x_iload d_N_make_153 rfl ?_
  refine x_invv d_N_make_155 lm_N_77 (as := [.int (nI (21 * p + c))]) (S := [.int (nI 0), .int (nI (21 * p + c)), .int (nI 252), .ref r]) (cz' := 0) (cs' := 0) (c_N_weight nl (by omega)) nl.o rfl rfl rfl (Nat.le_of_ble_eq_true rfl) (by omega) (by decide) (by decide) ?_
  rintro _ _ ⟨rfl, rfl⟩
  rw [sc2.1]
  refine x_invv d_N_make_158 lm_N_118 (as := [.int (nI 252), .int (nI (21 * p + c)), .int (nI 0), .int (nI ((tF (pRg (oPr σ p) c)).length))]) (S := []) (cz' := 0) (cs' := 0) (c_N_addParts (s := 252) (o := 21 * p + c) (f := 0) (e := (tF (pRg (oPr σ p) c)).length) (w := 1 + (tF (pRg (oPr σ p) b)).length) nl (by decide) (by omega) (by omega) (Nat.zero_le _) hlc (hl2 ▸ g2.1) (by omega)) nl.o rfl rfl rfl (Nat.le_of_ble_eq_true rfl) (by omega) (by decide) (by decide) ?_
  rintro _ _ ⟨rfl, rfl⟩
  have f3 := f2.tr (Tb.ap (A := B2) (s := 252) (o := 21 * p + c) (f := 0) (w := 1 + (tF (pRg (oPr σ p) b)).length) (c := (tF (pRg (oPr σ p) c)).length - 0) (by omega))
  have g3 : SL (apA B2 252 (21 * p + c) 0 (1 + (tF (pRg (oPr σ p) b)).length) ((tF (pRg (oPr σ p) c)).length - 0)) 252 (tF (.branch 4 (pRg (oPr σ p) b) (pRg (oPr σ p) c))) := by have z := g2.ap (w := 1 + (tF (pRg (oPr σ p) b)).length) hl2 sc2 (Nat.zero_le _) (Nat.le_refl _); rw [List.drop_zero, Nat.sub_zero, List.take_length, List.append_assoc] at z; rw [Nat.sub_zero]; exact z
  generalize (apA B2 252 (21 * p + c) 0 (1 + (tF (pRg (oPr σ p) b)).length) ((tF (pRg (oPr σ p) c)).length - 0)) = B3 at f3 g3 ⊢
  have y3 := y.tw v.L (by decide) f3
  have hl3 : (tF (.branch 4 (pRg (oPr σ p) b) (pRg (oPr σ p) c))).length ≤ 15 := by simp only [tF, List.length_cons, List.length_append]; omega
  refine x_aload_n d_N_make_161 rfl rfl ?_
  refine x_sipush (v := (nI 252)) d_N_make_162 (by decide) ?_
  refine x_iload_n d_N_make_165 rfl rfl ?_
  refine x_invv d_N_make_166 lm_N_107 (as := [.int (nI 252), .int (nI (21 * p + a))]) (S := []) (cz' := 0) (cs' := 0) (c_N_copy nl (by omega) (by omega) g3.1 hl3) nl.o rfl rfl rfl (Nat.le_of_ble_eq_true rfl) (by omega) (by decide) (by decide) ?_
  rintro _ _ ⟨rfl, rfl⟩
  have e1 : Tb (21 * p + a) B3 (cpA B3 252 (21 * p + a) (2 * (tF (.branch 4 (pRg (oPr σ p) b) (pRg (oPr σ p) c))).length + 1)) := Tb.cp (by omega)
  have q1 : SL (cpA B3 252 (21 * p + a) (2 * (tF (.branch 4 (pRg (oPr σ p) b) (pRg (oPr σ p) c))).length + 1)) (21 * p + a) (tF (.branch 4 (pRg (oPr σ p) b) (pRg (oPr σ p) c))) := g3.cp rfl
  generalize cpA B3 252 (21 * p + a) (2 * (tF (.branch 4 (pRg (oPr σ p) b) (pRg (oPr σ p) c))).length + 1) = A1 at e1 q1 ⊢
  refine x_iconst (v := (nI 1)) d_N_make_169 (by decide) ?_
  exact x_iret d_N_make_170 rfl rfl ⟨rfl, A1, rfl, u, y3.setP v.L ((Chp.rf p B3).tb (k := a) (by omega) e1) ((y3.2.2.2 p hp).s_rg vp ha e1 q1), HdX.setP rfl⟩
theorem n_make5n {E : th_E} {h : th_H} {r : Nat} {A : Nat → Nat → Int32} (nl : NL r h) {N u : Nat} {σ : Ho} (y : NR A σ u) (v : vPs N σ) {p : Nat} (hp : p < oCt σ) {a b c : Nat} (ha : a < 8) (hb : b < 8) (hc : c < 8) (hw : 14 < (tF (pRg (oPr σ p) b)).length + (tF (pRg (oPr σ p) c)).length) : Xc E m_N_make 2 0 0 [.ref r, .int (nI (21 * p + a)), .int (nI 5), .int (nI (21 * p)), .int (nI b), .int (nI c)] (ov r h A) (Pn r h σ u p none) := by
  refine Xc.of (by decide) (by simp [Value.category]) (Nat.le_of_ble_eq_true rfl) ?_
  show Xw E m_N_make 2 0 0 0 [some (.ref r), some (.int (nI (21 * p + a))), some (.int (nI 5)), some (.int (nI (21 * p))), some (.int (nI b)), some (.int (nI c)), none, none, none] [] (ov r h A) _
  have yp := y.2.2.2 p hp
  have hp12 := Nat.lt_of_lt_of_le hp v.1
  have vp := (v.2.2 p hp).L
  have sb := yp.rg b hb
  have hlb := vp.1 b
  have sc := yp.rg c hc
  have hlc := vp.1 c
  have hb0 := tF_pos (pRg (oPr σ p) b)
  have hc0 := tF_pos (pRg (oPr σ p) c)
  refine x_iload_n d_N_make_0 rfl rfl ?_
  refine x_if_ne (tgt := 12) d_N_make_1 rfl (fun q1 => ?_) (fun w_ => absurd w_ (by decide))
  refine x_iload_n d_N_make_12 rfl rfl ?_
  refine x_iconst (v := (nI 1)) d_N_make_13 (by decide) ?_
  refine x_icmp_ne (tgt := 25) d_N_make_14 rfl (fun q14 => ?_) (fun w_ => absurd w_ (by decide))
  refine x_iload_n d_N_make_25 rfl rfl ?_
  refine x_iconst (v := (nI 2)) d_N_make_26 (by decide) ?_
  refine x_icmp_ne (tgt := 39) d_N_make_27 rfl (fun q27 => ?_) (fun w_ => absurd w_ (by decide))
  refine x_iload_n d_N_make_39 rfl rfl ?_
  refine x_iconst (v := (nI 3)) d_N_make_40 (by decide) ?_
  refine x_icmp_ne (tgt := 54) d_N_make_41 rfl (fun q41 => ?_) (fun w_ => absurd w_ (by decide))
  refine x_iload_n d_N_make_54 rfl rfl ?_
  refine x_iconst (v := (nI 4)) d_N_make_55 (by decide) ?_
  refine x_icmp_ne (tgt := 66) d_N_make_56 rfl (fun q56 => ?_) (fun w_ => absurd w_ (by decide))
  refine x_iload_n d_N_make_66 rfl rfl ?_
  refine x_iconst (v := (nI 5)) d_N_make_67 (by decide) ?_
  refine x_icmp_ge (tgt := 73) d_N_make_68 rfl (fun q68 => ?_) (fun w_ => absurd (by decide) w_)
  refine x_iload_n d_N_make_73 rfl rfl ?_
  refine x_iload d_N_make_74 rfl ?_
  refine x_iadd (v := (nI (21 * p + b))) d_N_make_76 (nI_add _ _) ?_
  refine x_istore d_N_make_77 (by decide) (L' := [some (.ref r), some (.int (nI (21 * p + a))), some (.int (nI 5)), some (.int (nI (21 * p))), some (.int (nI b)), some (.int (nI c)), some (.int (nI (21 * p + b))), none, none]) rfl ?_
  refine x_iload_n d_N_make_79 rfl rfl ?_
  refine x_iload d_N_make_80 rfl ?_
  refine x_iadd (v := (nI (21 * p + c))) d_N_make_82 (nI_add _ _) ?_
  refine x_istore d_N_make_83 (by decide) (L' := [some (.ref r), some (.int (nI (21 * p + a))), some (.int (nI 5)), some (.int (nI (21 * p))), some (.int (nI b)), some (.int (nI c)), some (.int (nI (21 * p + b))), some (.int (nI (21 * p + c))), none]) rfl ?_
  refine x_iload_n d_N_make_85 rfl rfl ?_
  refine x_bipush (v := (nI 7)) d_N_make_86 (by decide) ?_
  refine x_icmp_ge (tgt := 171) d_N_make_88 rfl (fun w_ => absurd w_ (by decide)) (fun q88 => ?_)
  refine x_aload_n d_N_make_91 rfl rfl ?_
  refine x_iload d_N_make_92 rfl ?_
  refine x_invv d_N_make_94 lm_N_77 (as := [.int (nI (21 * p + b))]) (S := []) (cz' := 0) (cs' := 0) (c_N_weight nl (by omega)) nl.o rfl rfl rfl (Nat.le_of_ble_eq_true rfl) (by omega) (by decide) (by decide) ?_
  rintro _ _ ⟨rfl, rfl⟩
  rw [sb.1]
  refine x_aload_n d_N_make_97 rfl rfl ?_
  refine x_iload d_N_make_98 rfl ?_
  refine x_invv d_N_make_100 lm_N_77 (as := [.int (nI (21 * p + c))]) (S := [.int (nI ((tF (pRg (oPr σ p) b)).length))]) (cz' := 0) (cs' := 0) (c_N_weight nl (by omega)) nl.o rfl rfl rfl (Nat.le_of_ble_eq_true rfl) (by omega) (by decide) (by decide) ?_
  rintro _ _ ⟨rfl, rfl⟩
  rw [sc.1]
  refine x_iadd (v := (nI ((tF (pRg (oPr σ p) b)).length + ((tF (pRg (oPr σ p) c)).length)))) d_N_make_103 (nI_add _ _) ?_
  refine x_bipush (v := (nI 14)) d_N_make_104 (by decide) ?_
  refine x_icmp_le (tgt := 111) d_N_make_106 rfl (fun w_ => absurd w_ (nI_ge (a := 14) hw (by omega))) (fun q106 => ?_)
  refine x_iconst (v := (nI 0)) d_N_make_109 (by decide) ?_
  exact x_iret d_N_make_110 rfl rfl ⟨rfl, A, rfl, y⟩
theorem n_make6y {E : th_E} {h : th_H} {r : Nat} {A : Nat → Nat → Int32} (nl : NL r h) {N u : Nat} {σ : Ho} (y : NR A σ u) (v : vPs N σ) {p : Nat} (hp : p < oCt σ) {a b c : Nat} (ha : a < 8) (hb : b < 8) (hc : c < 8) (hw : (tF (pRg (oPr σ p) b)).length + (tF (pRg (oPr σ p) c)).length ≤ 14) : Xc E m_N_make 2 0 0 [.ref r, .int (nI (21 * p + a)), .int (nI 6), .int (nI (21 * p)), .int (nI b), .int (nI c)] (ov r h A) (Pn r h σ u p (some (sPr σ p (sRg (oPr σ p) a (.branch 5 (pRg (oPr σ p) b) (pRg (oPr σ p) c)))))) := by
  refine Xc.of (by decide) (by simp [Value.category]) (Nat.le_of_ble_eq_true rfl) ?_
  show Xw E m_N_make 2 0 0 0 [some (.ref r), some (.int (nI (21 * p + a))), some (.int (nI 6)), some (.int (nI (21 * p))), some (.int (nI b)), some (.int (nI c)), none, none, none] [] (ov r h A) _
  have yp := y.2.2.2 p hp
  have hp12 := Nat.lt_of_lt_of_le hp v.1
  have vp := (v.2.2 p hp).L
  have sb := yp.rg b hb
  have hlb := vp.1 b
  have sc := yp.rg c hc
  have hlc := vp.1 c
  have hb0 := tF_pos (pRg (oPr σ p) b)
  have hc0 := tF_pos (pRg (oPr σ p) c)
  refine x_iload_n d_N_make_0 rfl rfl ?_
  refine x_if_ne (tgt := 12) d_N_make_1 rfl (fun q1 => ?_) (fun w_ => absurd w_ (by decide))
  refine x_iload_n d_N_make_12 rfl rfl ?_
  refine x_iconst (v := (nI 1)) d_N_make_13 (by decide) ?_
  refine x_icmp_ne (tgt := 25) d_N_make_14 rfl (fun q14 => ?_) (fun w_ => absurd w_ (by decide))
  refine x_iload_n d_N_make_25 rfl rfl ?_
  refine x_iconst (v := (nI 2)) d_N_make_26 (by decide) ?_
  refine x_icmp_ne (tgt := 39) d_N_make_27 rfl (fun q27 => ?_) (fun w_ => absurd w_ (by decide))
  refine x_iload_n d_N_make_39 rfl rfl ?_
  refine x_iconst (v := (nI 3)) d_N_make_40 (by decide) ?_
  refine x_icmp_ne (tgt := 54) d_N_make_41 rfl (fun q41 => ?_) (fun w_ => absurd w_ (by decide))
  refine x_iload_n d_N_make_54 rfl rfl ?_
  refine x_iconst (v := (nI 4)) d_N_make_55 (by decide) ?_
  refine x_icmp_ne (tgt := 66) d_N_make_56 rfl (fun q56 => ?_) (fun w_ => absurd w_ (by decide))
  refine x_iload_n d_N_make_66 rfl rfl ?_
  refine x_iconst (v := (nI 5)) d_N_make_67 (by decide) ?_
  refine x_icmp_ge (tgt := 73) d_N_make_68 rfl (fun q68 => ?_) (fun w_ => absurd (by decide) w_)
  refine x_iload_n d_N_make_73 rfl rfl ?_
  refine x_iload d_N_make_74 rfl ?_
  refine x_iadd (v := (nI (21 * p + b))) d_N_make_76 (nI_add _ _) ?_
  refine x_istore d_N_make_77 (by decide) (L' := [some (.ref r), some (.int (nI (21 * p + a))), some (.int (nI 6)), some (.int (nI (21 * p))), some (.int (nI b)), some (.int (nI c)), some (.int (nI (21 * p + b))), none, none]) rfl ?_
  refine x_iload_n d_N_make_79 rfl rfl ?_
  refine x_iload d_N_make_80 rfl ?_
  refine x_iadd (v := (nI (21 * p + c))) d_N_make_82 (nI_add _ _) ?_
  refine x_istore d_N_make_83 (by decide) (L' := [some (.ref r), some (.int (nI (21 * p + a))), some (.int (nI 6)), some (.int (nI (21 * p))), some (.int (nI b)), some (.int (nI c)), some (.int (nI (21 * p + b))), some (.int (nI (21 * p + c))), none]) rfl ?_
  refine x_iload_n d_N_make_85 rfl rfl ?_
  refine x_bipush (v := (nI 7)) d_N_make_86 (by decide) ?_
  refine x_icmp_ge (tgt := 171) d_N_make_88 rfl (fun w_ => absurd w_ (by decide)) (fun q88 => ?_)
  refine x_aload_n d_N_make_91 rfl rfl ?_
  refine x_iload d_N_make_92 rfl ?_
  refine x_invv d_N_make_94 lm_N_77 (as := [.int (nI (21 * p + b))]) (S := []) (cz' := 0) (cs' := 0) (c_N_weight nl (by omega)) nl.o rfl rfl rfl (Nat.le_of_ble_eq_true rfl) (by omega) (by decide) (by decide) ?_
  rintro _ _ ⟨rfl, rfl⟩
  rw [sb.1]
  refine x_aload_n d_N_make_97 rfl rfl ?_
  refine x_iload d_N_make_98 rfl ?_
  refine x_invv d_N_make_100 lm_N_77 (as := [.int (nI (21 * p + c))]) (S := [.int (nI ((tF (pRg (oPr σ p) b)).length))]) (cz' := 0) (cs' := 0) (c_N_weight nl (by omega)) nl.o rfl rfl rfl (Nat.le_of_ble_eq_true rfl) (by omega) (by decide) (by decide) ?_
  rintro _ _ ⟨rfl, rfl⟩
  rw [sc.1]
  refine x_iadd (v := (nI ((tF (pRg (oPr σ p) b)).length + ((tF (pRg (oPr σ p) c)).length)))) d_N_make_103 (nI_add _ _) ?_
  refine x_bipush (v := (nI 14)) d_N_make_104 (by decide) ?_
  refine x_icmp_le (tgt := 111) d_N_make_106 rfl (fun q106 => ?_) (fun w_ => absurd (nI_le (b := 14) hw (by decide)) w_)
  refine x_aload_n d_N_make_111 rfl rfl ?_
  refine x_sipush (v := (nI 252)) d_N_make_112 (by decide) ?_
  refine x_iload_n d_N_make_115 rfl rfl ?_
  refine x_iconst (v := (nI 5)) d_N_make_116 (by decide) ?_
  refine x_icmp_ne (tgt := 124) d_N_make_117 rfl (fun q117 => ?_) (fun w_ => absurd w_ (by decide))
  refine x_iconst (v := (nI 5)) d_N_make_124 (by decide) ?_
  refine x_iconst (v := (nI 0)) d_N_make_125 (by decide) ?_
  refine x_invv d_N_make_126 lm_N_115 (as := [.int (nI 252), .int (nI 5), .int (nI 0)]) (S := []) (cz' := 0) (cs' := 0) (c_N_put nl (by decide) _ _) nl.o rfl rfl rfl (Nat.le_of_ble_eq_true rfl) (by omega) (by decide) (by decide) ?_
  rintro _ _ ⟨rfl, rfl⟩
  have f1 : Tb 252 A (putA A 252 (nI 5) (nI 0)) := Tb.put
  have g1 : SL (putA A 252 (nI 5) (nI 0)) 252 [(nI 5, nI 0)] := SL.put
  generalize (putA A 252 (nI 5) (nI 0)) = B1 at f1 g1 ⊢
  have sb1 := sb.tb hlb f1 (by omega)
  refine x_aload_n d_N_make_129 rfl rfl ?_
  refine x_sipush (v := (nI 252)) d_N_make_130 (by decide) ?_
  refine x_iload d_N_make_133 rfl ?_
  refine x_iconst (v := (nI 0)) d_N_make_135 (by decide) ?_
  refine x_aload_n d_N_make_136 rfl rfl ?_
  refine x_iload d_N_make_137 rfl ?_
  refine x_invv d_N_make_139 lm_N_77 (as := [.int (nI (21 * p + b))]) (S := [.int (nI 0), .int (nI (21 * p + b)), .int (nI 252), .ref r]) (cz' := 0) (cs' := 0) (c_N_weight nl (by omega)) nl.o rfl rfl rfl (Nat.le_of_ble_eq_true rfl) (by omega) (by decide) (by decide) ?_
  rintro _ _ ⟨rfl, rfl⟩
  rw [sb1.1]
  refine x_invv d_N_make_142 lm_N_118 (as := [.int (nI 252), .int (nI (21 * p + b)), .int (nI 0), .int (nI ((tF (pRg (oPr σ p) b)).length))]) (S := []) (cz' := 0) (cs' := 0) (c_N_addParts (s := 252) (o := 21 * p + b) (f := 0) (e := (tF (pRg (oPr σ p) b)).length) (w := 1) nl (by decide) (by omega) (by omega) (Nat.zero_le _) hlb g1.1 (by omega)) nl.o rfl rfl rfl (Nat.le_of_ble_eq_true rfl) (by omega) (by decide) (by decide) ?_
  rintro _ _ ⟨rfl, rfl⟩
  have f2 := f1.tr (Tb.ap (A := B1) (s := 252) (o := 21 * p + b) (f := 0) (w := 1) (c := (tF (pRg (oPr σ p) b)).length - 0) (by omega))
  have g2 : SL (apA B1 252 (21 * p + b) 0 1 ((tF (pRg (oPr σ p) b)).length - 0)) 252 ([(nI 5, nI 0)] ++ tF (pRg (oPr σ p) b)) := by have z := g1.ap (w := 1) rfl sb1 (Nat.zero_le _) (Nat.le_refl _); rw [List.drop_zero, Nat.sub_zero, List.take_length] at z; rw [Nat.sub_zero]; exact z
  generalize (apA B1 252 (21 * p + b) 0 1 ((tF (pRg (oPr σ p) b)).length - 0)) = B2 at f2 g2 ⊢
  have sc2 := sc.tb hlc f2 (by omega)
  have hl2 : ([(nI 5, nI 0)] ++ tF (pRg (oPr σ p) b)).length = 1 + (tF (pRg (oPr σ p) b)).length := by rw [List.length_append]; rfl
  refine x_aload_n d_N_make_145 rfl rfl ?_
  refine x_sipush (v := (nI 252)) d_N_make_146 (by decide) ?_
  refine x_iload d_N_make_149 rfl ?_
  refine x_iconst (v := (nI 0)) d_N_make_151 (by decide) ?_
  refine x_aload_n d_N_make_152 rfl rfl ?_
  refine x_iload d_N_make_153 rfl ?_
  refine x_invv d_N_make_155 lm_N_77 (as := [.int (nI (21 * p + c))]) (S := [.int (nI 0), .int (nI (21 * p + c)), .int (nI 252), .ref r]) (cz' := 0) (cs' := 0) (c_N_weight nl (by omega)) nl.o rfl rfl rfl (Nat.le_of_ble_eq_true rfl) (by omega) (by decide) (by decide) ?_
  rintro _ _ ⟨rfl, rfl⟩
  rw [sc2.1]
  refine x_invv d_N_make_158 lm_N_118 (as := [.int (nI 252), .int (nI (21 * p + c)), .int (nI 0), .int (nI ((tF (pRg (oPr σ p) c)).length))]) (S := []) (cz' := 0) (cs' := 0) (c_N_addParts (s := 252) (o := 21 * p + c) (f := 0) (e := (tF (pRg (oPr σ p) c)).length) (w := 1 + (tF (pRg (oPr σ p) b)).length) nl (by decide) (by omega) (by omega) (Nat.zero_le _) hlc (hl2 ▸ g2.1) (by omega)) nl.o rfl rfl rfl (Nat.le_of_ble_eq_true rfl) (by omega) (by decide) (by decide) ?_
  rintro _ _ ⟨rfl, rfl⟩
  have f3 := f2.tr (Tb.ap (A := B2) (s := 252) (o := 21 * p + c) (f := 0) (w := 1 + (tF (pRg (oPr σ p) b)).length) (c := (tF (pRg (oPr σ p) c)).length - 0) (by omega))
  have g3 : SL (apA B2 252 (21 * p + c) 0 (1 + (tF (pRg (oPr σ p) b)).length) ((tF (pRg (oPr σ p) c)).length - 0)) 252 (tF (.branch 5 (pRg (oPr σ p) b) (pRg (oPr σ p) c))) := by have z := g2.ap (w := 1 + (tF (pRg (oPr σ p) b)).length) hl2 sc2 (Nat.zero_le _) (Nat.le_refl _); rw [List.drop_zero, Nat.sub_zero, List.take_length, List.append_assoc] at z; rw [Nat.sub_zero]; exact z
  generalize (apA B2 252 (21 * p + c) 0 (1 + (tF (pRg (oPr σ p) b)).length) ((tF (pRg (oPr σ p) c)).length - 0)) = B3 at f3 g3 ⊢
  have y3 := y.tw v.L (by decide) f3
  have hl3 : (tF (.branch 5 (pRg (oPr σ p) b) (pRg (oPr σ p) c))).length ≤ 15 := by simp only [tF, List.length_cons, List.length_append]; omega
  refine x_aload_n d_N_make_161 rfl rfl ?_
  refine x_sipush (v := (nI 252)) d_N_make_162 (by decide) ?_
  refine x_iload_n d_N_make_165 rfl rfl ?_
  refine x_invv d_N_make_166 lm_N_107 (as := [.int (nI 252), .int (nI (21 * p + a))]) (S := []) (cz' := 0) (cs' := 0) (c_N_copy nl (by omega) (by omega) g3.1 hl3) nl.o rfl rfl rfl (Nat.le_of_ble_eq_true rfl) (by omega) (by decide) (by decide) ?_
  rintro _ _ ⟨rfl, rfl⟩
  have e1 : Tb (21 * p + a) B3 (cpA B3 252 (21 * p + a) (2 * (tF (.branch 5 (pRg (oPr σ p) b) (pRg (oPr σ p) c))).length + 1)) := Tb.cp (by omega)
  have q1 : SL (cpA B3 252 (21 * p + a) (2 * (tF (.branch 5 (pRg (oPr σ p) b) (pRg (oPr σ p) c))).length + 1)) (21 * p + a) (tF (.branch 5 (pRg (oPr σ p) b) (pRg (oPr σ p) c))) := g3.cp rfl
  generalize cpA B3 252 (21 * p + a) (2 * (tF (.branch 5 (pRg (oPr σ p) b) (pRg (oPr σ p) c))).length + 1) = A1 at e1 q1 ⊢
  refine x_iconst (v := (nI 1)) d_N_make_169 (by decide) ?_
  exact x_iret d_N_make_170 rfl rfl ⟨rfl, A1, rfl, u, y3.setP v.L ((Chp.rf p B3).tb (k := a) (by omega) e1) ((y3.2.2.2 p hp).s_rg vp ha e1 q1), HdX.setP rfl⟩
theorem n_make6n {E : th_E} {h : th_H} {r : Nat} {A : Nat → Nat → Int32} (nl : NL r h) {N u : Nat} {σ : Ho} (y : NR A σ u) (v : vPs N σ) {p : Nat} (hp : p < oCt σ) {a b c : Nat} (ha : a < 8) (hb : b < 8) (hc : c < 8) (hw : 14 < (tF (pRg (oPr σ p) b)).length + (tF (pRg (oPr σ p) c)).length) : Xc E m_N_make 2 0 0 [.ref r, .int (nI (21 * p + a)), .int (nI 6), .int (nI (21 * p)), .int (nI b), .int (nI c)] (ov r h A) (Pn r h σ u p none) := by
  refine Xc.of (by decide) (by simp [Value.category]) (Nat.le_of_ble_eq_true rfl) ?_
  show Xw E m_N_make 2 0 0 0 [some (.ref r), some (.int (nI (21 * p + a))), some (.int (nI 6)), some (.int (nI (21 * p))), some (.int (nI b)), some (.int (nI c)), none, none, none] [] (ov r h A) _
  have yp := y.2.2.2 p hp
  have hp12 := Nat.lt_of_lt_of_le hp v.1
  have vp := (v.2.2 p hp).L
  have sb := yp.rg b hb
  have hlb := vp.1 b
  have sc := yp.rg c hc
  have hlc := vp.1 c
  have hb0 := tF_pos (pRg (oPr σ p) b)
  have hc0 := tF_pos (pRg (oPr σ p) c)
  refine x_iload_n d_N_make_0 rfl rfl ?_
  refine x_if_ne (tgt := 12) d_N_make_1 rfl (fun q1 => ?_) (fun w_ => absurd w_ (by decide))
  refine x_iload_n d_N_make_12 rfl rfl ?_
  refine x_iconst (v := (nI 1)) d_N_make_13 (by decide) ?_
  refine x_icmp_ne (tgt := 25) d_N_make_14 rfl (fun q14 => ?_) (fun w_ => absurd w_ (by decide))
  refine x_iload_n d_N_make_25 rfl rfl ?_
  refine x_iconst (v := (nI 2)) d_N_make_26 (by decide) ?_
  refine x_icmp_ne (tgt := 39) d_N_make_27 rfl (fun q27 => ?_) (fun w_ => absurd w_ (by decide))
  refine x_iload_n d_N_make_39 rfl rfl ?_
  refine x_iconst (v := (nI 3)) d_N_make_40 (by decide) ?_
  refine x_icmp_ne (tgt := 54) d_N_make_41 rfl (fun q41 => ?_) (fun w_ => absurd w_ (by decide))
  refine x_iload_n d_N_make_54 rfl rfl ?_
  refine x_iconst (v := (nI 4)) d_N_make_55 (by decide) ?_
  refine x_icmp_ne (tgt := 66) d_N_make_56 rfl (fun q56 => ?_) (fun w_ => absurd w_ (by decide))
  refine x_iload_n d_N_make_66 rfl rfl ?_
  refine x_iconst (v := (nI 5)) d_N_make_67 (by decide) ?_
  refine x_icmp_ge (tgt := 73) d_N_make_68 rfl (fun q68 => ?_) (fun w_ => absurd (by decide) w_)
  refine x_iload_n d_N_make_73 rfl rfl ?_
  refine x_iload d_N_make_74 rfl ?_
  refine x_iadd (v := (nI (21 * p + b))) d_N_make_76 (nI_add _ _) ?_
  refine x_istore d_N_make_77 (by decide) (L' := [some (.ref r), some (.int (nI (21 * p + a))), some (.int (nI 6)), some (.int (nI (21 * p))), some (.int (nI b)), some (.int (nI c)), some (.int (nI (21 * p + b))), none, none]) rfl ?_
  refine x_iload_n d_N_make_79 rfl rfl ?_
  refine x_iload d_N_make_80 rfl ?_
  refine x_iadd (v := (nI (21 * p + c))) d_N_make_82 (nI_add _ _) ?_
  refine x_istore d_N_make_83 (by decide) (L' := [some (.ref r), some (.int (nI (21 * p + a))), some (.int (nI 6)), some (.int (nI (21 * p))), some (.int (nI b)), some (.int (nI c)), some (.int (nI (21 * p + b))), some (.int (nI (21 * p + c))), none]) rfl ?_
  refine x_iload_n d_N_make_85 rfl rfl ?_
  refine x_bipush (v := (nI 7)) d_N_make_86 (by decide) ?_
  refine x_icmp_ge (tgt := 171) d_N_make_88 rfl (fun w_ => absurd w_ (by decide)) (fun q88 => ?_)
  refine x_aload_n d_N_make_91 rfl rfl ?_
  refine x_iload d_N_make_92 rfl ?_
  refine x_invv d_N_make_94 lm_N_77 (as := [.int (nI (21 * p + b))]) (S := []) (cz' := 0) (cs' := 0) (c_N_weight nl (by omega)) nl.o rfl rfl rfl (Nat.le_of_ble_eq_true rfl) (by omega) (by decide) (by decide) ?_
  rintro _ _ ⟨rfl, rfl⟩
  rw [sb.1]
  refine x_aload_n d_N_make_97 rfl rfl ?_
  refine x_iload d_N_make_98 rfl ?_
  refine x_invv d_N_make_100 lm_N_77 (as := [.int (nI (21 * p + c))]) (S := [.int (nI ((tF (pRg (oPr σ p) b)).length))]) (cz' := 0) (cs' := 0) (c_N_weight nl (by omega)) nl.o rfl rfl rfl (Nat.le_of_ble_eq_true rfl) (by omega) (by decide) (by decide) ?_
  rintro _ _ ⟨rfl, rfl⟩
  rw [sc.1]
  refine x_iadd (v := (nI ((tF (pRg (oPr σ p) b)).length + ((tF (pRg (oPr σ p) c)).length)))) d_N_make_103 (nI_add _ _) ?_
  refine x_bipush (v := (nI 14)) d_N_make_104 (by decide) ?_
  refine x_icmp_le (tgt := 111) d_N_make_106 rfl (fun w_ => absurd w_ (nI_ge (a := 14) hw (by omega))) (fun q106 => ?_)
  refine x_iconst (v := (nI 0)) d_N_make_109 (by decide) ?_
  exact x_iret d_N_make_110 rfl rfl ⟨rfl, A, rfl, y⟩
theorem n_make9y {E : th_E} {h : th_H} {r : Nat} {A : Nat → Nat → Int32} (nl : NL r h) {N u : Nat} {σ : Ho} (y : NR A σ u) (v : vPs N σ) {p : Nat} (hp : p < oCt σ) {a b c : Nat} (ha : a < 8) (hb : b < 8) (hc : c < 8) (h1 : tS (pRg (oPr σ p) b) = 0) (h2 : tS (pRg (oPr σ p) c) = 0) : Xc E m_N_make 2 0 0 [.ref r, .int (nI (21 * p + a)), .int (nI 9), .int (nI (21 * p)), .int (nI b), .int (nI c)] (ov r h A) (Pn r h σ u p (some (sPr σ p (sRg (oPr σ p) a (.leaf (0, tN (pRg (oPr σ p) b) + tN (pRg (oPr σ p) c))))))) := by
  refine Xc.of (by decide) (by simp [Value.category]) (Nat.le_of_ble_eq_true rfl) ?_
  show Xw E m_N_make 2 0 0 0 [some (.ref r), some (.int (nI (21 * p + a))), some (.int (nI 9)), some (.int (nI (21 * p))), some (.int (nI b)), some (.int (nI c)), none, none, none] [] (ov r h A) _
  have yp := y.2.2.2 p hp
  have hp12 := Nat.lt_of_lt_of_le hp v.1
  have vp := (v.2.2 p hp).L
  have sb := yp.rg b hb
  have hlb := vp.1 b
  have sc := yp.rg c hc
  have hlc := vp.1 c
  have hb0 := tF_pos (pRg (oPr σ p) b)
  have hc0 := tF_pos (pRg (oPr σ p) c)
  refine x_iload_n d_N_make_0 rfl rfl ?_
  refine x_if_ne (tgt := 12) d_N_make_1 rfl (fun q1 => ?_) (fun w_ => absurd w_ (by decide))
  refine x_iload_n d_N_make_12 rfl rfl ?_
  refine x_iconst (v := (nI 1)) d_N_make_13 (by decide) ?_
  refine x_icmp_ne (tgt := 25) d_N_make_14 rfl (fun q14 => ?_) (fun w_ => absurd w_ (by decide))
  refine x_iload_n d_N_make_25 rfl rfl ?_
  refine x_iconst (v := (nI 2)) d_N_make_26 (by decide) ?_
  refine x_icmp_ne (tgt := 39) d_N_make_27 rfl (fun q27 => ?_) (fun w_ => absurd w_ (by decide))
  refine x_iload_n d_N_make_39 rfl rfl ?_
  refine x_iconst (v := (nI 3)) d_N_make_40 (by decide) ?_
  refine x_icmp_ne (tgt := 54) d_N_make_41 rfl (fun q41 => ?_) (fun w_ => absurd w_ (by decide))
  refine x_iload_n d_N_make_54 rfl rfl ?_
  refine x_iconst (v := (nI 4)) d_N_make_55 (by decide) ?_
  refine x_icmp_ne (tgt := 66) d_N_make_56 rfl (fun q56 => ?_) (fun w_ => absurd w_ (by decide))
  refine x_iload_n d_N_make_66 rfl rfl ?_
  refine x_iconst (v := (nI 5)) d_N_make_67 (by decide) ?_
  refine x_icmp_ge (tgt := 73) d_N_make_68 rfl (fun q68 => ?_) (fun w_ => absurd (by decide) w_)
  refine x_iload_n d_N_make_73 rfl rfl ?_
  refine x_iload d_N_make_74 rfl ?_
  refine x_iadd (v := (nI (21 * p + b))) d_N_make_76 (nI_add _ _) ?_
  refine x_istore d_N_make_77 (by decide) (L' := [some (.ref r), some (.int (nI (21 * p + a))), some (.int (nI 9)), some (.int (nI (21 * p))), some (.int (nI b)), some (.int (nI c)), some (.int (nI (21 * p + b))), none, none]) rfl ?_
  refine x_iload_n d_N_make_79 rfl rfl ?_
  refine x_iload d_N_make_80 rfl ?_
  refine x_iadd (v := (nI (21 * p + c))) d_N_make_82 (nI_add _ _) ?_
  refine x_istore d_N_make_83 (by decide) (L' := [some (.ref r), some (.int (nI (21 * p + a))), some (.int (nI 9)), some (.int (nI (21 * p))), some (.int (nI b)), some (.int (nI c)), some (.int (nI (21 * p + b))), some (.int (nI (21 * p + c))), none]) rfl ?_
  refine x_iload_n d_N_make_85 rfl rfl ?_
  refine x_bipush (v := (nI 7)) d_N_make_86 (by decide) ?_
  refine x_icmp_ge (tgt := 171) d_N_make_88 rfl (fun q88 => ?_) (fun w_ => absurd (by decide) w_)
  refine x_iload_n d_N_make_171 rfl rfl ?_
  refine x_bipush (v := (nI 9)) d_N_make_172 (by decide) ?_
  refine x_icmp_ge (tgt := 255) d_N_make_174 rfl (fun q174 => ?_) (fun w_ => absurd (by decide) w_)
  refine x_aload_n d_N_make_255 rfl rfl ?_
  refine x_iload d_N_make_256 rfl ?_
  refine x_iconst (v := (nI 0)) d_N_make_258 (by decide) ?_
  refine x_invv d_N_make_259 lm_N_66 (as := [.int (nI (21 * p + b)), .int (nI 0)]) (S := []) (cz' := 0) (cs' := 0) (c_N_sortOf nl (by omega) (by decide)) nl.o rfl rfl rfl (Nat.le_of_ble_eq_true rfl) (by omega) (by decide) (by decide) ?_
  rintro _ _ ⟨rfl, rfl⟩
  rw [sb.s0]
  refine x_if_ne (tgt := 275) d_N_make_262 rfl (fun w_ => absurd h1 w_) (fun q262 => ?_)
  refine x_aload_n d_N_make_265 rfl rfl ?_
  refine x_iload d_N_make_266 rfl ?_
  refine x_iconst (v := (nI 0)) d_N_make_268 (by decide) ?_
  refine x_invv d_N_make_269 lm_N_66 (as := [.int (nI (21 * p + c)), .int (nI 0)]) (S := []) (cz' := 0) (cs' := 0) (c_N_sortOf nl (by omega) (by decide)) nl.o rfl rfl rfl (Nat.le_of_ble_eq_true rfl) (by omega) (by decide) (by decide) ?_
  rintro _ _ ⟨rfl, rfl⟩
  rw [sc.s0]
  refine x_if_eq (tgt := 277) d_N_make_272 rfl (fun q272 => ?_) (fun w_ => absurd h2 w_)
  refine x_aload_n d_N_make_277 rfl rfl ?_
  refine x_iload_n d_N_make_278 rfl rfl ?_
  refine x_iconst (v := (nI 0)) d_N_make_279 (by decide) ?_
  refine x_iload_n d_N_make_280 rfl rfl ?_
  refine x_bipush (v := (nI 9)) d_N_make_281 (by decide) ?_
  refine x_icmp_ne (tgt := 304) d_N_make_283 rfl (fun w_ => absurd (by decide) w_) (fun q283 => ?_)
  refine x_aload_n d_N_make_286 rfl rfl ?_
  refine x_iload d_N_make_287 rfl ?_
  refine x_iconst (v := (nI 0)) d_N_make_289 (by decide) ?_
  refine x_invv d_N_make_290 lm_N_70 (as := [.int (nI (21 * p + b)), .int (nI 0)]) (S := [.int (nI 0), .int (nI (21 * p + a)), .ref r]) (cz' := 0) (cs' := 0) (c_N_numberOf nl (by omega) (by decide)) nl.o rfl rfl rfl (Nat.le_of_ble_eq_true rfl) (by omega) (by decide) (by decide) ?_
  rintro _ _ ⟨rfl, rfl⟩
  rw [sb.n0]
  refine x_aload_n d_N_make_293 rfl rfl ?_
  refine x_iload d_N_make_294 rfl ?_
  refine x_iconst (v := (nI 0)) d_N_make_296 (by decide) ?_
  refine x_invv d_N_make_297 lm_N_70 (as := [.int (nI (21 * p + c)), .int (nI 0)]) (S := [.int (tN (pRg (oPr σ p) b)), .int (nI 0), .int (nI (21 * p + a)), .ref r]) (cz' := 0) (cs' := 0) (c_N_numberOf nl (by omega) (by decide)) nl.o rfl rfl rfl (Nat.le_of_ble_eq_true rfl) (by omega) (by decide) (by decide) ?_
  rintro _ _ ⟨rfl, rfl⟩
  rw [sc.n0]
  refine x_iadd (v := (tN (pRg (oPr σ p) b) + tN (pRg (oPr σ p) c))) d_N_make_300 rfl ?_
  refine x_goto (tgt := 319) d_N_make_301 rfl ?_
  refine x_invv d_N_make_319 lm_N_115 (as := [.int (nI (21 * p + a)), .int (nI 0), .int (tN (pRg (oPr σ p) b) + tN (pRg (oPr σ p) c))]) (S := []) (cz' := 0) (cs' := 0) (c_N_put nl (by omega) _ _) nl.o rfl rfl rfl (Nat.le_of_ble_eq_true rfl) (by omega) (by decide) (by decide) ?_
  rintro _ _ ⟨rfl, rfl⟩
  have e1 : Tb (21 * p + a) A (putA A (21 * p + a) (nI 0) (tN (pRg (oPr σ p) b) + tN (pRg (oPr σ p) c))) := Tb.put
  have q1 : SL (putA A (21 * p + a) (nI 0) (tN (pRg (oPr σ p) b) + tN (pRg (oPr σ p) c))) (21 * p + a) (tF (.leaf (0, tN (pRg (oPr σ p) b) + tN (pRg (oPr σ p) c)))) := SL.put
  generalize (putA A (21 * p + a) (nI 0) (tN (pRg (oPr σ p) b) + tN (pRg (oPr σ p) c))) = A1 at e1 q1 ⊢
  refine x_iconst (v := (nI 1)) d_N_make_322 (by decide) ?_
  exact x_iret d_N_make_323 rfl rfl ⟨rfl, A1, rfl, u, y.setP v.L ((Chp.rf p A).tb (k := a) (by omega) e1) ((yp).s_rg vp ha e1 q1), HdX.setP rfl⟩
theorem n_make9n {E : th_E} {h : th_H} {r : Nat} {A : Nat → Nat → Int32} (nl : NL r h) {N u : Nat} {σ : Ho} (y : NR A σ u) (v : vPs N σ) {p : Nat} (hp : p < oCt σ) {a b c : Nat} (ha : a < 8) (hb : b < 8) (hc : c < 8) (hn : ¬ (tS (pRg (oPr σ p) b) = 0 ∧ tS (pRg (oPr σ p) c) = 0)) : Xc E m_N_make 2 0 0 [.ref r, .int (nI (21 * p + a)), .int (nI 9), .int (nI (21 * p)), .int (nI b), .int (nI c)] (ov r h A) (Pn r h σ u p none) := by
  refine Xc.of (by decide) (by simp [Value.category]) (Nat.le_of_ble_eq_true rfl) ?_
  show Xw E m_N_make 2 0 0 0 [some (.ref r), some (.int (nI (21 * p + a))), some (.int (nI 9)), some (.int (nI (21 * p))), some (.int (nI b)), some (.int (nI c)), none, none, none] [] (ov r h A) _
  have yp := y.2.2.2 p hp
  have hp12 := Nat.lt_of_lt_of_le hp v.1
  have vp := (v.2.2 p hp).L
  have sb := yp.rg b hb
  have hlb := vp.1 b
  have sc := yp.rg c hc
  have hlc := vp.1 c
  have hb0 := tF_pos (pRg (oPr σ p) b)
  have hc0 := tF_pos (pRg (oPr σ p) c)
  refine x_iload_n d_N_make_0 rfl rfl ?_
  refine x_if_ne (tgt := 12) d_N_make_1 rfl (fun q1 => ?_) (fun w_ => absurd w_ (by decide))
  refine x_iload_n d_N_make_12 rfl rfl ?_
  refine x_iconst (v := (nI 1)) d_N_make_13 (by decide) ?_
  refine x_icmp_ne (tgt := 25) d_N_make_14 rfl (fun q14 => ?_) (fun w_ => absurd w_ (by decide))
  refine x_iload_n d_N_make_25 rfl rfl ?_
  refine x_iconst (v := (nI 2)) d_N_make_26 (by decide) ?_
  refine x_icmp_ne (tgt := 39) d_N_make_27 rfl (fun q27 => ?_) (fun w_ => absurd w_ (by decide))
  refine x_iload_n d_N_make_39 rfl rfl ?_
  refine x_iconst (v := (nI 3)) d_N_make_40 (by decide) ?_
  refine x_icmp_ne (tgt := 54) d_N_make_41 rfl (fun q41 => ?_) (fun w_ => absurd w_ (by decide))
  refine x_iload_n d_N_make_54 rfl rfl ?_
  refine x_iconst (v := (nI 4)) d_N_make_55 (by decide) ?_
  refine x_icmp_ne (tgt := 66) d_N_make_56 rfl (fun q56 => ?_) (fun w_ => absurd w_ (by decide))
  refine x_iload_n d_N_make_66 rfl rfl ?_
  refine x_iconst (v := (nI 5)) d_N_make_67 (by decide) ?_
  refine x_icmp_ge (tgt := 73) d_N_make_68 rfl (fun q68 => ?_) (fun w_ => absurd (by decide) w_)
  refine x_iload_n d_N_make_73 rfl rfl ?_
  refine x_iload d_N_make_74 rfl ?_
  refine x_iadd (v := (nI (21 * p + b))) d_N_make_76 (nI_add _ _) ?_
  refine x_istore d_N_make_77 (by decide) (L' := [some (.ref r), some (.int (nI (21 * p + a))), some (.int (nI 9)), some (.int (nI (21 * p))), some (.int (nI b)), some (.int (nI c)), some (.int (nI (21 * p + b))), none, none]) rfl ?_
  refine x_iload_n d_N_make_79 rfl rfl ?_
  refine x_iload d_N_make_80 rfl ?_
  refine x_iadd (v := (nI (21 * p + c))) d_N_make_82 (nI_add _ _) ?_
  refine x_istore d_N_make_83 (by decide) (L' := [some (.ref r), some (.int (nI (21 * p + a))), some (.int (nI 9)), some (.int (nI (21 * p))), some (.int (nI b)), some (.int (nI c)), some (.int (nI (21 * p + b))), some (.int (nI (21 * p + c))), none]) rfl ?_
  refine x_iload_n d_N_make_85 rfl rfl ?_
  refine x_bipush (v := (nI 7)) d_N_make_86 (by decide) ?_
  refine x_icmp_ge (tgt := 171) d_N_make_88 rfl (fun q88 => ?_) (fun w_ => absurd (by decide) w_)
  refine x_iload_n d_N_make_171 rfl rfl ?_
  refine x_bipush (v := (nI 9)) d_N_make_172 (by decide) ?_
  refine x_icmp_ge (tgt := 255) d_N_make_174 rfl (fun q174 => ?_) (fun w_ => absurd (by decide) w_)
  refine x_aload_n d_N_make_255 rfl rfl ?_
  refine x_iload d_N_make_256 rfl ?_
  refine x_iconst (v := (nI 0)) d_N_make_258 (by decide) ?_
  refine x_invv d_N_make_259 lm_N_66 (as := [.int (nI (21 * p + b)), .int (nI 0)]) (S := []) (cz' := 0) (cs' := 0) (c_N_sortOf nl (by omega) (by decide)) nl.o rfl rfl rfl (Nat.le_of_ble_eq_true rfl) (by omega) (by decide) (by decide) ?_
  rintro _ _ ⟨rfl, rfl⟩
  rw [sb.s0]
  refine x_if_ne (tgt := 275) d_N_make_262 rfl (fun q262 => ?_) (fun q262 => ?_)
  · refine x_iconst (v := (nI 0)) d_N_make_275 (by decide) ?_
    exact x_iret d_N_make_276 rfl rfl ⟨rfl, A, rfl, y⟩
  · have h2 : ¬ tS (pRg (oPr σ p) c) = 0 := fun z => hn ⟨q262, z⟩
    refine x_aload_n d_N_make_265 rfl rfl ?_
    refine x_iload d_N_make_266 rfl ?_
    refine x_iconst (v := (nI 0)) d_N_make_268 (by decide) ?_
    refine x_invv d_N_make_269 lm_N_66 (as := [.int (nI (21 * p + c)), .int (nI 0)]) (S := []) (cz' := 0) (cs' := 0) (c_N_sortOf nl (by omega) (by decide)) nl.o rfl rfl rfl (Nat.le_of_ble_eq_true rfl) (by omega) (by decide) (by decide) ?_
    rintro _ _ ⟨rfl, rfl⟩
    rw [sc.s0]
    refine x_if_eq (tgt := 277) d_N_make_272 rfl (fun w_ => absurd w_ h2) (fun q272 => ?_)
    refine x_iconst (v := (nI 0)) d_N_make_275 (by decide) ?_
    exact x_iret d_N_make_276 rfl rfl ⟨rfl, A, rfl, y⟩
theorem n_make10y {E : th_E} {h : th_H} {r : Nat} {A : Nat → Nat → Int32} (nl : NL r h) {N u : Nat} {σ : Ho} (y : NR A σ u) (v : vPs N σ) {p : Nat} (hp : p < oCt σ) {a b c : Nat} (ha : a < 8) (hb : b < 8) (hc : c < 8) (h1 : tS (pRg (oPr σ p) b) = 0) (h2 : tS (pRg (oPr σ p) c) = 0) : Xc E m_N_make 2 0 0 [.ref r, .int (nI (21 * p + a)), .int (nI 10), .int (nI (21 * p)), .int (nI b), .int (nI c)] (ov r h A) (Pn r h σ u p (some (sPr σ p (sRg (oPr σ p) a (.leaf (0, tN (pRg (oPr σ p) b) - tN (pRg (oPr σ p) c))))))) := by
  refine Xc.of (by decide) (by simp [Value.category]) (Nat.le_of_ble_eq_true rfl) ?_
  show Xw E m_N_make 2 0 0 0 [some (.ref r), some (.int (nI (21 * p + a))), some (.int (nI 10)), some (.int (nI (21 * p))), some (.int (nI b)), some (.int (nI c)), none, none, none] [] (ov r h A) _
  have yp := y.2.2.2 p hp
  have hp12 := Nat.lt_of_lt_of_le hp v.1
  have vp := (v.2.2 p hp).L
  have sb := yp.rg b hb
  have hlb := vp.1 b
  have sc := yp.rg c hc
  have hlc := vp.1 c
  have hb0 := tF_pos (pRg (oPr σ p) b)
  have hc0 := tF_pos (pRg (oPr σ p) c)
  refine x_iload_n d_N_make_0 rfl rfl ?_
  refine x_if_ne (tgt := 12) d_N_make_1 rfl (fun q1 => ?_) (fun w_ => absurd w_ (by decide))
  refine x_iload_n d_N_make_12 rfl rfl ?_
  refine x_iconst (v := (nI 1)) d_N_make_13 (by decide) ?_
  refine x_icmp_ne (tgt := 25) d_N_make_14 rfl (fun q14 => ?_) (fun w_ => absurd w_ (by decide))
  refine x_iload_n d_N_make_25 rfl rfl ?_
  refine x_iconst (v := (nI 2)) d_N_make_26 (by decide) ?_
  refine x_icmp_ne (tgt := 39) d_N_make_27 rfl (fun q27 => ?_) (fun w_ => absurd w_ (by decide))
  refine x_iload_n d_N_make_39 rfl rfl ?_
  refine x_iconst (v := (nI 3)) d_N_make_40 (by decide) ?_
  refine x_icmp_ne (tgt := 54) d_N_make_41 rfl (fun q41 => ?_) (fun w_ => absurd w_ (by decide))
  refine x_iload_n d_N_make_54 rfl rfl ?_
  refine x_iconst (v := (nI 4)) d_N_make_55 (by decide) ?_
  refine x_icmp_ne (tgt := 66) d_N_make_56 rfl (fun q56 => ?_) (fun w_ => absurd w_ (by decide))
  refine x_iload_n d_N_make_66 rfl rfl ?_
  refine x_iconst (v := (nI 5)) d_N_make_67 (by decide) ?_
  refine x_icmp_ge (tgt := 73) d_N_make_68 rfl (fun q68 => ?_) (fun w_ => absurd (by decide) w_)
  refine x_iload_n d_N_make_73 rfl rfl ?_
  refine x_iload d_N_make_74 rfl ?_
  refine x_iadd (v := (nI (21 * p + b))) d_N_make_76 (nI_add _ _) ?_
  refine x_istore d_N_make_77 (by decide) (L' := [some (.ref r), some (.int (nI (21 * p + a))), some (.int (nI 10)), some (.int (nI (21 * p))), some (.int (nI b)), some (.int (nI c)), some (.int (nI (21 * p + b))), none, none]) rfl ?_
  refine x_iload_n d_N_make_79 rfl rfl ?_
  refine x_iload d_N_make_80 rfl ?_
  refine x_iadd (v := (nI (21 * p + c))) d_N_make_82 (nI_add _ _) ?_
  refine x_istore d_N_make_83 (by decide) (L' := [some (.ref r), some (.int (nI (21 * p + a))), some (.int (nI 10)), some (.int (nI (21 * p))), some (.int (nI b)), some (.int (nI c)), some (.int (nI (21 * p + b))), some (.int (nI (21 * p + c))), none]) rfl ?_
  refine x_iload_n d_N_make_85 rfl rfl ?_
  refine x_bipush (v := (nI 7)) d_N_make_86 (by decide) ?_
  refine x_icmp_ge (tgt := 171) d_N_make_88 rfl (fun q88 => ?_) (fun w_ => absurd (by decide) w_)
  refine x_iload_n d_N_make_171 rfl rfl ?_
  refine x_bipush (v := (nI 9)) d_N_make_172 (by decide) ?_
  refine x_icmp_ge (tgt := 255) d_N_make_174 rfl (fun q174 => ?_) (fun w_ => absurd (by decide) w_)
  refine x_aload_n d_N_make_255 rfl rfl ?_
  refine x_iload d_N_make_256 rfl ?_
  refine x_iconst (v := (nI 0)) d_N_make_258 (by decide) ?_
  refine x_invv d_N_make_259 lm_N_66 (as := [.int (nI (21 * p + b)), .int (nI 0)]) (S := []) (cz' := 0) (cs' := 0) (c_N_sortOf nl (by omega) (by decide)) nl.o rfl rfl rfl (Nat.le_of_ble_eq_true rfl) (by omega) (by decide) (by decide) ?_
  rintro _ _ ⟨rfl, rfl⟩
  rw [sb.s0]
  refine x_if_ne (tgt := 275) d_N_make_262 rfl (fun w_ => absurd h1 w_) (fun q262 => ?_)
  refine x_aload_n d_N_make_265 rfl rfl ?_
  refine x_iload d_N_make_266 rfl ?_
  refine x_iconst (v := (nI 0)) d_N_make_268 (by decide) ?_
  refine x_invv d_N_make_269 lm_N_66 (as := [.int (nI (21 * p + c)), .int (nI 0)]) (S := []) (cz' := 0) (cs' := 0) (c_N_sortOf nl (by omega) (by decide)) nl.o rfl rfl rfl (Nat.le_of_ble_eq_true rfl) (by omega) (by decide) (by decide) ?_
  rintro _ _ ⟨rfl, rfl⟩
  rw [sc.s0]
  refine x_if_eq (tgt := 277) d_N_make_272 rfl (fun q272 => ?_) (fun w_ => absurd h2 w_)
  refine x_aload_n d_N_make_277 rfl rfl ?_
  refine x_iload_n d_N_make_278 rfl rfl ?_
  refine x_iconst (v := (nI 0)) d_N_make_279 (by decide) ?_
  refine x_iload_n d_N_make_280 rfl rfl ?_
  refine x_bipush (v := (nI 9)) d_N_make_281 (by decide) ?_
  refine x_icmp_ne (tgt := 304) d_N_make_283 rfl (fun q283 => ?_) (fun w_ => absurd w_ (by decide))
  refine x_aload_n d_N_make_304 rfl rfl ?_
  refine x_iload d_N_make_305 rfl ?_
  refine x_iconst (v := (nI 0)) d_N_make_307 (by decide) ?_
  refine x_invv d_N_make_308 lm_N_70 (as := [.int (nI (21 * p + b)), .int (nI 0)]) (S := [.int (nI 0), .int (nI (21 * p + a)), .ref r]) (cz' := 0) (cs' := 0) (c_N_numberOf nl (by omega) (by decide)) nl.o rfl rfl rfl (Nat.le_of_ble_eq_true rfl) (by omega) (by decide) (by decide) ?_
  rintro _ _ ⟨rfl, rfl⟩
  rw [sb.n0]
  refine x_aload_n d_N_make_311 rfl rfl ?_
  refine x_iload d_N_make_312 rfl ?_
  refine x_iconst (v := (nI 0)) d_N_make_314 (by decide) ?_
  refine x_invv d_N_make_315 lm_N_70 (as := [.int (nI (21 * p + c)), .int (nI 0)]) (S := [.int (tN (pRg (oPr σ p) b)), .int (nI 0), .int (nI (21 * p + a)), .ref r]) (cz' := 0) (cs' := 0) (c_N_numberOf nl (by omega) (by decide)) nl.o rfl rfl rfl (Nat.le_of_ble_eq_true rfl) (by omega) (by decide) (by decide) ?_
  rintro _ _ ⟨rfl, rfl⟩
  rw [sc.n0]
  refine x_isub (v := (tN (pRg (oPr σ p) b) - tN (pRg (oPr σ p) c))) d_N_make_318 rfl ?_
  refine x_invv d_N_make_319 lm_N_115 (as := [.int (nI (21 * p + a)), .int (nI 0), .int (tN (pRg (oPr σ p) b) - tN (pRg (oPr σ p) c))]) (S := []) (cz' := 0) (cs' := 0) (c_N_put nl (by omega) _ _) nl.o rfl rfl rfl (Nat.le_of_ble_eq_true rfl) (by omega) (by decide) (by decide) ?_
  rintro _ _ ⟨rfl, rfl⟩
  have e1 : Tb (21 * p + a) A (putA A (21 * p + a) (nI 0) (tN (pRg (oPr σ p) b) - tN (pRg (oPr σ p) c))) := Tb.put
  have q1 : SL (putA A (21 * p + a) (nI 0) (tN (pRg (oPr σ p) b) - tN (pRg (oPr σ p) c))) (21 * p + a) (tF (.leaf (0, tN (pRg (oPr σ p) b) - tN (pRg (oPr σ p) c)))) := SL.put
  generalize (putA A (21 * p + a) (nI 0) (tN (pRg (oPr σ p) b) - tN (pRg (oPr σ p) c))) = A1 at e1 q1 ⊢
  refine x_iconst (v := (nI 1)) d_N_make_322 (by decide) ?_
  exact x_iret d_N_make_323 rfl rfl ⟨rfl, A1, rfl, u, y.setP v.L ((Chp.rf p A).tb (k := a) (by omega) e1) ((yp).s_rg vp ha e1 q1), HdX.setP rfl⟩
theorem n_make10n {E : th_E} {h : th_H} {r : Nat} {A : Nat → Nat → Int32} (nl : NL r h) {N u : Nat} {σ : Ho} (y : NR A σ u) (v : vPs N σ) {p : Nat} (hp : p < oCt σ) {a b c : Nat} (ha : a < 8) (hb : b < 8) (hc : c < 8) (hn : ¬ (tS (pRg (oPr σ p) b) = 0 ∧ tS (pRg (oPr σ p) c) = 0)) : Xc E m_N_make 2 0 0 [.ref r, .int (nI (21 * p + a)), .int (nI 10), .int (nI (21 * p)), .int (nI b), .int (nI c)] (ov r h A) (Pn r h σ u p none) := by
  refine Xc.of (by decide) (by simp [Value.category]) (Nat.le_of_ble_eq_true rfl) ?_
  show Xw E m_N_make 2 0 0 0 [some (.ref r), some (.int (nI (21 * p + a))), some (.int (nI 10)), some (.int (nI (21 * p))), some (.int (nI b)), some (.int (nI c)), none, none, none] [] (ov r h A) _
  have yp := y.2.2.2 p hp
  have hp12 := Nat.lt_of_lt_of_le hp v.1
  have vp := (v.2.2 p hp).L
  have sb := yp.rg b hb
  have hlb := vp.1 b
  have sc := yp.rg c hc
  have hlc := vp.1 c
  have hb0 := tF_pos (pRg (oPr σ p) b)
  have hc0 := tF_pos (pRg (oPr σ p) c)
  refine x_iload_n d_N_make_0 rfl rfl ?_
  refine x_if_ne (tgt := 12) d_N_make_1 rfl (fun q1 => ?_) (fun w_ => absurd w_ (by decide))
  refine x_iload_n d_N_make_12 rfl rfl ?_
  refine x_iconst (v := (nI 1)) d_N_make_13 (by decide) ?_
  refine x_icmp_ne (tgt := 25) d_N_make_14 rfl (fun q14 => ?_) (fun w_ => absurd w_ (by decide))
  refine x_iload_n d_N_make_25 rfl rfl ?_
  refine x_iconst (v := (nI 2)) d_N_make_26 (by decide) ?_
  refine x_icmp_ne (tgt := 39) d_N_make_27 rfl (fun q27 => ?_) (fun w_ => absurd w_ (by decide))
  refine x_iload_n d_N_make_39 rfl rfl ?_
  refine x_iconst (v := (nI 3)) d_N_make_40 (by decide) ?_
  refine x_icmp_ne (tgt := 54) d_N_make_41 rfl (fun q41 => ?_) (fun w_ => absurd w_ (by decide))
  refine x_iload_n d_N_make_54 rfl rfl ?_
  refine x_iconst (v := (nI 4)) d_N_make_55 (by decide) ?_
  refine x_icmp_ne (tgt := 66) d_N_make_56 rfl (fun q56 => ?_) (fun w_ => absurd w_ (by decide))
  refine x_iload_n d_N_make_66 rfl rfl ?_
  refine x_iconst (v := (nI 5)) d_N_make_67 (by decide) ?_
  refine x_icmp_ge (tgt := 73) d_N_make_68 rfl (fun q68 => ?_) (fun w_ => absurd (by decide) w_)
  refine x_iload_n d_N_make_73 rfl rfl ?_
  refine x_iload d_N_make_74 rfl ?_
  refine x_iadd (v := (nI (21 * p + b))) d_N_make_76 (nI_add _ _) ?_
  refine x_istore d_N_make_77 (by decide) (L' := [some (.ref r), some (.int (nI (21 * p + a))), some (.int (nI 10)), some (.int (nI (21 * p))), some (.int (nI b)), some (.int (nI c)), some (.int (nI (21 * p + b))), none, none]) rfl ?_
  refine x_iload_n d_N_make_79 rfl rfl ?_
  refine x_iload d_N_make_80 rfl ?_
  refine x_iadd (v := (nI (21 * p + c))) d_N_make_82 (nI_add _ _) ?_
  refine x_istore d_N_make_83 (by decide) (L' := [some (.ref r), some (.int (nI (21 * p + a))), some (.int (nI 10)), some (.int (nI (21 * p))), some (.int (nI b)), some (.int (nI c)), some (.int (nI (21 * p + b))), some (.int (nI (21 * p + c))), none]) rfl ?_
  refine x_iload_n d_N_make_85 rfl rfl ?_
  refine x_bipush (v := (nI 7)) d_N_make_86 (by decide) ?_
  refine x_icmp_ge (tgt := 171) d_N_make_88 rfl (fun q88 => ?_) (fun w_ => absurd (by decide) w_)
  refine x_iload_n d_N_make_171 rfl rfl ?_
  refine x_bipush (v := (nI 9)) d_N_make_172 (by decide) ?_
  refine x_icmp_ge (tgt := 255) d_N_make_174 rfl (fun q174 => ?_) (fun w_ => absurd (by decide) w_)
  refine x_aload_n d_N_make_255 rfl rfl ?_
  refine x_iload d_N_make_256 rfl ?_
  refine x_iconst (v := (nI 0)) d_N_make_258 (by decide) ?_
  refine x_invv d_N_make_259 lm_N_66 (as := [.int (nI (21 * p + b)), .int (nI 0)]) (S := []) (cz' := 0) (cs' := 0) (c_N_sortOf nl (by omega) (by decide)) nl.o rfl rfl rfl (Nat.le_of_ble_eq_true rfl) (by omega) (by decide) (by decide) ?_
  rintro _ _ ⟨rfl, rfl⟩
  rw [sb.s0]
  refine x_if_ne (tgt := 275) d_N_make_262 rfl (fun q262 => ?_) (fun q262 => ?_)
  · refine x_iconst (v := (nI 0)) d_N_make_275 (by decide) ?_
    exact x_iret d_N_make_276 rfl rfl ⟨rfl, A, rfl, y⟩
  · have h2 : ¬ tS (pRg (oPr σ p) c) = 0 := fun z => hn ⟨q262, z⟩
    refine x_aload_n d_N_make_265 rfl rfl ?_
    refine x_iload d_N_make_266 rfl ?_
    refine x_iconst (v := (nI 0)) d_N_make_268 (by decide) ?_
    refine x_invv d_N_make_269 lm_N_66 (as := [.int (nI (21 * p + c)), .int (nI 0)]) (S := []) (cz' := 0) (cs' := 0) (c_N_sortOf nl (by omega) (by decide)) nl.o rfl rfl rfl (Nat.le_of_ble_eq_true rfl) (by omega) (by decide) (by decide) ?_
    rintro _ _ ⟨rfl, rfl⟩
    rw [sc.s0]
    refine x_if_eq (tgt := 277) d_N_make_272 rfl (fun w_ => absurd w_ h2) (fun q272 => ?_)
    refine x_iconst (v := (nI 0)) d_N_make_275 (by decide) ?_
    exact x_iret d_N_make_276 rfl rfl ⟨rfl, A, rfl, y⟩
theorem n_make7n {E : th_E} {h : th_H} {r : Nat} {A : Nat → Nat → Int32} (nl : NL r h) {N u : Nat} {σ : Ho} (y : NR A σ u) (v : vPs N σ) {p : Nat} (hp : p < oCt σ) {a b : Nat} (ha : a < 8) (hb : b < 8) (c : Nat) {q : Int32 × Int32} (ht : (pRg (oPr σ p) b) = .leaf q) : Xc E m_N_make 2 0 0 [.ref r, .int (nI (21 * p + a)), .int (nI 7), .int (nI (21 * p)), .int (nI b), .int (nI c)] (ov r h A) (Pn r h σ u p none) := by
  refine Xc.of (by decide) (by simp [Value.category]) (Nat.le_of_ble_eq_true rfl) ?_
  show Xw E m_N_make 2 0 0 0 [some (.ref r), some (.int (nI (21 * p + a))), some (.int (nI 7)), some (.int (nI (21 * p))), some (.int (nI b)), some (.int (nI c)), none, none, none] [] (ov r h A) _
  have yp := y.2.2.2 p hp
  have hp12 := Nat.lt_of_lt_of_le hp v.1
  have vp := (v.2.2 p hp).L
  have sb := yp.rg b hb
  rw [ht] at sb
  refine x_iload_n d_N_make_0 rfl rfl ?_
  refine x_if_ne (tgt := 12) d_N_make_1 rfl (fun q1 => ?_) (fun w_ => absurd w_ (by decide))
  refine x_iload_n d_N_make_12 rfl rfl ?_
  refine x_iconst (v := (nI 1)) d_N_make_13 (by decide) ?_
  refine x_icmp_ne (tgt := 25) d_N_make_14 rfl (fun q14 => ?_) (fun w_ => absurd w_ (by decide))
  refine x_iload_n d_N_make_25 rfl rfl ?_
  refine x_iconst (v := (nI 2)) d_N_make_26 (by decide) ?_
  refine x_icmp_ne (tgt := 39) d_N_make_27 rfl (fun q27 => ?_) (fun w_ => absurd w_ (by decide))
  refine x_iload_n d_N_make_39 rfl rfl ?_
  refine x_iconst (v := (nI 3)) d_N_make_40 (by decide) ?_
  refine x_icmp_ne (tgt := 54) d_N_make_41 rfl (fun q41 => ?_) (fun w_ => absurd w_ (by decide))
  refine x_iload_n d_N_make_54 rfl rfl ?_
  refine x_iconst (v := (nI 4)) d_N_make_55 (by decide) ?_
  refine x_icmp_ne (tgt := 66) d_N_make_56 rfl (fun q56 => ?_) (fun w_ => absurd w_ (by decide))
  refine x_iload_n d_N_make_66 rfl rfl ?_
  refine x_iconst (v := (nI 5)) d_N_make_67 (by decide) ?_
  refine x_icmp_ge (tgt := 73) d_N_make_68 rfl (fun q68 => ?_) (fun w_ => absurd (by decide) w_)
  refine x_iload_n d_N_make_73 rfl rfl ?_
  refine x_iload d_N_make_74 rfl ?_
  refine x_iadd (v := (nI (21 * p + b))) d_N_make_76 (nI_add _ _) ?_
  refine x_istore d_N_make_77 (by decide) (L' := [some (.ref r), some (.int (nI (21 * p + a))), some (.int (nI 7)), some (.int (nI (21 * p))), some (.int (nI b)), some (.int (nI c)), some (.int (nI (21 * p + b))), none, none]) rfl ?_
  refine x_iload_n d_N_make_79 rfl rfl ?_
  refine x_iload d_N_make_80 rfl ?_
  refine x_iadd (v := (nI (21 * p + c))) d_N_make_82 (nI_add _ _) ?_
  refine x_istore d_N_make_83 (by decide) (L' := [some (.ref r), some (.int (nI (21 * p + a))), some (.int (nI 7)), some (.int (nI (21 * p))), some (.int (nI b)), some (.int (nI c)), some (.int (nI (21 * p + b))), some (.int (nI (21 * p + c))), none]) rfl ?_
  refine x_iload_n d_N_make_85 rfl rfl ?_
  refine x_bipush (v := (nI 7)) d_N_make_86 (by decide) ?_
  refine x_icmp_ge (tgt := 171) d_N_make_88 rfl (fun q88 => ?_) (fun w_ => absurd (by decide) w_)
  refine x_iload_n d_N_make_171 rfl rfl ?_
  refine x_bipush (v := (nI 9)) d_N_make_172 (by decide) ?_
  refine x_icmp_ge (tgt := 255) d_N_make_174 rfl (fun w_ => absurd w_ (by decide)) (fun q174 => ?_)
  refine x_aload_n d_N_make_177 rfl rfl ?_
  refine x_iload d_N_make_178 rfl ?_
  refine x_invv d_N_make_180 lm_N_77 (as := [.int (nI (21 * p + b))]) (S := []) (cz' := 0) (cs' := 0) (c_N_weight nl (by omega)) nl.o rfl rfl rfl (Nat.le_of_ble_eq_true rfl) (by omega) (by decide) (by decide) ?_
  rintro _ _ ⟨rfl, rfl⟩
  rw [sb.1]
  refine x_iconst (v := (nI 1)) d_N_make_183 (by decide) ?_
  refine x_icmp_ne (tgt := 189) d_N_make_184 rfl (fun w_ => absurd rfl w_) (fun q184 => ?_)
  refine x_iconst (v := (nI 0)) d_N_make_187 (by decide) ?_
  exact x_iret d_N_make_188 rfl rfl ⟨rfl, A, rfl, y⟩
theorem part1 {k : Nat} {l r2 : Tm} : ((tF (.branch k l r2)).drop 1).take (1 + (tF l).length - 1) = tF l := by
  rw [show 1 + (tF l).length - 1 = (tF l).length by omega]
  show (tF l ++ tF r2).take (tF l).length = tF l
  rw [List.take_left']
  rfl
theorem part2 {k : Nat} {l r2 : Tm} : ((tF (.branch k l r2)).drop (1 + (tF l).length)).take ((tF (.branch k l r2)).length - (1 + (tF l).length)) = tF r2 := by
  have e : (tF (.branch k l r2)).drop (1 + (tF l).length) = tF r2 := by
    rw [Nat.add_comm]
    show (tF l ++ tF r2).drop (tF l).length = tF r2
    rw [List.drop_left']
    rfl
  rw [e]
  have h2 : (tF (.branch k l r2)).length - (1 + (tF l).length) = (tF r2).length := by simp only [tF, List.length_cons, List.length_append]; omega
  rw [h2, List.take_length]
theorem brl {k : Nat} {l r2 : Tm} : (tF (.branch k l r2)).length = 1 + (tF l).length + (tF r2).length := by simp only [tF, List.length_cons, List.length_append]; omega
theorem n_make7y {E : th_E} {h : th_H} {r : Nat} {A : Nat → Nat → Int32} (nl : NL r h) {N u : Nat} {σ : Ho} (y : NR A σ u) (v : vPs N σ) {p : Nat} (hp : p < oCt σ) {a b : Nat} (ha : a < 8) (hb : b < 8) (c : Nat) {k : Nat} {l r2 : Tm} (ht : (pRg (oPr σ p) b) = (.branch k l r2)) : Xc E m_N_make 2 0 0 [.ref r, .int (nI (21 * p + a)), .int (nI 7), .int (nI (21 * p)), .int (nI b), .int (nI c)] (ov r h A) (Pn r h σ u p (some (sPr σ p (sRg (oPr σ p) a l)))) := by
  refine Xc.of (by decide) (by simp [Value.category]) (Nat.le_of_ble_eq_true rfl) ?_
  show Xw E m_N_make 2 0 0 0 [some (.ref r), some (.int (nI (21 * p + a))), some (.int (nI 7)), some (.int (nI (21 * p))), some (.int (nI b)), some (.int (nI c)), none, none, none] [] (ov r h A) _
  have yp := y.2.2.2 p hp
  have hp12 := Nat.lt_of_lt_of_le hp v.1
  have vp := (v.2.2 p hp).L
  have sb := yp.rg b hb
  have hlb := vp.1 b
  have hok := ((v.2.2 p hp).1 b).1
  rw [ht] at sb hlb hok
  have hbl := brl (k := k) (l := l) (r2 := r2)
  have hl0 := tF_pos l
  have hr0 := tF_pos r2
  refine x_iload_n d_N_make_0 rfl rfl ?_
  refine x_if_ne (tgt := 12) d_N_make_1 rfl (fun q1 => ?_) (fun w_ => absurd w_ (by decide))
  refine x_iload_n d_N_make_12 rfl rfl ?_
  refine x_iconst (v := (nI 1)) d_N_make_13 (by decide) ?_
  refine x_icmp_ne (tgt := 25) d_N_make_14 rfl (fun q14 => ?_) (fun w_ => absurd w_ (by decide))
  refine x_iload_n d_N_make_25 rfl rfl ?_
  refine x_iconst (v := (nI 2)) d_N_make_26 (by decide) ?_
  refine x_icmp_ne (tgt := 39) d_N_make_27 rfl (fun q27 => ?_) (fun w_ => absurd w_ (by decide))
  refine x_iload_n d_N_make_39 rfl rfl ?_
  refine x_iconst (v := (nI 3)) d_N_make_40 (by decide) ?_
  refine x_icmp_ne (tgt := 54) d_N_make_41 rfl (fun q41 => ?_) (fun w_ => absurd w_ (by decide))
  refine x_iload_n d_N_make_54 rfl rfl ?_
  refine x_iconst (v := (nI 4)) d_N_make_55 (by decide) ?_
  refine x_icmp_ne (tgt := 66) d_N_make_56 rfl (fun q56 => ?_) (fun w_ => absurd w_ (by decide))
  refine x_iload_n d_N_make_66 rfl rfl ?_
  refine x_iconst (v := (nI 5)) d_N_make_67 (by decide) ?_
  refine x_icmp_ge (tgt := 73) d_N_make_68 rfl (fun q68 => ?_) (fun w_ => absurd (by decide) w_)
  refine x_iload_n d_N_make_73 rfl rfl ?_
  refine x_iload d_N_make_74 rfl ?_
  refine x_iadd (v := (nI (21 * p + b))) d_N_make_76 (nI_add _ _) ?_
  refine x_istore d_N_make_77 (by decide) (L' := [some (.ref r), some (.int (nI (21 * p + a))), some (.int (nI 7)), some (.int (nI (21 * p))), some (.int (nI b)), some (.int (nI c)), some (.int (nI (21 * p + b))), none, none]) rfl ?_
  refine x_iload_n d_N_make_79 rfl rfl ?_
  refine x_iload d_N_make_80 rfl ?_
  refine x_iadd (v := (nI (21 * p + c))) d_N_make_82 (nI_add _ _) ?_
  refine x_istore d_N_make_83 (by decide) (L' := [some (.ref r), some (.int (nI (21 * p + a))), some (.int (nI 7)), some (.int (nI (21 * p))), some (.int (nI b)), some (.int (nI c)), some (.int (nI (21 * p + b))), some (.int (nI (21 * p + c))), none]) rfl ?_
  refine x_iload_n d_N_make_85 rfl rfl ?_
  refine x_bipush (v := (nI 7)) d_N_make_86 (by decide) ?_
  refine x_icmp_ge (tgt := 171) d_N_make_88 rfl (fun q88 => ?_) (fun w_ => absurd (by decide) w_)
  refine x_iload_n d_N_make_171 rfl rfl ?_
  refine x_bipush (v := (nI 9)) d_N_make_172 (by decide) ?_
  refine x_icmp_ge (tgt := 255) d_N_make_174 rfl (fun w_ => absurd w_ (by decide)) (fun q174 => ?_)
  refine x_aload_n d_N_make_177 rfl rfl ?_
  refine x_iload d_N_make_178 rfl ?_
  refine x_invv d_N_make_180 lm_N_77 (as := [.int (nI (21 * p + b))]) (S := []) (cz' := 0) (cs' := 0) (c_N_weight nl (by omega)) nl.o rfl rfl rfl (Nat.le_of_ble_eq_true rfl) (by omega) (by decide) (by decide) ?_
  rintro _ _ ⟨rfl, rfl⟩
  rw [sb.1]
  refine x_iconst (v := (nI 1)) d_N_make_183 (by decide) ?_
  refine x_icmp_ne (tgt := 189) d_N_make_184 rfl (fun q184 => ?_) (fun w_ => absurd w_ (fun z => by have := (nI_eq (b := 1) (by omega) (by decide)).mp z; omega))
  refine x_aload_n d_N_make_189 rfl rfl ?_
  refine x_iload d_N_make_190 rfl ?_
  refine x_iconst (v := (nI 1)) d_N_make_192 (by decide) ?_
  refine x_invv d_N_make_193 lm_N_140 (as := [.int (nI (21 * p + b)), .int (nI 1)]) (S := []) (cz' := 0) (cs' := 0) (c_N_behind (p := 1) (x := l) (post := tF r2) nl (by omega) sb hok.2.1 rfl (by omega)) nl.o rfl rfl rfl (Nat.le_of_ble_eq_true rfl) (by omega) (by decide) (by decide) ?_
  rintro _ _ ⟨rfl, rfl⟩
  refine x_istore d_N_make_196 (by decide) (L' := [some (.ref r), some (.int (nI (21 * p + a))), some (.int (nI 7)), some (.int (nI (21 * p))), some (.int (nI b)), some (.int (nI c)), some (.int (nI (21 * p + b))), some (.int (nI (21 * p + c))), some (.int (nI (1 + (tF l).length)))]) rfl ?_
  refine x_aload_n d_N_make_198 rfl rfl ?_
  refine n_fld (j := 5) d_N_make_199 lf_N_22 nl (by decide) rfl rfl ?_
  refine x_sipush (v := (nI 8064)) d_N_make_202 (by decide) ?_
  refine x_iconst (v := (nI 0)) d_N_make_205 (by decide) ?_
  refine n_st (j := 5) (i := 8064) (n := 8128) (v := (nI 0)) d_N_make_206 nl (by decide) (by decide) rfl rfl (by decide) (by decide) ?_
  have f1 : Tb 252 A (up A 5 8064 (nI 0)) := Tb.up (by decide) (by decide)
  have g1 : SL (up A 5 8064 (nI 0)) 252 [] := ⟨up_s, fun i q hq => by cases hq⟩
  generalize (up A 5 8064 (nI 0)) = B1 at f1 g1 ⊢
  have sb1 := sb.tb hlb f1 (by omega)
  refine x_aload_n d_N_make_207 rfl rfl ?_
  refine x_sipush (v := (nI 252)) d_N_make_208 (by decide) ?_
  refine x_iload d_N_make_211 rfl ?_
  refine x_iload_n d_N_make_213 rfl rfl ?_
  refine x_bipush (v := (nI 7)) d_N_make_214 (by decide) ?_
  refine x_icmp_ne (tgt := 223) d_N_make_216 rfl (fun w_ => absurd (by decide) w_) (fun q216 => ?_)
  refine x_iconst (v := (nI 1)) d_N_make_219 (by decide) ?_
  refine x_goto (tgt := 225) d_N_make_220 rfl ?_
  refine x_iload_n d_N_make_225 rfl rfl ?_
  refine x_bipush (v := (nI 7)) d_N_make_226 (by decide) ?_
  refine x_icmp_ne (tgt := 236) d_N_make_228 rfl (fun w_ => absurd (by decide) w_) (fun q228 => ?_)
  refine x_iload d_N_make_231 rfl ?_
  refine x_goto (tgt := 242) d_N_make_233 rfl ?_
  refine x_invv d_N_make_242 lm_N_118 (as := [.int (nI 252), .int (nI (21 * p + b)), .int (nI 1), .int (nI (1 + (tF l).length))]) (S := []) (cz' := 0) (cs' := 0) (c_N_addParts (s := 252) (o := 21 * p + b) (f := 1) (e := (1 + (tF l).length)) (w := 0) nl (by decide) (by omega) (by omega) (by omega) (by omega) g1.1 (by omega)) nl.o rfl rfl rfl (Nat.le_of_ble_eq_true rfl) (by omega) (by decide) (by decide) ?_
  rintro _ _ ⟨rfl, rfl⟩
  have f2 := f1.tr (Tb.ap (A := B1) (s := 252) (o := 21 * p + b) (f := 1) (w := 0) (c := (1 + (tF l).length) - 1) (by omega))
  have g2 : SL (apA B1 252 (21 * p + b) 1 0 ((1 + (tF l).length) - 1)) 252 (tF l) := by have z := g1.ap (w := 0) rfl sb1 (show 1 ≤ (1 + (tF l).length) by omega) (by omega); rw [List.nil_append, part1] at z; exact z
  generalize (apA B1 252 (21 * p + b) 1 0 ((1 + (tF l).length) - 1)) = B2 at f2 g2 ⊢
  have y2 := y.tw v.L (by decide) f2
  refine x_aload_n d_N_make_245 rfl rfl ?_
  refine x_sipush (v := (nI 252)) d_N_make_246 (by decide) ?_
  refine x_iload_n d_N_make_249 rfl rfl ?_
  refine x_invv d_N_make_250 lm_N_107 (as := [.int (nI 252), .int (nI (21 * p + a))]) (S := []) (cz' := 0) (cs' := 0) (c_N_copy nl (by omega) (by omega) g2.1 (by omega)) nl.o rfl rfl rfl (Nat.le_of_ble_eq_true rfl) (by omega) (by decide) (by decide) ?_
  rintro _ _ ⟨rfl, rfl⟩
  have e1 : Tb (21 * p + a) B2 (cpA B2 252 (21 * p + a) (2 * (tF l).length + 1)) := Tb.cp (by omega)
  have q1 : SL (cpA B2 252 (21 * p + a) (2 * (tF l).length + 1)) (21 * p + a) (tF l) := g2.cp rfl
  generalize cpA B2 252 (21 * p + a) (2 * (tF l).length + 1) = A1 at e1 q1 ⊢
  refine x_iconst (v := (nI 1)) d_N_make_253 (by decide) ?_
  exact x_iret d_N_make_254 rfl rfl ⟨rfl, A1, rfl, u, y2.setP v.L ((Chp.rf p B2).tb (k := a) (by omega) e1) ((y2.2.2.2 p hp).s_rg vp ha e1 q1), HdX.setP rfl⟩
theorem n_make8n {E : th_E} {h : th_H} {r : Nat} {A : Nat → Nat → Int32} (nl : NL r h) {N u : Nat} {σ : Ho} (y : NR A σ u) (v : vPs N σ) {p : Nat} (hp : p < oCt σ) {a b : Nat} (ha : a < 8) (hb : b < 8) (c : Nat) {q : Int32 × Int32} (ht : (pRg (oPr σ p) b) = .leaf q) : Xc E m_N_make 2 0 0 [.ref r, .int (nI (21 * p + a)), .int (nI 8), .int (nI (21 * p)), .int (nI b), .int (nI c)] (ov r h A) (Pn r h σ u p none) := by
  refine Xc.of (by decide) (by simp [Value.category]) (Nat.le_of_ble_eq_true rfl) ?_
  show Xw E m_N_make 2 0 0 0 [some (.ref r), some (.int (nI (21 * p + a))), some (.int (nI 8)), some (.int (nI (21 * p))), some (.int (nI b)), some (.int (nI c)), none, none, none] [] (ov r h A) _
  have yp := y.2.2.2 p hp
  have hp12 := Nat.lt_of_lt_of_le hp v.1
  have vp := (v.2.2 p hp).L
  have sb := yp.rg b hb
  rw [ht] at sb
  refine x_iload_n d_N_make_0 rfl rfl ?_
  refine x_if_ne (tgt := 12) d_N_make_1 rfl (fun q1 => ?_) (fun w_ => absurd w_ (by decide))
  refine x_iload_n d_N_make_12 rfl rfl ?_
  refine x_iconst (v := (nI 1)) d_N_make_13 (by decide) ?_
  refine x_icmp_ne (tgt := 25) d_N_make_14 rfl (fun q14 => ?_) (fun w_ => absurd w_ (by decide))
  refine x_iload_n d_N_make_25 rfl rfl ?_
  refine x_iconst (v := (nI 2)) d_N_make_26 (by decide) ?_
  refine x_icmp_ne (tgt := 39) d_N_make_27 rfl (fun q27 => ?_) (fun w_ => absurd w_ (by decide))
  refine x_iload_n d_N_make_39 rfl rfl ?_
  refine x_iconst (v := (nI 3)) d_N_make_40 (by decide) ?_
  refine x_icmp_ne (tgt := 54) d_N_make_41 rfl (fun q41 => ?_) (fun w_ => absurd w_ (by decide))
  refine x_iload_n d_N_make_54 rfl rfl ?_
  refine x_iconst (v := (nI 4)) d_N_make_55 (by decide) ?_
  refine x_icmp_ne (tgt := 66) d_N_make_56 rfl (fun q56 => ?_) (fun w_ => absurd w_ (by decide))
  refine x_iload_n d_N_make_66 rfl rfl ?_
  refine x_iconst (v := (nI 5)) d_N_make_67 (by decide) ?_
  refine x_icmp_ge (tgt := 73) d_N_make_68 rfl (fun q68 => ?_) (fun w_ => absurd (by decide) w_)
  refine x_iload_n d_N_make_73 rfl rfl ?_
  refine x_iload d_N_make_74 rfl ?_
  refine x_iadd (v := (nI (21 * p + b))) d_N_make_76 (nI_add _ _) ?_
  refine x_istore d_N_make_77 (by decide) (L' := [some (.ref r), some (.int (nI (21 * p + a))), some (.int (nI 8)), some (.int (nI (21 * p))), some (.int (nI b)), some (.int (nI c)), some (.int (nI (21 * p + b))), none, none]) rfl ?_
  refine x_iload_n d_N_make_79 rfl rfl ?_
  refine x_iload d_N_make_80 rfl ?_
  refine x_iadd (v := (nI (21 * p + c))) d_N_make_82 (nI_add _ _) ?_
  refine x_istore d_N_make_83 (by decide) (L' := [some (.ref r), some (.int (nI (21 * p + a))), some (.int (nI 8)), some (.int (nI (21 * p))), some (.int (nI b)), some (.int (nI c)), some (.int (nI (21 * p + b))), some (.int (nI (21 * p + c))), none]) rfl ?_
  refine x_iload_n d_N_make_85 rfl rfl ?_
  refine x_bipush (v := (nI 7)) d_N_make_86 (by decide) ?_
  refine x_icmp_ge (tgt := 171) d_N_make_88 rfl (fun q88 => ?_) (fun w_ => absurd (by decide) w_)
  refine x_iload_n d_N_make_171 rfl rfl ?_
  refine x_bipush (v := (nI 9)) d_N_make_172 (by decide) ?_
  refine x_icmp_ge (tgt := 255) d_N_make_174 rfl (fun w_ => absurd w_ (by decide)) (fun q174 => ?_)
  refine x_aload_n d_N_make_177 rfl rfl ?_
  refine x_iload d_N_make_178 rfl ?_
  refine x_invv d_N_make_180 lm_N_77 (as := [.int (nI (21 * p + b))]) (S := []) (cz' := 0) (cs' := 0) (c_N_weight nl (by omega)) nl.o rfl rfl rfl (Nat.le_of_ble_eq_true rfl) (by omega) (by decide) (by decide) ?_
  rintro _ _ ⟨rfl, rfl⟩
  rw [sb.1]
  refine x_iconst (v := (nI 1)) d_N_make_183 (by decide) ?_
  refine x_icmp_ne (tgt := 189) d_N_make_184 rfl (fun w_ => absurd rfl w_) (fun q184 => ?_)
  refine x_iconst (v := (nI 0)) d_N_make_187 (by decide) ?_
  exact x_iret d_N_make_188 rfl rfl ⟨rfl, A, rfl, y⟩
theorem n_make8y {E : th_E} {h : th_H} {r : Nat} {A : Nat → Nat → Int32} (nl : NL r h) {N u : Nat} {σ : Ho} (y : NR A σ u) (v : vPs N σ) {p : Nat} (hp : p < oCt σ) {a b : Nat} (ha : a < 8) (hb : b < 8) (c : Nat) {k : Nat} {l r2 : Tm} (ht : (pRg (oPr σ p) b) = (.branch k l r2)) : Xc E m_N_make 2 0 0 [.ref r, .int (nI (21 * p + a)), .int (nI 8), .int (nI (21 * p)), .int (nI b), .int (nI c)] (ov r h A) (Pn r h σ u p (some (sPr σ p (sRg (oPr σ p) a r2)))) := by
  refine Xc.of (by decide) (by simp [Value.category]) (Nat.le_of_ble_eq_true rfl) ?_
  show Xw E m_N_make 2 0 0 0 [some (.ref r), some (.int (nI (21 * p + a))), some (.int (nI 8)), some (.int (nI (21 * p))), some (.int (nI b)), some (.int (nI c)), none, none, none] [] (ov r h A) _
  have yp := y.2.2.2 p hp
  have hp12 := Nat.lt_of_lt_of_le hp v.1
  have vp := (v.2.2 p hp).L
  have sb := yp.rg b hb
  have hlb := vp.1 b
  have hok := ((v.2.2 p hp).1 b).1
  rw [ht] at sb hlb hok
  have hbl := brl (k := k) (l := l) (r2 := r2)
  have hl0 := tF_pos l
  have hr0 := tF_pos r2
  refine x_iload_n d_N_make_0 rfl rfl ?_
  refine x_if_ne (tgt := 12) d_N_make_1 rfl (fun q1 => ?_) (fun w_ => absurd w_ (by decide))
  refine x_iload_n d_N_make_12 rfl rfl ?_
  refine x_iconst (v := (nI 1)) d_N_make_13 (by decide) ?_
  refine x_icmp_ne (tgt := 25) d_N_make_14 rfl (fun q14 => ?_) (fun w_ => absurd w_ (by decide))
  refine x_iload_n d_N_make_25 rfl rfl ?_
  refine x_iconst (v := (nI 2)) d_N_make_26 (by decide) ?_
  refine x_icmp_ne (tgt := 39) d_N_make_27 rfl (fun q27 => ?_) (fun w_ => absurd w_ (by decide))
  refine x_iload_n d_N_make_39 rfl rfl ?_
  refine x_iconst (v := (nI 3)) d_N_make_40 (by decide) ?_
  refine x_icmp_ne (tgt := 54) d_N_make_41 rfl (fun q41 => ?_) (fun w_ => absurd w_ (by decide))
  refine x_iload_n d_N_make_54 rfl rfl ?_
  refine x_iconst (v := (nI 4)) d_N_make_55 (by decide) ?_
  refine x_icmp_ne (tgt := 66) d_N_make_56 rfl (fun q56 => ?_) (fun w_ => absurd w_ (by decide))
  refine x_iload_n d_N_make_66 rfl rfl ?_
  refine x_iconst (v := (nI 5)) d_N_make_67 (by decide) ?_
  refine x_icmp_ge (tgt := 73) d_N_make_68 rfl (fun q68 => ?_) (fun w_ => absurd (by decide) w_)
  refine x_iload_n d_N_make_73 rfl rfl ?_
  refine x_iload d_N_make_74 rfl ?_
  refine x_iadd (v := (nI (21 * p + b))) d_N_make_76 (nI_add _ _) ?_
  refine x_istore d_N_make_77 (by decide) (L' := [some (.ref r), some (.int (nI (21 * p + a))), some (.int (nI 8)), some (.int (nI (21 * p))), some (.int (nI b)), some (.int (nI c)), some (.int (nI (21 * p + b))), none, none]) rfl ?_
  refine x_iload_n d_N_make_79 rfl rfl ?_
  refine x_iload d_N_make_80 rfl ?_
  refine x_iadd (v := (nI (21 * p + c))) d_N_make_82 (nI_add _ _) ?_
  refine x_istore d_N_make_83 (by decide) (L' := [some (.ref r), some (.int (nI (21 * p + a))), some (.int (nI 8)), some (.int (nI (21 * p))), some (.int (nI b)), some (.int (nI c)), some (.int (nI (21 * p + b))), some (.int (nI (21 * p + c))), none]) rfl ?_
  refine x_iload_n d_N_make_85 rfl rfl ?_
  refine x_bipush (v := (nI 7)) d_N_make_86 (by decide) ?_
  refine x_icmp_ge (tgt := 171) d_N_make_88 rfl (fun q88 => ?_) (fun w_ => absurd (by decide) w_)
  refine x_iload_n d_N_make_171 rfl rfl ?_
  refine x_bipush (v := (nI 9)) d_N_make_172 (by decide) ?_
  refine x_icmp_ge (tgt := 255) d_N_make_174 rfl (fun w_ => absurd w_ (by decide)) (fun q174 => ?_)
  refine x_aload_n d_N_make_177 rfl rfl ?_
  refine x_iload d_N_make_178 rfl ?_
  refine x_invv d_N_make_180 lm_N_77 (as := [.int (nI (21 * p + b))]) (S := []) (cz' := 0) (cs' := 0) (c_N_weight nl (by omega)) nl.o rfl rfl rfl (Nat.le_of_ble_eq_true rfl) (by omega) (by decide) (by decide) ?_
  rintro _ _ ⟨rfl, rfl⟩
  rw [sb.1]
  refine x_iconst (v := (nI 1)) d_N_make_183 (by decide) ?_
  refine x_icmp_ne (tgt := 189) d_N_make_184 rfl (fun q184 => ?_) (fun w_ => absurd w_ (fun z => by have := (nI_eq (b := 1) (by omega) (by decide)).mp z; omega))
  refine x_aload_n d_N_make_189 rfl rfl ?_
  refine x_iload d_N_make_190 rfl ?_
  refine x_iconst (v := (nI 1)) d_N_make_192 (by decide) ?_
  refine x_invv d_N_make_193 lm_N_140 (as := [.int (nI (21 * p + b)), .int (nI 1)]) (S := []) (cz' := 0) (cs' := 0) (c_N_behind (p := 1) (x := l) (post := tF r2) nl (by omega) sb hok.2.1 rfl (by omega)) nl.o rfl rfl rfl (Nat.le_of_ble_eq_true rfl) (by omega) (by decide) (by decide) ?_
  rintro _ _ ⟨rfl, rfl⟩
  refine x_istore d_N_make_196 (by decide) (L' := [some (.ref r), some (.int (nI (21 * p + a))), some (.int (nI 8)), some (.int (nI (21 * p))), some (.int (nI b)), some (.int (nI c)), some (.int (nI (21 * p + b))), some (.int (nI (21 * p + c))), some (.int (nI (1 + (tF l).length)))]) rfl ?_
  refine x_aload_n d_N_make_198 rfl rfl ?_
  refine n_fld (j := 5) d_N_make_199 lf_N_22 nl (by decide) rfl rfl ?_
  refine x_sipush (v := (nI 8064)) d_N_make_202 (by decide) ?_
  refine x_iconst (v := (nI 0)) d_N_make_205 (by decide) ?_
  refine n_st (j := 5) (i := 8064) (n := 8128) (v := (nI 0)) d_N_make_206 nl (by decide) (by decide) rfl rfl (by decide) (by decide) ?_
  have f1 : Tb 252 A (up A 5 8064 (nI 0)) := Tb.up (by decide) (by decide)
  have g1 : SL (up A 5 8064 (nI 0)) 252 [] := ⟨up_s, fun i q hq => by cases hq⟩
  generalize (up A 5 8064 (nI 0)) = B1 at f1 g1 ⊢
  have sb1 := sb.tb hlb f1 (by omega)
  refine x_aload_n d_N_make_207 rfl rfl ?_
  refine x_sipush (v := (nI 252)) d_N_make_208 (by decide) ?_
  refine x_iload d_N_make_211 rfl ?_
  refine x_iload_n d_N_make_213 rfl rfl ?_
  refine x_bipush (v := (nI 7)) d_N_make_214 (by decide) ?_
  refine x_icmp_ne (tgt := 223) d_N_make_216 rfl (fun q216 => ?_) (fun w_ => absurd w_ (by decide))
  refine x_iload d_N_make_223 rfl ?_
  refine x_iload_n d_N_make_225 rfl rfl ?_
  refine x_bipush (v := (nI 7)) d_N_make_226 (by decide) ?_
  refine x_icmp_ne (tgt := 236) d_N_make_228 rfl (fun q228 => ?_) (fun w_ => absurd w_ (by decide))
  refine x_aload_n d_N_make_236 rfl rfl ?_
  refine x_iload d_N_make_237 rfl ?_
  refine x_invv d_N_make_239 lm_N_77 (as := [.int (nI (21 * p + b))]) (S := [.int (nI (1 + (tF l).length)), .int (nI (21 * p + b)), .int (nI 252), .ref r]) (cz' := 0) (cs' := 0) (c_N_weight nl (by omega)) nl.o rfl rfl rfl (Nat.le_of_ble_eq_true rfl) (by omega) (by decide) (by decide) ?_
  rintro _ _ ⟨rfl, rfl⟩
  rw [sb1.1]
  refine x_invv d_N_make_242 lm_N_118 (as := [.int (nI 252), .int (nI (21 * p + b)), .int (nI (1 + (tF l).length)), .int (nI ((tF (.branch k l r2)).length))]) (S := []) (cz' := 0) (cs' := 0) (c_N_addParts (s := 252) (o := 21 * p + b) (f := (1 + (tF l).length)) (e := (tF (.branch k l r2)).length) (w := 0) nl (by decide) (by omega) (by omega) (by omega) (by omega) g1.1 (by omega)) nl.o rfl rfl rfl (Nat.le_of_ble_eq_true rfl) (by omega) (by decide) (by decide) ?_
  rintro _ _ ⟨rfl, rfl⟩
  have f2 := f1.tr (Tb.ap (A := B1) (s := 252) (o := 21 * p + b) (f := (1 + (tF l).length)) (w := 0) (c := (tF (.branch k l r2)).length - (1 + (tF l).length)) (by omega))
  have g2 : SL (apA B1 252 (21 * p + b) (1 + (tF l).length) 0 ((tF (.branch k l r2)).length - (1 + (tF l).length))) 252 (tF r2) := by have z := g1.ap (w := 0) rfl sb1 (show (1 + (tF l).length) ≤ (tF (.branch k l r2)).length by omega) (by omega); rw [List.nil_append, part2] at z; exact z
  generalize (apA B1 252 (21 * p + b) (1 + (tF l).length) 0 ((tF (.branch k l r2)).length - (1 + (tF l).length))) = B2 at f2 g2 ⊢
  have y2 := y.tw v.L (by decide) f2
  refine x_aload_n d_N_make_245 rfl rfl ?_
  refine x_sipush (v := (nI 252)) d_N_make_246 (by decide) ?_
  refine x_iload_n d_N_make_249 rfl rfl ?_
  refine x_invv d_N_make_250 lm_N_107 (as := [.int (nI 252), .int (nI (21 * p + a))]) (S := []) (cz' := 0) (cs' := 0) (c_N_copy nl (by omega) (by omega) g2.1 (by omega)) nl.o rfl rfl rfl (Nat.le_of_ble_eq_true rfl) (by omega) (by decide) (by decide) ?_
  rintro _ _ ⟨rfl, rfl⟩
  have e1 : Tb (21 * p + a) B2 (cpA B2 252 (21 * p + a) (2 * (tF r2).length + 1)) := Tb.cp (by omega)
  have q1 : SL (cpA B2 252 (21 * p + a) (2 * (tF r2).length + 1)) (21 * p + a) (tF r2) := g2.cp rfl
  generalize cpA B2 252 (21 * p + a) (2 * (tF r2).length + 1) = A1 at e1 q1 ⊢
  refine x_iconst (v := (nI 1)) d_N_make_253 (by decide) ?_
  exact x_iret d_N_make_254 rfl rfl ⟨rfl, A1, rfl, u, y2.setP v.L ((Chp.rf p B2).tb (k := a) (by omega) e1) ((y2.2.2.2 p hp).s_rg vp ha e1 q1), HdX.setP rfl⟩
