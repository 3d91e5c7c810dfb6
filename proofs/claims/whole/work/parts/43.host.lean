/-! TurnHost's methods (printed by wip/gen/mod_host.py). -/
/-- what add asks for -/
def addOk (lim : Nat → Int32) (σ : Ho) (op a b c : Int32) : Prop := (oCd σ).length < 48 ∧ ¬ op < 0 ∧ op < 27 ∧ fitP (lim (3 * cl op)) a ∧ fitP (lim (3 * cl op + 1)) b ∧ fitP (lim (3 * cl op + 2)) c
def addM (σ : Ho) (op a b c : Int32) : Ho := sCd σ (oCd σ ++ [(cl op, a, b, c)])
theorem c_H_add_no {E : th_E} {h : th_H} {o : Nat} {σ : Ho} (z : CR o σ h) {tl : Nat} {lim : Nat → Int32} (hcd : (oCd σ).length ≤ 48) (hE : E.2.2.2.2 0 = .ref tl) (k3 : gk h tl = some (.inr (0, 81))) (fl : ∀ i, i < 81 → gA h 0 tl i = .int (lim i)) (op a b c : Int32) (hn : ¬ addOk lim σ op a b c) : Xc E m_H_add 2 0 0 [.ref o, .int op, .int a, .int b, .int c] h (Ex (some (.int (-1))) h) := by
  have bad : 48 ≤ (oCd σ).length ∨ op < 0 ∨ 27 ≤ op ∨ ∃ o : Nat, o < 27 ∧ op = nI o ∧ ¬ (fitP (lim (3 * o)) a ∧ fitP (lim (3 * o + 1)) b ∧ fitP (lim (3 * o + 2)) c) := by
    by_cases b1 : 48 ≤ (oCd σ).length
    · exact Or.inl b1
    by_cases b2 : op < 0
    · exact Or.inr (Or.inl b2)
    by_cases b3 : 27 ≤ op
    · exact Or.inr (Or.inr (Or.inl b3))
    obtain ⟨j, hj, rfl⟩ := nI_of b2
    have hj27 : j < 27 := Nat.lt_of_not_le (fun e => b3 (nI_le (a := 27) e hj))
    refine Or.inr (Or.inr (Or.inr ⟨j, hj27, rfl, fun e => hn ?_⟩))
    refine ⟨by omega, b2, nI_lt (b := 27) hj27 (by decide), ?_⟩
    rw [cl_nI hj]
    exact e
  refine Xc.of (by decide) (by simp [Value.category]) (Nat.le_of_ble_eq_true rfl) ?_
  show Xw E m_H_add 2 0 0 0 [some (.ref o), some (.int op), some (.int a), some (.int b), some (.int c)] [] h _
  refine x_aload_n d_H_add_0 rfl rfl ?_
  refine x_getf (v := .ref (o + 2)) d_H_add_1 lf_H_24 z.1.1.kO z.1.1.H2 ?_
  refine x_iload_n d_H_add_4 rfl rfl ?_
  refine x_iload_n d_H_add_5 rfl rfl ?_
  refine x_iload_n d_H_add_6 rfl rfl ?_
  refine x_iload d_H_add_7 rfl ?_
  refine x_invv d_H_add_9 lm_H_33 (as := [.int op, .int a, .int b, .int c]) (S := []) (c_G_append_no (ga := o + 3) (lim := lim) z.1.1.kG z.1.1.kGa z.1.1.G0 z.2.2.1.1 hcd hE k3 fl op a b c bad) z.1.1.kG rfl rfl rfl (Nat.le_of_ble_eq_true rfl) (by decide) (Nat.le_refl 0) (Nat.le_refl 0) ?_
  rintro _ _ ⟨rfl, rfl⟩
  exact x_iret d_H_add_12 rfl rfl ⟨rfl, rfl⟩
theorem c_H_add {E : th_E} {h : th_H} {o : Nat} {σ : Ho} (z : CR o σ h) {tl : Nat} {lim : Nat → Int32} (hcd : (oCd σ).length ≤ 48) (hc : oCt σ ≤ 12) (hE : E.2.2.2.2 0 = .ref tl) (k3 : gk h tl = some (.inr (0, 81))) (fl : ∀ i, i < 81 → gA h 0 tl i = .int (lim i)) (op a b c : Int32) (hy : addOk lim σ op a b c) : Xc E m_H_add 2 0 0 [.ref o, .int op, .int a, .int b, .int c] h (Mv o h (some (.int (nI (oCd σ).length))) (addM σ op a b c)) := by
  obtain ⟨j, hj, rfl⟩ := nI_of hy.2.1
  have hj27 : j < 27 := (nI_ltI (b := 27) hj (by decide)).mp hy.2.2.1
  have hf := hy.2.2.2
  rw [cl_nI hj] at hf
  refine Xc.of (by decide) (by simp [Value.category]) (Nat.le_of_ble_eq_true rfl) ?_
  show Xw E m_H_add 2 0 0 0 [some (.ref o), some (.int (nI j)), some (.int a), some (.int b), some (.int c)] [] h _
  refine Xw.wf (fun wf => ?_)
  have chg : Chg o h (gpF (gpA (gpA (gpA (gpA h 1 (o + 3) (4 * (oCd σ).length) (.int (nI j))) 1 (o + 3) (4 * (oCd σ).length + 1) (.int a)) 1 (o + 3) (4 * (oCd σ).length + 2) (.int b)) 1 (o + 3) (4 * (oCd σ).length + 3) (.int c)) 5 1 (o + 2) (.int (nI ((oCd σ).length + 1)))) := (((((Chg.rf o h).pA ⟨by omega, by omega, by omega⟩ (Or.inl rfl)).pA ⟨by omega, by omega, by omega⟩ (Or.inl rfl)).pA ⟨by omega, by omega, by omega⟩ (Or.inl rfl)).pA ⟨by omega, by omega, by omega⟩ (Or.inl rfl)).pF ⟨by omega, by omega⟩ rfl
  have sm : ∀ y, y < 12 → Same o y h (gpF (gpA (gpA (gpA (gpA h 1 (o + 3) (4 * (oCd σ).length) (.int (nI j))) 1 (o + 3) (4 * (oCd σ).length + 1) (.int a)) 1 (o + 3) (4 * (oCd σ).length + 2) (.int b)) 1 (o + 3) (4 * (oCd σ).length + 3) (.int c)) 5 1 (o + 2) (.int (nI ((oCd σ).length + 1)))) := fun y hy => (((((Same.rf o y h).pA ⟨by omega, by omega⟩).pA ⟨by omega, by omega⟩).pA ⟨by omega, by omega⟩).pA ⟨by omega, by omega⟩).pF ⟨by omega, by omega⟩
  have fin : CR o (addM σ (nI j) a b c) (gpF (gpA (gpA (gpA (gpA h 1 (o + 3) (4 * (oCd σ).length) (.int (nI j))) 1 (o + 3) (4 * (oCd σ).length + 1) (.int a)) 1 (o + 3) (4 * (oCd σ).length + 2) (.int b)) 1 (o + 3) (4 * (oCd σ).length + 3) (.int c)) 5 1 (o + 2) (.int (nI ((oCd σ).length + 1)))) := by
    refine CR.to z wf chg (by simp only [gF_pF, gF_pA]; rw [if_neg (by omega)]; exact z.2.1.1) (by simp only [gF_pF, gF_pA]; rw [if_neg (by omega)]; exact z.2.1.2) ⟨?_, fun i q hq => ?_⟩ ⟨by simp only [gF_pF, gF_pA]; rw [if_neg (by omega)]; exact z.2.2.2.1.1, fun i y hy => ?_⟩ (by simp only [gF_pF, gF_pA]; rw [if_neg (by omega)]; exact z.2.2.2.2.1) (fun q hq => (z.2.2.2.2.2 q hq).same (chg.te wf) (sm q (by have : q < oCt σ := hq; omega)))
    · rw [gF_pF, if_pos ⟨rfl, rfl, rfl⟩]
      show _ = Value.int (nI (oCd σ ++ [(cl (nI j), a, b, c)]).length)
      rw [List.length_append]; rfl
    · have hq : (oCd σ ++ [(cl (nI j), a, b, c)])[i]? = some q := hq
      simp only [gA_pF, gA_pA]
      by_cases hi : i = (oCd σ).length
      · rw [hi, List.getElem?_append_right (Nat.le_refl _), Nat.sub_self] at hq
        cases hq
        rw [cl_nI hj]
        subst hi
        refine ⟨?_, ?_, ?_, ?_⟩
        · rw [if_neg (by omega), if_neg (by omega), if_neg (by omega), if_pos (by simp)]
        · rw [if_neg (by omega), if_neg (by omega), if_pos (by simp)]
        · rw [if_neg (by omega), if_pos (by simp)]
        · rw [if_pos (by simp)]
      · have hl := (List.getElem?_eq_some_iff.mp hq).1
        simp only [List.length_append, List.length_cons, List.length_nil] at hl
        rw [List.getElem?_append_left (by omega)] at hq
        have := z.2.2.1.2 i q hq
        refine ⟨?_, ?_, ?_, ?_⟩
        · rw [if_neg (by omega), if_neg (by omega), if_neg (by omega), if_neg (by omega)]; exact this.1
        · rw [if_neg (by omega), if_neg (by omega), if_neg (by omega), if_neg (by omega)]; exact this.2.1
        · rw [if_neg (by omega), if_neg (by omega), if_neg (by omega), if_neg (by omega)]; exact this.2.2.1
        · rw [if_neg (by omega), if_neg (by omega), if_neg (by omega), if_neg (by omega)]; exact this.2.2.2
    · simp only [gA_pF, gA_pA]
      rw [if_neg (by omega), if_neg (by omega), if_neg (by omega), if_neg (by omega)]; exact z.2.2.2.1.2 i y hy
  refine x_aload_n d_H_add_0 rfl rfl ?_
  refine x_getf (v := .ref (o + 2)) d_H_add_1 lf_H_24 z.1.1.kO z.1.1.H2 ?_
  refine x_iload_n d_H_add_4 rfl rfl ?_
  refine x_iload_n d_H_add_5 rfl rfl ?_
  refine x_iload_n d_H_add_6 rfl rfl ?_
  refine x_iload d_H_add_7 rfl ?_
  refine x_invv d_H_add_9 lm_H_33 (as := [.int (nI j), .int a, .int b, .int c]) (S := []) (c_G_append (ga := o + 3) (lim := lim) z.1.1.kG z.1.1.kGa z.1.1.G0 z.2.2.1.1 hcd hE k3 fl j hj27 a b c hy.1 hf.1 hf.2.1 hf.2.2) z.1.1.kG rfl rfl rfl (Nat.le_of_ble_eq_true rfl) (by decide) (Nat.le_refl 0) (Nat.le_refl 0) ?_
  rintro _ _ ⟨rfl, rfl⟩
  exact x_iret d_H_add_12 rfl rfl ⟨rfl, fin, chg⟩
theorem c_H_begin_neg {E : th_E} {h : th_H} {o : Nat} (l n : Int32) (hl : l < 0) : Xc E m_H_begin 3 1 5 [.ref o, .int l, .int n] h (Ex (some (.int (-1))) h) := by
  refine Xc.of (by decide) (by simp [Value.category]) (Nat.le_of_ble_eq_true rfl) ?_
  show Xw E m_H_begin 3 1 5 0 [some (.ref o), some (.int l), some (.int n), none] [] h _
  refine x_iload_n d_H_begin_0 rfl rfl ?_
  refine x_if_lt (tgt := 10) d_H_begin_1 rfl (fun q1 => ?_) (fun w_ => absurd hl w_)
  refine x_iconst (v := (-1)) d_H_begin_10 (by decide) ?_
  exact x_iret d_H_begin_11 rfl rfl ⟨rfl, rfl⟩
theorem c_H_begin_big {E : th_E} {h : th_H} {o : Nat} (l n : Int32) (h0 : ¬ l < 0) (hl : 48 ≤ l) : Xc E m_H_begin 3 1 5 [.ref o, .int l, .int n] h (Ex (some (.int (-1))) h) := by
  refine Xc.of (by decide) (by simp [Value.category]) (Nat.le_of_ble_eq_true rfl) ?_
  show Xw E m_H_begin 3 1 5 0 [some (.ref o), some (.int l), some (.int n), none] [] h _
  refine x_iload_n d_H_begin_0 rfl rfl ?_
  refine x_if_lt (tgt := 10) d_H_begin_1 rfl (fun w_ => absurd w_ h0) (fun q1 => ?_)
  refine x_iload_n d_H_begin_4 rfl rfl ?_
  refine x_bipush (v := 48) d_H_begin_5 (by decide) ?_
  refine x_icmp_lt (tgt := 12) d_H_begin_7 rfl (fun w_ => absurd w_ (i32_nle hl)) (fun q7 => ?_)
  refine x_iconst (v := (-1)) d_H_begin_10 (by decide) ?_
  exact x_iret d_H_begin_11 rfl rfl ⟨rfl, rfl⟩
theorem c_H_begin_full {E : th_E} {h : th_H} {o : Nat} {σ : Ho} (z : CR o σ h) (hc : oCt σ ≤ 12) {l : Nat} (n : Int32) (hl : l < 48) (hf : 12 ≤ oCt σ) : Xc E m_H_begin 3 1 5 [.ref o, .int (nI l), .int n] h (Mv o h (some (.int (-1))) σ) := by
  refine Xc.of (by decide) (by simp [Value.category]) (Nat.le_of_ble_eq_true rfl) ?_
  show Xw E m_H_begin 3 1 5 0 [some (.ref o), some (.int (nI l)), some (.int n), none] [] h _
  refine Xw.wf (fun wf => ?_)
  have z1 : CR o σ (gnT h 0 n .null .null (nI 1)) := z.new hc wf (New.rf h).nT
  refine x_iload_n d_H_begin_0 rfl rfl ?_
  refine x_if_lt (tgt := 10) d_H_begin_1 rfl (fun w_ => absurd w_ (nI_pos (by omega))) (fun q1 => ?_)
  refine x_iload_n d_H_begin_4 rfl rfl ?_
  refine x_bipush (v := 48) d_H_begin_5 (by decide) ?_
  refine x_icmp_lt (tgt := 12) d_H_begin_7 rfl (fun q7 => ?_) (fun w_ => absurd (nI_lt (b := 48) hl (by decide)) w_)
  refine x_aload_n d_H_begin_12 rfl rfl ?_
  refine x_getf (v := .ref (o + 4)) d_H_begin_13 lf_H_29 z.1.1.kO z.1.1.H3 ?_
  refine x_iload_n d_H_begin_16 rfl rfl ?_
  refine x_new d_H_begin_17 ln_H_39 (cz' := 0) (by decide) (cs' := 0) (by decide) ?_
  refine x_dup d_H_begin_20 rfl ?_
  refine x_iconst (v := 0) d_H_begin_21 (by decide) ?_
  refine x_iload_n d_H_begin_22 rfl rfl ?_
  refine x_invi d_H_begin_23 lm_H_41 (as := [.int 0, .int n]) (S := [.ref (gz h), .int (nI l), .ref (o + 4)]) (cz' := 0) (cs' := 0) (c_T_init (a := gz h) 0 n (by rw [gk_nO, if_pos rfl])) rfl rfl (Nat.le_of_ble_eq_true rfl) (by decide) (by omega) (by omega) ?_
  rintro _ _ ⟨rfl, rfl⟩
  refine x_invv d_H_begin_26 lm_H_44 (as := [.int (nI l), .ref (gz h)]) (S := []) (cz' := 0) (cs' := 0) (c_S_start_no z1 hc hf) z1.1.1.kS rfl rfl rfl (Nat.le_of_ble_eq_true rfl) (by decide) (by omega) (by omega) ?_
  rintro _ _ ⟨rfl, rfl⟩
  refine x_astore_nN d_H_begin_29 rfl (by decide) (L' := [some (.ref o), some (.int (nI l)), some (.int n), some (.null)]) rfl ?_
  refine x_aload_nN d_H_begin_30 rfl rfl ?_
  refine x_ifnonnullN d_H_begin_31 ?_
  refine x_iconst (v := (-1)) d_H_begin_34 (by decide) ?_
  refine x_goto (tgt := 42) d_H_begin_35 rfl ?_
  exact x_iret d_H_begin_42 rfl rfl ⟨rfl, z1, (New.rf h).nT.chg o⟩
theorem c_H_begin {E : th_E} {h : th_H} {o : Nat} {σ : Ho} (z : CR o σ h) {N l : Nat} (v : vPs N σ) (n : Int32) (hl : l < 48) (hf : oCt σ < 12) : Xc E m_H_begin 3 1 5 [.ref o, .int (nI l), .int n] h (Mv o h (some (.int (nI (oCt σ)))) (startM σ l (.leaf (0, n)))) := by
  have hc := v.1
  refine Xc.of (by decide) (by simp [Value.category]) (Nat.le_of_ble_eq_true rfl) ?_
  show Xw E m_H_begin 3 1 5 0 [some (.ref o), some (.int (nI l)), some (.int n), none] [] h _
  refine Xw.wf (fun wf => ?_)
  have z1 : CR o σ (gnT h 0 n .null .null (nI 1)) := z.new hc wf (New.rf h).nT
  refine x_iload_n d_H_begin_0 rfl rfl ?_
  refine x_if_lt (tgt := 10) d_H_begin_1 rfl (fun w_ => absurd w_ (nI_pos (by omega))) (fun q1 => ?_)
  refine x_iload_n d_H_begin_4 rfl rfl ?_
  refine x_bipush (v := 48) d_H_begin_5 (by decide) ?_
  refine x_icmp_lt (tgt := 12) d_H_begin_7 rfl (fun q7 => ?_) (fun w_ => absurd (nI_lt (b := 48) hl (by decide)) w_)
  refine x_aload_n d_H_begin_12 rfl rfl ?_
  refine x_getf (v := .ref (o + 4)) d_H_begin_13 lf_H_29 z.1.1.kO z.1.1.H3 ?_
  refine x_iload_n d_H_begin_16 rfl rfl ?_
  refine x_new d_H_begin_17 ln_H_39 (cz' := 0) (by decide) (cs' := 0) (by decide) ?_
  refine x_dup d_H_begin_20 rfl ?_
  refine x_iconst (v := 0) d_H_begin_21 (by decide) ?_
  refine x_iload_n d_H_begin_22 rfl rfl ?_
  refine x_invi d_H_begin_23 lm_H_41 (as := [.int 0, .int n]) (S := [.ref (gz h), .int (nI l), .ref (o + 4)]) (cz' := 0) (cs' := 0) (c_T_init (a := gz h) 0 n (by rw [gk_nO, if_pos rfl])) rfl rfl (Nat.le_of_ble_eq_true rfl) (by decide) (by omega) (by omega) ?_
  rintro _ _ ⟨rfl, rfl⟩
  refine x_invv d_H_begin_26 lm_H_44 (as := [.int (nI l), .ref (gz h)]) (S := []) (cz' := 0) (cs' := 0) (c_S_start z1 hf (nodup_room v hf) (TR_leaf h 0 n)) z1.1.1.kS rfl rfl rfl (Nat.le_of_ble_eq_true rfl) (by decide) (by omega) (by omega) ?_
  rintro _ h2 ⟨rfl, z2, chg2⟩
  refine x_astore_n d_H_begin_29 rfl (by decide) (L' := [some (.ref o), some (.int (nI l)), some (.int n), some (.ref (o + 6 + 6 * oCt σ))]) rfl ?_
  refine x_aload_n d_H_begin_30 rfl rfl ?_
  refine x_ifnonnull (tgt := 38) d_H_begin_31 rfl ?_
  refine x_aload_n d_H_begin_38 rfl rfl ?_
  refine x_getf (v := .int (nI (oCt σ))) d_H_begin_39 lf_H_50 (z2.1.2 _ hf).k (z2.1.2 _ hf).n ?_
  exact x_iret d_H_begin_42 rfl rfl ⟨rfl, z2, ((New.rf h).nT.chg o).tr chg2⟩
theorem c_num_no {E : th_E} {h : th_H} {o : Nat} {σ : Ho} (z : CR o σ h) (hc : oCt σ ≤ 12) {k : Int32} (hk : k < 0 ∨ nI (oCt σ) ≤ k) : Xc E m_S_numbered 0 0 0 [.ref (o + 4), .int k] h (Ex (some .null) h) :=
  c_S_numbered z hc k .null ⟨fun _ => rfl, fun j hj e => by
    subst e
    rcases hk with a | a
    · exact absurd a (nI_pos (by omega))
    · exact absurd a (nI_ge hj (by omega))⟩
theorem c_num {E : th_E} {h : th_H} {o : Nat} {σ : Ho} (z : CR o σ h) (hc : oCt σ ≤ 12) {p : Nat} (hp : p < oCt σ) : Xc E m_S_numbered 0 0 0 [.ref (o + 4), .int (nI p)] h (Ex (some (.ref (o + 6 + 6 * p))) h) :=
  c_S_numbered z hc (nI p) _ ⟨fun a => by
    rcases a with a | a
    · exact absurd a (nI_pos (by omega))
    · exact absurd a (nI_ge hp (by omega)), fun j hj e => by rw [nI_inj (by omega) (by omega) e]⟩
theorem c_H_tell_no {E : th_E} {h : th_H} {o : Nat} {σ : Ho} (z : CR o σ h) (hc : oCt σ ≤ 12) (k n : Int32) (hk : k < 0 ∨ nI (oCt σ) ≤ k) : Xc E m_H_tell 3 1 5 [.ref o, .int k, .int n] h (Ex (some (.int 0)) h) := by
  refine Xc.of (by decide) (by simp [Value.category]) (Nat.le_of_ble_eq_true rfl) ?_
  show Xw E m_H_tell 3 1 5 0 [some (.ref o), some (.int k), some (.int n), none] [] h _
  refine x_aload_n d_H_tell_0 rfl rfl ?_
  refine x_getf (v := .ref (o + 4)) d_H_tell_1 lf_H_29 z.1.1.kO z.1.1.H3 ?_
  refine x_iload_n d_H_tell_4 rfl rfl ?_
  refine x_invv d_H_tell_5 lm_H_55 (as := [.int k]) (S := []) (cz' := 1) (cs' := 5) (c_num_no z hc hk) z.1.1.kS rfl rfl rfl (Nat.le_of_ble_eq_true rfl) (by decide) (by omega) (by omega) ?_
  rintro _ _ ⟨rfl, rfl⟩
  refine x_astore_nN d_H_tell_8 rfl (by decide) (L' := [some (.ref o), some (.int k), some (.int n), some (.null)]) rfl ?_
  refine x_aload_nN d_H_tell_9 rfl rfl ?_
  refine x_ifnullN (tgt := 21) d_H_tell_10 rfl ?_
  refine x_iconst (v := 0) d_H_tell_21 (by decide) ?_
  exact x_iret d_H_tell_22 rfl rfl ⟨rfl, rfl⟩
theorem c_H_tell_end {E : th_E} {h : th_H} {o : Nat} {σ : Ho} (z : CR o σ h) (hc : oCt σ ≤ 12) {p : Nat} (hp : p < oCt σ) (n : Int32) (h3 : pSt (oPr σ p) = 3) : Xc E m_H_tell 3 1 5 [.ref o, .int (nI p), .int n] h (Ex (some (.int 0)) h) := by
  have hp12 : p < 12 := by omega
  refine Xc.of (by decide) (by simp [Value.category]) (Nat.le_of_ble_eq_true rfl) ?_
  show Xw E m_H_tell 3 1 5 0 [some (.ref o), some (.int (nI p)), some (.int n), none] [] h _
  refine x_aload_n d_H_tell_0 rfl rfl ?_
  refine x_getf (v := .ref (o + 4)) d_H_tell_1 lf_H_29 z.1.1.kO z.1.1.H3 ?_
  refine x_iload_n d_H_tell_4 rfl rfl ?_
  refine x_invv d_H_tell_5 lm_H_55 (as := [.int (nI p)]) (S := []) (cz' := 1) (cs' := 5) (c_num z hc hp) z.1.1.kS rfl rfl rfl (Nat.le_of_ble_eq_true rfl) (by decide) (by omega) (by omega) ?_
  rintro _ _ ⟨rfl, rfl⟩
  refine x_astore_n d_H_tell_8 rfl (by decide) (L' := [some (.ref o), some (.int (nI p)), some (.int n), some (.ref (o + 6 + 6 * p))]) rfl ?_
  refine x_aload_n d_H_tell_9 rfl rfl ?_
  refine x_ifnull d_H_tell_10 ?_
  refine x_aload_n d_H_tell_13 rfl rfl ?_
  refine x_getf (v := .int (nI (pSt (oPr σ p)))) d_H_tell_14 lf_H_59 (z.1.2 p hp12).k (z.2.2.2.2.2 p hp).2.2.2.2.2.2.2.1 ?_
  refine x_iconst (v := (nI 3)) d_H_tell_17 (by decide) ?_
  refine x_icmp_ne (tgt := 23) d_H_tell_18 rfl (fun w_ => absurd (by rw [h3]) w_) (fun q18 => ?_)
  refine x_iconst (v := 0) d_H_tell_21 (by decide) ?_
  exact x_iret d_H_tell_22 rfl rfl ⟨rfl, rfl⟩
theorem c_H_tell {E : th_E} {h : th_H} {o : Nat} {σ : Ho} (z : CR o σ h) {N p : Nat} (v : vPs N σ) (hp : p < oCt σ) (n : Int32) (h3 : ¬ pSt (oPr σ p) = 3) : Xc E m_H_tell 3 1 5 [.ref o, .int (nI p), .int n] h (Mv o h (some (.int 1)) (deliverM σ p (.leaf (0, n)))) := by
  have hp12 : p < 12 := by have := v.1; omega
  have hc := v.1
  refine Xc.of (by decide) (by simp [Value.category]) (Nat.le_of_ble_eq_true rfl) ?_
  show Xw E m_H_tell 3 1 5 0 [some (.ref o), some (.int (nI p)), some (.int n), none] [] h _
  refine Xw.wf (fun wf => ?_)
  have z1 : CR o σ (gnT h 0 n .null .null (nI 1)) := z.new hc wf (New.rf h).nT
  refine x_aload_n d_H_tell_0 rfl rfl ?_
  refine x_getf (v := .ref (o + 4)) d_H_tell_1 lf_H_29 z.1.1.kO z.1.1.H3 ?_
  refine x_iload_n d_H_tell_4 rfl rfl ?_
  refine x_invv d_H_tell_5 lm_H_55 (as := [.int (nI p)]) (S := []) (cz' := 1) (cs' := 5) (c_num z hc hp) z.1.1.kS rfl rfl rfl (Nat.le_of_ble_eq_true rfl) (by decide) (by omega) (by omega) ?_
  rintro _ _ ⟨rfl, rfl⟩
  refine x_astore_n d_H_tell_8 rfl (by decide) (L' := [some (.ref o), some (.int (nI p)), some (.int n), some (.ref (o + 6 + 6 * p))]) rfl ?_
  refine x_aload_n d_H_tell_9 rfl rfl ?_
  refine x_ifnull d_H_tell_10 ?_
  refine x_aload_n d_H_tell_13 rfl rfl ?_
  refine x_getf (v := .int (nI (pSt (oPr σ p)))) d_H_tell_14 lf_H_59 (z.1.2 p hp12).k (z.2.2.2.2.2 p hp).2.2.2.2.2.2.2.1 ?_
  refine x_iconst (v := (nI 3)) d_H_tell_17 (by decide) ?_
  refine x_icmp_ne (tgt := 23) d_H_tell_18 rfl (fun q18 => ?_) (fun w_ => absurd w_ (fun e => h3 (nI_inj (by have := (v.2.2 p hp).2.2.2.2.2.1; omega) (by decide) e)))
  refine x_aload_n d_H_tell_23 rfl rfl ?_
  refine x_getf (v := .ref (o + 4)) d_H_tell_24 lf_H_29 z.1.1.kO z.1.1.H3 ?_
  refine x_aload_n d_H_tell_27 rfl rfl ?_
  refine x_new d_H_tell_28 ln_H_39 (cz' := 0) (by decide) (cs' := 0) (by decide) ?_
  refine x_dup d_H_tell_31 rfl ?_
  refine x_iconst (v := 0) d_H_tell_32 (by decide) ?_
  refine x_iload_n d_H_tell_33 rfl rfl ?_
  refine x_invi d_H_tell_34 lm_H_41 (as := [.int 0, .int n]) (S := [.ref (gz h), .ref (o + 6 + 6 * p), .ref (o + 4)]) (cz' := 0) (cs' := 0) (c_T_init (a := gz h) 0 n (by rw [gk_nO, if_pos rfl])) rfl rfl (Nat.le_of_ble_eq_true rfl) (by decide) (by omega) (by omega) ?_
  rintro _ _ ⟨rfl, rfl⟩
  refine x_invv d_H_tell_37 lm_H_62 (as := [.ref (o + 6 + 6 * p), .ref (gz h)]) (S := []) (cz' := 0) (cs' := 0) (c_S_deliver z1 v.1 hp (v.2.2 p hp).2.2.2.1.1 (by have := (v.2.2 p hp).2.2.2.2.2.1; omega) (fun e => v.room hp (by omega)) (TR_leaf h 0 n)) z1.1.1.kS rfl rfl rfl (Nat.le_of_ble_eq_true rfl) (by decide) (by omega) (by omega) ?_
  rintro _ h2 ⟨rfl, z2, chg2⟩
  refine x_iconst (v := 1) d_H_tell_40 (by decide) ?_
  exact x_iret d_H_tell_41 rfl rfl ⟨rfl, z2, ((New.rf h).nT.chg o).tr chg2⟩
theorem c_H_queue {E : th_E} {h : th_H} {o : Nat} {σ : Ho} (z : CR o σ h) (hql : (oQu σ).length ≤ 12) (k r : Int32) (hr : (k < 0 ∨ nI (oQu σ).length ≤ k → r = -1) ∧ ∀ j, j < (oQu σ).length → k = nI j → r = nI ((oQu σ).getD j 0)) : Xc E m_H_queue 1 0 0 [.ref o, .int k] h (Ex (some (.int r)) h) := by
  refine Xc.of (by decide) (by simp [Value.category]) (Nat.le_of_ble_eq_true rfl) ?_
  show Xw E m_H_queue 1 0 0 0 [some (.ref o), some (.int k)] [] h _
  refine x_aload_n d_H_queue_0 rfl rfl ?_
  refine x_getf (v := .ref (o + 4)) d_H_queue_1 lf_H_29 z.1.1.kO z.1.1.H3 ?_
  refine x_getf (v := .ref (o + 78)) d_H_queue_4 lf_H_66 z.1.1.kS z.1.1.S1 ?_
  refine x_iload_n d_H_queue_7 rfl rfl ?_
  refine x_invv d_H_queue_8 lm_H_70 (as := [.int k]) (S := []) (c_L_at (q := fun i => nI ((oQu σ).getD i 0)) z.1.1.kL z.1.1.kLa z.1.1.L0 z.2.2.2.1.1 hql (fun i hi => by rw [z.2.2.2.1.2 i _ (List.getElem?_eq_getElem hi)]; simp [hi]) k r hr) z.1.1.kL rfl rfl rfl (Nat.le_of_ble_eq_true rfl) (by decide) (Nat.le_refl 0) (Nat.le_refl 0) ?_
  rintro _ _ ⟨rfl, rfl⟩
  exact x_iret d_H_queue_11 rfl rfl ⟨rfl, rfl⟩
theorem c_H_processes {E : th_E} {h : th_H} {o : Nat} {σ : Ho} (z : CR o σ h) : Xc E m_H_processes 0 0 0 [.ref o] h (Ex (some (.int (nI (oCt σ)))) h) := by
  refine Xc.of (by decide) (by simp [Value.category]) (Nat.le_of_ble_eq_true rfl) ?_
  show Xw E m_H_processes 0 0 0 0 [some (.ref o)] [] h _
  refine x_aload_n d_H_processes_0 rfl rfl ?_
  refine x_getf (v := .ref (o + 4)) d_H_processes_1 lf_H_29 z.1.1.kO z.1.1.H3 ?_
  refine x_getf (v := .int (nI (oCt σ))) d_H_processes_4 lf_H_83 z.1.1.kS z.2.2.2.2.1 ?_
  exact x_iret d_H_processes_7 rfl rfl ⟨rfl, rfl⟩
theorem c_H_process_no {E : th_E} {h : th_H} {o : Nat} {σ : Ho} (z : CR o σ h) (hc : oCt σ ≤ 12) (k w : Int32) (hk : k < 0 ∨ nI (oCt σ) ≤ k) : Xc E m_H_process 1 0 0 [.ref o, .int k, .int w] h (Ex (some (.int (-1))) h) := by
  refine Xc.of (by decide) (by simp [Value.category]) (Nat.le_of_ble_eq_true rfl) ?_
  show Xw E m_H_process 1 0 0 0 [some (.ref o), some (.int k), some (.int w), none] [] h _
  refine x_aload_n d_H_process_0 rfl rfl ?_
  refine x_getf (v := .ref (o + 4)) d_H_process_1 lf_H_29 z.1.1.kO z.1.1.H3 ?_
  refine x_iload_n d_H_process_4 rfl rfl ?_
  refine x_invv d_H_process_5 lm_H_55 (as := [.int k]) (S := []) (cz' := 0) (cs' := 0) (c_num_no z hc hk) z.1.1.kS rfl rfl rfl (Nat.le_of_ble_eq_true rfl) (by decide) (by omega) (by omega) ?_
  rintro _ _ ⟨rfl, rfl⟩
  refine x_astore_nN d_H_process_8 rfl (by decide) (L' := [some (.ref o), some (.int k), some (.int w), some (.null)]) rfl ?_
  refine x_aload_nN d_H_process_9 rfl rfl ?_
  refine x_ifnonnullN d_H_process_10 ?_
  refine x_iconst (v := (-1)) d_H_process_13 (by decide) ?_
  refine x_goto (tgt := 22) d_H_process_14 rfl ?_
  exact x_iret d_H_process_22 rfl rfl ⟨rfl, rfl⟩
/-- what process tells -/
def ansM (P : Pr) (w : Int32) : Int32 := if w = 0 then nI (pSt P) else if w = 1 then nI (pPl P) else if w = 2 then nI (pMk P) else if w = 3 then nI (pMs P).length else if w = 4 then nI (pRe P).length else if w = 5 then pLk P else if w = 6 then (if pTr P then 1 else 0) else if w = 7 then pDn P else -1
theorem ans_ok (P : Pr) (w : Int32) : (w = 0 → ansM P w = nI (pSt P)) ∧ (w = 1 → ansM P w = nI (pPl P)) ∧ (w = 2 → ansM P w = nI (pMk P)) ∧ (w = 3 → ansM P w = nI (pMs P).length) ∧ (w = 4 → ansM P w = nI (pRe P).length) ∧ (w = 5 → ansM P w = pLk P) ∧ (w = 6 → ansM P w = (if pTr P then 1 else 0)) ∧ (w = 7 → ansM P w = pDn P) ∧ ((∀ j : Nat, j < 8 → ¬ w = nI j) → ansM P w = -1) := by
  refine ⟨fun e => by subst e; rfl, fun e => by subst e; rfl, fun e => by subst e; rfl, fun e => by subst e; rfl, fun e => by subst e; rfl, fun e => by subst e; rfl, fun e => by subst e; rfl, fun e => by subst e; rfl, fun e => ?_⟩
  unfold ansM
  rw [if_neg (show ¬ w = 0 from e 0 (by decide)), if_neg (show ¬ w = 1 from e 1 (by decide)), if_neg (show ¬ w = 2 from e 2 (by decide)), if_neg (show ¬ w = 3 from e 3 (by decide)), if_neg (show ¬ w = 4 from e 4 (by decide)), if_neg (show ¬ w = 5 from e 5 (by decide)), if_neg (show ¬ w = 6 from e 6 (by decide)), if_neg (show ¬ w = 7 from e 7 (by decide))]
theorem c_H_process {E : th_E} {h : th_H} {o : Nat} {σ : Ho} (z : CR o σ h) (hc : oCt σ ≤ 12) {p : Nat} (hp : p < oCt σ) (w : Int32) : Xc E m_H_process 1 0 0 [.ref o, .int (nI p), .int w] h (Ex (some (.int (ansM (oPr σ p) w))) h) := by
  have hp12 : p < 12 := by omega
  have zp := z.2.2.2.2.2 p hp
  refine Xc.of (by decide) (by simp [Value.category]) (Nat.le_of_ble_eq_true rfl) ?_
  show Xw E m_H_process 1 0 0 0 [some (.ref o), some (.int (nI p)), some (.int w), none] [] h _
  refine x_aload_n d_H_process_0 rfl rfl ?_
  refine x_getf (v := .ref (o + 4)) d_H_process_1 lf_H_29 z.1.1.kO z.1.1.H3 ?_
  refine x_iload_n d_H_process_4 rfl rfl ?_
  refine x_invv d_H_process_5 lm_H_55 (as := [.int (nI p)]) (S := []) (cz' := 0) (cs' := 0) (c_num z hc hp) z.1.1.kS rfl rfl rfl (Nat.le_of_ble_eq_true rfl) (by decide) (by omega) (by omega) ?_
  rintro _ _ ⟨rfl, rfl⟩
  refine x_astore_n d_H_process_8 rfl (by decide) (L' := [some (.ref o), some (.int (nI p)), some (.int w), some (.ref (o + 6 + 6 * p))]) rfl ?_
  refine x_aload_n d_H_process_9 rfl rfl ?_
  refine x_ifnonnull (tgt := 17) d_H_process_10 rfl ?_
  refine x_aload_n d_H_process_17 rfl rfl ?_
  refine x_iload_n d_H_process_18 rfl rfl ?_
  refine x_invv d_H_process_19 lm_H_92 (as := [.int w]) (S := []) (c_P_answer (z.1.2 p hp12).k (z.1.2 p hp12).kmb zp.2.2.2.2.2.2.2.1 zp.2.1 (z.1.2 p hp12).mb zp.2.2.2.2.1 zp.2.2.2.1.1 zp.2.2.1.1 zp.2.2.2.2.2.1 zp.2.2.2.2.2.2.1 zp.2.2.2.2.2.2.2.2.2 (by cases pTr (oPr σ p); exact Or.inl rfl; exact Or.inr rfl) w (ansM (oPr σ p) w) (ans_ok _ _)) (z.1.2 p hp12).k rfl rfl rfl (Nat.le_of_ble_eq_true rfl) (by decide) (Nat.le_refl 0) (Nat.le_refl 0) ?_
  rintro _ _ ⟨rfl, rfl⟩
  exact x_iret d_H_process_22 rfl rfl ⟨rfl, rfl⟩
theorem c_H_termOf_no {E : th_E} {h : th_H} {o : Nat} {σ : Ho} (z : CR o σ h) (hc : oCt σ ≤ 12) (k w : Int32) (hk : k < 0 ∨ nI (oCt σ) ≤ k) : Xc E m_H_termOf 2 0 0 [.ref o, .int k, .int w] h (Ex (some .null) h) := by
  refine Xc.of (by decide) (by simp [Value.category]) (Nat.le_of_ble_eq_true rfl) ?_
  show Xw E m_H_termOf 2 0 0 0 [some (.ref o), some (.int k), some (.int w), none] [] h _
  refine x_aload_n d_H_termOf_0 rfl rfl ?_
  refine x_getf (v := .ref (o + 4)) d_H_termOf_1 lf_H_29 z.1.1.kO z.1.1.H3 ?_
  refine x_iload_n d_H_termOf_4 rfl rfl ?_
  refine x_invv d_H_termOf_5 lm_H_55 (as := [.int k]) (S := []) (cz' := 0) (cs' := 0) (c_num_no z hc hk) z.1.1.kS rfl rfl rfl (Nat.le_of_ble_eq_true rfl) (by decide) (by omega) (by omega) ?_
  rintro _ _ ⟨rfl, rfl⟩
  refine x_astore_nN d_H_termOf_8 rfl (by decide) (L' := [some (.ref o), some (.int k), some (.int w), some (.null)]) rfl ?_
  refine x_aload_nN d_H_termOf_9 rfl rfl ?_
  refine x_ifnonnullN d_H_termOf_10 ?_
  refine x_null d_H_termOf_13 ?_
  refine x_goto (tgt := 22) d_H_termOf_14 rfl ?_
  exact x_aret d_H_termOf_22 rfl (Or.inl ⟨_, rfl⟩) (Or.inl rfl) ⟨rfl, rfl⟩
/-- the term at a place -/
def termM (P : Pr) (w : Int32) : Option Tm := if w < 0 then none else if w < 8 then some (pRg P (cl w)) else if w = 8 then pRs P else (pMs P)[cl w - 9]?
def tvM (h : th_H) (o p : Nat) (P : Pr) (w : Int32) : Value := if w < 0 then .null else if w < 8 then .ref (refOf (gA h 2 (o + 8 + 6 * p) (cl w))) else if w = 8 then gF h 2 10 (o + 6 + 6 * p) else if cl w - 9 < (pMs P).length then .ref (refOf (gA h 2 (o + 11 + 6 * p) (cl w - 9))) else .null
theorem tv_none {h : th_H} {o p : Nat} {P : Pr} {w : Int32} (zp : cPr o p P h) (e : termM P w = none) : tvM h o p P w = .null := by
  unfold termM at e
  unfold tvM
  by_cases h1 : w < 0
  · rw [if_pos h1]
  rw [if_neg h1] at e ⊢
  by_cases h2 : w < 8
  · rw [if_pos h2] at e; cases e
  rw [if_neg h2] at e ⊢
  by_cases h3 : w = 8
  · rw [if_pos h3] at e ⊢; exact zp.2.2.2.2.2.2.2.2.1.1 e
  rw [if_neg h3] at e ⊢
  rw [if_neg (by have := List.getElem?_eq_none_iff.mp e; omega)]
theorem tv_some {h : th_H} {o p : Nat} {P : Pr} {w : Int32} {t : Tm} (zp : cPr o p P h) (e : termM P w = some t) : ∃ a, tvM h o p P w = .ref a ∧ TR h t a := by
  unfold termM at e
  unfold tvM
  by_cases h1 : w < 0
  · rw [if_pos h1] at e; cases e
  rw [if_neg h1] at e ⊢
  by_cases h2 : w < 8
  · rw [if_pos h2] at e ⊢
    cases e
    obtain ⟨j, hj, rfl⟩ := nI_of h1
    have hj8 : j < 8 := (nI_ltI (b := 8) hj (by decide)).mp h2
    rw [cl_nI hj]
    exact ⟨_, rfl, (zp.rg hj8).2⟩
  rw [if_neg h2] at e ⊢
  by_cases h3 : w = 8
  · rw [if_pos h3] at e ⊢; exact zp.2.2.2.2.2.2.2.2.1.2 t e
  rw [if_neg h3] at e ⊢
  obtain ⟨a, q1, q2⟩ := zp.2.2.2.1.2 _ t e
  rw [if_pos (List.getElem?_eq_some_iff.mp e).1, q1]
  exact ⟨a, rfl, q2⟩
theorem c_H_termOf {E : th_E} {h : th_H} {o : Nat} {σ : Ho} (z : CR o σ h) (hc : oCt σ ≤ 12) {p : Nat} (hp : p < oCt σ) (hms : (pMs (oPr σ p)).length ≤ 12) (w : Int32) : Xc E m_H_termOf 2 0 0 [.ref o, .int (nI p), .int w] h (Ex (some (tvM h o p (oPr σ p) w)) h) := by
  have hp12 : p < 12 := by omega
  have zp := z.2.2.2.2.2 p hp
  have hrs : gF h 2 10 (o + 6 + 6 * p) = .null ∨ ∃ a, gF h 2 10 (o + 6 + 6 * p) = .ref a := by
    cases e : pRs (oPr σ p) with
    | none => exact Or.inl (zp.2.2.2.2.2.2.2.2.1.1 e)
    | some t => obtain ⟨a, q, -⟩ := zp.2.2.2.2.2.2.2.2.1.2 t e; exact Or.inr ⟨a, q⟩
  have hv : tvM h o p (oPr σ p) w = .null ∨ ∃ a, tvM h o p (oPr σ p) w = .ref a := by
    cases e : termM (oPr σ p) w with
    | none => exact Or.inl (tv_none zp e)
    | some t => obtain ⟨a, q, -⟩ := tv_some zp e; exact Or.inr ⟨a, q⟩
  have htv : (w < 0 → tvM h o p (oPr σ p) w = .null) ∧ (∀ j, j < 8 → w = nI j → tvM h o p (oPr σ p) w = .ref (refOf (gA h 2 (o + 8 + 6 * p) j))) ∧ (w = 8 → tvM h o p (oPr σ p) w = gF h 2 10 (o + 6 + 6 * p)) ∧ (∀ j, j < (refsOf h 2 (o + 11 + 6 * p) (pMs (oPr σ p)).length).length → w = nI (9 + j) → ∃ x, (refsOf h 2 (o + 11 + 6 * p) (pMs (oPr σ p)).length)[j]? = some x ∧ tvM h o p (oPr σ p) w = .ref x) ∧ (¬ w < nI (9 + (refsOf h 2 (o + 11 + 6 * p) (pMs (oPr σ p)).length).length) → tvM h o p (oPr σ p) w = .null) := by
    rw [refsOf_len]
    refine ⟨fun e => by rw [tvM, if_pos e], fun j hj e => ?_, fun e => ?_, fun j hj e => ?_, fun e => ?_⟩
    · subst e; rw [tvM, if_neg (nI_pos (by omega)), if_pos (show nI j < 8 from nI_lt (b := 8) hj (by decide)), cl_nI (by omega)]
    · subst e; rw [tvM, if_neg (by decide), if_neg (by decide), if_pos rfl]
    · subst e
      rw [tvM, if_neg (nI_pos (by omega)), if_neg (show ¬ nI (9 + j) < 8 from nI_nlt (b := 8) (by omega) (by omega)), if_neg (show ¬ nI (9 + j) = 8 from fun e => absurd (nI_inj (b := 8) (by omega) (by decide) e) (by omega)), cl_nI (by omega), show 9 + j - 9 = j by omega, if_pos hj]
      obtain ⟨x, hx⟩ := get_some (l := refsOf h 2 (o + 11 + 6 * p) (pMs (oPr σ p)).length) (k := j) (by rw [refsOf_len]; exact hj)
      exact ⟨x, hx, by rw [(refsOf_at hx).2]⟩
    · have h0 : ¬ w < 0 := fun q => e (by have a1 := Int32.lt_iff_toInt_lt.mp q; refine Int32.lt_iff_toInt_lt.mpr ?_; rw [nI_toInt (by omega)]; simp at a1; omega)
      obtain ⟨j, hj, rfl⟩ := nI_of h0
      have hj9 : 9 + (pMs (oPr σ p)).length ≤ j := Nat.le_of_not_lt (fun q => e (nI_lt q (by omega)))
      rw [tvM, if_neg h0, if_neg (show ¬ nI j < 8 from nI_nlt (b := 8) (by omega) hj), if_neg (show ¬ nI j = 8 from fun e => absurd (nI_inj (b := 8) hj (by decide) e) (by omega)), cl_nI hj, if_neg (by omega)]
  refine Xc.of (by decide) (by simp [Value.category]) (Nat.le_of_ble_eq_true rfl) ?_
  show Xw E m_H_termOf 2 0 0 0 [some (.ref o), some (.int (nI p)), some (.int w), none] [] h _
  refine x_aload_n d_H_termOf_0 rfl rfl ?_
  refine x_getf (v := .ref (o + 4)) d_H_termOf_1 lf_H_29 z.1.1.kO z.1.1.H3 ?_
  refine x_iload_n d_H_termOf_4 rfl rfl ?_
  refine x_invv d_H_termOf_5 lm_H_55 (as := [.int (nI p)]) (S := []) (cz' := 0) (cs' := 0) (c_num z hc hp) z.1.1.kS rfl rfl rfl (Nat.le_of_ble_eq_true rfl) (by decide) (by omega) (by omega) ?_
  rintro _ _ ⟨rfl, rfl⟩
  refine x_astore_n d_H_termOf_8 rfl (by decide) (L' := [some (.ref o), some (.int (nI p)), some (.int w), some (.ref (o + 6 + 6 * p))]) rfl ?_
  refine x_aload_n d_H_termOf_9 rfl rfl ?_
  refine x_ifnonnull (tgt := 17) d_H_termOf_10 rfl ?_
  refine x_aload_n d_H_termOf_17 rfl rfl ?_
  refine x_iload_n d_H_termOf_18 rfl rfl ?_
  refine x_invv d_H_termOf_19 lm_H_107 (as := [.int w]) (S := []) (c_P_termAt (rs := gF h 2 10 (o + 6 + 6 * p)) (rg := fun j => refOf (gA h 2 (o + 8 + 6 * p) j)) (ms := refsOf h 2 (o + 11 + 6 * p) (pMs (oPr σ p)).length) (mk := pMk (oPr σ p)) (z.1.2 p hp12).k (z.1.2 p hp12).kr (z.1.2 p hp12).kmb (z.1.2 p hp12).kma (z.1.2 p hp12).rg (z.1.2 p hp12).mb rfl hrs (z.1.2 p hp12).ma (by rw [refsOf_len]; exact zp.2.2.2.1.1) zp.2.2.2.2.1 (by rw [refsOf_len]; exact hms) (fun j hj => (zp.rg hj).1) (fun i x hx => (zp.ms hx).1) w (tvM h o p (oPr σ p) w) htv) (z.1.2 p hp12).k rfl rfl rfl (Nat.le_of_ble_eq_true rfl) (by decide) (Nat.le_refl 0) (Nat.le_refl 0) ?_
  rintro _ _ ⟨rfl, rfl⟩
  exact x_aret d_H_termOf_22 rfl (Or.inl ⟨_, rfl⟩) hv ⟨rfl, rfl⟩
theorem c_H_term_no {E : th_E} {h : th_H} {o : Nat} {σ : Ho} (z : CR o σ h) (hc : oCt σ ≤ 12) (k w : Int32) (hk : k < 0 ∨ nI (oCt σ) ≤ k) : Xc E m_H_term 3 0 0 [.ref o, .int k, .int w] h (Ex (some (.int (-1))) h) := by
  refine Xc.of (by decide) (by simp [Value.category]) (Nat.le_of_ble_eq_true rfl) ?_
  show Xw E m_H_term 3 0 0 0 [some (.ref o), some (.int k), some (.int w), none] [] h _
  refine x_aload_n d_H_term_0 rfl rfl ?_
  refine x_iload_n d_H_term_1 rfl rfl ?_
  refine x_iload_n d_H_term_2 rfl rfl ?_
  refine x_invv d_H_term_3 lm_H_95 (as := [.int k, .int w]) (S := []) (c_H_termOf_no z hc k w hk) z.1.1.kO rfl rfl rfl (Nat.le_of_ble_eq_true rfl) (by decide) (Nat.le_refl 0) (Nat.le_refl 0) ?_
  rintro _ _ ⟨rfl, rfl⟩
  refine x_astore_nN d_H_term_6 rfl (by decide) (L' := [some (.ref o), some (.int k), some (.int w), some (.null)]) rfl ?_
  refine x_aload_nN d_H_term_7 rfl rfl ?_
  refine x_ifnonnullN d_H_term_8 ?_
  refine x_iconst (v := (-1)) d_H_term_11 (by decide) ?_
  refine x_goto (tgt := 19) d_H_term_12 rfl ?_
  exact x_iret d_H_term_19 rfl rfl ⟨rfl, rfl⟩
theorem c_H_term_none {E : th_E} {h : th_H} {o : Nat} {σ : Ho} (z : CR o σ h) (hc : oCt σ ≤ 12) {p : Nat} (hp : p < oCt σ) (hms : (pMs (oPr σ p)).length ≤ 12) (w : Int32) (e : termM (oPr σ p) w = none) : Xc E m_H_term 3 0 0 [.ref o, .int (nI p), .int w] h (Ex (some (.int (-1))) h) := by
  refine Xc.of (by decide) (by simp [Value.category]) (Nat.le_of_ble_eq_true rfl) ?_
  show Xw E m_H_term 3 0 0 0 [some (.ref o), some (.int (nI p)), some (.int w), none] [] h _
  refine x_aload_n d_H_term_0 rfl rfl ?_
  refine x_iload_n d_H_term_1 rfl rfl ?_
  refine x_iload_n d_H_term_2 rfl rfl ?_
  refine x_invv d_H_term_3 lm_H_95 (as := [.int (nI p), .int w]) (S := []) (c_H_termOf z hc hp hms w) z.1.1.kO rfl rfl rfl (Nat.le_of_ble_eq_true rfl) (by decide) (Nat.le_refl 0) (Nat.le_refl 0) ?_
  rintro _ _ ⟨rfl, rfl⟩
  rw [tv_none (z.2.2.2.2.2 p hp) e]
  refine x_astore_nN d_H_term_6 rfl (by decide) (L' := [some (.ref o), some (.int (nI p)), some (.int w), some (.null)]) rfl ?_
  refine x_aload_nN d_H_term_7 rfl rfl ?_
  refine x_ifnonnullN d_H_term_8 ?_
  refine x_iconst (v := (-1)) d_H_term_11 (by decide) ?_
  refine x_goto (tgt := 19) d_H_term_12 rfl ?_
  exact x_iret d_H_term_19 rfl rfl ⟨rfl, rfl⟩
theorem c_H_term {E : th_E} {h : th_H} {o : Nat} {σ : Ho} (z : CR o σ h) (hc : oCt σ ≤ 12) {p : Nat} (hp : p < oCt σ) (hms : (pMs (oPr σ p)).length ≤ 12) (w : Int32) {t : Tm} (e : termM (oPr σ p) w = some t) (ht : vTm t) : Xc E m_H_term 3 0 0 [.ref o, .int (nI p), .int w] h (Ex (some (.int (tSum t))) h) := by
  obtain ⟨x, ex, tx⟩ := tv_some (z.2.2.2.2.2 p hp) e
  refine Xc.of (by decide) (by simp [Value.category]) (Nat.le_of_ble_eq_true rfl) ?_
  show Xw E m_H_term 3 0 0 0 [some (.ref o), some (.int (nI p)), some (.int w), none] [] h _
  refine x_aload_n d_H_term_0 rfl rfl ?_
  refine x_iload_n d_H_term_1 rfl rfl ?_
  refine x_iload_n d_H_term_2 rfl rfl ?_
  refine x_invv d_H_term_3 lm_H_95 (as := [.int (nI p), .int w]) (S := []) (c_H_termOf z hc hp hms w) z.1.1.kO rfl rfl rfl (Nat.le_of_ble_eq_true rfl) (by decide) (Nat.le_refl 0) (Nat.le_refl 0) ?_
  rintro _ _ ⟨rfl, rfl⟩
  rw [ex]
  refine x_astore_n d_H_term_6 rfl (by decide) (L' := [some (.ref o), some (.int (nI p)), some (.int w), some (.ref x)]) rfl ?_
  refine x_aload_n d_H_term_7 rfl rfl ?_
  refine x_ifnonnull (tgt := 15) d_H_term_8 rfl ?_
  refine x_aload_n d_H_term_15 rfl rfl ?_
  refine x_invv d_H_term_16 lm_H_99 (as := []) (S := []) (c_T_summary tx) tx.k rfl rfl rfl (Nat.le_of_ble_eq_true rfl) (by decide) (Nat.le_refl 0) (Nat.le_refl 0) ?_
  rintro _ _ ⟨rfl, rfl⟩
  exact x_iret d_H_term_19 rfl rfl ⟨rfl, rfl⟩
theorem c_H_digest_no {E : th_E} {h : th_H} {o : Nat} {σ : Ho} (z : CR o σ h) (hc : oCt σ ≤ 12) (k w : Int32) (hk : k < 0 ∨ nI (oCt σ) ≤ k) : Xc E m_H_digest 17 0 0 [.ref o, .int k, .int w] h (Ex (some (.int 0)) h) := by
  refine Xc.of (by decide) (by simp [Value.category]) (Nat.le_of_ble_eq_true rfl) ?_
  show Xw E m_H_digest 17 0 0 0 [some (.ref o), some (.int k), some (.int w), none] [] h _
  refine x_aload_n d_H_digest_0 rfl rfl ?_
  refine x_iload_n d_H_digest_1 rfl rfl ?_
  refine x_iload_n d_H_digest_2 rfl rfl ?_
  refine x_invv d_H_digest_3 lm_H_95 (as := [.int k, .int w]) (S := []) (c_H_termOf_no z hc k w hk) z.1.1.kO rfl rfl rfl (Nat.le_of_ble_eq_true rfl) (by decide) (Nat.le_refl 0) (Nat.le_refl 0) ?_
  rintro _ _ ⟨rfl, rfl⟩
  refine x_astore_nN d_H_digest_6 rfl (by decide) (L' := [some (.ref o), some (.int k), some (.int w), some (.null)]) rfl ?_
  refine x_aload_nN d_H_digest_7 rfl rfl ?_
  refine x_ifnonnullN d_H_digest_8 ?_
  refine x_iconst (v := 0) d_H_digest_11 (by decide) ?_
  refine x_goto (tgt := 21) d_H_digest_12 rfl ?_
  exact x_iret d_H_digest_21 rfl rfl ⟨rfl, rfl⟩
theorem c_H_digest_none {E : th_E} {h : th_H} {o : Nat} {σ : Ho} (z : CR o σ h) (hc : oCt σ ≤ 12) {p : Nat} (hp : p < oCt σ) (hms : (pMs (oPr σ p)).length ≤ 12) (w : Int32) (e : termM (oPr σ p) w = none) : Xc E m_H_digest 17 0 0 [.ref o, .int (nI p), .int w] h (Ex (some (.int 0)) h) := by
  refine Xc.of (by decide) (by simp [Value.category]) (Nat.le_of_ble_eq_true rfl) ?_
  show Xw E m_H_digest 17 0 0 0 [some (.ref o), some (.int (nI p)), some (.int w), none] [] h _
  refine x_aload_n d_H_digest_0 rfl rfl ?_
  refine x_iload_n d_H_digest_1 rfl rfl ?_
  refine x_iload_n d_H_digest_2 rfl rfl ?_
  refine x_invv d_H_digest_3 lm_H_95 (as := [.int (nI p), .int w]) (S := []) (c_H_termOf z hc hp hms w) z.1.1.kO rfl rfl rfl (Nat.le_of_ble_eq_true rfl) (by decide) (Nat.le_refl 0) (Nat.le_refl 0) ?_
  rintro _ _ ⟨rfl, rfl⟩
  rw [tv_none (z.2.2.2.2.2 p hp) e]
  refine x_astore_nN d_H_digest_6 rfl (by decide) (L' := [some (.ref o), some (.int (nI p)), some (.int w), some (.null)]) rfl ?_
  refine x_aload_nN d_H_digest_7 rfl rfl ?_
  refine x_ifnonnullN d_H_digest_8 ?_
  refine x_iconst (v := 0) d_H_digest_11 (by decide) ?_
  refine x_goto (tgt := 21) d_H_digest_12 rfl ?_
  exact x_iret d_H_digest_21 rfl rfl ⟨rfl, rfl⟩
theorem c_H_digest {E : th_E} {h : th_H} {o : Nat} {σ : Ho} (z : CR o σ h) (hc : oCt σ ≤ 12) {p : Nat} (hp : p < oCt σ) (hms : (pMs (oPr σ p)).length ≤ 12) (w : Int32) {t : Tm} (e : termM (oPr σ p) w = some t) (ht : vTm t) : Xc E m_H_digest 17 0 0 [.ref o, .int (nI p), .int w] h (Ex (some (.int (mixM 7 t))) h) := by
  obtain ⟨x, ex, tx⟩ := tv_some (z.2.2.2.2.2 p hp) e
  refine Xc.of (by decide) (by simp [Value.category]) (Nat.le_of_ble_eq_true rfl) ?_
  show Xw E m_H_digest 17 0 0 0 [some (.ref o), some (.int (nI p)), some (.int w), none] [] h _
  refine x_aload_n d_H_digest_0 rfl rfl ?_
  refine x_iload_n d_H_digest_1 rfl rfl ?_
  refine x_iload_n d_H_digest_2 rfl rfl ?_
  refine x_invv d_H_digest_3 lm_H_95 (as := [.int (nI p), .int w]) (S := []) (c_H_termOf z hc hp hms w) z.1.1.kO rfl rfl rfl (Nat.le_of_ble_eq_true rfl) (by decide) (Nat.le_refl 0) (Nat.le_refl 0) ?_
  rintro _ _ ⟨rfl, rfl⟩
  rw [ex]
  refine x_astore_n d_H_digest_6 rfl (by decide) (L' := [some (.ref o), some (.int (nI p)), some (.int w), some (.ref x)]) rfl ?_
  refine x_aload_n d_H_digest_7 rfl rfl ?_
  refine x_ifnonnull (tgt := 15) d_H_digest_8 rfl ?_
  refine x_bipush (v := 7) d_H_digest_15 (by decide) ?_
  refine x_aload_n d_H_digest_17 rfl rfl ?_
  refine x_invsN d_H_digest_18 lm_H_103 (as := [.int 7, .ref x]) (S := []) (c_T_mixed t x 7 16 tx ht.1 (by have := ht.2; omega)) rfl rfl (Nat.le_of_ble_eq_true rfl) (by decide) (Nat.le_refl 0) (Nat.le_refl 0) ?_
  rintro _ _ ⟨rfl, rfl⟩
  exact x_iret d_H_digest_21 rfl rfl ⟨rfl, rfl⟩
