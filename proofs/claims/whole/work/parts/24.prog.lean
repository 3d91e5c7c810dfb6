/-! Program (printed by wip/gen/mod_prog.py). -/
/-- an operand that its limit lets through -/
def fitP (lim v : Int32) : Prop := lim = 0 ∨ (¬ v < 0 ∧ v < lim)
theorem i32_nlt {x y : Int32} (h : ¬ y ≤ x) : x < y := by
  refine Int32.lt_iff_toInt_lt.mpr ?_
  have h1 : ¬ y.toInt ≤ x.toInt := fun z => h (Int32.le_iff_toInt_le.mpr z)
  omega
theorem i32_nle {x y : Int32} (h : y ≤ x) : ¬ x < y := fun z => by
  have h1 := Int32.le_iff_toInt_le.mp h
  have h2 := Int32.lt_iff_toInt_lt.mp z
  omega
theorem c_G_fits {E : th_E} {h : th_H} (v lim r : Int32) (hr : (fitP lim v → r = 1) ∧ (¬ fitP lim v → r = 0)) : Xc E m_G_fits 0 0 0 [.int v, .int lim] h (Ex (some (.int r)) h) := by
  refine Xc.of (by decide) (by simp [Value.category]) (Nat.le_of_ble_eq_true rfl) ?_
  show Xw E m_G_fits 0 0 0 0 [some (.int v), some (.int lim)] [] h _
  refine x_iload_n d_G_fits_0 rfl rfl ?_
  refine x_if_eq (tgt := 13) d_G_fits_1 rfl (fun q1 => ?_) (fun q1 => ?_)
  · obtain rfl : r = 1 := hr.1 (Or.inl q1)
    refine x_iconst (v := 1) d_G_fits_13 (by decide) ?_
    refine x_goto (tgt := 18) d_G_fits_14 rfl ?_
    exact x_iret d_G_fits_18 rfl rfl ⟨rfl, rfl⟩
  · refine x_iload_n d_G_fits_4 rfl rfl ?_
    refine x_if_lt (tgt := 17) d_G_fits_5 rfl (fun q5 => ?_) (fun q5 => ?_)
    · obtain rfl : r = 0 := hr.2 (fun z => z.elim q1 (fun z => z.1 q5))
      refine x_iconst (v := 0) d_G_fits_17 (by decide) ?_
      exact x_iret d_G_fits_18 rfl rfl ⟨rfl, rfl⟩
    · refine x_iload_n d_G_fits_8 rfl rfl ?_
      refine x_iload_n d_G_fits_9 rfl rfl ?_
      refine x_icmp_ge (tgt := 17) d_G_fits_10 rfl (fun q10 => ?_) (fun q10 => ?_)
      · obtain rfl : r = 0 := hr.2 (fun z => z.elim q1 (fun z => i32_nle q10 z.2))
        refine x_iconst (v := 0) d_G_fits_17 (by decide) ?_
        exact x_iret d_G_fits_18 rfl rfl ⟨rfl, rfl⟩
      · obtain rfl : r = 1 := hr.1 (Or.inr ⟨q5, i32_nlt q10⟩)
        refine x_iconst (v := 1) d_G_fits_13 (by decide) ?_
        refine x_goto (tgt := 18) d_G_fits_14 rfl ?_
        exact x_iret d_G_fits_18 rfl rfl ⟨rfl, rfl⟩
theorem c_G_append_no {E : th_E} {h : th_H} {g ga tl n : Nat} {lim : Nat → Int32} (k1 : gk h g = some (.inl 5)) (k2 : gk h ga = some (.inr (1, 192))) (f0 : gF h 5 0 g = .ref ga) (f1 : gF h 5 1 g = .int (nI n)) (hn : n ≤ 48) (hE : E.2.2.2.2 0 = .ref tl) (k3 : gk h tl = some (.inr (0, 81))) (fl : ∀ i, i < 81 → gA h 0 tl i = .int (lim i)) (op a b c : Int32) (bad : 48 ≤ n ∨ op < 0 ∨ 27 ≤ op ∨ ∃ o : Nat, o < 27 ∧ op = nI o ∧ ¬ (fitP (lim (3 * o)) a ∧ fitP (lim (3 * o + 1)) b ∧ fitP (lim (3 * o + 2)) c)) : Xc E m_G_append 1 0 0 [.ref g, .int op, .int a, .int b, .int c] h (Ex (some (.int (-1))) h) := by
  rcases bad with hb | hb | hb | ⟨o, ho, rfl, hb⟩
  · refine Xc.of (by decide) (by simp [Value.category]) (Nat.le_of_ble_eq_true rfl) ?_
    show Xw E m_G_append 1 0 0 0 [some (.ref g), some (.int op), some (.int a), some (.int b), some (.int c), none, none] [] h _
    refine x_aload_n d_G_append_0 rfl rfl ?_
    refine x_getf (v := .int (nI n)) d_G_append_1 lf_G_15 k1 f1 ?_
    refine x_bipush (v := 48) d_G_append_4 (by decide) ?_
    refine x_icmp_ge (tgt := 19) d_G_append_6 rfl (fun q6 => ?_) (fun q => absurd (nI_le (a := 48) hb (by omega)) q)
    refine x_iconst (v := (-1)) d_G_append_19 (by decide) ?_
    exact x_iret d_G_append_20 rfl rfl ⟨rfl, rfl⟩
  · by_cases hn48 : n < 48
    · refine Xc.of (by decide) (by simp [Value.category]) (Nat.le_of_ble_eq_true rfl) ?_
      show Xw E m_G_append 1 0 0 0 [some (.ref g), some (.int op), some (.int a), some (.int b), some (.int c), none, none] [] h _
      refine x_aload_n d_G_append_0 rfl rfl ?_
      refine x_getf (v := .int (nI n)) d_G_append_1 lf_G_15 k1 f1 ?_
      refine x_bipush (v := 48) d_G_append_4 (by decide) ?_
      refine x_icmp_ge (tgt := 19) d_G_append_6 rfl (fun q => absurd q (nI_ge (b := 48) hn48 (by decide))) (fun q6 => ?_)
      refine x_iload_n d_G_append_9 rfl rfl ?_
      refine x_if_lt (tgt := 19) d_G_append_10 rfl (fun q10 => ?_) (fun q => absurd hb q)
      refine x_iconst (v := (-1)) d_G_append_19 (by decide) ?_
      exact x_iret d_G_append_20 rfl rfl ⟨rfl, rfl⟩
    · have hb : 48 ≤ n := by omega
      refine Xc.of (by decide) (by simp [Value.category]) (Nat.le_of_ble_eq_true rfl) ?_
      show Xw E m_G_append 1 0 0 0 [some (.ref g), some (.int op), some (.int a), some (.int b), some (.int c), none, none] [] h _
      refine x_aload_n d_G_append_0 rfl rfl ?_
      refine x_getf (v := .int (nI n)) d_G_append_1 lf_G_15 k1 f1 ?_
      refine x_bipush (v := 48) d_G_append_4 (by decide) ?_
      refine x_icmp_ge (tgt := 19) d_G_append_6 rfl (fun q6 => ?_) (fun q => absurd (nI_le (a := 48) hb (by omega)) q)
      refine x_iconst (v := (-1)) d_G_append_19 (by decide) ?_
      exact x_iret d_G_append_20 rfl rfl ⟨rfl, rfl⟩
  · by_cases hn48 : n < 48
    · by_cases hop : op < 0
      · have hb := hop
        refine Xc.of (by decide) (by simp [Value.category]) (Nat.le_of_ble_eq_true rfl) ?_
        show Xw E m_G_append 1 0 0 0 [some (.ref g), some (.int op), some (.int a), some (.int b), some (.int c), none, none] [] h _
        refine x_aload_n d_G_append_0 rfl rfl ?_
        refine x_getf (v := .int (nI n)) d_G_append_1 lf_G_15 k1 f1 ?_
        refine x_bipush (v := 48) d_G_append_4 (by decide) ?_
        refine x_icmp_ge (tgt := 19) d_G_append_6 rfl (fun q => absurd q (nI_ge (b := 48) hn48 (by decide))) (fun q6 => ?_)
        refine x_iload_n d_G_append_9 rfl rfl ?_
        refine x_if_lt (tgt := 19) d_G_append_10 rfl (fun q10 => ?_) (fun q => absurd hb q)
        refine x_iconst (v := (-1)) d_G_append_19 (by decide) ?_
        exact x_iret d_G_append_20 rfl rfl ⟨rfl, rfl⟩
      · refine Xc.of (by decide) (by simp [Value.category]) (Nat.le_of_ble_eq_true rfl) ?_
        show Xw E m_G_append 1 0 0 0 [some (.ref g), some (.int op), some (.int a), some (.int b), some (.int c), none, none] [] h _
        refine x_aload_n d_G_append_0 rfl rfl ?_
        refine x_getf (v := .int (nI n)) d_G_append_1 lf_G_15 k1 f1 ?_
        refine x_bipush (v := 48) d_G_append_4 (by decide) ?_
        refine x_icmp_ge (tgt := 19) d_G_append_6 rfl (fun q => absurd q (nI_ge (b := 48) hn48 (by decide))) (fun q6 => ?_)
        refine x_iload_n d_G_append_9 rfl rfl ?_
        refine x_if_lt (tgt := 19) d_G_append_10 rfl (fun q => absurd q hop) (fun q10 => ?_)
        refine x_iload_n d_G_append_13 rfl rfl ?_
        refine x_bipush (v := 27) d_G_append_14 (by decide) ?_
        refine x_icmp_lt (tgt := 21) d_G_append_16 rfl (fun q => absurd q (i32_nle hb)) (fun q16 => ?_)
        refine x_iconst (v := (-1)) d_G_append_19 (by decide) ?_
        exact x_iret d_G_append_20 rfl rfl ⟨rfl, rfl⟩
    · have hb : 48 ≤ n := by omega
      refine Xc.of (by decide) (by simp [Value.category]) (Nat.le_of_ble_eq_true rfl) ?_
      show Xw E m_G_append 1 0 0 0 [some (.ref g), some (.int op), some (.int a), some (.int b), some (.int c), none, none] [] h _
      refine x_aload_n d_G_append_0 rfl rfl ?_
      refine x_getf (v := .int (nI n)) d_G_append_1 lf_G_15 k1 f1 ?_
      refine x_bipush (v := 48) d_G_append_4 (by decide) ?_
      refine x_icmp_ge (tgt := 19) d_G_append_6 rfl (fun q6 => ?_) (fun q => absurd (nI_le (a := 48) hb (by omega)) q)
      refine x_iconst (v := (-1)) d_G_append_19 (by decide) ?_
      exact x_iret d_G_append_20 rfl rfl ⟨rfl, rfl⟩
  · by_cases hn48 : n < 48
    · by_cases ha : fitP (lim (3 * o)) a
      · by_cases hbb : fitP (lim (3 * o + 1)) b
        · have hb : ¬ fitP (lim (3 * o + 2)) c := fun z => hb ⟨ha, hbb, z⟩
          refine Xc.of (by decide) (by simp [Value.category]) (Nat.le_of_ble_eq_true rfl) ?_
          show Xw E m_G_append 1 0 0 0 [some (.ref g), some (.int (nI o)), some (.int a), some (.int b), some (.int c), none, none] [] h _
          refine x_aload_n d_G_append_0 rfl rfl ?_
          refine x_getf (v := .int (nI n)) d_G_append_1 lf_G_15 k1 f1 ?_
          refine x_bipush (v := 48) d_G_append_4 (by decide) ?_
          refine x_icmp_ge (tgt := 19) d_G_append_6 rfl (fun q => absurd q (nI_ge (b := 48) hn48 (by decide))) (fun q6 => ?_)
          refine x_iload_n d_G_append_9 rfl rfl ?_
          refine x_if_lt (tgt := 19) d_G_append_10 rfl (fun q => absurd q (nI_pos (by omega))) (fun q10 => ?_)
          refine x_iload_n d_G_append_13 rfl rfl ?_
          refine x_bipush (v := 27) d_G_append_14 (by decide) ?_
          refine x_icmp_lt (tgt := 21) d_G_append_16 rfl (fun q16 => ?_) (fun q => absurd (nI_lt (b := 27) ho (by decide)) q)
          refine x_iconst (v := 3) d_G_append_21 (by decide) ?_
          refine x_iload_n d_G_append_22 rfl rfl ?_
          refine x_imul (v := (nI (3 * o))) d_G_append_23 (pk_mul 3 o) ?_
          refine x_istore d_G_append_24 (by decide) (L' := [some (.ref g), some (.int (nI o)), some (.int a), some (.int b), some (.int c), some (.int (nI (3 * o))), none]) rfl ?_
          refine x_iload_n d_G_append_26 rfl rfl ?_
          refine x_getsN (k := 0) d_G_append_27 rfl (tbl1 (List.mem_of_getElem? (i := 226) rfl)) ?_
          rw [hE]
          refine x_iload d_G_append_30 rfl ?_
          refine x_iald (v := .int (lim (3 * o))) d_G_append_32 k3 rfl (vp_in_nI (by omega) (by decide)) (by rw [nI_cl (by omega)]; exact fl (3 * o) (by omega)) ?_
          refine x_invs d_G_append_33 lm_G_22 (as := [.int a, .int (lim (3 * o))]) (S := []) (c_G_fits a (lim (3 * o)) 1 ⟨fun _ => rfl, fun z => absurd ha z⟩) rfl rfl (Nat.le_of_ble_eq_true rfl) (Nat.le_refl 1) (Nat.le_refl 0) (Nat.le_refl 0) ?_
          rintro _ _ ⟨rfl, rfl⟩
          refine x_if_eq (tgt := 70) d_G_append_36 rfl (fun q => absurd q (by decide)) (fun q36 => ?_)
          refine x_iload_n d_G_append_39 rfl rfl ?_
          refine x_getsN (k := 0) d_G_append_40 rfl (tbl1 (List.mem_of_getElem? (i := 226) rfl)) ?_
          rw [hE]
          refine x_iload d_G_append_43 rfl ?_
          refine x_iconst (v := 1) d_G_append_45 (by decide) ?_
          refine x_iadd (v := (nI (3 * o + 1))) d_G_append_46 (nI_1 _) ?_
          refine x_iald (v := .int (lim (3 * o + 1))) d_G_append_47 k3 rfl (vp_in_nI (by omega) (by decide)) (by rw [nI_cl (by omega)]; exact fl (3 * o + 1) (by omega)) ?_
          refine x_invs d_G_append_48 lm_G_22 (as := [.int b, .int (lim (3 * o + 1))]) (S := []) (c_G_fits b (lim (3 * o + 1)) 1 ⟨fun _ => rfl, fun z => absurd hbb z⟩) rfl rfl (Nat.le_of_ble_eq_true rfl) (Nat.le_refl 1) (Nat.le_refl 0) (Nat.le_refl 0) ?_
          rintro _ _ ⟨rfl, rfl⟩
          refine x_if_eq (tgt := 70) d_G_append_51 rfl (fun q => absurd q (by decide)) (fun q51 => ?_)
          refine x_iload d_G_append_54 rfl ?_
          refine x_getsN (k := 0) d_G_append_56 rfl (tbl1 (List.mem_of_getElem? (i := 226) rfl)) ?_
          rw [hE]
          refine x_iload d_G_append_59 rfl ?_
          refine x_iconst (v := 2) d_G_append_61 (by decide) ?_
          refine x_iadd (v := (nI (3 * o + 2))) d_G_append_62 (nI_add (3 * o) 2) ?_
          refine x_iald (v := .int (lim (3 * o + 2))) d_G_append_63 k3 rfl (vp_in_nI (by omega) (by decide)) (by rw [nI_cl (by omega)]; exact fl (3 * o + 2) (by omega)) ?_
          refine x_invs d_G_append_64 lm_G_22 (as := [.int c, .int (lim (3 * o + 2))]) (S := []) (c_G_fits c (lim (3 * o + 2)) 0 ⟨fun z => absurd z hb, fun _ => rfl⟩) rfl rfl (Nat.le_of_ble_eq_true rfl) (Nat.le_refl 1) (Nat.le_refl 0) (Nat.le_refl 0) ?_
          rintro _ _ ⟨rfl, rfl⟩
          refine x_if_ne (tgt := 72) d_G_append_67 rfl (fun q => absurd rfl q) (fun q67 => ?_)
          refine x_iconst (v := (-1)) d_G_append_70 (by decide) ?_
          exact x_iret d_G_append_71 rfl rfl ⟨rfl, rfl⟩
        · have hb := hbb
          refine Xc.of (by decide) (by simp [Value.category]) (Nat.le_of_ble_eq_true rfl) ?_
          show Xw E m_G_append 1 0 0 0 [some (.ref g), some (.int (nI o)), some (.int a), some (.int b), some (.int c), none, none] [] h _
          refine x_aload_n d_G_append_0 rfl rfl ?_
          refine x_getf (v := .int (nI n)) d_G_append_1 lf_G_15 k1 f1 ?_
          refine x_bipush (v := 48) d_G_append_4 (by decide) ?_
          refine x_icmp_ge (tgt := 19) d_G_append_6 rfl (fun q => absurd q (nI_ge (b := 48) hn48 (by decide))) (fun q6 => ?_)
          refine x_iload_n d_G_append_9 rfl rfl ?_
          refine x_if_lt (tgt := 19) d_G_append_10 rfl (fun q => absurd q (nI_pos (by omega))) (fun q10 => ?_)
          refine x_iload_n d_G_append_13 rfl rfl ?_
          refine x_bipush (v := 27) d_G_append_14 (by decide) ?_
          refine x_icmp_lt (tgt := 21) d_G_append_16 rfl (fun q16 => ?_) (fun q => absurd (nI_lt (b := 27) ho (by decide)) q)
          refine x_iconst (v := 3) d_G_append_21 (by decide) ?_
          refine x_iload_n d_G_append_22 rfl rfl ?_
          refine x_imul (v := (nI (3 * o))) d_G_append_23 (pk_mul 3 o) ?_
          refine x_istore d_G_append_24 (by decide) (L' := [some (.ref g), some (.int (nI o)), some (.int a), some (.int b), some (.int c), some (.int (nI (3 * o))), none]) rfl ?_
          refine x_iload_n d_G_append_26 rfl rfl ?_
          refine x_getsN (k := 0) d_G_append_27 rfl (tbl1 (List.mem_of_getElem? (i := 226) rfl)) ?_
          rw [hE]
          refine x_iload d_G_append_30 rfl ?_
          refine x_iald (v := .int (lim (3 * o))) d_G_append_32 k3 rfl (vp_in_nI (by omega) (by decide)) (by rw [nI_cl (by omega)]; exact fl (3 * o) (by omega)) ?_
          refine x_invs d_G_append_33 lm_G_22 (as := [.int a, .int (lim (3 * o))]) (S := []) (c_G_fits a (lim (3 * o)) 1 ⟨fun _ => rfl, fun z => absurd ha z⟩) rfl rfl (Nat.le_of_ble_eq_true rfl) (Nat.le_refl 1) (Nat.le_refl 0) (Nat.le_refl 0) ?_
          rintro _ _ ⟨rfl, rfl⟩
          refine x_if_eq (tgt := 70) d_G_append_36 rfl (fun q => absurd q (by decide)) (fun q36 => ?_)
          refine x_iload_n d_G_append_39 rfl rfl ?_
          refine x_getsN (k := 0) d_G_append_40 rfl (tbl1 (List.mem_of_getElem? (i := 226) rfl)) ?_
          rw [hE]
          refine x_iload d_G_append_43 rfl ?_
          refine x_iconst (v := 1) d_G_append_45 (by decide) ?_
          refine x_iadd (v := (nI (3 * o + 1))) d_G_append_46 (nI_1 _) ?_
          refine x_iald (v := .int (lim (3 * o + 1))) d_G_append_47 k3 rfl (vp_in_nI (by omega) (by decide)) (by rw [nI_cl (by omega)]; exact fl (3 * o + 1) (by omega)) ?_
          refine x_invs d_G_append_48 lm_G_22 (as := [.int b, .int (lim (3 * o + 1))]) (S := []) (c_G_fits b (lim (3 * o + 1)) 0 ⟨fun z => absurd z hb, fun _ => rfl⟩) rfl rfl (Nat.le_of_ble_eq_true rfl) (Nat.le_refl 1) (Nat.le_refl 0) (Nat.le_refl 0) ?_
          rintro _ _ ⟨rfl, rfl⟩
          refine x_if_eq (tgt := 70) d_G_append_51 rfl (fun q51 => ?_) (fun q => absurd rfl q)
          refine x_iconst (v := (-1)) d_G_append_70 (by decide) ?_
          exact x_iret d_G_append_71 rfl rfl ⟨rfl, rfl⟩
      · have hb := ha
        refine Xc.of (by decide) (by simp [Value.category]) (Nat.le_of_ble_eq_true rfl) ?_
        show Xw E m_G_append 1 0 0 0 [some (.ref g), some (.int (nI o)), some (.int a), some (.int b), some (.int c), none, none] [] h _
        refine x_aload_n d_G_append_0 rfl rfl ?_
        refine x_getf (v := .int (nI n)) d_G_append_1 lf_G_15 k1 f1 ?_
        refine x_bipush (v := 48) d_G_append_4 (by decide) ?_
        refine x_icmp_ge (tgt := 19) d_G_append_6 rfl (fun q => absurd q (nI_ge (b := 48) hn48 (by decide))) (fun q6 => ?_)
        refine x_iload_n d_G_append_9 rfl rfl ?_
        refine x_if_lt (tgt := 19) d_G_append_10 rfl (fun q => absurd q (nI_pos (by omega))) (fun q10 => ?_)
        refine x_iload_n d_G_append_13 rfl rfl ?_
        refine x_bipush (v := 27) d_G_append_14 (by decide) ?_
        refine x_icmp_lt (tgt := 21) d_G_append_16 rfl (fun q16 => ?_) (fun q => absurd (nI_lt (b := 27) ho (by decide)) q)
        refine x_iconst (v := 3) d_G_append_21 (by decide) ?_
        refine x_iload_n d_G_append_22 rfl rfl ?_
        refine x_imul (v := (nI (3 * o))) d_G_append_23 (pk_mul 3 o) ?_
        refine x_istore d_G_append_24 (by decide) (L' := [some (.ref g), some (.int (nI o)), some (.int a), some (.int b), some (.int c), some (.int (nI (3 * o))), none]) rfl ?_
        refine x_iload_n d_G_append_26 rfl rfl ?_
        refine x_getsN (k := 0) d_G_append_27 rfl (tbl1 (List.mem_of_getElem? (i := 226) rfl)) ?_
        rw [hE]
        refine x_iload d_G_append_30 rfl ?_
        refine x_iald (v := .int (lim (3 * o))) d_G_append_32 k3 rfl (vp_in_nI (by omega) (by decide)) (by rw [nI_cl (by omega)]; exact fl (3 * o) (by omega)) ?_
        refine x_invs d_G_append_33 lm_G_22 (as := [.int a, .int (lim (3 * o))]) (S := []) (c_G_fits a (lim (3 * o)) 0 ⟨fun z => absurd z hb, fun _ => rfl⟩) rfl rfl (Nat.le_of_ble_eq_true rfl) (Nat.le_refl 1) (Nat.le_refl 0) (Nat.le_refl 0) ?_
        rintro _ _ ⟨rfl, rfl⟩
        refine x_if_eq (tgt := 70) d_G_append_36 rfl (fun q36 => ?_) (fun q => absurd rfl q)
        refine x_iconst (v := (-1)) d_G_append_70 (by decide) ?_
        exact x_iret d_G_append_71 rfl rfl ⟨rfl, rfl⟩
    · have hb : 48 ≤ n := by omega
      refine Xc.of (by decide) (by simp [Value.category]) (Nat.le_of_ble_eq_true rfl) ?_
      show Xw E m_G_append 1 0 0 0 [some (.ref g), some (.int (nI o)), some (.int a), some (.int b), some (.int c), none, none] [] h _
      refine x_aload_n d_G_append_0 rfl rfl ?_
      refine x_getf (v := .int (nI n)) d_G_append_1 lf_G_15 k1 f1 ?_
      refine x_bipush (v := 48) d_G_append_4 (by decide) ?_
      refine x_icmp_ge (tgt := 19) d_G_append_6 rfl (fun q6 => ?_) (fun q => absurd (nI_le (a := 48) hb (by omega)) q)
      refine x_iconst (v := (-1)) d_G_append_19 (by decide) ?_
      exact x_iret d_G_append_20 rfl rfl ⟨rfl, rfl⟩
theorem c_G_append {E : th_E} {h : th_H} {g ga tl n : Nat} {lim : Nat → Int32} (k1 : gk h g = some (.inl 5)) (k2 : gk h ga = some (.inr (1, 192))) (f0 : gF h 5 0 g = .ref ga) (f1 : gF h 5 1 g = .int (nI n)) (hn : n ≤ 48) (hE : E.2.2.2.2 0 = .ref tl) (k3 : gk h tl = some (.inr (0, 81))) (fl : ∀ i, i < 81 → gA h 0 tl i = .int (lim i)) (o : Nat) (ho : o < 27) (a b c : Int32) (hn48 : n < 48) (ha : fitP (lim (3 * o)) a) (hb : fitP (lim (3 * o + 1)) b) (hc : fitP (lim (3 * o + 2)) c) : Xc E m_G_append 1 0 0 [.ref g, .int (nI o), .int a, .int b, .int c] h (Ex (some (.int (nI n))) (gpF (gpA (gpA (gpA (gpA h 1 ga (4 * n) (.int (nI o))) 1 ga (4 * n + 1) (.int a)) 1 ga (4 * n + 2) (.int b)) 1 ga (4 * n + 3) (.int c)) 5 1 g (.int (nI (n + 1))))) := by
  refine Xc.of (by decide) (by simp [Value.category]) (Nat.le_of_ble_eq_true rfl) ?_
  show Xw E m_G_append 1 0 0 0 [some (.ref g), some (.int (nI o)), some (.int a), some (.int b), some (.int c), none, none] [] h _
  refine x_aload_n d_G_append_0 rfl rfl ?_
  refine x_getf (v := .int (nI n)) d_G_append_1 lf_G_15 k1 f1 ?_
  refine x_bipush (v := 48) d_G_append_4 (by decide) ?_
  refine x_icmp_ge (tgt := 19) d_G_append_6 rfl (fun q => absurd q (nI_ge (b := 48) hn48 (by decide))) (fun q6 => ?_)
  refine x_iload_n d_G_append_9 rfl rfl ?_
  refine x_if_lt (tgt := 19) d_G_append_10 rfl (fun q => absurd q (nI_pos (by omega))) (fun q10 => ?_)
  refine x_iload_n d_G_append_13 rfl rfl ?_
  refine x_bipush (v := 27) d_G_append_14 (by decide) ?_
  refine x_icmp_lt (tgt := 21) d_G_append_16 rfl (fun q16 => ?_) (fun q => absurd (nI_lt (b := 27) ho (by decide)) q)
  refine x_iconst (v := 3) d_G_append_21 (by decide) ?_
  refine x_iload_n d_G_append_22 rfl rfl ?_
  refine x_imul (v := (nI (3 * o))) d_G_append_23 (pk_mul 3 o) ?_
  refine x_istore d_G_append_24 (by decide) (L' := [some (.ref g), some (.int (nI o)), some (.int a), some (.int b), some (.int c), some (.int (nI (3 * o))), none]) rfl ?_
  refine x_iload_n d_G_append_26 rfl rfl ?_
  refine x_getsN (k := 0) d_G_append_27 rfl (tbl1 (List.mem_of_getElem? (i := 226) rfl)) ?_
  rw [hE]
  refine x_iload d_G_append_30 rfl ?_
  refine x_iald (v := .int (lim (3 * o))) d_G_append_32 k3 rfl (vp_in_nI (by omega) (by decide)) (by rw [nI_cl (by omega)]; exact fl (3 * o) (by omega)) ?_
  refine x_invs d_G_append_33 lm_G_22 (as := [.int a, .int (lim (3 * o))]) (S := []) (c_G_fits a (lim (3 * o)) 1 ⟨fun _ => rfl, fun z => absurd ha z⟩) rfl rfl (Nat.le_of_ble_eq_true rfl) (Nat.le_refl 1) (Nat.le_refl 0) (Nat.le_refl 0) ?_
  rintro _ _ ⟨rfl, rfl⟩
  refine x_if_eq (tgt := 70) d_G_append_36 rfl (fun q => absurd q (by decide)) (fun q36 => ?_)
  refine x_iload_n d_G_append_39 rfl rfl ?_
  refine x_getsN (k := 0) d_G_append_40 rfl (tbl1 (List.mem_of_getElem? (i := 226) rfl)) ?_
  rw [hE]
  refine x_iload d_G_append_43 rfl ?_
  refine x_iconst (v := 1) d_G_append_45 (by decide) ?_
  refine x_iadd (v := (nI (3 * o + 1))) d_G_append_46 (nI_1 _) ?_
  refine x_iald (v := .int (lim (3 * o + 1))) d_G_append_47 k3 rfl (vp_in_nI (by omega) (by decide)) (by rw [nI_cl (by omega)]; exact fl (3 * o + 1) (by omega)) ?_
  refine x_invs d_G_append_48 lm_G_22 (as := [.int b, .int (lim (3 * o + 1))]) (S := []) (c_G_fits b (lim (3 * o + 1)) 1 ⟨fun _ => rfl, fun z => absurd hb z⟩) rfl rfl (Nat.le_of_ble_eq_true rfl) (Nat.le_refl 1) (Nat.le_refl 0) (Nat.le_refl 0) ?_
  rintro _ _ ⟨rfl, rfl⟩
  refine x_if_eq (tgt := 70) d_G_append_51 rfl (fun q => absurd q (by decide)) (fun q51 => ?_)
  refine x_iload d_G_append_54 rfl ?_
  refine x_getsN (k := 0) d_G_append_56 rfl (tbl1 (List.mem_of_getElem? (i := 226) rfl)) ?_
  rw [hE]
  refine x_iload d_G_append_59 rfl ?_
  refine x_iconst (v := 2) d_G_append_61 (by decide) ?_
  refine x_iadd (v := (nI (3 * o + 2))) d_G_append_62 (nI_add (3 * o) 2) ?_
  refine x_iald (v := .int (lim (3 * o + 2))) d_G_append_63 k3 rfl (vp_in_nI (by omega) (by decide)) (by rw [nI_cl (by omega)]; exact fl (3 * o + 2) (by omega)) ?_
  refine x_invs d_G_append_64 lm_G_22 (as := [.int c, .int (lim (3 * o + 2))]) (S := []) (c_G_fits c (lim (3 * o + 2)) 1 ⟨fun _ => rfl, fun z => absurd hc z⟩) rfl rfl (Nat.le_of_ble_eq_true rfl) (Nat.le_refl 1) (Nat.le_refl 0) (Nat.le_refl 0) ?_
  rintro _ _ ⟨rfl, rfl⟩
  refine x_if_ne (tgt := 72) d_G_append_67 rfl (fun q67 => ?_) (fun q => absurd q (by decide))
  refine x_iconst (v := 4) d_G_append_72 (by decide) ?_
  refine x_aload_n d_G_append_73 rfl rfl ?_
  refine x_getf (v := .int (nI n)) d_G_append_74 lf_G_15 k1 f1 ?_
  refine x_imul (v := (nI (4 * n))) d_G_append_77 (pk_mul 4 n) ?_
  refine x_istore d_G_append_78 (by decide) (L' := [some (.ref g), some (.int (nI o)), some (.int a), some (.int b), some (.int c), some (.int (nI (3 * o))), some (.int (nI (4 * n)))]) rfl ?_
  refine x_aload_n d_G_append_80 rfl rfl ?_
  refine x_getf (v := .ref ga) d_G_append_81 lf_G_9 k1 f0 ?_
  refine x_iload d_G_append_84 rfl ?_
  refine x_iload_n d_G_append_86 rfl rfl ?_
  refine x_iast d_G_append_87 k2 rfl (vp_in_nI (by omega) (by decide)) ?_
  rw [nI_cl (by omega)]
  refine x_aload_n d_G_append_88 rfl rfl ?_
  refine x_getf (v := .ref ga) d_G_append_89 lf_G_9 k1 (by simp [gF_pF, gF_pA, gF_nO, gF_nA, f0]) ?_
  refine x_iload d_G_append_92 rfl ?_
  refine x_iconst (v := 1) d_G_append_94 (by decide) ?_
  refine x_iadd (v := (nI (4 * n + 1))) d_G_append_95 (nI_1 _) ?_
  refine x_iload_n d_G_append_96 rfl rfl ?_
  refine x_iast d_G_append_97 k2 rfl (vp_in_nI (by omega) (by decide)) ?_
  rw [nI_cl (by omega)]
  refine x_aload_n d_G_append_98 rfl rfl ?_
  refine x_getf (v := .ref ga) d_G_append_99 lf_G_9 k1 (by simp [gF_pF, gF_pA, gF_nO, gF_nA, f0]) ?_
  refine x_iload d_G_append_102 rfl ?_
  refine x_iconst (v := 2) d_G_append_104 (by decide) ?_
  refine x_iadd (v := (nI (4 * n + 2))) d_G_append_105 (nI_add (4 * n) 2) ?_
  refine x_iload_n d_G_append_106 rfl rfl ?_
  refine x_iast d_G_append_107 k2 rfl (vp_in_nI (by omega) (by decide)) ?_
  rw [nI_cl (by omega)]
  refine x_aload_n d_G_append_108 rfl rfl ?_
  refine x_getf (v := .ref ga) d_G_append_109 lf_G_9 k1 (by simp [gF_pF, gF_pA, gF_nO, gF_nA, f0]) ?_
  refine x_iload d_G_append_112 rfl ?_
  refine x_iconst (v := 3) d_G_append_114 (by decide) ?_
  refine x_iadd (v := (nI (4 * n + 3))) d_G_append_115 (nI_add (4 * n) 3) ?_
  refine x_iload d_G_append_116 rfl ?_
  refine x_iast d_G_append_118 k2 rfl (vp_in_nI (by omega) (by decide)) ?_
  rw [nI_cl (by omega)]
  refine x_aload_n d_G_append_119 rfl rfl ?_
  refine x_dup d_G_append_120 rfl ?_
  refine x_getf (v := .int (nI n)) d_G_append_121 lf_G_15 k1 (by simp [gF_pF, gF_pA, gF_nO, gF_nA, f1]) ?_
  refine x_iconst (v := 1) d_G_append_124 (by decide) ?_
  refine x_iadd (v := (nI (n + 1))) d_G_append_125 (nI_1 _) ?_
  refine x_putf d_G_append_126 lp_G_15 k1 ⟨_, rfl⟩ ?_
  refine x_aload_n d_G_append_129 rfl rfl ?_
  refine x_getf (v := .int (nI (n + 1))) d_G_append_130 lf_G_15 k1 (by simp [gF_pF, gF_pA, gF_nO, gF_nA]) ?_
  refine x_iconst (v := 1) d_G_append_133 (by decide) ?_
  refine x_isub (v := (nI n)) d_G_append_134 (nI_pred n) ?_
  exact x_iret d_G_append_135 rfl rfl ⟨rfl, rfl⟩
theorem c_G_reaches {E : th_E} {h : th_H} {g n : Nat} (k1 : gk h g = some (.inl 5)) (f1 : gF h 5 1 g = .int (nI n)) (k r : Int32) (hr : (¬ k < 0 ∧ k < nI n → r = 1) ∧ (¬ (¬ k < 0 ∧ k < nI n) → r = 0)) : Xc E m_G_reaches 0 0 0 [.ref g, .int k] h (Ex (some (.int r)) h) := by
  refine Xc.of (by decide) (by simp [Value.category]) (Nat.le_of_ble_eq_true rfl) ?_
  show Xw E m_G_reaches 0 0 0 0 [some (.ref g), some (.int k)] [] h _
  refine x_iload_n d_G_reaches_0 rfl rfl ?_
  refine x_if_lt (tgt := 16) d_G_reaches_1 rfl (fun q1 => ?_) (fun q1 => ?_)
  · obtain rfl : r = 0 := hr.2 (fun z => z.1 q1)
    refine x_iconst (v := 0) d_G_reaches_16 (by decide) ?_
    exact x_iret d_G_reaches_17 rfl rfl ⟨rfl, rfl⟩
  · refine x_iload_n d_G_reaches_4 rfl rfl ?_
    refine x_aload_n d_G_reaches_5 rfl rfl ?_
    refine x_getf (v := .int (nI n)) d_G_reaches_6 lf_G_15 k1 f1 ?_
    refine x_icmp_ge (tgt := 16) d_G_reaches_9 rfl (fun q9 => ?_) (fun q9 => ?_)
    · obtain rfl : r = 0 := hr.2 (fun z => i32_nle q9 z.2)
      refine x_iconst (v := 0) d_G_reaches_16 (by decide) ?_
      exact x_iret d_G_reaches_17 rfl rfl ⟨rfl, rfl⟩
    · obtain rfl : r = 1 := hr.1 (⟨q1, i32_nlt q9⟩)
      refine x_iconst (v := 1) d_G_reaches_12 (by decide) ?_
      refine x_goto (tgt := 17) d_G_reaches_13 rfl ?_
      exact x_iret d_G_reaches_17 rfl rfl ⟨rfl, rfl⟩
theorem c_G_wipe {E : th_E} {h : th_H} {g n : Nat} (k1 : gk h g = some (.inl 5)) : Xc E m_G_wipe 0 0 0 [.ref g] h (Ex none (gpF h 5 1 g (.int 0))) := by
  refine Xc.of (by decide) (by simp [Value.category]) (Nat.le_of_ble_eq_true rfl) ?_
  show Xw E m_G_wipe 0 0 0 0 [some (.ref g)] [] h _
  refine x_aload_n d_G_wipe_0 rfl rfl ?_
  refine x_iconst (v := 0) d_G_wipe_1 (by decide) ?_
  refine x_putf d_G_wipe_2 lp_G_15 k1 ⟨_, rfl⟩ ?_
  exact x_ret ⟨rfl, rfl⟩ rfl d_G_wipe_5
