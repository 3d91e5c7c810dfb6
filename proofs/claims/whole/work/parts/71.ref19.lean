/-! The reference: add (printed by wip/gen/mod_ref19.py). -/
def limL : List Int32 := [8, 0, 0, 8, 16, 0, 8, 8, 0, 8, 0, 0, 8, 0, 0, 8, 8, 8, 8, 8, 8, 8, 8, 0, 8, 8, 0, 8, 8, 8, 8, 8, 8, 8, 8, 48, 8, 8, 48, 8, 6, 48, 48, 0, 0, 48, 0, 0, 0, 0, 0, 8, 8, 0, 8, 48, 0, 0, 0, 0, 48, 0, 0, 48, 0, 0, 8, 48, 8, 8, 0, 0, 0, 0, 0, 8, 0, 0, 8, 0, 0]
def limM (i : Nat) : Int32 := limL.getD i 0
def nd1 (o : Int32) : Int32 := if o = 16 ∨ o = 19 ∨ o = 24 then 0 else if o = 14 ∨ o = 15 ∨ o = 20 ∨ o = 21 then 2 else 1
def nd2 (o : Int32) : Int32 := if o = 1 then 3 else if o = 13 then 4 else if o = 18 ∨ o = 22 then 2 else if o = 2 ∨ (5 ≤ o ∧ o ≤ 12) ∨ o = 17 then 1 else 0
def nd3 (o : Int32) : Int32 := if 11 ≤ o ∧ o ≤ 13 then 2 else if (5 ≤ o ∧ o ≤ 6) ∨ (9 ≤ o ∧ o ≤ 10) ∨ o = 22 then 1 else 0
def nlm (n : Int32) : Int32 := if n = 1 then 7 else if n = 2 then 47 else if n = 3 then 15 else 5
def ndl (n : Int32) : Int32 := if n = 0 then 0 else if n = 1 then 8 else if n = 2 then 48 else if n = 3 then 16 else 6
def nd5 (n : Int32) : Prop := n = 0 ∨ n = 1 ∨ n = 2 ∨ n = 3 ∨ n = 4
theorem rt_aux {v a b : Int32} (h : b.toInt = a.toInt + 1) : (0 ≤ v ∧ v ≤ a) ↔ (¬ v < 0 ∧ v < b) := by
  have z0 : (0 : Int32).toInt = 0 := rfl
  rw [Int32.le_iff_toInt_le, Int32.le_iff_toInt_le, Int32.lt_iff_toInt_lt, Int32.lt_iff_toInt_lt, h, z0]
  omega
theorem rt_fit {n v : Int32} (h : nd5 n) : (n = 0 ∨ (0 ≤ v ∧ v ≤ nlm n)) ↔ fitP (ndl n) v := by
  unfold fitP
  rcases h with rfl | rfl | rfl | rfl | rfl
  · exact ⟨fun _ => Or.inl rfl, fun _ => Or.inl rfl⟩
  · rw [rt_aux (a := nlm 1) (b := ndl 1) rfl]; exact ⟨fun z => z.elim (fun z => absurd z (by decide)) Or.inr, fun z => z.elim (fun z => absurd z (by decide)) Or.inr⟩
  · rw [rt_aux (a := nlm 2) (b := ndl 2) rfl]; exact ⟨fun z => z.elim (fun z => absurd z (by decide)) Or.inr, fun z => z.elim (fun z => absurd z (by decide)) Or.inr⟩
  · rw [rt_aux (a := nlm 3) (b := ndl 3) rfl]; exact ⟨fun z => z.elim (fun z => absurd z (by decide)) Or.inr, fun z => z.elim (fun z => absurd z (by decide)) Or.inr⟩
  · rw [rt_aux (a := nlm 4) (b := ndl 4) rfl]; exact ⟨fun z => z.elim (fun z => absurd z (by decide)) Or.inr, fun z => z.elim (fun z => absurd z (by decide)) Or.inr⟩
theorem nd_lim : ∀ k : Fin 27, (ndl (nd1 (nI k.1)) = limM (3 * k.1) ∧ ndl (nd2 (nI k.1)) = limM (3 * k.1 + 1) ∧ ndl (nd3 (nI k.1)) = limM (3 * k.1 + 2)) := by decide +kernel
theorem nd1_5 (o : Int32) : nd5 (nd1 o) := by unfold nd1 nd5; split; decide; split <;> decide
theorem nd2_5 (o : Int32) : nd5 (nd2 o) := by unfold nd2 nd5; split; decide; split; decide; split; decide; split <;> decide
theorem nd3_5 (o : Int32) : nd5 (nd3 o) := by unfold nd3 nd5; split; decide; split <;> decide
theorem c_N_first {E : th_E} {h : th_H} (o : Int32) : Xc E m_N_firstNeeds 1 0 0 [.int o] h (Ex (some (.int (nd1 o))) h) := by
  refine Xc.of (by decide) (by simp [Value.category]) (Nat.le_of_ble_eq_true rfl) ?_
  show Xw E m_N_firstNeeds 1 0 0 0 [some (.int o)] [] h _
  refine x_iload_n d_N_firstNeeds_0 rfl rfl ?_
  refine x_bipush (v := 16) d_N_firstNeeds_1 (by decide) ?_
  refine x_icmp_eq (tgt := 18) d_N_firstNeeds_3 rfl (fun q3 => ?_) (fun q3 => ?_)
  · have ex : nd1 o = 0 := if_pos (Or.inl q3)
    refine x_iconst (v := 0) d_N_firstNeeds_18 (by decide) ?_
    refine x_goto (tgt := 51) d_N_firstNeeds_19 rfl ?_
    exact x_iret d_N_firstNeeds_51 rfl rfl ⟨by rw [ex], rfl⟩
  · refine x_iload_n d_N_firstNeeds_6 rfl rfl ?_
    refine x_bipush (v := 19) d_N_firstNeeds_7 (by decide) ?_
    refine x_icmp_eq (tgt := 18) d_N_firstNeeds_9 rfl (fun q9 => ?_) (fun q9 => ?_)
    · have ex : nd1 o = 0 := if_pos (Or.inr (Or.inl q9))
      refine x_iconst (v := 0) d_N_firstNeeds_18 (by decide) ?_
      refine x_goto (tgt := 51) d_N_firstNeeds_19 rfl ?_
      exact x_iret d_N_firstNeeds_51 rfl rfl ⟨by rw [ex], rfl⟩
    · refine x_iload_n d_N_firstNeeds_12 rfl rfl ?_
      refine x_bipush (v := 24) d_N_firstNeeds_13 (by decide) ?_
      refine x_icmp_ne (tgt := 22) d_N_firstNeeds_15 rfl (fun q15 => ?_) (fun q15 => ?_)
      · have n1 : nd1 o = if o = 14 ∨ o = 15 ∨ o = 20 ∨ o = 21 then 2 else 1 := if_neg (fun z => z.elim q3 (fun z => z.elim q9 q15))
        refine x_iload_n d_N_firstNeeds_22 rfl rfl ?_
        refine x_bipush (v := 14) d_N_firstNeeds_23 (by decide) ?_
        refine x_icmp_eq (tgt := 46) d_N_firstNeeds_25 rfl (fun q25 => ?_) (fun q25 => ?_)
        · have ex : nd1 o = 2 := n1.trans (if_pos (Or.inl q25))
          refine x_iconst (v := 2) d_N_firstNeeds_46 (by decide) ?_
          refine x_goto (tgt := 51) d_N_firstNeeds_47 rfl ?_
          exact x_iret d_N_firstNeeds_51 rfl rfl ⟨by rw [ex], rfl⟩
        · refine x_iload_n d_N_firstNeeds_28 rfl rfl ?_
          refine x_bipush (v := 15) d_N_firstNeeds_29 (by decide) ?_
          refine x_icmp_eq (tgt := 46) d_N_firstNeeds_31 rfl (fun q31 => ?_) (fun q31 => ?_)
          · have ex : nd1 o = 2 := n1.trans (if_pos (Or.inr (Or.inl q31)))
            refine x_iconst (v := 2) d_N_firstNeeds_46 (by decide) ?_
            refine x_goto (tgt := 51) d_N_firstNeeds_47 rfl ?_
            exact x_iret d_N_firstNeeds_51 rfl rfl ⟨by rw [ex], rfl⟩
          · refine x_iload_n d_N_firstNeeds_34 rfl rfl ?_
            refine x_bipush (v := 20) d_N_firstNeeds_35 (by decide) ?_
            refine x_icmp_eq (tgt := 46) d_N_firstNeeds_37 rfl (fun q37 => ?_) (fun q37 => ?_)
            · have ex : nd1 o = 2 := n1.trans (if_pos (Or.inr (Or.inr (Or.inl q37))))
              refine x_iconst (v := 2) d_N_firstNeeds_46 (by decide) ?_
              refine x_goto (tgt := 51) d_N_firstNeeds_47 rfl ?_
              exact x_iret d_N_firstNeeds_51 rfl rfl ⟨by rw [ex], rfl⟩
            · refine x_iload_n d_N_firstNeeds_40 rfl rfl ?_
              refine x_bipush (v := 21) d_N_firstNeeds_41 (by decide) ?_
              refine x_icmp_ne (tgt := 50) d_N_firstNeeds_43 rfl (fun q43 => ?_) (fun q43 => ?_)
              · have ex : nd1 o = 1 := n1.trans (if_neg (fun z => z.elim q25 (fun z => z.elim q31 (fun z => z.elim q37 q43))))
                refine x_iconst (v := 1) d_N_firstNeeds_50 (by decide) ?_
                exact x_iret d_N_firstNeeds_51 rfl rfl ⟨by rw [ex], rfl⟩
              · have ex : nd1 o = 2 := n1.trans (if_pos (Or.inr (Or.inr (Or.inr q43))))
                refine x_iconst (v := 2) d_N_firstNeeds_46 (by decide) ?_
                refine x_goto (tgt := 51) d_N_firstNeeds_47 rfl ?_
                exact x_iret d_N_firstNeeds_51 rfl rfl ⟨by rw [ex], rfl⟩
      · have ex : nd1 o = 0 := if_pos (Or.inr (Or.inr q15))
        refine x_iconst (v := 0) d_N_firstNeeds_18 (by decide) ?_
        refine x_goto (tgt := 51) d_N_firstNeeds_19 rfl ?_
        exact x_iret d_N_firstNeeds_51 rfl rfl ⟨by rw [ex], rfl⟩
theorem c_N_second {E : th_E} {h : th_H} (o : Int32) : Xc E m_N_secondNeeds 1 0 0 [.int o] h (Ex (some (.int (nd2 o))) h) := by
  refine Xc.of (by decide) (by simp [Value.category]) (Nat.le_of_ble_eq_true rfl) ?_
  show Xw E m_N_secondNeeds 1 0 0 0 [some (.int o)] [] h _
  refine x_iload_n d_N_secondNeeds_0 rfl rfl ?_
  refine x_iconst (v := 1) d_N_secondNeeds_1 (by decide) ?_
  refine x_icmp_ne (tgt := 9) d_N_secondNeeds_2 rfl (fun q2 => ?_) (fun q2 => ?_)
  · refine x_iload_n d_N_secondNeeds_9 rfl rfl ?_
    refine x_bipush (v := 13) d_N_secondNeeds_10 (by decide) ?_
    refine x_icmp_ne (tgt := 19) d_N_secondNeeds_12 rfl (fun q12 => ?_) (fun q12 => ?_)
    · refine x_iload_n d_N_secondNeeds_19 rfl rfl ?_
      refine x_bipush (v := 18) d_N_secondNeeds_20 (by decide) ?_
      refine x_icmp_eq (tgt := 31) d_N_secondNeeds_22 rfl (fun q22 => ?_) (fun q22 => ?_)
      · have ex : nd2 o = 2 := (if_neg q2).trans ((if_neg q12).trans (if_pos (Or.inl q22)))
        refine x_iconst (v := 2) d_N_secondNeeds_31 (by decide) ?_
        refine x_goto (tgt := 61) d_N_secondNeeds_32 rfl ?_
        exact x_iret d_N_secondNeeds_61 rfl rfl ⟨by rw [ex], rfl⟩
      · refine x_iload_n d_N_secondNeeds_25 rfl rfl ?_
        refine x_bipush (v := 22) d_N_secondNeeds_26 (by decide) ?_
        refine x_icmp_ne (tgt := 35) d_N_secondNeeds_28 rfl (fun q28 => ?_) (fun q28 => ?_)
        · have n1 : nd2 o = if o = 2 ∨ (5 ≤ o ∧ o ≤ 12) ∨ o = 17 then 1 else 0 := (if_neg q2).trans ((if_neg q12).trans (if_neg (fun z => z.elim q22 q28)))
          refine x_iload_n d_N_secondNeeds_35 rfl rfl ?_
          refine x_iconst (v := 2) d_N_secondNeeds_36 (by decide) ?_
          refine x_icmp_eq (tgt := 56) d_N_secondNeeds_37 rfl (fun q37 => ?_) (fun q37 => ?_)
          · have ex : nd2 o = 1 := n1.trans (if_pos (Or.inl q37))
            refine x_iconst (v := 1) d_N_secondNeeds_56 (by decide) ?_
            refine x_goto (tgt := 61) d_N_secondNeeds_57 rfl ?_
            exact x_iret d_N_secondNeeds_61 rfl rfl ⟨by rw [ex], rfl⟩
          · refine x_iload_n d_N_secondNeeds_40 rfl rfl ?_
            refine x_iconst (v := 5) d_N_secondNeeds_41 (by decide) ?_
            refine x_bipush (v := 12) d_N_secondNeeds_42 (by decide) ?_
            refine x_invs d_N_secondNeeds_44 lm_N_81 (as := [.int o, .int 5, .int 12]) (S := []) (cz' := 0) (cs' := 0) (c_N_in _ _ _) rfl rfl (Nat.le_of_ble_eq_true rfl) (by omega) (by decide) (by decide) ?_
            rintro _ _ ⟨rfl, rfl⟩
            refine x_if_ne (tgt := 56) d_N_secondNeeds_47 rfl (fun q47 => ?_) (fun q47 => ?_)
            · have hin : 5 ≤ o ∧ o ≤ 12 := Decidable.byContradiction (fun z => q47 (iB_f z))
              have ex : nd2 o = 1 := n1.trans (if_pos (Or.inr (Or.inl hin)))
              refine x_iconst (v := 1) d_N_secondNeeds_56 (by decide) ?_
              refine x_goto (tgt := 61) d_N_secondNeeds_57 rfl ?_
              exact x_iret d_N_secondNeeds_61 rfl rfl ⟨by rw [ex], rfl⟩
            · refine x_iload_n d_N_secondNeeds_50 rfl rfl ?_
              refine x_bipush (v := 17) d_N_secondNeeds_51 (by decide) ?_
              refine x_icmp_ne (tgt := 60) d_N_secondNeeds_53 rfl (fun q53 => ?_) (fun q53 => ?_)
              · have ex : nd2 o = 0 := n1.trans (if_neg (fun z => z.elim q37 (fun z => z.elim (iB_0.mp q47) q53)))
                refine x_iconst (v := 0) d_N_secondNeeds_60 (by decide) ?_
                exact x_iret d_N_secondNeeds_61 rfl rfl ⟨by rw [ex], rfl⟩
              · have ex : nd2 o = 1 := n1.trans (if_pos (Or.inr (Or.inr q53)))
                refine x_iconst (v := 1) d_N_secondNeeds_56 (by decide) ?_
                refine x_goto (tgt := 61) d_N_secondNeeds_57 rfl ?_
                exact x_iret d_N_secondNeeds_61 rfl rfl ⟨by rw [ex], rfl⟩
        · have ex : nd2 o = 2 := (if_neg q2).trans ((if_neg q12).trans (if_pos (Or.inr q28)))
          refine x_iconst (v := 2) d_N_secondNeeds_31 (by decide) ?_
          refine x_goto (tgt := 61) d_N_secondNeeds_32 rfl ?_
          exact x_iret d_N_secondNeeds_61 rfl rfl ⟨by rw [ex], rfl⟩
    · have ex : nd2 o = 4 := (if_neg q2).trans (if_pos q12)
      refine x_iconst (v := 4) d_N_secondNeeds_15 (by decide) ?_
      refine x_goto (tgt := 61) d_N_secondNeeds_16 rfl ?_
      exact x_iret d_N_secondNeeds_61 rfl rfl ⟨by rw [ex], rfl⟩
  · have ex : nd2 o = 3 := if_pos q2
    refine x_iconst (v := 3) d_N_secondNeeds_5 (by decide) ?_
    refine x_goto (tgt := 61) d_N_secondNeeds_6 rfl ?_
    exact x_iret d_N_secondNeeds_61 rfl rfl ⟨by rw [ex], rfl⟩
theorem c_N_third {E : th_E} {h : th_H} (o : Int32) : Xc E m_N_thirdNeeds 1 0 0 [.int o] h (Ex (some (.int (nd3 o))) h) := by
  refine Xc.of (by decide) (by simp [Value.category]) (Nat.le_of_ble_eq_true rfl) ?_
  show Xw E m_N_thirdNeeds 1 0 0 0 [some (.int o)] [] h _
  refine x_iload_n d_N_thirdNeeds_0 rfl rfl ?_
  refine x_bipush (v := 11) d_N_thirdNeeds_1 (by decide) ?_
  refine x_bipush (v := 13) d_N_thirdNeeds_3 (by decide) ?_
  refine x_invs d_N_thirdNeeds_5 lm_N_81 (as := [.int o, .int 11, .int 13]) (S := []) (cz' := 0) (cs' := 0) (c_N_in _ _ _) rfl rfl (Nat.le_of_ble_eq_true rfl) (by omega) (by decide) (by decide) ?_
  rintro _ _ ⟨rfl, rfl⟩
  refine x_if_eq (tgt := 15) d_N_thirdNeeds_8 rfl (fun q8 => ?_) (fun q8 => ?_)
  · have n1 : nd3 o = if (5 ≤ o ∧ o ≤ 6) ∨ (9 ≤ o ∧ o ≤ 10) ∨ o = 22 then 1 else 0 := if_neg (iB_0.mp q8)
    refine x_iload_n d_N_thirdNeeds_15 rfl rfl ?_
    refine x_iconst (v := 5) d_N_thirdNeeds_16 (by decide) ?_
    refine x_bipush (v := 6) d_N_thirdNeeds_17 (by decide) ?_
    refine x_invs d_N_thirdNeeds_19 lm_N_81 (as := [.int o, .int 5, .int 6]) (S := []) (cz' := 0) (cs' := 0) (c_N_in _ _ _) rfl rfl (Nat.le_of_ble_eq_true rfl) (by omega) (by decide) (by decide) ?_
    rintro _ _ ⟨rfl, rfl⟩
    refine x_if_ne (tgt := 42) d_N_thirdNeeds_22 rfl (fun q22 => ?_) (fun q22 => ?_)
    · have hin : 5 ≤ o ∧ o ≤ 6 := Decidable.byContradiction (fun z => q22 (iB_f z))
      have ex : nd3 o = 1 := n1.trans (if_pos (Or.inl hin))
      refine x_iconst (v := 1) d_N_thirdNeeds_42 (by decide) ?_
      refine x_goto (tgt := 47) d_N_thirdNeeds_43 rfl ?_
      exact x_iret d_N_thirdNeeds_47 rfl rfl ⟨by rw [ex], rfl⟩
    · refine x_iload_n d_N_thirdNeeds_25 rfl rfl ?_
      refine x_bipush (v := 9) d_N_thirdNeeds_26 (by decide) ?_
      refine x_bipush (v := 10) d_N_thirdNeeds_28 (by decide) ?_
      refine x_invs d_N_thirdNeeds_30 lm_N_81 (as := [.int o, .int 9, .int 10]) (S := []) (cz' := 0) (cs' := 0) (c_N_in _ _ _) rfl rfl (Nat.le_of_ble_eq_true rfl) (by omega) (by decide) (by decide) ?_
      rintro _ _ ⟨rfl, rfl⟩
      refine x_if_ne (tgt := 42) d_N_thirdNeeds_33 rfl (fun q33 => ?_) (fun q33 => ?_)
      · have hin : 9 ≤ o ∧ o ≤ 10 := Decidable.byContradiction (fun z => q33 (iB_f z))
        have ex : nd3 o = 1 := n1.trans (if_pos (Or.inr (Or.inl hin)))
        refine x_iconst (v := 1) d_N_thirdNeeds_42 (by decide) ?_
        refine x_goto (tgt := 47) d_N_thirdNeeds_43 rfl ?_
        exact x_iret d_N_thirdNeeds_47 rfl rfl ⟨by rw [ex], rfl⟩
      · refine x_iload_n d_N_thirdNeeds_36 rfl rfl ?_
        refine x_bipush (v := 22) d_N_thirdNeeds_37 (by decide) ?_
        refine x_icmp_ne (tgt := 46) d_N_thirdNeeds_39 rfl (fun q39 => ?_) (fun q39 => ?_)
        · have ex : nd3 o = 0 := n1.trans (if_neg (fun z => z.elim (iB_0.mp q22) (fun z => z.elim (iB_0.mp q33) q39)))
          refine x_iconst (v := 0) d_N_thirdNeeds_46 (by decide) ?_
          exact x_iret d_N_thirdNeeds_47 rfl rfl ⟨by rw [ex], rfl⟩
        · have ex : nd3 o = 1 := n1.trans (if_pos (Or.inr (Or.inr q39)))
          refine x_iconst (v := 1) d_N_thirdNeeds_42 (by decide) ?_
          refine x_goto (tgt := 47) d_N_thirdNeeds_43 rfl ?_
          exact x_iret d_N_thirdNeeds_47 rfl rfl ⟨by rw [ex], rfl⟩
  · have hin : 11 ≤ o ∧ o ≤ 13 := Decidable.byContradiction (fun z => q8 (iB_f z))
    have ex : nd3 o = 2 := if_pos hin
    refine x_iconst (v := 2) d_N_thirdNeeds_11 (by decide) ?_
    refine x_goto (tgt := 47) d_N_thirdNeeds_12 rfl ?_
    exact x_iret d_N_thirdNeeds_47 rfl rfl ⟨by rw [ex], rfl⟩
theorem c_N_isRight {E : th_E} {h : th_H} (n v : Int32) : Xc E m_N_isRight 1 0 0 [.int n, .int v] h (Ex (some (.int (iB (n = 0 ∨ (0 ≤ v ∧ v ≤ nlm n))))) h) := by
  refine Xc.of (by decide) (by simp [Value.category]) (Nat.le_of_ble_eq_true rfl) ?_
  show Xw E m_N_isRight 1 0 0 0 [some (.int n), some (.int v)] [] h _
  refine x_iload_n d_N_isRight_0 rfl rfl ?_
  refine x_if_eq (tgt := 43) d_N_isRight_1 rfl (fun q1 => ?_) (fun q1 => ?_)
  · have ex : iB (n = 0 ∨ (0 ≤ v ∧ v ≤ nlm n)) = 1 := iB_t (Or.inl q1)
    refine x_iconst (v := 1) d_N_isRight_43 (by decide) ?_
    refine x_goto (tgt := 48) d_N_isRight_44 rfl ?_
    exact x_iret d_N_isRight_48 rfl rfl ⟨by rw [ex], rfl⟩
  · refine x_iload_n d_N_isRight_4 rfl rfl ?_
    refine x_iconst (v := 0) d_N_isRight_5 (by decide) ?_
    refine x_iload_n d_N_isRight_6 rfl rfl ?_
    refine x_iconst (v := 1) d_N_isRight_7 (by decide) ?_
    refine x_icmp_ne (tgt := 16) d_N_isRight_8 rfl (fun q8 => ?_) (fun q8 => ?_)
    · refine x_iload_n d_N_isRight_16 rfl rfl ?_
      refine x_iconst (v := 2) d_N_isRight_17 (by decide) ?_
      refine x_icmp_ne (tgt := 26) d_N_isRight_18 rfl (fun q18 => ?_) (fun q18 => ?_)
      · refine x_iload_n d_N_isRight_26 rfl rfl ?_
        refine x_iconst (v := 3) d_N_isRight_27 (by decide) ?_
        refine x_icmp_ne (tgt := 36) d_N_isRight_28 rfl (fun q28 => ?_) (fun q28 => ?_)
        · have eb : nlm n = 5 := (if_neg q8).trans ((if_neg q18).trans (if_neg q28))
          refine x_iconst (v := 5) d_N_isRight_36 (by decide) ?_
          refine x_invs d_N_isRight_37 lm_N_81 (as := [.int v, .int 0, .int 5]) (S := []) (cz' := 0) (cs' := 0) (c_N_in _ _ _) rfl rfl (Nat.le_of_ble_eq_true rfl) (by omega) (by decide) (by decide) ?_
          rintro _ _ ⟨rfl, rfl⟩
          rw [← eb]
          refine x_if_eq (tgt := 47) d_N_isRight_40 rfl (fun q40 => ?_) (fun q40 => ?_)
          · have ex : iB (n = 0 ∨ (0 ≤ v ∧ v ≤ nlm n)) = 0 := iB_f (fun z => z.elim q1 (iB_0.mp q40))
            refine x_iconst (v := 0) d_N_isRight_47 (by decide) ?_
            exact x_iret d_N_isRight_48 rfl rfl ⟨by rw [ex], rfl⟩
          · have ex : iB (n = 0 ∨ (0 ≤ v ∧ v ≤ nlm n)) = 1 := iB_t (Or.inr (Decidable.byContradiction (fun z => q40 (iB_f z))))
            refine x_iconst (v := 1) d_N_isRight_43 (by decide) ?_
            refine x_goto (tgt := 48) d_N_isRight_44 rfl ?_
            exact x_iret d_N_isRight_48 rfl rfl ⟨by rw [ex], rfl⟩
        · have eb : nlm n = 15 := (if_neg q8).trans ((if_neg q18).trans (if_pos q28))
          refine x_bipush (v := 15) d_N_isRight_31 (by decide) ?_
          refine x_goto (tgt := 37) d_N_isRight_33 rfl ?_
          refine x_invs d_N_isRight_37 lm_N_81 (as := [.int v, .int 0, .int 15]) (S := []) (cz' := 0) (cs' := 0) (c_N_in _ _ _) rfl rfl (Nat.le_of_ble_eq_true rfl) (by omega) (by decide) (by decide) ?_
          rintro _ _ ⟨rfl, rfl⟩
          rw [← eb]
          refine x_if_eq (tgt := 47) d_N_isRight_40 rfl (fun q40 => ?_) (fun q40 => ?_)
          · have ex : iB (n = 0 ∨ (0 ≤ v ∧ v ≤ nlm n)) = 0 := iB_f (fun z => z.elim q1 (iB_0.mp q40))
            refine x_iconst (v := 0) d_N_isRight_47 (by decide) ?_
            exact x_iret d_N_isRight_48 rfl rfl ⟨by rw [ex], rfl⟩
          · have ex : iB (n = 0 ∨ (0 ≤ v ∧ v ≤ nlm n)) = 1 := iB_t (Or.inr (Decidable.byContradiction (fun z => q40 (iB_f z))))
            refine x_iconst (v := 1) d_N_isRight_43 (by decide) ?_
            refine x_goto (tgt := 48) d_N_isRight_44 rfl ?_
            exact x_iret d_N_isRight_48 rfl rfl ⟨by rw [ex], rfl⟩
      · have eb : nlm n = 47 := (if_neg q8).trans (if_pos q18)
        refine x_bipush (v := 47) d_N_isRight_21 (by decide) ?_
        refine x_goto (tgt := 37) d_N_isRight_23 rfl ?_
        refine x_invs d_N_isRight_37 lm_N_81 (as := [.int v, .int 0, .int 47]) (S := []) (cz' := 0) (cs' := 0) (c_N_in _ _ _) rfl rfl (Nat.le_of_ble_eq_true rfl) (by omega) (by decide) (by decide) ?_
        rintro _ _ ⟨rfl, rfl⟩
        rw [← eb]
        refine x_if_eq (tgt := 47) d_N_isRight_40 rfl (fun q40 => ?_) (fun q40 => ?_)
        · have ex : iB (n = 0 ∨ (0 ≤ v ∧ v ≤ nlm n)) = 0 := iB_f (fun z => z.elim q1 (iB_0.mp q40))
          refine x_iconst (v := 0) d_N_isRight_47 (by decide) ?_
          exact x_iret d_N_isRight_48 rfl rfl ⟨by rw [ex], rfl⟩
        · have ex : iB (n = 0 ∨ (0 ≤ v ∧ v ≤ nlm n)) = 1 := iB_t (Or.inr (Decidable.byContradiction (fun z => q40 (iB_f z))))
          refine x_iconst (v := 1) d_N_isRight_43 (by decide) ?_
          refine x_goto (tgt := 48) d_N_isRight_44 rfl ?_
          exact x_iret d_N_isRight_48 rfl rfl ⟨by rw [ex], rfl⟩
    · have eb : nlm n = 7 := if_pos q8
      refine x_bipush (v := 7) d_N_isRight_11 (by decide) ?_
      refine x_goto (tgt := 37) d_N_isRight_13 rfl ?_
      refine x_invs d_N_isRight_37 lm_N_81 (as := [.int v, .int 0, .int 7]) (S := []) (cz' := 0) (cs' := 0) (c_N_in _ _ _) rfl rfl (Nat.le_of_ble_eq_true rfl) (by omega) (by decide) (by decide) ?_
      rintro _ _ ⟨rfl, rfl⟩
      rw [← eb]
      refine x_if_eq (tgt := 47) d_N_isRight_40 rfl (fun q40 => ?_) (fun q40 => ?_)
      · have ex : iB (n = 0 ∨ (0 ≤ v ∧ v ≤ nlm n)) = 0 := iB_f (fun z => z.elim q1 (iB_0.mp q40))
        refine x_iconst (v := 0) d_N_isRight_47 (by decide) ?_
        exact x_iret d_N_isRight_48 rfl rfl ⟨by rw [ex], rfl⟩
      · have ex : iB (n = 0 ∨ (0 ≤ v ∧ v ≤ nlm n)) = 1 := iB_t (Or.inr (Decidable.byContradiction (fun z => q40 (iB_f z))))
        refine x_iconst (v := 1) d_N_isRight_43 (by decide) ?_
        refine x_goto (tgt := 48) d_N_isRight_44 rfl ?_
        exact x_iret d_N_isRight_48 rfl rfl ⟨by rw [ex], rfl⟩
theorem add_iff {σ : Ho} {op a b c : Int32} (hcd : (oCd σ).length ≤ 48) : ((0 ≤ op ∧ op ≤ 26) ∧ ¬ nI 48 ≤ nI (oCd σ).length ∧ (nd1 op = 0 ∨ (0 ≤ a ∧ a ≤ nlm (nd1 op))) ∧ (nd2 op = 0 ∨ (0 ≤ b ∧ b ≤ nlm (nd2 op))) ∧ (nd3 op = 0 ∨ (0 ≤ c ∧ c ≤ nlm (nd3 op)))) ↔ addOk limM σ op a b c := by
  rw [rt_fit (nd1_5 op), rt_fit (nd2_5 op), rt_fit (nd3_5 op), rt_aux (a := 26) (b := 27) rfl]
  unfold addOk
  have e : (¬ op < 0 ∧ op < 27) → ndl (nd1 op) = limM (3 * cl op) ∧ ndl (nd2 op) = limM (3 * cl op + 1) ∧ ndl (nd3 op) = limM (3 * cl op + 2) := fun z => by
    obtain ⟨j, hj, rfl⟩ := nI_of z.1
    rw [cl_nI hj]
    exact nd_lim ⟨j, (nI_ltI (b := 27) hj (by decide)).mp z.2⟩
  have hl : ¬ nI 48 ≤ nI (oCd σ).length ↔ (oCd σ).length < 48 := ⟨fun z => Nat.lt_of_not_le (fun q => z (nI_le q (by omega))), fun z q => absurd ((nI_leI (by decide) (by omega)).mp q) (by omega)⟩
  rw [hl]
  constructor
  · rintro ⟨z, h1, h2, h3, h4⟩
    obtain ⟨e1, e2, e3⟩ := e z
    rw [e1] at h2; rw [e2] at h3; rw [e3] at h4
    exact ⟨h1, z.1, z.2, h2, h3, h4⟩
  · rintro ⟨h1, z1, z2, h2, h3, h4⟩
    obtain ⟨e1, e2, e3⟩ := e ⟨z1, z2⟩
    rw [← e1] at h2; rw [← e2] at h3; rw [← e3] at h4
    exact ⟨⟨z1, z2⟩, h1, h2, h3, h4⟩
theorem fit_ex {L : Nat} {v : Int32} (h0 : 0 < L) (hL : L < 2 ^ 31) (h : fitP (nI L) v) : ∃ i, i < L ∧ v = nI i := by
  rcases h with h | ⟨h, h2⟩
  · exact absurd ((nI_eq (b := 0) hL (by decide)).mp h) (by omega)
  · obtain ⟨j, hj, rfl⟩ := nI_of h
    exact ⟨j, (nI_ltI hj hL).mp h2, rfl⟩
theorem vIns_of {k : Nat} {a b c : Int32} (hk27 : k < 27) (ha : fitP (limM (3 * k)) a) (hb : fitP (limM (3 * k + 1)) b) (hc : fitP (limM (3 * k + 2)) c) : vIns k a b c := by
  have hk : k = 0 ∨ k = 1 ∨ k = 2 ∨ k = 3 ∨ k = 4 ∨ k = 5 ∨ k = 6 ∨ k = 7 ∨ k = 8 ∨ k = 9 ∨ k = 10 ∨ k = 11 ∨ k = 12 ∨ k = 13 ∨ k = 14 ∨ k = 15 ∨ k = 16 ∨ k = 17 ∨ k = 18 ∨ k = 19 ∨ k = 20 ∨ k = 21 ∨ k = 22 ∨ k = 23 ∨ k = 24 ∨ k = 25 ∨ k = 26 := by omega
  rcases hk with rfl | rfl | rfl | rfl | rfl | rfl | rfl | rfl | rfl | rfl | rfl | rfl | rfl | rfl | rfl | rfl | rfl | rfl | rfl | rfl | rfl | rfl | rfl | rfl | rfl | rfl | rfl
  · exact (fit_ex (L := 8) (by decide) (by decide) ha)
  · exact ⟨(fit_ex (L := 8) (by decide) (by decide) ha), (fit_ex (L := 16) (by decide) (by decide) hb)⟩
  · exact ⟨(fit_ex (L := 8) (by decide) (by decide) ha), (fit_ex (L := 8) (by decide) (by decide) hb)⟩
  · exact (fit_ex (L := 8) (by decide) (by decide) ha)
  · exact (fit_ex (L := 8) (by decide) (by decide) ha)
  · exact ⟨(fit_ex (L := 8) (by decide) (by decide) ha), (fit_ex (L := 8) (by decide) (by decide) hb), (fit_ex (L := 8) (by decide) (by decide) hc)⟩
  · exact ⟨(fit_ex (L := 8) (by decide) (by decide) ha), (fit_ex (L := 8) (by decide) (by decide) hb), (fit_ex (L := 8) (by decide) (by decide) hc)⟩
  · exact ⟨(fit_ex (L := 8) (by decide) (by decide) ha), (fit_ex (L := 8) (by decide) (by decide) hb)⟩
  · exact ⟨(fit_ex (L := 8) (by decide) (by decide) ha), (fit_ex (L := 8) (by decide) (by decide) hb)⟩
  · exact ⟨(fit_ex (L := 8) (by decide) (by decide) ha), (fit_ex (L := 8) (by decide) (by decide) hb), (fit_ex (L := 8) (by decide) (by decide) hc)⟩
  · exact ⟨(fit_ex (L := 8) (by decide) (by decide) ha), (fit_ex (L := 8) (by decide) (by decide) hb), (fit_ex (L := 8) (by decide) (by decide) hc)⟩
  · exact ⟨(fit_ex (L := 8) (by decide) (by decide) ha), (fit_ex (L := 8) (by decide) (by decide) hb), (fit_ex (L := 48) (by decide) (by decide) hc)⟩
  · exact ⟨(fit_ex (L := 8) (by decide) (by decide) ha), (fit_ex (L := 8) (by decide) (by decide) hb), (fit_ex (L := 48) (by decide) (by decide) hc)⟩
  · exact ⟨(fit_ex (L := 8) (by decide) (by decide) ha), (fit_ex (L := 6) (by decide) (by decide) hb), (fit_ex (L := 48) (by decide) (by decide) hc)⟩
  · exact (fit_ex (L := 48) (by decide) (by decide) ha)
  · exact (fit_ex (L := 48) (by decide) (by decide) ha)
  · exact trivial
  · exact ⟨(fit_ex (L := 8) (by decide) (by decide) ha), (fit_ex (L := 8) (by decide) (by decide) hb)⟩
  · exact ⟨(fit_ex (L := 8) (by decide) (by decide) ha), (fit_ex (L := 48) (by decide) (by decide) hb)⟩
  · exact trivial
  · exact (fit_ex (L := 48) (by decide) (by decide) ha)
  · exact (fit_ex (L := 48) (by decide) (by decide) ha)
  · exact ⟨(fit_ex (L := 8) (by decide) (by decide) ha), (fit_ex (L := 48) (by decide) (by decide) hb), (fit_ex (L := 8) (by decide) (by decide) hc)⟩
  · exact (fit_ex (L := 8) (by decide) (by decide) ha)
  · exact trivial
  · exact (fit_ex (L := 8) (by decide) (by decide) ha)
  · exact (fit_ex (L := 8) (by decide) (by decide) ha)
theorem addOk.cd {σ : Ho} {op a b c : Int32} (vc : vCd σ) (y : addOk limM σ op a b c) : vCd (addM σ op a b c) := by
  obtain ⟨h1, z1, z2, h2, h3, h4⟩ := y
  obtain ⟨j, hj, rfl⟩ := nI_of z1
  rw [cl_nI hj] at h2 h3 h4
  have h27 : j < 27 := (nI_ltI (b := 27) hj (by decide)).mp z2
  refine ⟨?_, fun q hq => ?_⟩
  · show (oCd σ ++ [_]).length ≤ 48
    rw [List.length_append]; exact h1
  · rcases List.mem_append.mp (show q ∈ oCd σ ++ [(cl (nI j), a, b, c)] from hq) with hq | hq
    · exact vc.2 q hq
    · rw [List.mem_singleton.mp hq, cl_nI hj]
      exact vIns_of h27 h2 h3 h4
theorem NR.addC {A : Nat → Nat → Int32} {σ : Ho} {u : Nat} {op a b c : Int32} (y : NR A σ u) (v : vLs σ) (z1 : ¬ op < 0) : NR (up (up (up (up (up A 1 (oCd σ).length op) 2 (oCd σ).length a) 3 (oCd σ).length b) 4 (oCd σ).length c) 0 1 (nI ((oCd σ).length + 1))) (addM σ op a b c) u := by
  have key : ∀ j i, ¬ (j = 1 ∨ j = 2 ∨ j = 3 ∨ j = 4 ∨ (j = 0 ∧ i = 1)) → up (up (up (up (up A 1 (oCd σ).length op) 2 (oCd σ).length a) 3 (oCd σ).length b) 4 (oCd σ).length c) 0 1 (nI ((oCd σ).length + 1)) j i = A j i := fun j i h => by
    rw [up_n (by omega), up_n (by omega), up_n (by omega), up_n (by omega), up_n (by omega)]
  refine ⟨⟨(key 0 0 (by omega)).trans y.1.1, up_s.trans (by show nI ((oCd σ).length + 1) = nI (oCd σ ++ [_]).length; rw [List.length_append]; rfl), (key 0 7 (by omega)).trans y.1.2.2.1, (key 0 19 (by omega)).trans y.1.2.2.2⟩, fun i q hq => ?_, ⟨(key 0 17 (by omega)).trans y.2.2.1.1, fun i x hx => (key 15 i (by omega)).trans (y.2.2.1.2 i x hx)⟩, fun p hp => ?_⟩
  · have hq : (oCd σ ++ [(cl op, a, b, c)])[i]? = some q := hq
    by_cases hi : i = (oCd σ).length
    · subst hi
      rw [List.getElem?_append_right (Nat.le_refl _), Nat.sub_self] at hq
      cases hq
      refine ⟨?_, ?_, ?_, ?_⟩
      · rw [up_n (by omega), up_n (by omega), up_n (by omega), up_n (by omega), up_s]
        obtain ⟨j, hj, rfl⟩ := nI_of z1
        show nI j = nI (cl (nI j))
        rw [cl_nI hj]
      · rw [up_n (by omega), up_n (by omega), up_n (by omega), up_s]
      · rw [up_n (by omega), up_n (by omega), up_s]
      · rw [up_n (by omega), up_s]
    · have hlt : i < (oCd σ).length := by
        have := (List.getElem?_eq_some_iff.mp hq).1
        rw [List.length_append, List.length_cons, List.length_nil] at this
        omega
      rw [List.getElem?_append_left hlt] at hq
      have := y.2.1 i q hq
      refine ⟨?_, ?_, ?_, ?_⟩
      · rw [up_n (by omega), up_n (by omega), up_n (by omega), up_n (by omega), up_n (by omega)]; exact this.1
      · rw [up_n (by omega), up_n (by omega), up_n (by omega), up_n (by omega), up_n (by omega)]; exact this.2.1
      · rw [up_n (by omega), up_n (by omega), up_n (by omega), up_n (by omega), up_n (by omega)]; exact this.2.2.1
      · rw [up_n (by omega), up_n (by omega), up_n (by omega), up_n (by omega), up_n (by omega)]; exact this.2.2.2
  · exact (y.2.2.2 p hp).eqv (v.2 p hp) (fun j i ho => key j i (fun z => by unfold own at ho; omega))
theorem c_N_add_no {E : th_E} {h : th_H} {r : Nat} {A : Nat → Nat → Int32} (nl : NL r h) {N u : Nat} {σ : Ho} (y : NR A σ u) (v : vPs N σ) (hcd : (oCd σ).length ≤ 48) {op a b c : Int32} (hn : ¬ addOk limM σ op a b c) : Xc E m_N_add 2 0 0 [.ref r, .int op, .int a, .int b, .int c] (ov r h A) (Ex (some (.int (-1))) (ov r h A)) := by
  refine Xc.of (by decide) (by simp [Value.category]) (Nat.le_of_ble_eq_true rfl) ?_
  show Xw E m_N_add 2 0 0 0 [some (.ref r), some (.int op), some (.int a), some (.int b), some (.int c), none] [] (ov r h A) _
  refine x_iload_n d_N_add_0 rfl rfl ?_
  refine x_istore d_N_add_1 (by decide) (L' := [some (.ref r), some (.int op), some (.int a), some (.int b), some (.int c), some (.int op)]) rfl ?_
  refine x_iload d_N_add_3 rfl ?_
  refine x_iconst (v := 0) d_N_add_5 (by decide) ?_
  refine x_bipush (v := 26) d_N_add_6 (by decide) ?_
  refine x_invs d_N_add_8 lm_N_81 (as := [.int op, .int 0, .int 26]) (S := []) (cz' := 0) (cs' := 0) (c_N_in _ _ _) rfl rfl (Nat.le_of_ble_eq_true rfl) (by omega) (by decide) (by decide) ?_
  rintro _ _ ⟨rfl, rfl⟩
  refine x_if_eq (tgt := 60) d_N_add_11 rfl (fun q11 => ?_) (fun q11 => ?_)
  · refine x_iconst (v := (-1)) d_N_add_60 (by decide) ?_
    exact x_iret d_N_add_61 rfl rfl ⟨rfl, rfl⟩
  · refine x_aload_n d_N_add_14 rfl rfl ?_
    refine n_get (v := (nI ((oCd σ).length))) d_N_add_15 lf_N_85 nl rfl y.1.2.1 ?_
    refine x_bipush (v := (nI 48)) d_N_add_18 (by decide) ?_
    refine x_icmp_ge (tgt := 60) d_N_add_20 rfl (fun q20 => ?_) (fun q20 => ?_)
    · refine x_iconst (v := (-1)) d_N_add_60 (by decide) ?_
      exact x_iret d_N_add_61 rfl rfl ⟨rfl, rfl⟩
    · refine x_iload d_N_add_23 rfl ?_
      refine x_invs d_N_add_25 lm_N_88 (as := [.int op]) (S := []) (cz' := 0) (cs' := 0) (c_N_first _) rfl rfl (Nat.le_of_ble_eq_true rfl) (by omega) (by decide) (by decide) ?_
      rintro _ _ ⟨rfl, rfl⟩
      refine x_iload_n d_N_add_28 rfl rfl ?_
      refine x_invs d_N_add_29 lm_N_91 (as := [.int (nd1 op), .int a]) (S := []) (cz' := 0) (cs' := 0) (c_N_isRight _ _) rfl rfl (Nat.le_of_ble_eq_true rfl) (by omega) (by decide) (by decide) ?_
      rintro _ _ ⟨rfl, rfl⟩
      refine x_if_eq (tgt := 60) d_N_add_32 rfl (fun q32 => ?_) (fun q32 => ?_)
      · refine x_iconst (v := (-1)) d_N_add_60 (by decide) ?_
        exact x_iret d_N_add_61 rfl rfl ⟨rfl, rfl⟩
      · refine x_iload d_N_add_35 rfl ?_
        refine x_invs d_N_add_37 lm_N_95 (as := [.int op]) (S := []) (cz' := 0) (cs' := 0) (c_N_second _) rfl rfl (Nat.le_of_ble_eq_true rfl) (by omega) (by decide) (by decide) ?_
        rintro _ _ ⟨rfl, rfl⟩
        refine x_iload_n d_N_add_40 rfl rfl ?_
        refine x_invs d_N_add_41 lm_N_91 (as := [.int (nd2 op), .int b]) (S := []) (cz' := 0) (cs' := 0) (c_N_isRight _ _) rfl rfl (Nat.le_of_ble_eq_true rfl) (by omega) (by decide) (by decide) ?_
        rintro _ _ ⟨rfl, rfl⟩
        refine x_if_eq (tgt := 60) d_N_add_44 rfl (fun q44 => ?_) (fun q44 => ?_)
        · refine x_iconst (v := (-1)) d_N_add_60 (by decide) ?_
          exact x_iret d_N_add_61 rfl rfl ⟨rfl, rfl⟩
        · refine x_iload d_N_add_47 rfl ?_
          refine x_invs d_N_add_49 lm_N_98 (as := [.int op]) (S := []) (cz' := 0) (cs' := 0) (c_N_third _) rfl rfl (Nat.le_of_ble_eq_true rfl) (by omega) (by decide) (by decide) ?_
          rintro _ _ ⟨rfl, rfl⟩
          refine x_iload d_N_add_52 rfl ?_
          refine x_invs d_N_add_54 lm_N_91 (as := [.int (nd3 op), .int c]) (S := []) (cz' := 0) (cs' := 0) (c_N_isRight _ _) rfl rfl (Nat.le_of_ble_eq_true rfl) (by omega) (by decide) (by decide) ?_
          rintro _ _ ⟨rfl, rfl⟩
          refine x_if_ne (tgt := 62) d_N_add_57 rfl (fun q57 => ?_) (fun q57 => ?_)
          · exact absurd ((add_iff hcd).mp ⟨(Decidable.byContradiction (fun z => q11 (iB_f z))), q20, (Decidable.byContradiction (fun z => q32 (iB_f z))), (Decidable.byContradiction (fun z => q44 (iB_f z))), (Decidable.byContradiction (fun z => q57 (iB_f z)))⟩) hn
          · refine x_iconst (v := (-1)) d_N_add_60 (by decide) ?_
            exact x_iret d_N_add_61 rfl rfl ⟨rfl, rfl⟩
theorem c_N_add {E : th_E} {h : th_H} {r : Nat} {A : Nat → Nat → Int32} (nl : NL r h) {N u : Nat} {σ : Ho} (y : NR A σ u) (v : vPs N σ) (hcd : (oCd σ).length ≤ 48) {op a b c : Int32} (ok : addOk limM σ op a b c) : Xc E m_N_add 2 0 0 [.ref r, .int op, .int a, .int b, .int c] (ov r h A) (Nx r h (some (.int (nI (oCd σ).length))) (fun A' => NR A' (addM σ op a b c) u)) := by
  have hy := (add_iff hcd).mpr ok
  have hln := ok.1
  refine Xc.of (by decide) (by simp [Value.category]) (Nat.le_of_ble_eq_true rfl) ?_
  show Xw E m_N_add 2 0 0 0 [some (.ref r), some (.int op), some (.int a), some (.int b), some (.int c), none] [] (ov r h A) _
  refine x_iload_n d_N_add_0 rfl rfl ?_
  refine x_istore d_N_add_1 (by decide) (L' := [some (.ref r), some (.int op), some (.int a), some (.int b), some (.int c), some (.int op)]) rfl ?_
  refine x_iload d_N_add_3 rfl ?_
  refine x_iconst (v := 0) d_N_add_5 (by decide) ?_
  refine x_bipush (v := 26) d_N_add_6 (by decide) ?_
  refine x_invs d_N_add_8 lm_N_81 (as := [.int op, .int 0, .int 26]) (S := []) (cz' := 0) (cs' := 0) (c_N_in _ _ _) rfl rfl (Nat.le_of_ble_eq_true rfl) (by omega) (by decide) (by decide) ?_
  rintro _ _ ⟨rfl, rfl⟩
  refine x_if_eq (tgt := 60) d_N_add_11 rfl (fun w_ => absurd w_ (fun z => iB_0.mp z hy.1)) (fun q11 => ?_)
  refine x_aload_n d_N_add_14 rfl rfl ?_
  refine n_get (v := (nI ((oCd σ).length))) d_N_add_15 lf_N_85 nl rfl y.1.2.1 ?_
  refine x_bipush (v := (nI 48)) d_N_add_18 (by decide) ?_
  refine x_icmp_ge (tgt := 60) d_N_add_20 rfl (fun w_ => absurd w_ hy.2.1) (fun q20 => ?_)
  refine x_iload d_N_add_23 rfl ?_
  refine x_invs d_N_add_25 lm_N_88 (as := [.int op]) (S := []) (cz' := 0) (cs' := 0) (c_N_first _) rfl rfl (Nat.le_of_ble_eq_true rfl) (by omega) (by decide) (by decide) ?_
  rintro _ _ ⟨rfl, rfl⟩
  refine x_iload_n d_N_add_28 rfl rfl ?_
  refine x_invs d_N_add_29 lm_N_91 (as := [.int (nd1 op), .int a]) (S := []) (cz' := 0) (cs' := 0) (c_N_isRight _ _) rfl rfl (Nat.le_of_ble_eq_true rfl) (by omega) (by decide) (by decide) ?_
  rintro _ _ ⟨rfl, rfl⟩
  refine x_if_eq (tgt := 60) d_N_add_32 rfl (fun w_ => absurd w_ (fun z => iB_0.mp z hy.2.2.1)) (fun q32 => ?_)
  refine x_iload d_N_add_35 rfl ?_
  refine x_invs d_N_add_37 lm_N_95 (as := [.int op]) (S := []) (cz' := 0) (cs' := 0) (c_N_second _) rfl rfl (Nat.le_of_ble_eq_true rfl) (by omega) (by decide) (by decide) ?_
  rintro _ _ ⟨rfl, rfl⟩
  refine x_iload_n d_N_add_40 rfl rfl ?_
  refine x_invs d_N_add_41 lm_N_91 (as := [.int (nd2 op), .int b]) (S := []) (cz' := 0) (cs' := 0) (c_N_isRight _ _) rfl rfl (Nat.le_of_ble_eq_true rfl) (by omega) (by decide) (by decide) ?_
  rintro _ _ ⟨rfl, rfl⟩
  refine x_if_eq (tgt := 60) d_N_add_44 rfl (fun w_ => absurd w_ (fun z => iB_0.mp z hy.2.2.2.1)) (fun q44 => ?_)
  refine x_iload d_N_add_47 rfl ?_
  refine x_invs d_N_add_49 lm_N_98 (as := [.int op]) (S := []) (cz' := 0) (cs' := 0) (c_N_third _) rfl rfl (Nat.le_of_ble_eq_true rfl) (by omega) (by decide) (by decide) ?_
  rintro _ _ ⟨rfl, rfl⟩
  refine x_iload d_N_add_52 rfl ?_
  refine x_invs d_N_add_54 lm_N_91 (as := [.int (nd3 op), .int c]) (S := []) (cz' := 0) (cs' := 0) (c_N_isRight _ _) rfl rfl (Nat.le_of_ble_eq_true rfl) (by omega) (by decide) (by decide) ?_
  rintro _ _ ⟨rfl, rfl⟩
  refine x_if_ne (tgt := 62) d_N_add_57 rfl (fun q57 => ?_) (fun w_ => absurd w_ (fun z => iB_0.mp z hy.2.2.2.2))
  refine x_aload_n d_N_add_62 rfl rfl ?_
  refine n_fld (j := 1) d_N_add_63 lf_N_7 nl (by decide) rfl rfl ?_
  refine x_aload_n d_N_add_66 rfl rfl ?_
  refine n_get (v := (nI ((oCd σ).length))) d_N_add_67 lf_N_85 nl rfl y.1.2.1 ?_
  refine x_iload d_N_add_70 rfl ?_
  refine n_st (j := 1) (i := (oCd σ).length) (n := 48) (v := op) d_N_add_72 nl (by decide) (by decide) rfl rfl (by omega) (by decide) ?_
  refine x_aload_n d_N_add_73 rfl rfl ?_
  refine n_fld (j := 2) d_N_add_74 lf_N_13 nl (by decide) rfl rfl ?_
  refine x_aload_n d_N_add_77 rfl rfl ?_
  refine n_get (v := (nI ((oCd σ).length))) d_N_add_78 lf_N_85 nl rfl ((up_r (by decide)).trans (y.1.2.1)) ?_
  refine x_iload_n d_N_add_81 rfl rfl ?_
  refine n_st (j := 2) (i := (oCd σ).length) (n := 48) (v := a) d_N_add_82 nl (by decide) (by decide) rfl rfl (by omega) (by decide) ?_
  refine x_aload_n d_N_add_83 rfl rfl ?_
  refine n_fld (j := 3) d_N_add_84 lf_N_16 nl (by decide) rfl rfl ?_
  refine x_aload_n d_N_add_87 rfl rfl ?_
  refine n_get (v := (nI ((oCd σ).length))) d_N_add_88 lf_N_85 nl rfl ((up_r (by decide)).trans ((up_r (by decide)).trans (y.1.2.1))) ?_
  refine x_iload_n d_N_add_91 rfl rfl ?_
  refine n_st (j := 3) (i := (oCd σ).length) (n := 48) (v := b) d_N_add_92 nl (by decide) (by decide) rfl rfl (by omega) (by decide) ?_
  refine x_aload_n d_N_add_93 rfl rfl ?_
  refine n_fld (j := 4) d_N_add_94 lf_N_19 nl (by decide) rfl rfl ?_
  refine x_aload_n d_N_add_97 rfl rfl ?_
  refine n_get (v := (nI ((oCd σ).length))) d_N_add_98 lf_N_85 nl rfl ((up_r (by decide)).trans ((up_r (by decide)).trans ((up_r (by decide)).trans (y.1.2.1)))) ?_
  refine x_iload d_N_add_101 rfl ?_
  refine n_st (j := 4) (i := (oCd σ).length) (n := 48) (v := c) d_N_add_103 nl (by decide) (by decide) rfl rfl (by omega) (by decide) ?_
  refine x_aload_n d_N_add_104 rfl rfl ?_
  refine x_aload_n d_N_add_105 rfl rfl ?_
  refine n_get (v := (nI ((oCd σ).length))) d_N_add_106 lf_N_85 nl rfl ((up_r (by decide)).trans ((up_r (by decide)).trans ((up_r (by decide)).trans ((up_r (by decide)).trans (y.1.2.1))))) ?_
  refine x_iconst (v := (nI 1)) d_N_add_109 (by decide) ?_
  refine x_iadd (v := (nI ((oCd σ).length + 1))) d_N_add_110 (nI_add _ _) ?_
  refine n_put (v := (nI ((oCd σ).length + 1))) d_N_add_111 lp_N_85 nl rfl ?_
  refine x_aload_n d_N_add_114 rfl rfl ?_
  refine n_get (v := (nI ((oCd σ).length + 1))) d_N_add_115 lf_N_85 nl rfl up_s ?_
  refine x_iconst (v := (nI 1)) d_N_add_118 (by decide) ?_
  refine x_isub (v := (nI ((oCd σ).length))) d_N_add_119 (nI_pred _) ?_
  exact x_iret d_N_add_120 rfl rfl ⟨rfl, _, rfl, NR.addC y v.L ok.2.1⟩
