/-! Terms: alike, mixed (printed by wip/gen/mod_term2.py). -/
theorem c_T_hasParts0 {E : th_E} {h : th_H} {a : Nat} {u : Int32 × Int32} (q : TR h (.leaf u) a) : Xc E m_T_hasParts 0 0 0 [.ref a] h (Ex (some (.int 0)) h) := c_T_hasParts q
theorem c_T_hasParts1 {E : th_E} {h : th_H} {a k : Nat} {l r : Tm} (q : TR h (.branch k l r) a) : Xc E m_T_hasParts 0 0 0 [.ref a] h (Ex (some (.int 1)) h) := c_T_hasParts q
theorem tOk_leaf {q : Int32 × Int32} (h : tOk (.leaf q)) : q.1 = 0 ∨ q.1 = 1 ∨ q.1 = 2 ∨ q.1 = 3 := by
  rcases h with (h | h | h) | h
  · exact Or.inl h
  · exact Or.inr (Or.inl h)
  · exact Or.inr (Or.inr (Or.inl h))
  · exact Or.inr (Or.inr (Or.inr (by rw [h])))
theorem tOk_apart {q : Int32 × Int32} {k : Nat} {l r : Tm} (h : tOk (.leaf q)) (h2 : tOk (.branch k l r)) : q.1 ≠ nI k := by
  rcases tOk_leaf h with h | h | h | h <;> rcases h2.1 with rfl | rfl <;> rw [h] <;> decide
theorem tOk_br {k : Nat} {l r : Tm} (h2 : tOk (.branch k l r)) : ¬ (nI k = 0 ∨ nI k = 1 ∨ nI k = 2) := by
  rcases h2.1 with rfl | rfl <;> decide
theorem c_T_alike_s {E : th_E} {h : th_H} {a b d : Nat} {t u : Tm} (q : TR h t a) (q2 : TR h u b) {r : Int32} (hr : (t = u → r = 1) ∧ (¬ t = u → r = 0)) (hs : ¬ tS t = tS u) : Xc E m_T_alike d 0 0 [.ref a, .ref b] h (Ex (some (.int r)) h) := by
  refine Xc.of (by decide) (by simp [Value.category]) (Nat.le_of_ble_eq_true rfl) ?_
  show Xw E m_T_alike d 0 0 0 [some (.ref a), some (.ref b)] [] h _
  refine x_aload_n d_T_alike_0 rfl rfl ?_
  refine x_getf (v := .int (tS t)) d_T_alike_1 lf_T_9 q.k q.s ?_
  refine x_aload_n d_T_alike_4 rfl rfl ?_
  refine x_getf (v := .int (tS u)) d_T_alike_5 lf_T_9 q2.k q2.s ?_
  refine x_icmp_ne (tgt := 22) d_T_alike_8 rfl (fun q8 => ?_) (fun q => absurd q hs)
  refine x_iconst (v := 0) d_T_alike_22 (by decide) ?_
  exact x_iret d_T_alike_23 rfl rfl ⟨by rw [hr.2 (fun z => hs (by rw [z]))], rfl⟩
theorem c_T_alike_n {E : th_E} {h : th_H} {a b d : Nat} {t u : Tm} (q : TR h t a) (q2 : TR h u b) {r : Int32} (hr : (t = u → r = 1) ∧ (¬ t = u → r = 0)) (hs : tS t = tS u) (hn : ¬ tN t = tN u) : Xc E m_T_alike d 0 0 [.ref a, .ref b] h (Ex (some (.int r)) h) := by
  refine Xc.of (by decide) (by simp [Value.category]) (Nat.le_of_ble_eq_true rfl) ?_
  show Xw E m_T_alike d 0 0 0 [some (.ref a), some (.ref b)] [] h _
  refine x_aload_n d_T_alike_0 rfl rfl ?_
  refine x_getf (v := .int (tS t)) d_T_alike_1 lf_T_9 q.k q.s ?_
  refine x_aload_n d_T_alike_4 rfl rfl ?_
  refine x_getf (v := .int (tS u)) d_T_alike_5 lf_T_9 q2.k q2.s ?_
  refine x_icmp_ne (tgt := 22) d_T_alike_8 rfl (fun q => absurd hs q) (fun q8 => ?_)
  refine x_aload_n d_T_alike_11 rfl rfl ?_
  refine x_getf (v := .int (tN t)) d_T_alike_12 lf_T_15 q.k q.n ?_
  refine x_aload_n d_T_alike_15 rfl rfl ?_
  refine x_getf (v := .int (tN u)) d_T_alike_16 lf_T_15 q2.k q2.n ?_
  refine x_icmp_eq (tgt := 24) d_T_alike_19 rfl (fun q => absurd q hn) (fun q19 => ?_)
  refine x_iconst (v := 0) d_T_alike_22 (by decide) ?_
  exact x_iret d_T_alike_23 rfl rfl ⟨by rw [hr.2 (fun z => hn (by rw [z]))], rfl⟩
theorem c_T_alike_l {E : th_E} {h : th_H} {a b d : Nat} {t : Int32 × Int32} {u : Tm} (q : TR h (.leaf t) a) (q2 : TR h u b) {r : Int32} (hr : (.leaf t = u → r = 1) ∧ (¬ .leaf t = u → r = 0)) (hs : t.1 = tS u) (hn : t.2 = tN u) (he : .leaf t = u) (hd1 : 0 + 1 ≤ d) : Xc E m_T_alike d 0 0 [.ref a, .ref b] h (Ex (some (.int r)) h) := by
  refine Xc.of (by decide) (by simp [Value.category]) (Nat.le_of_ble_eq_true rfl) ?_
  show Xw E m_T_alike d 0 0 0 [some (.ref a), some (.ref b)] [] h _
  refine x_aload_n d_T_alike_0 rfl rfl ?_
  refine x_getf (v := .int (t.1)) d_T_alike_1 lf_T_9 q.k q.s ?_
  refine x_aload_n d_T_alike_4 rfl rfl ?_
  refine x_getf (v := .int (tS u)) d_T_alike_5 lf_T_9 q2.k q2.s ?_
  refine x_icmp_ne (tgt := 22) d_T_alike_8 rfl (fun q => absurd hs q) (fun q8 => ?_)
  refine x_aload_n d_T_alike_11 rfl rfl ?_
  refine x_getf (v := .int (t.2)) d_T_alike_12 lf_T_15 q.k q.n ?_
  refine x_aload_n d_T_alike_15 rfl rfl ?_
  refine x_getf (v := .int (tN u)) d_T_alike_16 lf_T_15 q2.k q2.n ?_
  refine x_icmp_eq (tgt := 24) d_T_alike_19 rfl (fun q19 => ?_) (fun q => absurd hn q)
  refine x_aload_n d_T_alike_24 rfl rfl ?_
  refine x_invv d_T_alike_25 lm_T_42 (as := []) (S := []) (c_T_hasParts0 q) q.k rfl rfl rfl (Nat.le_of_ble_eq_true rfl) hd1 (Nat.le_refl 0) (Nat.le_refl 0) ?_
  rintro _ _ ⟨rfl, rfl⟩
  refine x_if_eq (tgt := 38) d_T_alike_28 rfl (fun q28 => ?_) (fun q => absurd rfl q)
  refine x_iconst (v := 1) d_T_alike_38 (by decide) ?_
  exact x_iret d_T_alike_39 rfl rfl ⟨by rw [hr.1 he], rfl⟩
theorem c_T_alike {E : th_E} {h : th_H} : ∀ (t u : Tm) (a b d : Nat) (r : Int32), TR h t a → TR h u b → tOk t → tOk u → tW t ≤ d → ((t = u → r = 1) ∧ (¬ t = u → r = 0)) → Xc E m_T_alike d 0 0 [.ref a, .ref b] h (Ex (some (.int r)) h) := by
  intro t
  induction t with
  | leaf t =>
    intro u a b d r q q2 ok ok2 hd hr
    simp only [tW] at hd
    by_cases hs : t.1 = tS u
    · by_cases hn : t.2 = tN u
      · cases u with
        | leaf u => exact c_T_alike_l q q2 hr hs hn (by rw [show t = u from Prod.ext hs hn]) (by omega)
        | branch k l r => exact absurd hs (tOk_apart ok ok2)
      · exact c_T_alike_n q q2 hr hs hn
    · exact c_T_alike_s q q2 hr hs
  | branch k l r' ihl ihr =>
    intro u a b d r q q2 ok ok2 hd hr
    simp only [tW] at hd
    have hwl := tW_pos l
    have hwr := tW_pos r'
    cases u with
    | leaf u => exact c_T_alike_s q q2 hr (fun z => tOk_apart ok2 ok z.symm)
    | branch k2 l2 r2 =>
      by_cases hk : nI k = nI k2
      · have hkk : k = k2 := nI_inj (by rcases ok.1 with rfl | rfl <;> decide) (by rcases ok2.1 with rfl | rfl <;> decide) hk
        obtain ⟨x1, g1, p1⟩ := q.2.2.2.1
        obtain ⟨y1, g2, p2⟩ := q.2.2.2.2.1
        obtain ⟨x2, g3, p3⟩ := q2.2.2.2.1
        obtain ⟨y2, g4, p4⟩ := q2.2.2.2.2.1
        refine Xc.of (by decide) (by simp [Value.category]) (Nat.le_of_ble_eq_true rfl) ?_
        show Xw E m_T_alike d 0 0 0 [some (.ref a), some (.ref b)] [] h _
        by_cases e1 : l = l2
        · by_cases e2 : r' = r2
          · refine x_aload_n d_T_alike_0 rfl rfl ?_
            refine x_getf (v := .int (nI k)) d_T_alike_1 lf_T_9 q.1 q.2.1 ?_
            refine x_aload_n d_T_alike_4 rfl rfl ?_
            refine x_getf (v := .int (nI k2)) d_T_alike_5 lf_T_9 q2.1 q2.2.1 ?_
            refine x_icmp_ne (tgt := 22) d_T_alike_8 rfl (fun q => absurd hk q) (fun q8 => ?_)
            refine x_aload_n d_T_alike_11 rfl rfl ?_
            refine x_getf (v := .int 0) d_T_alike_12 lf_T_15 q.1 q.2.2.1 ?_
            refine x_aload_n d_T_alike_15 rfl rfl ?_
            refine x_getf (v := .int 0) d_T_alike_16 lf_T_15 q2.1 q2.2.2.1 ?_
            refine x_icmp_eq (tgt := 24) d_T_alike_19 rfl (fun q19 => ?_) (fun q => absurd rfl q)
            refine x_aload_n d_T_alike_24 rfl rfl ?_
            refine x_invv d_T_alike_25 lm_T_42 (as := []) (S := []) (c_T_hasParts1 q) q.1 rfl rfl rfl (Nat.le_of_ble_eq_true rfl) (by omega) (Nat.le_refl 0) (Nat.le_refl 0) ?_
            rintro _ _ ⟨rfl, rfl⟩
            refine x_if_eq (tgt := 38) d_T_alike_28 rfl (fun q => absurd q (by decide)) (fun q28 => ?_)
            refine x_aload_n d_T_alike_31 rfl rfl ?_
            refine x_invv d_T_alike_32 lm_T_42 (as := []) (S := []) (c_T_hasParts1 q2) q2.1 rfl rfl rfl (Nat.le_of_ble_eq_true rfl) (by omega) (Nat.le_refl 0) (Nat.le_refl 0) ?_
            rintro _ _ ⟨rfl, rfl⟩
            refine x_if_ne (tgt := 40) d_T_alike_35 rfl (fun q35 => ?_) (fun q => absurd q (by decide))
            refine x_aload_n d_T_alike_40 rfl rfl ?_
            refine x_getf (v := .ref x1) d_T_alike_41 lf_T_18 q.1 g1 ?_
            refine x_aload_n d_T_alike_44 rfl rfl ?_
            refine x_getf (v := .ref x2) d_T_alike_45 lf_T_18 q2.1 g3 ?_
            refine x_invs d_T_alike_48 lm_T_45 (as := [.ref x1, .ref x2]) (S := []) (ihl _ x1 x2 (d - 1) 1 p1 p3 ok.2.1 ok2.2.1 (by omega) ⟨fun _ => rfl, fun z => absurd e1 z⟩) rfl rfl (Nat.le_of_ble_eq_true rfl) (by omega) (Nat.le_refl 0) (Nat.le_refl 0) ?_
            rintro _ _ ⟨rfl, rfl⟩
            refine x_if_eq (tgt := 72) d_T_alike_51 rfl (fun q => absurd q (by decide)) (fun q51 => ?_)
            refine x_aload_n d_T_alike_54 rfl rfl ?_
            refine x_getf (v := .ref y1) d_T_alike_55 lf_T_22 q.1 g2 ?_
            refine x_aload_n d_T_alike_58 rfl rfl ?_
            refine x_getf (v := .ref y2) d_T_alike_59 lf_T_22 q2.1 g4 ?_
            refine x_invs d_T_alike_62 lm_T_45 (as := [.ref y1, .ref y2]) (S := []) (ihr _ y1 y2 (d - 1) 1 p2 p4 ok.2.2 ok2.2.2 (by omega) ⟨fun _ => rfl, fun z => absurd e2 z⟩) rfl rfl (Nat.le_of_ble_eq_true rfl) (by omega) (Nat.le_refl 0) (Nat.le_refl 0) ?_
            rintro _ _ ⟨rfl, rfl⟩
            refine x_if_eq (tgt := 72) d_T_alike_65 rfl (fun q => absurd q (by decide)) (fun q65 => ?_)
            refine x_iconst (v := 1) d_T_alike_68 (by decide) ?_
            refine x_goto (tgt := 73) d_T_alike_69 rfl ?_
            exact x_iret d_T_alike_73 rfl rfl ⟨by rw [hr.1 (by rw [e1, e2, hkk])], rfl⟩
          · refine x_aload_n d_T_alike_0 rfl rfl ?_
            refine x_getf (v := .int (nI k)) d_T_alike_1 lf_T_9 q.1 q.2.1 ?_
            refine x_aload_n d_T_alike_4 rfl rfl ?_
            refine x_getf (v := .int (nI k2)) d_T_alike_5 lf_T_9 q2.1 q2.2.1 ?_
            refine x_icmp_ne (tgt := 22) d_T_alike_8 rfl (fun q => absurd hk q) (fun q8 => ?_)
            refine x_aload_n d_T_alike_11 rfl rfl ?_
            refine x_getf (v := .int 0) d_T_alike_12 lf_T_15 q.1 q.2.2.1 ?_
            refine x_aload_n d_T_alike_15 rfl rfl ?_
            refine x_getf (v := .int 0) d_T_alike_16 lf_T_15 q2.1 q2.2.2.1 ?_
            refine x_icmp_eq (tgt := 24) d_T_alike_19 rfl (fun q19 => ?_) (fun q => absurd rfl q)
            refine x_aload_n d_T_alike_24 rfl rfl ?_
            refine x_invv d_T_alike_25 lm_T_42 (as := []) (S := []) (c_T_hasParts1 q) q.1 rfl rfl rfl (Nat.le_of_ble_eq_true rfl) (by omega) (Nat.le_refl 0) (Nat.le_refl 0) ?_
            rintro _ _ ⟨rfl, rfl⟩
            refine x_if_eq (tgt := 38) d_T_alike_28 rfl (fun q => absurd q (by decide)) (fun q28 => ?_)
            refine x_aload_n d_T_alike_31 rfl rfl ?_
            refine x_invv d_T_alike_32 lm_T_42 (as := []) (S := []) (c_T_hasParts1 q2) q2.1 rfl rfl rfl (Nat.le_of_ble_eq_true rfl) (by omega) (Nat.le_refl 0) (Nat.le_refl 0) ?_
            rintro _ _ ⟨rfl, rfl⟩
            refine x_if_ne (tgt := 40) d_T_alike_35 rfl (fun q35 => ?_) (fun q => absurd q (by decide))
            refine x_aload_n d_T_alike_40 rfl rfl ?_
            refine x_getf (v := .ref x1) d_T_alike_41 lf_T_18 q.1 g1 ?_
            refine x_aload_n d_T_alike_44 rfl rfl ?_
            refine x_getf (v := .ref x2) d_T_alike_45 lf_T_18 q2.1 g3 ?_
            refine x_invs d_T_alike_48 lm_T_45 (as := [.ref x1, .ref x2]) (S := []) (ihl _ x1 x2 (d - 1) 1 p1 p3 ok.2.1 ok2.2.1 (by omega) ⟨fun _ => rfl, fun z => absurd e1 z⟩) rfl rfl (Nat.le_of_ble_eq_true rfl) (by omega) (Nat.le_refl 0) (Nat.le_refl 0) ?_
            rintro _ _ ⟨rfl, rfl⟩
            refine x_if_eq (tgt := 72) d_T_alike_51 rfl (fun q => absurd q (by decide)) (fun q51 => ?_)
            refine x_aload_n d_T_alike_54 rfl rfl ?_
            refine x_getf (v := .ref y1) d_T_alike_55 lf_T_22 q.1 g2 ?_
            refine x_aload_n d_T_alike_58 rfl rfl ?_
            refine x_getf (v := .ref y2) d_T_alike_59 lf_T_22 q2.1 g4 ?_
            refine x_invs d_T_alike_62 lm_T_45 (as := [.ref y1, .ref y2]) (S := []) (ihr _ y1 y2 (d - 1) 0 p2 p4 ok.2.2 ok2.2.2 (by omega) ⟨fun z => absurd z e2, fun _ => rfl⟩) rfl rfl (Nat.le_of_ble_eq_true rfl) (by omega) (Nat.le_refl 0) (Nat.le_refl 0) ?_
            rintro _ _ ⟨rfl, rfl⟩
            refine x_if_eq (tgt := 72) d_T_alike_65 rfl (fun q65 => ?_) (fun q => absurd rfl q)
            refine x_iconst (v := 0) d_T_alike_72 (by decide) ?_
            exact x_iret d_T_alike_73 rfl rfl ⟨by rw [hr.2 (fun z => e2 (by injection z))], rfl⟩
        · refine x_aload_n d_T_alike_0 rfl rfl ?_
          refine x_getf (v := .int (nI k)) d_T_alike_1 lf_T_9 q.1 q.2.1 ?_
          refine x_aload_n d_T_alike_4 rfl rfl ?_
          refine x_getf (v := .int (nI k2)) d_T_alike_5 lf_T_9 q2.1 q2.2.1 ?_
          refine x_icmp_ne (tgt := 22) d_T_alike_8 rfl (fun q => absurd hk q) (fun q8 => ?_)
          refine x_aload_n d_T_alike_11 rfl rfl ?_
          refine x_getf (v := .int 0) d_T_alike_12 lf_T_15 q.1 q.2.2.1 ?_
          refine x_aload_n d_T_alike_15 rfl rfl ?_
          refine x_getf (v := .int 0) d_T_alike_16 lf_T_15 q2.1 q2.2.2.1 ?_
          refine x_icmp_eq (tgt := 24) d_T_alike_19 rfl (fun q19 => ?_) (fun q => absurd rfl q)
          refine x_aload_n d_T_alike_24 rfl rfl ?_
          refine x_invv d_T_alike_25 lm_T_42 (as := []) (S := []) (c_T_hasParts1 q) q.1 rfl rfl rfl (Nat.le_of_ble_eq_true rfl) (by omega) (Nat.le_refl 0) (Nat.le_refl 0) ?_
          rintro _ _ ⟨rfl, rfl⟩
          refine x_if_eq (tgt := 38) d_T_alike_28 rfl (fun q => absurd q (by decide)) (fun q28 => ?_)
          refine x_aload_n d_T_alike_31 rfl rfl ?_
          refine x_invv d_T_alike_32 lm_T_42 (as := []) (S := []) (c_T_hasParts1 q2) q2.1 rfl rfl rfl (Nat.le_of_ble_eq_true rfl) (by omega) (Nat.le_refl 0) (Nat.le_refl 0) ?_
          rintro _ _ ⟨rfl, rfl⟩
          refine x_if_ne (tgt := 40) d_T_alike_35 rfl (fun q35 => ?_) (fun q => absurd q (by decide))
          refine x_aload_n d_T_alike_40 rfl rfl ?_
          refine x_getf (v := .ref x1) d_T_alike_41 lf_T_18 q.1 g1 ?_
          refine x_aload_n d_T_alike_44 rfl rfl ?_
          refine x_getf (v := .ref x2) d_T_alike_45 lf_T_18 q2.1 g3 ?_
          refine x_invs d_T_alike_48 lm_T_45 (as := [.ref x1, .ref x2]) (S := []) (ihl _ x1 x2 (d - 1) 0 p1 p3 ok.2.1 ok2.2.1 (by omega) ⟨fun z => absurd z e1, fun _ => rfl⟩) rfl rfl (Nat.le_of_ble_eq_true rfl) (by omega) (Nat.le_refl 0) (Nat.le_refl 0) ?_
          rintro _ _ ⟨rfl, rfl⟩
          refine x_if_eq (tgt := 72) d_T_alike_51 rfl (fun q51 => ?_) (fun q => absurd rfl q)
          refine x_iconst (v := 0) d_T_alike_72 (by decide) ?_
          exact x_iret d_T_alike_73 rfl rfl ⟨by rw [hr.2 (fun z => e1 (by injection z))], rfl⟩
      · exact c_T_alike_s q q2 hr hk
def mixM : Int32 → Tm → Int32
  | s, .leaf q => if q.1 = 0 ∨ q.1 = 1 ∨ q.1 = 2 then (s * 31 + q.1 + 1) * 31 + q.2 else s * 31 + q.1 + 1
  | s, .branch k l r => mixM (mixM (s * 31 + nI k + 1) l) r
theorem c_T_mixed {E : th_E} {h : th_H} : ∀ (t : Tm) (a : Nat) (s : Int32) (d : Nat), TR h t a → tOk t → tW t ≤ d → Xc E m_T_mixed d 0 0 [.int s, .ref a] h (Ex (some (.int (mixM s t))) h) := by
  intro t
  induction t with
  | leaf u =>
    intro a s d q ok hd
    simp only [tW] at hd
    refine Xc.of (by decide) (by simp [Value.category]) (Nat.le_of_ble_eq_true rfl) ?_
    show Xw E m_T_mixed d 0 0 0 [some (.int s), some (.ref a), none] [] h _
    by_cases hn : u.1 = 0 ∨ u.1 = 1 ∨ u.1 = 2
    · refine x_iload_n d_T_mixed_0 rfl rfl ?_
      refine x_bipush (v := 31) d_T_mixed_1 (by decide) ?_
      refine x_imul (v := (s * 31)) d_T_mixed_3 rfl ?_
      refine x_aload_n d_T_mixed_4 rfl rfl ?_
      refine x_getf (v := .int u.1) d_T_mixed_5 lf_T_9 q.1 q.2.1 ?_
      refine x_iadd (v := ((s * 31) + u.1)) d_T_mixed_8 rfl ?_
      refine x_iconst (v := 1) d_T_mixed_9 (by decide) ?_
      refine x_iadd (v := (((s * 31) + u.1) + 1)) d_T_mixed_10 rfl ?_
      refine x_istore_n d_T_mixed_11 rfl (by decide) (L' := [some (.int s), some (.ref a), some (.int (((s * 31) + u.1) + 1))]) rfl ?_
      refine x_aload_n d_T_mixed_12 rfl rfl ?_
      refine x_invv d_T_mixed_13 lm_T_31 (as := []) (S := []) (c_T_hasNumber q.1 q.2.1 ⟨fun _ => rfl, fun z => absurd hn z⟩) q.1 rfl rfl rfl (Nat.le_of_ble_eq_true rfl) (by omega) (Nat.le_refl 0) (Nat.le_refl 0) ?_
      rintro _ _ ⟨rfl, rfl⟩
      refine x_if_eq (tgt := 29) d_T_mixed_16 rfl (fun q => absurd q (by decide)) (fun q16 => ?_)
      refine x_iload_n d_T_mixed_19 rfl rfl ?_
      refine x_bipush (v := 31) d_T_mixed_20 (by decide) ?_
      refine x_imul (v := ((((s * 31) + u.1) + 1) * 31)) d_T_mixed_22 rfl ?_
      refine x_aload_n d_T_mixed_23 rfl rfl ?_
      refine x_getf (v := .int u.2) d_T_mixed_24 lf_T_15 q.1 q.2.2.1 ?_
      refine x_iadd (v := (((((s * 31) + u.1) + 1) * 31) + u.2)) d_T_mixed_27 rfl ?_
      exact x_iret d_T_mixed_28 rfl rfl ⟨by rw [mixM, if_pos hn], rfl⟩
    · refine x_iload_n d_T_mixed_0 rfl rfl ?_
      refine x_bipush (v := 31) d_T_mixed_1 (by decide) ?_
      refine x_imul (v := (s * 31)) d_T_mixed_3 rfl ?_
      refine x_aload_n d_T_mixed_4 rfl rfl ?_
      refine x_getf (v := .int u.1) d_T_mixed_5 lf_T_9 q.1 q.2.1 ?_
      refine x_iadd (v := ((s * 31) + u.1)) d_T_mixed_8 rfl ?_
      refine x_iconst (v := 1) d_T_mixed_9 (by decide) ?_
      refine x_iadd (v := (((s * 31) + u.1) + 1)) d_T_mixed_10 rfl ?_
      refine x_istore_n d_T_mixed_11 rfl (by decide) (L' := [some (.int s), some (.ref a), some (.int (((s * 31) + u.1) + 1))]) rfl ?_
      refine x_aload_n d_T_mixed_12 rfl rfl ?_
      refine x_invv d_T_mixed_13 lm_T_31 (as := []) (S := []) (c_T_hasNumber q.1 q.2.1 ⟨fun z => absurd z hn, fun _ => rfl⟩) q.1 rfl rfl rfl (Nat.le_of_ble_eq_true rfl) (by omega) (Nat.le_refl 0) (Nat.le_refl 0) ?_
      rintro _ _ ⟨rfl, rfl⟩
      refine x_if_eq (tgt := 29) d_T_mixed_16 rfl (fun q16 => ?_) (fun q => absurd rfl q)
      refine x_aload_n d_T_mixed_29 rfl rfl ?_
      refine x_invv d_T_mixed_30 lm_T_42 (as := []) (S := []) (c_T_hasParts0 q) q.1 rfl rfl rfl (Nat.le_of_ble_eq_true rfl) (by omega) (Nat.le_refl 0) (Nat.le_refl 0) ?_
      rintro _ _ ⟨rfl, rfl⟩
      refine x_if_ne (tgt := 38) d_T_mixed_33 rfl (fun q => absurd rfl q) (fun q33 => ?_)
      refine x_iload_n d_T_mixed_36 rfl rfl ?_
      exact x_iret d_T_mixed_37 rfl rfl ⟨by rw [mixM, if_neg hn], rfl⟩
  | branch k l r ihl ihr =>
    intro a s d q ok hd
    simp only [tW] at hd
    have hwl := tW_pos l
    have hwr := tW_pos r
    have hn := tOk_br ok
    obtain ⟨x1, g1, p1⟩ := q.2.2.2.1
    obtain ⟨y1, g2, p2⟩ := q.2.2.2.2.1
    refine Xc.of (by decide) (by simp [Value.category]) (Nat.le_of_ble_eq_true rfl) ?_
    show Xw E m_T_mixed d 0 0 0 [some (.int s), some (.ref a), none] [] h _
    refine x_iload_n d_T_mixed_0 rfl rfl ?_
    refine x_bipush (v := 31) d_T_mixed_1 (by decide) ?_
    refine x_imul (v := (s * 31)) d_T_mixed_3 rfl ?_
    refine x_aload_n d_T_mixed_4 rfl rfl ?_
    refine x_getf (v := .int (nI k)) d_T_mixed_5 lf_T_9 q.1 q.2.1 ?_
    refine x_iadd (v := ((s * 31) + (nI k))) d_T_mixed_8 rfl ?_
    refine x_iconst (v := 1) d_T_mixed_9 (by decide) ?_
    refine x_iadd (v := (((s * 31) + (nI k)) + 1)) d_T_mixed_10 rfl ?_
    refine x_istore_n d_T_mixed_11 rfl (by decide) (L' := [some (.int s), some (.ref a), some (.int (((s * 31) + (nI k)) + 1))]) rfl ?_
    refine x_aload_n d_T_mixed_12 rfl rfl ?_
    refine x_invv d_T_mixed_13 lm_T_31 (as := []) (S := []) (c_T_hasNumber q.1 q.2.1 ⟨fun z => absurd z hn, fun _ => rfl⟩) q.1 rfl rfl rfl (Nat.le_of_ble_eq_true rfl) (by omega) (Nat.le_refl 0) (Nat.le_refl 0) ?_
    rintro _ _ ⟨rfl, rfl⟩
    refine x_if_eq (tgt := 29) d_T_mixed_16 rfl (fun q16 => ?_) (fun q => absurd rfl q)
    refine x_aload_n d_T_mixed_29 rfl rfl ?_
    refine x_invv d_T_mixed_30 lm_T_42 (as := []) (S := []) (c_T_hasParts1 q) q.1 rfl rfl rfl (Nat.le_of_ble_eq_true rfl) (by omega) (Nat.le_refl 0) (Nat.le_refl 0) ?_
    rintro _ _ ⟨rfl, rfl⟩
    refine x_if_ne (tgt := 38) d_T_mixed_33 rfl (fun q33 => ?_) (fun q => absurd q (by decide))
    refine x_iload_n d_T_mixed_38 rfl rfl ?_
    refine x_aload_n d_T_mixed_39 rfl rfl ?_
    refine x_getf (v := .ref x1) d_T_mixed_40 lf_T_18 q.1 g1 ?_
    refine x_invs d_T_mixed_43 lm_T_49 (as := [.int (((s * 31) + (nI k)) + 1), .ref x1]) (S := []) (ihl x1 (s * 31 + nI k + 1) (d - 1) p1 ok.2.1 (by omega)) rfl rfl (Nat.le_of_ble_eq_true rfl) (by omega) (Nat.le_refl 0) (Nat.le_refl 0) ?_
    rintro _ _ ⟨rfl, rfl⟩
    refine x_aload_n d_T_mixed_46 rfl rfl ?_
    refine x_getf (v := .ref y1) d_T_mixed_47 lf_T_22 q.1 g2 ?_
    refine x_invs d_T_mixed_50 lm_T_49 (as := [.int (mixM (s * 31 + nI k + 1) l), .ref y1]) (S := []) (ihr y1 (mixM (s * 31 + nI k + 1) l) (d - 1) p2 ok.2.2 (by omega)) rfl rfl (Nat.le_of_ble_eq_true rfl) (by omega) (Nat.le_refl 0) (Nat.le_refl 0) ?_
    rintro _ _ ⟨rfl, rfl⟩
    exact x_iret d_T_mixed_53 rfl rfl ⟨rfl, rfl⟩
