/-! The reference: named, isSame, behind (printed by wip/gen/mod_ref5.py). -/
theorem in_ct {x : Int32} {n : Nat} (hn : n < 2 ^ 30) : (nI 0 ≤ x ∧ x ≤ nI n - nI 1) ↔ (¬ x < 0 ∧ x < nI n) := by
  have e1 : (nI n - nI 1).toInt = (n : Int) - 1 := pk_sub_toInt hn (by decide)
  have e2 : (nI n).toInt = (n : Int) := nI_toInt (by omega)
  have e3 : (nI 0).toInt = 0 := rfl
  have e4 : (0 : Int32).toInt = 0 := rfl
  rw [Int32.le_iff_toInt_le, Int32.le_iff_toInt_le, Int32.lt_iff_toInt_lt, Int32.lt_iff_toInt_lt, e1, e2, e3, e4]
  omega
def nmV (σ : Ho) (t : Tm) : Int32 := match pidM σ t with
  | some q => nI q
  | none => -1
theorem c_N_named {E : th_E} {h : th_H} {r : Nat} {A : Nat → Nat → Int32} (nl : NL r h) {N u : Nat} {σ : Ho} (y : NR A σ u) (v : vPs N σ) {s : Nat} {t : Tm} (hs : s < 254) (sl : SL A s (tF t)) : Xc E m_N_named 1 0 0 [.ref r, .int (nI s)] (ov r h A) (Ex (some (.int (nmV σ t))) (ov r h A)) := by
  refine Xc.of (by decide) (by simp [Value.category]) (Nat.le_of_ble_eq_true rfl) ?_
  show Xw E m_N_named 1 0 0 0 [some (.ref r), some (.int (nI s))] [] (ov r h A) _
  have hct := v.1
  refine x_aload_n d_N_named_0 rfl rfl ?_
  refine x_iload_n d_N_named_1 rfl rfl ?_
  refine x_iconst (v := (nI 0)) d_N_named_2 (by decide) ?_
  refine x_invv d_N_named_3 lm_N_66 (as := [.int (nI s), .int (nI 0)]) (S := []) (cz' := 0) (cs' := 0) (c_N_sortOf nl (by omega) (by decide)) nl.o rfl rfl rfl (Nat.le_of_ble_eq_true rfl) (by omega) (by decide) (by decide) ?_
  rintro _ _ ⟨rfl, rfl⟩
  rw [sl.s0]
  refine x_iconst (v := (nI 2)) d_N_named_6 (by decide) ?_
  refine x_icmp_ne (tgt := 38) d_N_named_7 rfl (fun q7 => ?_) (fun q7 => ?_)
  · have e : nmV σ t = -1 := by unfold nmV pidM; rw [if_neg (fun z => q7 z.1)]
    refine x_iconst (v := (-1)) d_N_named_38 (by decide) ?_
    exact x_iret d_N_named_39 rfl rfl ⟨by rw [e], rfl⟩
  · refine x_aload_n d_N_named_10 rfl rfl ?_
    refine x_iload_n d_N_named_11 rfl rfl ?_
    refine x_iconst (v := (nI 0)) d_N_named_12 (by decide) ?_
    refine x_invv d_N_named_13 lm_N_70 (as := [.int (nI s), .int (nI 0)]) (S := []) (cz' := 0) (cs' := 0) (c_N_numberOf nl (by omega) (by decide)) nl.o rfl rfl rfl (Nat.le_of_ble_eq_true rfl) (by omega) (by decide) (by decide) ?_
    rintro _ _ ⟨rfl, rfl⟩
    rw [sl.n0]
    refine x_iconst (v := (nI 0)) d_N_named_16 (by decide) ?_
    refine x_aload_n d_N_named_17 rfl rfl ?_
    refine n_get (v := (nI (oCt σ))) d_N_named_18 lf_N_131 nl rfl y.1.2.2.1 ?_
    refine x_iconst (v := (nI 1)) d_N_named_21 (by decide) ?_
    refine x_isub (v := (nI (oCt σ) - nI 1)) d_N_named_22 rfl ?_
    refine x_invs d_N_named_23 lm_N_81 (as := [.int (tN t), .int (nI 0), .int (nI (oCt σ) - nI 1)]) (S := []) (cz' := 0) (cs' := 0) (c_N_in _ _ _) rfl rfl (Nat.le_of_ble_eq_true rfl) (by omega) (by decide) (by decide) ?_
    rintro _ _ ⟨rfl, rfl⟩
    refine x_if_eq (tgt := 38) d_N_named_26 rfl (fun q26 => ?_) (fun q26 => ?_)
    · have e : nmV σ t = -1 := by unfold nmV pidM; rw [if_neg (fun z => iB_0.mp q26 ((in_ct (by omega)).mpr z.2))]
      refine x_iconst (v := (-1)) d_N_named_38 (by decide) ?_
      exact x_iret d_N_named_39 rfl rfl ⟨by rw [e], rfl⟩
    · have hb1 : nI 0 ≤ tN t ∧ tN t ≤ nI (oCt σ) - nI 1 := by by_cases z : nI 0 ≤ tN t ∧ tN t ≤ nI (oCt σ) - nI 1; exact z; exact absurd (iB_f z) q26
      have hh := (in_ct (n := oCt σ) (by omega)).mp hb1
      have e : nmV σ t = tN t := by unfold nmV pidM; rw [if_pos ⟨q7, hh⟩]; obtain ⟨j, hj, e⟩ := nI_of hh.1; rw [e, cl_nI hj]
      refine x_aload_n d_N_named_29 rfl rfl ?_
      refine x_iload_n d_N_named_30 rfl rfl ?_
      refine x_iconst (v := (nI 0)) d_N_named_31 (by decide) ?_
      refine x_invv d_N_named_32 lm_N_70 (as := [.int (nI s), .int (nI 0)]) (S := []) (cz' := 0) (cs' := 0) (c_N_numberOf nl (by omega) (by decide)) nl.o rfl rfl rfl (Nat.le_of_ble_eq_true rfl) (by omega) (by decide) (by decide) ?_
      rintro _ _ ⟨rfl, rfl⟩
      rw [sl.n0]
      refine x_goto (tgt := 39) d_N_named_35 rfl ?_
      exact x_iret d_N_named_39 rfl rfl ⟨by rw [e], rfl⟩
def Sm (l m : List (Int32 × Int32)) (k : Nat) : Prop := l.length = m.length ∧ l.take k = m.take k
def sI (l m : List (Int32 × Int32)) (k : Nat) : Int32 := iB (l.length = m.length ∧ l.take k = m.take k)
theorem Sm_all {l m : List (Int32 × Int32)} : (l.length = m.length ∧ l.take l.length = m.take l.length) ↔ l = m := ⟨fun z => by have := z.2; rw [List.take_length, z.1, List.take_length] at this; exact this, fun z => by rw [z]; exact ⟨rfl, rfl⟩⟩
theorem Sm_s {l m : List (Int32 × Int32)} {k : Nat} {p q : Int32 × Int32} (hp : l[k]? = some p) (hq : m[k]? = some q) : (l.length = m.length ∧ l.take (k + 1) = m.take (k + 1)) ↔ (l.length = m.length ∧ l.take k = m.take k) ∧ p = q := by
  rw [List.take_succ, List.take_succ, hp, hq]
  constructor
  · intro ⟨a, b⟩
    have := List.append_inj b (by rw [List.length_take, List.length_take, a])
    exact ⟨⟨a, this.1⟩, by simpa using this.2⟩
  · intro ⟨⟨a, b⟩, c⟩
    exact ⟨a, by rw [b, c]⟩
theorem nar_iB (b : Prop) [Decidable b] : narrow .boolean (.int (iB b)) = .int (iB b) := by unfold iB; split <;> rfl
theorem N_isSame_loop {E : th_E} {h : th_H} {r : Nat} {A : Nat → Nat → Int32} (nl : NL r h) {a b : Nat} {l m : List (Int32 × Int32)} (ha : a < 254) (hb : b < 254) (sa : SL A a l) (sb : SL A b m) (hl : l.length ≤ 15) (hm : m.length ≤ 15) : ∀ n k, l.length + 1 ≤ n + k → k ≤ l.length → Xw E m_N_isSame 1 0 0 22 [some (.ref r), some (.int (nI a)), some (.int (nI b)), some (.int (sI l m k)), some (.int (nI k))] [] (ov r h A) (Ex (some (.int (iB (l = m)))) (ov r h A)) := by
  intro n
  induction n with
  | zero => exact fun k h1 h2 => absurd h1 (by omega)
  | succ n ih =>
    intro k h1 h2
    refine x_iload d_N_isSame_22 rfl ?_
    refine x_aload_n d_N_isSame_24 rfl rfl ?_
    refine x_iload_n d_N_isSame_25 rfl rfl ?_
    refine x_invv d_N_isSame_26 lm_N_77 (as := [.int (nI a)]) (S := [.int (nI k)]) (cz' := 0) (cs' := 0) (c_N_weight nl (by omega)) nl.o rfl rfl rfl (Nat.le_of_ble_eq_true rfl) (by omega) (by decide) (by decide) ?_
    rintro _ _ ⟨rfl, rfl⟩
    rw [sa.1]
    refine x_icmp_ge (tgt := 82) d_N_isSame_29 rfl (fun q29 => ?_) (fun q29 => ?_)
    · obtain rfl : k = l.length := by have := (nI_leI (by omega) (by omega)).mp q29; omega
      refine x_iload_n d_N_isSame_82 rfl rfl ?_
      exact x_iret d_N_isSame_83 rfl (nar_iB _) ⟨by unfold sI; rw [iB_i Sm_all], rfl⟩
    · have hk : k < l.length := Nat.lt_of_not_le (fun z => q29 (nI_le z (by omega)))
      refine x_iload_n d_N_isSame_32 rfl rfl ?_
      refine x_if_eq (tgt := 82) d_N_isSame_33 rfl (fun q33 => ?_) (fun q33 => ?_)
      · have hno := iB_0.mp q33
        refine x_iload_n d_N_isSame_82 rfl rfl ?_
        exact x_iret d_N_isSame_83 rfl (nar_iB _) ⟨by unfold sI; rw [iB_f hno, iB_f (fun z => hno (by rw [z]; exact ⟨rfl, rfl⟩))], rfl⟩
      · have hyes : l.length = m.length ∧ l.take k = m.take k := by by_cases z : l.length = m.length ∧ l.take k = m.take k; exact z; exact absurd (iB_f z) q33
        have hgl : l[k]? = some l[k] := List.getElem?_eq_getElem hk
        have hkm : k < m.length := hyes.1 ▸ hk
        have hgm : m[k]? = some m[k] := List.getElem?_eq_getElem hkm
        refine x_aload_n d_N_isSame_36 rfl rfl ?_
        refine x_iload_n d_N_isSame_37 rfl rfl ?_
        refine x_iload d_N_isSame_38 rfl ?_
        refine x_invv d_N_isSame_40 lm_N_66 (as := [.int (nI a), .int (nI k)]) (S := []) (cz' := 0) (cs' := 0) (c_N_sortOf nl (by omega) (by omega)) nl.o rfl rfl rfl (Nat.le_of_ble_eq_true rfl) (by omega) (by decide) (by decide) ?_
        rintro _ _ ⟨rfl, rfl⟩
        rw [(sa.2 k _ hgl).1]
        refine x_aload_n d_N_isSame_43 rfl rfl ?_
        refine x_iload_n d_N_isSame_44 rfl rfl ?_
        refine x_iload d_N_isSame_45 rfl ?_
        refine x_invv d_N_isSame_47 lm_N_66 (as := [.int (nI b), .int (nI k)]) (S := [.int (l[k].1)]) (cz' := 0) (cs' := 0) (c_N_sortOf nl (by omega) (by omega)) nl.o rfl rfl rfl (Nat.le_of_ble_eq_true rfl) (by omega) (by decide) (by decide) ?_
        rintro _ _ ⟨rfl, rfl⟩
        rw [(sb.2 k _ hgm).1]
        refine x_icmp_ne (tgt := 74) d_N_isSame_50 rfl (fun q50 => ?_) (fun q50 => ?_)
        · have e : sI l m (k + 1) = 0 := iB_f (fun z => q50 (by rw [((Sm_s hgl hgm).mp z).2]))
          refine x_iconst (v := (nI 0)) d_N_isSame_74 (by decide) ?_
          refine x_istore_n d_N_isSame_75 rfl (by decide) (L' := [some (.ref r), some (.int (nI a)), some (.int (nI b)), some (.int (nI 0)), some (.int (nI k))]) rfl ?_
          refine x_iinc d_N_isSame_76 rfl (v := (nI (k + 1))) (nI_1 _) (by decide) (L' := [some (.ref r), some (.int (nI a)), some (.int (nI b)), some (.int (nI 0)), some (.int (nI (k + 1)))]) rfl ?_
          refine x_goto (tgt := 22) d_N_isSame_79 rfl ?_
          exact (by have key := ih (k + 1) (by omega) (by omega); rw [e] at key; exact key)
        · refine x_aload_n d_N_isSame_53 rfl rfl ?_
          refine x_iload_n d_N_isSame_54 rfl rfl ?_
          refine x_iload d_N_isSame_55 rfl ?_
          refine x_invv d_N_isSame_57 lm_N_70 (as := [.int (nI a), .int (nI k)]) (S := []) (cz' := 0) (cs' := 0) (c_N_numberOf nl (by omega) (by omega)) nl.o rfl rfl rfl (Nat.le_of_ble_eq_true rfl) (by omega) (by decide) (by decide) ?_
          rintro _ _ ⟨rfl, rfl⟩
          rw [(sa.2 k _ hgl).2]
          refine x_aload_n d_N_isSame_60 rfl rfl ?_
          refine x_iload_n d_N_isSame_61 rfl rfl ?_
          refine x_iload d_N_isSame_62 rfl ?_
          refine x_invv d_N_isSame_64 lm_N_70 (as := [.int (nI b), .int (nI k)]) (S := [.int (l[k].2)]) (cz' := 0) (cs' := 0) (c_N_numberOf nl (by omega) (by omega)) nl.o rfl rfl rfl (Nat.le_of_ble_eq_true rfl) (by omega) (by decide) (by decide) ?_
          rintro _ _ ⟨rfl, rfl⟩
          rw [(sb.2 k _ hgm).2]
          refine x_icmp_ne (tgt := 74) d_N_isSame_67 rfl (fun q67 => ?_) (fun q67 => ?_)
          · have e : sI l m (k + 1) = 0 := iB_f (fun z => q67 (by rw [((Sm_s hgl hgm).mp z).2]))
            refine x_iconst (v := (nI 0)) d_N_isSame_74 (by decide) ?_
            refine x_istore_n d_N_isSame_75 rfl (by decide) (L' := [some (.ref r), some (.int (nI a)), some (.int (nI b)), some (.int (nI 0)), some (.int (nI k))]) rfl ?_
            refine x_iinc d_N_isSame_76 rfl (v := (nI (k + 1))) (nI_1 _) (by decide) (L' := [some (.ref r), some (.int (nI a)), some (.int (nI b)), some (.int (nI 0)), some (.int (nI (k + 1)))]) rfl ?_
            refine x_goto (tgt := 22) d_N_isSame_79 rfl ?_
            exact (by have key := ih (k + 1) (by omega) (by omega); rw [e] at key; exact key)
          · have e : sI l m (k + 1) = 1 := iB_t ((Sm_s hgl hgm).mpr ⟨hyes, Prod.ext q50 q67⟩)
            refine x_iconst (v := (nI 1)) d_N_isSame_70 (by decide) ?_
            refine x_goto (tgt := 75) d_N_isSame_71 rfl ?_
            refine x_istore_n d_N_isSame_75 rfl (by decide) (L' := [some (.ref r), some (.int (nI a)), some (.int (nI b)), some (.int (nI 1)), some (.int (nI k))]) rfl ?_
            refine x_iinc d_N_isSame_76 rfl (v := (nI (k + 1))) (nI_1 _) (by decide) (L' := [some (.ref r), some (.int (nI a)), some (.int (nI b)), some (.int (nI 1)), some (.int (nI (k + 1)))]) rfl ?_
            refine x_goto (tgt := 22) d_N_isSame_79 rfl ?_
            exact (by have key := ih (k + 1) (by omega) (by omega); rw [e] at key; exact key)
theorem c_N_isSame {E : th_E} {h : th_H} {r : Nat} {A : Nat → Nat → Int32} (nl : NL r h) {a b : Nat} {l m : List (Int32 × Int32)} (ha : a < 254) (hb : b < 254) (sa : SL A a l) (sb : SL A b m) (hl : l.length ≤ 15) (hm : m.length ≤ 15) : Xc E m_N_isSame 1 0 0 [.ref r, .int (nI a), .int (nI b)] (ov r h A) (Ex (some (.int (iB (l = m)))) (ov r h A)) := by
  refine Xc.of (by decide) (by simp [Value.category]) (Nat.le_of_ble_eq_true rfl) ?_
  show Xw E m_N_isSame 1 0 0 0 [some (.ref r), some (.int (nI a)), some (.int (nI b)), none, none] [] (ov r h A) _
  refine x_aload_n d_N_isSame_0 rfl rfl ?_
  refine x_iload_n d_N_isSame_1 rfl rfl ?_
  refine x_invv d_N_isSame_2 lm_N_77 (as := [.int (nI a)]) (S := []) (cz' := 0) (cs' := 0) (c_N_weight nl (by omega)) nl.o rfl rfl rfl (Nat.le_of_ble_eq_true rfl) (by omega) (by decide) (by decide) ?_
  rintro _ _ ⟨rfl, rfl⟩
  rw [sa.1]
  refine x_aload_n d_N_isSame_5 rfl rfl ?_
  refine x_iload_n d_N_isSame_6 rfl rfl ?_
  refine x_invv d_N_isSame_7 lm_N_77 (as := [.int (nI b)]) (S := [.int (nI (l.length))]) (cz' := 0) (cs' := 0) (c_N_weight nl (by omega)) nl.o rfl rfl rfl (Nat.le_of_ble_eq_true rfl) (by omega) (by decide) (by decide) ?_
  rintro _ _ ⟨rfl, rfl⟩
  rw [sb.1]
  refine x_icmp_ne (tgt := 17) d_N_isSame_10 rfl (fun q10 => ?_) (fun q10 => ?_)
  · have e : sI l m 0 = 0 := iB_f (fun z => q10 (by rw [z.1]))
    refine x_iconst (v := (nI 0)) d_N_isSame_17 (by decide) ?_
    refine x_istore_n d_N_isSame_18 rfl (by decide) (L' := [some (.ref r), some (.int (nI a)), some (.int (nI b)), some (.int (nI 0)), none]) rfl ?_
    refine x_iconst (v := (nI 0)) d_N_isSame_19 (by decide) ?_
    refine x_istore d_N_isSame_20 (by decide) (L' := [some (.ref r), some (.int (nI a)), some (.int (nI b)), some (.int (nI 0)), some (.int (nI 0))]) rfl ?_
    exact (by have key := N_isSame_loop (E := E) nl ha hb sa sb hl hm (l.length + 1) 0 (by omega) (by omega); rw [e] at key; exact key)
  · have e : sI l m 0 = 1 := iB_t ⟨(nI_eq (by omega) (by omega)).mp q10, by rw [List.take_zero, List.take_zero]⟩
    refine x_iconst (v := (nI 1)) d_N_isSame_13 (by decide) ?_
    refine x_goto (tgt := 18) d_N_isSame_14 rfl ?_
    refine x_istore_n d_N_isSame_18 rfl (by decide) (L' := [some (.ref r), some (.int (nI a)), some (.int (nI b)), some (.int (nI 1)), none]) rfl ?_
    refine x_iconst (v := (nI 0)) d_N_isSame_19 (by decide) ?_
    refine x_istore d_N_isSame_20 (by decide) (L' := [some (.ref r), some (.int (nI a)), some (.int (nI b)), some (.int (nI 1)), some (.int (nI 0))]) rfl ?_
    exact (by have key := N_isSame_loop (E := E) nl ha hb sa sb hl hm (l.length + 1) 0 (by omega) (by omega); rw [e] at key; exact key)
def tFs : List Tm → List (Int32 × Int32)
  | [] => []
  | x :: l => tF x ++ tFs l
theorem tFs_len : ∀ ts : List Tm, ts.length ≤ (tFs ts).length
  | [] => Nat.le_refl _
  | x :: l => by have := tFs_len l; have := tF_pos x; simp only [tFs, List.length_cons, List.length_append]; omega
theorem N_behind_loop {E : th_E} {h : th_H} {r : Nat} {A : Nat → Nat → Int32} (nl : NL r h) {s e : Nat} {w0 : Int32} {l post : List (Int32 × Int32)} (hs : s < 254) (sl : SL A s l) (he15 : e ≤ 15) : ∀ (m : Nat) (ts : List Tm) (k : Nat), (∀ x ∈ ts, tOk x) → l.drop k = tFs ts ++ post → k + (tFs ts).length = e → (tFs ts).length ≤ m → Xw E m_N_behind 1 0 0 5 [some (.ref r), some (.int (nI s)), some (.int w0), some (.int (nI ts.length)), some (.int (nI k))] [] (ov r h A) (Ex (some (.int (nI e))) (ov r h A)) := by
  intro m
  induction m with
  | zero =>
    intro ts k hok hd he hm
    cases ts with
    | nil =>
      obtain rfl : k = e := by simp only [tFs, List.length_nil] at he; omega
      refine x_iload_n d_N_behind_5 rfl rfl ?_
      refine x_if_le (tgt := 39) d_N_behind_6 rfl (fun _ => ?_) (fun w_ => absurd (show nI 0 ≤ 0 by decide) w_)
      refine x_iload d_N_behind_39 rfl ?_
      exact x_iret d_N_behind_41 rfl rfl ⟨rfl, rfl⟩
    | cons x ts => have := tF_pos x; simp only [tFs, List.length_append] at hm; omega
  | succ m ih =>
    intro ts k hok hd he hm
    cases ts with
    | nil =>
      obtain rfl : k = e := by simp only [tFs, List.length_nil] at he; omega
      refine x_iload_n d_N_behind_5 rfl rfl ?_
      refine x_if_le (tgt := 39) d_N_behind_6 rfl (fun _ => ?_) (fun w_ => absurd (show nI 0 ≤ 0 by decide) w_)
      refine x_iload d_N_behind_39 rfl ?_
      exact x_iret d_N_behind_41 rfl rfl ⟨rfl, rfl⟩
    | cons x ts =>
      have hx0 := tF_pos x
      have hts : ts.length ≤ (tFs ts).length := tFs_len ts
      have hg : l[k]? = some (tS x, tN x) := by
        have z : (l.drop k)[0]? = some (tS x, tN x) := by rw [hd]; simp only [tFs, List.append_assoc]; rw [List.getElem?_append_left hx0]; exact tF_0 x
        rw [List.getElem?_drop] at z
        exact z
      simp only [tFs, List.length_append] at he hm
      show Xw E m_N_behind 1 0 0 5 [some (.ref r), some (.int (nI s)), some (.int w0), some (.int (nI (ts.length + 1))), some (.int (nI k))] [] (ov r h A) (Ex (some (.int (nI e))) (ov r h A))
      refine x_iload_n d_N_behind_5 rfl rfl ?_
      refine x_if_le (tgt := 39) d_N_behind_6 rfl (fun w_ => absurd w_ (nI_nle (by omega) (by omega))) (fun q6 => ?_)
      refine x_aload_n d_N_behind_9 rfl rfl ?_
      refine x_iload_n d_N_behind_10 rfl rfl ?_
      refine x_iload d_N_behind_11 rfl ?_
      refine x_invv d_N_behind_13 lm_N_66 (as := [.int (nI s), .int (nI k)]) (S := []) (cz' := 0) (cs' := 0) (c_N_sortOf nl (by omega) (by omega)) nl.o rfl rfl rfl (Nat.le_of_ble_eq_true rfl) (by omega) (by decide) (by decide) ?_
      rintro _ _ ⟨rfl, rfl⟩
      rw [(sl.2 k _ hg).1]
      refine x_iconst (v := (nI 4)) d_N_behind_16 (by decide) ?_
      refine x_icmp_lt (tgt := 26) d_N_behind_17 rfl (fun q17 => ?_) (fun q17 => ?_)
      · obtain ⟨q, rfl⟩ : ∃ q, x = .leaf q := by cases x with | leaf q => exact ⟨q, rfl⟩ | branch k' a b => exact absurd (show nI k' < nI 4 from q17) (by rcases (hok _ List.mem_cons_self).1 with rfl | rfl <;> decide)
        refine x_iload_n d_N_behind_26 rfl rfl ?_
        refine x_iconst (v := (nI 1)) d_N_behind_27 (by decide) ?_
        refine x_isub (v := (nI (ts.length))) d_N_behind_28 (nI_pred _) ?_
        refine x_istore_n d_N_behind_29 rfl (by decide) (L' := [some (.ref r), some (.int (nI s)), some (.int w0), some (.int (nI (ts.length))), some (.int (nI k))]) rfl ?_
        refine x_iload d_N_behind_30 rfl ?_
        refine x_iconst (v := (nI 1)) d_N_behind_32 (by decide) ?_
        refine x_iadd (v := (nI (k + 1))) d_N_behind_33 (nI_add _ _) ?_
        refine x_istore d_N_behind_34 (by decide) (L' := [some (.ref r), some (.int (nI s)), some (.int w0), some (.int (nI (ts.length))), some (.int (nI (k + 1)))]) rfl ?_
        refine x_goto (tgt := 5) d_N_behind_36 rfl ?_
        exact ih ts (k + 1) (fun z hz => hok z (List.mem_cons_of_mem _ hz)) (by rw [← List.drop_drop, hd]; rfl) (by simp only [tFs, tF, List.length_append, List.length_cons, List.length_nil] at he ⊢; omega) (by simp only [tFs, tF, List.length_append, List.length_cons, List.length_nil] at hm; omega)
      · obtain ⟨k', a, b, rfl⟩ : ∃ k' a b, x = .branch k' a b := by cases x with | leaf q => exact absurd (show q.1 < nI 4 by rcases (show (q.1 = 0 ∨ q.1 = 1 ∨ q.1 = 2) ∨ q = (3, 0) from hok _ List.mem_cons_self) with (z | z | z) | z <;> rw [z] <;> decide) q17 | branch k' a b => exact ⟨k', a, b, rfl⟩
        refine x_iload_n d_N_behind_20 rfl rfl ?_
        refine x_iconst (v := (nI 1)) d_N_behind_21 (by decide) ?_
        refine x_iadd (v := (nI (ts.length + 1 + 1))) d_N_behind_22 (nI_add _ _) ?_
        refine x_goto (tgt := 29) d_N_behind_23 rfl ?_
        refine x_istore_n d_N_behind_29 rfl (by decide) (L' := [some (.ref r), some (.int (nI s)), some (.int w0), some (.int (nI (ts.length + 1 + 1))), some (.int (nI k))]) rfl ?_
        refine x_iload d_N_behind_30 rfl ?_
        refine x_iconst (v := (nI 1)) d_N_behind_32 (by decide) ?_
        refine x_iadd (v := (nI (k + 1))) d_N_behind_33 (nI_add _ _) ?_
        refine x_istore d_N_behind_34 (by decide) (L' := [some (.ref r), some (.int (nI s)), some (.int w0), some (.int (nI (ts.length + 1 + 1))), some (.int (nI (k + 1)))]) rfl ?_
        refine x_goto (tgt := 5) d_N_behind_36 rfl ?_
        exact ih (a :: b :: ts) (k + 1) (fun z hz => by have hx := hok _ List.mem_cons_self; rcases List.mem_cons.mp hz with rfl | hz; exact hx.2.1; rcases List.mem_cons.mp hz with rfl | hz; exact hx.2.2; exact hok z (List.mem_cons_of_mem _ hz)) (by rw [← List.drop_drop, hd]; simp only [tFs, tF, List.cons_append, List.append_assoc]; rfl) (by simp only [tFs, tF, List.length_append, List.length_cons, List.length_nil] at he ⊢; omega) (by simp only [tFs, tF, List.length_append, List.length_cons, List.length_nil] at hm ⊢; omega)
theorem c_N_behind {E : th_E} {h : th_H} {r : Nat} {A : Nat → Nat → Int32} (nl : NL r h) {s p : Nat} {x : Tm} {l post : List (Int32 × Int32)} (hs : s < 254) (sl : SL A s l) (hx : tOk x) (hd : l.drop p = tF x ++ post) (he15 : p + (tF x).length ≤ 15) : Xc E m_N_behind 1 0 0 [.ref r, .int (nI s), .int (nI p)] (ov r h A) (Ex (some (.int (nI (p + (tF x).length)))) (ov r h A)) := by
  refine Xc.of (by decide) (by simp [Value.category]) (Nat.le_of_ble_eq_true rfl) ?_
  show Xw E m_N_behind 1 0 0 0 [some (.ref r), some (.int (nI s)), some (.int (nI p)), none, none] [] (ov r h A) _
  refine x_iconst (v := (nI 1)) d_N_behind_0 (by decide) ?_
  refine x_istore_n d_N_behind_1 rfl (by decide) (L' := [some (.ref r), some (.int (nI s)), some (.int (nI p)), some (.int (nI 1)), none]) rfl ?_
  refine x_iload_n d_N_behind_2 rfl rfl ?_
  refine x_istore d_N_behind_3 (by decide) (L' := [some (.ref r), some (.int (nI s)), some (.int (nI p)), some (.int (nI 1)), some (.int (nI p))]) rfl ?_
  exact N_behind_loop (post := post) nl hs sl he15 _ [x] p (fun z hz => by rw [List.mem_singleton.mp hz]; exact hx) (by rw [hd]; simp only [tFs, List.append_nil]) (by simp only [tFs, List.append_nil]) (Nat.le_refl _)
