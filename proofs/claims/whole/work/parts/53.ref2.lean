/-! The reference: queue, messages, ends (printed by wip/gen/mod_ref2.py). -/
/-- an end of the reference's: this answer, a table like that -/
def Nx (r : Nat) (h : th_H) (V : Option Value) (Q : (Nat → Nat → Int32) → Prop) : Option Value → th_H → Prop := fun v h' => v = V ∧ ∃ A', h' = ov r h A' ∧ Q A'
/-- the rows of the loop in end are as they were -/
def Tl (A A' : Nat → Nat → Int32) : Prop := ∀ j i, (j = 16 ∨ j = 17) → A' j i = A j i
theorem Tl.tb {A A' : Nat → Nat → Int32} {s : Nat} (e : Tb s A A') : Tl A A' := fun _ _ h => e.r (by omega)
theorem Tl.tr {A B C : Nat → Nat → Int32} (a : Tl A B) (b : Tl B C) : Tl A C := fun j i h => (b j i h).trans (a j i h)
theorem Tl.up {A B : Nat → Nat → Int32} {j i : Nat} {x : Int32} (a : Tl A B) (h : ¬ (j = 16 ∨ j = 17)) : Tl A (up B j i x) := fun j' i' h' => (up_r (by omega)).trans (a j' i' h')
theorem Tl.rf (A : Nat → Nat → Int32) : Tl A A := fun _ _ _ => rfl
def fnd (l : List Nat) (p : Nat) : Nat → Option Nat
  | 0 => none
  | k + 1 => if l[k]? = some p then some k else fnd l p k
def oI : Option Nat → Int32
  | none => -1
  | some a => nI a
theorem fnd_some {l : List Nat} {p : Nat} : ∀ {k a : Nat}, fnd l p k = some a → l[a]? = some p ∧ a < k
  | 0, a, h => by cases h
  | k + 1, a, h => by
    unfold fnd at h
    split at h
    · cases h; exact ⟨by assumption, Nat.lt_succ_self _⟩
    · have := fnd_some h; exact ⟨this.1, by omega⟩
theorem fnd_none {l : List Nat} {p : Nat} : ∀ {k : Nat}, fnd l p k = none → ∀ i, i < k → ¬ l[i]? = some p
  | 0, _, i, hi => absurd hi (Nat.not_lt_zero _)
  | k + 1, h, i, hi => by
    unfold fnd at h
    split at h
    · cases h
    · rename_i hk
      by_cases hik : i = k
      · rw [hik]; exact hk
      · exact fnd_none h i (by omega)
theorem filter_erase {p : Nat} : ∀ {l : List Nat} {a : Nat}, l.Nodup → l[a]? = some p → l.filter (fun x => x ≠ p) = l.eraseIdx a
  | [], a, _, h => by cases h
  | x :: l, 0, hd, h => by
    cases h
    rw [List.eraseIdx_cons_zero, List.filter_cons_of_neg (by simp)]
    exact List.filter_eq_self.mpr (fun z hz => by
      have := (List.nodup_cons.mp hd).1
      simp only [decide_eq_true_eq, ne_eq]
      exact fun e => this (e ▸ hz))
  | x :: l, a + 1, hd, h => by
    have h : l[a]? = some p := h
    have hx : x ≠ p := fun e => (List.nodup_cons.mp hd).1 (by rw [e]; exact mem_gi h)
    rw [List.eraseIdx_cons_succ, List.filter_cons_of_pos (by simp [hx]), filter_erase (List.nodup_cons.mp hd).2 h]
theorem filter_no {p : Nat} {l : List Nat} (h : ∀ i, i < l.length → ¬ l[i]? = some p) : l.filter (fun x => x ≠ p) = l := List.filter_eq_self.mpr (fun z hz => by
  simp only [decide_eq_true_eq, ne_eq]
  rintro rfl
  obtain ⟨i, hi, e⟩ := List.mem_iff_getElem.mp hz
  exact h i hi (by rw [List.getElem?_eq_getElem hi, e]))
/-- the queue behind place a moved up, as far as k -/
def shA (A : Nat → Nat → Int32) (a k : Nat) : Nat → Nat → Int32 := fun j i => if j = 15 ∧ a ≤ i ∧ i < k then A 15 (i + 1) else A j i
theorem shA_0 {A : Nat → Nat → Int32} {a : Nat} : shA A a a = A := by
  funext j i
  exact if_neg (fun z => by omega)
theorem shA_s {A : Nat → Nat → Int32} {a k : Nat} (h : a ≤ k) : up (shA A a k) 15 k (A 15 (k + 1)) = shA A a (k + 1) := by
  funext j i
  unfold up shA
  by_cases h1 : j = 15 ∧ i = k
  · rw [if_pos h1, if_pos ⟨h1.1, by omega, by omega⟩, h1.2]
  · rw [if_neg h1]
    by_cases h2 : j = 15 ∧ a ≤ i ∧ i < k
    · rw [if_pos h2, if_pos ⟨h2.1, h2.2.1, by omega⟩]
    · rw [if_neg h2, if_neg (fun z => by omega)]
theorem shA_r {A : Nat → Nat → Int32} {a k j i : Nat} (h : j ≠ 15) : shA A a k j i = A j i := if_neg (fun z => h z.1)
theorem shA_k {A : Nat → Nat → Int32} {a k i : Nat} (h : k ≤ i) : shA A a k 15 i = A 15 i := if_neg (fun z => by omega)
/-- what leave needs -/
def vQ (σ : Ho) : Prop := (oQu σ).length ≤ 12 ∧ (oQu σ).Nodup ∧ (∀ x ∈ oQu σ, x < 12) ∧ vLs σ
theorem vPs.Q {N : Nat} {σ : Ho} (v : vPs N σ) : vQ σ := ⟨v.len, v.2.1.1, fun x hx => Nat.lt_of_lt_of_le (v.2.1.2.1 x hx).1 v.1, v.L⟩
/-- what leave makes of how much of the turn is used -/
def luM (σ : Ho) (p u : Nat) : Nat := if (oQu σ).head? = some p then 0 else u
theorem N_leave_l1 {E : th_E} {h : th_H} {r : Nat} {A : Nat → Nat → Int32} (nl : NL r h) {u : Nat} {σ : Ho} (y : NR A σ u) (v : vQ σ) {p : Nat} (hp : p < 2 ^ 31) {Post : Option Value → th_H → Prop} (K : Xw E m_N_leave 0 0 0 34 [some (.ref r), some (.int (nI p)), some (.int (oI (fnd (oQu σ) p (oQu σ).length))), some (.int (nI (oQu σ).length))] [] (ov r h A) Post) : ∀ m k, (oQu σ).length + 1 ≤ m + k → k ≤ (oQu σ).length → Xw E m_N_leave 0 0 0 4 [some (.ref r), some (.int (nI p)), some (.int (oI (fnd (oQu σ) p k))), some (.int (nI k))] [] (ov r h A) Post := by
  have hlen := v.1
  intro m
  induction m with
  | zero => exact fun k h1 h2 => absurd h1 (by omega)
  | succ m ih =>
    intro k h1 h2
    refine x_iload_n d_N_leave_4 rfl rfl ?_
    refine x_aload_n d_N_leave_5 rfl rfl ?_
    refine n_get (v := (nI (oQu σ).length)) d_N_leave_6 lf_N_101 nl rfl y.2.2.1.1 ?_
    refine x_icmp_ge (tgt := 34) d_N_leave_9 rfl (fun q9 => ?_) (fun q9 => ?_)
    · obtain rfl : k = (oQu σ).length := by have := (nI_leI (by omega) (by omega)).mp q9; omega
      exact K
    · have hk : k < (oQu σ).length := Nat.lt_of_not_le (fun z => q9 (nI_le z (by omega)))
      have hg : (oQu σ)[k]? = some (oQu σ)[k] := List.getElem?_eq_getElem hk
      have hx12 := v.2.2.1 _ (List.getElem_mem hk)
      refine x_aload_n d_N_leave_12 rfl rfl ?_
      refine n_fld (j := 15) d_N_leave_13 lf_N_53 nl (by decide) rfl rfl ?_
      refine x_iload_n d_N_leave_16 rfl rfl ?_
      refine n_ld (j := 15) (i := k) (n := 12) (v := (nI (oQu σ)[k])) d_N_leave_17 nl (by decide) (by decide) rfl rfl (by omega) (by decide) (y.2.2.1.2 k _ hg) ?_
      refine x_iload_n d_N_leave_18 rfl rfl ?_
      refine x_icmp_ne (tgt := 26) d_N_leave_19 rfl (fun q19 => ?_) (fun q19 => ?_)
      · have e : fnd (oQu σ) p (k + 1) = fnd (oQu σ) p k := if_neg (fun z => q19 (by rw [hg] at z; cases z; rfl))
        refine x_iload_n d_N_leave_26 rfl rfl ?_
        refine x_istore_n d_N_leave_27 rfl (by decide) (L' := [some (.ref r), some (.int (nI p)), some (.int (oI (fnd (oQu σ) p k))), some (.int (nI k))]) rfl ?_
        refine x_iinc d_N_leave_28 rfl (v := (nI (k + 1))) (nI_1 _) (by decide) (L' := [some (.ref r), some (.int (nI p)), some (.int (oI (fnd (oQu σ) p k))), some (.int (nI (k + 1)))]) rfl ?_
        refine x_goto (tgt := 4) d_N_leave_31 rfl ?_
        exact (by have key := ih (k + 1) (by omega) (by omega); rw [e] at key; exact key)
      · have e : fnd (oQu σ) p (k + 1) = some k := if_pos (by rw [hg, (nI_eq (by omega) hp).mp q19])
        refine x_iload_n d_N_leave_22 rfl rfl ?_
        refine x_goto (tgt := 27) d_N_leave_23 rfl ?_
        refine x_istore_n d_N_leave_27 rfl (by decide) (L' := [some (.ref r), some (.int (nI p)), some (.int (nI k)), some (.int (nI k))]) rfl ?_
        refine x_iinc d_N_leave_28 rfl (v := (nI (k + 1))) (nI_1 _) (by decide) (L' := [some (.ref r), some (.int (nI p)), some (.int (nI k)), some (.int (nI (k + 1)))]) rfl ?_
        refine x_goto (tgt := 4) d_N_leave_31 rfl ?_
        exact (by have key := ih (k + 1) (by omega) (by omega); rw [e] at key; exact key)
theorem N_leave_l2 {E : th_E} {h : th_H} {r : Nat} (nl : NL r h) {B : Nat → Nat → Int32} {p a n : Nat} (hB : B 0 17 = nI n) (h12 : n < 12) {Post : Option Value → th_H → Prop} (K : Xw E m_N_leave 0 0 0 79 [some (.ref r), some (.int (nI p)), some (.int (nI a)), some (.int (nI n))] [] (ov r h (shA B a n)) Post) : ∀ m k, n + 1 ≤ m + k → k ≤ n → a ≤ k → Xw E m_N_leave 0 0 0 51 [some (.ref r), some (.int (nI p)), some (.int (nI a)), some (.int (nI k))] [] (ov r h (shA B a k)) Post := by
  intro m
  induction m with
  | zero => exact fun k h1 h2 h3 => absurd h1 (by omega)
  | succ m ih =>
    intro k h1 h2 h3
    refine x_iload_n d_N_leave_51 rfl rfl ?_
    refine x_aload_n d_N_leave_52 rfl rfl ?_
    refine n_get (v := (nI n)) d_N_leave_53 lf_N_101 nl rfl ((shA_r (by decide)).trans hB) ?_
    refine x_icmp_ge (tgt := 79) d_N_leave_56 rfl (fun q56 => ?_) (fun q56 => ?_)
    · obtain rfl : k = n := by have := (nI_leI (by omega) (by omega)).mp q56; omega
      exact K
    · have hk : k < n := Nat.lt_of_not_le (fun z => q56 (nI_le z (by omega)))
      refine x_aload_n d_N_leave_59 rfl rfl ?_
      refine n_fld (j := 15) d_N_leave_60 lf_N_53 nl (by decide) rfl rfl ?_
      refine x_iload_n d_N_leave_63 rfl rfl ?_
      refine x_aload_n d_N_leave_64 rfl rfl ?_
      refine n_fld (j := 15) d_N_leave_65 lf_N_53 nl (by decide) rfl rfl ?_
      refine x_iload_n d_N_leave_68 rfl rfl ?_
      refine x_iconst (v := (nI 1)) d_N_leave_69 (by decide) ?_
      refine x_iadd (v := (nI (k + 1))) d_N_leave_70 (nI_add _ _) ?_
      refine n_ld (j := 15) (i := k + 1) (n := 12) (v := (B 15 (k + 1))) d_N_leave_71 nl (by decide) (by decide) rfl rfl (by omega) (by decide) (shA_k (by omega)) ?_
      refine n_st (j := 15) (i := k) (n := 12) (v := (B 15 (k + 1))) d_N_leave_72 nl (by decide) (by decide) rfl rfl (by omega) (by decide) ?_
      rw [shA_s (by omega)]
      refine x_iinc d_N_leave_73 rfl (v := (nI (k + 1))) (nI_1 _) (by decide) (L' := [some (.ref r), some (.int (nI p)), some (.int (nI a)), some (.int (nI (k + 1)))]) rfl ?_
      refine x_goto (tgt := 51) d_N_leave_76 rfl ?_
      exact ih (k + 1) (by omega) (by omega) (by omega)
theorem c_N_leave {E : th_E} {h : th_H} {r : Nat} {A : Nat → Nat → Int32} (nl : NL r h) {u : Nat} {σ : Ho} (y : NR A σ u) (v : vQ σ) {p : Nat} (hp : p < 2 ^ 31) : Xc E m_N_leave 0 0 0 [.ref r, .int (nI p)] (ov r h A) (Nx r h none (fun A' => NR A' (leaveM σ p) (luM σ p u) ∧ ∀ j i, ¬ (j = 15 ∨ j = 0 ∧ (i = 17 ∨ i = 19)) → A' j i = A j i)) := by
  refine Xc.of (by decide) (by simp [Value.category]) (Nat.le_of_ble_eq_true rfl) ?_
  show Xw E m_N_leave 0 0 0 0 [some (.ref r), some (.int (nI p)), none, none] [] (ov r h A) _
  refine x_iconst (v := (-1)) d_N_leave_0 (by decide) ?_
  refine x_istore_n d_N_leave_1 rfl (by decide) (L' := [some (.ref r), some (.int (nI p)), some (.int (-1)), none]) rfl ?_
  refine x_iconst (v := (nI 0)) d_N_leave_2 (by decide) ?_
  refine x_istore_n d_N_leave_3 rfl (by decide) (L' := [some (.ref r), some (.int (nI p)), some (.int (-1)), some (.int (nI 0))]) rfl ?_
  refine N_leave_l1 nl y v hp ?_ ((oQu σ).length + 1) 0 (by omega) (by omega)
  have hlen := v.1
  cases hf : fnd (oQu σ) p (oQu σ).length with
  | none =>
    have hno := fnd_none hf
    have hfl := filter_no hno
    refine x_iload_n d_N_leave_34 rfl rfl ?_
    refine x_if_ge (tgt := 39) d_N_leave_35 rfl (fun q => absurd q (by decide)) (fun _ => ?_)
    refine x_ret ⟨rfl, A, rfl, ?_, fun _ _ _ => rfl⟩ rfl d_N_leave_38
    have hh : ¬ (oQu σ).head? = some p := fun z => by
      rw [List.head?_eq_getElem?] at z
      exact hno 0 (List.getElem?_eq_some_iff.mp z).1 z
    unfold leaveM luM
    rw [hfl, if_neg hh]
    exact y
  | some a =>
    obtain ⟨hg, ha⟩ := fnd_some hf
    have hfe := filter_erase v.2.1 hg
    refine x_iload_n d_N_leave_34 rfl rfl ?_
    refine x_if_ge (tgt := 39) d_N_leave_35 rfl (fun q35 => ?_) (fun w_ => absurd (nI_pos' (by omega)) w_)
    refine x_aload_n d_N_leave_39 rfl rfl ?_
    refine x_aload_n d_N_leave_40 rfl rfl ?_
    refine n_get (v := (nI (oQu σ).length)) d_N_leave_41 lf_N_101 nl rfl y.2.2.1.1 ?_
    refine x_iconst (v := (nI 1)) d_N_leave_44 (by decide) ?_
    refine x_isub (v := (nI ((oQu σ).length - 1))) d_N_leave_45 (pk_sub (b := 1) (by omega)) ?_
    refine n_put (v := (nI ((oQu σ).length - 1))) d_N_leave_46 lp_N_101 nl rfl ?_
    refine x_iload_n d_N_leave_49 rfl rfl ?_
    refine x_istore_n d_N_leave_50 rfl (by decide) (L' := [some (.ref r), some (.int (nI p)), some (.int (nI a)), some (.int (nI a))]) rfl ?_
    have fin : Xw E m_N_leave 0 0 0 79 [some (.ref r), some (.int (nI p)), some (.int (nI a)), some (.int (nI ((oQu σ).length - 1)))] [] (ov r h (shA (up A 0 17 (nI ((oQu σ).length - 1))) a ((oQu σ).length - 1))) (Nx r h none (fun A' => NR A' (leaveM σ p) (luM σ p u) ∧ ∀ j i, ¬ (j = 15 ∨ j = 0 ∧ (i = 17 ∨ i = 19)) → A' j i = A j i)) := by
      have hq : ∀ A', (∀ j i, ¬ (j = 0 ∧ i = 19) → A' j i = shA (up A 0 17 (nI ((oQu σ).length - 1))) a ((oQu σ).length - 1) j i) → A' 0 19 = nI (luM σ p u) → NR A' (leaveM σ p) (luM σ p u) ∧ ∀ j i, ¬ (j = 15 ∨ j = 0 ∧ (i = 17 ∨ i = 19)) → A' j i = A j i := by
        intro A' e hu
        have e2 : ∀ j i, ¬ (j = 15 ∨ j = 0 ∧ (i = 17 ∨ i = 19)) → A' j i = A j i := fun j i hn => by rw [e j i (by omega), shA_r (by omega), up_n (by omega)]
        refine ⟨?_, e2⟩
        unfold leaveM
        rw [hfe]
        refine y.setQ v.2.2.2 e2 hu ⟨?_, fun i x hx => ?_⟩
        · rw [e _ _ (by decide), shA_r (by decide), up_s, List.length_eraseIdx, if_pos ha]
        · have hi := (List.getElem?_eq_some_iff.mp hx).1
          rw [List.length_eraseIdx, if_pos ha] at hi
          rw [e _ _ (by omega)]
          rw [List.getElem?_eraseIdx] at hx
          unfold shA
          split at hx
          · rw [if_neg (fun z => by omega), up_r (by decide)]; exact y.2.2.1.2 i x hx
          · rw [if_pos ⟨rfl, by omega, hi⟩, up_r (by decide)]; exact y.2.2.1.2 (i + 1) x hx
      refine x_aload_n d_N_leave_79 rfl rfl ?_
      refine x_iload_n d_N_leave_80 rfl rfl ?_
      refine x_if_ne (tgt := 88) d_N_leave_81 rfl (fun q81 => ?_) (fun q81 => ?_)
      · have hl : luM σ p u = u := if_neg (fun z => by rw [List.head?_eq_getElem?] at z; have := (List.getElem?_inj (by omega) v.2.1).mp (z.trans hg.symm); exact q81 (by rw [← this]; rfl))
        refine x_aload_n d_N_leave_88 rfl rfl ?_
        refine n_get (v := (nI u)) d_N_leave_89 lf_N_104 nl rfl ((shA_r (by decide)).trans ((up_n (by decide)).trans y.1.2.2.2)) ?_
        refine n_put (v := (nI u)) d_N_leave_92 lp_N_104 nl rfl ?_
        exact x_ret ⟨rfl, _, rfl, hq _ (fun j i hn => up_n hn) (by rw [up_s, hl])⟩ rfl d_N_leave_95
      · have ha0 : a = 0 := (nI_eq (b := 0) (by omega) (by decide)).mp q81
        have hl : luM σ p u = 0 := if_pos (by rw [List.head?_eq_getElem?, ← ha0]; exact hg)
        refine x_iconst (v := (nI 0)) d_N_leave_84 (by decide) ?_
        refine x_goto (tgt := 92) d_N_leave_85 rfl ?_
        refine n_put (v := (nI 0)) d_N_leave_92 lp_N_104 nl rfl ?_
        exact x_ret ⟨rfl, _, rfl, hq _ (fun j i hn => up_n hn) (by rw [up_s, hl])⟩ rfl d_N_leave_95
    have key := N_leave_l2 (E := E) (p := p) (a := a) nl (B := up A 0 17 (nI ((oQu σ).length - 1))) up_s (by omega) fin (oQu σ).length a (by omega) (by omega) (Nat.le_refl _)
    rw [shA_0] at key
    exact key
theorem NR.come {A : Nat → Nat → Int32} {σ : Ho} {u q : Nat} (y : NR A σ u) (v : vLs σ) : NR (up (up A 15 (oQu σ).length (nI q)) 0 17 (nI ((oQu σ).length + 1))) (comeM σ q) u := by
  refine y.setQ v (fun j i hn => by rw [up_n (by omega), up_n (by omega)]) (by rw [up_n (by decide), up_r (by decide)]; exact y.1.2.2.2) ⟨?_, fun i x hx => ?_⟩
  · rw [up_s, List.length_append]; rfl
  · rw [up_r (by decide)]
    by_cases h : i = (oQu σ).length
    · subst h
      rw [List.getElem?_append_right (Nat.le_refl _), Nat.sub_self] at hx
      cases hx
      rw [up_s]
    · have hi := (List.getElem?_eq_some_iff.mp hx).1
      rw [List.length_append, List.length_cons, List.length_nil] at hi
      rw [List.getElem?_append_left (by omega)] at hx
      rw [up_n (fun z => h z.2)]
      exact y.2.2.1.2 i x hx
theorem c_N_deliver {E : th_E} {h : th_H} {r : Nat} {A : Nat → Nat → Int32} (nl : NL r h) {N u : Nat} {σ : Ho} (y : NR A σ u) (v : vPs N σ) {q s : Nat} {t : Tm} (hq : q < oCt σ) (hs : s < 254) (sl : SL A s (tF t)) (ht : vTm t) : Xc E m_N_deliver 1 0 0 [.ref r, .int (nI q), .int (nI s)] (ov r h A) (Nx r h none (fun A' => NR A' (deliverM σ q t) u ∧ Tl A A')) := by
  refine Xc.of (by decide) (by simp [Value.category]) (Nat.le_of_ble_eq_true rfl) ?_
  show Xw E m_N_deliver 1 0 0 0 [some (.ref r), some (.int (nI q)), some (.int (nI s))] [] (ov r h A) _
  have yq := y.2.2.2 q hq
  have hq12 := Nat.lt_of_lt_of_le hq v.1
  have hlt := ht.len
  have hml := (v.2.2 q hq).2.2.2.1.1
  have hst := (v.2.2 q hq).2.2.2.2.2.1
  refine x_aload_n d_N_deliver_0 rfl rfl ?_
  refine n_fld (j := 6) d_N_deliver_1 lf_N_25 nl (by decide) rfl rfl ?_
  refine x_iload_n d_N_deliver_4 rfl rfl ?_
  refine n_ld (j := 6) (i := q) (n := 12) (v := (nI (pSt (oPr σ q)))) d_N_deliver_5 nl (by decide) (by decide) rfl rfl (by omega) (by decide) yq.st ?_
  refine x_iconst (v := (nI 3)) d_N_deliver_6 (by decide) ?_
  refine x_icmp_eq (tgt := 21) d_N_deliver_7 rfl (fun q7 => ?_) (fun q7 => ?_)
  · have h3 := (nI_eq (b := 3) (by omega) (by decide)).mp q7
    exact x_ret ⟨rfl, A, rfl, by unfold deliverM; rw [if_pos (Or.inl h3)]; exact y, Tl.rf A⟩ rfl d_N_deliver_21
  · have h3 : ¬ pSt (oPr σ q) = 3 := fun z => q7 (by rw [z])
    refine x_aload_n d_N_deliver_10 rfl rfl ?_
    refine n_fld (j := 9) d_N_deliver_11 lf_N_34 nl (by decide) rfl rfl ?_
    refine x_iload_n d_N_deliver_14 rfl rfl ?_
    refine n_ld (j := 9) (i := q) (n := 12) (v := (nI ((pMs (oPr σ q)).length))) d_N_deliver_15 nl (by decide) (by decide) rfl rfl (by omega) (by decide) yq.ml ?_
    refine x_bipush (v := (nI 12)) d_N_deliver_16 (by decide) ?_
    refine x_icmp_lt (tgt := 22) d_N_deliver_18 rfl (fun q18 => ?_) (fun q18 => ?_)
    · have hl : (pMs (oPr σ q)).length < 12 := (nI_ltI (b := 12) (by omega) (by decide)).mp q18
      have hn : ¬ (pSt (oPr σ q) = 3 ∨ 12 ≤ (pMs (oPr σ q)).length) := fun z => z.elim h3 (fun z => by omega)
      refine x_aload_n d_N_deliver_22 rfl rfl ?_
      refine x_iload_n d_N_deliver_23 rfl rfl ?_
      refine x_bipush (v := (nI 21)) d_N_deliver_24 (by decide) ?_
      refine x_iload_n d_N_deliver_26 rfl rfl ?_
      refine x_imul (v := (nI (21 * q))) d_N_deliver_27 (pk_mul _ _) ?_
      refine x_bipush (v := (nI 9)) d_N_deliver_28 (by decide) ?_
      refine x_iadd (v := (nI (21 * q + 9))) d_N_deliver_30 (nI_add _ _) ?_
      refine x_aload_n d_N_deliver_31 rfl rfl ?_
      refine n_fld (j := 9) d_N_deliver_32 lf_N_34 nl (by decide) rfl rfl ?_
      refine x_iload_n d_N_deliver_35 rfl rfl ?_
      refine n_ld (j := 9) (i := q) (n := 12) (v := (nI ((pMs (oPr σ q)).length))) d_N_deliver_36 nl (by decide) (by decide) rfl rfl (by omega) (by decide) yq.ml ?_
      refine x_iadd (v := (nI (21 * q + 9 + ((pMs (oPr σ q)).length)))) d_N_deliver_37 (nI_add _ _) ?_
      refine x_invv d_N_deliver_38 lm_N_107 (as := [.int (nI s), .int (nI (21 * q + 9 + ((pMs (oPr σ q)).length)))]) (S := []) (cz' := 0) (cs' := 0) (c_N_copy nl hs (by omega) sl.1 hlt) nl.o rfl rfl rfl (Nat.le_of_ble_eq_true rfl) (by omega) (by decide) (by decide) ?_
      rintro _ _ ⟨rfl, rfl⟩
      have e1 : Tb (21 * q + 9 + (pMs (oPr σ q)).length) A (cpA A s (21 * q + 9 + (pMs (oPr σ q)).length) (2 * (tF t).length + 1)) := Tb.cp (by omega)
      have q1 : SL (cpA A s (21 * q + 9 + (pMs (oPr σ q)).length) (2 * (tF t).length + 1)) (21 * q + 9 + (pMs (oPr σ q)).length) (tF t) := sl.cp rfl
      generalize (cpA A s (21 * q + 9 + (pMs (oPr σ q)).length) (2 * (tF t).length + 1)) = A1 at e1 q1 ⊢
      have c1 : Chp q A (up A1 9 q (nI ((pMs (oPr σ q)).length + 1))) := ((Chp.rf q A).tb (k := 9 + (pMs (oPr σ q)).length) (by omega) (by rw [← Nat.add_assoc]; exact e1)).up (Or.inl (Or.inr (Or.inr ⟨rfl, by decide⟩)))
      have y1 := yq.s_ms (v.2.2 q hq).L rfl e1 q1
      refine x_aload_n d_N_deliver_41 rfl rfl ?_
      refine n_fld (j := 9) d_N_deliver_42 lf_N_34 nl (by decide) rfl rfl ?_
      refine x_iload_n d_N_deliver_45 rfl rfl ?_
      refine x_aload_n d_N_deliver_46 rfl rfl ?_
      refine n_fld (j := 9) d_N_deliver_47 lf_N_34 nl (by decide) rfl rfl ?_
      refine x_iload_n d_N_deliver_50 rfl rfl ?_
      refine n_ld (j := 9) (i := q) (n := 12) (v := (nI ((pMs (oPr σ q)).length))) d_N_deliver_51 nl (by decide) (by decide) rfl rfl (by omega) (by decide) ((e1.r (by decide)).trans yq.ml) ?_
      refine x_iconst (v := (nI 1)) d_N_deliver_52 (by decide) ?_
      refine x_iadd (v := (nI ((pMs (oPr σ q)).length + 1))) d_N_deliver_53 (nI_add _ _) ?_
      refine n_st (j := 9) (i := q) (n := 12) (v := (nI ((pMs (oPr σ q)).length + 1))) d_N_deliver_54 nl (by decide) (by decide) rfl rfl (by omega) (by decide) ?_
      refine x_aload_n d_N_deliver_55 rfl rfl ?_
      refine n_fld (j := 6) d_N_deliver_56 lf_N_25 nl (by decide) rfl rfl ?_
      refine x_iload_n d_N_deliver_59 rfl rfl ?_
      refine n_ld (j := 6) (i := q) (n := 12) (v := (nI (pSt (oPr σ q)))) d_N_deliver_60 nl (by decide) (by decide) rfl rfl (by omega) (by decide) ((up_r (by decide)).trans ((e1.r (by decide)).trans yq.st)) ?_
      refine x_iconst (v := (nI 2)) d_N_deliver_61 (by decide) ?_
      refine x_icmp_ne (tgt := 77) d_N_deliver_62 rfl (fun q62 => ?_) (fun q62 => ?_)
      · have h2 : ¬ pSt (oPr σ q) = 2 := fun z => q62 (by rw [z])
        exact x_ret ⟨rfl, _, rfl, by unfold deliverM; rw [if_neg hn, if_neg h2]; exact y.setP v.L c1 y1, (Tl.tb e1).up (by decide)⟩ rfl d_N_deliver_77
      · have h2 : pSt (oPr σ q) = 2 := (nI_eq (b := 2) (by omega) (by decide)).mp q62
        have hqr := v.room hq (by omega)
        have y3 : NR (up (up A1 9 q (nI ((pMs (oPr σ q)).length + 1))) 6 q (nI 1)) (sPr σ q (sSt (sMs (oPr σ q) (pMs (oPr σ q) ++ [t])) 1)) u := y.setP v.L (c1.up (Or.inl (Or.inr (Or.inr ⟨rfl, by decide⟩)))) (y1.s_st 1)
        have vd := v.deliver hq ht
        unfold deliverM at vd
        rw [if_neg hn, if_pos h2] at vd
        have v3 : vLs (sPr σ q (sSt (sMs (oPr σ q) (pMs (oPr σ q) ++ [t])) 1)) := ⟨v.1, fun x hx => (vd.2.2 x hx).L⟩
        refine x_aload_n d_N_deliver_65 rfl rfl ?_
        refine n_fld (j := 6) d_N_deliver_66 lf_N_25 nl (by decide) rfl rfl ?_
        refine x_iload_n d_N_deliver_69 rfl rfl ?_
        refine x_iconst (v := (nI 1)) d_N_deliver_70 (by decide) ?_
        refine n_st (j := 6) (i := q) (n := 12) (v := (nI 1)) d_N_deliver_71 nl (by decide) (by decide) rfl rfl (by omega) (by decide) ?_
        refine x_aload_n d_N_deliver_72 rfl rfl ?_
        refine x_iload_n d_N_deliver_73 rfl rfl ?_
        refine x_invv d_N_deliver_74 lm_N_111 (as := [.int (nI q)]) (S := []) (cz' := 0) (cs' := 0) (c_N_come (n := (oQu σ).length) nl y3.2.2.1.1 hqr (nI q)) nl.o rfl rfl rfl (Nat.le_of_ble_eq_true rfl) (by omega) (by decide) (by decide) ?_
        rintro _ _ ⟨rfl, rfl⟩
        exact x_ret ⟨rfl, _, rfl, by unfold deliverM; rw [if_neg hn, if_pos h2]; exact y3.come v3, ((((Tl.tb e1).up (by decide)).up (by decide)).up (by decide)).up (by decide)⟩ rfl d_N_deliver_77
    · have hl : 12 ≤ (pMs (oPr σ q)).length := Nat.le_of_not_lt (fun z => q18 (nI_lt z (by decide)))
      exact x_ret ⟨rfl, A, rfl, by unfold deliverM; rw [if_pos (Or.inr hl)]; exact y, Tl.rf A⟩ rfl d_N_deliver_21
theorem c_N_stop {E : th_E} {h : th_H} {r : Nat} {A : Nat → Nat → Int32} (nl : NL r h) {N u : Nat} {σ : Ho} (y : NR A σ u) (v : vPs N σ) {p s : Nat} {t : Tm} (hp : p < oCt σ) (hs : s < 254) (sl : SL A s (tF t)) (ht : vTm t) : Xc E m_N_stop 1 0 0 [.ref r, .int (nI p), .int (nI s)] (ov r h A) (Nx r h none (fun A' => NR A' (stopM σ p t) (luM σ p u) ∧ Tl A A')) := by
  refine Xc.of (by decide) (by simp [Value.category]) (Nat.le_of_ble_eq_true rfl) ?_
  show Xw E m_N_stop 1 0 0 0 [some (.ref r), some (.int (nI p)), some (.int (nI s))] [] (ov r h A) _
  have yp := y.2.2.2 p hp
  have hp12 := Nat.lt_of_lt_of_le hp v.1
  have hlt := ht.len
  refine x_aload_n d_N_stop_0 rfl rfl ?_
  refine n_fld (j := 6) d_N_stop_1 lf_N_25 nl (by decide) rfl rfl ?_
  refine x_iload_n d_N_stop_4 rfl rfl ?_
  refine x_iconst (v := (nI 3)) d_N_stop_5 (by decide) ?_
  refine n_st (j := 6) (i := p) (n := 12) (v := (nI 3)) d_N_stop_6 nl (by decide) (by decide) rfl rfl (by omega) (by decide) ?_
  refine x_aload_n d_N_stop_7 rfl rfl ?_
  refine x_iload_n d_N_stop_8 rfl rfl ?_
  refine x_bipush (v := (nI 21)) d_N_stop_9 (by decide) ?_
  refine x_iload_n d_N_stop_11 rfl rfl ?_
  refine x_imul (v := (nI (21 * p))) d_N_stop_12 (pk_mul _ _) ?_
  refine x_bipush (v := (nI 8)) d_N_stop_13 (by decide) ?_
  refine x_iadd (v := (nI (21 * p + 8))) d_N_stop_15 (nI_add _ _) ?_
  refine x_invv d_N_stop_16 lm_N_107 (as := [.int (nI s), .int (nI (21 * p + 8))]) (S := []) (cz' := 0) (cs' := 0) (c_N_copy nl hs (by omega) (sl.up (by decide)).1 hlt) nl.o rfl rfl rfl (Nat.le_of_ble_eq_true rfl) (by omega) (by decide) (by decide) ?_
  rintro _ _ ⟨rfl, rfl⟩
  have e1 : Tb (21 * p + 8) (up A 6 p (nI 3)) (cpA (up A 6 p (nI 3)) s (21 * p + 8) (2 * (tF t).length + 1)) := Tb.cp (by omega)
  have q1 : SL (cpA (up A 6 p (nI 3)) s (21 * p + 8) (2 * (tF t).length + 1)) (21 * p + 8) (tF t) := (sl.up (by decide)).cp rfl
  generalize (cpA (up A 6 p (nI 3)) s (21 * p + 8) (2 * (tF t).length + 1)) = A1 at e1 q1 ⊢
  have y1 : NR A1 (sPr σ p (sRs (sSt (oPr σ p) 3) (some t))) u := y.setP v.L ((((Chp.rf p A).up (Or.inl (Or.inr (Or.inr ⟨rfl, by decide⟩)))).tb (k := 8) (by decide) e1)) ((yp.s_st 3).s_rs (v.2.2 p hp).L e1 q1)
  have vq : vQ (sPr σ p (sRs (sSt (oPr σ p) 3) (some t))) := ⟨v.Q.1, v.Q.2.1, v.Q.2.2.1, v.L.setP ⟨(v.2.2 p hp).L.1, (v.2.2 p hp).L.2.1, (v.2.2 p hp).L.2.2.1, fun u hu => by cases hu; exact hlt⟩⟩
  refine x_aload_n d_N_stop_19 rfl rfl ?_
  refine x_iload_n d_N_stop_20 rfl rfl ?_
  refine x_invv d_N_stop_21 lm_N_125 (as := [.int (nI p)]) (S := []) (cz' := 0) (cs' := 0) (c_N_leave nl y1 vq (by omega)) nl.o rfl rfl rfl (Nat.le_of_ble_eq_true rfl) (by omega) (by decide) (by decide) ?_
  rintro _ _ ⟨rfl, A', rfl, y2, e2⟩
  exact x_ret ⟨rfl, A', rfl, y2, fun j i hj => (e2 j i (by omega)).trans ((e1.r (by omega)).trans (up_r (by omega)))⟩ rfl d_N_stop_24
theorem tF_0 : ∀ t : Tm, (tF t)[0]? = some (tS t, tN t)
  | .leaf _ => rfl
  | .branch _ _ _ => rfl
theorem tF_pos (t : Tm) : 0 < (tF t).length := il (tF_0 t)
theorem isN_F (t : Tm) : isN t = true ↔ (tF t).length ≤ 1 ∧ tS t = 1 ∧ tN t = 14 := by
  cases t with
  | leaf q => simp [isN, tB, tS, tN, tF]
  | branch k l r =>
    have := tF_pos l
    have := tF_pos r
    simp only [isN, tB, tF, List.length_cons, List.length_append, Bool.not_true, Bool.false_and]
    exact ⟨fun z => absurd z (by decide), fun z => by omega⟩
theorem SL.s0 {A : Nat → Nat → Int32} {s : Nat} {t : Tm} (q : SL A s (tF t)) : A 5 (32 * s + 1 + 2 * 0) = tS t := (q.2 0 _ (tF_0 t)).1
theorem SL.n0 {A : Nat → Nat → Int32} {s : Nat} {t : Tm} (q : SL A s (tF t)) : A 5 (32 * s + 2 + 2 * 0) = tN t := (q.2 0 _ (tF_0 t)).2
/-- whether a signal ends q -/
def sgB (σ : Ho) (q : Nat) (t : Tm) : Prop := ¬ pSt (oPr σ q) = 3 ∧ ¬ pTr (oPr σ q) = true ∧ ¬ isN t = true
/-- what else it does -/
def sig1 (σ : Ho) (p q : Nat) (t : Tm) : Ho := if pSt (oPr σ q) = 3 then σ else if pTr (oPr σ q) = true then deliverM σ q (noticeM p t) else σ
def Sg (r : Nat) (h : th_H) (A : Nat → Nat → Int32) (σ : Ho) (u p q : Nat) (t : Tm) : Option Value → th_H → Prop := fun v h' => (sgB σ q t ∧ v = some (.int 1) ∧ h' = ov r h A) ∨ (¬ sgB σ q t ∧ Nx r h (some (.int 0)) (fun A' => NR A' (sig1 σ p q t) u ∧ Tl A A') v h')
theorem notF (p : Nat) (t : Tm) : tF (noticeM p t) = [(nI 5, nI 0), (nI 1, nI 15), (nI 5, nI 0), (nI 2, nI p)] ++ (if 11 < (tF t).length then [(nI 1, nI 13)] else tF t) := by
  unfold noticeM
  rw [tF_len]
  by_cases h : 11 < tW t
  · rw [if_pos h, if_pos (by omega)]; rfl
  · rw [if_neg h, if_neg (by omega)]; rfl
theorem c_N_signal {E : th_E} {h : th_H} {r : Nat} {A : Nat → Nat → Int32} (nl : NL r h) {N u : Nat} {σ : Ho} (y : NR A σ u) (v : vPs N σ) {p q s : Nat} {t : Tm} (hp : p < 12) (hq : q < oCt σ) (hs : s < 253) (sl : SL A s (tF t)) (ht : vTm t) : Xc E m_N_signal 2 0 0 [.ref r, .int (nI q), .int (nI p), .int (nI s)] (ov r h A) (Sg r h A σ u p q t) := by
  refine Xc.of (by decide) (by simp [Value.category]) (Nat.le_of_ble_eq_true rfl) ?_
  show Xw E m_N_signal 2 0 0 0 [some (.ref r), some (.int (nI q)), some (.int (nI p)), some (.int (nI s))] [] (ov r h A) _
  have yq := y.2.2.2 q hq
  have hq12 := Nat.lt_of_lt_of_le hq v.1
  have hlt := ht.len
  have hst := (v.2.2 q hq).2.2.2.2.2.1
  have hnt : vTm (noticeM p t) := vNotice ht
  refine x_aload_n d_N_signal_0 rfl rfl ?_
  refine n_fld (j := 6) d_N_signal_1 lf_N_25 nl (by decide) rfl rfl ?_
  refine x_iload_n d_N_signal_4 rfl rfl ?_
  refine n_ld (j := 6) (i := q) (n := 12) (v := (nI (pSt (oPr σ q)))) d_N_signal_5 nl (by decide) (by decide) rfl rfl (by omega) (by decide) yq.st ?_
  refine x_iconst (v := (nI 3)) d_N_signal_6 (by decide) ?_
  refine x_icmp_ne (tgt := 12) d_N_signal_7 rfl (fun q7 => ?_) (fun q7 => ?_)
  · have h3 : ¬ pSt (oPr σ q) = 3 := fun z => q7 (by rw [z])
    refine x_aload_n d_N_signal_12 rfl rfl ?_
    refine n_fld (j := 13) d_N_signal_13 lf_N_46 nl (by decide) rfl rfl ?_
    refine x_iload_n d_N_signal_16 rfl rfl ?_
    refine n_zld (i := q) (v := (if pTr (oPr σ q) = true then 1 else 0)) d_N_signal_17 nl (by omega) yq.tr ?_
    refine x_if_ne (tgt := 57) d_N_signal_18 rfl (fun q18 => ?_) (fun q18 => ?_)
    · have htr : pTr (oPr σ q) = true := by by_cases z : pTr (oPr σ q) = true; exact z; rw [if_neg z] at q18; exact absurd rfl q18
      refine x_aload_n d_N_signal_57 rfl rfl ?_
      refine x_sipush (v := (nI 253)) d_N_signal_58 (by decide) ?_
      refine x_iconst (v := (nI 5)) d_N_signal_61 (by decide) ?_
      refine x_iconst (v := (nI 0)) d_N_signal_62 (by decide) ?_
      refine x_invv d_N_signal_63 lm_N_115 (as := [.int (nI 253), .int (nI 5), .int (nI 0)]) (S := []) (cz' := 0) (cs' := 0) (c_N_put nl (by decide) _ _) nl.o rfl rfl rfl (Nat.le_of_ble_eq_true rfl) (by omega) (by decide) (by decide) ?_
      rintro _ _ ⟨rfl, rfl⟩
      have e1 : Tb 253 A (putA A 253 (nI 5) (nI 0)) := Tb.put
      have q1 : SL (putA A 253 (nI 5) (nI 0)) 253 _ := SL.put
      generalize putA A 253 (nI 5) (nI 0) = A1 at e1 q1 ⊢
      refine x_aload_n d_N_signal_66 rfl rfl ?_
      refine x_sipush (v := (nI 253)) d_N_signal_67 (by decide) ?_
      refine x_iconst (v := (nI 1)) d_N_signal_70 (by decide) ?_
      refine x_bipush (v := (nI 15)) d_N_signal_71 (by decide) ?_
      refine x_invv d_N_signal_73 lm_N_73 (as := [.int (nI 253), .int (nI 1), .int (nI 15)]) (S := []) (cz' := 0) (cs' := 0) (c_N_append (n := 1) nl (by decide) q1.1 (by decide) _ _) nl.o rfl rfl rfl (Nat.le_of_ble_eq_true rfl) (by omega) (by decide) (by decide) ?_
      rintro _ _ ⟨rfl, rfl⟩
      have e2 := e1.tr (Tb.app (A := A1) (s := 253) (n := 1) (x := (nI 1)) (y := (nI 15)) (by decide))
      have q2 := q1.app (x := (nI 1)) (y := (nI 15)) (n := 1) rfl
      generalize (appA A1 253 1 (nI 1) (nI 15)) = A2 at e2 q2 ⊢
      refine x_aload_n d_N_signal_76 rfl rfl ?_
      refine x_sipush (v := (nI 253)) d_N_signal_77 (by decide) ?_
      refine x_iconst (v := (nI 5)) d_N_signal_80 (by decide) ?_
      refine x_iconst (v := (nI 0)) d_N_signal_81 (by decide) ?_
      refine x_invv d_N_signal_82 lm_N_73 (as := [.int (nI 253), .int (nI 5), .int (nI 0)]) (S := []) (cz' := 0) (cs' := 0) (c_N_append (n := 2) nl (by decide) q2.1 (by decide) _ _) nl.o rfl rfl rfl (Nat.le_of_ble_eq_true rfl) (by omega) (by decide) (by decide) ?_
      rintro _ _ ⟨rfl, rfl⟩
      have e3 := e2.tr (Tb.app (A := A2) (s := 253) (n := 2) (x := (nI 5)) (y := (nI 0)) (by decide))
      have q3 := q2.app (x := (nI 5)) (y := (nI 0)) (n := 2) rfl
      generalize (appA A2 253 2 (nI 5) (nI 0)) = A3 at e3 q3 ⊢
      refine x_aload_n d_N_signal_85 rfl rfl ?_
      refine x_sipush (v := (nI 253)) d_N_signal_86 (by decide) ?_
      refine x_iconst (v := (nI 2)) d_N_signal_89 (by decide) ?_
      refine x_iload_n d_N_signal_90 rfl rfl ?_
      refine x_invv d_N_signal_91 lm_N_73 (as := [.int (nI 253), .int (nI 2), .int (nI p)]) (S := []) (cz' := 0) (cs' := 0) (c_N_append (n := 3) nl (by decide) q3.1 (by decide) _ _) nl.o rfl rfl rfl (Nat.le_of_ble_eq_true rfl) (by omega) (by decide) (by decide) ?_
      rintro _ _ ⟨rfl, rfl⟩
      have e4 := e3.tr (Tb.app (A := A3) (s := 253) (n := 3) (x := (nI 2)) (y := (nI p)) (by decide))
      have q4 := q3.app (x := (nI 2)) (y := (nI p)) (n := 3) rfl
      generalize (appA A3 253 3 (nI 2) (nI p)) = A4 at e4 q4 ⊢
      refine x_aload_n d_N_signal_94 rfl rfl ?_
      refine x_iload_n d_N_signal_95 rfl rfl ?_
      refine x_invv d_N_signal_96 lm_N_77 (as := [.int (nI s)]) (S := []) (cz' := 0) (cs' := 0) (c_N_weight nl (by omega)) nl.o rfl rfl rfl (Nat.le_of_ble_eq_true rfl) (by omega) (by decide) (by decide) ?_
      rintro _ _ ⟨rfl, rfl⟩
      have sl4 := sl.tb hlt e4 (by omega)
      rw [sl4.1]
      refine x_bipush (v := (nI 11)) d_N_signal_99 (by decide) ?_
      refine x_icmp_le (tgt := 117) d_N_signal_101 rfl (fun q101 => ?_) (fun q101 => ?_)
      · have hw : (tF t).length ≤ 11 := (nI_leI (b := 11) (by omega) (by decide)).mp q101
        refine x_aload_n d_N_signal_117 rfl rfl ?_
        refine x_sipush (v := (nI 253)) d_N_signal_118 (by decide) ?_
        refine x_iload_n d_N_signal_121 rfl rfl ?_
        refine x_iconst (v := (nI 0)) d_N_signal_122 (by decide) ?_
        refine x_aload_n d_N_signal_123 rfl rfl ?_
        refine x_iload_n d_N_signal_124 rfl rfl ?_
        refine x_invv d_N_signal_125 lm_N_77 (as := [.int (nI s)]) (S := [.int (nI 0), .int (nI s), .int (nI 253), .ref r]) (cz' := 0) (cs' := 0) (c_N_weight nl (by omega)) nl.o rfl rfl rfl (Nat.le_of_ble_eq_true rfl) (by omega) (by decide) (by decide) ?_
        rintro _ _ ⟨rfl, rfl⟩
        rw [sl4.1]
        refine x_invv d_N_signal_128 lm_N_118 (as := [.int (nI 253), .int (nI s), .int (nI 0), .int (nI ((tF t).length))]) (S := []) (cz' := 0) (cs' := 0) (c_N_addParts (s := 253) (o := s) (f := 0) (e := (tF t).length) (w := 4) nl (by decide) (by omega) (by omega) (Nat.zero_le _) (by omega) q4.1 (by omega)) nl.o rfl rfl rfl (Nat.le_of_ble_eq_true rfl) (by omega) (by decide) (by decide) ?_
        rintro _ _ ⟨rfl, rfl⟩
        have e5 := e4.tr (Tb.ap (A := A4) (s := 253) (o := s) (f := 0) (w := 4) (c := (tF t).length - 0) (by omega))
        have q5 : SL (apA A4 253 s 0 4 ((tF t).length - 0)) 253 (tF (noticeM p t)) := by have z := q4.ap (w := 4) rfl sl4 (Nat.zero_le _) (Nat.le_refl _); rw [List.drop_zero, Nat.sub_zero, List.take_length] at z; rw [notF, if_neg (by omega), Nat.sub_zero]; exact z
        generalize apA A4 253 s 0 4 ((tF t).length - 0) = A5 at e5 q5 ⊢
        refine x_aload_n d_N_signal_131 rfl rfl ?_
        refine x_iload_n d_N_signal_132 rfl rfl ?_
        refine x_sipush (v := (nI 253)) d_N_signal_133 (by decide) ?_
        refine x_invv d_N_signal_136 lm_N_122 (as := [.int (nI q), .int (nI 253)]) (S := []) (cz' := 0) (cs' := 0) (c_N_deliver nl (y.tw v.L (by decide) e5) v hq (by decide) q5 hnt) nl.o rfl rfl rfl (Nat.le_of_ble_eq_true rfl) (by omega) (by decide) (by decide) ?_
        rintro _ _ ⟨rfl, A6, rfl, y6, t6⟩
        have e6 : Tl A A6 := (Tl.tb e5).tr t6
        have hnb : ¬ sgB σ q t := fun z => z.2.1 htr
        refine x_iconst (v := (nI 0)) d_N_signal_139 (by decide) ?_
        exact x_iret d_N_signal_140 rfl rfl (Or.inr ⟨hnb, rfl, A6, rfl, by unfold sig1; rw [if_neg h3, if_pos htr]; exact y6, e6⟩)
      · have hw : 11 < (tF t).length := Nat.lt_of_not_le (fun z => q101 (nI_le z (by decide)))
        refine x_aload_n d_N_signal_104 rfl rfl ?_
        refine x_sipush (v := (nI 253)) d_N_signal_105 (by decide) ?_
        refine x_iconst (v := (nI 1)) d_N_signal_108 (by decide) ?_
        refine x_bipush (v := (nI 13)) d_N_signal_109 (by decide) ?_
        refine x_invv d_N_signal_111 lm_N_73 (as := [.int (nI 253), .int (nI 1), .int (nI 13)]) (S := []) (cz' := 0) (cs' := 0) (c_N_append (n := 4) nl (by decide) q4.1 (by decide) _ _) nl.o rfl rfl rfl (Nat.le_of_ble_eq_true rfl) (by omega) (by decide) (by decide) ?_
        rintro _ _ ⟨rfl, rfl⟩
        have e5 := e4.tr (Tb.app (A := A4) (s := 253) (n := 4) (x := nI 1) (y := nI 13) (by decide))
        have q5 : SL (appA A4 253 4 (nI 1) (nI 13)) 253 (tF (noticeM p t)) := by rw [notF, if_pos hw]; exact q4.app (x := nI 1) (y := nI 13) (n := 4) rfl
        generalize appA A4 253 4 (nI 1) (nI 13) = A5 at e5 q5 ⊢
        refine x_goto (tgt := 131) d_N_signal_114 rfl ?_
        refine x_aload_n d_N_signal_131 rfl rfl ?_
        refine x_iload_n d_N_signal_132 rfl rfl ?_
        refine x_sipush (v := (nI 253)) d_N_signal_133 (by decide) ?_
        refine x_invv d_N_signal_136 lm_N_122 (as := [.int (nI q), .int (nI 253)]) (S := []) (cz' := 0) (cs' := 0) (c_N_deliver nl (y.tw v.L (by decide) e5) v hq (by decide) q5 hnt) nl.o rfl rfl rfl (Nat.le_of_ble_eq_true rfl) (by omega) (by decide) (by decide) ?_
        rintro _ _ ⟨rfl, A6, rfl, y6, t6⟩
        have e6 : Tl A A6 := (Tl.tb e5).tr t6
        have hnb : ¬ sgB σ q t := fun z => z.2.1 htr
        refine x_iconst (v := (nI 0)) d_N_signal_139 (by decide) ?_
        exact x_iret d_N_signal_140 rfl rfl (Or.inr ⟨hnb, rfl, A6, rfl, by unfold sig1; rw [if_neg h3, if_pos htr]; exact y6, e6⟩)
    · have htr : ¬ pTr (oPr σ q) = true := fun z => by rw [if_pos z] at q18; exact absurd q18 (by decide)
      have hs1 : sig1 σ p q t = σ := by unfold sig1; rw [if_neg h3, if_neg htr]
      refine x_aload_n d_N_signal_21 rfl rfl ?_
      refine x_iload_n d_N_signal_22 rfl rfl ?_
      refine x_invv d_N_signal_23 lm_N_77 (as := [.int (nI s)]) (S := []) (cz' := 0) (cs' := 0) (c_N_weight nl (by omega)) nl.o rfl rfl rfl (Nat.le_of_ble_eq_true rfl) (by omega) (by decide) (by decide) ?_
      rintro _ _ ⟨rfl, rfl⟩
      rw [sl.1]
      refine x_iconst (v := (nI 1)) d_N_signal_26 (by decide) ?_
      refine x_icmp_gt (tgt := 51) d_N_signal_27 rfl (fun q27 => ?_) (fun q27 => ?_)
      · have hN : ¬ isN t = true := fun z => by have := ((isN_F t).mp z).1; have := (nI_ltI (a := 1) (by omega) (by omega)).mp q27; omega
        refine x_iconst (v := (nI 1)) d_N_signal_51 (by decide) ?_
        refine x_goto (tgt := 56) d_N_signal_52 rfl ?_
        exact x_iret d_N_signal_56 rfl rfl (Or.inl ⟨⟨h3, htr, hN⟩, rfl, rfl⟩)
      · have hw : (tF t).length ≤ 1 := Nat.le_of_not_lt (fun z => q27 (nI_lt z (by omega)))
        refine x_aload_n d_N_signal_30 rfl rfl ?_
        refine x_iload_n d_N_signal_31 rfl rfl ?_
        refine x_iconst (v := (nI 0)) d_N_signal_32 (by decide) ?_
        refine x_invv d_N_signal_33 lm_N_66 (as := [.int (nI s), .int (nI 0)]) (S := []) (cz' := 0) (cs' := 0) (c_N_sortOf nl (by omega) (by decide)) nl.o rfl rfl rfl (Nat.le_of_ble_eq_true rfl) (by omega) (by decide) (by decide) ?_
        rintro _ _ ⟨rfl, rfl⟩
        rw [sl.s0]
        refine x_iconst (v := (nI 1)) d_N_signal_36 (by decide) ?_
        refine x_icmp_ne (tgt := 51) d_N_signal_37 rfl (fun q37 => ?_) (fun q37 => ?_)
        · have hN : ¬ isN t = true := fun z => q37 ((isN_F t).mp z).2.1
          refine x_iconst (v := (nI 1)) d_N_signal_51 (by decide) ?_
          refine x_goto (tgt := 56) d_N_signal_52 rfl ?_
          exact x_iret d_N_signal_56 rfl rfl (Or.inl ⟨⟨h3, htr, hN⟩, rfl, rfl⟩)
        · refine x_aload_n d_N_signal_40 rfl rfl ?_
          refine x_iload_n d_N_signal_41 rfl rfl ?_
          refine x_iconst (v := (nI 0)) d_N_signal_42 (by decide) ?_
          refine x_invv d_N_signal_43 lm_N_70 (as := [.int (nI s), .int (nI 0)]) (S := []) (cz' := 0) (cs' := 0) (c_N_numberOf nl (by omega) (by decide)) nl.o rfl rfl rfl (Nat.le_of_ble_eq_true rfl) (by omega) (by decide) (by decide) ?_
          rintro _ _ ⟨rfl, rfl⟩
          rw [sl.n0]
          refine x_bipush (v := (nI 14)) d_N_signal_46 (by decide) ?_
          refine x_icmp_eq (tgt := 55) d_N_signal_48 rfl (fun q48 => ?_) (fun q48 => ?_)
          · have hN : isN t = true := (isN_F t).mpr ⟨hw, q37, q48⟩
            refine x_iconst (v := (nI 0)) d_N_signal_55 (by decide) ?_
            exact x_iret d_N_signal_56 rfl rfl (Or.inr ⟨fun z => z.2.2 hN, rfl, A, rfl, by rw [hs1]; exact y, Tl.rf A⟩)
          · have hN : ¬ isN t = true := fun z => q48 ((isN_F t).mp z).2.2
            refine x_iconst (v := (nI 1)) d_N_signal_51 (by decide) ?_
            refine x_goto (tgt := 56) d_N_signal_52 rfl ?_
            exact x_iret d_N_signal_56 rfl rfl (Or.inl ⟨⟨h3, htr, hN⟩, rfl, rfl⟩)
  · have h3 : pSt (oPr σ q) = 3 := (nI_eq (b := 3) (by omega) (by decide)).mp q7
    refine x_iconst (v := (nI 0)) d_N_signal_10 (by decide) ?_
    exact x_iret d_N_signal_11 rfl rfl (Or.inr ⟨fun z => z.1 h3, rfl, A, rfl, by unfold sig1; rw [if_pos h3]; exact y, Tl.rf A⟩)
