/-! Costs: how many cells a run takes (printed by wip/gen/mod_cost.py). -/
/-- how many of the first n have ended -/
def deadN (f : Nat → Pr) : Nat → Nat
  | 0 => 0
  | n + 1 => deadN f n + (if pSt (f n) = 3 then 1 else 0)
abbrev dd (σ : Ho) : Nat := deadN (oPr σ) (oCt σ)
theorem dead_live (f : Nat → Pr) : ∀ n, deadN f n + liveN f n = n
  | 0 => rfl
  | n + 1 => by have := dead_live f n; simp only [deadN, liveN]; split <;> omega
theorem deadN_mono {f g : Nat → Pr} : ∀ (m n : Nat), n ≤ m → (∀ x, x < n → pSt (f x) = 3 → pSt (g x) = 3) → deadN f n ≤ deadN g m
  | 0, n, hn, _ => by obtain rfl : n = 0 := by omega
                      exact Nat.le_refl _
  | m + 1, n, hn, h => by
    by_cases e : n = m + 1
    · subst e
      have ih := deadN_mono m m (Nat.le_refl _) (fun x hx => h x (by omega))
      have := h m (by omega)
      simp only [deadN]
      split <;> split <;> omega
    · have ih := deadN_mono m n (by omega) h
      simp only [deadN]
      omega
/-- who has ended stays so -/
def Mo (σ σ' : Ho) : Prop := oCt σ ≤ oCt σ' ∧ ∀ x, x < oCt σ → pSt (oPr σ x) = 3 → pSt (oPr σ' x) = 3
theorem Mo.dd {σ σ' : Ho} (m : Mo σ σ') : dd σ ≤ dd σ' := deadN_mono _ _ m.1 m.2
theorem Mo.rf (σ : Ho) : Mo σ σ := ⟨Nat.le_refl _, fun _ _ h => h⟩
theorem Mo.tr {a b c : Ho} (x : Mo a b) (y : Mo b c) : Mo a c := ⟨Nat.le_trans x.1 y.1, fun z hz h => y.2 z (Nat.lt_of_lt_of_le hz x.1) (x.2 z hz h)⟩
theorem Mo.setP {σ : Ho} {p : Nat} {P' : Pr} (h : pSt (oPr σ p) = 3 → pSt P' = 3) : Mo σ (sPr σ p P') := ⟨Nat.le_refl _, fun x _ hx => by
  show pSt (va_up (oPr σ) p P' x) = 3
  by_cases e : x = p
  · rw [e, va_up_self]; rw [e] at hx; exact h hx
  · rw [va_up_ne _ _ e]; exact hx⟩
theorem Mo.deliver (σ : Ho) (q : Nat) (t : Tm) : Mo σ (deliverM σ q t) := by
  unfold deliverM
  split
  · exact Mo.rf σ
  · rename_i h1
    split
    · exact Mo.setP (σ := σ) (P' := sSt (sMs (oPr σ q) (pMs (oPr σ q) ++ [t])) 1) (fun z => absurd (Or.inl z) h1)
    · exact Mo.setP (fun z => z)
theorem Mo.tie (σ : Ho) (p q : Nat) : Mo σ (tieM σ p q) := by
  unfold tieM
  exact (Mo.setP (P' := sLk (oPr σ p) (pLk (oPr σ p) ||| bitM q)) (fun z => z)).tr (Mo.setP (fun z => z))
theorem Mo.start {σ : Ho} {l : Nat} {t : Tm} : Mo σ (startM σ l t) := ⟨Nat.le_succ _, fun x hx h => by
  show pSt (va_up (oPr σ) (oCt σ) (newP l t) x) = 3
  rw [va_up_ne _ _ (by omega)]; exact h⟩
theorem dd_le {N : Nat} {σ : Ho} (v : vPs N σ) : dd σ ≤ 12 := by
  have := dead_live (oPr σ) (oCt σ)
  have := v.1
  show deadN (oPr σ) (oCt σ) ≤ 12
  omega
theorem loop_c {N : Nat} : ∀ (n : Nat) (σ : Ho) (p : Nat) (r : Tm) (q : Nat), vPs N σ → p < oCt σ → vTm r → loopC n σ p r q + 12 * live (loopM n σ p r q) ≤ 12 * live σ + (12 - q)
  | 0, σ, p, r, q, v, hp, hr => by rw [loopM, loopC]; omega
  | n + 1, σ, p, r, q, v, hp, hr => by
    rw [loopM, loopC]
    have hc := v.1
    by_cases h1 : oCt σ ≤ q
    · rw [if_pos h1, if_pos h1]; omega
    rw [if_neg h1, if_neg h1]
    by_cases h2 : pLk (oPr σ p) &&& bitM q = 0
    · rw [if_pos h2, if_pos h2]
      have := loop_c n σ p r (q + 1) v hp hr
      omega
    rw [if_neg h2, if_neg h2]
    have hq : q < oCt σ := by omega
    have v1 := v.untie hp hq
    have l1 := live_untie σ p q
    by_cases h3 : pSt (oPr (untieM σ p q) q) = 3
    · rw [if_pos h3, if_pos h3]
      have := loop_c n (untieM σ p q) p r (q + 1) v1 hp hr
      omega
    rw [if_neg h3, if_neg h3]
    by_cases h4 : pTr (oPr (untieM σ p q) q) = true
    · rw [if_pos h4, if_pos h4]
      have c2 : oCt (deliverM (untieM σ p q) q (noticeM p r)) = oCt σ := deliver_ct _ _ _
      have := loop_c n (deliverM (untieM σ p q) q (noticeM p r)) p r (q + 1) (v1.deliver hq (vNotice hr)) (by rw [c2]; exact hp) hr
      have l2 := live_deliver (untieM σ p q) q (noticeM p r)
      omega
    rw [if_neg h4, if_neg h4]
    by_cases h5 : isN r = true
    · rw [if_pos h5, if_pos h5]
      have := loop_c n (untieM σ p q) p r (q + 1) v1 hp hr
      omega
    rw [if_neg h5, if_neg h5]
    have l2 := live_stop (σ := untieM σ p q) (r := r) hq h3
    have e1 := loop_c n (stopM (untieM σ p q) q r) q r 0 (v1.stop hq hr) hq hr
    obtain ⟨a, b, c⟩ := loop_v n (stopM (untieM σ p q) q r) q r 0 (v1.stop hq hr) hq hr
    have b' : oCt (loopM n (stopM (untieM σ p q) q r) q r 0) = oCt σ := b
    have e2 := loop_c n (loopM n (stopM (untieM σ p q) q r) q r 0) p r (q + 1) a (by rw [b']; exact hp) hr
    omega
theorem stop_c {N : Nat} {σ : Ho} {p : Nat} {r : Tm} (v : vPs N σ) (hp : p < oCt σ) (hr : vTm r) (h3 : ¬ pSt (oPr σ p) = 3) : loopC FU (stopM σ p r) p r 0 + 12 * dd σ ≤ 12 * dd (loopM FU (stopM σ p r) p r 0) := by
  have e := loop_c FU (stopM σ p r) p r 0 (v.stop hp hr) hp hr
  have l := live_stop (r := r) hp h3
  obtain ⟨-, b, -⟩ := loop_v FU (stopM σ p r) p r 0 (v.stop hp hr) hp hr
  have b' : oCt (loopM FU (stopM σ p r) p r 0) = oCt σ := b
  have d1 := dead_live (oPr σ) (oCt σ)
  have d2 := dead_live (oPr (loopM FU (stopM σ p r) p r 0)) (oCt (loopM FU (stopM σ p r) p r 0))
  generalize loopM FU (stopM σ p r) p r 0 = τ at e b' d2 ⊢
  generalize loopC FU (stopM σ p r) p r 0 = k at e ⊢
  generalize live (stopM σ p r) = y at e l
  simp only [dd, live] at e l ⊢
  omega
theorem end_c {N : Nat} {σ : Ho} {p : Nat} {r : Tm} (v : vPs N σ) (hp : p < oCt σ) (hr : vTm r) : endC σ p r + 12 * dd σ ≤ 12 * dd (endM σ p r) := by
  unfold endC endM
  by_cases h3 : pSt (oPr σ p) = 3
  · rw [if_pos h3, if_pos h3]; omega
  · rw [if_neg h3, if_neg h3]
    exact stop_c v hp hr h3
theorem sig_c {N : Nat} {σ : Ho} {p q : Nat} {r : Tm} (v : vPs N σ) (hq : q < oCt σ) (hr : vTm r) : sigC FU σ p q r + 12 * dd σ ≤ 12 * dd (sigM FU σ p q r) + 1 := by
  unfold sigC sigM
  by_cases h3 : pSt (oPr σ q) = 3
  · rw [if_pos h3, if_pos h3]; omega
  rw [if_neg h3, if_neg h3]
  by_cases h4 : pTr (oPr σ q) = true
  · rw [if_pos h4, if_pos h4]
    have := (Mo.deliver σ q (noticeM p r)).dd
    omega
  rw [if_neg h4, if_neg h4]
  by_cases h5 : isN r = true
  · rw [if_pos h5, if_pos h5]; omega
  rw [if_neg h5, if_neg h5]
  have := stop_c v hq hr h3
  omega
theorem link_c {N : Nat} {σ : Ho} {p q : Nat} (v : vPs N σ) (hp : p < oCt σ) : linkC σ p q + 12 * dd σ ≤ 12 * dd (linkM σ p q) + 1 := by
  unfold linkC linkM
  by_cases h3 : pSt (oPr σ q) = 3
  · rw [if_pos h3, if_pos h3]; exact sig_c v hp (vAt _)
  rw [if_neg h3, if_neg h3]
  by_cases h4 : q = p
  · rw [if_pos h4]; omega
  · rw [if_neg h4]
    have := (Mo.tie σ p q).dd
    omega
theorem perf_mo {k : Nat} {σ σ' : Ho} (hk : k ≤ 2) (m : Mo σ σ') : k + 24 * dd σ ≤ 24 * dd σ' + 2 := by
  have := m.dd
  omega
theorem perform_c {N : Nat} {σ σ' : Ho} {p op : Nat} {a b c : Int32} (v : vPs N σ) (hp : p < oCt σ) (hr : pSt (oPr σ p) = 1) (vi : vIns op a b c) (e : performM σ p op a b c = some σ') : performC σ p op a b c + 24 * dd σ ≤ 24 * dd σ' + 2 := by
  match op, vi, e with
  | 0, vi, e =>
    cases e
    exact perf_mo (Nat.le_of_ble_eq_true rfl) (Mo.setP (fun z => z))
  | 1, vi, e =>
    cases e
    exact perf_mo (Nat.le_of_ble_eq_true rfl) (Mo.setP (fun z => z))
  | 2, vi, e =>
    cases e
    exact perf_mo (Nat.le_of_ble_eq_true rfl) (Mo.setP (fun z => z))
  | 3, vi, e =>
    cases e
    exact perf_mo (Nat.le_of_ble_eq_true rfl) (Mo.setP (fun z => z))
  | 4, vi, e =>
    cases e
    exact perf_mo (Nat.le_of_ble_eq_true rfl) (Mo.setP (fun z => z))
  | 5, vi, e =>
    simp only [performM] at e
    split at e
    · cases e
    · cases e
      exact perf_mo (Nat.le_of_ble_eq_true rfl) (Mo.setP (fun z => z))
  | 6, vi, e =>
    simp only [performM] at e
    split at e
    · cases e
    · cases e
      exact perf_mo (Nat.le_of_ble_eq_true rfl) (Mo.setP (fun z => z))
  | 7, vi, e =>
    simp only [performM] at e
    split at e
    · cases e
    · cases e
      exact perf_mo (Nat.le_of_ble_eq_true rfl) (Mo.setP (fun z => z))
  | 8, vi, e =>
    simp only [performM] at e
    split at e
    · cases e
    · cases e
      exact perf_mo (Nat.le_of_ble_eq_true rfl) (Mo.setP (fun z => z))
  | 9, vi, e =>
    simp only [performM] at e
    split at e
    · cases e
      exact perf_mo (Nat.le_of_ble_eq_true rfl) (Mo.setP (fun z => z))
    · cases e
  | 10, vi, e =>
    simp only [performM] at e
    split at e
    · cases e
      exact perf_mo (Nat.le_of_ble_eq_true rfl) (Mo.setP (fun z => z))
    · cases e
  | 11, vi, e =>
    simp only [performM] at e
    split at e
    · cases e
      split
      · exact perf_mo (Nat.le_of_ble_eq_true rfl) (Mo.rf _)
      · exact perf_mo (Nat.le_of_ble_eq_true rfl) (Mo.setP (fun z => z))
    · cases e
  | 12, vi, e =>
    cases e
    show 0 + _ ≤ _
    split
    · exact perf_mo (Nat.le_of_ble_eq_true rfl) (Mo.rf _)
    · exact perf_mo (Nat.le_of_ble_eq_true rfl) (Mo.setP (fun z => z))
  | 13, vi, e =>
    cases e
    show 0 + _ ≤ _
    split
    · exact perf_mo (Nat.le_of_ble_eq_true rfl) (Mo.rf _)
    · exact perf_mo (Nat.le_of_ble_eq_true rfl) (Mo.setP (fun z => z))
  | 14, vi, e =>
    cases e
    exact perf_mo (Nat.le_of_ble_eq_true rfl) (Mo.setP (fun z => z))
  | 15, vi, e =>
    simp only [performM] at e
    split at e
    · cases e
    · cases e
      exact perf_mo (Nat.le_of_ble_eq_true rfl) (Mo.setP (fun z => z))
  | 16, vi, e =>
    simp only [performM] at e
    split at e
    · cases e
      rename_i hg
      rw [show performC σ p 16 a b c = 2 * endC σ p aNormal by simp only [performC, hg]]
      have := end_c (σ := σ) (r := aNormal) v hp (vAt _)
      omega
    · cases e
      rename_i hg
      rw [show performC σ p 16 a b c = 0 by simp only [performC, hg]]
      exact perf_mo (Nat.le_of_ble_eq_true rfl) (Mo.setP (fun z => z))
  | 17, vi, e =>
    simp only [performM] at e
    split at e
    · cases e
    · cases e
      exact perf_mo (Nat.le_of_ble_eq_true rfl) (Mo.deliver _ _ _)
  | 18, vi, e =>
    simp only [performM] at e
    split at e
    · cases e
      exact perf_mo (Nat.le_of_ble_eq_true rfl) (Mo.setP (fun z => z))
    · cases e
      exact perf_mo (Nat.le_of_ble_eq_true rfl) (Mo.setP (fun z => z))
  | 19, vi, e =>
    simp only [performM] at e
    split at e
    · cases e
      exact perf_mo (Nat.le_of_ble_eq_true rfl) (Mo.setP (fun z => z))
    · cases e
  | 20, vi, e =>
    cases e
    exact perf_mo (Nat.le_of_ble_eq_true rfl) (Mo.setP (fun z => z))
  | 21, vi, e =>
    simp only [performM] at e
    split at e
    · cases e
      exact perf_mo (Nat.le_of_ble_eq_true rfl) (Mo.setP (fun z => z))
    · cases e
      refine perf_mo (Nat.le_of_ble_eq_true rfl) (Mo.tr (b := suspendM σ p) ?_ (Mo.setP (fun z => z)))
      exact Mo.setP (σ := σ) (P' := sSt (oPr σ p) 2) (fun z => by omega)
  | 22, vi, e =>
    simp only [performM] at e
    split at e
    · cases e
    · cases e
      exact perf_mo (Nat.le_of_ble_eq_true rfl) (Mo.start.tr (Mo.setP (fun z => z)))
  | 23, vi, e =>
    simp only [performM] at e
    split at e
    · cases e
    · cases e
      rename_i q hq
      rw [show performC σ p 23 a b c = 2 * linkC σ p q by simp only [performC, hq]]
      have := link_c (σ := σ) (q := q) v hp
      omega
  | 24, vi, e =>
    cases e
    exact perf_mo (Nat.le_of_ble_eq_true rfl) (Mo.setP (fun z => z))
  | 25, vi, e =>
    cases e
    show 2 * endC σ p (pRg (oPr σ p) (cl a)) + _ ≤ _
    have := end_c (σ := σ) (r := pRg (oPr σ p) (cl a)) v hp ((v.2.2 p hp).1 _)
    omega
  | 26, vi, e =>
    simp only [performM] at e
    split at e
    · cases e
    · cases e
      rename_i q hq
      rw [show performC σ p 26 a b c = 2 * sigC FU σ p q aKilled by simp only [performC, hq]]
      have hq := (pidM_some v.1 hq).2.1
      have := sig_c (σ := σ) (p := p) (r := aKilled) v hq (vAt _)
      omega
  | n + 27, vi, e => exact vi.elim
theorem perform_n {σ : Ho} {p op : Nat} {a b c : Int32} (vi : vIns op a b c) (e : performM σ p op a b c = none) : performC σ p op a b c ≤ 1 := by
  match op, vi, e with
  | 0, vi, e =>
    exact Nat.le_refl 1
  | 1, vi, e =>
    exact Nat.zero_le 1
  | 2, vi, e =>
    exact Nat.zero_le 1
  | 3, vi, e =>
    exact Nat.zero_le 1
  | 4, vi, e =>
    exact Nat.zero_le 1
  | 5, vi, e =>
    exact Nat.le_refl 1
  | 6, vi, e =>
    exact Nat.le_refl 1
  | 7, vi, e =>
    exact Nat.zero_le 1
  | 8, vi, e =>
    exact Nat.zero_le 1
  | 9, vi, e =>
    exact Nat.le_refl 1
  | 10, vi, e =>
    exact Nat.le_refl 1
  | 11, vi, e =>
    exact Nat.zero_le 1
  | 12, vi, e =>
    exact Nat.zero_le 1
  | 13, vi, e =>
    exact Nat.zero_le 1
  | 14, vi, e =>
    exact Nat.zero_le 1
  | 15, vi, e =>
    exact Nat.zero_le 1
  | 16, vi, e =>
    simp only [performM] at e
    split at e <;> cases e
  | 17, vi, e =>
    exact Nat.zero_le 1
  | 18, vi, e =>
    exact Nat.zero_le 1
  | 19, vi, e =>
    exact Nat.zero_le 1
  | 20, vi, e =>
    exact Nat.zero_le 1
  | 21, vi, e =>
    exact Nat.zero_le 1
  | 22, vi, e =>
    exact Nat.zero_le 1
  | 23, vi, e =>
    simp only [performM] at e
    split at e
    · rename_i hq
      rw [show performC σ p 23 a b c = 0 by simp only [performC, hq]]
      omega
    · cases e
  | 24, vi, e =>
    exact Nat.zero_le 1
  | 25, vi, e =>
    cases e
  | 26, vi, e =>
    simp only [performM] at e
    split at e
    · rename_i hq
      rw [show performC σ p 26 a b c = 0 by simp only [performC, hq]]
      omega
    · cases e
  | n + 27, vi, e => exact vi.elim
theorem Mo.redA (σ : Ho) (p : Nat) : Mo σ (redA σ p) := Mo.setP (fun z => z)
theorem Mo.redB (σ : Ho) (p : Nat) : Mo σ (redB σ p) := (Mo.redA σ p).tr (Mo.setP (fun z => z))
theorem reduce_c {N : Nat} {σ : Ho} {p : Nat} (v : vPs N σ) (vc : vCd σ) (hp : p < oCt σ) (hr : pSt (oPr σ p) = 1) : reduceC σ p + 24 * dd σ ≤ 24 * dd (reduceM σ p) + 2 := by
  have ma := (Mo.redA σ p).dd
  have mb := (Mo.redB σ p).dd
  unfold reduceC reduceM
  cases hq : (oCd σ)[pPl (oPr σ p)]? with
  | none =>
    have := end_c (σ := redA σ p) (r := aFault) (v.redA hp) hp (vAt _)
    simp only
    omega
  | some q =>
    have hl : pPl (oPr σ p) < 48 := Nat.lt_of_lt_of_le (List.getElem?_eq_some_iff.mp hq).1 vc.1
    have v2 := v.redB hp hl
    have vi := vc.2 q (List.mem_of_getElem? hq)
    cases h : performM (redB σ p) p q.1 q.2.1 q.2.2.1 q.2.2.2 with
    | none =>
      have e1 := perform_n vi h
      have e2 := end_c (σ := redB σ p) (r := aFault) v2 hp (vAt _)
      simp only [h]
      omega
    | some σ' =>
      have e1 := perform_c (σ := redB σ p) v2 hp (by rw [redB_st]; exact hr) vi h
      simp only [h]
      omega
theorem turn_dd (σ : Ho) (p : Nat) : dd (turnM σ p) = dd σ := by
  unfold turnM
  split
  · split <;> rfl
  · rfl
theorem run_c : ∀ (n N : Nat) (σ : Ho), vPs N σ → vCd σ → vPs (N + n) (runM n σ).1 ∧ vCd (runM n σ).1 ∧ runC n σ + 24 * dd σ ≤ 24 * dd (runM n σ).1 + 2 * n
  | 0, N, σ, v, vc => ⟨v, vc, by show 0 + 24 * dd σ ≤ 24 * dd σ + 2 * 0; omega⟩
  | n + 1, N, σ, v, vc => by
    rw [runM, runC]
    cases hq : oQu σ with
    | nil => exact ⟨v.mono (by omega), vc, by simp only; omega⟩
    | cons p l =>
      have hpq := v.2.1.2.1 p (by rw [hq]; exact List.mem_cons_self)
      have k := reduce_v v vc hpq.1 hpq.2
      have c := reduce_c v vc hpq.1 hpq.2
      obtain ⟨t1, t2, t3, t4⟩ := turn_v k.1 k.2.1
      have vc2 : vCd (turnM (reduceM σ p) p) := by unfold vCd; rw [t3, k.2.2.1]; exact vc
      obtain ⟨i1, i2, i3⟩ := run_c n (N + 1) (turnM (reduceM σ p) p) t1 vc2
      rw [turn_dd] at i3
      simp only
      exact ⟨by rw [show N + (n + 1) = N + 1 + n by omega]; exact i1, i2, by omega⟩
theorem run_318 {N n : Nat} {σ : Ho} (v : vPs N σ) (vc : vCd σ) (hn : n ≤ 15) : runC n σ ≤ 318 := by
  obtain ⟨a, -, c⟩ := run_c n N σ v vc
  have := dd_le a
  omega
