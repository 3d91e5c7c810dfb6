/-! Validity through reductions; countInTurn, run, clear (printed by wip/gen/mod_run.py). -/
theorem vPr.mono {N N' : Nat} {P : Pr} (v : vPr N P) (h : N ≤ N') : vPr N' P := ⟨v.1, v.2.1, v.2.2.1, v.2.2.2.1, Nat.le_trans v.2.2.2.2.1 h, v.2.2.2.2.2⟩
theorem vPs.mono {N N' : Nat} {σ : Ho} (v : vPs N σ) (h : N ≤ N') : vPs N' σ := ⟨v.1, v.2.1, fun p hp => (v.2.2 p hp).mono h⟩
/-- valid, p still there; code, quota, spent as before -/
def Kp (N : Nat) (σ : Ho) (p : Nat) (σ' : Ho) : Prop := vPs N σ' ∧ p < oCt σ' ∧ oCd σ' = oCd σ ∧ oQt σ' = oQt σ ∧ oSp σ' = oSp σ
theorem deliver_k (σ : Ho) (q : Nat) (t : Tm) : oCd (deliverM σ q t) = oCd σ ∧ oQt (deliverM σ q t) = oQt σ ∧ oSp (deliverM σ q t) = oSp σ := by
  unfold deliverM
  split
  · exact ⟨rfl, rfl, rfl⟩
  · split <;> exact ⟨rfl, rfl, rfl⟩
theorem loop_k : ∀ (n : Nat) (σ : Ho) (p : Nat) (r : Tm) (q : Nat), oCd (loopM n σ p r q) = oCd σ ∧ oQt (loopM n σ p r q) = oQt σ ∧ oSp (loopM n σ p r q) = oSp σ
  | 0, σ, p, r, q => ⟨rfl, rfl, rfl⟩
  | n + 1, σ, p, r, q => by
    rw [loopM]
    split
    · exact ⟨rfl, rfl, rfl⟩
    · split
      · exact loop_k n σ p r (q + 1)
      · split
        · exact loop_k n (untieM σ p q) p r (q + 1)
        · split
          · have a := loop_k n (deliverM (untieM σ p q) q (noticeM p r)) p r (q + 1)
            have b := deliver_k (untieM σ p q) q (noticeM p r)
            exact ⟨a.1.trans b.1, a.2.1.trans b.2.1, a.2.2.trans b.2.2⟩
          · split
            · exact loop_k n (untieM σ p q) p r (q + 1)
            · have a := loop_k n (loopM n (stopM (untieM σ p q) q r) q r 0) p r (q + 1)
              have b := loop_k n (stopM (untieM σ p q) q r) q r 0
              exact ⟨a.1.trans b.1, a.2.1.trans b.2.1, a.2.2.trans b.2.2⟩
theorem end_k {N : Nat} {σ : Ho} {p q : Nat} {r : Tm} (v : vPs N σ) (hp : p < oCt σ) (hq : q < oCt σ) (hr : vTm r) : Kp N σ q (endM σ p r) := by
  obtain ⟨a, b⟩ := end_v v hp hr
  refine ⟨a, by rw [b]; exact hq, ?_⟩
  unfold endM
  split
  · exact ⟨rfl, rfl, rfl⟩
  · exact loop_k FU (stopM σ p r) p r 0
theorem sig_k {N : Nat} {σ : Ho} {p q x : Nat} {r : Tm} (v : vPs N σ) (hp : p < oCt σ) (hq : q < oCt σ) (hx : x < oCt σ) (hr : vTm r) : Kp N σ x (sigM FU σ p q r) := by
  obtain ⟨a, b, -⟩ := sig_v (n := FU) v hp hq hr
  refine ⟨a, by rw [b]; exact hx, ?_⟩
  unfold sigM
  split
  · exact ⟨rfl, rfl, rfl⟩
  · split
    · exact deliver_k _ _ _
    · split
      · exact ⟨rfl, rfl, rfl⟩
      · exact loop_k FU (stopM σ q r) q r 0
theorem vAt (n : Int32) : vTm (.leaf (1, n)) := ⟨Or.inl (Or.inr (Or.inl rfl)), Nat.le_of_ble_eq_true rfl⟩
theorem vIt (n : Int32) : vTm (.leaf (0, n)) := ⟨Or.inl (Or.inl rfl), Nat.le_of_ble_eq_true rfl⟩
theorem vPt (n : Int32) : vTm (.leaf (2, n)) := ⟨Or.inl (Or.inr (Or.inr rfl)), Nat.le_of_ble_eq_true rfl⟩
theorem vNt : vTm nilT := ⟨Or.inr rfl, Nat.le_of_ble_eq_true rfl⟩
theorem reg_k {N : Nat} {σ : Ho} {p r : Nat} {t : Tm} (v : vPs N σ) (hp : p < oCt σ) (ht : vTm t) : Kp (N + 1) σ p (sPr σ p (sRg (oPr σ p) r t)) := by
  have w := v.2.2 p hp
  refine ⟨(v.setP (P' := sRg (oPr σ p) r t) ⟨fun k => ?_, w.2⟩ (fun _ => Iff.rfl)).mono (Nat.le_succ _), hp, rfl, rfl, rfl⟩
  show vTm (va_up (pRg (oPr σ p)) r t k)
  by_cases h : k = r
  · rw [h, va_up_self]; exact ht
  · rw [va_up_ne _ _ h]; exact w.1 k
theorem pl_k {N : Nat} {σ : Ho} {p l : Nat} (v : vPs N σ) (hp : p < oCt σ) (hl : l ≤ 48) : Kp (N + 1) σ p (sPr σ p (sPl (oPr σ p) l)) := by
  have w := v.2.2 p hp
  exact ⟨(v.setP (P' := sPl (oPr σ p) l) ⟨w.1, hl, w.2.2⟩ (fun _ => Iff.rfl)).mono (Nat.le_succ _), hp, rfl, rfl, rfl⟩
theorem me_k {N : Nat} {σ : Ho} {p : Nat} (v : vPs N σ) (hp : p < oCt σ) : Kp (N + 1) σ p σ := ⟨v.mono (Nat.le_succ _), hp, rfl, rfl, rfl⟩
theorem Kp.up {N : Nat} {σ σ' : Ho} {p : Nat} (k : Kp N σ p σ') : Kp (N + 1) σ p σ' := ⟨k.1.mono (Nat.le_succ _), k.2⟩
theorem susp_v {N : Nat} {σ : Ho} {p : Nat} (v : vPs N σ) (hp : p < oCt σ) (h1 : pSt (oPr σ p) = 1) : vPs N (suspendM σ p) := by
  have w := v.2.2 p hp
  refine ⟨v.1, ⟨v.2.1.1.filter _, fun x hx => ?_, fun x hx hx1 => ?_⟩, fun x hx => ?_⟩
  · have h1 := List.mem_filter.mp hx
    have h2 : x ≠ p := by simpa using h1.2
    refine ⟨(v.2.1.2.1 x h1.1).1, ?_⟩
    show pSt (va_up (oPr σ) p _ x) = 1
    rw [va_up_ne _ _ h2]; exact (v.2.1.2.1 x h1.1).2
  · have hx1 : pSt (va_up (oPr σ) p (sSt (oPr σ p) 2) x) = 1 := hx1
    by_cases h2 : x = p
    · rw [h2, va_up_self] at hx1; cases hx1
    · rw [va_up_ne _ _ h2] at hx1
      exact List.mem_filter.mpr ⟨v.2.1.2.2 x hx hx1, by simpa using h2⟩
  · show vPr N (va_up (oPr σ) p _ x)
    by_cases h2 : x = p
    · rw [h2, va_up_self]
      refine ⟨w.1, w.2.1, w.2.2.1, w.2.2.2.1, w.2.2.2.2.1, Or.inr (Or.inl rfl), w.2.2.2.2.2.2.1, ⟨fun e => absurd (show (2 : Nat) = 3 from e) (by decide), fun e => ?_⟩⟩
      have := w.2.2.2.2.2.2.2.mpr e
      omega
    · rw [va_up_ne _ _ h2]; exact v.2.2 x hx
theorem tOk_l {k : Nat} {l r : Tm} (h : vTm (.branch k l r)) : vTm l ∧ vTm r := by
  have := h.2
  simp only [tW] at this
  exact ⟨⟨h.1.2.1, by omega⟩, ⟨h.1.2.2, by omega⟩⟩
theorem perform_v {N : Nat} {σ σ' : Ho} {p op : Nat} {a b c : Int32} (v : vPs N σ) (hp : p < oCt σ) (hr : pSt (oPr σ p) = 1) (vi : vIns op a b c) (e : performM σ p op a b c = some σ') : Kp (N + 1) σ p σ' := by
  match op, vi, e with
  | 0, vi, e =>
    cases e
    exact reg_k v hp (vIt _)
  | 1, vi, e =>
    cases e
    exact reg_k v hp (vAt _)
  | 2, vi, e =>
    cases e
    exact reg_k v hp ((v.2.2 p hp).1 _)
  | 3, vi, e =>
    cases e
    exact reg_k v hp (vPt _)
  | 4, vi, e =>
    cases e
    exact reg_k v hp vNt
  | 5, vi, e =>
    simp only [performM] at e
    split at e
    · cases e
    · cases e
      rename_i hw
      exact reg_k v hp ⟨⟨Or.inl rfl, ((v.2.2 p hp).1 _).1, ((v.2.2 p hp).1 _).1⟩, by simp only [tW]; omega⟩
  | 6, vi, e =>
    simp only [performM] at e
    split at e
    · cases e
    · cases e
      rename_i hw
      exact reg_k v hp ⟨⟨Or.inr rfl, ((v.2.2 p hp).1 _).1, ((v.2.2 p hp).1 _).1⟩, by simp only [tW]; omega⟩
  | 7, vi, e =>
    simp only [performM] at e
    split at e
    · cases e
    · cases e
      rename_i hw
      exact reg_k v hp (tOk_l (hw ▸ (v.2.2 p hp).1 _)).1
  | 8, vi, e =>
    simp only [performM] at e
    split at e
    · cases e
    · cases e
      rename_i hw
      exact reg_k v hp (tOk_l (hw ▸ (v.2.2 p hp).1 _)).2
  | 9, vi, e =>
    simp only [performM] at e
    split at e
    · cases e
      exact reg_k v hp (vIt _)
    · cases e
  | 10, vi, e =>
    simp only [performM] at e
    split at e
    · cases e
      exact reg_k v hp (vIt _)
    · cases e
  | 11, vi, e =>
    obtain ⟨-, -, k, hk, rfl⟩ := vi
    simp only [performM] at e
    split at e
    · cases e
      split
      · exact me_k v hp
      · exact pl_k v hp (by rw [cl_nI (by omega)]; omega)
    · cases e
  | 12, vi, e =>
    obtain ⟨-, -, k, hk, rfl⟩ := vi
    simp only [performM] at e
    cases e
    split
    · exact me_k v hp
    · exact pl_k v hp (by rw [cl_nI (by omega)]; omega)
  | 13, vi, e =>
    obtain ⟨-, -, k, hk, rfl⟩ := vi
    simp only [performM] at e
    cases e
    split
    · exact me_k v hp
    · exact pl_k v hp (by rw [cl_nI (by omega)]; omega)
  | 14, vi, e =>
    obtain ⟨k, hk, rfl⟩ := vi
    cases e
    exact pl_k v hp (by rw [cl_nI (by omega)]; omega)
  | 15, vi, e =>
    obtain ⟨k, hk, rfl⟩ := vi
    simp only [performM] at e
    split at e
    · cases e
    · cases e
      rename_i hl
      have w := v.2.2 p hp
      refine ⟨(v.setP (P' := sPl (sRe (oPr σ p) (pRe (oPr σ p) ++ [pPl (oPr σ p)])) (cl (nI k))) ⟨w.1, (by show cl (nI k) ≤ 48; rw [cl_nI (by omega)]; omega), ⟨by show (pRe (oPr σ p) ++ [pPl (oPr σ p)]).length ≤ 6; rw [List.length_append]; simp only [List.length_cons, List.length_nil]; omega, fun x hx => ?_⟩, w.2.2.2⟩ (fun _ => Iff.rfl)).mono (Nat.le_succ _), hp, rfl, rfl, rfl⟩
      rcases List.mem_append.mp hx with hx | hx
      · exact w.2.2.1.2 x hx
      · rw [List.mem_singleton.mp hx]; exact w.2.1
  | 16, vi, e =>
    simp only [performM] at e
    split at e
    · cases e
      exact (end_k v hp hp (vAt _)).up
    · cases e
      rename_i x hx
      have w := v.2.2 p hp
      have hm : x ∈ pRe (oPr σ p) := List.mem_of_getLast? hx
      exact ⟨(v.setP (P' := sPl (sRe (oPr σ p) (pRe (oPr σ p)).dropLast) x) ⟨w.1, w.2.2.1.2 x hm, ⟨Nat.le_trans (by show (pRe (oPr σ p)).dropLast.length ≤ (pRe (oPr σ p)).length; rw [List.length_dropLast]; omega) w.2.2.1.1, fun y hy => w.2.2.1.2 y ((List.dropLast_sublist _).subset hy)⟩, w.2.2.2⟩ (fun _ => Iff.rfl)).mono (Nat.le_succ _), hp, rfl, rfl, rfl⟩
  | 17, vi, e =>
    simp only [performM] at e
    split at e
    · cases e
    · cases e
      rename_i q hq
      have hq := (pidM_some v.1 hq).2.1
      exact ⟨(v.deliver hq ((v.2.2 p hp).1 _)).mono (Nat.le_succ _), by rw [deliver_ct]; exact hp, deliver_k _ _ _⟩
  | 18, vi, e =>
    obtain ⟨-, k, hk, rfl⟩ := vi
    simp only [performM] at e
    split at e
    · cases e
      rename_i t ht
      exact reg_k v hp ((v.2.2 p hp).2.2.2.1.2 t (List.mem_of_getElem? ht))
    · cases e
      exact pl_k v hp (by rw [cl_nI (by omega)]; omega)
  | 19, vi, e =>
    simp only [performM] at e
    split at e
    · cases e
      have w := v.2.2 p hp
      exact ⟨(v.setP (P' := sMk (sMs (oPr σ p) ((pMs (oPr σ p)).eraseIdx (pMk (oPr σ p)))) 0) ⟨w.1, w.2.1, w.2.2.1, ⟨Nat.le_trans (List.length_eraseIdx_le _ _) w.2.2.2.1.1, fun t ht => w.2.2.2.1.2 t (List.mem_of_mem_eraseIdx ht)⟩, Nat.zero_le _, w.2.2.2.2.2⟩ (fun _ => Iff.rfl)).mono (Nat.le_succ _), hp, rfl, rfl, rfl⟩
    · cases e
  | 20, vi, e =>
    obtain ⟨k, hk, rfl⟩ := vi
    cases e
    have v' := v.mono (Nat.le_succ N)
    have w := v.2.2 p hp
    exact ⟨v'.setP (P' := sPl (sMk (oPr σ p) (pMk (oPr σ p) + 1)) (cl (nI k))) ⟨w.1, (by show cl (nI k) ≤ 48; rw [cl_nI (by omega)]; omega), w.2.2.1, w.2.2.2.1, Nat.succ_le_succ w.2.2.2.2.1, w.2.2.2.2.2⟩ (fun _ => Iff.rfl), hp, rfl, rfl, rfl⟩
  | 21, vi, e =>
    obtain ⟨k, hk, rfl⟩ := vi
    simp only [performM] at e
    split at e
    · cases e
      exact pl_k v hp (by rw [cl_nI (by omega)]; omega)
    · cases e
      exact pl_k (σ := suspendM σ p) (susp_v v hp hr) hp (by rw [cl_nI (by omega)]; omega)
  | 22, vi, e =>
    obtain ⟨-, ⟨j, hj, rfl⟩, -⟩ := vi
    simp only [performM] at e
    split at e
    · cases e
    · cases e
      rename_i hf
      have hf : oCt σ < 12 := by omega
      have v2 : vPs N (startM σ (cl (nI j)) (pRg (oPr σ p) (cl c))) := v.start hf (by rw [cl_nI (by omega)]; omega) ((v.2.2 p hp).1 _)
      exact reg_k (σ := startM σ (cl (nI j)) (pRg (oPr σ p) (cl c))) v2 (show p < oCt σ + 1 by omega) (vPt _)
  | 23, vi, e =>
    simp only [performM] at e
    split at e
    · cases e
    · cases e
      rename_i q hq
      have hq := (pidM_some v.1 hq).2.1
      unfold linkM
      split
      · exact (sig_k v hq hp hp (vAt _)).up
      · split
        · exact me_k v hp
        · exact ⟨(v.tie hp hq).mono (Nat.le_succ _), hp, rfl, rfl, rfl⟩
  | 24, vi, e =>
    cases e
    exact ⟨(v.setP (P' := sTr (oPr σ p) (a == 1)) (v.2.2 p hp) (fun _ => Iff.rfl)).mono (Nat.le_succ _), hp, rfl, rfl, rfl⟩
  | 25, vi, e =>
    cases e
    exact (end_k v hp hp ((v.2.2 p hp).1 _)).up
  | 26, vi, e =>
    simp only [performM] at e
    split at e
    · cases e
    · cases e
      rename_i q hq
      have hq := (pidM_some v.1 hq).2.1
      exact (sig_k v hp hq hp (vAt _)).up
  | n + 27, vi, e => exact vi.elim
theorem redB_st (σ : Ho) (p : Nat) : pSt (oPr (redB σ p) p) = pSt (oPr σ p) := by
  show pSt (va_up (oPr (redA σ p)) p _ p) = _
  rw [va_up_self]
  show pSt (va_up (oPr σ) p _ p) = _
  rw [va_up_self]
theorem reduce_v {N : Nat} {σ : Ho} {p : Nat} (v : vPs N σ) (vc : vCd σ) (hp : p < oCt σ) (hr : pSt (oPr σ p) = 1) : Kp (N + 1) σ p (reduceM σ p) := by
  unfold reduceM
  split
  · exact (end_k (v.redA hp) hp hp (vAt _)).up
  · rename_i q hq
    have hl : pPl (oPr σ p) < 48 := Nat.lt_of_lt_of_le (List.getElem?_eq_some_iff.mp hq).1 vc.1
    have v2 := v.redB hp hl
    split
    · rename_i σ' h
      exact perform_v (σ := redB σ p) v2 hp (by rw [redB_st]; exact hr) (vc.2 q (List.mem_of_getElem? hq)) h
    · exact (end_k v2 hp hp (vAt _)).up
/-- the turn, behind a reduction -/
def turnM (σ : Ho) (p : Nat) : Ho := if pSt (oPr σ p) = 1 then (if nI (oSp σ + 1) < oQt σ then sSp σ (oSp σ + 1) else sSp (sQu σ ((oQu σ).filter (fun x => x ≠ p) ++ [p])) 0) else sSp σ 0
theorem turn_v {N : Nat} {σ : Ho} {p : Nat} (v : vPs N σ) (hp : p < oCt σ) : vPs N (turnM σ p) ∧ oCt (turnM σ p) = oCt σ ∧ oCd (turnM σ p) = oCd σ ∧ oQt (turnM σ p) = oQt σ := by
  unfold turnM
  split
  · rename_i h1
    split
    · exact ⟨v, rfl, rfl, rfl⟩
    · refine ⟨⟨v.1, ⟨?_, fun x hx => ?_, fun x hx hx1 => ?_⟩, v.2.2⟩, rfl, rfl, rfl⟩
      · show ((oQu σ).filter (fun x => x ≠ p) ++ [p]).Nodup
        rw [List.nodup_append]
        exact ⟨v.2.1.1.filter _, by simp, fun a ha b hb => by rw [List.mem_singleton.mp hb]; have := (List.mem_filter.mp ha).2; simpa using this⟩
      · have hx : x ∈ (oQu σ).filter (fun x => x ≠ p) ++ [p] := hx
        rcases List.mem_append.mp hx with hx | hx
        · exact v.2.1.2.1 x (List.mem_filter.mp hx).1
        · rw [List.mem_singleton.mp hx]; exact ⟨hp, h1⟩
      · show x ∈ (oQu σ).filter (fun x => x ≠ p) ++ [p]
        by_cases e : x = p
        · exact List.mem_append_right _ (List.mem_singleton.mpr e)
        · exact List.mem_append_left _ (List.mem_filter.mpr ⟨v.2.1.2.2 x hx hx1, by simpa using e⟩)
  · exact ⟨v, rfl, rfl, rfl⟩
/-- up to n reductions: the host, how many were done -/
def runM : Nat → Ho → Ho × Nat
  | 0, σ => (σ, 0)
  | n + 1, σ => match oQu σ with
    | [] => (σ, 0)
    | p :: _ => ((runM n (turnM (reduceM σ p) p)).1, (runM n (turnM (reduceM σ p) p)).2 + 1)
def runC : Nat → Ho → Nat
  | 0, _ => 0
  | n + 1, σ => match oQu σ with
    | [] => 0
    | p :: _ => reduceC σ p + runC n (turnM (reduceM σ p) p)
theorem CR.sp {h : th_H} {o : Nat} {σ : Ho} (z : CR o σ h) (wf : WFh h) (hc : oCt σ ≤ 12) (s : Nat) : CR o (sSp σ s) (gpF h 7 4 o (.int (nI s))) ∧ Chg o h (gpF h 7 4 o (.int (nI s))) := by
  have chg : Chg o h (gpF h 7 4 o (.int (nI s))) := (Chg.rf o h).pF ⟨by omega, by omega⟩ rfl
  exact ⟨CR.to z wf chg (by simp [gF_pF, z.2.1.1]) (by rw [gF_pF, if_pos ⟨rfl, rfl, rfl⟩]) ⟨by simp [gF_pF, z.2.2.1.1], z.2.2.1.2⟩ ⟨by simp [gF_pF, z.2.2.2.1.1], z.2.2.2.1.2⟩ (by simp [gF_pF, z.2.2.2.2.1]) (fun q hq => (z.2.2.2.2.2 q hq).same (chg.te wf) ((Same.rf o q h).pF ⟨by omega, by omega⟩)), chg⟩
theorem c_H_count {E : th_E} {h : th_H} {o : Nat} {σ : Ho} (z : CR o σ h) {N p : Nat} (v : vPs N σ) (hp : p < oCt σ) : Xc E m_H_countInTurn 1 0 0 [.ref o, .ref (o + 6 + 6 * p)] h (Mv o h none (turnM σ p)) := by
  have hp12 : p < 12 := by have := v.1; omega
  have hc := v.1
  have zp := z.2.2.2.2.2 p hp
  refine Xc.of (by decide) (by simp [Value.category]) (Nat.le_of_ble_eq_true rfl) ?_
  show Xw E m_H_countInTurn 1 0 0 0 [some (.ref o), some (.ref (o + 6 + 6 * p))] [] h _
  refine Xw.wf (fun wf => ?_)
  have z1 := (z.sp wf hc (oSp σ + 1)).1
  have chg1 : Chg o h (gpF h 7 4 o (.int (nI (oSp σ + 1)))) := (z.sp wf hc (oSp σ + 1)).2
  by_cases hs : pSt (oPr σ p) = 1
  · by_cases hq : nI (oSp σ + 1) < oQt σ
    · refine x_aload_n d_H_countInTurn_0 rfl rfl ?_
      refine x_dup d_H_countInTurn_1 rfl ?_
      refine x_getf (v := .int (nI (oSp σ))) d_H_countInTurn_2 lf_H_30 z.1.1.kO z.2.1.2 ?_
      refine x_iconst (v := 1) d_H_countInTurn_5 (by decide) ?_
      refine x_iadd (v := (nI (oSp σ + 1))) d_H_countInTurn_6 (nI_1 _) ?_
      refine x_putf d_H_countInTurn_7 lp_H_30 z.1.1.kO ⟨_, rfl⟩ ?_
      refine x_aload_n d_H_countInTurn_10 rfl rfl ?_
      refine x_getf (v := .int (nI (pSt (oPr σ p)))) d_H_countInTurn_11 lf_H_59 (z.1.2 p hp12).k (by simp [gF_pF, gF_pA, gF_nO, gF_nA, gF_sA, zp.2.2.2.2.2.2.2.1]) ?_
      refine x_iconst (v := (nI 1)) d_H_countInTurn_14 (by decide) ?_
      refine x_icmp_eq (tgt := 26) d_H_countInTurn_15 rfl (fun q15 => ?_) (fun w_ => absurd (by rw [hs]) w_)
      refine x_aload_n d_H_countInTurn_26 rfl rfl ?_
      refine x_getf (v := .int (nI (oSp σ + 1))) d_H_countInTurn_27 lf_H_30 z.1.1.kO (by simp [gF_pF, gF_pA, gF_nO, gF_nA, gF_sA]) ?_
      refine x_aload_n d_H_countInTurn_30 rfl rfl ?_
      refine x_getf (v := .int (oQt σ)) d_H_countInTurn_31 lf_H_9 z.1.1.kO (by simp [gF_pF, gF_pA, gF_nO, gF_nA, gF_sA, z.2.1.1]) ?_
      refine x_icmp_lt (tgt := 70) d_H_countInTurn_34 rfl (fun q34 => ?_) (fun w_ => absurd hq w_)
      exact x_ret ⟨rfl, by rw [turnM, if_pos hs, if_pos hq]; exact z1, chg1⟩ rfl d_H_countInTurn_70
    · refine x_aload_n d_H_countInTurn_0 rfl rfl ?_
      refine x_dup d_H_countInTurn_1 rfl ?_
      refine x_getf (v := .int (nI (oSp σ))) d_H_countInTurn_2 lf_H_30 z.1.1.kO z.2.1.2 ?_
      refine x_iconst (v := 1) d_H_countInTurn_5 (by decide) ?_
      refine x_iadd (v := (nI (oSp σ + 1))) d_H_countInTurn_6 (nI_1 _) ?_
      refine x_putf d_H_countInTurn_7 lp_H_30 z.1.1.kO ⟨_, rfl⟩ ?_
      refine x_aload_n d_H_countInTurn_10 rfl rfl ?_
      refine x_getf (v := .int (nI (pSt (oPr σ p)))) d_H_countInTurn_11 lf_H_59 (z.1.2 p hp12).k (by simp [gF_pF, gF_pA, gF_nO, gF_nA, gF_sA, zp.2.2.2.2.2.2.2.1]) ?_
      refine x_iconst (v := (nI 1)) d_H_countInTurn_14 (by decide) ?_
      refine x_icmp_eq (tgt := 26) d_H_countInTurn_15 rfl (fun q15 => ?_) (fun w_ => absurd (by rw [hs]) w_)
      refine x_aload_n d_H_countInTurn_26 rfl rfl ?_
      refine x_getf (v := .int (nI (oSp σ + 1))) d_H_countInTurn_27 lf_H_30 z.1.1.kO (by simp [gF_pF, gF_pA, gF_nO, gF_nA, gF_sA]) ?_
      refine x_aload_n d_H_countInTurn_30 rfl rfl ?_
      refine x_getf (v := .int (oQt σ)) d_H_countInTurn_31 lf_H_9 z.1.1.kO (by simp [gF_pF, gF_pA, gF_nO, gF_nA, gF_sA, z.2.1.1]) ?_
      refine x_icmp_lt (tgt := 70) d_H_countInTurn_34 rfl (fun w_ => absurd w_ hq) (fun q34 => ?_)
      refine x_aload_n d_H_countInTurn_37 rfl rfl ?_
      refine x_getf (v := .ref (o + 4)) d_H_countInTurn_38 lf_H_29 z.1.1.kO (by simp [gF_pF, gF_pA, gF_nO, gF_nA, gF_sA, z.1.1.H3]) ?_
      refine x_getf (v := .ref (o + 78)) d_H_countInTurn_41 lf_H_66 z.1.1.kS (by simp [gF_pF, gF_pA, gF_nO, gF_nA, gF_sA, z.1.1.S1]) ?_
      refine x_aload_n d_H_countInTurn_44 rfl rfl ?_
      refine x_getf (v := .int (nI p)) d_H_countInTurn_45 lf_H_50 (z.1.2 p hp12).k (by simp [gF_pF, gF_pA, gF_nO, gF_nA, gF_sA, (z.1.2 p hp12).n]) ?_
      refine x_invv d_H_countInTurn_48 lm_H_111 (as := [.int (nI p)]) (S := []) (c_L_leave (h := (gpF h 7 4 o (.int (nI (oSp σ + 1))))) (ln := o + 78) (na := o + 79) (qs := oQu σ) z.1.1.kL z.1.1.kLa (by simp [gF_pF, z.1.1.L0]) (by simp [gF_pF, z.2.2.2.1.1]) v.len (fun y hy => by have := (v.2.1.2.1 y hy).1; omega) hp12 (fun i x hx => z.2.2.2.1.2 i x hx)) z.1.1.kL rfl rfl rfl (Nat.le_of_ble_eq_true rfl) (by decide) (Nat.le_refl 0) (Nat.le_refl 0) ?_
      rintro _ _ ⟨rfl, f', rfl, hf⟩
      have z2 : CR o (sQu (sSp σ (oSp σ + 1)) ((oQu σ).filter (fun x => x ≠ p))) _ := z1.sQu wf (((Chg.rf o _).sA ⟨by omega, by omega, by omega⟩ (Or.inl rfl)).pF ⟨by omega, by omega⟩ rfl) (((Keep.rf o _).sA (by omega)).pF (by omega)) (cQu_set hf) (fun r hr => ((Same.rf o r _).sA ⟨by omega, by have : r < oCt σ := hr; omega⟩).pF ⟨by omega, by omega⟩)
      have chg2 : Chg o h _ := (chg1.sA (a := o + 79) (f := f') ⟨by omega, by omega, by omega⟩ (Or.inl rfl)).pF (ci := 3) (k := 1) (a := o + 78) (v := .int (nI ((oQu σ).filter (fun x => x ≠ p)).length)) ⟨by omega, by omega⟩ rfl
      generalize gpF (gsA (gpF h 7 4 o (.int (nI (oSp σ + 1)))) 1 (o + 79) f') 3 1 (o + 78) (.int (nI ((oQu σ).filter (fun x => x ≠ p)).length)) = h2 at z2 chg2 ⊢
      refine x_aload_n d_H_countInTurn_51 rfl rfl ?_
      refine x_getf (v := .ref (o + 4)) d_H_countInTurn_52 lf_H_29 z2.1.1.kO z2.1.1.H3 ?_
      refine x_getf (v := .ref (o + 78)) d_H_countInTurn_55 lf_H_66 z2.1.1.kS z2.1.1.S1 ?_
      refine x_aload_n d_H_countInTurn_58 rfl rfl ?_
      refine x_getf (v := .int (nI p)) d_H_countInTurn_59 lf_H_50 (z2.1.2 p hp12).k (z2.1.2 p hp12).n ?_
      refine x_invv d_H_countInTurn_62 lm_H_115 (as := [.int (nI p)]) (S := []) (c_L_append (ln := o + 78) (na := o + 79) (n := ((oQu σ).filter (fun x => x ≠ p)).length) (q := fun _ => 0) z2.1.1.kL z2.1.1.kLa z2.1.1.L0 z2.2.2.2.1.1 (nodup_lt (n := 12) (v.2.1.1.filter _) (fun y hy => by have := (v.2.1.2.1 y (List.mem_filter.mp hy).1).1; omega) hp12 (fun e => by have := (List.mem_filter.mp e).2; simp at this)) (nI p)) z2.1.1.kL rfl rfl rfl (Nat.le_of_ble_eq_true rfl) (by decide) (Nat.le_refl 0) (Nat.le_refl 0) ?_
      rintro _ _ ⟨rfl, rfl⟩
      refine Xw.wf (fun wf3 => ?_)
      have z3 := z2.sQu wf3 (((Chg.rf o _).pA ⟨by omega, by omega, by omega⟩ (Or.inl rfl)).pF ⟨by omega, by omega⟩ rfl) (((Keep.rf o _).pA (by omega)).pF (by omega)) (cQu_add (p := p) z2.2.2.2.1) (fun r hr => ((Same.rf o r _).pA ⟨by omega, by have : r < oCt σ := hr; omega⟩).pF ⟨by omega, by omega⟩)
      have chg3 := (chg2.pA (t := 1) (a := o + 79) (i := ((oQu σ).filter (fun x => x ≠ p)).length) (v := .int (nI p)) ⟨by omega, by omega, by omega⟩ (Or.inl rfl)).pF (ci := 3) (k := 1) (a := o + 78) (v := .int (nI (((oQu σ).filter (fun x => x ≠ p)).length + 1))) ⟨by omega, by omega⟩ rfl
      refine x_aload_n d_H_countInTurn_65 rfl rfl ?_
      refine x_iconst (v := (nI 0)) d_H_countInTurn_66 (by decide) ?_
      refine x_putf d_H_countInTurn_67 lp_H_30 z3.1.1.kO ⟨_, rfl⟩ ?_
      exact x_ret ⟨rfl, by rw [turnM, if_pos hs, if_neg hq]; exact (z3.sp wf3 hc 0).1, chg3.tr (z3.sp wf3 hc 0).2⟩ rfl d_H_countInTurn_70
  · refine x_aload_n d_H_countInTurn_0 rfl rfl ?_
    refine x_dup d_H_countInTurn_1 rfl ?_
    refine x_getf (v := .int (nI (oSp σ))) d_H_countInTurn_2 lf_H_30 z.1.1.kO z.2.1.2 ?_
    refine x_iconst (v := 1) d_H_countInTurn_5 (by decide) ?_
    refine x_iadd (v := (nI (oSp σ + 1))) d_H_countInTurn_6 (nI_1 _) ?_
    refine x_putf d_H_countInTurn_7 lp_H_30 z.1.1.kO ⟨_, rfl⟩ ?_
    refine x_aload_n d_H_countInTurn_10 rfl rfl ?_
    refine x_getf (v := .int (nI (pSt (oPr σ p)))) d_H_countInTurn_11 lf_H_59 (z.1.2 p hp12).k (by simp [gF_pF, gF_pA, gF_nO, gF_nA, gF_sA, zp.2.2.2.2.2.2.2.1]) ?_
    refine x_iconst (v := (nI 1)) d_H_countInTurn_14 (by decide) ?_
    refine x_icmp_eq (tgt := 26) d_H_countInTurn_15 rfl (fun w_ => absurd w_ (fun e => hs (nI_inj (by have := (v.2.2 p hp).2.2.2.2.2.1; omega) (by decide) e))) (fun q15 => ?_)
    refine x_aload_n d_H_countInTurn_18 rfl rfl ?_
    refine x_iconst (v := (nI 0)) d_H_countInTurn_19 (by decide) ?_
    refine x_putf d_H_countInTurn_20 lp_H_30 z.1.1.kO ⟨_, rfl⟩ ?_
    refine x_goto (tgt := 70) d_H_countInTurn_23 rfl ?_
    exact x_ret ⟨rfl, by rw [turnM, if_neg hs]; exact (z1.sp wf hc 0).1, chg1.tr (z1.sp wf hc 0).2⟩ rfl d_H_countInTurn_70
theorem c_H_run_loop {E : th_E} {o n : Nat} (hn : n ≤ 15) : ∀ (m k : Nat) (σ : Ho) (h : th_H) (x3 : Option Value) (N : Nat), CR o σ h → vPs N σ → vCd σ → k + m = n → N + m < 2 ^ 31 → Xw E m_H_run 55 (runC m σ) (5 * runC m σ) 15 [some (.ref o), some (.int (nI n)), some (.int (nI k)), x3] [] h (fun v h' => v = some (.int (nI (k + (runM m σ).2))) ∧ CR o (runM m σ).1 h' ∧ Chg o h h') := by
  intro m
  induction m with
  | zero =>
    intro k σ h x3 N z v vc hk hN
    rw [show runC 0 σ = 0 from rfl]
    refine x_iload_n d_H_run_15 rfl rfl ?_
    refine x_iload_n d_H_run_16 rfl rfl ?_
    refine x_icmp_ge (tgt := 65) d_H_run_17 rfl (fun q17 => ?_) (fun w_ => absurd (nI_le (by omega) (by omega)) w_)
    refine x_iload_n d_H_run_65 rfl rfl ?_
    exact x_iret d_H_run_66 rfl rfl ⟨by simp only [runM]; rfl, by simp only [runM]; exact z, Chg.rf o h⟩
  | succ m ih =>
    intro k σ h x3 N z v vc hk hN
    cases hq : oQu σ with
    | nil =>
      rw [show runC (m + 1) σ = 0 by simp only [runC, hq]]
      refine x_iload_n d_H_run_15 rfl rfl ?_
      refine x_iload_n d_H_run_16 rfl rfl ?_
      refine x_icmp_ge (tgt := 65) d_H_run_17 rfl (fun w_ => absurd w_ (nI_ge (by omega) (by omega))) (fun q17 => ?_)
      refine x_aload_n d_H_run_20 rfl rfl ?_
      refine x_getf (v := .ref (o + 4)) d_H_run_21 lf_H_29 z.1.1.kO z.1.1.H3 ?_
      refine x_aload_n d_H_run_24 rfl rfl ?_
      refine x_getf (v := .ref (o + 4)) d_H_run_25 lf_H_29 z.1.1.kO z.1.1.H3 ?_
      refine x_getf (v := .ref (o + 78)) d_H_run_28 lf_H_66 z.1.1.kS z.1.1.S1 ?_
      refine x_iconst (v := 0) d_H_run_31 (by decide) ?_
      refine x_invv d_H_run_32 lm_H_70 (as := [.int 0]) (S := [.ref (o + 4)]) (cz' := 0) (cs' := 5 * (0)) (c_L_at (q := fun i => nI ((oQu σ).getD i 0)) z.1.1.kL z.1.1.kLa z.1.1.L0 z.2.2.2.1.1 v.len (fun i hi => by rw [z.2.2.2.1.2 i _ (List.getElem?_eq_getElem hi)]; simp [hi]) 0 (-1) ⟨fun _ => rfl, fun j hj e => absurd hj (by rw [hq]; exact Nat.not_lt_zero _)⟩) z.1.1.kL rfl rfl rfl (Nat.le_of_ble_eq_true rfl) (by decide) (by omega) (by omega) ?_
      rintro _ _ ⟨rfl, rfl⟩
      refine x_invv d_H_run_35 lm_H_55 (as := [.int (-1)]) (S := []) (cz' := 0) (cs' := 5 * (0)) (c_num_no z v.1 (Or.inl (by decide))) z.1.1.kS rfl rfl rfl (Nat.le_of_ble_eq_true rfl) (by decide) (by omega) (by omega) ?_
      rintro _ _ ⟨rfl, rfl⟩
      refine x_astore_nN d_H_run_38 rfl (by decide) (L' := [some (.ref o), some (.int (nI n)), some (.int (nI k)), some (.null)]) rfl ?_
      refine x_aload_nN d_H_run_39 rfl rfl ?_
      refine x_ifnonnullN d_H_run_40 ?_
      refine x_goto (tgt := 65) d_H_run_43 rfl ?_
      refine x_iload_n d_H_run_65 rfl rfl ?_
      exact x_iret d_H_run_66 rfl rfl ⟨by simp only [runM, hq]; rfl, by simp only [runM, hq]; exact z, Chg.rf o h⟩
    | cons p ps =>
      have hpq := v.2.1.2.1 p (by rw [hq]; exact List.mem_cons_self)
      have hp := hpq.1
      have kp := reduce_v v vc hp hpq.2
      have tv := turn_v kp.1 kp.2.1
      rw [show runC (m + 1) σ = reduceC σ p + runC m (turnM (reduceM σ p) p) by simp only [runC, hq]]
      refine x_iload_n d_H_run_15 rfl rfl ?_
      refine x_iload_n d_H_run_16 rfl rfl ?_
      refine x_icmp_ge (tgt := 65) d_H_run_17 rfl (fun w_ => absurd w_ (nI_ge (by omega) (by omega))) (fun q17 => ?_)
      refine x_aload_n d_H_run_20 rfl rfl ?_
      refine x_getf (v := .ref (o + 4)) d_H_run_21 lf_H_29 z.1.1.kO z.1.1.H3 ?_
      refine x_aload_n d_H_run_24 rfl rfl ?_
      refine x_getf (v := .ref (o + 4)) d_H_run_25 lf_H_29 z.1.1.kO z.1.1.H3 ?_
      refine x_getf (v := .ref (o + 78)) d_H_run_28 lf_H_66 z.1.1.kS z.1.1.S1 ?_
      refine x_iconst (v := 0) d_H_run_31 (by decide) ?_
      refine x_invv d_H_run_32 lm_H_70 (as := [.int 0]) (S := [.ref (o + 4)]) (cz' := (reduceC σ p + runC m (turnM (reduceM σ p) p))) (cs' := 5 * ((reduceC σ p + runC m (turnM (reduceM σ p) p)))) (c_L_at (q := fun i => nI ((oQu σ).getD i 0)) z.1.1.kL z.1.1.kLa z.1.1.L0 z.2.2.2.1.1 v.len (fun i hi => by rw [z.2.2.2.1.2 i _ (List.getElem?_eq_getElem hi)]; simp [hi]) 0 (nI p) ⟨fun e => absurd e (by rw [hq]; rintro (e | e); exact absurd e (by decide); exact absurd e (nI_ge (a := 0) (by simp) (by have := v.len; rw [hq] at this; omega))), fun j hj e => by have := nI_inj (a := 0) (by decide) (by have := v.len; omega) e; subst this; rw [hq]; rfl⟩) z.1.1.kL rfl rfl rfl (Nat.le_of_ble_eq_true rfl) (by decide) (by omega) (by omega) ?_
      rintro _ _ ⟨rfl, rfl⟩
      refine x_invv d_H_run_35 lm_H_55 (as := [.int (nI p)]) (S := []) (cz' := (reduceC σ p + runC m (turnM (reduceM σ p) p))) (cs' := 5 * ((reduceC σ p + runC m (turnM (reduceM σ p) p)))) (c_num z v.1 hp) z.1.1.kS rfl rfl rfl (Nat.le_of_ble_eq_true rfl) (by decide) (by omega) (by omega) ?_
      rintro _ _ ⟨rfl, rfl⟩
      refine x_astore_n d_H_run_38 rfl (by decide) (L' := [some (.ref o), some (.int (nI n)), some (.int (nI k)), some (.ref (o + 6 + 6 * p))]) rfl ?_
      refine x_aload_n d_H_run_39 rfl rfl ?_
      refine x_ifnonnull (tgt := 46) d_H_run_40 rfl ?_
      refine x_aload_n d_H_run_46 rfl rfl ?_
      refine x_getf (v := .ref (o + 1)) d_H_run_47 lf_H_16 z.1.1.kO z.1.1.H1 ?_
      refine x_aload_n d_H_run_50 rfl rfl ?_
      refine x_invv d_H_run_51 lm_H_76 (as := [.ref (o + 6 + 6 * p)]) (S := []) (cz' := runC m (turnM (reduceM σ p) p)) (cs' := 5 * (runC m (turnM (reduceM σ p) p))) (c_M_reduce z v vc (by omega) hp) z.1.1.kM rfl rfl rfl (Nat.le_of_ble_eq_true rfl) (by decide) (by omega) (by omega) ?_
      rintro _ h1 ⟨rfl, z1, chg1⟩
      refine x_iinc d_H_run_54 rfl (v := (nI (k + 1))) (nI_1 _) (by decide) (L' := [some (.ref o), some (.int (nI n)), some (.int (nI (k + 1))), some (.ref (o + 6 + 6 * p))]) rfl ?_
      refine x_aload_n d_H_run_57 rfl rfl ?_
      refine x_aload_n d_H_run_58 rfl rfl ?_
      refine x_invv d_H_run_59 lm_H_80 (as := [.ref (o + 6 + 6 * p)]) (S := []) (cz' := runC m (turnM (reduceM σ p) p)) (cs' := 5 * (runC m (turnM (reduceM σ p) p))) (c_H_count z1 kp.1 kp.2.1) z1.1.1.kO rfl rfl rfl (Nat.le_of_ble_eq_true rfl) (by decide) (by omega) (by omega) ?_
      rintro _ h2 ⟨rfl, z2, chg2⟩
      refine x_goto (tgt := 15) d_H_run_62 rfl ?_
      exact (ih (k + 1) _ h2 _ (N + 1) z2 tv.1 ⟨by rw [tv.2.2.1, kp.2.2.1]; exact vc.1, by rw [tv.2.2.1, kp.2.2.1]; exact vc.2⟩ (by omega) (by omega)).post (fun u h' y => ⟨by rw [y.1]; simp only [runM, hq]; rw [show k + 1 + (runM m (turnM (reduceM σ p) p)).2 = k + ((runM m (turnM (reduceM σ p) p)).2 + 1) by omega], by simp only [runM, hq]; exact y.2.1, (chg1.tr chg2).tr y.2.2⟩)
theorem c_H_run_lo {E : th_E} {h : th_H} {o : Nat} (k : Int32) (hk : k < 1) : Xc E m_H_run 55 0 0 [.ref o, .int k] h (Ex (some (.int (-1))) h) := by
  refine Xc.of (by decide) (by simp [Value.category]) (Nat.le_of_ble_eq_true rfl) ?_
  show Xw E m_H_run 55 0 0 0 [some (.ref o), some (.int k), none, none] [] h _
  refine x_iload_n d_H_run_0 rfl rfl ?_
  refine x_iconst (v := 1) d_H_run_1 (by decide) ?_
  refine x_icmp_lt (tgt := 11) d_H_run_2 rfl (fun q2 => ?_) (fun w_ => absurd hk w_)
  refine x_iconst (v := (-1)) d_H_run_11 (by decide) ?_
  exact x_iret d_H_run_12 rfl rfl ⟨rfl, rfl⟩
theorem c_H_run_hi {E : th_E} {h : th_H} {o : Nat} (k : Int32) (h0 : ¬ k < 1) (hk : 15 < k) : Xc E m_H_run 55 0 0 [.ref o, .int k] h (Ex (some (.int (-1))) h) := by
  refine Xc.of (by decide) (by simp [Value.category]) (Nat.le_of_ble_eq_true rfl) ?_
  show Xw E m_H_run 55 0 0 0 [some (.ref o), some (.int k), none, none] [] h _
  refine x_iload_n d_H_run_0 rfl rfl ?_
  refine x_iconst (v := 1) d_H_run_1 (by decide) ?_
  refine x_icmp_lt (tgt := 11) d_H_run_2 rfl (fun w_ => absurd w_ h0) (fun q2 => ?_)
  refine x_iload_n d_H_run_5 rfl rfl ?_
  refine x_bipush (v := 15) d_H_run_6 (by decide) ?_
  refine x_icmp_le (tgt := 13) d_H_run_8 rfl (fun w_ => absurd w_ (fun e => i32_nle e hk)) (fun q8 => ?_)
  refine x_iconst (v := (-1)) d_H_run_11 (by decide) ?_
  exact x_iret d_H_run_12 rfl rfl ⟨rfl, rfl⟩
theorem c_H_run {E : th_E} {h : th_H} {o : Nat} {σ : Ho} (z : CR o σ h) {N n : Nat} (v : vPs N σ) (vc : vCd σ) (hn1 : 1 ≤ n) (hn : n ≤ 15) (hN : N + n < 2 ^ 31) : Xc E m_H_run 55 (runC n σ) (5 * runC n σ) [.ref o, .int (nI n)] h (Mv o h (some (.int (nI (runM n σ).2))) (runM n σ).1) := by
  refine Xc.of (by decide) (by simp [Value.category]) (Nat.le_of_ble_eq_true rfl) ?_
  show Xw E m_H_run 55 (runC n σ) (5 * runC n σ) 0 [some (.ref o), some (.int (nI n)), none, none] [] h _
  refine x_iload_n d_H_run_0 rfl rfl ?_
  refine x_iconst (v := 1) d_H_run_1 (by decide) ?_
  refine x_icmp_lt (tgt := 11) d_H_run_2 rfl (fun w_ => absurd w_ (nI_nlt (b := 1) hn1 (by omega))) (fun q2 => ?_)
  refine x_iload_n d_H_run_5 rfl rfl ?_
  refine x_bipush (v := 15) d_H_run_6 (by decide) ?_
  refine x_icmp_le (tgt := 13) d_H_run_8 rfl (fun q8 => ?_) (fun w_ => absurd (nI_le (b := 15) hn (by decide)) w_)
  refine x_iconst (v := (nI 0)) d_H_run_13 (by decide) ?_
  refine x_istore_n d_H_run_14 rfl (by decide) (L' := [some (.ref o), some (.int (nI n)), some (.int (nI 0)), none]) rfl ?_
  have hh := c_H_run_loop (E := E) hn n 0 σ h none N z v vc (by omega) hN
  simp only [Nat.zero_add] at hh
  exact hh
def clearM (σ : Ho) (b : Bool) : Ho := if b then sCd (sSp (dissolveM σ) 0) [] else sSp (dissolveM σ) 0
theorem c_H_clear1 {E : th_E} {h : th_H} {o : Nat} {σ : Ho} (z : CR o σ h) : Xc E m_H_clear 2 0 0 [.ref o, .int 1] h (Mv o h (some (.int (nI (oCt σ)))) (clearM σ true)) := by
  refine Xc.of (by decide) (by simp [Value.category]) (Nat.le_of_ble_eq_true rfl) ?_
  show Xw E m_H_clear 2 0 0 0 [some (.ref o), some (.int 1), none] [] h _
  refine x_aload_n d_H_clear_0 rfl rfl ?_
  refine x_getf (v := .ref (o + 4)) d_H_clear_1 lf_H_29 z.1.1.kO z.1.1.H3 ?_
  refine x_getf (v := .int (nI (oCt σ))) d_H_clear_4 lf_H_83 z.1.1.kS z.2.2.2.2.1 ?_
  refine x_istore_n d_H_clear_7 rfl (by decide) (L' := [some (.ref o), some (.int 1), some (.int (nI (oCt σ)))]) rfl ?_
  refine x_aload_n d_H_clear_8 rfl rfl ?_
  refine x_getf (v := .ref (o + 4)) d_H_clear_9 lf_H_29 z.1.1.kO z.1.1.H3 ?_
  refine x_invv d_H_clear_12 lm_H_86 (as := []) (S := []) (c_S_dissolve z) z.1.1.kS rfl rfl rfl (Nat.le_of_ble_eq_true rfl) (by decide) (Nat.le_refl 0) (Nat.le_refl 0) ?_
  rintro _ h1 ⟨rfl, z1, chg1⟩
  refine Xw.wf (fun wf1 => ?_)
  have z2 := (z1.sp wf1 (Nat.zero_le _) 0).1
  have chg2 := chg1.tr (z1.sp wf1 (Nat.zero_le _) 0).2
  refine x_aload_n d_H_clear_15 rfl rfl ?_
  refine x_iconst (v := (nI 0)) d_H_clear_16 (by decide) ?_
  refine x_putf d_H_clear_17 lp_H_30 z1.1.1.kO ⟨_, rfl⟩ ?_
  refine x_iload_n d_H_clear_20 rfl rfl ?_
  refine x_if_eq (tgt := 31) d_H_clear_21 rfl (fun w_ => absurd w_ (by decide)) (fun q21 => ?_)
  refine x_aload_n d_H_clear_24 rfl rfl ?_
  refine x_getf (v := .ref (o + 2)) d_H_clear_25 lf_H_24 z2.1.1.kO z2.1.1.H2 ?_
  refine x_invv d_H_clear_28 lm_H_89 (as := []) (S := []) (c_G_wipe (n := 0) z2.1.1.kG) z2.1.1.kG rfl rfl rfl (Nat.le_of_ble_eq_true rfl) (by decide) (Nat.le_refl 0) (Nat.le_refl 0) ?_
  rintro _ _ ⟨rfl, rfl⟩
  refine x_iload_n d_H_clear_31 rfl rfl ?_
  have chg3 := chg2.pF (ci := 5) (k := 1) (a := o + 2) (v := .int 0) ⟨by omega, by omega⟩ rfl
  have fin : CR o (clearM σ true) _ := CR.to z2 wf1 ((Chg.rf o _).pF (ci := 5) (k := 1) (a := o + 2) (v := .int 0) ⟨by omega, by omega⟩ rfl) (by rw [gF_pF, if_neg (by simp)]; exact z2.2.1.1) (by rw [gF_pF, if_neg (by simp)]; exact z2.2.1.2) ⟨by rw [gF_pF, if_pos ⟨rfl, rfl, rfl⟩]; rfl, (fun i q hq => by cases hq)⟩ ⟨by rw [gF_pF, if_neg (by simp)]; exact z2.2.2.2.1.1, z2.2.2.2.1.2⟩ (by rw [gF_pF, if_neg (by simp)]; exact z2.2.2.2.2.1) (fun q hq => absurd hq (Nat.not_lt_zero _))
  exact x_iret d_H_clear_32 rfl rfl ⟨rfl, fin, chg3⟩
theorem c_H_clear0 {E : th_E} {h : th_H} {o : Nat} {σ : Ho} (z : CR o σ h) : Xc E m_H_clear 2 0 0 [.ref o, .int 0] h (Mv o h (some (.int (nI (oCt σ)))) (clearM σ false)) := by
  refine Xc.of (by decide) (by simp [Value.category]) (Nat.le_of_ble_eq_true rfl) ?_
  show Xw E m_H_clear 2 0 0 0 [some (.ref o), some (.int 0), none] [] h _
  refine x_aload_n d_H_clear_0 rfl rfl ?_
  refine x_getf (v := .ref (o + 4)) d_H_clear_1 lf_H_29 z.1.1.kO z.1.1.H3 ?_
  refine x_getf (v := .int (nI (oCt σ))) d_H_clear_4 lf_H_83 z.1.1.kS z.2.2.2.2.1 ?_
  refine x_istore_n d_H_clear_7 rfl (by decide) (L' := [some (.ref o), some (.int 0), some (.int (nI (oCt σ)))]) rfl ?_
  refine x_aload_n d_H_clear_8 rfl rfl ?_
  refine x_getf (v := .ref (o + 4)) d_H_clear_9 lf_H_29 z.1.1.kO z.1.1.H3 ?_
  refine x_invv d_H_clear_12 lm_H_86 (as := []) (S := []) (c_S_dissolve z) z.1.1.kS rfl rfl rfl (Nat.le_of_ble_eq_true rfl) (by decide) (Nat.le_refl 0) (Nat.le_refl 0) ?_
  rintro _ h1 ⟨rfl, z1, chg1⟩
  refine Xw.wf (fun wf1 => ?_)
  have z2 := (z1.sp wf1 (Nat.zero_le _) 0).1
  have chg2 := chg1.tr (z1.sp wf1 (Nat.zero_le _) 0).2
  refine x_aload_n d_H_clear_15 rfl rfl ?_
  refine x_iconst (v := (nI 0)) d_H_clear_16 (by decide) ?_
  refine x_putf d_H_clear_17 lp_H_30 z1.1.1.kO ⟨_, rfl⟩ ?_
  refine x_iload_n d_H_clear_20 rfl rfl ?_
  refine x_if_eq (tgt := 31) d_H_clear_21 rfl (fun q21 => ?_) (fun w_ => absurd rfl w_)
  refine x_iload_n d_H_clear_31 rfl rfl ?_
  exact x_iret d_H_clear_32 rfl rfl ⟨rfl, z2, chg2⟩
