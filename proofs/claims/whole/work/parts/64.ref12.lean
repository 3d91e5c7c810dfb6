/-! The reference: mail and life as a whole (printed by wip/gen/mod_ref12.py). -/
theorem n_mail {E : th_E} {h : th_H} {r : Nat} {A : Nat → Nat → Int32} (nl : NL r h) {N u : Nat} {σ : Ho} (y : NR A σ u) (v : vPs N σ) {p : Nat} (hp : p < oCt σ) (hN : N < 2 ^ 30) (h3 : ¬ pSt (oPr σ p) = 3) {op : Nat} {a b c : Int32} (vi : vIns op a b c) (ho : 17 ≤ op ∧ op < 22) : Xc E m_N_mail 4 0 0 [.ref r, .int (nI p), .int (nI op), .int a, .int b] (ov r h A) (Pn r h σ u p (performM σ p op a b c)) := by
  match op, vi, ho with
  | 17, vi, _ =>
    obtain ⟨⟨i, hi, rfl⟩, j, hj, rfl⟩ := vi
    cases hq : pidM σ (pRg (oPr σ p) i) with
    | none =>
      by_cases hm : pMk (oPr σ p) < (pMs (oPr σ p)).length
      · have e : performM σ p 17 (nI i) (nI j) c = none := by simp only [performM, cl_nI (show i < 2 ^ 31 by omega), hq]
        rw [e]
        exact n_ml17n1 nl y v hp hN hm (nI j) hi hq
      · have e : performM σ p 17 (nI i) (nI j) c = none := by simp only [performM, cl_nI (show i < 2 ^ 31 by omega), hq]
        rw [e]
        exact n_ml17n0 nl y v hp hN (Nat.le_of_not_lt hm) (nI j) hi hq
    | some q =>
      by_cases hm : pMk (oPr σ p) < (pMs (oPr σ p)).length
      · have e : performM σ p 17 (nI i) (nI j) c = some (deliverM σ q (pRg (oPr σ p) j)) := by simp only [performM, cl_nI (show i < 2 ^ 31 by omega), cl_nI (show j < 2 ^ 31 by omega), hq]
        rw [e]
        exact n_ml17y1 nl y v hp hN hm hi hj hq
      · have e : performM σ p 17 (nI i) (nI j) c = some (deliverM σ q (pRg (oPr σ p) j)) := by simp only [performM, cl_nI (show i < 2 ^ 31 by omega), cl_nI (show j < 2 ^ 31 by omega), hq]
        rw [e]
        exact n_ml17y0 nl y v hp hN (Nat.le_of_not_lt hm) hi hj hq
  | 18, vi, _ =>
    obtain ⟨⟨i, hi, rfl⟩, j, hj, rfl⟩ := vi
    cases ht : (pMs (oPr σ p))[pMk (oPr σ p)]? with
    | none =>
      have e : performM σ p 18 (nI i) (nI j) c = some (sPr σ p (sPl (oPr σ p) j)) := by simp only [performM, cl_nI (show j < 2 ^ 31 by omega), ht]
      rw [e]
      exact n_ml18n nl y v hp hN (List.getElem?_eq_none_iff.mp ht) (nI i)
    | some t =>
      have e : performM σ p 18 (nI i) (nI j) c = some (sPr σ p (sRg (oPr σ p) i t)) := by simp only [performM, cl_nI (show i < 2 ^ 31 by omega), ht]
      rw [e]
      exact n_ml18y nl y v hp hN (List.getElem?_eq_some_iff.mp ht).1 (nI j) hi ht
  | 19, vi, _ =>
    by_cases hm : pMk (oPr σ p) < (pMs (oPr σ p)).length
    · simp only [performM, if_pos hm]
      exact n_ml19y nl y v hp hN hm a b
    · simp only [performM, if_neg hm]
      exact n_ml19n nl y v hp hN (Nat.le_of_not_lt hm) a b
  | 20, vi, _ =>
    obtain ⟨i, hi, rfl⟩ := vi
    simp only [performM, cl_nI (show i < 2 ^ 31 by omega)]
    by_cases hm : pMk (oPr σ p) < (pMs (oPr σ p)).length
    · exact n_ml201 nl y v hp hN hm b
    · exact n_ml200 nl y v hp hN (Nat.le_of_not_lt hm) b
  | 21, vi, _ =>
    obtain ⟨i, hi, rfl⟩ := vi
    by_cases hm : pMk (oPr σ p) < (pMs (oPr σ p)).length
    · simp only [performM, cl_nI (show i < 2 ^ 31 by omega), if_pos hm]
      exact n_ml21y nl y v hp hN hm b
    · simp only [performM, cl_nI (show i < 2 ^ 31 by omega), if_neg hm]
      exact n_ml21n nl y v hp hN (Nat.le_of_not_lt hm) b h3
  | 0, vi, ho => exact absurd ho.1 (by decide)
  | 1, vi, ho => exact absurd ho.1 (by decide)
  | 2, vi, ho => exact absurd ho.1 (by decide)
  | 3, vi, ho => exact absurd ho.1 (by decide)
  | 4, vi, ho => exact absurd ho.1 (by decide)
  | 5, vi, ho => exact absurd ho.1 (by decide)
  | 6, vi, ho => exact absurd ho.1 (by decide)
  | 7, vi, ho => exact absurd ho.1 (by decide)
  | 8, vi, ho => exact absurd ho.1 (by decide)
  | 9, vi, ho => exact absurd ho.1 (by decide)
  | 10, vi, ho => exact absurd ho.1 (by decide)
  | 11, vi, ho => exact absurd ho.1 (by decide)
  | 12, vi, ho => exact absurd ho.1 (by decide)
  | 13, vi, ho => exact absurd ho.1 (by decide)
  | 14, vi, ho => exact absurd ho.1 (by decide)
  | 15, vi, ho => exact absurd ho.1 (by decide)
  | 16, vi, ho => exact absurd ho.1 (by decide)
  | n + 22, vi, ho => exact absurd ho.2 (by omega)
theorem n_life {E : th_E} {h : th_H} {r : Nat} {A : Nat → Nat → Int32} (nl : NL r h) {N u : Nat} {σ : Ho} (y : NR A σ u) (v : vPs N σ) {p : Nat} (hp : p < oCt σ) (hN : N < 2 ^ 30) (h3 : ¬ pSt (oPr σ p) = 3) {op : Nat} {a b c : Int32} (vi : vIns op a b c) (ho : 22 ≤ op ∧ op < 27) : Xc E m_N_life 5 0 0 [.ref r, .int (nI p), .int (nI op), .int a, .int b, .int c] (ov r h A) (Pn r h σ u p (performM σ p op a b c)) := by
  match op, vi, ho with
  | 22, vi, _ =>
    obtain ⟨⟨i, hi, rfl⟩, ⟨j, hj, rfl⟩, k, hk, rfl⟩ := vi
    by_cases hc : 12 ≤ oCt σ
    · simp only [performM, if_pos hc]
      exact n_lf22n nl y v hp hi (nI j) (nI k) hc
    · simp only [performM, cl_nI (show i < 2 ^ 31 by omega), cl_nI (show j < 2 ^ 31 by omega), cl_nI (show k < 2 ^ 31 by omega), if_neg hc]
      exact n_lf22y nl y v hp hi hj hk (by omega)
  | 23, vi, _ =>
    obtain ⟨i, hi, rfl⟩ := vi
    cases hq : pidM σ (pRg (oPr σ p) i) with
    | none =>
      have e : performM σ p 23 (nI i) b c = none := by simp only [performM, cl_nI (show i < 2 ^ 31 by omega), hq]
      rw [e]
      exact n_lf23n nl y v hp hi b c hq
    | some q =>
      by_cases h4 : pSt (oPr σ q) = 3
      · have e : performM σ p 23 (nI i) b c = some (sigM FU σ q p aFault) := by simp only [performM, cl_nI (show i < 2 ^ 31 by omega), hq, linkM, if_pos h4]
        rw [e]
        exact n_lf23e nl y v hp hi b c hq h4
      · by_cases h5 : q = p
        · have e : performM σ p 23 (nI i) b c = some σ := by simp only [performM, cl_nI (show i < 2 ^ 31 by omega), hq, linkM, if_neg h4, if_pos h5]
          rw [e]
          exact n_lf23s nl y v hp hi b c hq h4 h5
        · have e : performM σ p 23 (nI i) b c = some (tieM σ p q) := by simp only [performM, cl_nI (show i < 2 ^ 31 by omega), hq, linkM, if_neg h4, if_neg h5]
          rw [e]
          exact n_lf23t nl y v hp hi b c hq h4 h5
  | 24, vi, _ =>
    by_cases ha : a = 1
    · subst ha
      exact n_lf24t nl y v hp 1 b c rfl
    · have e : (a == 1) = false := by simp [ha]
      simp only [performM, e]
      exact n_lf24f nl y v hp a b c ha
  | 25, vi, _ =>
    obtain ⟨i, hi, rfl⟩ := vi
    simp only [performM, cl_nI (show i < 2 ^ 31 by omega)]
    exact n_lf25 nl y v hp hi b c h3
  | 26, vi, _ =>
    obtain ⟨i, hi, rfl⟩ := vi
    cases hq : pidM σ (pRg (oPr σ p) i) with
    | none =>
      have e : performM σ p 26 (nI i) b c = none := by simp only [performM, cl_nI (show i < 2 ^ 31 by omega), hq]
      rw [e]
      exact n_lf26n nl y v hp hi b c hq
    | some q =>
      have e : performM σ p 26 (nI i) b c = some (sigM FU σ p q aKilled) := by simp only [performM, cl_nI (show i < 2 ^ 31 by omega), hq]
      rw [e]
      exact n_lf26y nl y v hp hi b c hq
  | 0, vi, ho => exact absurd ho.1 (by decide)
  | 1, vi, ho => exact absurd ho.1 (by decide)
  | 2, vi, ho => exact absurd ho.1 (by decide)
  | 3, vi, ho => exact absurd ho.1 (by decide)
  | 4, vi, ho => exact absurd ho.1 (by decide)
  | 5, vi, ho => exact absurd ho.1 (by decide)
  | 6, vi, ho => exact absurd ho.1 (by decide)
  | 7, vi, ho => exact absurd ho.1 (by decide)
  | 8, vi, ho => exact absurd ho.1 (by decide)
  | 9, vi, ho => exact absurd ho.1 (by decide)
  | 10, vi, ho => exact absurd ho.1 (by decide)
  | 11, vi, ho => exact absurd ho.1 (by decide)
  | 12, vi, ho => exact absurd ho.1 (by decide)
  | 13, vi, ho => exact absurd ho.1 (by decide)
  | 14, vi, ho => exact absurd ho.1 (by decide)
  | 15, vi, ho => exact absurd ho.1 (by decide)
  | 16, vi, ho => exact absurd ho.1 (by decide)
  | 17, vi, ho => exact absurd ho.1 (by decide)
  | 18, vi, ho => exact absurd ho.1 (by decide)
  | 19, vi, ho => exact absurd ho.1 (by decide)
  | 20, vi, ho => exact absurd ho.1 (by decide)
  | 21, vi, ho => exact absurd ho.1 (by decide)
  | n + 27, vi, ho => exact absurd ho.2 (by omega)
