/-! Ends, as a stack works them off; the head of the queue and the turn. -/
theorem loopM_un {n : Nat} {σ : Ho} {p q : Nat} {r : Tm} (h1 : ¬ oCt σ ≤ q) (h2 : pLk (oPr σ p) &&& bitM q = 0) : loopM (n + 1) σ p r q = loopM n σ p r (q + 1) := by rw [loopM, if_neg h1, if_pos h2]
theorem loopM_fuel {N : Nat} : ∀ (n m : Nat) (σ : Ho) (p : Nat) (r : Tm) (q : Nat), vPs N σ → p < oCt σ → vTm r → 13 * live σ + 13 ≤ n + q → 13 * live σ + 13 ≤ m + q → loopM n σ p r q = loopM m σ p r q
  | 0, 0, _, _, _, _, _, _, _, _, _ => rfl
  | 0, m + 1, σ, p, r, q, v, _, _, h1, _ => by
    have := v.1
    rw [loopM, loopM, if_pos (by omega)]
  | n + 1, 0, σ, p, r, q, v, _, _, _, h1 => by
    have := v.1
    rw [loopM, loopM, if_pos (by omega)]
  | n + 1, m + 1, σ, p, r, q, v, hp, hr, hn, hm => by
    have hc := v.1
    by_cases h1 : oCt σ ≤ q
    · rw [loopM, loopM, if_pos h1, if_pos h1]
    by_cases h2 : pLk (oPr σ p) &&& bitM q = 0
    · rw [loopM_un h1 h2, loopM_un h1 h2]
      exact loopM_fuel n m σ p r (q + 1) v hp hr (by omega) (by omega)
    have hq : q < oCt σ := by omega
    have v1 := v.untie hp hq
    have l1 := live_untie σ p q
    rw [loopM_link h1 h2, loopM_link h1 h2]
    have es : sigM n (untieM σ p q) p q r = sigM m (untieM σ p q) p q r := by
      unfold sigM
      by_cases h3 : pSt (oPr (untieM σ p q) q) = 3
      · rw [if_pos h3, if_pos h3]
      rw [if_neg h3, if_neg h3]
      by_cases h4 : pTr (oPr (untieM σ p q) q) = true
      · rw [if_pos h4, if_pos h4]
      rw [if_neg h4, if_neg h4]
      by_cases h5 : isN r = true
      · rw [if_pos h5, if_pos h5]
      rw [if_neg h5, if_neg h5]
      have l2 := live_stop (σ := untieM σ p q) (r := r) hq h3
      exact loopM_fuel n m _ q r 0 (v1.stop hq hr) hq hr (by omega) (by omega)
    rw [es]
    obtain ⟨a, b, c⟩ := sig_v (n := m) v1 hp hq hr
    exact loopM_fuel n m _ p r (q + 1) a (by rw [b]; exact hp) hr (by omega) (by omega)
/-- the stack of those who are telling, each with whom it tells next -/
def runS (r : Tm) : Ho → List (Nat × Nat) → Ho
  | σ, [] => σ
  | σ, x :: l => runS r (loopM FU σ x.1 r x.2) l
theorem rs_pop {r : Tm} {σ : Ho} {p q : Nat} {l : List (Nat × Nat)} (h : oCt σ ≤ q) : runS r σ ((p, q) :: l) = runS r σ l := by
  show runS r (loopM (169 + 1) σ p r q) l = _
  rw [loopM, if_pos h]
theorem rs_no {N : Nat} {r : Tm} {σ : Ho} {p q : Nat} {l : List (Nat × Nat)} (v : vPs N σ) (hp : p < oCt σ) (hr : vTm r) (h : ¬ oCt σ ≤ q) (h2 : pLk (oPr σ p) &&& bitM q = 0) : runS r σ ((p, q) :: l) = runS r σ ((p, q + 1) :: l) := by
  have := live12 v
  show runS r (loopM (169 + 1) σ p r q) l = runS r (loopM FU σ p r (q + 1)) l
  rw [loopM_un h h2, loopM_fuel 169 FU σ p r (q + 1) v hp hr (by omega) (by show 13 * _ + 13 ≤ 170 + _; omega)]
theorem rs_sig {N : Nat} {r : Tm} {σ : Ho} {p q : Nat} {l : List (Nat × Nat)} (v : vPs N σ) (hp : p < oCt σ) (hr : vTm r) (h : ¬ oCt σ ≤ q) (h2 : ¬ pLk (oPr σ p) &&& bitM q = 0) (hs : ¬ sgB (untieM σ p q) q r) : runS r σ ((p, q) :: l) = runS r (sig1 (untieM σ p q) p q r) ((p, q + 1) :: l) := by
  have hq : q < oCt σ := by omega
  have v1 := v.untie hp hq
  have l0 := live12 v
  have l1 := live_untie σ p q
  obtain ⟨a, b, c⟩ := sig_v (n := 169) v1 hp hq hr
  have e : sigM 169 (untieM σ p q) p q r = sig1 (untieM σ p q) p q r := by
    unfold sigM sig1
    by_cases h3 : pSt (oPr (untieM σ p q) q) = 3
    · rw [if_pos h3, if_pos h3]
    rw [if_neg h3, if_neg h3]
    by_cases h4 : pTr (oPr (untieM σ p q) q) = true
    · rw [if_pos h4, if_pos h4]
    rw [if_neg h4, if_neg h4]
    by_cases h5 : isN r = true
    · rw [if_pos h5]
    exact absurd ⟨h3, h4, h5⟩ hs
  show runS r (loopM (169 + 1) σ p r q) l = runS r (loopM FU (sig1 (untieM σ p q) p q r) p r (q + 1)) l
  rw [loopM_link h h2, loopM_fuel 169 FU _ p r (q + 1) a (by rw [b]; exact hp) hr (by omega) (by show 13 * _ + 13 ≤ 170 + _; omega), e]
theorem rs_push {N : Nat} {r : Tm} {σ : Ho} {p q : Nat} {l : List (Nat × Nat)} (v : vPs N σ) (hp : p < oCt σ) (hr : vTm r) (h : ¬ oCt σ ≤ q) (h2 : ¬ pLk (oPr σ p) &&& bitM q = 0) (hs : sgB (untieM σ p q) q r) : runS r σ ((p, q) :: l) = runS r (stopM (untieM σ p q) q r) ((q, 0) :: (p, q + 1) :: l) := by
  have hq : q < oCt σ := by omega
  have v1 := v.untie hp hq
  have l0 := live12 v
  have l1 := live_untie σ p q
  have l2 := live_stop (σ := untieM σ p q) (r := r) hq hs.1
  obtain ⟨a, b, c⟩ := sig_v (n := 169) v1 hp hq hr
  have e : sigM 169 (untieM σ p q) p q r = loopM FU (stopM (untieM σ p q) q r) q r 0 := by
    unfold sigM
    rw [if_neg hs.1, if_neg hs.2.1, if_neg hs.2.2]
    exact loopM_fuel 169 FU _ q r 0 (v1.stop hq hr) hq hr (by omega) (by show 13 * _ + 13 ≤ 170 + _; omega)
  show runS r (loopM (169 + 1) σ p r q) l = runS r (loopM FU (loopM FU (stopM (untieM σ p q) q r) q r 0) p r (q + 1)) l
  rw [loopM_link h h2, loopM_fuel 169 FU _ p r (q + 1) a (by rw [b]; exact hp) hr (by omega) (by show 13 * _ + 13 ≤ 170 + _; omega), e]
/-- P, at the head of the queue, has used U of its turn; or it has ended, and nothing is used -/
def Hd (P U : Nat) (σ : Ho) (u : Nat) : Prop := ((oQu σ).head? = some P ∧ pSt (oPr σ P) = 1 ∧ u = U) ∨ (pSt (oPr σ P) = 3 ∧ u = 0)
def HdK (σ : Ho) (u : Nat) (σ' : Ho) (u' : Nat) : Prop := ∀ P U, Hd P U σ u → Hd P U σ' u'
theorem HdK.rf (σ : Ho) (u : Nat) : HdK σ u σ u := fun _ _ h => h
theorem HdK.tr {σ σ1 σ2 : Ho} {u u1 u2 : Nat} (a : HdK σ u σ1 u1) (b : HdK σ1 u1 σ2 u2) : HdK σ u σ2 u2 := fun P U h => b P U (a P U h)
theorem untie_pr (σ : Ho) (p q x : Nat) : ∃ l, oPr (untieM σ p q) x = sLk (oPr σ x) l := by
  unfold untieM
  show ∃ l, va_up (va_up (oPr σ) p _) q _ x = _
  by_cases h : x = q
  · rw [h, va_up_self]
    by_cases h2 : q = p
    · show ∃ l, sLk (va_up (oPr σ) p _ q) _ = _
      rw [h2, va_up_self]
      exact ⟨_, rfl⟩
    · show ∃ l, sLk (va_up (oPr σ) p _ q) _ = _
      rw [va_up_ne _ _ h2]
      exact ⟨_, rfl⟩
  · rw [va_up_ne _ _ h]
    by_cases h2 : x = p
    · rw [h2, va_up_self]; exact ⟨_, rfl⟩
    · rw [va_up_ne _ _ h2]; exact ⟨_, rfl⟩
theorem HdK.untie (σ : Ho) (u p q : Nat) : HdK σ u (untieM σ p q) u := fun P U h => by
  obtain ⟨l, e⟩ := untie_pr σ p q P
  unfold Hd
  rw [e]
  exact h
theorem deliver_pr (σ : Ho) (q : Nat) (t : Tm) (x : Nat) : pRs (oPr (deliverM σ q t) x) = pRs (oPr σ x) ∧ (pSt (oPr σ x) = 3 → pSt (oPr (deliverM σ q t) x) = 3) ∧ (pSt (oPr σ x) = 1 → pSt (oPr (deliverM σ q t) x) = 1) ∧ pTr (oPr (deliverM σ q t) x) = pTr (oPr σ x) := by
  unfold deliverM
  by_cases h1 : pSt (oPr σ q) = 3 ∨ 12 ≤ (pMs (oPr σ q)).length
  · rw [if_pos h1]; exact ⟨rfl, id, id, rfl⟩
  rw [if_neg h1]
  by_cases hx : x = q
  · subst hx
    by_cases h2 : pSt (oPr σ x) = 2
    · rw [if_pos h2]
      unfold comeM
      show pRs (va_up (oPr σ) x _ x) = _ ∧ (_ → pSt (va_up (oPr σ) x _ x) = 3) ∧ (_ → pSt (va_up (oPr σ) x _ x) = 1) ∧ pTr (va_up (oPr σ) x _ x) = _
      rw [va_up_self]
      exact ⟨rfl, fun z => by omega, fun _ => rfl, rfl⟩
    · rw [if_neg h2]
      show pRs (va_up (oPr σ) x _ x) = _ ∧ (_ → pSt (va_up (oPr σ) x _ x) = 3) ∧ (_ → pSt (va_up (oPr σ) x _ x) = 1) ∧ pTr (va_up (oPr σ) x _ x) = _
      rw [va_up_self]
      exact ⟨rfl, id, id, rfl⟩
  · by_cases h2 : pSt (oPr σ q) = 2
    · rw [if_pos h2]
      unfold comeM
      show pRs (va_up (oPr σ) q _ x) = _ ∧ (_ → pSt (va_up (oPr σ) q _ x) = 3) ∧ (_ → pSt (va_up (oPr σ) q _ x) = 1) ∧ pTr (va_up (oPr σ) q _ x) = _
      rw [va_up_ne _ _ hx]
      exact ⟨rfl, id, id, rfl⟩
    · rw [if_neg h2]
      show pRs (va_up (oPr σ) q _ x) = _ ∧ (_ → pSt (va_up (oPr σ) q _ x) = 3) ∧ (_ → pSt (va_up (oPr σ) q _ x) = 1) ∧ pTr (va_up (oPr σ) q _ x) = _
      rw [va_up_ne _ _ hx]
      exact ⟨rfl, id, id, rfl⟩
theorem deliver_head (σ : Ho) (q : Nat) (t : Tm) {P : Nat} (h : (oQu σ).head? = some P) : (oQu (deliverM σ q t)).head? = some P := by
  unfold deliverM
  by_cases h1 : pSt (oPr σ q) = 3 ∨ 12 ≤ (pMs (oPr σ q)).length
  · rw [if_pos h1]; exact h
  rw [if_neg h1]
  by_cases h2 : pSt (oPr σ q) = 2
  · rw [if_pos h2]
    show (oQu σ ++ [q]).head? = some P
    cases hl : oQu σ with
    | nil => rw [hl] at h; cases h
    | cons a l => rw [hl] at h; exact h
  · rw [if_neg h2]; exact h
theorem HdK.deliver (σ : Ho) (u q : Nat) (t : Tm) : HdK σ u (deliverM σ q t) u := fun P U h => by
  obtain ⟨-, e3, e1, -⟩ := deliver_pr σ q t P
  rcases h with ⟨a, b, c⟩ | ⟨a, b⟩
  · exact Or.inl ⟨deliver_head σ q t a, e1 b, c⟩
  · exact Or.inr ⟨e3 a, b⟩
theorem stop_st (σ : Ho) (q : Nat) (t : Tm) (x : Nat) : (x = q → pSt (oPr (stopM σ q t) x) = 3 ∧ pRs (oPr (stopM σ q t) x) = some t) ∧ (x ≠ q → oPr (stopM σ q t) x = oPr σ x) := by
  unfold stopM leaveM
  refine ⟨fun h => ?_, fun h => ?_⟩
  · show pSt (va_up (oPr σ) q _ x) = 3 ∧ pRs (va_up (oPr σ) q _ x) = some t
    rw [h, va_up_self]
    exact ⟨rfl, rfl⟩
  · show va_up (oPr σ) q _ x = _
    rw [va_up_ne _ _ h]
theorem HdK.stop (σ : Ho) (u q : Nat) (t : Tm) : HdK σ u (stopM σ q t) (luM σ q u) := fun P U h => by
  obtain ⟨e1, e2⟩ := stop_st σ q t P
  by_cases hP : P = q
  · refine Or.inr ⟨(e1 hP).1, ?_⟩
    unfold luM
    rcases h with ⟨a, b, c⟩ | ⟨a, b⟩
    · rw [if_pos (by rw [a, hP])]
    · rw [b]; split <;> rfl
  · unfold Hd
    rw [e2 hP]
    rcases h with ⟨a, b, c⟩ | ⟨a, b⟩
    · refine Or.inl ⟨?_, b, ?_⟩
      · show ((oQu σ).filter (fun x => x ≠ q)).head? = some P
        cases hl : oQu σ with
        | nil => rw [hl] at a; cases a
        | cons x l =>
          rw [hl] at a
          cases a
          rw [List.filter_cons_of_pos (by simp [hP])]
          rfl
      · unfold luM
        rw [if_neg (by rw [a]; intro z; cases z; exact hP rfl)]
        exact c
    · refine Or.inr ⟨a, ?_⟩
      unfold luM
      rw [b]; split <;> rfl
theorem HdK.sg (σ : Ho) (u p q : Nat) (t : Tm) : HdK σ u (sig1 σ p q t) u := by
  unfold sig1
  split
  · exact HdK.rf _ _
  · split
    · exact HdK.deliver _ _ _ _
    · exact HdK.rf _ _
/-- the bit of a link, read from the right -/
theorem lk_bit (x : Int32) {q : Nat} (hq : q < 12) : (x >>> (nI q &&& 31)) &&& nI 1 = nI 1 ↔ ¬ x &&& bitM q = 0 := by
  have key : ∀ k : Nat, k < 12 → (x.toBitVec.sshiftRight k &&& 1#32 = 1#32 ↔ ¬ x.toBitVec &&& BitVec.twoPow 32 k = 0#32) := fun k hk => by
    rw [BitVec.and_twoPow]
    have g : (x.toBitVec.sshiftRight k).getLsbD 0 = x.toBitVec.getLsbD k := by
      rw [BitVec.getLsbD_sshiftRight, if_pos (by omega)]
      simp
    have t : (1#32 : BitVec 32).getLsbD 0 = true := rfl
    have e : (x.toBitVec.sshiftRight k &&& 1#32 = 1#32) ↔ x.toBitVec.getLsbD k = true := by
      constructor
      · intro h
        have := congrArg (fun b => BitVec.getLsbD b 0) h
        simp only [BitVec.getLsbD_and] at this
        rw [t, Bool.and_true, g] at this
        exact this
      · intro h
        refine BitVec.eq_of_getLsbD_eq (fun i hi => ?_)
        by_cases h0 : i = 0
        · subst h0
          rw [BitVec.getLsbD_and, g, h, t]
          rfl
        · simp [h0]
    rw [e]
    by_cases h : x.toBitVec.getLsbD k = true
    · rw [if_pos h]
      exact ⟨fun _ z => by
        have := congrArg (fun b => BitVec.getLsbD b k) z
        simp at this
        omega, fun _ => h⟩
    · rw [if_neg h]
      exact ⟨fun z => absurd z h, fun z => absurd rfl z⟩
  have h12 : q = 0 ∨ q = 1 ∨ q = 2 ∨ q = 3 ∨ q = 4 ∨ q = 5 ∨ q = 6 ∨ q = 7 ∨ q = 8 ∨ q = 9 ∨ q = 10 ∨ q = 11 := by omega
  have t1 : ((x >>> (nI q &&& 31)) &&& nI 1 = nI 1) ↔ (x.toBitVec.sshiftRight q &&& 1#32 = 1#32) := by
    rw [← Int32.toBitVec_inj]
    rcases h12 with rfl | rfl | rfl | rfl | rfl | rfl | rfl | rfl | rfl | rfl | rfl | rfl <;> exact Iff.rfl
  have t2 : (x &&& bitM q = 0) ↔ (x.toBitVec &&& BitVec.twoPow 32 q = 0#32) := by
    rw [← Int32.toBitVec_inj]
    rcases h12 with rfl | rfl | rfl | rfl | rfl | rfl | rfl | rfl | rfl | rfl | rfl | rfl <;> exact Iff.rfl
  rw [t1, t2]
  exact key q hq
