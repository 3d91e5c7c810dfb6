/-! Pure rows: new cells, validity, what ends do. -/
/-- nothing old has changed -/
def New (h h' : th_H) : Prop := gz h ≤ gz h' ∧ (∀ a, a < gz h → gk h' a = gk h a) ∧ (∀ c k a, a < gz h → gF h' c k a = gF h c k a) ∧ ∀ t a i, a < gz h → gA h' t a i = gA h t a i
theorem New.rf (h : th_H) : New h h := ⟨Nat.le_refl _, fun _ _ => rfl, fun _ _ _ _ => rfl, fun _ _ _ _ => rfl⟩
theorem New.nO {h h1 : th_H} {ci : Nat} {dv : Nat → Value} (e : New h h1) : New h (gnO h1 ci dv) := by
  have e1 := e.1
  exact ⟨by rw [gz_nO]; omega, fun x hx => by rw [gk_nO, if_neg (by omega)]; exact e.2.1 x hx, fun c k x hx => by rw [gF_nO, if_neg (fun z => by omega)]; exact e.2.2.1 c k x hx, e.2.2.2⟩
theorem New.t5 {h h1 : th_H} {a : Nat} {s n : Int32} {x y : Value} {w : Int32} (e : New h h1) (ha : gz h ≤ a) : New h (gT h1 a s n x y w) := ⟨e.1, e.2.1, fun c k b hb => by
    have : b ≠ a := by omega
    unfold gT
    simp only [gF_pF, this, and_false, if_false]
    exact e.2.2.1 c k b hb, e.2.2.2⟩
theorem New.nT {h h1 : th_H} {s n : Int32} {x y : Value} {w : Int32} (e : New h h1) : New h (gnT h1 s n x y w) := New.t5 e.nO e.1
theorem New.chg {h h' : th_H} (o : Nat) (e : New h h') : Chg o h h' := ⟨e.1, e.2.1, fun c k a ha _ => e.2.2.1 c k a ha, fun t a i ha _ => e.2.2.2 t a i ha⟩
theorem CR.new {o : Nat} {σ : Ho} {h h' : th_H} (z : CR o σ h) (hc : oCt σ ≤ 12) (wf : WFh h) (e : New h h') : CR o σ h' := by
  have t := z.1.1
  refine CR.to z wf (e.chg o) (by rw [e.2.2.1 _ _ _ (wf _ _ t.kO)]; exact z.2.1.1) (by rw [e.2.2.1 _ _ _ (wf _ _ t.kO)]; exact z.2.1.2) ⟨by rw [e.2.2.1 _ _ _ (wf _ _ t.kG)]; exact z.2.2.1.1, fun i q hq => by rw [e.2.2.2 _ _ _ (wf _ _ t.kGa), e.2.2.2 _ _ _ (wf _ _ t.kGa), e.2.2.2 _ _ _ (wf _ _ t.kGa), e.2.2.2 _ _ _ (wf _ _ t.kGa)]; exact z.2.2.1.2 i q hq⟩ ⟨by rw [e.2.2.1 _ _ _ (wf _ _ t.kL)]; exact z.2.2.2.1.1, fun i x hx => by rw [e.2.2.2 _ _ _ (wf _ _ t.kLa)]; exact z.2.2.2.1.2 i x hx⟩ (by rw [e.2.2.1 _ _ _ (wf _ _ t.kS)]; exact z.2.2.2.2.1) (fun p hp => ?_)
  have y := z.1.2 p (by omega)
  exact (z.2.2.2.2.2 p hp).same ((e.chg o).te wf) ⟨fun k => e.2.2.1 _ _ _ (wf _ _ y.k), fun k => e.2.2.1 _ _ _ (wf _ _ y.kmb), fun i => e.2.2.2 _ _ _ (wf _ _ y.kr), fun i => e.2.2.2 _ _ _ (wf _ _ y.kre), fun i => e.2.2.2 _ _ _ (wf _ _ y.kma)⟩
theorem nodup_len : ∀ (n : Nat) (l : List Nat), l.Nodup → (∀ x ∈ l, x < n) → l.length ≤ n
  | 0, l, _, h => by
    cases l with
    | nil => exact Nat.le_refl _
    | cons a l => exact absurd (h a List.mem_cons_self) (Nat.not_lt_zero _)
  | n + 1, l, hd, h => by
    have ih := nodup_len n (l.erase n) (hd.erase n) (fun x hx => by
      have h1 := (hd.mem_erase_iff).mp hx
      have h2 := h x h1.2
      have h3 : x ≠ n := h1.1
      omega)
    rw [List.length_erase] at ih
    split at ih <;> omega
theorem nodup_lt {n : Nat} {l : List Nat} (hd : l.Nodup) (h : ∀ x ∈ l, x < n) {q : Nat} (hq : q < n) (hn : q ∉ l) : l.length < n := by
  have := nodup_len n (q :: l) (List.nodup_cons.mpr ⟨hn, hd⟩) (fun x hx => by
    rcases List.mem_cons.mp hx with rfl | hx
    · exact hq
    · exact h x hx)
  simp only [List.length_cons] at this
  omega
/-- a term as the document has them -/
def vTm (t : Tm) : Prop := tOk t ∧ tW t ≤ 15
/-- a valid process; its mark is at most N -/
def vPr (N : Nat) (P : Pr) : Prop := (∀ k, vTm (pRg P k)) ∧ pPl P ≤ 48 ∧ ((pRe P).length ≤ 6 ∧ ∀ x ∈ pRe P, x ≤ 48) ∧ ((pMs P).length ≤ 12 ∧ ∀ t ∈ pMs P, vTm t) ∧ pMk P ≤ N ∧ (pSt P = 1 ∨ pSt P = 2 ∨ pSt P = 3) ∧ (∀ t, pRs P = some t → vTm t) ∧ (pSt P = 3 ↔ ∃ t, pRs P = some t)
/-- valid processes, and a queue of those that are ready -/
def vPs (N : Nat) (σ : Ho) : Prop := oCt σ ≤ 12 ∧ ((oQu σ).Nodup ∧ (∀ x ∈ oQu σ, x < oCt σ ∧ pSt (oPr σ x) = 1) ∧ ∀ x, x < oCt σ → pSt (oPr σ x) = 1 → x ∈ oQu σ) ∧ ∀ p, p < oCt σ → vPr N (oPr σ p)
theorem vPs.len {N : Nat} {σ : Ho} (v : vPs N σ) : (oQu σ).length ≤ 12 := Nat.le_trans (nodup_len _ _ v.2.1.1 (fun x hx => (v.2.1.2.1 x hx).1)) v.1
theorem vPs.room {N : Nat} {σ : Ho} (v : vPs N σ) {q : Nat} (hq : q < oCt σ) (h2 : ¬ pSt (oPr σ q) = 1) : (oQu σ).length < 12 := Nat.lt_of_lt_of_le (nodup_lt v.2.1.1 (fun x hx => (v.2.1.2.1 x hx).1) hq (fun z => h2 (v.2.1.2.1 q z).2)) v.1
/-- a process changes, but not whether it is ready -/
theorem vPs.setP {N : Nat} {σ : Ho} (v : vPs N σ) {p : Nat} {P' : Pr} (hv : vPr N P') (hs : p < oCt σ → (pSt P' = 1 ↔ pSt (oPr σ p) = 1)) : vPs N (sPr σ p P') := by
  have key : ∀ x, x < oCt σ → (pSt (va_up (oPr σ) p P' x) = 1 ↔ pSt (oPr σ x) = 1) := fun x hx => by
    by_cases h : x = p
    · subst h; rw [va_up_self]; exact hs hx
    · rw [va_up_ne _ _ h]
  refine ⟨v.1, ⟨v.2.1.1, fun x hx => ⟨(v.2.1.2.1 x hx).1, (key x (v.2.1.2.1 x hx).1).mpr (v.2.1.2.1 x hx).2⟩, fun x hx h => v.2.1.2.2 x hx ((key x hx).mp h)⟩, fun x hx => ?_⟩
  show vPr N (va_up (oPr σ) p P' x)
  by_cases h : x = p
  · rw [h, va_up_self]; exact hv
  · rw [va_up_ne _ _ h]; exact v.2.2 x hx
theorem vPs.untie {N : Nat} {σ : Ho} (v : vPs N σ) {p q : Nat} (hp : p < oCt σ) (hq : q < oCt σ) : vPs N (untieM σ p q) := by
  unfold untieM
  have v1 : vPs N (sPr σ p (sLk (oPr σ p) (pLk (oPr σ p) &&& (bitM q ^^^ -1)))) := v.setP (v.2.2 p hp) (fun _ => Iff.rfl)
  exact v1.setP (v1.2.2 q hq) (fun _ => Iff.rfl)
theorem vPs.tie {N : Nat} {σ : Ho} (v : vPs N σ) {p q : Nat} (hp : p < oCt σ) (hq : q < oCt σ) : vPs N (tieM σ p q) := by
  unfold tieM
  have v1 : vPs N (sPr σ p (sLk (oPr σ p) (pLk (oPr σ p) ||| bitM q))) := v.setP (v.2.2 p hp) (fun _ => Iff.rfl)
  exact v1.setP (v1.2.2 q hq) (fun _ => Iff.rfl)
theorem vPs.deliver {N : Nat} {σ : Ho} (v : vPs N σ) {q : Nat} {t : Tm} (hq : q < oCt σ) (ht : vTm t) : vPs N (deliverM σ q t) := by
  unfold deliverM
  have w := v.2.2 q hq
  by_cases h1 : pSt (oPr σ q) = 3 ∨ 12 ≤ (pMs (oPr σ q)).length
  · rw [if_pos h1]; exact v
  rw [if_neg h1]
  have hl : (pMs (oPr σ q)).length < 12 := Nat.lt_of_not_le (fun z => h1 (Or.inr z))
  have hm : (pMs (oPr σ q) ++ [t]).length ≤ 12 ∧ ∀ u ∈ pMs (oPr σ q) ++ [t], vTm u := ⟨by rw [List.length_append]; exact hl, fun u hu => by
    rcases List.mem_append.mp hu with hu | hu
    · exact w.2.2.2.1.2 u hu
    · rw [List.mem_singleton.mp hu]; exact ht⟩
  by_cases h2 : pSt (oPr σ q) = 2
  · rw [if_pos h2]
    have hnq : q ∉ oQu σ := fun z => by have := (v.2.1.2.1 q z).2; omega
    have hrs : pRs (oPr σ q) = none := by
      cases hr : pRs (oPr σ q) with
      | none => rfl
      | some t => have := w.2.2.2.2.2.2.2.mpr ⟨t, hr⟩; omega
    refine ⟨v.1, ⟨?_, fun x hx => ?_, fun x hx hx1 => ?_⟩, fun x hx => ?_⟩
    · show (oQu σ ++ [q]).Nodup
      rw [List.nodup_append]
      exact ⟨v.2.1.1, by simp, fun a ha b hb => by rw [List.mem_singleton.mp hb]; exact fun z => hnq (z ▸ ha)⟩
    · rcases List.mem_append.mp hx with hx | hx
      · have h3 : x ≠ q := fun z => hnq (z ▸ hx)
        refine ⟨(v.2.1.2.1 x hx).1, ?_⟩
        show pSt (va_up (oPr σ) q _ x) = 1
        rw [va_up_ne _ _ h3]; exact (v.2.1.2.1 x hx).2
      · rw [List.mem_singleton.mp hx]
        refine ⟨hq, ?_⟩
        show pSt (va_up (oPr σ) q _ q) = 1
        rw [va_up_self]
    · show x ∈ oQu σ ++ [q]
      by_cases h3 : x = q
      · rw [h3]; exact List.mem_append_right _ (List.mem_singleton.mpr rfl)
      · have hx1 : pSt (va_up (oPr σ) q (sSt (sMs (oPr σ q) (pMs (oPr σ q) ++ [t])) 1) x) = 1 := hx1
        rw [va_up_ne _ _ h3] at hx1
        exact List.mem_append_left _ (v.2.1.2.2 x hx hx1)
    · show vPr N (va_up (oPr σ) q _ x)
      by_cases h3 : x = q
      · rw [h3, va_up_self]
        exact ⟨w.1, w.2.1, w.2.2.1, hm, w.2.2.2.2.1, Or.inl rfl, w.2.2.2.2.2.2.1, ⟨fun z => absurd (show (1 : Nat) = 3 from z) (by decide), fun ⟨u, hu⟩ => by have : pRs (oPr σ q) = some u := hu; rw [hrs] at this; cases this⟩⟩
      · rw [va_up_ne _ _ h3]; exact v.2.2 x hx
  · rw [if_neg h2]
    exact v.setP ⟨w.1, w.2.1, w.2.2.1, hm, w.2.2.2.2⟩ (fun _ => Iff.rfl)
theorem vPs.stop {N : Nat} {σ : Ho} (v : vPs N σ) {p : Nat} {r : Tm} (hp : p < oCt σ) (hr : vTm r) : vPs N (stopM σ p r) := by
  have w := v.2.2 p hp
  refine ⟨v.1, ⟨v.2.1.1.filter _, fun x hx => ?_, fun x hx hx1 => ?_⟩, fun x hx => ?_⟩
  · have h1 := List.mem_filter.mp hx
    have h2 : x ≠ p := by simpa using h1.2
    refine ⟨(v.2.1.2.1 x h1.1).1, ?_⟩
    show pSt (va_up (oPr σ) p _ x) = 1
    rw [va_up_ne _ _ h2]; exact (v.2.1.2.1 x h1.1).2
  · have hx1 : pSt (va_up (oPr σ) p (sRs (sSt (oPr σ p) 3) (some r)) x) = 1 := hx1
    by_cases h2 : x = p
    · rw [h2, va_up_self] at hx1; cases hx1
    · rw [va_up_ne _ _ h2] at hx1
      exact List.mem_filter.mpr ⟨v.2.1.2.2 x hx hx1, by simpa using h2⟩
  · show vPr N (va_up (oPr σ) p _ x)
    by_cases h2 : x = p
    · rw [h2, va_up_self]
      exact ⟨w.1, w.2.1, w.2.2.1, w.2.2.2.1, w.2.2.2.2.1, Or.inr (Or.inr rfl), fun t ht => by cases ht; exact hr, ⟨fun _ => ⟨r, rfl⟩, fun _ => rfl⟩⟩
    · rw [va_up_ne _ _ h2]; exact v.2.2 x hx
/-- how many of the first n are alive -/
def liveN (f : Nat → Pr) : Nat → Nat
  | 0 => 0
  | n + 1 => liveN f n + (if pSt (f n) = 3 then 0 else 1)
abbrev live (σ : Ho) : Nat := liveN (oPr σ) (oCt σ)
theorem liveN_le (f : Nat → Pr) : ∀ n, liveN f n ≤ n
  | 0 => Nat.le_refl _
  | n + 1 => by have := liveN_le f n; simp only [liveN]; split <;> omega
theorem liveN_mono {f g : Nat → Pr} : ∀ n, (∀ x, x < n → pSt (f x) = 3 → pSt (g x) = 3) → liveN g n ≤ liveN f n
  | 0, _ => Nat.le_refl _
  | n + 1, h => by
    have ih := liveN_mono n (fun x hx => h x (by omega))
    have := h n (by omega)
    simp only [liveN]
    split <;> split <;> omega
theorem liveN_lt {f g : Nat → Pr} {q : Nat} (h3 : ¬ pSt (f q) = 3) (g3 : pSt (g q) = 3) : ∀ n, q < n → (∀ x, x < n → pSt (f x) = 3 → pSt (g x) = 3) → liveN g n < liveN f n
  | 0, hq, _ => absurd hq (Nat.not_lt_zero _)
  | n + 1, hq, h => by
    by_cases hn : q = n
    · subst hn
      have := liveN_mono q (fun x hx => h x (by omega))
      simp only [liveN, h3, g3, if_true, if_false]
      omega
    · have ih := liveN_lt h3 g3 n (by omega) (fun x hx => h x (by omega))
      have := h n (by omega)
      simp only [liveN]
      split <;> split <;> omega
theorem live_untie (σ : Ho) (p q : Nat) : live (untieM σ p q) ≤ live σ := by
  refine liveN_mono (f := oPr σ) (g := oPr (untieM σ p q)) (oCt σ) (fun x _ h => ?_)
  unfold untieM
  show pSt (va_up (va_up (oPr σ) p _) q _ x) = 3
  by_cases h1 : x = q
  · subst h1; rw [va_up_self]
    show pSt (va_up (oPr σ) p _ x) = 3
    by_cases h2 : x = p
    · subst h2; rw [va_up_self]; exact h
    · rw [va_up_ne _ _ h2]; exact h
  · rw [va_up_ne _ _ h1]
    by_cases h2 : x = p
    · subst h2; rw [va_up_self]; exact h
    · rw [va_up_ne _ _ h2]; exact h
theorem live_deliver (σ : Ho) (q : Nat) (t : Tm) : live (deliverM σ q t) ≤ live σ := by
  unfold deliverM
  by_cases h1 : pSt (oPr σ q) = 3 ∨ 12 ≤ (pMs (oPr σ q)).length
  · rw [if_pos h1]; exact Nat.le_refl _
  rw [if_neg h1]
  have h0 : ¬ pSt (oPr σ q) = 3 := fun z => h1 (Or.inl z)
  by_cases h2 : pSt (oPr σ q) = 2
  · rw [if_pos h2]
    refine liveN_mono (f := oPr σ) (oCt σ) (fun x _ h => ?_)
    show pSt (va_up (oPr σ) q _ x) = 3
    by_cases h3 : x = q
    · subst h3; exact absurd h h0
    · rw [va_up_ne _ _ h3]; exact h
  · rw [if_neg h2]
    refine liveN_mono (f := oPr σ) (oCt σ) (fun x _ h => ?_)
    show pSt (va_up (oPr σ) q _ x) = 3
    by_cases h3 : x = q
    · subst h3; exact absurd h h0
    · rw [va_up_ne _ _ h3]; exact h
theorem live_stop {σ : Ho} {p : Nat} {r : Tm} (hp : p < oCt σ) (h3 : ¬ pSt (oPr σ p) = 3) : live (stopM σ p r) < live σ := by
  refine liveN_lt (f := oPr σ) (q := p) h3 ?_ (oCt σ) hp (fun x _ h => ?_)
  · show pSt (va_up (oPr σ) p _ p) = 3
    rw [va_up_self]
  · show pSt (va_up (oPr σ) p _ x) = 3
    by_cases h2 : x = p
    · rw [h2, va_up_self]
    · rw [va_up_ne _ _ h2]; exact h
def isN (r : Tm) : Bool := !tB r && tS r == 1 && tN r == 14
theorem isN_iff (r : Tm) : isN r = true ↔ r = aNormal := by
  cases r with
  | leaf q =>
    obtain ⟨a, b⟩ := q
    simp [isN, tB, tS, tN, aNormal]
  | branch k l r => simp [isN, tB, aNormal]
/-- the links of p, which has stopped with r, from q on: what comes of them; and how many notices it takes -/
def loopM : Nat → Ho → Nat → Tm → Nat → Ho
  | 0, σ, _, _, _ => σ
  | n + 1, σ, p, r, q =>
    if oCt σ ≤ q then σ
    else if pLk (oPr σ p) &&& bitM q = 0 then loopM n σ p r (q + 1)
    else if pSt (oPr (untieM σ p q) q) = 3 then loopM n (untieM σ p q) p r (q + 1)
    else if pTr (oPr (untieM σ p q) q) = true then loopM n (deliverM (untieM σ p q) q (noticeM p r)) p r (q + 1)
    else if isN r = true then loopM n (untieM σ p q) p r (q + 1)
    else loopM n (loopM n (stopM (untieM σ p q) q r) q r 0) p r (q + 1)
def loopC : Nat → Ho → Nat → Tm → Nat → Nat
  | 0, _, _, _, _ => 0
  | n + 1, σ, p, r, q =>
    if oCt σ ≤ q then 0
    else if pLk (oPr σ p) &&& bitM q = 0 then loopC n σ p r (q + 1)
    else if pSt (oPr (untieM σ p q) q) = 3 then loopC n (untieM σ p q) p r (q + 1)
    else if pTr (oPr (untieM σ p q) q) = true then 1 + loopC n (deliverM (untieM σ p q) q (noticeM p r)) p r (q + 1)
    else if isN r = true then loopC n (untieM σ p q) p r (q + 1)
    else loopC n (stopM (untieM σ p q) q r) q r 0 + loopC n (loopM n (stopM (untieM σ p q) q r) q r 0) p r (q + 1)
theorem deliver_ct (σ : Ho) (q : Nat) (t : Tm) : oCt (deliverM σ q t) = oCt σ := by
  unfold deliverM
  split
  · rfl
  · split <;> rfl
theorem vNotice {p : Nat} {r : Tm} (hr : vTm r) : vTm (noticeM p r) := by
  unfold noticeM
  have a : tOk aExit := Or.inl (Or.inr (Or.inl rfl))
  have b : tOk (.leaf (2, nI p) : Tm) := Or.inl (Or.inr (Or.inr rfl))
  by_cases h : 15 < tW r + 4
  · rw [if_pos h]
    exact ⟨⟨Or.inr rfl, a, Or.inr rfl, b, Or.inl (Or.inr (Or.inl rfl))⟩, by simp [tW, aExit, aFault]⟩
  · rw [if_neg h]
    exact ⟨⟨Or.inr rfl, a, Or.inr rfl, b, hr.1⟩, by simp only [tW, aExit]; omega⟩
theorem loop_v {N : Nat} : ∀ (n : Nat) (σ : Ho) (p : Nat) (r : Tm) (q : Nat), vPs N σ → p < oCt σ → vTm r → vPs N (loopM n σ p r q) ∧ oCt (loopM n σ p r q) = oCt σ ∧ live (loopM n σ p r q) ≤ live σ
  | 0, σ, p, r, q, v, hp, hr => ⟨v, rfl, Nat.le_refl _⟩
  | n + 1, σ, p, r, q, v, hp, hr => by
    rw [loopM]
    by_cases h1 : oCt σ ≤ q
    · rw [if_pos h1]; exact ⟨v, rfl, Nat.le_refl _⟩
    rw [if_neg h1]
    by_cases h2 : pLk (oPr σ p) &&& bitM q = 0
    · rw [if_pos h2]; exact loop_v n σ p r (q + 1) v hp hr
    rw [if_neg h2]
    have hq : q < oCt σ := by omega
    have v1 := v.untie hp hq
    have l1 := live_untie σ p q
    have c1 : oCt (untieM σ p q) = oCt σ := rfl
    by_cases h3 : pSt (oPr (untieM σ p q) q) = 3
    · rw [if_pos h3]
      obtain ⟨a, b, c⟩ := loop_v n (untieM σ p q) p r (q + 1) v1 hp hr
      exact ⟨a, b, Nat.le_trans c l1⟩
    rw [if_neg h3]
    by_cases h4 : pTr (oPr (untieM σ p q) q) = true
    · rw [if_pos h4]
      have c2 : oCt (deliverM (untieM σ p q) q (noticeM p r)) = oCt σ := deliver_ct _ _ _
      obtain ⟨a, b, c⟩ := loop_v n (deliverM (untieM σ p q) q (noticeM p r)) p r (q + 1) (v1.deliver hq (vNotice hr)) (by rw [c2]; exact hp) hr
      exact ⟨a, b.trans c2, Nat.le_trans c (Nat.le_trans (live_deliver _ _ _) l1)⟩
    rw [if_neg h4]
    by_cases h5 : isN r = true
    · rw [if_pos h5]
      obtain ⟨a, b, c⟩ := loop_v n (untieM σ p q) p r (q + 1) v1 hp hr
      exact ⟨a, b, Nat.le_trans c l1⟩
    rw [if_neg h5]
    have l2 := live_stop (σ := untieM σ p q) (r := r) hq h3
    obtain ⟨a, b, c⟩ := loop_v n (stopM (untieM σ p q) q r) q r 0 (v1.stop hq hr) hq hr
    have b' : oCt (loopM n (stopM (untieM σ p q) q r) q r 0) = oCt σ := b
    obtain ⟨a2, b2, c3⟩ := loop_v n (loopM n (stopM (untieM σ p q) q r) q r 0) p r (q + 1) a (by rw [b']; exact hp) hr
    exact ⟨a2, b2.trans b', Nat.le_trans c3 (Nat.le_trans c (Nat.le_trans (Nat.le_of_lt l2) l1))⟩
