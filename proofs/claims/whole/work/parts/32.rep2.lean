/-! The class's picture: what the single stores do to it (printed by wip/gen/mod_rep2.py). -/
def Keep (o : Nat) (h h' : th_H) : Prop := (∀ k, gF h' 7 k o = gF h 7 k o) ∧ gF h' 5 1 (o + 2) = gF h 5 1 (o + 2) ∧ (∀ i, gA h' 1 (o + 3) i = gA h 1 (o + 3) i) ∧ gF h' 4 4 (o + 4) = gF h 4 4 (o + 4)
def KeepQ (o : Nat) (h h' : th_H) : Prop := gF h' 3 1 (o + 78) = gF h 3 1 (o + 78) ∧ ∀ i, gA h' 1 (o + 79) i = gA h 1 (o + 79) i
theorem Keep.rf (o : Nat) (h : th_H) : Keep o h h := ⟨fun _ => rfl, rfl, fun _ => rfl, rfl⟩
theorem KeepQ.rf (o : Nat) (h : th_H) : KeepQ o h h := ⟨rfl, fun _ => rfl⟩
theorem Keep.tr {o : Nat} {h h1 h2 : th_H} (a : Keep o h h1) (b : Keep o h1 h2) : Keep o h h2 := ⟨fun k => (b.1 k).trans (a.1 k), b.2.1.trans a.2.1, fun k => (b.2.2.1 k).trans (a.2.2.1 k), b.2.2.2.trans a.2.2.2⟩
theorem KeepQ.tr {o : Nat} {h h1 h2 : th_H} (a : KeepQ o h h1) (b : KeepQ o h1 h2) : KeepQ o h h2 := ⟨b.1.trans a.1, fun k => (b.2 k).trans (a.2 k)⟩
theorem Keep.pF {o : Nat} {h h1 : th_H} {ci k a : Nat} {v : Value} (e : Keep o h h1) (hc : ci = 1 ∨ ci = 2 ∨ ci = 3) : Keep o h (gpF h1 ci k a v) := ⟨fun j => by rw [gF_pF, if_neg (fun z => by omega)]; exact e.1 j, by rw [gF_pF, if_neg (fun z => by omega)]; exact e.2.1, e.2.2.1, by rw [gF_pF, if_neg (fun z => by omega)]; exact e.2.2.2⟩
theorem Keep.pA {o : Nat} {h h1 : th_H} {t a i : Nat} {v : Value} (e : Keep o h h1) (ha : a ≠ o + 3) : Keep o h (gpA h1 t a i v) := ⟨e.1, e.2.1, fun j => by rw [gA_pA, if_neg (fun z => ha z.2.1.symm)]; exact e.2.2.1 j, e.2.2.2⟩
theorem Keep.sA {o : Nat} {h h1 : th_H} {t a : Nat} {f : Nat → Value} (e : Keep o h h1) (ha : a ≠ o + 3) : Keep o h (gsA h1 t a f) := ⟨e.1, e.2.1, fun j => by rw [gA_sA, if_neg (fun z => ha z.2.symm)]; exact e.2.2.1 j, e.2.2.2⟩
theorem KeepQ.pF {o : Nat} {h h1 : th_H} {ci k a : Nat} {v : Value} (e : KeepQ o h h1) (hc : ci ≠ 3) : KeepQ o h (gpF h1 ci k a v) := ⟨by rw [gF_pF, if_neg (fun z => hc z.1.symm)]; exact e.1, e.2⟩
theorem KeepQ.pA {o : Nat} {h h1 : th_H} {t a i : Nat} {v : Value} (e : KeepQ o h h1) (ha : a ≠ o + 79) : KeepQ o h (gpA h1 t a i v) := ⟨e.1, fun j => by rw [gA_pA, if_neg (fun z => ha z.2.1.symm)]; exact e.2 j⟩
theorem KeepQ.sA {o : Nat} {h h1 : th_H} {t a : Nat} {f : Nat → Value} (e : KeepQ o h h1) (ha : a ≠ o + 79) : KeepQ o h (gsA h1 t a f) := ⟨e.1, fun j => by rw [gA_sA, if_neg (fun z => ha z.2.symm)]; exact e.2 j⟩
theorem cQu.keep {o : Nat} {l : List Nat} {h h' : th_H} (z : cQu o l h) (e : KeepQ o h h') : cQu o l h' := ⟨by rw [e.1]; exact z.1, fun i x q => by rw [e.2]; exact z.2 i x q⟩
theorem cCd.keep {o : Nat} {l : List (Nat × Int32 × Int32 × Int32)} {h h' : th_H} (z : cCd o l h) (e : Keep o h h') : cCd o l h' := ⟨by rw [e.2.1]; exact z.1, fun i x q => by rw [e.2.2.1, e.2.2.1, e.2.2.1, e.2.2.1]; exact z.2 i x q⟩
/-- one process changes -/
theorem CR.sPr {o : Nat} {σ : Ho} {h h' : th_H} {p : Nat} {P' : Pr} (z : CR o σ h) (wf : WFh h) (e : Chg o h h') (k : Keep o h h') (kq : KeepQ o h h') (hp : cPr o p P' h') (hs : ∀ q : Nat, q < oCt σ → q ≠ p → Same o q h h') : CR o (sPr σ p P') h' := by
  refine CR.to z wf e (by rw [k.1]; exact z.2.1.1) (by rw [k.1]; exact z.2.1.2) (z.2.2.1.keep k) (z.2.2.2.1.keep kq) (by rw [k.2.2.2]; exact z.2.2.2.2.1) (fun q hq => ?_)
  show cPr o q (va_up (oPr σ) p P' q) h'
  by_cases hqp : q = p
  · rw [hqp, va_up_self]; exact hp
  · rw [va_up_ne _ _ hqp]; exact (z.2.2.2.2.2 q hq).same (e.te wf) (hs q hq hqp)
/-- the queue changes -/
theorem CR.sQu {o : Nat} {σ : Ho} {h h' : th_H} {l : List Nat} (z : CR o σ h) (wf : WFh h) (e : Chg o h h') (k : Keep o h h') (hq : cQu o l h') (hs : ∀ q : Nat, q < oCt σ → Same o q h h') : CR o (sQu σ l) h' :=
  CR.to z wf e (by rw [k.1]; exact z.2.1.1) (by rw [k.1]; exact z.2.1.2) (z.2.2.1.keep k) hq (by rw [k.2.2.2]; exact z.2.2.2.2.1) (fun q h9 => (z.2.2.2.2.2 q h9).same (e.te wf) (hs q h9))
theorem cPr.ms {o p : Nat} {P : Pr} {h : th_H} (z : cPr o p P h) {i x : Nat} (q : (refsOf h 2 (o + 11 + 6 * p) (pMs P).length)[i]? = some x) : gA h 2 (o + 11 + 6 * p) i = .ref x ∧ ∃ t, (pMs P)[i]? = some t ∧ TR h t x := by
  obtain ⟨hi, hx⟩ := refsOf_at q
  obtain ⟨t, ht⟩ := get_some hi
  obtain ⟨a, h1, h2⟩ := z.2.2.2.1.2 i t ht
  rw [h1] at hx
  have : x = a := hx
  subst this
  exact ⟨h1, t, ht, h2⟩
theorem cPr.rg {o p : Nat} {P : Pr} {h : th_H} (z : cPr o p P h) {k : Nat} (hk : k < 8) : gA h 2 (o + 8 + 6 * p) k = .ref (refOf (gA h 2 (o + 8 + 6 * p) k)) ∧ TR h (pRg P k) (refOf (gA h 2 (o + 8 + 6 * p) k)) := by
  obtain ⟨a, h1, h2⟩ := z.1 k hk
  rw [h1]
  exact ⟨rfl, h2⟩
theorem cPr_pl {o p : Nat} {P : Pr} {h : th_H} (l : Nat) (z : cPr o p P h) : cPr o p (sPl P l) (gpF h 2 6 (o + 6 + 6 * p) (.int (nI l))) := by
  obtain ⟨z1, z2, ⟨z3, z4⟩, ⟨z5, z6⟩, z7, z8, z9, z10, ⟨z11, z12⟩, z13⟩ := z
  exact ⟨fun j hj => (z1 j hj).imp (fun a q => ⟨q.1, TR.mono (TE.pF (TE.rf h) (by decide)) _ _ q.2⟩), by rw [gF_pF, if_pos ⟨rfl, rfl, rfl⟩], ⟨by rw [gF_pF, if_neg (fun z => absurd z.2.1 (by decide))]; exact z3, z4⟩, ⟨by rw [gF_pF, if_neg (fun z => absurd z.1 (by decide))]; exact z5, fun i t ht => (z6 i t ht).imp (fun a q => ⟨q.1, TR.mono (TE.pF (TE.rf h) (by decide)) _ _ q.2⟩)⟩, by rw [gF_pF, if_neg (fun z => absurd z.1 (by decide))]; exact z7, by rw [gF_pF, if_neg (fun z => absurd z.2.1 (by decide))]; exact z8, by rw [gF_pF, if_neg (fun z => absurd z.2.1 (by decide))]; exact z9, by rw [gF_pF, if_neg (fun z => absurd z.2.1 (by decide))]; exact z10, ⟨fun q => by rw [gF_pF, if_neg (fun z => absurd z.2.1 (by decide))]; exact z11 q, fun t q => (z12 t q).imp (fun a q => ⟨by rw [gF_pF, if_neg (fun z => absurd z.2.1 (by decide))]; exact q.1, TR.mono (TE.pF (TE.rf h) (by decide)) _ _ q.2⟩)⟩, by rw [gF_pF, if_neg (fun z => absurd z.2.1 (by decide))]; exact z13⟩
theorem cPr_lk {o p : Nat} {P : Pr} {h : th_H} (x : Int32) (z : cPr o p P h) : cPr o p (sLk P x) (gpF h 2 7 (o + 6 + 6 * p) (.int x)) := by
  obtain ⟨z1, z2, ⟨z3, z4⟩, ⟨z5, z6⟩, z7, z8, z9, z10, ⟨z11, z12⟩, z13⟩ := z
  exact ⟨fun j hj => (z1 j hj).imp (fun a q => ⟨q.1, TR.mono (TE.pF (TE.rf h) (by decide)) _ _ q.2⟩), by rw [gF_pF, if_neg (fun z => absurd z.2.1 (by decide))]; exact z2, ⟨by rw [gF_pF, if_neg (fun z => absurd z.2.1 (by decide))]; exact z3, z4⟩, ⟨by rw [gF_pF, if_neg (fun z => absurd z.1 (by decide))]; exact z5, fun i t ht => (z6 i t ht).imp (fun a q => ⟨q.1, TR.mono (TE.pF (TE.rf h) (by decide)) _ _ q.2⟩)⟩, by rw [gF_pF, if_neg (fun z => absurd z.1 (by decide))]; exact z7, by rw [gF_pF, if_pos ⟨rfl, rfl, rfl⟩], by rw [gF_pF, if_neg (fun z => absurd z.2.1 (by decide))]; exact z9, by rw [gF_pF, if_neg (fun z => absurd z.2.1 (by decide))]; exact z10, ⟨fun q => by rw [gF_pF, if_neg (fun z => absurd z.2.1 (by decide))]; exact z11 q, fun t q => (z12 t q).imp (fun a q => ⟨by rw [gF_pF, if_neg (fun z => absurd z.2.1 (by decide))]; exact q.1, TR.mono (TE.pF (TE.rf h) (by decide)) _ _ q.2⟩)⟩, by rw [gF_pF, if_neg (fun z => absurd z.2.1 (by decide))]; exact z13⟩
theorem cPr_tr {o p : Nat} {P : Pr} {h : th_H} (b : Bool) (z : cPr o p P h) : cPr o p (sTr P b) (gpF h 2 8 (o + 6 + 6 * p) (.int (if b then 1 else 0))) := by
  obtain ⟨z1, z2, ⟨z3, z4⟩, ⟨z5, z6⟩, z7, z8, z9, z10, ⟨z11, z12⟩, z13⟩ := z
  exact ⟨fun j hj => (z1 j hj).imp (fun a q => ⟨q.1, TR.mono (TE.pF (TE.rf h) (by decide)) _ _ q.2⟩), by rw [gF_pF, if_neg (fun z => absurd z.2.1 (by decide))]; exact z2, ⟨by rw [gF_pF, if_neg (fun z => absurd z.2.1 (by decide))]; exact z3, z4⟩, ⟨by rw [gF_pF, if_neg (fun z => absurd z.1 (by decide))]; exact z5, fun i t ht => (z6 i t ht).imp (fun a q => ⟨q.1, TR.mono (TE.pF (TE.rf h) (by decide)) _ _ q.2⟩)⟩, by rw [gF_pF, if_neg (fun z => absurd z.1 (by decide))]; exact z7, by rw [gF_pF, if_neg (fun z => absurd z.2.1 (by decide))]; exact z8, by rw [gF_pF, if_pos ⟨rfl, rfl, rfl⟩], by rw [gF_pF, if_neg (fun z => absurd z.2.1 (by decide))]; exact z10, ⟨fun q => by rw [gF_pF, if_neg (fun z => absurd z.2.1 (by decide))]; exact z11 q, fun t q => (z12 t q).imp (fun a q => ⟨by rw [gF_pF, if_neg (fun z => absurd z.2.1 (by decide))]; exact q.1, TR.mono (TE.pF (TE.rf h) (by decide)) _ _ q.2⟩)⟩, by rw [gF_pF, if_neg (fun z => absurd z.2.1 (by decide))]; exact z13⟩
theorem cPr_st {o p : Nat} {P : Pr} {h : th_H} (n : Nat) (z : cPr o p P h) : cPr o p (sSt P n) (gpF h 2 9 (o + 6 + 6 * p) (.int (nI n))) := by
  obtain ⟨z1, z2, ⟨z3, z4⟩, ⟨z5, z6⟩, z7, z8, z9, z10, ⟨z11, z12⟩, z13⟩ := z
  exact ⟨fun j hj => (z1 j hj).imp (fun a q => ⟨q.1, TR.mono (TE.pF (TE.rf h) (by decide)) _ _ q.2⟩), by rw [gF_pF, if_neg (fun z => absurd z.2.1 (by decide))]; exact z2, ⟨by rw [gF_pF, if_neg (fun z => absurd z.2.1 (by decide))]; exact z3, z4⟩, ⟨by rw [gF_pF, if_neg (fun z => absurd z.1 (by decide))]; exact z5, fun i t ht => (z6 i t ht).imp (fun a q => ⟨q.1, TR.mono (TE.pF (TE.rf h) (by decide)) _ _ q.2⟩)⟩, by rw [gF_pF, if_neg (fun z => absurd z.1 (by decide))]; exact z7, by rw [gF_pF, if_neg (fun z => absurd z.2.1 (by decide))]; exact z8, by rw [gF_pF, if_neg (fun z => absurd z.2.1 (by decide))]; exact z9, by rw [gF_pF, if_pos ⟨rfl, rfl, rfl⟩], ⟨fun q => by rw [gF_pF, if_neg (fun z => absurd z.2.1 (by decide))]; exact z11 q, fun t q => (z12 t q).imp (fun a q => ⟨by rw [gF_pF, if_neg (fun z => absurd z.2.1 (by decide))]; exact q.1, TR.mono (TE.pF (TE.rf h) (by decide)) _ _ q.2⟩)⟩, by rw [gF_pF, if_neg (fun z => absurd z.2.1 (by decide))]; exact z13⟩
theorem cPr_dn {o p : Nat} {P : Pr} {h : th_H} (x : Int32) (z : cPr o p P h) : cPr o p (sDn P x) (gpF h 2 11 (o + 6 + 6 * p) (.int x)) := by
  obtain ⟨z1, z2, ⟨z3, z4⟩, ⟨z5, z6⟩, z7, z8, z9, z10, ⟨z11, z12⟩, z13⟩ := z
  exact ⟨fun j hj => (z1 j hj).imp (fun a q => ⟨q.1, TR.mono (TE.pF (TE.rf h) (by decide)) _ _ q.2⟩), by rw [gF_pF, if_neg (fun z => absurd z.2.1 (by decide))]; exact z2, ⟨by rw [gF_pF, if_neg (fun z => absurd z.2.1 (by decide))]; exact z3, z4⟩, ⟨by rw [gF_pF, if_neg (fun z => absurd z.1 (by decide))]; exact z5, fun i t ht => (z6 i t ht).imp (fun a q => ⟨q.1, TR.mono (TE.pF (TE.rf h) (by decide)) _ _ q.2⟩)⟩, by rw [gF_pF, if_neg (fun z => absurd z.1 (by decide))]; exact z7, by rw [gF_pF, if_neg (fun z => absurd z.2.1 (by decide))]; exact z8, by rw [gF_pF, if_neg (fun z => absurd z.2.1 (by decide))]; exact z9, by rw [gF_pF, if_neg (fun z => absurd z.2.1 (by decide))]; exact z10, ⟨fun q => by rw [gF_pF, if_neg (fun z => absurd z.2.1 (by decide))]; exact z11 q, fun t q => (z12 t q).imp (fun a q => ⟨by rw [gF_pF, if_neg (fun z => absurd z.2.1 (by decide))]; exact q.1, TR.mono (TE.pF (TE.rf h) (by decide)) _ _ q.2⟩)⟩, by rw [gF_pF, if_pos ⟨rfl, rfl, rfl⟩]⟩
theorem cPr_mk {o p : Nat} {P : Pr} {h : th_H} (n : Nat) (z : cPr o p P h) : cPr o p (sMk P n) (gpF h 1 2 (o + 10 + 6 * p) (.int (nI n))) := by
  obtain ⟨z1, z2, ⟨z3, z4⟩, ⟨z5, z6⟩, z7, z8, z9, z10, ⟨z11, z12⟩, z13⟩ := z
  exact ⟨fun j hj => (z1 j hj).imp (fun a q => ⟨q.1, TR.mono (TE.pF (TE.rf h) (by decide)) _ _ q.2⟩), by rw [gF_pF, if_neg (fun z => absurd z.1 (by decide))]; exact z2, ⟨by rw [gF_pF, if_neg (fun z => absurd z.1 (by decide))]; exact z3, z4⟩, ⟨by rw [gF_pF, if_neg (fun z => absurd z.2.1 (by decide))]; exact z5, fun i t ht => (z6 i t ht).imp (fun a q => ⟨q.1, TR.mono (TE.pF (TE.rf h) (by decide)) _ _ q.2⟩)⟩, by rw [gF_pF, if_pos ⟨rfl, rfl, rfl⟩], by rw [gF_pF, if_neg (fun z => absurd z.1 (by decide))]; exact z8, by rw [gF_pF, if_neg (fun z => absurd z.1 (by decide))]; exact z9, by rw [gF_pF, if_neg (fun z => absurd z.1 (by decide))]; exact z10, ⟨fun q => by rw [gF_pF, if_neg (fun z => absurd z.1 (by decide))]; exact z11 q, fun t q => (z12 t q).imp (fun a q => ⟨by rw [gF_pF, if_neg (fun z => absurd z.1 (by decide))]; exact q.1, TR.mono (TE.pF (TE.rf h) (by decide)) _ _ q.2⟩)⟩, by rw [gF_pF, if_neg (fun z => absurd z.1 (by decide))]; exact z13⟩
theorem cPr_rs {o p : Nat} {P : Pr} {h : th_H} {t : Tm} {a : Nat} (q : TR h t a) (z : cPr o p P h) : cPr o p (sRs P (some t)) (gpF h 2 10 (o + 6 + 6 * p) (.ref a)) := by
  obtain ⟨z1, z2, ⟨z3, z4⟩, ⟨z5, z6⟩, z7, z8, z9, z10, ⟨z11, z12⟩, z13⟩ := z
  exact ⟨fun j hj => (z1 j hj).imp (fun a q => ⟨q.1, TR.mono (TE.pF (TE.rf h) (by decide)) _ _ q.2⟩), by rw [gF_pF, if_neg (fun z => absurd z.2.1 (by decide))]; exact z2, ⟨by rw [gF_pF, if_neg (fun z => absurd z.2.1 (by decide))]; exact z3, z4⟩, ⟨by rw [gF_pF, if_neg (fun z => absurd z.1 (by decide))]; exact z5, fun i t ht => (z6 i t ht).imp (fun a q => ⟨q.1, TR.mono (TE.pF (TE.rf h) (by decide)) _ _ q.2⟩)⟩, by rw [gF_pF, if_neg (fun z => absurd z.1 (by decide))]; exact z7, by rw [gF_pF, if_neg (fun z => absurd z.2.1 (by decide))]; exact z8, by rw [gF_pF, if_neg (fun z => absurd z.2.1 (by decide))]; exact z9, by rw [gF_pF, if_neg (fun z => absurd z.2.1 (by decide))]; exact z10, ⟨fun q => (by cases q), fun t2 q2 => by cases q2; exact ⟨a, by rw [gF_pF, if_pos ⟨rfl, rfl, rfl⟩], TR.mono (TE.pF (TE.rf h) (by decide)) _ _ q⟩⟩, by rw [gF_pF, if_neg (fun z => absurd z.2.1 (by decide))]; exact z13⟩
theorem cPr_pop {o p : Nat} {P : Pr} {h : th_H} {l : List Nat} (hl : ∀ i x : Nat, l[i]? = some x → (pRe P)[i]? = some x) (z : cPr o p P h) : cPr o p (sRe P l) (gpF h 2 5 (o + 6 + 6 * p) (.int (nI l.length))) := by
  obtain ⟨z1, z2, ⟨z3, z4⟩, ⟨z5, z6⟩, z7, z8, z9, z10, ⟨z11, z12⟩, z13⟩ := z
  exact ⟨fun j hj => (z1 j hj).imp (fun a q => ⟨q.1, TR.mono (TE.pF (TE.rf h) (by decide)) _ _ q.2⟩), by rw [gF_pF, if_neg (fun z => absurd z.2.1 (by decide))]; exact z2, ⟨by rw [gF_pF, if_pos ⟨rfl, rfl, rfl⟩], fun i x q => z4 i x (hl i x q)⟩, ⟨by rw [gF_pF, if_neg (fun z => absurd z.1 (by decide))]; exact z5, fun i t ht => (z6 i t ht).imp (fun a q => ⟨q.1, TR.mono (TE.pF (TE.rf h) (by decide)) _ _ q.2⟩)⟩, by rw [gF_pF, if_neg (fun z => absurd z.1 (by decide))]; exact z7, by rw [gF_pF, if_neg (fun z => absurd z.2.1 (by decide))]; exact z8, by rw [gF_pF, if_neg (fun z => absurd z.2.1 (by decide))]; exact z9, by rw [gF_pF, if_neg (fun z => absurd z.2.1 (by decide))]; exact z10, ⟨fun q => by rw [gF_pF, if_neg (fun z => absurd z.2.1 (by decide))]; exact z11 q, fun t q => (z12 t q).imp (fun a q => ⟨by rw [gF_pF, if_neg (fun z => absurd z.2.1 (by decide))]; exact q.1, TR.mono (TE.pF (TE.rf h) (by decide)) _ _ q.2⟩)⟩, by rw [gF_pF, if_neg (fun z => absurd z.2.1 (by decide))]; exact z13⟩
theorem cPr_put {o p : Nat} {P : Pr} {h : th_H} {t : Tm} {a : Nat} (q : TR h t a) (z : cPr o p P h) : cPr o p (sMs P (pMs P ++ [t])) (gpF (gpA h 2 (o + 11 + 6 * p) (pMs P).length (.ref a)) 1 1 (o + 10 + 6 * p) (.int (nI ((pMs P).length + 1)))) := by
  obtain ⟨z1, z2, ⟨z3, z4⟩, ⟨z5, z6⟩, z7, z8, z9, z10, ⟨z11, z12⟩, z13⟩ := z
  have te : TE h (gpF (gpA h 2 (o + 11 + 6 * p) (pMs P).length (.ref a)) 1 1 (o + 10 + 6 * p) (.int (nI ((pMs P).length + 1)))) := TE.pF (TE.pA (TE.rf h)) (by decide)
  have n2 : ∀ k b, gF (gpF (gpA h 2 (o + 11 + 6 * p) (pMs P).length (.ref a)) 1 1 (o + 10 + 6 * p) (.int (nI ((pMs P).length + 1)))) 2 k b = gF h 2 k b := fun k b => by rw [gF_pF, if_neg (fun z => absurd z.1 (by decide)), gF_pA]
  refine ⟨fun j hj => ?_, by rw [n2]; exact z2, ⟨by rw [n2]; exact z3, fun i x hx => ?_⟩, ⟨?_, fun i t2 ht => ?_⟩, ?_, by rw [n2]; exact z8, by rw [n2]; exact z9, by rw [n2]; exact z10, ⟨fun q => by rw [n2]; exact z11 q, fun t2 q2 => ?_⟩, by rw [n2]; exact z13⟩
  · obtain ⟨b, h1, h2⟩ := z1 j hj
    exact ⟨b, by rw [gA_pF, gA_pA, if_neg (fun z => by omega)]; exact h1, TR.mono te _ _ h2⟩
  · rw [gA_pF, gA_pA, if_neg (fun z => by omega)]; exact z4 i x hx
  · rw [gF_pF, if_pos ⟨rfl, rfl, rfl⟩, List.length_append]; rfl
  · by_cases hi : i = (pMs P).length
    · rw [hi, List.getElem?_append_right (Nat.le_refl _), Nat.sub_self] at ht
      cases ht
      exact ⟨a, by rw [gA_pF, gA_pA, if_pos ⟨rfl, rfl, hi⟩], TR.mono te _ _ q⟩
    · have hl : i < (pMs P ++ [t]).length := (List.getElem?_eq_some_iff.mp ht).1
      simp only [List.length_append, List.length_cons, List.length_nil] at hl
      rw [List.getElem?_append_left (by omega)] at ht
      obtain ⟨b, h1, h2⟩ := z6 i t2 ht
      exact ⟨b, by rw [gA_pF, gA_pA, if_neg (fun z => hi z.2.2)]; exact h1, TR.mono te _ _ h2⟩
  · rw [gF_pF, if_neg (fun z => absurd z.2.1 (by decide)), gF_pA]; exact z7
  · obtain ⟨b, h1, h2⟩ := z12 t2 q2
    exact ⟨b, by rw [n2]; exact h1, TR.mono te _ _ h2⟩
theorem cPr_reg {o p : Nat} {P : Pr} {h : th_H} {t : Tm} {a r : Nat} (q : TR h t a) (z : cPr o p P h) : cPr o p (sRg P r t) (gpA h 2 (o + 8 + 6 * p) r (.ref a)) := by
  obtain ⟨z1, z2, ⟨z3, z4⟩, ⟨z5, z6⟩, z7, z8, z9, z10, ⟨z11, z12⟩, z13⟩ := z
  have te : TE h (gpA h 2 (o + 8 + 6 * p) r (.ref a)) := TE.pA (TE.rf h)
  refine ⟨fun j hj => ?_, z2, ⟨z3, fun i x hx => ?_⟩, ⟨z5, fun i t2 ht => ?_⟩, z7, z8, z9, z10, ⟨z11, fun t2 q2 => (z12 t2 q2).imp (fun b q => ⟨q.1, TR.mono te _ _ q.2⟩)⟩, z13⟩
  · show ∃ b, _ ∧ TR _ (va_up (pRg P) r t j) b
    by_cases hj2 : j = r
    · rw [hj2, va_up_self]
      exact ⟨a, by rw [gA_pA, if_pos ⟨rfl, rfl, rfl⟩], TR.mono te _ _ q⟩
    · rw [va_up_ne _ _ hj2]
      obtain ⟨b, h1, h2⟩ := z1 j hj
      exact ⟨b, by rw [gA_pA, if_neg (fun z => hj2 z.2.2)]; exact h1, TR.mono te _ _ h2⟩
  · rw [gA_pA, if_neg (fun z => by omega)]; exact z4 i x hx
  · obtain ⟨b, h1, h2⟩ := z6 i t2 ht
    exact ⟨b, by rw [gA_pA, if_neg (fun z => by omega)]; exact h1, TR.mono te _ _ h2⟩
theorem cPr_push {o p : Nat} {P : Pr} {h : th_H} {x : Nat} (z : cPr o p P h) : cPr o p (sRe P (pRe P ++ [x])) (gpF (gpA h 1 (o + 9 + 6 * p) (pRe P).length (.int (nI x))) 2 5 (o + 6 + 6 * p) (.int (nI ((pRe P).length + 1)))) := by
  obtain ⟨z1, z2, ⟨z3, z4⟩, ⟨z5, z6⟩, z7, z8, z9, z10, ⟨z11, z12⟩, z13⟩ := z
  have te : TE h (gpF (gpA h 1 (o + 9 + 6 * p) (pRe P).length (.int (nI x))) 2 5 (o + 6 + 6 * p) (.int (nI ((pRe P).length + 1)))) := TE.pF (TE.pA (TE.rf h)) (by decide)
  have n2 : ∀ k b, k ≠ 5 → gF (gpF (gpA h 1 (o + 9 + 6 * p) (pRe P).length (.int (nI x))) 2 5 (o + 6 + 6 * p) (.int (nI ((pRe P).length + 1)))) 2 k b = gF h 2 k b := fun k b hk => by rw [gF_pF, if_neg (fun z => hk z.2.1), gF_pA]
  have n1 : ∀ k b, gF (gpF (gpA h 1 (o + 9 + 6 * p) (pRe P).length (.int (nI x))) 2 5 (o + 6 + 6 * p) (.int (nI ((pRe P).length + 1)))) 1 k b = gF h 1 k b := fun k b => by rw [gF_pF, if_neg (fun z => absurd z.1 (by decide)), gF_pA]
  refine ⟨fun j hj => ?_, by rw [n2 _ _ (by decide)]; exact z2, ⟨?_, fun i y hy => ?_⟩, ⟨by rw [n1]; exact z5, fun i t2 ht => ?_⟩, by rw [n1]; exact z7, by rw [n2 _ _ (by decide)]; exact z8, by rw [n2 _ _ (by decide)]; exact z9, by rw [n2 _ _ (by decide)]; exact z10, ⟨fun q => by rw [n2 _ _ (by decide)]; exact z11 q, fun t2 q2 => ?_⟩, by rw [n2 _ _ (by decide)]; exact z13⟩
  · obtain ⟨b, h1, h2⟩ := z1 j hj
    exact ⟨b, by rw [gA_pF, gA_pA, if_neg (fun z => by omega)]; exact h1, TR.mono te _ _ h2⟩
  · rw [gF_pF, if_pos ⟨rfl, rfl, rfl⟩, List.length_append]; rfl
  · by_cases hi : i = (pRe P).length
    · rw [hi, List.getElem?_append_right (Nat.le_refl _), Nat.sub_self] at hy
      cases hy
      rw [gA_pF, gA_pA, if_pos ⟨rfl, rfl, hi⟩]
    · have hl : i < (pRe P ++ [x]).length := (List.getElem?_eq_some_iff.mp hy).1
      simp only [List.length_append, List.length_cons, List.length_nil] at hl
      rw [List.getElem?_append_left (by omega)] at hy
      rw [gA_pF, gA_pA, if_neg (fun z => hi z.2.2)]; exact z4 i y hy
  · obtain ⟨b, h1, h2⟩ := z6 i t2 ht
    exact ⟨b, by rw [gA_pF, gA_pA, if_neg (fun z => by omega)]; exact h1, TR.mono te _ _ h2⟩
  · obtain ⟨b, h1, h2⟩ := z12 t2 q2
    exact ⟨b, by rw [n2 _ _ (by decide)]; exact h1, TR.mono te _ _ h2⟩
theorem cQu_add {o : Nat} {l : List Nat} {h : th_H} {p : Nat} (z : cQu o l h) : cQu o (l ++ [p]) (gpF (gpA h 1 (o + 79) l.length (.int (nI p))) 3 1 (o + 78) (.int (nI (l.length + 1)))) := by
  refine ⟨by rw [gF_pF, if_pos ⟨rfl, rfl, rfl⟩, List.length_append]; rfl, fun i x q => ?_⟩
  by_cases hi : i = l.length
  · rw [hi, List.getElem?_append_right (Nat.le_refl _), Nat.sub_self] at q
    cases q
    rw [gA_pF, gA_pA, if_pos ⟨rfl, rfl, hi⟩]
  · have hl := (List.getElem?_eq_some_iff.mp q).1
    simp only [List.length_append, List.length_cons, List.length_nil] at hl
    rw [List.getElem?_append_left (by omega)] at q
    rw [gA_pF, gA_pA, if_neg (fun z => hi z.2.2)]; exact z.2 i x q
theorem cQu_set {o : Nat} {l : List Nat} {h : th_H} {f : Nat → Value} (hf : ∀ i x, l[i]? = some x → f i = .int (nI x)) : cQu o l (gpF (gsA h 1 (o + 79) f) 3 1 (o + 78) (.int (nI l.length))) := by
  refine ⟨by rw [gF_pF, if_pos ⟨rfl, rfl, rfl⟩], fun i x q => ?_⟩
  rw [gA_pF, gA_sA, if_pos ⟨rfl, rfl⟩]; exact hf i x q
