/-! The class's picture of the host (printed by wip/gen/mod_rep.py). -/
/-- the fields that change behind the constructors -/
def cmut (c k : Nat) : Bool := match c with
  | 1 => k == 1 || k == 2
  | 2 => 5 ≤ k
  | 3 => k == 1
  | 4 => k == 4
  | 5 => k == 1
  | 7 => k == 4
  | _ => false
/-- the object's own cells o .. o + 97 may have changed, there what may change; nothing else; new cells may have come -/
def Chg (o : Nat) (h h' : th_H) : Prop := gz h ≤ gz h' ∧ (∀ a, a < gz h → gk h' a = gk h a) ∧ (∀ c k a, a < gz h → ¬ (o ≤ a ∧ a < o + 98 ∧ cmut c k = true) → gF h' c k a = gF h c k a) ∧ (∀ t a i, a < gz h → ¬ (o ≤ a ∧ a < o + 98 ∧ (t = 1 ∨ t = 2) ∧ a ≠ o + 81) → gA h' t a i = gA h t a i)
theorem Chg.rf (o : Nat) (h : th_H) : Chg o h h := ⟨Nat.le_refl _, fun _ _ => rfl, fun _ _ _ _ _ => rfl, fun _ _ _ _ _ => rfl⟩
theorem Chg.tr {o : Nat} {h h1 h2 : th_H} (a : Chg o h h1) (b : Chg o h1 h2) : Chg o h h2 := ⟨Nat.le_trans a.1 b.1, fun x hx => (b.2.1 x (Nat.lt_of_lt_of_le hx a.1)).trans (a.2.1 x hx), fun c k x hx q => (b.2.2.1 c k x (Nat.lt_of_lt_of_le hx a.1) q).trans (a.2.2.1 c k x hx q), fun t x i hx q => (b.2.2.2 t x i (Nat.lt_of_lt_of_le hx a.1) q).trans (a.2.2.2 t x i hx q)⟩
theorem Chg.pF {o : Nat} {h h1 : th_H} {ci k a : Nat} {v : Value} (e : Chg o h h1) (ha : o ≤ a ∧ a < o + 98) (hm : cmut ci k = true) : Chg o h (gpF h1 ci k a v) := ⟨e.1, e.2.1, fun c j x hx q => by rw [gF_pF, if_neg (fun z => q ⟨by omega, by omega, by rw [z.1, z.2.1]; exact hm⟩)]; exact e.2.2.1 c j x hx q, e.2.2.2⟩
theorem Chg.pA {o : Nat} {h h1 : th_H} {t a i : Nat} {v : Value} (e : Chg o h h1) (ha : o ≤ a ∧ a < o + 98 ∧ a ≠ o + 81) (ht : t = 1 ∨ t = 2) : Chg o h (gpA h1 t a i v) := ⟨e.1, e.2.1, e.2.2.1, fun t' x j hx q => by rw [gA_pA, if_neg (fun z => q ⟨by omega, by omega, by rw [z.1]; exact ht, by omega⟩)]; exact e.2.2.2 t' x j hx q⟩
theorem Chg.sA {o : Nat} {h h1 : th_H} {t a : Nat} {f : Nat → Value} (e : Chg o h h1) (ha : o ≤ a ∧ a < o + 98 ∧ a ≠ o + 81) (ht : t = 1 ∨ t = 2) : Chg o h (gsA h1 t a f) := ⟨e.1, e.2.1, e.2.2.1, fun t' x j hx q => by rw [gA_sA, if_neg (fun z => q ⟨by omega, by omega, by rw [z.1]; exact ht, by omega⟩)]; exact e.2.2.2 t' x j hx q⟩
theorem Chg.nO {o : Nat} {h h1 : th_H} {ci : Nat} {dv : Nat → Value} (e : Chg o h h1) : Chg o h (gnO h1 ci dv) := by
  have e1 := e.1
  exact ⟨by rw [gz_nO]; omega, fun x hx => by rw [gk_nO, if_neg (by omega)]; exact e.2.1 x hx, fun c k x hx q => by rw [gF_nO, if_neg (fun z => by omega)]; exact e.2.2.1 c k x hx q, e.2.2.2⟩
theorem Chg.t5 {o : Nat} {h h1 : th_H} {a : Nat} {s n : Int32} {x y : Value} {w : Int32} (e : Chg o h h1) (ha : gz h ≤ a) : Chg o h (gT h1 a s n x y w) := ⟨e.1, e.2.1, fun c k b hb q => by
    have : b ≠ a := by omega
    unfold gT
    simp only [gF_pF, this, and_false, if_false]
    exact e.2.2.1 c k b hb q, e.2.2.2⟩
theorem Chg.nT {o : Nat} {h h1 : th_H} {s n : Int32} {x y : Value} {w : Int32} (e : Chg o h h1) : Chg o h (gnT h1 s n x y w) := Chg.t5 e.nO e.1
theorem Chg.te {o : Nat} {h h' : th_H} (wf : WFh h) (e : Chg o h h') : TE h h' := fun a q => ⟨by rw [e.2.1 a (wf a _ q)]; exact q, fun k => e.2.2.1 0 k a (wf a _ q) (by simp [cmut])⟩

def cTop (o : Nat) (h : th_H) : Prop := (gk h o = some (.inl 7)) ∧ (gF h 7 1 o = .ref (o + 1)) ∧ (gF h 7 2 o = .ref (o + 2)) ∧ (gF h 7 3 o = .ref (o + 4)) ∧ (gk h (o + 1) = some (.inl 6)) ∧ (gF h 6 0 (o + 1) = .ref (o + 2)) ∧ (gF h 6 1 (o + 1) = .ref (o + 4)) ∧ (gk h (o + 2) = some (.inl 5)) ∧ (gF h 5 0 (o + 2) = .ref (o + 3)) ∧ (gk h (o + 3) = some (.inr (1, 192))) ∧ (gk h (o + 4) = some (.inl 4)) ∧ (gF h 4 0 (o + 4) = .ref (o + 5)) ∧ (gF h 4 1 (o + 4) = .ref (o + 78)) ∧ (gF h 4 2 (o + 4) = .ref (o + 80)) ∧ (gF h 4 3 (o + 4) = .ref (o + 81)) ∧ (gk h (o + 5) = some (.inr (3, 12))) ∧ (gk h (o + 78) = some (.inl 3)) ∧ (gF h 3 0 (o + 78) = .ref (o + 79)) ∧ (gk h (o + 79) = some (.inr (1, 12))) ∧ (gk h (o + 81) = some (.inr (2, 16))) ∧ (TR h nilT (o + 80)) ∧ (∀ a : Nat, a < 16 → gA h 2 (o + 81) a = .ref (o + 82 + a) ∧ TR h (.leaf (1, nI a)) (o + 82 + a)) ∧ (∀ p : Nat, p < 12 → gA h 3 (o + 5) p = .ref (o + 6 + 6 * p))
def cRow (o p : Nat) (h : th_H) : Prop := (gk h (o + 6 + 6 * p) = some (.inl 2)) ∧ (gF h 2 0 (o + 6 + 6 * p) = .int (nI p)) ∧ (gF h 2 1 (o + 6 + 6 * p) = .ref (o + 7 + 6 * p)) ∧ (TR h (.leaf (2, nI p)) (o + 7 + 6 * p)) ∧ (gF h 2 2 (o + 6 + 6 * p) = .ref (o + 8 + 6 * p)) ∧ (gk h (o + 8 + 6 * p) = some (.inr (2, 8))) ∧ (gF h 2 3 (o + 6 + 6 * p) = .ref (o + 9 + 6 * p)) ∧ (gk h (o + 9 + 6 * p) = some (.inr (1, 6))) ∧ (gF h 2 4 (o + 6 + 6 * p) = .ref (o + 10 + 6 * p)) ∧ (gk h (o + 10 + 6 * p) = some (.inl 1)) ∧ (gF h 1 0 (o + 10 + 6 * p) = .ref (o + 11 + 6 * p)) ∧ (gk h (o + 11 + 6 * p) = some (.inr (2, 12)))
theorem cTop.kO {o : Nat} {h : th_H} (z : cTop o h) : gk h o = some (.inl 7) := z.1
theorem cTop.H1 {o : Nat} {h : th_H} (z : cTop o h) : gF h 7 1 o = .ref (o + 1) := z.2.1
theorem cTop.H2 {o : Nat} {h : th_H} (z : cTop o h) : gF h 7 2 o = .ref (o + 2) := z.2.2.1
theorem cTop.H3 {o : Nat} {h : th_H} (z : cTop o h) : gF h 7 3 o = .ref (o + 4) := z.2.2.2.1
theorem cTop.kM {o : Nat} {h : th_H} (z : cTop o h) : gk h (o + 1) = some (.inl 6) := z.2.2.2.2.1
theorem cTop.M0 {o : Nat} {h : th_H} (z : cTop o h) : gF h 6 0 (o + 1) = .ref (o + 2) := z.2.2.2.2.2.1
theorem cTop.M1 {o : Nat} {h : th_H} (z : cTop o h) : gF h 6 1 (o + 1) = .ref (o + 4) := z.2.2.2.2.2.2.1
theorem cTop.kG {o : Nat} {h : th_H} (z : cTop o h) : gk h (o + 2) = some (.inl 5) := z.2.2.2.2.2.2.2.1
theorem cTop.G0 {o : Nat} {h : th_H} (z : cTop o h) : gF h 5 0 (o + 2) = .ref (o + 3) := z.2.2.2.2.2.2.2.2.1
theorem cTop.kGa {o : Nat} {h : th_H} (z : cTop o h) : gk h (o + 3) = some (.inr (1, 192)) := z.2.2.2.2.2.2.2.2.2.1
theorem cTop.kS {o : Nat} {h : th_H} (z : cTop o h) : gk h (o + 4) = some (.inl 4) := z.2.2.2.2.2.2.2.2.2.2.1
theorem cTop.S0 {o : Nat} {h : th_H} (z : cTop o h) : gF h 4 0 (o + 4) = .ref (o + 5) := z.2.2.2.2.2.2.2.2.2.2.2.1
theorem cTop.S1 {o : Nat} {h : th_H} (z : cTop o h) : gF h 4 1 (o + 4) = .ref (o + 78) := z.2.2.2.2.2.2.2.2.2.2.2.2.1
theorem cTop.S2 {o : Nat} {h : th_H} (z : cTop o h) : gF h 4 2 (o + 4) = .ref (o + 80) := z.2.2.2.2.2.2.2.2.2.2.2.2.2.1
theorem cTop.S3 {o : Nat} {h : th_H} (z : cTop o h) : gF h 4 3 (o + 4) = .ref (o + 81) := z.2.2.2.2.2.2.2.2.2.2.2.2.2.2.1
theorem cTop.kT {o : Nat} {h : th_H} (z : cTop o h) : gk h (o + 5) = some (.inr (3, 12)) := z.2.2.2.2.2.2.2.2.2.2.2.2.2.2.2.1
theorem cTop.kL {o : Nat} {h : th_H} (z : cTop o h) : gk h (o + 78) = some (.inl 3) := z.2.2.2.2.2.2.2.2.2.2.2.2.2.2.2.2.1
theorem cTop.L0 {o : Nat} {h : th_H} (z : cTop o h) : gF h 3 0 (o + 78) = .ref (o + 79) := z.2.2.2.2.2.2.2.2.2.2.2.2.2.2.2.2.2.1
theorem cTop.kLa {o : Nat} {h : th_H} (z : cTop o h) : gk h (o + 79) = some (.inr (1, 12)) := z.2.2.2.2.2.2.2.2.2.2.2.2.2.2.2.2.2.2.1
theorem cTop.kAt {o : Nat} {h : th_H} (z : cTop o h) : gk h (o + 81) = some (.inr (2, 16)) := z.2.2.2.2.2.2.2.2.2.2.2.2.2.2.2.2.2.2.2.1
theorem cTop.nil {o : Nat} {h : th_H} (z : cTop o h) : TR h nilT (o + 80) := z.2.2.2.2.2.2.2.2.2.2.2.2.2.2.2.2.2.2.2.2.1
theorem cTop.at {o : Nat} {h : th_H} (z : cTop o h) : ∀ a : Nat, a < 16 → gA h 2 (o + 81) a = .ref (o + 82 + a) ∧ TR h (.leaf (1, nI a)) (o + 82 + a) := z.2.2.2.2.2.2.2.2.2.2.2.2.2.2.2.2.2.2.2.2.2.1
theorem cTop.tab {o : Nat} {h : th_H} (z : cTop o h) : ∀ p : Nat, p < 12 → gA h 3 (o + 5) p = .ref (o + 6 + 6 * p) := z.2.2.2.2.2.2.2.2.2.2.2.2.2.2.2.2.2.2.2.2.2.2
theorem cRow.k {o p : Nat} {h : th_H} (z : cRow o p h) : gk h (o + 6 + 6 * p) = some (.inl 2) := z.1
theorem cRow.n {o p : Nat} {h : th_H} (z : cRow o p h) : gF h 2 0 (o + 6 + 6 * p) = .int (nI p) := z.2.1
theorem cRow.pid {o p : Nat} {h : th_H} (z : cRow o p h) : gF h 2 1 (o + 6 + 6 * p) = .ref (o + 7 + 6 * p) := z.2.2.1
theorem cRow.tp {o p : Nat} {h : th_H} (z : cRow o p h) : TR h (.leaf (2, nI p)) (o + 7 + 6 * p) := z.2.2.2.1
theorem cRow.rg {o p : Nat} {h : th_H} (z : cRow o p h) : gF h 2 2 (o + 6 + 6 * p) = .ref (o + 8 + 6 * p) := z.2.2.2.2.1
theorem cRow.kr {o p : Nat} {h : th_H} (z : cRow o p h) : gk h (o + 8 + 6 * p) = some (.inr (2, 8)) := z.2.2.2.2.2.1
theorem cRow.re {o p : Nat} {h : th_H} (z : cRow o p h) : gF h 2 3 (o + 6 + 6 * p) = .ref (o + 9 + 6 * p) := z.2.2.2.2.2.2.1
theorem cRow.kre {o p : Nat} {h : th_H} (z : cRow o p h) : gk h (o + 9 + 6 * p) = some (.inr (1, 6)) := z.2.2.2.2.2.2.2.1
theorem cRow.mb {o p : Nat} {h : th_H} (z : cRow o p h) : gF h 2 4 (o + 6 + 6 * p) = .ref (o + 10 + 6 * p) := z.2.2.2.2.2.2.2.2.1
theorem cRow.kmb {o p : Nat} {h : th_H} (z : cRow o p h) : gk h (o + 10 + 6 * p) = some (.inl 1) := z.2.2.2.2.2.2.2.2.2.1
theorem cRow.ma {o p : Nat} {h : th_H} (z : cRow o p h) : gF h 1 0 (o + 10 + 6 * p) = .ref (o + 11 + 6 * p) := z.2.2.2.2.2.2.2.2.2.2.1
theorem cRow.kma {o p : Nat} {h : th_H} (z : cRow o p h) : gk h (o + 11 + 6 * p) = some (.inr (2, 12)) := z.2.2.2.2.2.2.2.2.2.2.2
def cLay (o : Nat) (h : th_H) : Prop := cTop o h ∧ ∀ p : Nat, p < 12 → cRow o p h
theorem cLay.chg {o : Nat} {h h' : th_H} (z : cLay o h) (wf : WFh h) (e : Chg o h h') : cLay o h' := by
  obtain ⟨z, y⟩ := z
  refine ⟨⟨by rw [e.2.1 _ (wf _ _ z.kO)]; exact z.kO, by rw [e.2.2.1 _ _ _ (wf _ _ z.kO) (by simp [cmut])]; exact z.H1, by rw [e.2.2.1 _ _ _ (wf _ _ z.kO) (by simp [cmut])]; exact z.H2, by rw [e.2.2.1 _ _ _ (wf _ _ z.kO) (by simp [cmut])]; exact z.H3, by rw [e.2.1 _ (wf _ _ z.kM)]; exact z.kM, by rw [e.2.2.1 _ _ _ (wf _ _ z.kM) (by simp [cmut])]; exact z.M0, by rw [e.2.2.1 _ _ _ (wf _ _ z.kM) (by simp [cmut])]; exact z.M1, by rw [e.2.1 _ (wf _ _ z.kG)]; exact z.kG, by rw [e.2.2.1 _ _ _ (wf _ _ z.kG) (by simp [cmut])]; exact z.G0, by rw [e.2.1 _ (wf _ _ z.kGa)]; exact z.kGa, by rw [e.2.1 _ (wf _ _ z.kS)]; exact z.kS, by rw [e.2.2.1 _ _ _ (wf _ _ z.kS) (by simp [cmut])]; exact z.S0, by rw [e.2.2.1 _ _ _ (wf _ _ z.kS) (by simp [cmut])]; exact z.S1, by rw [e.2.2.1 _ _ _ (wf _ _ z.kS) (by simp [cmut])]; exact z.S2, by rw [e.2.2.1 _ _ _ (wf _ _ z.kS) (by simp [cmut])]; exact z.S3, by rw [e.2.1 _ (wf _ _ z.kT)]; exact z.kT, by rw [e.2.1 _ (wf _ _ z.kL)]; exact z.kL, by rw [e.2.2.1 _ _ _ (wf _ _ z.kL) (by simp [cmut])]; exact z.L0, by rw [e.2.1 _ (wf _ _ z.kLa)]; exact z.kLa, by rw [e.2.1 _ (wf _ _ z.kAt)]; exact z.kAt, TR.mono (e.te wf) _ _ z.nil, fun a ha => ⟨by rw [e.2.2.2 _ _ _ (wf _ _ z.kAt) (by simp)]; exact (z.at a ha).1, TR.mono (e.te wf) _ _ (z.at a ha).2⟩, fun p hp => by rw [e.2.2.2 _ _ _ (wf _ _ z.kT) (by simp)]; exact z.tab p hp⟩, fun p hp => ?_⟩
  have y := y p hp
  exact ⟨by rw [e.2.1 _ (wf _ _ y.k)]; exact y.k, by rw [e.2.2.1 _ _ _ (wf _ _ y.k) (by simp [cmut])]; exact y.n, by rw [e.2.2.1 _ _ _ (wf _ _ y.k) (by simp [cmut])]; exact y.pid, TR.mono (e.te wf) _ _ y.tp, by rw [e.2.2.1 _ _ _ (wf _ _ y.k) (by simp [cmut])]; exact y.rg, by rw [e.2.1 _ (wf _ _ y.kr)]; exact y.kr, by rw [e.2.2.1 _ _ _ (wf _ _ y.k) (by simp [cmut])]; exact y.re, by rw [e.2.1 _ (wf _ _ y.kre)]; exact y.kre, by rw [e.2.2.1 _ _ _ (wf _ _ y.k) (by simp [cmut])]; exact y.mb, by rw [e.2.1 _ (wf _ _ y.kmb)]; exact y.kmb, by rw [e.2.2.1 _ _ _ (wf _ _ y.kmb) (by simp [cmut])]; exact y.ma, by rw [e.2.1 _ (wf _ _ y.kma)]; exact y.kma⟩
/-- a process in its cells -/
def cPr (o p : Nat) (P : Pr) (h : th_H) : Prop :=
  (∀ k : Nat, k < 8 → ∃ a, gA h 2 (o + 8 + 6 * p) k = .ref a ∧ TR h (pRg P k) a) ∧
  gF h 2 6 (o + 6 + 6 * p) = .int (nI (pPl P)) ∧
  (gF h 2 5 (o + 6 + 6 * p) = .int (nI (pRe P).length) ∧ ∀ i x, (pRe P)[i]? = some x → gA h 1 (o + 9 + 6 * p) i = .int (nI x)) ∧
  (gF h 1 1 (o + 10 + 6 * p) = .int (nI (pMs P).length) ∧ ∀ i t, (pMs P)[i]? = some t → ∃ a, gA h 2 (o + 11 + 6 * p) i = .ref a ∧ TR h t a) ∧
  gF h 1 2 (o + 10 + 6 * p) = .int (nI (pMk P)) ∧
  gF h 2 7 (o + 6 + 6 * p) = .int (pLk P) ∧
  gF h 2 8 (o + 6 + 6 * p) = .int (if pTr P then 1 else 0) ∧
  gF h 2 9 (o + 6 + 6 * p) = .int (nI (pSt P)) ∧
  ((pRs P = none → gF h 2 10 (o + 6 + 6 * p) = .null) ∧ ∀ t, pRs P = some t → ∃ a, gF h 2 10 (o + 6 + 6 * p) = .ref a ∧ TR h t a) ∧
  gF h 2 11 (o + 6 + 6 * p) = .int (pDn P)
def cCd (o : Nat) (l : List (Nat × Int32 × Int32 × Int32)) (h : th_H) : Prop := gF h 5 1 (o + 2) = .int (nI l.length) ∧ ∀ i q, l[i]? = some q → gA h 1 (o + 3) (4 * i) = .int (nI q.1) ∧ gA h 1 (o + 3) (4 * i + 1) = .int q.2.1 ∧ gA h 1 (o + 3) (4 * i + 2) = .int q.2.2.1 ∧ gA h 1 (o + 3) (4 * i + 3) = .int q.2.2.2
def cQu (o : Nat) (l : List Nat) (h : th_H) : Prop := gF h 3 1 (o + 78) = .int (nI l.length) ∧ ∀ i x, l[i]? = some x → gA h 1 (o + 79) i = .int (nI x)
/-- the class's object at o holds the host σ -/
def CR (o : Nat) (σ : Ho) (h : th_H) : Prop := cLay o h ∧ (gF h 7 0 o = .int (oQt σ) ∧ gF h 7 4 o = .int (nI (oSp σ))) ∧ cCd o (oCd σ) h ∧ cQu o (oQu σ) h ∧ gF h 4 4 (o + 4) = .int (nI (oCt σ)) ∧ ∀ p : Nat, p < oCt σ → cPr o p (oPr σ p) h
/-- the process p's cells are as they were -/
def Same (o p : Nat) (h h' : th_H) : Prop := (∀ k, gF h' 2 k (o + 6 + 6 * p) = gF h 2 k (o + 6 + 6 * p)) ∧ (∀ k, gF h' 1 k (o + 10 + 6 * p) = gF h 1 k (o + 10 + 6 * p)) ∧ (∀ i, gA h' 2 (o + 8 + 6 * p) i = gA h 2 (o + 8 + 6 * p) i) ∧ (∀ i, gA h' 1 (o + 9 + 6 * p) i = gA h 1 (o + 9 + 6 * p) i) ∧ ∀ i, gA h' 2 (o + 11 + 6 * p) i = gA h 2 (o + 11 + 6 * p) i
theorem Same.rf (o p : Nat) (h : th_H) : Same o p h h := ⟨fun _ => rfl, fun _ => rfl, fun _ => rfl, fun _ => rfl, fun _ => rfl⟩
theorem Same.tr {o p : Nat} {h h1 h2 : th_H} (a : Same o p h h1) (b : Same o p h1 h2) : Same o p h h2 := ⟨fun k => (b.1 k).trans (a.1 k), fun k => (b.2.1 k).trans (a.2.1 k), fun k => (b.2.2.1 k).trans (a.2.2.1 k), fun k => (b.2.2.2.1 k).trans (a.2.2.2.1 k), fun k => (b.2.2.2.2 k).trans (a.2.2.2.2 k)⟩
theorem cPr.same {o p : Nat} {P : Pr} {h h' : th_H} (z : cPr o p P h) (e : TE h h') (s : Same o p h h') : cPr o p P h' := by
  obtain ⟨z1, z2, ⟨z3, z4⟩, ⟨z5, z6⟩, z7, z8, z9, z10, ⟨z11, z12⟩, z13⟩ := z
  obtain ⟨s1, s2, s3, s4, s5⟩ := s
  refine ⟨fun k hk => ?_, by rw [s1]; exact z2, ⟨by rw [s1]; exact z3, fun i x hx => by rw [s4]; exact z4 i x hx⟩, ⟨by rw [s2]; exact z5, fun i t ht => ?_⟩, by rw [s2]; exact z7, by rw [s1]; exact z8, by rw [s1]; exact z9, by rw [s1]; exact z10, ⟨fun q => by rw [s1]; exact z11 q, fun t q => ?_⟩, by rw [s1]; exact z13⟩
  · obtain ⟨a, q1, q2⟩ := z1 k hk
    exact ⟨a, by rw [s3]; exact q1, TR.mono e _ _ q2⟩
  · obtain ⟨a, q1, q2⟩ := z6 i t ht
    exact ⟨a, by rw [s5]; exact q1, TR.mono e _ _ q2⟩
  · obtain ⟨a, q1, q2⟩ := z12 t q
    exact ⟨a, by rw [s1]; exact q1, TR.mono e _ _ q2⟩
theorem Same.pF {o p : Nat} {h h1 : th_H} {ci k a : Nat} {v : Value} (e : Same o p h h1) (hn : ¬ (ci = 2 ∧ a = o + 6 + 6 * p) ∧ ¬ (ci = 1 ∧ a = o + 10 + 6 * p)) : Same o p h (gpF h1 ci k a v) := ⟨fun j => by rw [gF_pF, if_neg (fun z => hn.1 ⟨z.1.symm, z.2.2.symm⟩)]; exact e.1 j, fun j => by rw [gF_pF, if_neg (fun z => hn.2 ⟨z.1.symm, z.2.2.symm⟩)]; exact e.2.1 j, e.2.2.1, e.2.2.2.1, e.2.2.2.2⟩
theorem Same.pA {o p : Nat} {h h1 : th_H} {t a i : Nat} {v : Value} (e : Same o p h h1) (hn : ¬ (t = 2 ∧ (a = o + 8 + 6 * p ∨ a = o + 11 + 6 * p)) ∧ ¬ (t = 1 ∧ a = o + 9 + 6 * p)) : Same o p h (gpA h1 t a i v) := ⟨e.1, e.2.1, fun j => by rw [gA_pA, if_neg (fun z => hn.1 ⟨z.1.symm, Or.inl z.2.1.symm⟩)]; exact e.2.2.1 j, fun j => by rw [gA_pA, if_neg (fun z => hn.2 ⟨z.1.symm, z.2.1.symm⟩)]; exact e.2.2.2.1 j, fun j => by rw [gA_pA, if_neg (fun z => hn.1 ⟨z.1.symm, Or.inr z.2.1.symm⟩)]; exact e.2.2.2.2 j⟩
theorem Same.sA {o p : Nat} {h h1 : th_H} {t a : Nat} {f : Nat → Value} (e : Same o p h h1) (hn : ¬ (t = 2 ∧ (a = o + 8 + 6 * p ∨ a = o + 11 + 6 * p)) ∧ ¬ (t = 1 ∧ a = o + 9 + 6 * p)) : Same o p h (gsA h1 t a f) := ⟨e.1, e.2.1, fun j => by rw [gA_sA, if_neg (fun z => hn.1 ⟨z.1.symm, Or.inl z.2.symm⟩)]; exact e.2.2.1 j, fun j => by rw [gA_sA, if_neg (fun z => hn.2 ⟨z.1.symm, z.2.symm⟩)]; exact e.2.2.2.1 j, fun j => by rw [gA_sA, if_neg (fun z => hn.1 ⟨z.1.symm, Or.inr z.2.symm⟩)]; exact e.2.2.2.2 j⟩
theorem CR.to {o : Nat} {σ : Ho} {h : th_H} {σ' : Ho} {h' : th_H} (z : CR o σ h) (wf : WFh h) (e : Chg o h h') (h1 : gF h' 7 0 o = .int (oQt σ')) (h2 : gF h' 7 4 o = .int (nI (oSp σ'))) (h3 : cCd o (oCd σ') h') (h4 : cQu o (oQu σ') h') (h5 : gF h' 4 4 (o + 4) = .int (nI (oCt σ'))) (h6 : ∀ p : Nat, p < oCt σ' → cPr o p (oPr σ' p) h') : CR o σ' h' := ⟨z.1.chg wf e, ⟨h1, h2⟩, h3, h4, h5, h6⟩
/-- the addresses in an array of references -/
def refOf : Value → Nat
  | .ref a => a
  | _ => 0
def refsOf (h : th_H) (t a n : Nat) : List Nat := (List.range n).map (fun i => refOf (gA h t a i))
theorem refsOf_len (h : th_H) (t a n : Nat) : (refsOf h t a n).length = n := by simp [refsOf]
theorem refsOf_at {h : th_H} {t a n i x : Nat} (q : (refsOf h t a n)[i]? = some x) : i < n ∧ x = refOf (gA h t a i) := by
  have hi : i < n := by have := (List.getElem?_eq_some_iff.mp q).1; rw [refsOf_len] at this; exact this
  refine ⟨hi, ?_⟩
  simp [refsOf, hi] at q
  exact q.symm
