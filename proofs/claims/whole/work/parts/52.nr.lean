/-! The reference's picture of the host, over its table of numbers (printed by wip/gen/mod_nr.py). -/
theorem tF_len : ∀ t : Tm, (tF t).length = tW t
  | .leaf _ => rfl
  | .branch _ l r => by simp only [tF, tW, List.length_cons, List.length_append, tF_len l, tF_len r]; omega
theorem vTm.len {t : Tm} (v : vTm t) : (tF t).length ≤ 15 := by rw [tF_len]; exact v.2
/-- place s holds the parts l -/
def SL (A : Nat → Nat → Int32) (s : Nat) (l : List (Int32 × Int32)) : Prop := A 5 (32 * s) = nI l.length ∧ ∀ i q, l[i]? = some q → A 5 (32 * s + 1 + 2 * i) = q.1 ∧ A 5 (32 * s + 2 + 2 * i) = q.2
/-- only place s has changed -/
def Tb (s : Nat) (A A' : Nat → Nat → Int32) : Prop := ∀ j i, ¬ (j = 5 ∧ 32 * s ≤ i ∧ i < 32 * s + 32) → A' j i = A j i
theorem Tb.rf (s : Nat) (A : Nat → Nat → Int32) : Tb s A A := fun _ _ _ => rfl
theorem Tb.tr {s : Nat} {A B C : Nat → Nat → Int32} (a : Tb s A B) (b : Tb s B C) : Tb s A C := fun j i h => (b j i h).trans (a j i h)
theorem Tb.r {s : Nat} {A B : Nat → Nat → Int32} (a : Tb s A B) {j i : Nat} (h : j ≠ 5) : B j i = A j i := a j i (fun z => h z.1)
theorem il {l : List (Int32 × Int32)} {i : Nat} {q : Int32 × Int32} (h : l[i]? = some q) : i < l.length := (List.getElem?_eq_some_iff.mp h).1
theorem SL.eqv {A A' : Nat → Nat → Int32} {s : Nat} {l : List (Int32 × Int32)} (hl : l.length ≤ 15) (y : SL A s l) (e : ∀ i, 32 * s ≤ i → i < 32 * s + 32 → A' 5 i = A 5 i) : SL A' s l := ⟨(e _ (by omega) (by omega)).trans y.1, fun i q hq => by
  have hi := il hq
  exact ⟨(e _ (by omega) (by omega)).trans (y.2 i q hq).1, (e _ (by omega) (by omega)).trans (y.2 i q hq).2⟩⟩
theorem SL.tb {A A' : Nat → Nat → Int32} {s x : Nat} {l : List (Int32 × Int32)} (hl : l.length ≤ 15) (y : SL A x l) (e : Tb s A A') (hx : x ≠ s) : SL A' x l := y.eqv hl (fun i _ _ => e 5 i (fun z => by omega))
theorem SL.up {A : Nat → Nat → Int32} {s j i : Nat} {v : Int32} {l : List (Int32 × Int32)} (y : SL A s l) (hj : 5 ≠ j) : SL (up A j i v) s l := ⟨(up_r hj).trans y.1, fun k q hq => ⟨(up_r hj).trans (y.2 k q hq).1, (up_r hj).trans (y.2 k q hq).2⟩⟩
theorem Tb.up {A : Nat → Nat → Int32} {s i : Nat} {v : Int32} (h1 : 32 * s ≤ i) (h2 : i < 32 * s + 32) : Tb s A (up A 5 i v) := fun _ _ h => up_n (fun z => h ⟨z.1, by omega, by omega⟩)
theorem Tb.put {A : Nat → Nat → Int32} {s : Nat} {x y : Int32} : Tb s A (putA A s x y) := ((Tb.up (by omega) (by omega)).tr (Tb.up (by omega) (by omega))).tr (Tb.up (by omega) (by omega))
theorem Tb.app {A : Nat → Nat → Int32} {s n : Nat} {x y : Int32} (hn : n < 15) : Tb s A (appA A s n x y) := ((Tb.up (by omega) (by omega)).tr (Tb.up (by omega) (by omega))).tr (Tb.up (by omega) (by omega))
theorem Tb.cp {A : Nat → Nat → Int32} {f t k : Nat} (hk : k ≤ 32) : Tb t A (cpA A f t k) := fun j i h => if_neg (fun z => h ⟨z.1, z.2.1, by omega⟩)
theorem Tb.ap {A : Nat → Nat → Int32} {s o f w c : Nat} (hc : w + c ≤ 15) : Tb s A (apA A s o f w c) := fun j i h => by
  unfold apA
  rw [if_neg (fun z => h ⟨z.1, by omega, by omega⟩), if_neg (fun z => h ⟨z.1, by omega, by omega⟩)]
theorem SL.put {A : Nat → Nat → Int32} {s : Nat} {x y : Int32} : SL (putA A s x y) s [(x, y)] := by
  unfold putA
  refine ⟨?_, fun i q hq => ?_⟩
  · rw [up_n (by omega), up_n (by omega), up_s]; rfl
  · have hi := il hq
    obtain rfl : i = 0 := by simp only [List.length_cons, List.length_nil] at hi; omega
    cases hq
    exact ⟨by rw [up_n (by omega), show 32 * s + 1 + 2 * 0 = 32 * s + 1 by omega, up_s], by rw [show 32 * s + 2 + 2 * 0 = 32 * s + 2 by omega, up_s]⟩
theorem SL.app {A : Nat → Nat → Int32} {s n : Nat} {x y : Int32} {l : List (Int32 × Int32)} (q : SL A s l) (hn : l.length = n) : SL (appA A s n x y) s (l ++ [(x, y)]) := by
  unfold appA
  refine ⟨?_, fun i p hp => ?_⟩
  · rw [up_s, List.length_append, hn]; rfl
  · have hi := il hp
    rw [List.length_append, List.length_cons, List.length_nil, hn] at hi
    by_cases h : i = n
    · subst h
      rw [List.getElem?_append_right (by omega), hn, Nat.sub_self] at hp
      cases hp
      exact ⟨by rw [up_n (by omega), up_n (by omega), up_s], by rw [up_n (by omega), up_s]⟩
    · rw [List.getElem?_append_left (by omega)] at hp
      have := q.2 i p hp
      exact ⟨by rw [up_n (by omega), up_n (by omega), up_n (by omega)]; exact this.1, by rw [up_n (by omega), up_n (by omega), up_n (by omega)]; exact this.2⟩
theorem SL.cp {A : Nat → Nat → Int32} {f t w : Nat} {l : List (Int32 × Int32)} (q : SL A f l) (hw : l.length = w) : SL (cpA A f t (2 * w + 1)) t l := by
  have key : ∀ i, i < 2 * w + 1 → cpA A f t (2 * w + 1) 5 (32 * t + i) = A 5 (32 * f + i) := fun i hi => by
    unfold cpA
    rw [if_pos ⟨rfl, by omega, by omega⟩, show 32 * t + i - 32 * t + 32 * f = 32 * f + i by omega]
  refine ⟨(key 0 (by omega)).trans q.1, fun i p hp => ?_⟩
  have hi := il hp
  rw [show 32 * t + 1 + 2 * i = 32 * t + (1 + 2 * i) by omega, show 32 * t + 2 + 2 * i = 32 * t + (2 + 2 * i) by omega, key _ (by omega), key _ (by omega)]
  have := q.2 i p hp
  rw [show 32 * f + 1 + 2 * i = 32 * f + (1 + 2 * i) by omega, show 32 * f + 2 + 2 * i = 32 * f + (2 + 2 * i) by omega] at this
  exact this
theorem SL.ap {A : Nat → Nat → Int32} {s o f e w : Nat} {l m : List (Int32 × Int32)} (q : SL A s l) (hw : l.length = w) (y : SL A o m) (hfe : f ≤ e) (he : e ≤ m.length) : SL (apA A s o f w (e - f)) s (l ++ (m.drop f).take (e - f)) := by
  have hlen : ((m.drop f).take (e - f)).length = e - f := by rw [List.length_take, List.length_drop]; omega
  refine ⟨by rw [apA_w, List.length_append, hlen, hw], fun i p hp => ?_⟩
  have hi := il hp
  rw [List.length_append, hlen, hw] at hi
  have k1 : ∀ x, 32 * s < x → x < 32 * s + 1 + 2 * w → apA A s o f w (e - f) 5 x = A 5 x := fun x h1 h2 => by
    unfold apA
    rw [if_neg (fun z => by omega), if_neg (fun z => by omega)]
  have k2 : ∀ x, 32 * s + 1 + 2 * w ≤ x → x < 32 * s + 1 + 2 * (w + (e - f)) → apA A s o f w (e - f) 5 x = A 5 (x - (32 * s + 1 + 2 * w) + (32 * o + 1 + 2 * f)) := fun x h1 h2 => by
    unfold apA
    rw [if_neg (fun z => by omega), if_pos ⟨rfl, h1, h2⟩]
  by_cases h : i < w
  · rw [k1 _ (by omega) (by omega), k1 _ (by omega) (by omega)]
    rw [List.getElem?_append_left (by omega)] at hp
    exact q.2 i p hp
  · rw [k2 _ (by omega) (by omega), k2 _ (by omega) (by omega)]
    rw [List.getElem?_append_right (by omega), List.getElem?_take, if_pos (by omega), List.getElem?_drop, hw] at hp
    have := y.2 _ p hp
    rw [show 32 * s + 1 + 2 * i - (32 * s + 1 + 2 * w) + (32 * o + 1 + 2 * f) = 32 * o + 1 + 2 * (f + (i - w)) by omega, show 32 * s + 2 + 2 * i - (32 * s + 1 + 2 * w) + (32 * o + 1 + 2 * f) = 32 * o + 2 + 2 * (f + (i - w)) by omega]
    exact this
/-- the cells of process p -/
def own (p j i : Nat) : Prop := (j = 5 ∧ 672 * p ≤ i ∧ i < 672 * p + 672) ∨ (j = 11 ∧ 6 * p ≤ i ∧ i < 6 * p + 6) ∨ (i = p ∧ (j = 6 ∨ j = 7 ∨ j = 8 ∨ j = 9 ∨ j = 10 ∨ j = 12 ∨ j = 13 ∨ j = 14))
/-- cells that say nothing between two steps -/
def fre (j i : Nat) : Prop := (j = 5 ∧ 8064 ≤ i) ∨ j = 16 ∨ j = 17
/-- lengths alone -/
def vL (P : Pr) : Prop := (∀ k, (tF (pRg P k)).length ≤ 15) ∧ (pRe P).length ≤ 6 ∧ ((pMs P).length ≤ 12 ∧ ∀ t ∈ pMs P, (tF t).length ≤ 15) ∧ ∀ t, pRs P = some t → (tF t).length ≤ 15
def vLs (σ : Ho) : Prop := oCt σ ≤ 12 ∧ ∀ p, p < oCt σ → vL (oPr σ p)
theorem vPr.L {N : Nat} {P : Pr} (v : vPr N P) : vL P := ⟨fun k => (v.1 k).len, v.2.2.1.1, ⟨v.2.2.2.1.1, fun t ht => (v.2.2.2.1.2 t ht).len⟩, fun t ht => (v.2.2.2.2.2.2.1 t ht).len⟩
theorem vPs.L {N : Nat} {σ : Ho} (v : vPs N σ) : vLs σ := ⟨v.1, fun p hp => (v.2.2 p hp).L⟩
theorem vLs.setP {σ : Ho} {p : Nat} {P : Pr} (v : vLs σ) (q : vL P) : vLs (sPr σ p P) := ⟨v.1, fun x hx => by
  show vL (va_up (oPr σ) p P x)
  by_cases h : x = p
  · rw [h, va_up_self]; exact q
  · rw [va_up_ne _ _ h]; exact v.2 x hx⟩
def nPr (A : Nat → Nat → Int32) (p : Nat) (P : Pr) : Prop := A 6 p = nI (pSt P) ∧ A 7 p = nI (pPl P) ∧ A 8 p = nI (pMk P) ∧ A 9 p = nI (pMs P).length ∧ A 10 p = nI (pRe P).length ∧ A 12 p = pLk P ∧ A 13 p = (if pTr P = true then 1 else 0) ∧ A 14 p = pDn P ∧ (∀ i x, (pRe P)[i]? = some x → A 11 (6 * p + i) = nI x) ∧ (∀ k, k < 8 → SL A (21 * p + k) (tF (pRg P k))) ∧ (∀ t, pRs P = some t → SL A (21 * p + 8) (tF t)) ∧ ∀ i t, (pMs P)[i]? = some t → SL A (21 * p + 9 + i) (tF t)
theorem nPr.st {A : Nat → Nat → Int32} {p : Nat} {P : Pr} (y : nPr A p P) : A 6 p = nI (pSt P) := y.1
theorem nPr.pl {A : Nat → Nat → Int32} {p : Nat} {P : Pr} (y : nPr A p P) : A 7 p = nI (pPl P) := y.2.1
theorem nPr.mk {A : Nat → Nat → Int32} {p : Nat} {P : Pr} (y : nPr A p P) : A 8 p = nI (pMk P) := y.2.2.1
theorem nPr.ml {A : Nat → Nat → Int32} {p : Nat} {P : Pr} (y : nPr A p P) : A 9 p = nI (pMs P).length := y.2.2.2.1
theorem nPr.rl {A : Nat → Nat → Int32} {p : Nat} {P : Pr} (y : nPr A p P) : A 10 p = nI (pRe P).length := y.2.2.2.2.1
theorem nPr.lk {A : Nat → Nat → Int32} {p : Nat} {P : Pr} (y : nPr A p P) : A 12 p = pLk P := y.2.2.2.2.2.1
theorem nPr.tr {A : Nat → Nat → Int32} {p : Nat} {P : Pr} (y : nPr A p P) : A 13 p = (if pTr P = true then 1 else 0) := y.2.2.2.2.2.2.1
theorem nPr.dn {A : Nat → Nat → Int32} {p : Nat} {P : Pr} (y : nPr A p P) : A 14 p = pDn P := y.2.2.2.2.2.2.2.1
theorem nPr.re {A : Nat → Nat → Int32} {p : Nat} {P : Pr} (y : nPr A p P) : ∀ i x, (pRe P)[i]? = some x → A 11 (6 * p + i) = nI x := y.2.2.2.2.2.2.2.2.1
theorem nPr.rg {A : Nat → Nat → Int32} {p : Nat} {P : Pr} (y : nPr A p P) : ∀ k, k < 8 → SL A (21 * p + k) (tF (pRg P k)) := y.2.2.2.2.2.2.2.2.2.1
theorem nPr.rs {A : Nat → Nat → Int32} {p : Nat} {P : Pr} (y : nPr A p P) : ∀ t, pRs P = some t → SL A (21 * p + 8) (tF t) := y.2.2.2.2.2.2.2.2.2.2.1
theorem nPr.ms {A : Nat → Nat → Int32} {p : Nat} {P : Pr} (y : nPr A p P) : ∀ i t, (pMs P)[i]? = some t → SL A (21 * p + 9 + i) (tF t) := y.2.2.2.2.2.2.2.2.2.2.2
theorem mem_gi {α : Type} {l : List α} {i : Nat} {x : α} (h : l[i]? = some x) : x ∈ l := List.mem_of_getElem? h
theorem nPr.eqv {A A' : Nat → Nat → Int32} {p : Nat} {P : Pr} (y : nPr A p P) (v : vL P) (e : ∀ j i, own p j i → A' j i = A j i) : nPr A' p P := by
  have e1 : ∀ j, (j = 6 ∨ j = 7 ∨ j = 8 ∨ j = 9 ∨ j = 10 ∨ j = 12 ∨ j = 13 ∨ j = 14) → A' j p = A j p := fun j hj => e j p (Or.inr (Or.inr ⟨rfl, hj⟩))
  refine ⟨(e1 6 (by decide)).trans y.st, (e1 7 (by decide)).trans y.pl, (e1 8 (by decide)).trans y.mk, (e1 9 (by decide)).trans y.ml, (e1 10 (by decide)).trans y.rl, (e1 12 (by decide)).trans y.lk, (e1 13 (by decide)).trans y.tr, (e1 14 (by decide)).trans y.dn, fun i x hx => ?_, fun k hk => ?_, fun t ht => ?_, fun i t ht => ?_⟩
  · have hi := (List.getElem?_eq_some_iff.mp hx).1
    have := v.2.1
    exact (e 11 _ (Or.inr (Or.inl ⟨rfl, by omega, by omega⟩))).trans (y.re i x hx)
  · exact (y.rg k hk).eqv (v.1 k) (fun i h1 h2 => e 5 i (Or.inl ⟨rfl, by omega, by omega⟩))
  · exact (y.rs t ht).eqv (v.2.2.2 t ht) (fun i h1 h2 => e 5 i (Or.inl ⟨rfl, by omega, by omega⟩))
  · have hi := (List.getElem?_eq_some_iff.mp ht).1
    have := v.2.2.1.1
    exact (y.ms i t ht).eqv (v.2.2.1.2 t (mem_gi ht)) (fun i h1 h2 => e 5 i (Or.inl ⟨rfl, by omega, by omega⟩))
theorem nPr.s_st {A : Nat → Nat → Int32} {p : Nat} {P : Pr} (y : nPr A p P) (x : Nat) : nPr (up A 6 p (nI x)) p (sSt P x) := ⟨up_s, (up_r (by decide)).trans y.pl, (up_r (by decide)).trans y.mk, (up_r (by decide)).trans y.ml, (up_r (by decide)).trans y.rl, (up_r (by decide)).trans y.lk, (up_r (by decide)).trans y.tr, (up_r (by decide)).trans y.dn, fun i x hx => (up_r (by decide)).trans (y.re i x hx), fun k hk => (y.rg k hk).up (by decide), fun t ht => (y.rs t ht).up (by decide), fun i t ht => (y.ms i t ht).up (by decide)⟩
theorem nPr.s_pl {A : Nat → Nat → Int32} {p : Nat} {P : Pr} (y : nPr A p P) (x : Nat) : nPr (up A 7 p (nI x)) p (sPl P x) := ⟨(up_r (by decide)).trans y.st, up_s, (up_r (by decide)).trans y.mk, (up_r (by decide)).trans y.ml, (up_r (by decide)).trans y.rl, (up_r (by decide)).trans y.lk, (up_r (by decide)).trans y.tr, (up_r (by decide)).trans y.dn, fun i x hx => (up_r (by decide)).trans (y.re i x hx), fun k hk => (y.rg k hk).up (by decide), fun t ht => (y.rs t ht).up (by decide), fun i t ht => (y.ms i t ht).up (by decide)⟩
theorem nPr.s_mk {A : Nat → Nat → Int32} {p : Nat} {P : Pr} (y : nPr A p P) (x : Nat) : nPr (up A 8 p (nI x)) p (sMk P x) := ⟨(up_r (by decide)).trans y.st, (up_r (by decide)).trans y.pl, up_s, (up_r (by decide)).trans y.ml, (up_r (by decide)).trans y.rl, (up_r (by decide)).trans y.lk, (up_r (by decide)).trans y.tr, (up_r (by decide)).trans y.dn, fun i x hx => (up_r (by decide)).trans (y.re i x hx), fun k hk => (y.rg k hk).up (by decide), fun t ht => (y.rs t ht).up (by decide), fun i t ht => (y.ms i t ht).up (by decide)⟩
theorem nPr.s_lk {A : Nat → Nat → Int32} {p : Nat} {P : Pr} (y : nPr A p P) (x : Int32) : nPr (up A 12 p x) p (sLk P x) := ⟨(up_r (by decide)).trans y.st, (up_r (by decide)).trans y.pl, (up_r (by decide)).trans y.mk, (up_r (by decide)).trans y.ml, (up_r (by decide)).trans y.rl, up_s, (up_r (by decide)).trans y.tr, (up_r (by decide)).trans y.dn, fun i x hx => (up_r (by decide)).trans (y.re i x hx), fun k hk => (y.rg k hk).up (by decide), fun t ht => (y.rs t ht).up (by decide), fun i t ht => (y.ms i t ht).up (by decide)⟩
theorem nPr.s_tr {A : Nat → Nat → Int32} {p : Nat} {P : Pr} (y : nPr A p P) (x : Bool) : nPr (up A 13 p (if x = true then 1 else 0)) p (sTr P x) := ⟨(up_r (by decide)).trans y.st, (up_r (by decide)).trans y.pl, (up_r (by decide)).trans y.mk, (up_r (by decide)).trans y.ml, (up_r (by decide)).trans y.rl, (up_r (by decide)).trans y.lk, up_s, (up_r (by decide)).trans y.dn, fun i x hx => (up_r (by decide)).trans (y.re i x hx), fun k hk => (y.rg k hk).up (by decide), fun t ht => (y.rs t ht).up (by decide), fun i t ht => (y.ms i t ht).up (by decide)⟩
theorem nPr.s_dn {A : Nat → Nat → Int32} {p : Nat} {P : Pr} (y : nPr A p P) (x : Int32) : nPr (up A 14 p x) p (sDn P x) := ⟨(up_r (by decide)).trans y.st, (up_r (by decide)).trans y.pl, (up_r (by decide)).trans y.mk, (up_r (by decide)).trans y.ml, (up_r (by decide)).trans y.rl, (up_r (by decide)).trans y.lk, (up_r (by decide)).trans y.tr, up_s, fun i x hx => (up_r (by decide)).trans (y.re i x hx), fun k hk => (y.rg k hk).up (by decide), fun t ht => (y.rs t ht).up (by decide), fun i t ht => (y.ms i t ht).up (by decide)⟩
theorem nPr.s_rg {A A' : Nat → Nat → Int32} {p k : Nat} {P : Pr} {t : Tm} (y : nPr A p P) (v : vL P) (hk : k < 8) (e : Tb (21 * p + k) A A') (q : SL A' (21 * p + k) (tF t)) : nPr A' p (sRg P k t) := by
  refine ⟨(e.r (by decide)).trans y.st, (e.r (by decide)).trans y.pl, (e.r (by decide)).trans y.mk, (e.r (by decide)).trans y.ml, (e.r (by decide)).trans y.rl, (e.r (by decide)).trans y.lk, (e.r (by decide)).trans y.tr, (e.r (by decide)).trans y.dn, fun i x hx => (e.r (by decide)).trans (y.re i x hx), fun m hm => ?_, fun u hu => (y.rs u hu).tb (v.2.2.2 u hu) e (by omega), fun i u hu => (y.ms i u hu).tb (v.2.2.1.2 u (mem_gi hu)) e (by omega)⟩
  show SL A' (21 * p + m) (tF (va_up (pRg P) k t m))
  by_cases h : m = k
  · subst h; rw [va_up_self]; exact q
  · rw [va_up_ne _ _ h]; exact (y.rg m hm).tb (v.1 m) e (by omega)
theorem nPr.s_rs {A A' : Nat → Nat → Int32} {p : Nat} {P : Pr} {t : Tm} (y : nPr A p P) (v : vL P) (e : Tb (21 * p + 8) A A') (q : SL A' (21 * p + 8) (tF t)) : nPr A' p (sRs P (some t)) := by
  refine ⟨(e.r (by decide)).trans y.st, (e.r (by decide)).trans y.pl, (e.r (by decide)).trans y.mk, (e.r (by decide)).trans y.ml, (e.r (by decide)).trans y.rl, (e.r (by decide)).trans y.lk, (e.r (by decide)).trans y.tr, (e.r (by decide)).trans y.dn, fun i x hx => (e.r (by decide)).trans (y.re i x hx), fun m hm => (y.rg m hm).tb (v.1 m) e (by omega), fun u hu => ?_, fun i u hu => (y.ms i u hu).tb (v.2.2.1.2 u (mem_gi hu)) e (by omega)⟩
  cases hu
  exact q
/-- a message is put behind the others -/
theorem nPr.s_ms {A A' : Nat → Nat → Int32} {p n : Nat} {P : Pr} {t : Tm} (y : nPr A p P) (v : vL P) (hn : (pMs P).length = n) (e : Tb (21 * p + 9 + n) A A') (q : SL A' (21 * p + 9 + n) (tF t)) : nPr (up A' 9 p (nI (n + 1))) p (sMs P (pMs P ++ [t])) := by
  have hl : (pMs P ++ [t]).length = n + 1 := by rw [List.length_append, hn]; rfl
  refine ⟨((up_r (by decide)).trans (e.r (by decide))).trans y.st, ((up_r (by decide)).trans (e.r (by decide))).trans y.pl, ((up_r (by decide)).trans (e.r (by decide))).trans y.mk, by show up A' 9 p (nI (n + 1)) 9 p = nI (pMs P ++ [t]).length; rw [up_s, hl], ((up_r (by decide)).trans (e.r (by decide))).trans y.rl, ((up_r (by decide)).trans (e.r (by decide))).trans y.lk, ((up_r (by decide)).trans (e.r (by decide))).trans y.tr, ((up_r (by decide)).trans (e.r (by decide))).trans y.dn, fun i x hx => ((up_r (by decide)).trans (e.r (by decide))).trans (y.re i x hx), fun m hm => ((y.rg m hm).tb (v.1 m) e (by omega)).up (by decide), fun u hu => ((y.rs u hu).tb (v.2.2.2 u hu) e (by omega)).up (by decide), fun i u hu => ?_⟩
  have hu : (pMs P ++ [t])[i]? = some u := hu
  by_cases h : i = n
  · subst h
    rw [List.getElem?_append_right (by omega), hn, Nat.sub_self] at hu
    cases hu
    exact q.up (by decide)
  · have hi := (List.getElem?_eq_some_iff.mp hu).1
    rw [List.getElem?_append_left (by omega)] at hu
    exact ((y.ms i u hu).tb (v.2.2.1.2 u (mem_gi hu)) e (by omega)).up (by decide)
def nCd (A : Nat → Nat → Int32) (l : List (Nat × Int32 × Int32 × Int32)) : Prop := ∀ i q, l[i]? = some q → A 1 i = nI q.1 ∧ A 2 i = q.2.1 ∧ A 3 i = q.2.2.1 ∧ A 4 i = q.2.2.2
def nQu (A : Nat → Nat → Int32) (l : List Nat) : Prop := A 0 17 = nI l.length ∧ ∀ i x, l[i]? = some x → A 15 i = nI x
/-- the table A says the host σ; it has used u of the turn -/
def NR (A : Nat → Nat → Int32) (σ : Ho) (u : Nat) : Prop := (A 0 0 = oQt σ ∧ A 0 1 = nI (oCd σ).length ∧ A 0 7 = nI (oCt σ) ∧ A 0 19 = nI u) ∧ nCd A (oCd σ) ∧ nQu A (oQu σ) ∧ ∀ p, p < oCt σ → nPr A p (oPr σ p)
/-- only process p and what says nothing has changed -/
def Chp (p : Nat) (A A' : Nat → Nat → Int32) : Prop := ∀ j i, ¬ own p j i → ¬ fre j i → A' j i = A j i
theorem Chp.rf (p : Nat) (A : Nat → Nat → Int32) : Chp p A A := fun _ _ _ _ => rfl
theorem Chp.tr {p : Nat} {A B C : Nat → Nat → Int32} (a : Chp p A B) (b : Chp p B C) : Chp p A C := fun j i h1 h2 => (b j i h1 h2).trans (a j i h1 h2)
theorem Chp.up {p j i : Nat} {v : Int32} {A B : Nat → Nat → Int32} (a : Chp p A B) (h : own p j i ∨ fre j i) : Chp p A (up B j i v) := fun j' i' h1 h2 => (up_n (fun z => h.elim (fun w => h1 (by rw [z.1, z.2]; exact w)) (fun w => h2 (by rw [z.1, z.2]; exact w)))).trans (a j' i' h1 h2)
theorem Chp.tb {p k : Nat} {A B C : Nat → Nat → Int32} (a : Chp p A B) (hk : k < 21) (e : Tb (21 * p + k) B C) : Chp p A C := fun j i h1 h2 => (e j i (fun z => h1 (Or.inl ⟨z.1, by omega, by omega⟩))).trans (a j i h1 h2)
theorem Chp.tw {p s : Nat} {A B C : Nat → Nat → Int32} (a : Chp p A B) (hs : 252 ≤ s) (e : Tb s B C) : Chp p A C := fun j i h1 h2 => (e j i (fun z => h2 (Or.inl ⟨z.1, by omega⟩))).trans (a j i h1 h2)
theorem own_ne {p q j i : Nat} (h : p ≠ q) (a : own p j i) : ¬ own q j i := fun b => by
  unfold own at a b
  omega
theorem own_fre {p j i : Nat} (hp : p < 12) (a : own p j i) : ¬ fre j i := fun b => by
  unfold own at a
  unfold fre at b
  omega
theorem NR.setP {A A' : Nat → Nat → Int32} {σ : Ho} {u p : Nat} {P' : Pr} (y : NR A σ u) (v : vLs σ) (e : Chp p A A') (q : nPr A' p P') : NR A' (sPr σ p P') u := by
  have e0 : ∀ k, A' 0 k = A 0 k := fun k => e 0 k (fun z => by unfold own at z; omega) (fun z => by unfold fre at z; omega)
  have e1 : ∀ j i, (j = 1 ∨ j = 2 ∨ j = 3 ∨ j = 4 ∨ j = 15) → A' j i = A j i := fun j i hj => e j i (fun z => by unfold own at z; omega) (fun z => by unfold fre at z; omega)
  refine ⟨⟨(e0 0).trans y.1.1, (e0 1).trans y.1.2.1, (e0 7).trans y.1.2.2.1, (e0 19).trans y.1.2.2.2⟩, fun i q hq => ?_, ⟨(e0 17).trans y.2.2.1.1, fun i x hx => (e1 15 i (by decide)).trans (y.2.2.1.2 i x hx)⟩, fun x hx => ?_⟩
  · have := y.2.1 i q hq
    exact ⟨(e1 1 i (by decide)).trans this.1, (e1 2 i (by decide)).trans this.2.1, (e1 3 i (by decide)).trans this.2.2.1, (e1 4 i (by decide)).trans this.2.2.2⟩
  · show nPr A' x (va_up (oPr σ) p P' x)
    by_cases h : x = p
    · rw [h, va_up_self]; exact q
    · rw [va_up_ne _ _ h]
      have hx12 : x < 12 := Nat.lt_of_lt_of_le hx v.1
      exact (y.2.2.2 x hx).eqv (v.2 x hx) (fun j i ho => e j i (own_ne h ho) (own_fre hx12 ho))
/-- what says nothing has changed -/
theorem NR.fr {A A' : Nat → Nat → Int32} {σ : Ho} {u : Nat} (y : NR A σ u) (v : vLs σ) (e : ∀ j i, ¬ fre j i → A' j i = A j i) : NR A' σ u := by
  have e0 : ∀ k, A' 0 k = A 0 k := fun k => e 0 k (fun z => by unfold fre at z; omega)
  have e1 : ∀ j i, (j = 1 ∨ j = 2 ∨ j = 3 ∨ j = 4 ∨ j = 15) → A' j i = A j i := fun j i hj => e j i (fun z => by unfold fre at z; omega)
  refine ⟨⟨(e0 0).trans y.1.1, (e0 1).trans y.1.2.1, (e0 7).trans y.1.2.2.1, (e0 19).trans y.1.2.2.2⟩, fun i q hq => ?_, ⟨(e0 17).trans y.2.2.1.1, fun i x hx => (e1 15 i (by decide)).trans (y.2.2.1.2 i x hx)⟩, fun x hx => ?_⟩
  · have := y.2.1 i q hq
    exact ⟨(e1 1 i (by decide)).trans this.1, (e1 2 i (by decide)).trans this.2.1, (e1 3 i (by decide)).trans this.2.2.1, (e1 4 i (by decide)).trans this.2.2.2⟩
  · have hx12 : x < 12 := Nat.lt_of_lt_of_le hx v.1
    exact (y.2.2.2 x hx).eqv (v.2 x hx) (fun j i ho => e j i (own_fre hx12 ho))
theorem NR.tw {s : Nat} {A A' : Nat → Nat → Int32} {σ : Ho} {u : Nat} (y : NR A σ u) (v : vLs σ) (hs : 252 ≤ s) (e : Tb s A A') : NR A' σ u := y.fr v (fun j i h => e j i (fun z => h (Or.inl ⟨z.1, by omega⟩)))
/-- the queue changes, and the turn -/
theorem NR.setQ {A A' : Nat → Nat → Int32} {σ : Ho} {u u' : Nat} {l : List Nat} (y : NR A σ u) (v : vLs σ) (e : ∀ j i, ¬ (j = 15 ∨ j = 0 ∧ (i = 17 ∨ i = 19)) → A' j i = A j i) (hu : A' 0 19 = nI u') (q : nQu A' l) : NR A' (sQu σ l) u' := by
  have e0 : ∀ k, ¬ (k = 17 ∨ k = 19) → A' 0 k = A 0 k := fun k hk => e 0 k (fun z => by omega)
  have e1 : ∀ j i, ¬ (j = 0 ∨ j = 15) → A' j i = A j i := fun j i hj => e j i (fun z => by omega)
  refine ⟨⟨(e0 0 (by decide)).trans y.1.1, (e0 1 (by decide)).trans y.1.2.1, (e0 7 (by decide)).trans y.1.2.2.1, hu⟩, fun i q hq => ?_, q, fun x hx => ?_⟩
  · have := y.2.1 i q hq
    exact ⟨(e1 1 i (by decide)).trans this.1, (e1 2 i (by decide)).trans this.2.1, (e1 3 i (by decide)).trans this.2.2.1, (e1 4 i (by decide)).trans this.2.2.2⟩
  · exact (y.2.2.2 x hx).eqv (v.2 x hx) (fun j i ho => e j i (fun z => by unfold own at ho; omega))
