/-! One operation, in the model. -/
def tF : Tm → List (Int32 × Int32)
  | .leaf q => [q]
  | .branch k l r => (nI k, 0) :: (tF l ++ tF r)
theorem tF_dec : ∀ (t u : Tm) (x y : List (Int32 × Int32)), tOk t → tOk u → tF t ++ x = tF u ++ y → t = u ∧ x = y
  | .leaf q, .leaf s, x, y, _, _, h => by
    simp only [tF, List.cons_append, List.nil_append, List.cons.injEq] at h
    exact ⟨by rw [h.1], h.2⟩
  | .leaf q, .branch k l r, x, y, ht, hu, h => by
    simp only [tF, List.cons_append, List.nil_append, List.cons.injEq] at h
    exact absurd (by rw [h.1]) (tOk_apart ht hu)
  | .branch k l r, .leaf q, x, y, ht, hu, h => by
    simp only [tF, List.cons_append, List.nil_append, List.cons.injEq] at h
    exact absurd (by rw [← h.1]) (tOk_apart hu ht)
  | .branch k l r, .branch k2 l2 r2, x, y, ht, hu, h => by
    simp only [tF, List.cons_append, List.cons.injEq, List.append_assoc, Prod.mk.injEq] at h
    obtain ⟨e1, e2⟩ := tF_dec l l2 _ _ ht.2.1 hu.2.1 h.2
    obtain ⟨e3, e4⟩ := tF_dec r r2 _ _ ht.2.2 hu.2.2 e2
    have hk : k = k2 := nI_inj (by rcases ht.1 with rfl | rfl <;> decide) (by rcases hu.1 with rfl | rfl <;> decide) h.1.1
    exact ⟨by rw [hk, e1, e3], e4⟩
theorem tF_inj {t u : Tm} (ht : tOk t) (hu : tOk u) : t = u ↔ tF t = tF u := ⟨fun h => by rw [h], fun h => (tF_dec t u [] [] ht hu (by rw [h])).1⟩
def cl (x : Int32) : Nat := x.toNatClampNeg
theorem cl_nI {n : Nat} (h : n < 2 ^ 31) : cl (nI n) = n := nI_clamp h
/-- the process that a term names -/
def pidM (σ : Ho) (t : Tm) : Option Nat := if tS t = 2 ∧ ¬ tN t < 0 ∧ tN t < nI (oCt σ) then some (cl (tN t)) else none
theorem pidM_some {σ : Ho} {t : Tm} {q : Nat} (hc : oCt σ ≤ 12) (h : pidM σ t = some q) : tS t = 2 ∧ q < oCt σ ∧ tN t = nI q := by
  unfold pidM at h
  split at h
  · rename_i h1
    cases h
    obtain ⟨j, hj, e⟩ := nI_of h1.2.1
    rw [e] at h1
    have := (nI_ltI hj (by omega)).mp h1.2.2
    rw [e, cl_nI hj]
    exact ⟨h1.1, this, rfl⟩
  · cases h
theorem pidM_none {σ : Ho} {t : Tm} (hc : oCt σ ≤ 12) (h : pidM σ t = none) : ¬ tS t = 2 ∨ tN t < 0 ∨ nI (oCt σ) ≤ tN t := by
  unfold pidM at h
  split at h
  · cases h
  · rename_i h1
    by_cases a : tS t = 2
    · right
      by_cases b : tN t < 0
      · exact Or.inl b
      · right
        obtain ⟨j, hj, e⟩ := nI_of b
        rw [e] at h1 ⊢
        refine nI_le ?_ hj
        exact Nat.le_of_not_lt (fun z => h1 ⟨a, nI_pos hj, nI_lt z (by omega)⟩)
    · exact Or.inl a
def performM (σ : Ho) (p o : Nat) (a b c : Int32) : Option Ho := match o with
  | 0 => some (sPr σ p (sRg (oPr σ p) (cl a) (.leaf (0, b))))
  | 1 => some (sPr σ p (sRg (oPr σ p) (cl a) (.leaf (1, b))))
  | 2 => some (sPr σ p (sRg (oPr σ p) (cl a) (pRg (oPr σ p) (cl b))))
  | 3 => some (sPr σ p (sRg (oPr σ p) (cl a) (.leaf (2, nI p))))
  | 4 => some (sPr σ p (sRg (oPr σ p) (cl a) nilT))
  | 5 => if 15 < 1 + tW (pRg (oPr σ p) (cl b)) + tW (pRg (oPr σ p) (cl c)) then none else some (sPr σ p (sRg (oPr σ p) (cl a) (.branch 4 (pRg (oPr σ p) (cl b)) (pRg (oPr σ p) (cl c)))))
  | 6 => if 15 < 1 + tW (pRg (oPr σ p) (cl b)) + tW (pRg (oPr σ p) (cl c)) then none else some (sPr σ p (sRg (oPr σ p) (cl a) (.branch 5 (pRg (oPr σ p) (cl b)) (pRg (oPr σ p) (cl c)))))
  | 7 => (match pRg (oPr σ p) (cl b) with
    | .leaf _ => none
    | .branch _ l _ => some (sPr σ p (sRg (oPr σ p) (cl a) l)))
  | 8 => (match pRg (oPr σ p) (cl b) with
    | .leaf _ => none
    | .branch _ _ r => some (sPr σ p (sRg (oPr σ p) (cl a) r)))
  | 9 => if tS (pRg (oPr σ p) (cl b)) = 0 ∧ tS (pRg (oPr σ p) (cl c)) = 0 then some (sPr σ p (sRg (oPr σ p) (cl a) (.leaf (0, tN (pRg (oPr σ p) (cl b)) + tN (pRg (oPr σ p) (cl c)))))) else none
  | 10 => if tS (pRg (oPr σ p) (cl b)) = 0 ∧ tS (pRg (oPr σ p) (cl c)) = 0 then some (sPr σ p (sRg (oPr σ p) (cl a) (.leaf (0, tN (pRg (oPr σ p) (cl b)) - tN (pRg (oPr σ p) (cl c)))))) else none
  | 11 => if tS (pRg (oPr σ p) (cl a)) = 0 ∧ tS (pRg (oPr σ p) (cl b)) = 0 then some (if tN (pRg (oPr σ p) (cl a)) < tN (pRg (oPr σ p) (cl b)) then σ else sPr σ p (sPl (oPr σ p) (cl c))) else none
  | 12 => some (if tF (pRg (oPr σ p) (cl a)) = tF (pRg (oPr σ p) (cl b)) then σ else sPr σ p (sPl (oPr σ p) (cl c)))
  | 13 => some (if tS (pRg (oPr σ p) (cl a)) = b then σ else sPr σ p (sPl (oPr σ p) (cl c)))
  | 14 => some (sPr σ p (sPl (oPr σ p) (cl a)))
  | 15 => if 6 ≤ (pRe (oPr σ p)).length then none else some (sPr σ p (sPl (sRe (oPr σ p) (pRe (oPr σ p) ++ [pPl (oPr σ p)])) (cl a)))
  | 16 => (match (pRe (oPr σ p)).getLast? with
    | none => some (endM σ p aNormal)
    | some x => some (sPr σ p (sPl (sRe (oPr σ p) (pRe (oPr σ p)).dropLast) x)))
  | 17 => (match pidM σ (pRg (oPr σ p) (cl a)) with
    | none => none
    | some q => some (deliverM σ q (pRg (oPr σ p) (cl b))))
  | 18 => (match (pMs (oPr σ p))[pMk (oPr σ p)]? with
    | some t => some (sPr σ p (sRg (oPr σ p) (cl a) t))
    | none => some (sPr σ p (sPl (oPr σ p) (cl b))))
  | 19 => if pMk (oPr σ p) < (pMs (oPr σ p)).length then some (sPr σ p (sMk (sMs (oPr σ p) ((pMs (oPr σ p)).eraseIdx (pMk (oPr σ p)))) 0)) else none
  | 20 => some (sPr σ p (sPl (sMk (oPr σ p) (pMk (oPr σ p) + 1)) (cl a)))
  | 21 => if pMk (oPr σ p) < (pMs (oPr σ p)).length then some (sPr σ p (sPl (oPr σ p) (cl a))) else some (sPr (suspendM σ p) p (sPl (oPr (suspendM σ p) p) (cl a)))
  | 22 => if 12 ≤ oCt σ then none else some (spawnM σ p (cl a) (cl b) (pRg (oPr σ p) (cl c)))
  | 23 => (match pidM σ (pRg (oPr σ p) (cl a)) with
    | none => none
    | some q => some (linkM σ p q))
  | 24 => some (sPr σ p (sTr (oPr σ p) (a == 1)))
  | 25 => some (endM σ p (pRg (oPr σ p) (cl a)))
  | 26 => (match pidM σ (pRg (oPr σ p) (cl a)) with
    | none => none
    | some q => some (sigM FU σ p q aKilled))
  | _ => none
/-- how many cells it takes -/
def performC (σ : Ho) (p o : Nat) (a b c : Int32) : Nat := match o with
  | 0 => 1
  | 5 => 1
  | 6 => 1
  | 9 => 1
  | 10 => 1
  | 16 => (match (pRe (oPr σ p)).getLast? with
    | none => 2 * endC σ p aNormal
    | some _ => 0)
  | 23 => (match pidM σ (pRg (oPr σ p) (cl a)) with
    | none => 0
    | some q => 2 * linkC σ p q)
  | 25 => 2 * endC σ p (pRg (oPr σ p) (cl a))
  | 26 => (match pidM σ (pRg (oPr σ p) (cl a)) with
    | none => 0
    | some q => 2 * sigC FU σ p q aKilled)
  | _ => 0
/-- what an operation needs of its numbers -/
def vIns (o : Nat) (a b c : Int32) : Prop := match o with
  | 0 => ∃ i, i < 8 ∧ a = nI i
  | 1 => (∃ i, i < 8 ∧ a = nI i) ∧ ∃ j, j < 16 ∧ b = nI j
  | 2 => (∃ i, i < 8 ∧ a = nI i) ∧ ∃ j, j < 8 ∧ b = nI j
  | 3 => ∃ i, i < 8 ∧ a = nI i
  | 4 => ∃ i, i < 8 ∧ a = nI i
  | 5 => (∃ i, i < 8 ∧ a = nI i) ∧ (∃ j, j < 8 ∧ b = nI j) ∧ ∃ k, k < 8 ∧ c = nI k
  | 6 => (∃ i, i < 8 ∧ a = nI i) ∧ (∃ j, j < 8 ∧ b = nI j) ∧ ∃ k, k < 8 ∧ c = nI k
  | 7 => (∃ i, i < 8 ∧ a = nI i) ∧ ∃ j, j < 8 ∧ b = nI j
  | 8 => (∃ i, i < 8 ∧ a = nI i) ∧ ∃ j, j < 8 ∧ b = nI j
  | 9 => (∃ i, i < 8 ∧ a = nI i) ∧ (∃ j, j < 8 ∧ b = nI j) ∧ ∃ k, k < 8 ∧ c = nI k
  | 10 => (∃ i, i < 8 ∧ a = nI i) ∧ (∃ j, j < 8 ∧ b = nI j) ∧ ∃ k, k < 8 ∧ c = nI k
  | 11 => (∃ i, i < 8 ∧ a = nI i) ∧ (∃ j, j < 8 ∧ b = nI j) ∧ ∃ k, k < 48 ∧ c = nI k
  | 12 => (∃ i, i < 8 ∧ a = nI i) ∧ (∃ j, j < 8 ∧ b = nI j) ∧ ∃ k, k < 48 ∧ c = nI k
  | 13 => (∃ i, i < 8 ∧ a = nI i) ∧ (∃ j, j < 6 ∧ b = nI j) ∧ ∃ k, k < 48 ∧ c = nI k
  | 14 => ∃ i, i < 48 ∧ a = nI i
  | 15 => ∃ i, i < 48 ∧ a = nI i
  | 16 => True
  | 17 => (∃ i, i < 8 ∧ a = nI i) ∧ ∃ j, j < 8 ∧ b = nI j
  | 18 => (∃ i, i < 8 ∧ a = nI i) ∧ ∃ j, j < 48 ∧ b = nI j
  | 19 => True
  | 20 => ∃ i, i < 48 ∧ a = nI i
  | 21 => ∃ i, i < 48 ∧ a = nI i
  | 22 => (∃ i, i < 8 ∧ a = nI i) ∧ (∃ j, j < 48 ∧ b = nI j) ∧ ∃ k, k < 8 ∧ c = nI k
  | 23 => ∃ i, i < 8 ∧ a = nI i
  | 24 => True
  | 25 => ∃ i, i < 8 ∧ a = nI i
  | 26 => ∃ i, i < 8 ∧ a = nI i
  | _ => False
