/-! The reference: its cells as one table of numbers over a fixed heap. -/
/-- the fields that are numbers -/
def nsc (k : Nat) : Bool := k == 0 || k == 1 || k == 7 || k == 17 || k == 19
/-- where a field's array lies, from the object on -/
def nad (k : Nat) : Nat := if k < 7 then k - 1 else if k < 17 then k - 2 else if k = 18 then 15 else k - 4
def nsz (j : Nat) : Nat := if j < 5 then 48 else if j = 5 then 8128 else if j = 11 then 72 else if j < 16 then 12 else 13
def nty (j : Nat) : Nat := if j = 13 then 4 else 1
/-- the heap h with the reference at r, whose numbers are A: row 0 its fields, row j the array at r + j -/
def ov (r : Nat) (h : th_H) (A : Nat → Nat → Int32) : th_H := (gk h, fun c k a => if c = 8 ∧ a = r ∧ nsc k = true then .int (A 0 k) else gF h c k a, fun t a i => if r < a ∧ a < r + 18 ∧ t = nty (a - r) then .int (A (a - r) i) else gA h t a i, gz h)
def up (A : Nat → Nat → Int32) (j i : Nat) (v : Int32) : Nat → Nat → Int32 := fun j' i' => if j' = j ∧ i' = i then v else A j' i'
theorem up_s {A : Nat → Nat → Int32} {j i : Nat} {v : Int32} : up A j i v j i = v := by simp [up]
theorem up_n {A : Nat → Nat → Int32} {j i j' i' : Nat} {v : Int32} (h : ¬ (j' = j ∧ i' = i)) : up A j i v j' i' = A j' i' := if_neg h
theorem up_r {A : Nat → Nat → Int32} {j i j' i' : Nat} {v : Int32} (h : j' ≠ j) : up A j i v j' i' = A j' i' := if_neg (fun z => h z.1)
theorem ov_k {r : Nat} {h : th_H} {A : Nat → Nat → Int32} : gk (ov r h A) = gk h := id rfl
theorem ov_z {r : Nat} {h : th_H} {A : Nat → Nat → Int32} : gz (ov r h A) = gz h := id rfl
theorem ov_F (r : Nat) (h : th_H) (A : Nat → Nat → Int32) (c k a : Nat) : gF (ov r h A) c k a = if c = 8 ∧ a = r ∧ nsc k = true then .int (A 0 k) else gF h c k a := id rfl
theorem ov_A (r : Nat) (h : th_H) (A : Nat → Nat → Int32) (t a i : Nat) : gA (ov r h A) t a i = if r < a ∧ a < r + 18 ∧ t = nty (a - r) then .int (A (a - r) i) else gA h t a i := id rfl
theorem ov_s {r : Nat} {h : th_H} {A : Nat → Nat → Int32} {k : Nat} (hk : nsc k = true) : gF (ov r h A) 8 k r = .int (A 0 k) := by rw [ov_F, if_pos ⟨rfl, rfl, hk⟩]
theorem ov_n {r : Nat} {h : th_H} {A : Nat → Nat → Int32} {k : Nat} (hk : nsc k = false) : gF (ov r h A) 8 k r = gF h 8 k r := by rw [ov_F, if_neg (fun z => by rw [hk] at z; exact absurd z.2.2 (by decide))]
theorem ov_a {r : Nat} {h : th_H} {A : Nat → Nat → Int32} {j i : Nat} (h0 : 0 < j) (h1 : j < 18) : gA (ov r h A) (nty j) (r + j) i = .int (A j i) := by rw [ov_A, show r + j - r = j by omega, if_pos ⟨by omega, by omega, rfl⟩]
theorem ov_pA {r : Nat} {h : th_H} {A : Nat → Nat → Int32} {j i : Nat} {v : Int32} (h0 : 0 < j) (h1 : j < 18) : gpA (ov r h A) (nty j) (r + j) i (.int v) = ov r h (up A j i v) := by
  unfold gpA
  refine Prod.ext rfl (Prod.ext ?_ (Prod.ext ?_ rfl))
  · funext c k a
    show gF (ov r h A) c k a = gF (ov r h (up A j i v)) c k a
    rw [ov_F, ov_F, up_r (by omega)]
  · funext t a i'
    show up3 _ _ _ _ _ _ _ _ = gA (ov r h (up A j i v)) t a i'
    rw [ov_A]
    show (if _ then _ else gA (ov r h A) t a i') = _
    rw [ov_A]
    by_cases h2 : r < a ∧ a < r + 18 ∧ t = nty (a - r)
    · simp only [if_pos h2, up]
      by_cases h3 : a - r = j ∧ i' = i
      · rw [if_pos h3, if_pos ⟨by rw [h2.2.2, h3.1], by omega, h3.2⟩]
      · rw [if_neg h3, if_neg (fun z => h3 ⟨by omega, z.2.2⟩)]
    · simp only [if_neg h2]
      rw [if_neg (fun z => h2 ⟨by omega, by omega, by rw [z.1, show a - r = j by omega]⟩)]
theorem ov_pF {r : Nat} {h : th_H} {A : Nat → Nat → Int32} {k : Nat} {v : Int32} (hk : nsc k = true) : gpF (ov r h A) 8 k r (.int v) = ov r h (up A 0 k v) := by
  unfold gpF
  refine Prod.ext rfl (Prod.ext ?_ (Prod.ext ?_ rfl))
  · funext c k' a
    show up3 _ _ _ _ _ _ _ _ = gF (ov r h (up A 0 k v)) c k' a
    rw [ov_F]
    show (if _ then _ else gF (ov r h A) c k' a) = _
    rw [ov_F]
    by_cases h2 : c = 8 ∧ a = r ∧ nsc k' = true
    · simp only [if_pos h2, up]
      by_cases h3 : k' = k
      · rw [if_pos ⟨h2.1, h3, h2.2.1⟩, if_pos ⟨trivial, h3⟩]
      · rw [if_neg (fun z => h3 z.2.1), if_neg (fun z => h3 z.2)]
    · simp only [if_neg h2]
      rw [if_neg (fun z => h2 ⟨z.1, z.2.2, by rw [z.2.1]; exact hk⟩)]
  · funext t a i'
    show gA (ov r h A) t a i' = gA (ov r h (up A 0 k v)) t a i'
    rw [ov_A, ov_A]
    by_cases h2 : r < a ∧ a < r + 18 ∧ t = nty (a - r)
    · rw [if_pos h2, if_pos h2, up_r (by omega)]
    · rw [if_neg h2, if_neg h2]
/-- the reference's cells and their kinds -/
def NL (r : Nat) (h : th_H) : Prop := gk h r = some (.inl 8) ∧ (∀ k, k < 22 → nsc k = false → gF h 8 k r = .ref (r + nad k)) ∧ ∀ j, 0 < j → j < 18 → gk h (r + j) = some (.inr (nty j, nsz j))
theorem NL.o {r : Nat} {h : th_H} (nl : NL r h) {A : Nat → Nat → Int32} : gk (ov r h A) r = some (.inl 8) := nl.1
section NV
variable {E : th_E} {M : th_M} {d cz cs pc : Nat} {L : List (Option Value)} {S : List Value} {h : th_H} {Post : Option Value → th_H → Prop} {r : Nat} {A : Nat → Nat → Int32}
theorem n_fld {idx k j : Nat} (hd : decode M.2.1 pc = .ok (.getfield idx, 3)) (lk : th_lf M.1.cls idx 8 k) (nl : NL r h) (hk : k < 22) (hs : nsc k = false) (hj : nad k = j) (kk : Xw E M d cz cs (pc + 3) L (.ref (r + j) :: S) (ov r h A) Post) : Xw E M d cz cs pc L (.ref r :: S) (ov r h A) Post := x_getf hd lk nl.o ((ov_n hs).trans (by rw [nl.2.1 k hk hs, hj])) kk
theorem n_get {idx k : Nat} {v : Int32} (hd : decode M.2.1 pc = .ok (.getfield idx, 3)) (lk : th_lf M.1.cls idx 8 k) (nl : NL r h) (hs : nsc k = true) (hv : A 0 k = v) (kk : Xw E M d cz cs (pc + 3) L (.int v :: S) (ov r h A) Post) : Xw E M d cz cs pc L (.ref r :: S) (ov r h A) Post := x_getf hd lk nl.o ((ov_s hs).trans (by rw [hv])) kk
theorem n_put {idx k : Nat} {v : Int32} (hd : decode M.2.1 pc = .ok (.putfield idx, 3)) (lk : th_lp M.1.cls idx 8 k 0) (nl : NL r h) (hs : nsc k = true) (kk : Xw E M d cz cs (pc + 3) L S (ov r h (up A 0 k v)) Post) : Xw E M d cz cs pc L (.int v :: .ref r :: S) (ov r h A) Post := x_putf hd lk nl.o ⟨_, rfl⟩ (by rw [ov_pF hs]; exact kk)
theorem n_ld {j i n : Nat} {v : Int32} (hd : decode M.2.1 pc = .ok (.iaload, 1)) (nl : NL r h) (h0 : 0 < j) (h1 : j < 18) (ht : nty j = 1) (hn : nsz j = n) (hi : i < n) (h31 : n < 2 ^ 31) (hv : A j i = v) (kk : Xw E M d cz cs (pc + 1) L (.int v :: S) (ov r h A) Post) : Xw E M d cz cs pc L (.int (nI i) :: .ref (r + j) :: S) (ov r h A) Post :=
  x_iald (t := 1) (n := n) hd (by have := nl.2.2 j h0 h1; rw [ht, hn] at this; exact this) rfl (vp_in_nI hi h31) (by rw [nI_cl (by omega), ← ht, ov_a h0 h1, hv]) kk
theorem n_st {j i n : Nat} {v : Int32} (hd : decode M.2.1 pc = .ok (.iastore, 1)) (nl : NL r h) (h0 : 0 < j) (h1 : j < 18) (ht : nty j = 1) (hn : nsz j = n) (hi : i < n) (h31 : n < 2 ^ 31) (kk : Xw E M d cz cs (pc + 1) L S (ov r h (up A j i v)) Post) : Xw E M d cz cs pc L (.int v :: .int (nI i) :: .ref (r + j) :: S) (ov r h A) Post :=
  x_iast (t := 0) (n := n) hd (by have := nl.2.2 j h0 h1; rw [ht, hn] at this; exact this) rfl (vp_in_nI hi h31) (by rw [nI_cl (by omega), show 0 + 1 = nty j from ht.symm, ov_pA h0 h1]; exact kk)
theorem n_zld {i : Nat} {v : Int32} (hd : decode M.2.1 pc = .ok (.baload, 1)) (nl : NL r h) (hi : i < 12) (hv : A 13 i = v) (kk : Xw E M d cz cs (pc + 1) L (.int v :: S) (ov r h A) Post) : Xw E M d cz cs pc L (.int (nI i) :: .ref (r + 13) :: S) (ov r h A) Post :=
  x_zald (t := 3) (n := 12) hd (nl.2.2 13 (by decide) (by decide)) rfl (vp_in_nI hi (by decide)) (by rw [nI_cl (by omega), show 3 + 1 = nty 13 from rfl, ov_a (by decide) (by decide), hv]) kk
theorem n_zst {i : Nat} {v : Int32} (hd : decode M.2.1 pc = .ok (.bastore, 1)) (nl : NL r h) (hi : i < 12) (hv : v = 0 ∨ v = 1) (kk : Xw E M d cz cs (pc + 1) L S (ov r h (up A 13 i v)) Post) : Xw E M d cz cs pc L (.int v :: .int (nI i) :: .ref (r + 13) :: S) (ov r h A) Post :=
  x_zast (t := 3) (n := 12) hd (nl.2.2 13 (by decide) (by decide)) rfl (vp_in_nI hi (by decide)) hv (by rw [nI_cl (by omega), show 3 + 1 = nty 13 from rfl, ov_pA (by decide) (by decide)]; exact kk)
end NV
