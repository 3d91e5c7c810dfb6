/-! Class and reference side by side (printed by wip/gen/mod_mix.py). -/
theorem cLay.fr {o : Nat} {h h' : th_H} (z : cLay o h) (ek : gk h' = gk h) (ef : ∀ c, c < 8 → ∀ k a, gF h' c k a = gF h c k a) (ea : ∀ t a, a < o + 98 → ∀ i, gA h' t a i = gA h t a i) : cLay o h' := by
  have te : TE h h' := fun a q => ⟨by rw [ek]; exact q, fun k => ef 0 (by decide) k a⟩
  obtain ⟨z, y⟩ := z
  refine ⟨⟨by rw [ek]; exact z.kO, by rw [ef _ (by decide) _ _]; exact z.H1, by rw [ef _ (by decide) _ _]; exact z.H2, by rw [ef _ (by decide) _ _]; exact z.H3, by rw [ek]; exact z.kM, by rw [ef _ (by decide) _ _]; exact z.M0, by rw [ef _ (by decide) _ _]; exact z.M1, by rw [ek]; exact z.kG, by rw [ef _ (by decide) _ _]; exact z.G0, by rw [ek]; exact z.kGa, by rw [ek]; exact z.kS, by rw [ef _ (by decide) _ _]; exact z.S0, by rw [ef _ (by decide) _ _]; exact z.S1, by rw [ef _ (by decide) _ _]; exact z.S2, by rw [ef _ (by decide) _ _]; exact z.S3, by rw [ek]; exact z.kT, by rw [ek]; exact z.kL, by rw [ef _ (by decide) _ _]; exact z.L0, by rw [ek]; exact z.kLa, by rw [ek]; exact z.kAt, TR.mono te _ _ z.nil, fun a ha => ⟨by rw [ea _ _ (by omega) _]; exact (z.at a ha).1, TR.mono te _ _ (z.at a ha).2⟩, fun p hp => by rw [ea _ _ (by omega) _]; exact z.tab p hp⟩, fun p hp => ?_⟩
  have y := y p hp
  exact ⟨by rw [ek]; exact y.k, by rw [ef _ (by decide) _ _]; exact y.n, by rw [ef _ (by decide) _ _]; exact y.pid, TR.mono te _ _ y.tp, by rw [ef _ (by decide) _ _]; exact y.rg, by rw [ek]; exact y.kr, by rw [ef _ (by decide) _ _]; exact y.re, by rw [ek]; exact y.kre, by rw [ef _ (by decide) _ _]; exact y.mb, by rw [ek]; exact y.kmb, by rw [ef _ (by decide) _ _]; exact y.ma, by rw [ek]; exact y.kma⟩
theorem CR.fr {o : Nat} {σ : Ho} {h h' : th_H} (z : CR o σ h) (hc : oCt σ ≤ 12) (ek : gk h' = gk h) (ef : ∀ c, c < 8 → ∀ k a, gF h' c k a = gF h c k a) (ea : ∀ t a, a < o + 98 → ∀ i, gA h' t a i = gA h t a i) : CR o σ h' := by
  have te : TE h h' := fun a q => ⟨by rw [ek]; exact q, fun k => ef 0 (by decide) k a⟩
  refine ⟨z.1.fr ek ef ea, ⟨by rw [ef 7 (by decide)]; exact z.2.1.1, by rw [ef 7 (by decide)]; exact z.2.1.2⟩, ⟨by rw [ef 5 (by decide)]; exact z.2.2.1.1, fun i q hq => by rw [ea _ _ (by omega), ea _ _ (by omega), ea _ _ (by omega), ea _ _ (by omega)]; exact z.2.2.1.2 i q hq⟩, ⟨by rw [ef 3 (by decide)]; exact z.2.2.2.1.1, fun i x hx => by rw [ea _ _ (by omega)]; exact z.2.2.2.1.2 i x hx⟩, by rw [ef 4 (by decide)]; exact z.2.2.2.2.1, fun p hp => ?_⟩
  exact (z.2.2.2.2.2 p hp).same te ⟨fun k => ef 2 (by decide) k _, fun k => ef 1 (by decide) k _, fun i => ea _ _ (by omega) i, fun i => ea _ _ (by omega) i, fun i => ea _ _ (by omega) i⟩
theorem ov_F8 {r : Nat} {h : th_H} {A : Nat → Nat → Int32} {c k a : Nat} (hc : c < 8) : gF (ov r h A) c k a = gF h c k a := by rw [ov_F, if_neg (fun z => by omega)]
theorem ov_Alt {r : Nat} {h : th_H} {A : Nat → Nat → Int32} {t a i : Nat} (ha : a ≤ r) : gA (ov r h A) t a i = gA h t a i := by rw [ov_A, if_neg (fun z => by omega)]
theorem nty_0 (j : Nat) : (0 : Nat) ≠ nty j := by unfold nty; split <;> decide
theorem ov_A0 {r : Nat} {h : th_H} {A : Nat → Nat → Int32} {a i : Nat} : gA (ov r h A) 0 a i = gA h 0 a i := by rw [ov_A, if_neg (fun z => nty_0 _ z.2.2)]
theorem CR.ov {o : Nat} {σ : Ho} {h : th_H} {A : Nat → Nat → Int32} (z : CR o σ h) (hc : oCt σ ≤ 12) : CR o σ (ov (o + 98) h A) := z.fr hc ov_k (fun c hc k a => ov_F8 hc) (fun t a ha i => ov_Alt (by omega))
/-- an array that nobody writes -/
def Rd (h : th_H) (b L : Nat) (xs : Nat → Int32) : Prop := gk h b = some (.inr (0, L)) ∧ ∀ i, i < L → gA h 0 b i = .int (xs i)
theorem Rd.ov {h : th_H} {r b L : Nat} {xs : Nat → Int32} {A : Nat → Nat → Int32} (y : Rd h b L xs) : Rd (ov r h A) b L xs := ⟨y.1, fun i hi => by rw [ov_A0]; exact y.2 i hi⟩
theorem Rd.chg {h h' : th_H} {o b L : Nat} {xs : Nat → Int32} (y : Rd h b L xs) (wf : WFh h) (e : Chg o h h') : Rd h' b L xs := ⟨(e.2.1 b (wf _ _ y.1)).trans y.1, fun i hi => (e.2.2.2 0 b i (wf _ _ y.1) (fun z => by omega)).trans (y.2 i hi)⟩
theorem Rd.newO {h h' : th_H} {o b L : Nat} {xs : Nat → Int32} (y : Rd h b L xs) (wf : WFh h) (e : NewO o h h') : Rd h' b L xs := ⟨(e.2.1 b (wf _ _ y.1)).trans y.1, fun i hi => (e.2.2.2 0 b i (wf _ _ y.1)).trans (y.2 i hi)⟩
theorem Rd.new {h h' : th_H} {b L : Nat} {xs : Nat → Int32} (y : Rd h b L xs) (wf : WFh h) (e : New h h') : Rd h' b L xs := y.newO (o := 0) wf (e.to 0)
/-- the class holds σ1, the reference σ2; the script and the limits -/
def IW (o b tl L : Nat) (xs : Nat → Int32) (σ1 σ2 : Ho) (h : th_H) : Prop := CR o σ1 h ∧ (∃ A, ov (o + 98) h A = h ∧ NL (o + 98) h ∧ NR A σ2 (oSp σ2)) ∧ Rd h b L xs ∧ Rd h tl 81 limM
theorem IW.cls {o b tl L : Nat} {xs : Nat → Int32} {σ σ' σ2 : Ho} {h h' : th_H} (iw : IW o b tl L xs σ σ2 h) (wf : WFh h) (z : CR o σ' h') (e : Chg o h h') : IW o b tl L xs σ' σ2 h' := by
  obtain ⟨-, ⟨A, ea, nl, y⟩, rb, rt⟩ := iw
  have hr : o + 98 < gz h := wf _ _ nl.1
  have hj : ∀ j, 0 < j → j < 18 → o + 98 + j < gz h := fun j h1 h2 => wf _ _ (nl.2.2 j h1 h2)
  refine ⟨z, ⟨A, ov_self (fun k hs => ?_) (fun j i h1 h2 => ?_), ⟨(e.2.1 _ hr).trans nl.1, fun k hk hs => ?_, fun j h1 h2 => (e.2.1 _ (hj j h1 h2)).trans (nl.2.2 j h1 h2)⟩, y⟩, rb.chg wf e, rt.chg wf e⟩
  · rw [e.2.2.1 8 k _ hr (fun z => by omega)]
    have := ov_s (r := o + 98) (h := h) (A := A) hs
    rw [ea] at this
    exact this
  · rw [e.2.2.2 _ _ i (hj j h1 h2) (fun z => by omega)]
    have := ov_a (r := o + 98) (h := h) (A := A) (i := i) h1 h2
    rw [ea] at this
    exact this
  · rw [e.2.2.1 8 k _ hr (fun z => by omega)]
    exact nl.2.1 k hk hs
theorem NL.ov {r : Nat} {h : th_H} {A : Nat → Nat → Int32} (nl : NL r h) : NL r (ov r h A) := ⟨nl.1, fun k hk hs => (ov_n hs).trans (nl.2.1 k hk hs), nl.2.2⟩
theorem ov_ov {r : Nat} {h : th_H} {A : Nat → Nat → Int32} : ov r (ov r h A) A = ov r h A := ov_self (fun k hs => ov_s hs) (fun j i h1 h2 => ov_a h1 h2)
theorem IW.ref {o b tl L : Nat} {xs : Nat → Int32} {σ1 σ2 σ3 : Ho} {h : th_H} {A' : Nat → Nat → Int32} (iw : IW o b tl L xs σ1 σ2 h) (hc : oCt σ1 ≤ 12) (y : NR A' σ3 (oSp σ3)) : IW o b tl L xs σ1 σ3 (ov (o + 98) h A') := by
  obtain ⟨z, ⟨A, ea, nl, -⟩, rb, rt⟩ := iw
  exact ⟨z.ov hc, ⟨A', ov_ov, nl.ov, y⟩, rb.ov, rt.ov⟩
section MIX
variable {E : th_E} {M : th_M} {d cz cs : Nat} {as : List Value} {o b tl L : Nat} {xs : Nat → Int32} {σ σ' σ2 : Ho} {h h1 : th_H} {V : Int32}
theorem xH_ex (iw : IW o b tl L xs σ σ2 h) (c : Xc E M d cz cs as h (Ex (some (.int V)) h)) : Xc E M d cz cs as h (fun v h' => v = some (.int V) ∧ IW o b tl L xs σ σ2 h') := c.post (fun v h' p => ⟨p.1, p.2 ▸ iw⟩)
theorem xH_mv (iw : IW o b tl L xs σ σ2 h) (wf : WFh h) (c : Xc E M d cz cs as h (Mv o h (some (.int V)) σ')) : Xc E M d cz cs as h (fun v h' => v = some (.int V) ∧ IW o b tl L xs σ' σ2 h') := c.post (fun v h' p => ⟨p.1, iw.cls wf p.2.1 p.2.2⟩)
theorem xN_ex (iw : IW o b tl L xs σ' σ h1) (c : ∀ A, NL (o + 98) h1 → NR A σ (oSp σ) → Xc E M d 0 0 as (ov (o + 98) h1 A) (Ex (some (.int V)) (ov (o + 98) h1 A))) : Xc E M d 0 0 as h1 (fun v h' => v = some (.int V) ∧ IW o b tl L xs σ' σ h') := by
  obtain ⟨A, ea, nl, y⟩ := iw.2.1
  have := c A nl y
  rw [ea] at this
  exact this.post (fun v h' p => ⟨p.1, p.2 ▸ iw⟩)
theorem xN_nx (hc : oCt σ' ≤ 12) (iw : IW o b tl L xs σ' σ h1) (c : ∀ A, NL (o + 98) h1 → NR A σ (oSp σ) → Xc E M d 0 0 as (ov (o + 98) h1 A) (Nx (o + 98) h1 (some (.int V)) (fun A' => NR A' σ' (oSp σ')))) : Xc E M d 0 0 as h1 (fun v h' => v = some (.int V) ∧ IW o b tl L xs σ' σ' h') := by
  obtain ⟨A, ea, nl, y⟩ := iw.2.1
  have := c A nl y
  rw [ea] at this
  exact this.post (fun v h' p => by
    obtain ⟨p1, A', rfl, p2⟩ := p
    exact ⟨p1, iw.ref hc p2⟩)
end MIX
/-- the two calls answer alike and go on alike -/
def PR (E : th_E) (o b tl L : Nat) (xs : Nat → Int32) (N : Nat) (σ : Ho) (h : th_H) (MH MN : th_M) (as : List Value) : Prop := ∃ (V : Int32) (σ' : Ho) (cz dH dN : Nat), cz ≤ 318 ∧ dH ≤ 55 ∧ dN ≤ 7 ∧ vPs (N + 15) σ' ∧ vCd σ' ∧ Xc E MH dH cz (5 * cz) (.ref o :: as) h (fun v h' => v = some (.int V) ∧ IW o b tl L xs σ' σ h') ∧ ∀ h1, IW o b tl L xs σ' σ h1 → Xc E MN dN 0 0 (.ref (o + 98) :: as) h1 (fun v h' => v = some (.int V) ∧ IW o b tl L xs σ' σ' h')
section PAIRS
variable {E : th_E} {o b tl L : Nat} {xs : Nat → Int32} {N : Nat} {σ : Ho} {h : th_H}
theorem PR_add (iw : IW o b tl L xs σ σ h) (wf : WFh h) (v : vPs N σ) (vc : vCd σ) (hE : E.2.2.2.2 0 = .ref tl) (op a b' c : Int32) : PR E o b tl L xs N σ h m_H_add m_N_add [.int op, .int a, .int b', .int c] := by
  by_cases ok : addOk limM σ op a b' c
  · exact ⟨_, addM σ op a b' c, 0, 2, 2, by decide, by decide, by decide, vPs.mono (N := N) v (by omega), ok.cd vc, xH_mv iw wf (c_H_add iw.1 vc.1 v.1 hE iw.2.2.2.1 iw.2.2.2.2 op a b' c ok), fun h1 iw1 => xN_nx v.1 iw1 (fun A nl y => c_N_add nl y v vc.1 ok)⟩
  · exact ⟨_, σ, 0, 2, 2, by decide, by decide, by decide, v.mono (by omega), vc, xH_ex iw (c_H_add_no iw.1 vc.1 hE iw.2.2.2.1 iw.2.2.2.2 op a b' c ok), fun h1 iw1 => xN_ex iw1 (fun A nl y => c_N_add_no nl y v vc.1 ok)⟩
theorem PR_begin (iw : IW o b tl L xs σ σ h) (wf : WFh h) (v : vPs N σ) (vc : vCd σ) (l n : Int32) : PR E o b tl L xs N σ h m_H_begin m_N_begin [.int l, .int n] := by
  have hno : (l < 0 ∨ 48 ≤ l) → ¬ (nI 0 ≤ l ∧ l ≤ nI 47) := fun z q => by
    have q := (rt_aux (a := nI 47) (b := 48) rfl).mp q
    rcases z with z | z
    · exact q.1 z
    · exact Int32.not_lt.mpr z q.2
  by_cases h0 : l < 0
  · exact ⟨_, σ, 1, 3, 2, by decide, by decide, by decide, v.mono (by omega), vc, xH_ex iw (c_H_begin_neg l n h0), fun h1 iw1 => xN_ex iw1 (fun A nl y => c_N_begin_no nl n (hno (Or.inl h0)))⟩
  by_cases h48 : 48 ≤ l
  · exact ⟨_, σ, 1, 3, 2, by decide, by decide, by decide, v.mono (by omega), vc, xH_ex iw (c_H_begin_big l n h0 h48), fun h1 iw1 => xN_ex iw1 (fun A nl y => c_N_begin_no nl n (hno (Or.inr h48)))⟩
  obtain ⟨j, hj, rfl⟩ := nI_of h0
  have hj48 : j < 48 := Nat.lt_of_not_le (fun z => h48 (nI_le (a := 48) z hj))
  by_cases hf : 12 ≤ oCt σ
  · exact ⟨_, σ, 1, 3, 2, by decide, by decide, by decide, v.mono (by omega), vc, xH_mv iw wf (c_H_begin_full iw.1 v.1 n hj48 hf), fun h1 iw1 => xN_ex iw1 (fun A nl y => c_N_begin_full nl y v n hf)⟩
  · have hf : oCt σ < 12 := by omega
    exact ⟨_, startM σ j (.leaf (0, n)), 1, 3, 2, by decide, by decide, by decide, (v.start hf (by omega) (vIt n)).mono (by omega), vc, xH_mv iw wf (c_H_begin iw.1 v n hj48 hf), fun h1 iw1 => xN_nx (show oCt σ + 1 ≤ 12 by omega) iw1 (fun A nl y => c_N_begin nl y v n hj48 hf)⟩
theorem rng {x : Int32} {n : Nat} (h : ¬ (¬ x < 0 ∧ x < nI n)) : x < 0 ∨ nI n ≤ x := by
  by_cases a : x < 0
  · exact Or.inl a
  · exact Or.inr (Int32.not_lt.mp (fun z => h ⟨a, z⟩))
theorem rng2 {x : Int32} {n : Nat} (hn : n < 2 ^ 31) (h : ¬ x < 0 ∧ x < nI n) : ∃ p, p < n ∧ x = nI p := by
  obtain ⟨j, hj, rfl⟩ := nI_of h.1
  exact ⟨j, (nI_ltI hj hn).mp h.2, rfl⟩
theorem PR_tell (iw : IW o b tl L xs σ σ h) (wf : WFh h) (v : vPs N σ) (vc : vCd σ) (x n : Int32) : PR E o b tl L xs N σ h m_H_tell m_N_tell [.int x, .int n] := by
  have hc := v.1
  by_cases hx : ¬ x < 0 ∧ x < nI (oCt σ)
  · obtain ⟨p, hp, rfl⟩ := rng2 (by omega) hx
    by_cases h3 : pSt (oPr σ p) = 3
    · exact ⟨_, σ, 1, 3, 2, by decide, by decide, by decide, v.mono (by omega), vc, xH_ex iw (c_H_tell_end iw.1 v.1 hp n h3), fun h1 iw1 => xN_ex iw1 (fun A nl y => c_N_tell_end nl y v n hp h3)⟩
    · have dk := deliver_k σ p (.leaf (0, n))
      refine ⟨_, deliverM σ p (.leaf (0, n)), 1, 3, 2, by decide, by decide, by decide, (v.deliver hp (vIt n)).mono (by omega), by unfold vCd; rw [dk.1]; exact vc, xH_mv iw wf (c_H_tell iw.1 v hp n h3), fun h1 iw1 => xN_nx (by rw [deliver_ct]; exact hc) iw1 (fun A nl y => ?_)⟩
      rw [dk.2.2]
      exact c_N_tell nl y v n hp h3
  · exact ⟨_, σ, 1, 3, 2, by decide, by decide, by decide, v.mono (by omega), vc, xH_ex iw (c_H_tell_no iw.1 v.1 x n (rng hx)), fun h1 iw1 => xN_ex iw1 (fun A nl y => c_N_tell_no nl y v n hx)⟩
theorem PR_run (iw : IW o b tl L xs σ σ h) (wf : WFh h) (v : vPs N σ) (vc : vCd σ) (hN : N + 15 < 2 ^ 30) (x : Int32) : PR E o b tl L xs N σ h m_H_run m_N_run [.int x] := by
  by_cases h0 : x < 1
  · exact ⟨_, σ, 0, 55, 7, by decide, by decide, by decide, v.mono (by omega), vc, xH_ex iw (c_H_run_lo x h0), fun h1 iw1 => xN_ex iw1 (fun A nl y => c_N_run_no nl (fun z => absurd h0 (Int32.not_lt.mpr z.1)))⟩
  by_cases h15 : 15 < x
  · exact ⟨_, σ, 0, 55, 7, by decide, by decide, by decide, v.mono (by omega), vc, xH_ex iw (c_H_run_hi x h0 h15), fun h1 iw1 => xN_ex iw1 (fun A nl y => c_N_run_no nl (fun z => absurd h15 (Int32.not_lt.mpr z.2)))⟩
  have hpos : ¬ x < 0 := fun z => h0 (Int32.lt_trans z (by decide))
  obtain ⟨n, hn, rfl⟩ := nI_of hpos
  have hn1 : 1 ≤ n := Nat.le_of_not_lt (fun z => h0 (nI_lt (b := 1) z (by decide)))
  have hn15 : n ≤ 15 := Nat.le_of_not_lt (fun z => h15 (nI_lt (a := 15) z hn))
  obtain ⟨rv, rc, -⟩ := run_c n N σ v vc
  exact ⟨_, (runM n σ).1, runC n σ, 55, 7, run_318 v vc hn15, by decide, by decide, rv.mono (by omega), rc, xH_mv iw wf (c_H_run iw.1 v vc hn1 hn15 (by omega)), fun h1 iw1 => xN_nx rv.1 iw1 (fun A nl y => c_N_run nl y v vc hn1 hn15 (by omega))⟩
theorem clear_v (b : Bool) (N : Nat) : vPs N (clearM σ b) := by
  unfold clearM dissolveM
  split
  · exact ⟨Nat.zero_le _, ⟨List.nodup_nil, fun x hx => absurd hx List.not_mem_nil, fun x hx => absurd hx (Nat.not_lt_zero _)⟩, fun p hp => absurd hp (Nat.not_lt_zero _)⟩
  · exact ⟨Nat.zero_le _, ⟨List.nodup_nil, fun x hx => absurd hx List.not_mem_nil, fun x hx => absurd hx (Nat.not_lt_zero _)⟩, fun p hp => absurd hp (Nat.not_lt_zero _)⟩
theorem clear_cd (b : Bool) (vc : vCd σ) : vCd (clearM σ b) := by
  unfold clearM
  split
  · exact ⟨Nat.zero_le _, fun q hq => absurd hq List.not_mem_nil⟩
  · exact vc
theorem PR_clear0 (iw : IW o b tl L xs σ σ h) (wf : WFh h) (v : vPs N σ) (vc : vCd σ) : PR E o b tl L xs N σ h m_H_clear m_N_clear [.int 0] :=
  ⟨_, clearM σ false, 0, 2, 0, by decide, by decide, by decide, clear_v _ _, clear_cd _ vc, xH_mv iw wf (c_H_clear0 iw.1), fun h1 iw1 => xN_nx (Nat.zero_le _) iw1 (fun A nl y => c_N_clear0 nl y v)⟩
theorem PR_clear1 (iw : IW o b tl L xs σ σ h) (wf : WFh h) (v : vPs N σ) (vc : vCd σ) : PR E o b tl L xs N σ h m_H_clear m_N_clear [.int 1] :=
  ⟨_, clearM σ true, 0, 2, 0, by decide, by decide, by decide, clear_v _ _, clear_cd _ vc, xH_mv iw wf (c_H_clear1 iw.1), fun h1 iw1 => xN_nx (Nat.zero_le _) iw1 (fun A nl y => c_N_clear1 nl y v)⟩
theorem PR_process (iw : IW o b tl L xs σ σ h) (v : vPs N σ) (vc : vCd σ) (x w : Int32) : PR E o b tl L xs N σ h m_H_process m_N_process [.int x, .int w] := by
  have hc := v.1
  by_cases hx : ¬ x < 0 ∧ x < nI (oCt σ)
  · obtain ⟨p, hp, rfl⟩ := rng2 (by omega) hx
    exact ⟨_, σ, 0, 1, 1, by decide, by decide, by decide, v.mono (by omega), vc, xH_ex iw (c_H_process iw.1 v.1 hp w), fun h1 iw1 => xN_ex iw1 (fun A nl y => c_N_process nl y v hp w)⟩
  · exact ⟨_, σ, 0, 1, 1, by decide, by decide, by decide, v.mono (by omega), vc, xH_ex iw (c_H_process_no iw.1 v.1 x w (rng hx)), fun h1 iw1 => xN_ex iw1 (fun A nl y => c_N_process_no nl y v w hx)⟩
theorem PR_queue (iw : IW o b tl L xs σ σ h) (v : vPs N σ) (vc : vCd σ) (x : Int32) : PR E o b tl L xs N σ h m_H_queue m_N_queue [.int x] := by
  have hl := v.len
  by_cases hx : ¬ x < 0 ∧ x < nI (oQu σ).length
  · obtain ⟨j, hj, rfl⟩ := rng2 (by omega) hx
    have e : (oQu σ)[j]? = some ((oQu σ)[j]'hj) := List.getElem?_eq_getElem hj
    refine ⟨nI ((oQu σ)[j]'hj), σ, 0, 1, 1, by decide, by decide, by decide, v.mono (by omega), vc, xH_ex iw (c_H_queue iw.1 hl (nI j) _ ⟨fun z => ?_, fun i hi hij => ?_⟩), fun h1 iw1 => xN_ex iw1 (fun A nl y => c_N_queue nl y v hj e)⟩
    · rcases z with z | z
      · exact absurd z hx.1
      · exact absurd hx.2 (Int32.not_lt.mpr z)
    · obtain rfl : j = i := nI_inj (by omega) (by omega) hij
      rw [List.getD_eq_getElem?_getD, e]; rfl
  · exact ⟨-1, σ, 0, 1, 1, by decide, by decide, by decide, v.mono (by omega), vc, xH_ex iw (c_H_queue iw.1 hl x _ ⟨fun _ => rfl, fun i hi hij => absurd ⟨by rw [hij]; exact nI_pos (by omega), by rw [hij]; exact nI_lt hi (by omega)⟩ hx⟩), fun h1 iw1 => xN_ex iw1 (fun A nl y => c_N_queue_no nl y v hx)⟩
theorem PR_processes (iw : IW o b tl L xs σ σ h) (v : vPs N σ) (vc : vCd σ) : PR E o b tl L xs N σ h m_H_processes m_N_processes [] :=
  ⟨_, σ, 0, 0, 0, by decide, by decide, by decide, v.mono (by omega), vc, xH_ex iw (c_H_processes iw.1), fun h1 iw1 => xN_ex iw1 (fun A nl y => c_N_processes nl y v)⟩
theorem termM_v {p : Nat} {w : Int32} {t : Tm} (v : vPs N σ) (hp : p < oCt σ) (e : termM (oPr σ p) w = some t) : vTm t := by
  have vp := v.2.2 p hp
  unfold termM at e
  split at e
  · cases e
  · split at e
    · cases e; exact vp.1 _
    · split at e
      · exact vp.2.2.2.2.2.2.1 t e
      · exact vp.2.2.2.1.2 t (mem_gi e)
theorem PR_term (iw : IW o b tl L xs σ σ h) (v : vPs N σ) (vc : vCd σ) (x w : Int32) : PR E o b tl L xs N σ h m_H_term m_N_term [.int x, .int w] := by
  have hc := v.1
  by_cases hx : ¬ x < 0 ∧ x < nI (oCt σ)
  · obtain ⟨p, hp, rfl⟩ := rng2 (by omega) hx
    have hms := (v.2.2 p hp).2.2.2.1.1
    cases e : termM (oPr σ p) w with
    | none => exact ⟨_, σ, 0, 3, 2, by decide, by decide, by decide, v.mono (by omega), vc, xH_ex iw (c_H_term_none iw.1 v.1 hp hms w e), fun h1 iw1 => xN_ex iw1 (fun A nl y => c_N_term_none nl y v hp e)⟩
    | some t => exact ⟨_, σ, 0, 3, 2, by decide, by decide, by decide, v.mono (by omega), vc, xH_ex iw (c_H_term iw.1 v.1 hp hms w e (termM_v v hp e)), fun h1 iw1 => xN_ex iw1 (fun A nl y => c_N_term nl y v hp e)⟩
  · exact ⟨_, σ, 0, 3, 2, by decide, by decide, by decide, v.mono (by omega), vc, xH_ex iw (c_H_term_no iw.1 v.1 x w (rng hx)), fun h1 iw1 => xN_ex iw1 (fun A nl y => c_N_term_no nl y v hx)⟩
theorem PR_digest (iw : IW o b tl L xs σ σ h) (v : vPs N σ) (vc : vCd σ) (x w : Int32) : PR E o b tl L xs N σ h m_H_digest m_N_digest [.int x, .int w] := by
  have hc := v.1
  by_cases hx : ¬ x < 0 ∧ x < nI (oCt σ)
  · obtain ⟨p, hp, rfl⟩ := rng2 (by omega) hx
    have hms := (v.2.2 p hp).2.2.2.1.1
    cases e : termM (oPr σ p) w with
    | none => exact ⟨_, σ, 0, 17, 2, by decide, by decide, by decide, v.mono (by omega), vc, xH_ex iw (c_H_digest_none iw.1 v.1 hp hms w e), fun h1 iw1 => xN_ex iw1 (fun A nl y => c_N_digest_none nl y v hp e)⟩
    | some t => exact ⟨_, σ, 0, 17, 2, by decide, by decide, by decide, v.mono (by omega), vc, xH_ex iw (c_H_digest iw.1 v.1 hp hms w e (termM_v v hp e)), fun h1 iw1 => xN_ex iw1 (fun A nl y => c_N_digest nl y v hp e)⟩
  · exact ⟨_, σ, 0, 17, 2, by decide, by decide, by decide, v.mono (by omega), vc, xH_ex iw (c_H_digest_no iw.1 v.1 x w (rng hx)), fun h1 iw1 => xN_ex iw1 (fun A nl y => c_N_digest_no nl y v hx)⟩
end PAIRS
