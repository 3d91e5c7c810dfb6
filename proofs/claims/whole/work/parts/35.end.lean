/-! Society: untie of a process and itself, exitNotice, end and signal (printed by wip/gen/mod_end.py). -/
theorem c_S_untie_self {E : th_E} {h : th_H} {o : Nat} {σ : Ho} (z : CR o σ h) (hc : oCt σ ≤ 12) {p : Nat} (hp : p < oCt σ) : Xc E m_S_untie 0 0 0 [.ref (o + 4), .ref (o + 6 + 6 * p), .ref (o + 6 + 6 * p)] h (Mv o h none (untieM σ p p)) := by
  have hp12 : p < 12 := by omega
  refine Xc.of (by decide) (by simp [Value.category]) (Nat.le_of_ble_eq_true rfl) ?_
  show Xw E m_S_untie 0 0 0 0 [some (.ref (o + 4)), some (.ref (o + 6 + 6 * p)), some (.ref (o + 6 + 6 * p))] [] h _
  refine Xw.wf (fun wf => ?_)
  have chg1 : Chg o h (gpF h 2 7 (o + 6 + 6 * p) (.int (pLk (oPr σ p) &&& (bitM p ^^^ -1)))) := (Chg.rf o h).pF ⟨by omega, by omega⟩ rfl
  have chg : Chg o h (gpF (gpF h 2 7 (o + 6 + 6 * p) (.int (pLk (oPr σ p) &&& (bitM p ^^^ -1)))) 2 7 (o + 6 + 6 * p) (.int ((pLk (oPr σ p) &&& (bitM p ^^^ -1)) &&& (bitM p ^^^ -1)))) := chg1.pF ⟨by omega, by omega⟩ rfl
  have c1 : CR o (sPr σ p (sLk (oPr σ p) (pLk (oPr σ p) &&& (bitM p ^^^ -1)))) (gpF h 2 7 (o + 6 + 6 * p) (.int (pLk (oPr σ p) &&& (bitM p ^^^ -1)))) := z.sPr wf chg1 ((Keep.rf o h).pF (by omega)) ((KeepQ.rf o h).pF (by decide)) (cPr_lk _ (z.2.2.2.2.2 p hp)) (fun r _ hr => (Same.rf o r h).pF ⟨by omega, by omega⟩)
  have e1 : oPr (sPr σ p (sLk (oPr σ p) (pLk (oPr σ p) &&& (bitM p ^^^ -1)))) p = sLk (oPr σ p) (pLk (oPr σ p) &&& (bitM p ^^^ -1)) := va_up_self _ _ _
  have fin : CR o (untieM σ p p) (gpF (gpF h 2 7 (o + 6 + 6 * p) (.int (pLk (oPr σ p) &&& (bitM p ^^^ -1)))) 2 7 (o + 6 + 6 * p) (.int ((pLk (oPr σ p) &&& (bitM p ^^^ -1)) &&& (bitM p ^^^ -1)))) := by
    unfold untieM
    simp only [e1]
    exact c1.sPr wf ((Chg.rf o _).pF ⟨by omega, by omega⟩ rfl) ((Keep.rf o _).pF (by omega)) ((KeepQ.rf o _).pF (by decide)) (cPr_lk _ (by rw [← e1]; exact c1.2.2.2.2.2 p hp)) (fun r _ hr => (Same.rf o r _).pF ⟨by omega, by omega⟩)
  refine x_aload_n d_S_untie_0 rfl rfl ?_
  refine x_dup d_S_untie_1 rfl ?_
  refine x_getf (v := .int (pLk (oPr σ p))) d_S_untie_2 lf_S_81 (z.1.2 p hp12).k (z.2.2.2.2.2 p hp).2.2.2.2.2.1 ?_
  refine x_iconst (v := 1) d_S_untie_5 (by decide) ?_
  refine x_aload_n d_S_untie_6 rfl rfl ?_
  refine x_getf (v := .int (nI p)) d_S_untie_7 lf_S_61 (z.1.2 p hp12).k (z.1.2 p hp12).n ?_
  refine x_ishl (v := ((1 : Int32) <<< ((nI p) &&& 31))) d_S_untie_10 rfl ?_
  refine x_iconst (v := (-1)) d_S_untie_11 (by decide) ?_
  refine x_ixor (v := (((1 : Int32) <<< ((nI p) &&& 31)) ^^^ (-1))) d_S_untie_12 rfl ?_
  refine x_iand (v := ((pLk (oPr σ p)) &&& (((1 : Int32) <<< ((nI p) &&& 31)) ^^^ (-1)))) d_S_untie_13 rfl ?_
  refine x_putf d_S_untie_14 lp_S_81 (z.1.2 p hp12).k ⟨_, rfl⟩ ?_
  refine x_aload_n d_S_untie_17 rfl rfl ?_
  refine x_dup d_S_untie_18 rfl ?_
  refine x_getf (v := .int ((pLk (oPr σ p)) &&& (((1 : Int32) <<< ((nI p) &&& 31)) ^^^ (-1)))) d_S_untie_19 lf_S_81 (z.1.2 p hp12).k (by simp [gF_pF, gF_pA, gF_nO, gF_nA, gF_sA]) ?_
  refine x_iconst (v := 1) d_S_untie_22 (by decide) ?_
  refine x_aload_n d_S_untie_23 rfl rfl ?_
  refine x_getf (v := .int (nI p)) d_S_untie_24 lf_S_61 (z.1.2 p hp12).k (by simp [gF_pF, gF_pA, gF_nO, gF_nA, gF_sA, (z.1.2 p hp12).n]) ?_
  refine x_ishl (v := ((1 : Int32) <<< ((nI p) &&& 31))) d_S_untie_27 rfl ?_
  refine x_iconst (v := (-1)) d_S_untie_28 (by decide) ?_
  refine x_ixor (v := (((1 : Int32) <<< ((nI p) &&& 31)) ^^^ (-1))) d_S_untie_29 rfl ?_
  refine x_iand (v := (((pLk (oPr σ p)) &&& (((1 : Int32) <<< ((nI p) &&& 31)) ^^^ (-1))) &&& (((1 : Int32) <<< ((nI p) &&& 31)) ^^^ (-1)))) d_S_untie_30 rfl ?_
  refine x_putf d_S_untie_31 lp_S_81 (z.1.2 p hp12).k ⟨_, rfl⟩ ?_
  exact x_ret ⟨rfl, fin, chg⟩ rfl d_S_untie_34
theorem gF_gTn {h : th_H} {a : Nat} {s n : Int32} {x y : Value} {w : Int32} {c k b : Nat} (hb : b ≠ a) : gF (gT h a s n x y w) c k b = gF h c k b := by
  unfold gT
  simp only [gF_pF, hb, and_false, if_false]
theorem gk_gT (h : th_H) (a : Nat) (s n : Int32) (x y : Value) (w : Int32) : gk (gT h a s n x y w) = gk h := rfl
/-- the heap behind exitNotice -/
def gNo (h : th_H) (ex px y w : Nat) : th_H := gT (gT (gnO (gnO h 0 dv_T) 0 dv_T) (gz h + 1) (nI 5) 0 (.ref px) (.ref y) (nI (1 + 1 + w))) (gz h) (nI 5) 0 (.ref ex) (.ref (gz h + 1)) (nI (1 + 1 + (1 + 1 + w)))
theorem gNo_new (h : th_H) (ex px y w : Nat) : New h (gNo h ex px y w) := ((New.rf h).nO.nO.t5 (by omega)).t5 (Nat.le_refl _)
theorem gNo_te {h : th_H} (wf : WFh h) (ex px y w : Nat) : TE h (gNo h ex px y w) := fun a q => ⟨by rw [(gNo_new h ex px y w).2.1 a (wf a _ q)]; exact q, fun k => (gNo_new h ex px y w).2.2.1 0 k a (wf a _ q)⟩
theorem TR_notice {h : th_H} (wf : WFh h) {ex px y : Nat} {n : Int32} {u : Tm} (q1 : TR h aExit ex) (q2 : TR h (.leaf (2, n)) px) (q3 : TR h u y) : TR (gNo h ex px y (tW u)) (.branch 5 aExit (.branch 5 (.leaf (2, n)) u)) (gz h) := by
  have te := gNo_te wf ex px y (tW u)
  have k0 : gk (gNo h ex px y (tW u)) (gz h) = some (.inl 0) := by
    show gk (gnO (gnO h 0 dv_T) 0 dv_T) (gz h) = _
    rw [gk_nO, gz_nO, if_neg (by omega), gk_nO, if_pos rfl]
  have k1 : gk (gNo h ex px y (tW u)) (gz h + 1) = some (.inl 0) := by
    show gk (gnO (gnO h 0 dv_T) 0 dv_T) (gz h + 1) = _
    rw [gk_nO, gz_nO, if_pos rfl]
  have f0 : ∀ k, gF (gNo h ex px y (tW u)) 0 k (gz h) = _ := fun k => gF_gT _ _ _ _ _ _ _ k
  have f1 : ∀ k, gF (gNo h ex px y (tW u)) 0 k (gz h + 1) = _ := fun k => (gF_gTn (by omega)).trans (gF_gT _ _ _ _ _ _ _ k)
  unfold TR
  refine ⟨k0, ?_, ?_, ⟨ex, ?_, TR.mono te _ _ q1⟩, ⟨gz h + 1, ?_, ?_⟩, ?_⟩
  · rw [f0]; simp only [if_true]; rfl
  · rw [f0]; simp only [if_true]; rfl
  · rw [f0]; simp only [if_true]; rfl
  · rw [f0]; simp only [if_true]; rfl
  · unfold TR
    refine ⟨k1, ?_, ?_, ⟨px, ?_, TR.mono te _ _ q2⟩, ⟨y, ?_, TR.mono te _ _ q3⟩, ?_⟩
    · rw [f1]; simp only [if_true]; rfl
    · rw [f1]; simp only [if_true]; rfl
    · rw [f1]; simp only [if_true]; rfl
    · rw [f1]; simp only [if_true]; rfl
    · rw [f1]; simp only [if_true]; rfl
  · rw [f0]; simp only [if_true]; rfl
theorem c_S_exitNotice {E : th_E} {h : th_H} {o : Nat} {σ : Ho} (z : CR o σ h) (hc : oCt σ ≤ 12) {p : Nat} (hp : p < oCt σ) {r : Tm} {x : Nat} (hx : TR h r x) (hw : tW r ≤ 15) : Xc E m_S_exitNotice 2 2 10 [.ref (o + 4), .ref (o + 6 + 6 * p), .ref x] h (fun v h' => v = some (.ref (gz h)) ∧ New h h' ∧ TR h' (noticeM p r) (gz h)) := by
  have hp12 : p < 12 := by omega
  refine Xc.of (by decide) (by simp [Value.category]) (Nat.le_of_ble_eq_true rfl) ?_
  show Xw E m_S_exitNotice 2 2 10 0 [some (.ref (o + 4)), some (.ref (o + 6 + 6 * p)), some (.ref x), none] [] h _
  refine Xw.wf (fun wf => ?_)
  have K1 : ∀ a k, gk h a = some k → gk (gnO h 0 dv_T) a = some k := fun a k q => by rw [gk_nO, if_neg (Nat.ne_of_lt (wf a k q))]; exact q
  have K2 : ∀ a k, gk h a = some k → gk (gnO (gnO h 0 dv_T) 0 dv_T) a = some k := fun a k q => by rw [gk_nO, if_neg (by have := wf a k q; rw [gz_nO]; omega)]; exact K1 a k q
  have F2 : ∀ c k a, a < gz h → gF (gnO (gnO h 0 dv_T) 0 dv_T) c k a = gF h c k a := fun c k a ha => (New.rf h).nO.nO.2.2.1 c k a ha
  by_cases hv : 15 < tW r + 4
  · refine x_aload_n d_S_exitNotice_0 rfl rfl ?_
    refine x_getf (v := .int (nI (tW r))) d_S_exitNotice_1 lf_S_114 hx.k hx.w ?_
    refine x_iconst (v := 4) d_S_exitNotice_4 (by decide) ?_
    refine x_iadd (v := (nI (tW r + 4))) d_S_exitNotice_5 (nI_add _ 4) ?_
    refine x_bipush (v := 15) d_S_exitNotice_6 (by decide) ?_
    refine x_icmp_le (tgt := 21) d_S_exitNotice_8 rfl (fun q => absurd q (nI_ge (a := 15) hv (by omega))) (fun q8 => ?_)
    refine x_aload_n d_S_exitNotice_11 rfl rfl ?_
    refine x_getf (v := .ref (o + 81)) d_S_exitNotice_12 lf_S_36 z.1.1.kS z.1.1.S3 ?_
    refine x_bipush (v := 13) d_S_exitNotice_15 (by decide) ?_
    refine x_aald (v := .ref (o + 82 + 13)) d_S_exitNotice_17 z.1.1.kAt rfl (vp_in_nI (n := 13) (by decide) (by decide)) (by rw [show (13 : Int32).toNatClampNeg = 13 by decide]; exact (z.1.1.at 13 (by decide)).1) ?_
    refine x_goto (tgt := 22) d_S_exitNotice_18 rfl ?_
    refine x_astore_n d_S_exitNotice_22 rfl (by decide) (L' := [some (.ref (o + 4)), some (.ref (o + 6 + 6 * p)), some (.ref x), some (.ref (o + 82 + 13))]) rfl ?_
    refine x_new d_S_exitNotice_23 ln_S_27 (cz' := 1) (Nat.le_refl 2) (cs' := 5) (Nat.le_refl 10) ?_
    refine x_dup d_S_exitNotice_26 rfl ?_
    refine x_iconst (v := (nI 5)) d_S_exitNotice_27 (by decide) ?_
    refine x_aload_n d_S_exitNotice_28 rfl rfl ?_
    refine x_getf (v := .ref (o + 81)) d_S_exitNotice_29 lf_S_36 (K1 _ _ z.1.1.kS) (by simp [gF_nO, z.1.1.S3]) ?_
    refine x_bipush (v := 15) d_S_exitNotice_32 (by decide) ?_
    refine x_aald (v := .ref (o + 82 + 15)) d_S_exitNotice_34 (K1 _ _ z.1.1.kAt) rfl (vp_in_nI (n := 15) (by decide) (by decide)) (by rw [gA_nO, show (15 : Int32).toNatClampNeg = 15 by decide]; exact (z.1.1.at 15 (by decide)).1) ?_
    refine x_new d_S_exitNotice_35 ln_S_27 (cz' := 0) (Nat.le_refl 1) (cs' := 0) (Nat.le_refl 5) ?_
    rw [gz_nO]
    refine x_dup d_S_exitNotice_38 rfl ?_
    refine x_iconst (v := (nI 5)) d_S_exitNotice_39 (by decide) ?_
    refine x_aload_n d_S_exitNotice_40 rfl rfl ?_
    refine x_getf (v := .ref (o + 7 + 6 * p)) d_S_exitNotice_41 lf_S_117 (K2 _ _ (z.1.2 p hp12).k) (by simp [gF_nO, (z.1.2 p hp12).pid]) ?_
    refine x_aload_n d_S_exitNotice_44 rfl rfl ?_
    refine x_invi d_S_exitNotice_45 lm_S_120 (as := [.int (nI 5), .ref (o + 7 + 6 * p), .ref (o + 82 + 13)]) (S := [.ref (gz h + 1), .ref (o + 82 + 15), .int (nI 5), .ref (gz h), .ref (gz h)]) (c_T_init2 (a := gz h + 1) (x := o + 7 + 6 * p) (y := (o + 82 + 13)) (wx := 1) (wy := tW aFault) (nI 5) (by rw [gk_nO, gz_nO, if_pos rfl]) (K2 _ _ (z.1.2 p hp12).tp.k) (K2 _ _ (z.1.1.at 13 (by decide)).2.k) (by rw [F2 _ _ _ (wf _ _ (z.1.2 p hp12).tp.k)]; exact (z.1.2 p hp12).tp.w) (by rw [F2 _ _ _ (wf _ _ (z.1.1.at 13 (by decide)).2.k)]; exact (z.1.1.at 13 (by decide)).2.w)) rfl rfl (Nat.le_of_ble_eq_true rfl) (Nat.le_refl 2) (Nat.le_refl 0) (Nat.le_refl 0) ?_
    rintro _ _ ⟨rfl, rfl⟩
    refine x_invi d_S_exitNotice_48 lm_S_120 (as := [.int (nI 5), .ref (o + 82 + 15), .ref (gz h + 1)]) (S := [.ref (gz h)]) (c_T_init2 (a := gz h) (x := o + 82 + 15) (y := gz h + 1) (wx := 1) (wy := 1 + 1 + tW aFault) (nI 5) (by rw [gk_gT, gk_nO, gz_nO, if_neg (by omega), gk_nO, if_pos rfl]) (by rw [gk_gT]; exact K2 _ _ (z.1.1.at 15 (by decide)).2.k) (by rw [gk_gT, gk_nO, gz_nO, if_pos rfl]) (by rw [gF_gTn (by have := wf _ _ (z.1.1.at 15 (by decide)).2.k; omega), F2 _ _ _ (wf _ _ (z.1.1.at 15 (by decide)).2.k)]; exact (z.1.1.at 15 (by decide)).2.w) (by rw [gF_gT]; rfl)) rfl rfl (Nat.le_of_ble_eq_true rfl) (Nat.le_refl 2) (Nat.le_refl 0) (Nat.le_refl 0) ?_
    rintro _ _ ⟨rfl, rfl⟩
    exact x_aret d_S_exitNotice_51 rfl (Or.inl ⟨_, rfl⟩) (Or.inr ⟨_, rfl⟩) ⟨rfl, gNo_new h _ _ _ _, by rw [noticeM, if_pos hv]; exact TR_notice wf (z.1.1.at 15 (by decide)).2 (z.1.2 p hp12).tp (z.1.1.at 13 (by decide)).2⟩
  · refine x_aload_n d_S_exitNotice_0 rfl rfl ?_
    refine x_getf (v := .int (nI (tW r))) d_S_exitNotice_1 lf_S_114 hx.k hx.w ?_
    refine x_iconst (v := 4) d_S_exitNotice_4 (by decide) ?_
    refine x_iadd (v := (nI (tW r + 4))) d_S_exitNotice_5 (nI_add _ 4) ?_
    refine x_bipush (v := 15) d_S_exitNotice_6 (by decide) ?_
    refine x_icmp_le (tgt := 21) d_S_exitNotice_8 rfl (fun q8 => ?_) (fun q => absurd (nI_le (b := 15) (by omega) (by decide)) q)
    refine x_aload_n d_S_exitNotice_21 rfl rfl ?_
    refine x_astore_n d_S_exitNotice_22 rfl (by decide) (L' := [some (.ref (o + 4)), some (.ref (o + 6 + 6 * p)), some (.ref x), some (.ref x)]) rfl ?_
    refine x_new d_S_exitNotice_23 ln_S_27 (cz' := 1) (Nat.le_refl 2) (cs' := 5) (Nat.le_refl 10) ?_
    refine x_dup d_S_exitNotice_26 rfl ?_
    refine x_iconst (v := (nI 5)) d_S_exitNotice_27 (by decide) ?_
    refine x_aload_n d_S_exitNotice_28 rfl rfl ?_
    refine x_getf (v := .ref (o + 81)) d_S_exitNotice_29 lf_S_36 (K1 _ _ z.1.1.kS) (by simp [gF_nO, z.1.1.S3]) ?_
    refine x_bipush (v := 15) d_S_exitNotice_32 (by decide) ?_
    refine x_aald (v := .ref (o + 82 + 15)) d_S_exitNotice_34 (K1 _ _ z.1.1.kAt) rfl (vp_in_nI (n := 15) (by decide) (by decide)) (by rw [gA_nO, show (15 : Int32).toNatClampNeg = 15 by decide]; exact (z.1.1.at 15 (by decide)).1) ?_
    refine x_new d_S_exitNotice_35 ln_S_27 (cz' := 0) (Nat.le_refl 1) (cs' := 0) (Nat.le_refl 5) ?_
    rw [gz_nO]
    refine x_dup d_S_exitNotice_38 rfl ?_
    refine x_iconst (v := (nI 5)) d_S_exitNotice_39 (by decide) ?_
    refine x_aload_n d_S_exitNotice_40 rfl rfl ?_
    refine x_getf (v := .ref (o + 7 + 6 * p)) d_S_exitNotice_41 lf_S_117 (K2 _ _ (z.1.2 p hp12).k) (by simp [gF_nO, (z.1.2 p hp12).pid]) ?_
    refine x_aload_n d_S_exitNotice_44 rfl rfl ?_
    refine x_invi d_S_exitNotice_45 lm_S_120 (as := [.int (nI 5), .ref (o + 7 + 6 * p), .ref x]) (S := [.ref (gz h + 1), .ref (o + 82 + 15), .int (nI 5), .ref (gz h), .ref (gz h)]) (c_T_init2 (a := gz h + 1) (x := o + 7 + 6 * p) (y := x) (wx := 1) (wy := tW r) (nI 5) (by rw [gk_nO, gz_nO, if_pos rfl]) (K2 _ _ (z.1.2 p hp12).tp.k) (K2 _ _ hx.k) (by rw [F2 _ _ _ (wf _ _ (z.1.2 p hp12).tp.k)]; exact (z.1.2 p hp12).tp.w) (by rw [F2 _ _ _ (wf _ _ hx.k)]; exact hx.w)) rfl rfl (Nat.le_of_ble_eq_true rfl) (Nat.le_refl 2) (Nat.le_refl 0) (Nat.le_refl 0) ?_
    rintro _ _ ⟨rfl, rfl⟩
    refine x_invi d_S_exitNotice_48 lm_S_120 (as := [.int (nI 5), .ref (o + 82 + 15), .ref (gz h + 1)]) (S := [.ref (gz h)]) (c_T_init2 (a := gz h) (x := o + 82 + 15) (y := gz h + 1) (wx := 1) (wy := 1 + 1 + tW r) (nI 5) (by rw [gk_gT, gk_nO, gz_nO, if_neg (by omega), gk_nO, if_pos rfl]) (by rw [gk_gT]; exact K2 _ _ (z.1.1.at 15 (by decide)).2.k) (by rw [gk_gT, gk_nO, gz_nO, if_pos rfl]) (by rw [gF_gTn (by have := wf _ _ (z.1.1.at 15 (by decide)).2.k; omega), F2 _ _ _ (wf _ _ (z.1.1.at 15 (by decide)).2.k)]; exact (z.1.1.at 15 (by decide)).2.w) (by rw [gF_gT]; rfl)) rfl rfl (Nat.le_of_ble_eq_true rfl) (Nat.le_refl 2) (Nat.le_refl 0) (Nat.le_refl 0) ?_
    rintro _ _ ⟨rfl, rfl⟩
    exact x_aret d_S_exitNotice_51 rfl (Or.inl ⟨_, rfl⟩) (Or.inr ⟨_, rfl⟩) ⟨rfl, gNo_new h _ _ _ _, by rw [noticeM, if_neg hv]; exact TR_notice wf (z.1.1.at 15 (by decide)).2 (z.1.2 p hp12).tp hx⟩
def sigM (n : Nat) (σ : Ho) (p q : Nat) (r : Tm) : Ho := if pSt (oPr σ q) = 3 then σ else if pTr (oPr σ q) = true then deliverM σ q (noticeM p r) else if isN r = true then σ else loopM n (stopM σ q r) q r 0
def sigC (n : Nat) (σ : Ho) (p q : Nat) (r : Tm) : Nat := if pSt (oPr σ q) = 3 then 0 else if pTr (oPr σ q) = true then 1 else if isN r = true then 0 else loopC n (stopM σ q r) q r 0
theorem loopM_link {n : Nat} {σ : Ho} {p q : Nat} {r : Tm} (h1 : ¬ oCt σ ≤ q) (h2 : ¬ pLk (oPr σ p) &&& bitM q = 0) : loopM (n + 1) σ p r q = loopM n (sigM n (untieM σ p q) p q r) p r (q + 1) := by
  rw [loopM, if_neg h1, if_neg h2, sigM]
  split
  · rfl
  · split
    · rfl
    · split <;> rfl
theorem loopC_link {n : Nat} {σ : Ho} {p q : Nat} {r : Tm} (h1 : ¬ oCt σ ≤ q) (h2 : ¬ pLk (oPr σ p) &&& bitM q = 0) : loopC (n + 1) σ p r q = sigC n (untieM σ p q) p q r + loopC n (sigM n (untieM σ p q) p q r) p r (q + 1) := by
  rw [loopC, if_neg h1, if_neg h2, sigM, sigC]
  split
  · rw [Nat.zero_add]
  · split
    · rfl
    · split
      · rw [Nat.zero_add]
      · rfl
theorem sig_v {N n : Nat} {σ : Ho} {p q : Nat} {r : Tm} (v : vPs N σ) (hp : p < oCt σ) (hq : q < oCt σ) (hr : vTm r) : vPs N (sigM n σ p q r) ∧ oCt (sigM n σ p q r) = oCt σ ∧ live (sigM n σ p q r) ≤ live σ := by
  unfold sigM
  by_cases h3 : pSt (oPr σ q) = 3
  · rw [if_pos h3]; exact ⟨v, rfl, Nat.le_refl _⟩
  rw [if_neg h3]
  by_cases h4 : pTr (oPr σ q) = true
  · rw [if_pos h4]; exact ⟨v.deliver hq (vNotice hr), deliver_ct _ _ _, live_deliver _ _ _⟩
  rw [if_neg h4]
  by_cases h5 : isN r = true
  · rw [if_pos h5]; exact ⟨v, rfl, Nat.le_refl _⟩
  rw [if_neg h5]
  obtain ⟨a, b, c⟩ := loop_v (N := N) n (stopM σ q r) q r 0 (v.stop hq hr) hq hr
  exact ⟨a, b, Nat.le_trans c (Nat.le_of_lt (live_stop hq h3))⟩
/-- end's loop, at fuel n -/
def Lp (E : th_E) (o N n : Nat) : Prop := ∀ (σ : Ho) (h : th_H) (p : Nat) (r : Tm) (x q d : Nat), CR o σ h → vPs N σ → p < oCt σ → vTm r → TR h r x → q ≤ oCt σ → 13 * live σ + 13 ≤ n + q → 2 * live σ + 20 ≤ d → Xw E m_S_end d (2 * loopC n σ p r q) (10 * loopC n σ p r q) 32 [some (.ref (o + 4)), some (.ref (o + 6 + 6 * p)), some (.ref x), some (.int (nI q))] [] h (Mv o h none (loopM n σ p r q))
theorem c_S_end_of {E : th_E} {h : th_H} {o : Nat} {σ : Ho} (z : CR o σ h) {N n p x d : Nat} {r : Tm} (lp : Lp E o N n) (v : vPs N σ) (hp : p < oCt σ) (hr : vTm r) (hx : TR h r x) (h3 : ¬ pSt (oPr σ p) = 3) (hn : 13 * live (stopM σ p r) + 13 ≤ n + 0) (hd : 2 * live (stopM σ p r) + 20 ≤ d) : Xc E m_S_end d (2 * loopC n (stopM σ p r) p r 0) (10 * loopC n (stopM σ p r) p r 0) [.ref (o + 4), .ref (o + 6 + 6 * p), .ref x] h (Mv o h none (loopM n (stopM σ p r) p r 0)) := by
  have hp12 : p < 12 := by have := v.1; omega
  have zp := z.2.2.2.2.2 p hp
  refine Xc.of (by decide) (by simp [Value.category]) (Nat.le_of_ble_eq_true rfl) ?_
  show Xw E m_S_end d (2 * loopC n (stopM σ p r) p r 0) (10 * loopC n (stopM σ p r) p r 0) 0 [some (.ref (o + 4)), some (.ref (o + 6 + 6 * p)), some (.ref x), none] [] h _
  refine Xw.wf (fun wf => ?_)
  have chg1 : Chg o h (gpF (gpF h 2 9 (o + 6 + 6 * p) (.int (nI 3))) 2 10 (o + 6 + 6 * p) (.ref x)) := ((Chg.rf o h).pF ⟨by omega, by omega⟩ rfl).pF ⟨by omega, by omega⟩ rfl
  have c1 : CR o (sPr σ p (sRs (sSt (oPr σ p) 3) (some r))) (gpF (gpF h 2 9 (o + 6 + 6 * p) (.int (nI 3))) 2 10 (o + 6 + 6 * p) (.ref x)) := z.sPr wf chg1 (((Keep.rf o h).pF (by omega)).pF (by omega)) (((KeepQ.rf o h).pF (by decide)).pF (by decide)) (cPr_rs (TR.mono (TE.pF (TE.rf h) (by decide)) _ _ hx) (cPr_st 3 zp)) (fun y _ hy => ((Same.rf o y h).pF ⟨by omega, by omega⟩).pF ⟨by omega, by omega⟩)
  refine x_aload_n d_S_end_0 rfl rfl ?_
  refine x_getf (v := .int (nI (pSt (oPr σ p)))) d_S_end_1 lf_S_65 (z.1.2 p hp12).k zp.2.2.2.2.2.2.2.1 ?_
  refine x_iconst (v := (nI 3)) d_S_end_4 (by decide) ?_
  refine x_icmp_ne (tgt := 9) d_S_end_5 rfl (fun q5 => ?_) (fun q => absurd q (fun e => h3 (nI_inj (by have := (v.2.2 p hp).2.2.2.2.2.1; omega) (by decide) e)))
  refine x_aload_n d_S_end_9 rfl rfl ?_
  refine x_iconst (v := (nI 3)) d_S_end_10 (by decide) ?_
  refine x_putf d_S_end_11 lp_S_65 (z.1.2 p hp12).k ⟨_, rfl⟩ ?_
  refine x_aload_n d_S_end_14 rfl rfl ?_
  refine x_aload_n d_S_end_15 rfl rfl ?_
  refine x_putf d_S_end_16 lp_S_84 (z.1.2 p hp12).k (Or.inr ⟨_, rfl⟩) ?_
  refine x_aload_n d_S_end_19 rfl rfl ?_
  refine x_getf (v := .ref (o + 78)) d_S_end_20 lf_S_23 z.1.1.kS (by simp [gF_pF, gF_pA, gF_nO, gF_nA, gF_sA, z.1.1.S1]) ?_
  refine x_aload_n d_S_end_23 rfl rfl ?_
  refine x_getf (v := .int (nI p)) d_S_end_24 lf_S_61 (z.1.2 p hp12).k (by simp [gF_pF, gF_pA, gF_nO, gF_nA, gF_sA, (z.1.2 p hp12).n]) ?_
  refine x_invv d_S_end_27 lm_S_78 (as := [.int (nI p)]) (S := []) (cz' := 2 * loopC n (stopM σ p r) p r 0) (cs' := 10 * loopC n (stopM σ p r) p r 0) (c_L_leave (h := (gpF (gpF h 2 9 (o + 6 + 6 * p) (.int (nI 3))) 2 10 (o + 6 + 6 * p) (.ref x))) (ln := o + 78) (na := o + 79) (qs := oQu σ) z.1.1.kL z.1.1.kLa (by simp [gF_pF, z.1.1.L0]) (by simp [gF_pF, z.2.2.2.1.1]) v.len (fun y hy => by have := (v.2.1.2.1 y hy).1; have := v.1; omega) hp12 (fun i y hy => z.2.2.2.1.2 i y hy)) z.1.1.kL rfl rfl rfl (Nat.le_of_ble_eq_true rfl) (by omega) (by omega) (by omega) ?_
  rintro _ _ ⟨rfl, f', rfl, hf⟩
  have chg2 : Chg o h (gpF (gsA (gpF (gpF h 2 9 (o + 6 + 6 * p) (.int (nI 3))) 2 10 (o + 6 + 6 * p) (.ref x)) 1 (o + 79) f') 3 1 (o + 78) (.int (nI ((oQu σ).filter (fun y => y ≠ p)).length))) := (chg1.sA ⟨by omega, by omega, by omega⟩ (Or.inl rfl)).pF ⟨by omega, by omega⟩ rfl
  have c2 : CR o (stopM σ p r) (gpF (gsA (gpF (gpF h 2 9 (o + 6 + 6 * p) (.int (nI 3))) 2 10 (o + 6 + 6 * p) (.ref x)) 1 (o + 79) f') 3 1 (o + 78) (.int (nI ((oQu σ).filter (fun y => y ≠ p)).length))) := c1.sQu wf (((Chg.rf o _).sA ⟨by omega, by omega, by omega⟩ (Or.inl rfl)).pF ⟨by omega, by omega⟩ rfl) (((Keep.rf o _).sA (by omega)).pF (by omega)) (cQu_set hf) (fun y hy => ((Same.rf o y _).sA ⟨by omega, by have : y < oCt σ := hy; have := v.1; omega⟩).pF ⟨by omega, by omega⟩)
  refine x_iconst (v := (nI 0)) d_S_end_30 (by decide) ?_
  refine x_istore_n d_S_end_31 rfl (by decide) (L' := [some (.ref (o + 4)), some (.ref (o + 6 + 6 * p)), some (.ref x), some (.int (nI 0))]) rfl ?_
  exact (lp (stopM σ p r) _ p r x 0 d c2 (v.stop hp hr) hp hr (TR.mono (chg2.te wf) _ _ hx) (Nat.zero_le _) hn hd).post (fun u h' q => ⟨q.1, q.2.1, chg2.tr q.2.2⟩)
