/-! Society: start, dissolve (printed by wip/gen/mod_start.py). -/
def newP (l : Nat) (t : Tm) : Pr := (va_up (fun _ => nilT) 0 t, l, [], [], 0, 0, false, 1, none, 0)
def startM (σ : Ho) (l : Nat) (t : Tm) : Ho := comeM (sCt (sPr σ (oCt σ) (newP l t)) (oCt σ + 1)) (oCt σ)
def dissolveM (σ : Ho) : Ho := sQu (sCt σ 0) []
theorem gA_ren (h : th_H) (p ra mb x nl : Nat) (l : Int32) : gA (gRen h p ra mb x nl l) = gA (gsA h 2 ra (fun i => if i = 0 then .ref x else if i < 8 then .ref nl else gA h 2 ra i)) := id rfl
theorem gF_ren {h : th_H} {p ra mb x nl : Nat} {l : Int32} {c k a : Nat} (hc : ¬ (c = 2 ∧ a = p) ∧ ¬ (c = 1 ∧ a = mb)) : gF (gRen h p ra mb x nl l) c k a = gF h c k a := by
  unfold gRen
  have h1 : ∀ j, ¬ (c = 2 ∧ k = j ∧ a = p) := fun j z => hc.1 ⟨z.1, z.2.2⟩
  have h2 : ∀ j, ¬ (c = 1 ∧ k = j ∧ a = mb) := fun j z => hc.2 ⟨z.1, z.2.2⟩
  simp only [gF_pF, h1, h2, if_false, gF_sA]
theorem Chg.ren {o : Nat} {h h1 : th_H} {p x nl : Nat} {l : Int32} (e : Chg o h h1) (hp : p < 12) : Chg o h (gRen h1 (o + 6 + 6 * p) (o + 8 + 6 * p) (o + 10 + 6 * p) x nl l) := by
  unfold gRen
  exact (((((((((e.sA ⟨by omega, by omega, by omega⟩ (Or.inr rfl)).pF ⟨by omega, by omega⟩ rfl).pF ⟨by omega, by omega⟩ rfl).pF ⟨by omega, by omega⟩ rfl).pF ⟨by omega, by omega⟩ rfl).pF ⟨by omega, by omega⟩ rfl).pF ⟨by omega, by omega⟩ rfl).pF ⟨by omega, by omega⟩ rfl).pF ⟨by omega, by omega⟩ rfl).pF ⟨by omega, by omega⟩ rfl
theorem TE.ren {h h1 : th_H} {p ra mb x nl : Nat} {l : Int32} (e : TE h h1) : TE h (gRen h1 p ra mb x nl l) := by
  unfold gRen
  exact ((((((((e.sA.pF (by decide)).pF (by decide)).pF (by decide)).pF (by decide)).pF (by decide)).pF (by decide)).pF (by decide)).pF (by decide)).pF (by decide)
theorem Same.ren {o q : Nat} {h h1 : th_H} {p x nl : Nat} {l : Int32} (e : Same o q h h1) (hq : q ≠ p) : Same o q h (gRen h1 (o + 6 + 6 * p) (o + 8 + 6 * p) (o + 10 + 6 * p) x nl l) := by
  refine ⟨fun k => ?_, fun k => ?_, fun i => ?_, fun i => ?_, fun i => ?_⟩
  · rw [gF_ren ⟨by omega, by omega⟩]; exact e.1 k
  · rw [gF_ren ⟨by omega, by omega⟩]; exact e.2.1 k
  · rw [gA_ren, gA_sA, if_neg (by omega)]; exact e.2.2.1 i
  · rw [gA_ren, gA_sA, if_neg (by omega)]; exact e.2.2.2.1 i
  · rw [gA_ren, gA_sA, if_neg (by omega)]; exact e.2.2.2.2 i
theorem cPr_new {o p : Nat} {h : th_H} {t : Tm} {x nl l : Nat} (qx : TR h t x) (qn : TR h nilT nl) : cPr o p (newP l t) (gRen h (o + 6 + 6 * p) (o + 8 + 6 * p) (o + 10 + 6 * p) x nl (nI l)) := by
  have te : TE h (gRen h (o + 6 + 6 * p) (o + 8 + 6 * p) (o + 10 + 6 * p) x nl (nI l)) := (TE.rf h).ren
  refine ⟨fun k hk => ?_, ?_, ⟨?_, fun i y hy => by simp [newP, pRe] at hy⟩, ⟨?_, fun i y hy => by simp [newP, pMs] at hy⟩, ?_, ?_, ?_, ?_, ⟨fun _ => ?_, fun y hy => by simp [newP, pRs] at hy⟩, ?_⟩
  · rw [gA_ren, gA_sA, if_pos ⟨rfl, rfl⟩]
    by_cases h0 : k = 0
    · rw [if_pos h0]
      refine ⟨x, rfl, ?_⟩
      show TR _ (va_up (fun _ => nilT) 0 t k) x
      rw [h0, va_up_self]; exact TR.mono te _ _ qx
    · rw [if_neg h0, if_pos hk]
      refine ⟨nl, rfl, ?_⟩
      show TR _ (va_up (fun _ => nilT) 0 t k) nl
      rw [va_up_ne _ _ h0]; exact TR.mono te _ _ qn
  all_goals (unfold gRen; simp [gF_pF, newP] <;> rfl)
theorem vPs.start {N : Nat} {σ : Ho} (v : vPs N σ) {l : Nat} {t : Tm} (hc : oCt σ < 12) (hl : l ≤ 48) (ht : vTm t) : vPs N (startM σ l t) := by
  have hnq : oCt σ ∉ oQu σ := fun z => by have := (v.2.1.2.1 _ z).1; omega
  refine ⟨hc, ⟨?_, fun x hx => ?_, fun x hx hx1 => ?_⟩, fun x hx => ?_⟩
  · show (oQu σ ++ [oCt σ]).Nodup
    rw [List.nodup_append]
    exact ⟨v.2.1.1, by simp, fun a ha b hb => by rw [List.mem_singleton.mp hb]; exact fun z => hnq (z ▸ ha)⟩
  · rcases List.mem_append.mp hx with hx | hx
    · have h1 := v.2.1.2.1 x hx
      refine ⟨show x < oCt σ + 1 by omega, ?_⟩
      show pSt (va_up (oPr σ) (oCt σ) _ x) = 1
      rw [va_up_ne _ _ (by omega)]; exact h1.2
    · rw [List.mem_singleton.mp hx]
      refine ⟨Nat.lt_succ_self _, ?_⟩
      show pSt (va_up (oPr σ) (oCt σ) _ (oCt σ)) = 1
      rw [va_up_self]; rfl
  · show x ∈ oQu σ ++ [oCt σ]
    have hx : x < oCt σ + 1 := hx
    have hx1 : pSt (va_up (oPr σ) (oCt σ) (newP l t) x) = 1 := hx1
    by_cases h3 : x = oCt σ
    · rw [h3]; exact List.mem_append_right _ (List.mem_singleton.mpr rfl)
    · rw [va_up_ne _ _ h3] at hx1
      exact List.mem_append_left _ (v.2.1.2.2 x (by omega) hx1)
  · have hx : x < oCt σ + 1 := hx
    show vPr N (va_up (oPr σ) (oCt σ) (newP l t) x)
    by_cases h3 : x = oCt σ
    · rw [h3, va_up_self]
      have vn : vTm nilT := ⟨Or.inr rfl, by decide⟩
      refine ⟨fun k => ?_, hl, ⟨Nat.zero_le _, (fun x hx => by cases hx)⟩, ⟨Nat.zero_le _, (fun x hx => by cases hx)⟩, Nat.zero_le _, Or.inl rfl, (fun t ht => by cases ht), ⟨fun z => absurd (show (1 : Nat) = 3 from z) (by decide), fun ⟨u, hu⟩ => by cases hu⟩⟩
      show vTm (va_up (fun _ => nilT) 0 t k)
      by_cases h0 : k = 0
      · rw [h0, va_up_self]; exact ht
      · rw [va_up_ne _ _ h0]; exact vn
    · rw [va_up_ne _ _ h3]; exact v.2.2 x (by omega)
theorem c_S_start_no {E : th_E} {h : th_H} {o : Nat} {σ : Ho} (z : CR o σ h) (hc : oCt σ ≤ 12) {l x : Nat} (hf : 12 ≤ oCt σ) : Xc E m_S_start 2 0 0 [.ref (o + 4), .int (nI l), .ref x] h (Ex (some .null) h) := by
  refine Xc.of (by decide) (by simp [Value.category]) (Nat.le_of_ble_eq_true rfl) ?_
  show Xw E m_S_start 2 0 0 0 [some (.ref (o + 4)), some (.int (nI l)), some (.ref x), none] [] h _
  refine x_aload_n d_S_start_0 rfl rfl ?_
  refine x_getf (v := .int (nI (oCt σ))) d_S_start_1 lf_S_40 z.1.1.kS z.2.2.2.2.1 ?_
  refine x_bipush (v := 12) d_S_start_4 (by decide) ?_
  refine x_icmp_lt (tgt := 11) d_S_start_6 rfl (fun w_ => absurd w_ (nI_nlt (b := 12) hf (by omega))) (fun q6 => ?_)
  refine x_null d_S_start_9 ?_
  exact x_aret d_S_start_10 rfl (Or.inl ⟨_, rfl⟩) (Or.inl rfl) ⟨rfl, rfl⟩
theorem c_S_start {E : th_E} {h : th_H} {o : Nat} {σ : Ho} (z : CR o σ h) {l x : Nat} {t : Tm} (hf : oCt σ < 12) (hql : (oQu σ).length < 12) (hx : TR h t x) : Xc E m_S_start 2 0 0 [.ref (o + 4), .int (nI l), .ref x] h (Mv o h (some (.ref (o + 6 + 6 * oCt σ))) (startM σ l t)) := by
  refine Xc.of (by decide) (by simp [Value.category]) (Nat.le_of_ble_eq_true rfl) ?_
  show Xw E m_S_start 2 0 0 0 [some (.ref (o + 4)), some (.int (nI l)), some (.ref x), none] [] h _
  refine Xw.wf (fun wf => ?_)
  have chg1 : Chg o h (gpF h 4 4 (o + 4) (.int (nI (oCt σ + 1)))) := (Chg.rf o h).pF ⟨by omega, by omega⟩ rfl
  have chg2 : Chg o h (gRen (gpF h 4 4 (o + 4) (.int (nI (oCt σ + 1)))) (o + 6 + 6 * oCt σ) (o + 8 + 6 * oCt σ) (o + 10 + 6 * oCt σ) x (o + 80) (nI l)) := chg1.ren hf
  have c2 : CR o (sCt (sPr σ (oCt σ) (newP l t)) (oCt σ + 1)) (gRen (gpF h 4 4 (o + 4) (.int (nI (oCt σ + 1)))) (o + 6 + 6 * oCt σ) (o + 8 + 6 * oCt σ) (o + 10 + 6 * oCt σ) x (o + 80) (nI l)) := by
    refine CR.to z wf chg2 (by rw [gF_ren ⟨by omega, by omega⟩]; simp [gF_pF, z.2.1.1]) (by rw [gF_ren ⟨by omega, by omega⟩]; simp [gF_pF, z.2.1.2]) ⟨by rw [gF_ren ⟨by omega, by omega⟩]; simp [gF_pF, z.2.2.1.1], fun i q hq => ?_⟩ ⟨by rw [gF_ren ⟨by omega, by omega⟩]; simp [gF_pF, z.2.2.2.1.1], fun i y hy => ?_⟩ (by rw [gF_ren ⟨by omega, by omega⟩, gF_pF, if_pos ⟨rfl, rfl, rfl⟩]) (fun q hq => ?_)
    · simp only [gA_ren, gA_sA, gA_pF]
      rw [if_neg (by omega), if_neg (by omega), if_neg (by omega), if_neg (by omega)]; exact z.2.2.1.2 i q hq
    · rw [gA_ren, gA_sA, if_neg (by omega), gA_pF]; exact z.2.2.2.1.2 i y hy
    · show cPr o q (va_up (oPr σ) (oCt σ) (newP l t) q) _
      have hq : q < oCt σ + 1 := hq
      by_cases e : q = oCt σ
      · rw [e, va_up_self]; exact cPr_new (TR.mono (TE.pF (TE.rf h) (by decide)) _ _ hx) (TR.mono (TE.pF (TE.rf h) (by decide)) _ _ z.1.1.nil)
      · rw [va_up_ne _ _ e]; exact (z.2.2.2.2.2 q (by omega)).same (chg2.te wf) (((Same.rf o q h).pF ⟨by omega, by omega⟩).ren e)
  have chg3 : Chg o h (gpF (gpA (gRen (gpF h 4 4 (o + 4) (.int (nI (oCt σ + 1)))) (o + 6 + 6 * oCt σ) (o + 8 + 6 * oCt σ) (o + 10 + 6 * oCt σ) x (o + 80) (nI l)) 1 (o + 79) (oQu σ).length (.int (nI (oCt σ)))) 3 1 (o + 78) (.int (nI ((oQu σ).length + 1)))) := (chg2.pA ⟨by omega, by omega, by omega⟩ (Or.inl rfl)).pF ⟨by omega, by omega⟩ rfl
  have c3 : CR o (startM σ l t) (gpF (gpA (gRen (gpF h 4 4 (o + 4) (.int (nI (oCt σ + 1)))) (o + 6 + 6 * oCt σ) (o + 8 + 6 * oCt σ) (o + 10 + 6 * oCt σ) x (o + 80) (nI l)) 1 (o + 79) (oQu σ).length (.int (nI (oCt σ)))) 3 1 (o + 78) (.int (nI ((oQu σ).length + 1)))) := c2.sQu wf (((Chg.rf o _).pA ⟨by omega, by omega, by omega⟩ (Or.inl rfl)).pF ⟨by omega, by omega⟩ rfl) (((Keep.rf o _).pA (by omega)).pF (by omega)) (cQu_add c2.2.2.2.1) (fun y hy => ((Same.rf o y _).pA ⟨by omega, by have : y < oCt σ + 1 := hy; omega⟩).pF ⟨by omega, by omega⟩)
  refine x_aload_n d_S_start_0 rfl rfl ?_
  refine x_getf (v := .int (nI (oCt σ))) d_S_start_1 lf_S_40 z.1.1.kS z.2.2.2.2.1 ?_
  refine x_bipush (v := 12) d_S_start_4 (by decide) ?_
  refine x_icmp_lt (tgt := 11) d_S_start_6 rfl (fun q6 => ?_) (fun w_ => absurd (nI_lt (b := 12) hf (by decide)) w_)
  refine x_aload_n d_S_start_11 rfl rfl ?_
  refine x_getf (v := .ref (o + 5)) d_S_start_12 lf_S_11 z.1.1.kS z.1.1.S0 ?_
  refine x_aload_n d_S_start_15 rfl rfl ?_
  refine x_getf (v := .int (nI (oCt σ))) d_S_start_16 lf_S_40 z.1.1.kS z.2.2.2.2.1 ?_
  refine x_aald (v := .ref (o + 6 + 6 * oCt σ)) d_S_start_19 z.1.1.kT rfl (vp_in_nI hf (by decide)) (by rw [nI_cl (by omega)]; exact z.1.1.tab _ hf) ?_
  refine x_astore_n d_S_start_20 rfl (by decide) (L' := [some (.ref (o + 4)), some (.int (nI l)), some (.ref x), some (.ref (o + 6 + 6 * oCt σ))]) rfl ?_
  refine x_aload_n d_S_start_21 rfl rfl ?_
  refine x_dup d_S_start_22 rfl ?_
  refine x_getf (v := .int (nI (oCt σ))) d_S_start_23 lf_S_40 z.1.1.kS z.2.2.2.2.1 ?_
  refine x_iconst (v := 1) d_S_start_26 (by decide) ?_
  refine x_iadd (v := (nI (oCt σ + 1))) d_S_start_27 (nI_1 _) ?_
  refine x_putf d_S_start_28 lp_S_40 z.1.1.kS ⟨_, rfl⟩ ?_
  refine x_aload_n d_S_start_31 rfl rfl ?_
  refine x_iload_n d_S_start_32 rfl rfl ?_
  refine x_aload_n d_S_start_33 rfl rfl ?_
  refine x_aload_n d_S_start_34 rfl rfl ?_
  refine x_getf (v := .ref (o + 80)) d_S_start_35 lf_S_32 z.1.1.kS (by simp [gF_pF, gF_pA, gF_nO, gF_nA, gF_sA, z.1.1.S2]) ?_
  refine x_invv d_S_start_38 lm_S_57 (as := [.int (nI l), .ref x, .ref (o + 80)]) (S := []) (c_P_renew (h := (gpF h 4 4 (o + 4) (.int (nI (oCt σ + 1))))) (ra := o + 8 + 6 * oCt σ) (mb := o + 10 + 6 * oCt σ) (z.1.2 _ hf).k (z.1.2 _ hf).kr (z.1.2 _ hf).kmb hx.k z.1.1.nil.k (by simp [gF_pF, (z.1.2 _ hf).rg]) (by simp [gF_pF, (z.1.2 _ hf).mb]) (nI l)) (z.1.2 _ hf).k rfl rfl rfl (Nat.le_of_ble_eq_true rfl) (Nat.le_refl 2) (Nat.le_refl 0) (Nat.le_refl 0) ?_
  rintro _ _ ⟨rfl, rfl⟩
  refine x_aload_n d_S_start_41 rfl rfl ?_
  refine x_getf (v := .ref (o + 78)) d_S_start_42 lf_S_23 z.1.1.kS (by rw [gF_ren ⟨by omega, by omega⟩]; simp [gF_pF, z.1.1.S1]) ?_
  refine x_aload_n d_S_start_45 rfl rfl ?_
  refine x_getf (v := .int (nI (oCt σ))) d_S_start_46 lf_S_61 (z.1.2 _ hf).k (by simp [gRen, gF_pF, gF_sA, (z.1.2 _ hf).n]) ?_
  refine x_invv d_S_start_49 lm_S_62 (as := [.int (nI (oCt σ))]) (S := []) (c_L_append (h := (gRen (gpF h 4 4 (o + 4) (.int (nI (oCt σ + 1)))) (o + 6 + 6 * oCt σ) (o + 8 + 6 * oCt σ) (o + 10 + 6 * oCt σ) x (o + 80) (nI l))) (ln := o + 78) (na := o + 79) (n := (oQu σ).length) (q := fun _ => 0) z.1.1.kL z.1.1.kLa (by rw [gF_ren ⟨by omega, by omega⟩]; simp [gF_pF, z.1.1.L0]) (by rw [gF_ren ⟨by omega, by omega⟩]; simp [gF_pF, z.2.2.2.1.1]) hql (nI (oCt σ))) z.1.1.kL rfl rfl rfl (Nat.le_of_ble_eq_true rfl) (by decide) (Nat.le_refl 0) (Nat.le_refl 0) ?_
  rintro _ _ ⟨rfl, rfl⟩
  refine x_aload_n d_S_start_52 rfl rfl ?_
  exact x_aret d_S_start_53 rfl (Or.inl ⟨_, rfl⟩) (Or.inr ⟨_, rfl⟩) ⟨rfl, c3, chg3⟩
theorem c_S_dissolve {E : th_E} {h : th_H} {o : Nat} {σ : Ho} (z : CR o σ h) : Xc E m_S_dissolve 1 0 0 [.ref (o + 4)] h (Mv o h none (dissolveM σ)) := by
  refine Xc.of (by decide) (by simp [Value.category]) (Nat.le_of_ble_eq_true rfl) ?_
  show Xw E m_S_dissolve 1 0 0 0 [some (.ref (o + 4))] [] h _
  refine Xw.wf (fun wf => ?_)
  have chg : Chg o h (gpF (gpF h 4 4 (o + 4) (.int (nI 0))) 3 1 (o + 78) (.int 0)) := ((Chg.rf o h).pF ⟨by omega, by omega⟩ rfl).pF ⟨by omega, by omega⟩ rfl
  have c2 : CR o (dissolveM σ) (gpF (gpF h 4 4 (o + 4) (.int (nI 0))) 3 1 (o + 78) (.int 0)) := CR.to z wf chg (by simp [gF_pF, z.2.1.1, dissolveM]) (by simp [gF_pF, z.2.1.2, dissolveM]) ⟨by simp [gF_pF, z.2.2.1.1, dissolveM], (fun i q hq => z.2.2.1.2 i q hq)⟩ ⟨by rw [gF_pF, if_pos ⟨rfl, rfl, rfl⟩]; rfl, (fun i y hy => by cases hy)⟩ (by rw [gF_pF, if_neg (by simp), gF_pF, if_pos ⟨rfl, rfl, rfl⟩]; rfl) (fun q hq => absurd hq (Nat.not_lt_zero _))
  refine x_aload_n d_S_dissolve_0 rfl rfl ?_
  refine x_iconst (v := (nI 0)) d_S_dissolve_1 (by decide) ?_
  refine x_putf d_S_dissolve_2 lp_S_40 z.1.1.kS ⟨_, rfl⟩ ?_
  refine x_aload_n d_S_dissolve_5 rfl rfl ?_
  refine x_getf (v := .ref (o + 78)) d_S_dissolve_6 lf_S_23 z.1.1.kS (by simp [gF_pF, gF_pA, gF_nO, gF_nA, gF_sA, z.1.1.S1]) ?_
  refine x_invv d_S_dissolve_9 lm_S_44 (as := []) (S := []) (c_L_empty (h := (gpF h 4 4 (o + 4) (.int (nI 0)))) (ln := o + 78) (na := o + 79) (n := (oQu σ).length) (q := fun _ => 0) z.1.1.kL z.1.1.kLa (by simp [gF_pF, z.1.1.L0]) (by simp [gF_pF, z.2.2.2.1.1])) z.1.1.kL rfl rfl rfl (Nat.le_of_ble_eq_true rfl) (Nat.le_refl 1) (Nat.le_refl 0) (Nat.le_refl 0) ?_
  rintro _ _ ⟨rfl, rfl⟩
  exact x_ret ⟨rfl, c2, chg⟩ rfl d_S_dissolve_12
