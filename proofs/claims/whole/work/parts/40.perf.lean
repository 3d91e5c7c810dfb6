/-! Machine.perform, an operation a row (printed by wip/gen/mod_perf.py). -/
/-- the end of perform, by what the model says -/
def Pf (o : Nat) (h : th_H) (σ : Ho) (r : Option Ho) : Option Value → th_H → Prop := fun v h' => match r with
  | some σ' => v = some (.int 1) ∧ CR o σ' h' ∧ Chg o h h'
  | none => v = some (.int 0) ∧ CR o σ h' ∧ Chg o h h'
theorem Pf.ok {o : Nat} {h : th_H} {σ σ' : Ho} {r : Option Ho} {h' : th_H} (e : r = some σ') (z : CR o σ' h') (c : Chg o h h') : Pf o h σ r (some (.int 1)) h' := by subst e; exact ⟨rfl, z, c⟩
theorem Pf.no {o : Nat} {h : th_H} {σ : Ho} {r : Option Ho} {h' : th_H} (e : r = none) (z : CR o σ h') (c : Chg o h h') : Pf o h σ r (some (.int 0)) h' := by subst e; exact ⟨rfl, z, c⟩
theorem i32_ge {x y : Int32} (h : ¬ x < y) : y ≤ x := by
  refine Int32.le_iff_toInt_le.mpr ?_
  have h1 : ¬ x.toInt < y.toInt := fun z => h (Int32.lt_iff_toInt_lt.mpr z)
  omega
theorem c_perf0 {E : th_E} {h : th_H} {o : Nat} {σ : Ho} (z : CR o σ h) {N p : Nat} (v : vPs N σ) (hp : p < oCt σ) {a : Nat} (ha : a < 8) (b c : Int32) : Xc E m_M_perform 53 1 (5 * 1) [.ref (o + 1), .ref (o + 6 + 6 * p), .int (nI 0), .int (nI a), .int b, .int c] h (Pf o h σ (performM σ p 0 (nI a) b c)) := by
  have hp12 : p < 12 := by have := v.1; omega
  have hc := v.1
  have zp := z.2.2.2.2.2 p hp
  refine Xc.of (by decide) (by simp [Value.category]) (Nat.le_of_ble_eq_true rfl) ?_
  show Xw E m_M_perform 53 1 (5 * 1) 0 [some (.ref (o + 1)), some (.ref (o + 6 + 6 * p)), some (.int (nI 0)), some (.int (nI a)), some (.int b), some (.int c), none] [] h _
  refine Xw.wf (fun wf => ?_)
  have z1 : CR o σ (gnT h 0 b .null .null (nI 1)) := z.new hc wf (New.rf h).nT
  refine x_aload_n d_M_perform_0 rfl rfl ?_
  refine x_getf (v := .ref (o + 8 + 6 * p)) d_M_perform_1 lf_M_54 (z.1.2 p hp12).k (z.1.2 p hp12).rg ?_
  refine x_astore d_M_perform_4 (by decide) (L' := [some (.ref (o + 1)), some (.ref (o + 6 + 6 * p)), some (.int (nI 0)), some (.int (nI a)), some (.int b), some (.int c), some (.ref (o + 8 + 6 * p))]) rfl ?_
  refine x_iload_n d_M_perform_6 rfl rfl ?_
  refine x_tableIn (tgt := 128) (off := 121) d_M_perform_7 (by decide) (by decide) (by decide) rfl ?_
  refine x_aload_n d_M_perform_128 rfl rfl ?_
  refine x_iload_n d_M_perform_129 rfl rfl ?_
  refine x_new d_M_perform_130 ln_M_57 (cz' := 0) (by decide) (cs' := 0) (by decide) ?_
  refine x_dup d_M_perform_133 rfl ?_
  refine x_iconst (v := 0) d_M_perform_134 (by decide) ?_
  refine x_iload d_M_perform_135 rfl ?_
  refine x_invi d_M_perform_137 lm_M_59 (as := [.int 0, .int b]) (S := [.ref (gz h), .int (nI a), .ref (o + 6 + 6 * p)]) (cz' := 0) (cs' := 0) (c_T_init (a := gz h) 0 b (by rw [gk_nO, if_pos rfl])) rfl rfl (Nat.le_of_ble_eq_true rfl) (by decide) (by omega) (by omega) ?_
  rintro _ _ ⟨rfl, rfl⟩
  refine x_invv d_M_perform_140 lm_M_62 (as := [.int (nI a), .ref (gz h)]) (S := []) (cz' := 0) (cs' := 0) (c_P_set (z1.1.2 p hp12).k (z1.1.2 p hp12).kr (z1.1.2 p hp12).rg ha (TR_leaf h 0 b).k) (z1.1.2 p hp12).k rfl rfl rfl (Nat.le_of_ble_eq_true rfl) (by omega) (by omega) (by omega) ?_
  rintro _ _ ⟨rfl, rfl⟩
  exact x_iret d_M_perform_143 rfl rfl (Pf.ok (by simp only [performM, cl_nI (show a < 2 ^ 31 by omega)]) (z1.reg wf.nT hc hp (TR_leaf h 0 b)).1 (((New.rf h).nT.chg o).tr (z1.reg wf.nT hc hp (TR_leaf h 0 b)).2))
theorem c_perf1 {E : th_E} {h : th_H} {o : Nat} {σ : Ho} (z : CR o σ h) {N p : Nat} (v : vPs N σ) (hp : p < oCt σ) {a : Nat} (ha : a < 8) {b : Nat} (hb : b < 16) (c : Int32) : Xc E m_M_perform 53 0 0 [.ref (o + 1), .ref (o + 6 + 6 * p), .int (nI 1), .int (nI a), .int (nI b), .int c] h (Pf o h σ (performM σ p 1 (nI a) (nI b) c)) := by
  have hp12 : p < 12 := by have := v.1; omega
  have hc := v.1
  have zp := z.2.2.2.2.2 p hp
  refine Xc.of (by decide) (by simp [Value.category]) (Nat.le_of_ble_eq_true rfl) ?_
  show Xw E m_M_perform 53 0 0 0 [some (.ref (o + 1)), some (.ref (o + 6 + 6 * p)), some (.int (nI 1)), some (.int (nI a)), some (.int (nI b)), some (.int c), none] [] h _
  refine Xw.wf (fun wf => ?_)
  refine x_aload_n d_M_perform_0 rfl rfl ?_
  refine x_getf (v := .ref (o + 8 + 6 * p)) d_M_perform_1 lf_M_54 (z.1.2 p hp12).k (z.1.2 p hp12).rg ?_
  refine x_astore d_M_perform_4 (by decide) (L' := [some (.ref (o + 1)), some (.ref (o + 6 + 6 * p)), some (.int (nI 1)), some (.int (nI a)), some (.int (nI b)), some (.int c), some (.ref (o + 8 + 6 * p))]) rfl ?_
  refine x_iload_n d_M_perform_6 rfl rfl ?_
  refine x_tableIn (tgt := 144) (off := 137) d_M_perform_7 (by decide) (by decide) (by decide) rfl ?_
  refine x_aload_n d_M_perform_144 rfl rfl ?_
  refine x_iload_n d_M_perform_145 rfl rfl ?_
  refine x_aload_n d_M_perform_146 rfl rfl ?_
  refine x_getf (v := .ref (o + 4)) d_M_perform_147 lf_M_21 z.1.1.kM z.1.1.M1 ?_
  refine x_getf (v := .ref (o + 81)) d_M_perform_150 lf_M_38 z.1.1.kS z.1.1.S3 ?_
  refine x_iload d_M_perform_153 rfl ?_
  refine x_aald (v := .ref (o + 82 + b)) d_M_perform_155 z.1.1.kAt rfl (vp_in_nI hb (by decide)) (by rw [nI_cl (by omega)]; exact (z.1.1.at b hb).1) ?_
  refine x_invv d_M_perform_156 lm_M_62 (as := [.int (nI a), .ref (o + 82 + b)]) (S := []) (cz' := 0) (cs' := 0) (c_P_set (z.1.2 p hp12).k (z.1.2 p hp12).kr (z.1.2 p hp12).rg ha (z.1.1.at b hb).2.k) (z.1.2 p hp12).k rfl rfl rfl (Nat.le_of_ble_eq_true rfl) (by omega) (by omega) (by omega) ?_
  rintro _ _ ⟨rfl, rfl⟩
  exact x_iret d_M_perform_159 rfl rfl (Pf.ok (by simp only [performM, cl_nI (show a < 2 ^ 31 by omega)]) (z.reg wf hc hp (z.1.1.at b hb).2).1 ((z.reg wf hc hp (z.1.1.at b hb).2).2))
theorem c_perf2 {E : th_E} {h : th_H} {o : Nat} {σ : Ho} (z : CR o σ h) {N p : Nat} (v : vPs N σ) (hp : p < oCt σ) {a : Nat} (ha : a < 8) {b : Nat} (hb : b < 8) (c : Int32) : Xc E m_M_perform 53 0 0 [.ref (o + 1), .ref (o + 6 + 6 * p), .int (nI 2), .int (nI a), .int (nI b), .int c] h (Pf o h σ (performM σ p 2 (nI a) (nI b) c)) := by
  have hp12 : p < 12 := by have := v.1; omega
  have hc := v.1
  have zp := z.2.2.2.2.2 p hp
  obtain ⟨y, gy, ty⟩ := zp.1 b hb
  refine Xc.of (by decide) (by simp [Value.category]) (Nat.le_of_ble_eq_true rfl) ?_
  show Xw E m_M_perform 53 0 0 0 [some (.ref (o + 1)), some (.ref (o + 6 + 6 * p)), some (.int (nI 2)), some (.int (nI a)), some (.int (nI b)), some (.int c), none] [] h _
  refine Xw.wf (fun wf => ?_)
  refine x_aload_n d_M_perform_0 rfl rfl ?_
  refine x_getf (v := .ref (o + 8 + 6 * p)) d_M_perform_1 lf_M_54 (z.1.2 p hp12).k (z.1.2 p hp12).rg ?_
  refine x_astore d_M_perform_4 (by decide) (L' := [some (.ref (o + 1)), some (.ref (o + 6 + 6 * p)), some (.int (nI 2)), some (.int (nI a)), some (.int (nI b)), some (.int c), some (.ref (o + 8 + 6 * p))]) rfl ?_
  refine x_iload_n d_M_perform_6 rfl rfl ?_
  refine x_tableIn (tgt := 160) (off := 153) d_M_perform_7 (by decide) (by decide) (by decide) rfl ?_
  refine x_aload_n d_M_perform_160 rfl rfl ?_
  refine x_iload_n d_M_perform_161 rfl rfl ?_
  refine x_aload d_M_perform_162 rfl ?_
  refine x_iload d_M_perform_164 rfl ?_
  refine x_aald (v := .ref y) d_M_perform_166 (z.1.2 p hp12).kr rfl (vp_in_nI hb (by decide)) (by rw [nI_cl (by omega)]; exact gy) ?_
  refine x_invv d_M_perform_167 lm_M_62 (as := [.int (nI a), .ref y]) (S := []) (cz' := 0) (cs' := 0) (c_P_set (z.1.2 p hp12).k (z.1.2 p hp12).kr (z.1.2 p hp12).rg ha ty.k) (z.1.2 p hp12).k rfl rfl rfl (Nat.le_of_ble_eq_true rfl) (by omega) (by omega) (by omega) ?_
  rintro _ _ ⟨rfl, rfl⟩
  exact x_iret d_M_perform_170 rfl rfl (Pf.ok (by simp only [performM, cl_nI (show a < 2 ^ 31 by omega), cl_nI (show b < 2 ^ 31 by omega)]) (z.reg wf hc hp ty).1 ((z.reg wf hc hp ty).2))
theorem c_perf3 {E : th_E} {h : th_H} {o : Nat} {σ : Ho} (z : CR o σ h) {N p : Nat} (v : vPs N σ) (hp : p < oCt σ) {a : Nat} (ha : a < 8) (b c : Int32) : Xc E m_M_perform 53 0 0 [.ref (o + 1), .ref (o + 6 + 6 * p), .int (nI 3), .int (nI a), .int b, .int c] h (Pf o h σ (performM σ p 3 (nI a) b c)) := by
  have hp12 : p < 12 := by have := v.1; omega
  have hc := v.1
  have zp := z.2.2.2.2.2 p hp
  refine Xc.of (by decide) (by simp [Value.category]) (Nat.le_of_ble_eq_true rfl) ?_
  show Xw E m_M_perform 53 0 0 0 [some (.ref (o + 1)), some (.ref (o + 6 + 6 * p)), some (.int (nI 3)), some (.int (nI a)), some (.int b), some (.int c), none] [] h _
  refine Xw.wf (fun wf => ?_)
  refine x_aload_n d_M_perform_0 rfl rfl ?_
  refine x_getf (v := .ref (o + 8 + 6 * p)) d_M_perform_1 lf_M_54 (z.1.2 p hp12).k (z.1.2 p hp12).rg ?_
  refine x_astore d_M_perform_4 (by decide) (L' := [some (.ref (o + 1)), some (.ref (o + 6 + 6 * p)), some (.int (nI 3)), some (.int (nI a)), some (.int b), some (.int c), some (.ref (o + 8 + 6 * p))]) rfl ?_
  refine x_iload_n d_M_perform_6 rfl rfl ?_
  refine x_tableIn (tgt := 171) (off := 164) d_M_perform_7 (by decide) (by decide) (by decide) rfl ?_
  refine x_aload_n d_M_perform_171 rfl rfl ?_
  refine x_iload_n d_M_perform_172 rfl rfl ?_
  refine x_aload_n d_M_perform_173 rfl rfl ?_
  refine x_getf (v := .ref (o + 7 + 6 * p)) d_M_perform_174 lf_M_66 (z.1.2 p hp12).k (z.1.2 p hp12).pid ?_
  refine x_invv d_M_perform_177 lm_M_62 (as := [.int (nI a), .ref (o + 7 + 6 * p)]) (S := []) (cz' := 0) (cs' := 0) (c_P_set (z.1.2 p hp12).k (z.1.2 p hp12).kr (z.1.2 p hp12).rg ha (z.1.2 p hp12).tp.k) (z.1.2 p hp12).k rfl rfl rfl (Nat.le_of_ble_eq_true rfl) (by omega) (by omega) (by omega) ?_
  rintro _ _ ⟨rfl, rfl⟩
  exact x_iret d_M_perform_180 rfl rfl (Pf.ok (by simp only [performM, cl_nI (show a < 2 ^ 31 by omega)]) (z.reg wf hc hp (z.1.2 p hp12).tp).1 ((z.reg wf hc hp (z.1.2 p hp12).tp).2))
theorem c_perf4 {E : th_E} {h : th_H} {o : Nat} {σ : Ho} (z : CR o σ h) {N p : Nat} (v : vPs N σ) (hp : p < oCt σ) {a : Nat} (ha : a < 8) (b c : Int32) : Xc E m_M_perform 53 0 0 [.ref (o + 1), .ref (o + 6 + 6 * p), .int (nI 4), .int (nI a), .int b, .int c] h (Pf o h σ (performM σ p 4 (nI a) b c)) := by
  have hp12 : p < 12 := by have := v.1; omega
  have hc := v.1
  have zp := z.2.2.2.2.2 p hp
  refine Xc.of (by decide) (by simp [Value.category]) (Nat.le_of_ble_eq_true rfl) ?_
  show Xw E m_M_perform 53 0 0 0 [some (.ref (o + 1)), some (.ref (o + 6 + 6 * p)), some (.int (nI 4)), some (.int (nI a)), some (.int b), some (.int c), none] [] h _
  refine Xw.wf (fun wf => ?_)
  refine x_aload_n d_M_perform_0 rfl rfl ?_
  refine x_getf (v := .ref (o + 8 + 6 * p)) d_M_perform_1 lf_M_54 (z.1.2 p hp12).k (z.1.2 p hp12).rg ?_
  refine x_astore d_M_perform_4 (by decide) (L' := [some (.ref (o + 1)), some (.ref (o + 6 + 6 * p)), some (.int (nI 4)), some (.int (nI a)), some (.int b), some (.int c), some (.ref (o + 8 + 6 * p))]) rfl ?_
  refine x_iload_n d_M_perform_6 rfl rfl ?_
  refine x_tableIn (tgt := 181) (off := 174) d_M_perform_7 (by decide) (by decide) (by decide) rfl ?_
  refine x_aload_n d_M_perform_181 rfl rfl ?_
  refine x_iload_n d_M_perform_182 rfl rfl ?_
  refine x_aload_n d_M_perform_183 rfl rfl ?_
  refine x_getf (v := .ref (o + 4)) d_M_perform_184 lf_M_21 z.1.1.kM z.1.1.M1 ?_
  refine x_getf (v := .ref (o + 80)) d_M_perform_187 lf_M_70 z.1.1.kS z.1.1.S2 ?_
  refine x_invv d_M_perform_190 lm_M_62 (as := [.int (nI a), .ref (o + 80)]) (S := []) (cz' := 0) (cs' := 0) (c_P_set (z.1.2 p hp12).k (z.1.2 p hp12).kr (z.1.2 p hp12).rg ha z.1.1.nil.k) (z.1.2 p hp12).k rfl rfl rfl (Nat.le_of_ble_eq_true rfl) (by omega) (by omega) (by omega) ?_
  rintro _ _ ⟨rfl, rfl⟩
  exact x_iret d_M_perform_193 rfl rfl (Pf.ok (by simp only [performM, cl_nI (show a < 2 ^ 31 by omega)]) (z.reg wf hc hp z.1.1.nil).1 ((z.reg wf hc hp z.1.1.nil).2))
theorem c_perf5n {E : th_E} {h : th_H} {o : Nat} {σ : Ho} (z : CR o σ h) {N p : Nat} (v : vPs N σ) (hp : p < oCt σ) {a : Nat} (ha : a < 8) {b : Nat} (hb : b < 8) {c : Nat} (hcc : c < 8) (hw : 15 < 1 + tW (pRg (oPr σ p) b) + tW (pRg (oPr σ p) c)) : Xc E m_M_perform 53 1 (5 * 1) [.ref (o + 1), .ref (o + 6 + 6 * p), .int (nI 5), .int (nI a), .int (nI b), .int (nI c)] h (Pf o h σ (performM σ p 5 (nI a) (nI b) (nI c))) := by
  have hp12 : p < 12 := by have := v.1; omega
  have hc := v.1
  have zp := z.2.2.2.2.2 p hp
  obtain ⟨y, gy, ty⟩ := zp.1 b hb
  obtain ⟨u, gu, tu⟩ := zp.1 c hcc
  refine Xc.of (by decide) (by simp [Value.category]) (Nat.le_of_ble_eq_true rfl) ?_
  show Xw E m_M_perform 53 1 (5 * 1) 0 [some (.ref (o + 1)), some (.ref (o + 6 + 6 * p)), some (.int (nI 5)), some (.int (nI a)), some (.int (nI b)), some (.int (nI c)), none] [] h _
  refine Xw.wf (fun wf => ?_)
  refine x_aload_n d_M_perform_0 rfl rfl ?_
  refine x_getf (v := .ref (o + 8 + 6 * p)) d_M_perform_1 lf_M_54 (z.1.2 p hp12).k (z.1.2 p hp12).rg ?_
  refine x_astore d_M_perform_4 (by decide) (L' := [some (.ref (o + 1)), some (.ref (o + 6 + 6 * p)), some (.int (nI 5)), some (.int (nI a)), some (.int (nI b)), some (.int (nI c)), some (.ref (o + 8 + 6 * p))]) rfl ?_
  refine x_iload_n d_M_perform_6 rfl rfl ?_
  refine x_tableIn (tgt := 194) (off := 187) d_M_perform_7 (by decide) (by decide) (by decide) rfl ?_
  refine x_aload_n d_M_perform_194 rfl rfl ?_
  refine x_iload_n d_M_perform_195 rfl rfl ?_
  refine x_iconst (v := (nI 4)) d_M_perform_196 (by decide) ?_
  refine x_aload d_M_perform_197 rfl ?_
  refine x_iload d_M_perform_199 rfl ?_
  refine x_aald (v := .ref y) d_M_perform_201 (z.1.2 p hp12).kr rfl (vp_in_nI hb (by decide)) (by rw [nI_cl (by omega)]; exact gy) ?_
  refine x_aload d_M_perform_202 rfl ?_
  refine x_iload d_M_perform_204 rfl ?_
  refine x_aald (v := .ref u) d_M_perform_206 (z.1.2 p hp12).kr rfl (vp_in_nI hcc (by decide)) (by rw [nI_cl (by omega)]; exact gu) ?_
  refine x_invs d_M_perform_207 lm_M_73 (as := [.int (nI 4), .ref y, .ref u]) (S := [.int (nI a), .ref (o + 6 + 6 * p)]) (cz' := 0) (cs' := 0) (c_T_joined_no (nI 4) ty.k tu.k ty.w tu.w hw (by have := (v.2.2 p hp).1 b; have := (v.2.2 p hp).1 c; have := this.2; have := ((v.2.2 p hp).1 b).2; omega)) rfl rfl (Nat.le_of_ble_eq_true rfl) (by decide) (by omega) (by omega) ?_
  rintro _ _ ⟨rfl, rfl⟩
  refine x_invv d_M_perform_210 lm_M_62 (as := [.int (nI a), .null]) (S := []) (cz' := 0) (cs' := 0) (c_P_set_null (z.1.2 p hp12).k (nI a)) (z.1.2 p hp12).k rfl rfl rfl (Nat.le_of_ble_eq_true rfl) (by decide) (by omega) (by omega) ?_
  rintro _ _ ⟨rfl, rfl⟩
  exact x_iret d_M_perform_213 rfl rfl (Pf.no (by simp only [performM, cl_nI (show b < 2 ^ 31 by omega), cl_nI (show c < 2 ^ 31 by omega), if_pos hw]) z (Chg.rf o h))
theorem c_perf5y {E : th_E} {h : th_H} {o : Nat} {σ : Ho} (z : CR o σ h) {N p : Nat} (v : vPs N σ) (hp : p < oCt σ) {a : Nat} (ha : a < 8) {b : Nat} (hb : b < 8) {c : Nat} (hcc : c < 8) (hw : ¬ 15 < 1 + tW (pRg (oPr σ p) b) + tW (pRg (oPr σ p) c)) : Xc E m_M_perform 53 1 (5 * 1) [.ref (o + 1), .ref (o + 6 + 6 * p), .int (nI 5), .int (nI a), .int (nI b), .int (nI c)] h (Pf o h σ (performM σ p 5 (nI a) (nI b) (nI c))) := by
  have hp12 : p < 12 := by have := v.1; omega
  have hc := v.1
  have zp := z.2.2.2.2.2 p hp
  obtain ⟨y, gy, ty⟩ := zp.1 b hb
  obtain ⟨u, gu, tu⟩ := zp.1 c hcc
  refine Xc.of (by decide) (by simp [Value.category]) (Nat.le_of_ble_eq_true rfl) ?_
  show Xw E m_M_perform 53 1 (5 * 1) 0 [some (.ref (o + 1)), some (.ref (o + 6 + 6 * p)), some (.int (nI 5)), some (.int (nI a)), some (.int (nI b)), some (.int (nI c)), none] [] h _
  refine Xw.wf (fun wf => ?_)
  have z1 : CR o σ (gnT h (nI 4) 0 (.ref y) (.ref u) (nI (1 + tW (pRg (oPr σ p) b) + tW (pRg (oPr σ p) c)))) := z.new hc wf (New.rf h).nT
  refine x_aload_n d_M_perform_0 rfl rfl ?_
  refine x_getf (v := .ref (o + 8 + 6 * p)) d_M_perform_1 lf_M_54 (z.1.2 p hp12).k (z.1.2 p hp12).rg ?_
  refine x_astore d_M_perform_4 (by decide) (L' := [some (.ref (o + 1)), some (.ref (o + 6 + 6 * p)), some (.int (nI 5)), some (.int (nI a)), some (.int (nI b)), some (.int (nI c)), some (.ref (o + 8 + 6 * p))]) rfl ?_
  refine x_iload_n d_M_perform_6 rfl rfl ?_
  refine x_tableIn (tgt := 194) (off := 187) d_M_perform_7 (by decide) (by decide) (by decide) rfl ?_
  refine x_aload_n d_M_perform_194 rfl rfl ?_
  refine x_iload_n d_M_perform_195 rfl rfl ?_
  refine x_iconst (v := (nI 4)) d_M_perform_196 (by decide) ?_
  refine x_aload d_M_perform_197 rfl ?_
  refine x_iload d_M_perform_199 rfl ?_
  refine x_aald (v := .ref y) d_M_perform_201 (z.1.2 p hp12).kr rfl (vp_in_nI hb (by decide)) (by rw [nI_cl (by omega)]; exact gy) ?_
  refine x_aload d_M_perform_202 rfl ?_
  refine x_iload d_M_perform_204 rfl ?_
  refine x_aald (v := .ref u) d_M_perform_206 (z.1.2 p hp12).kr rfl (vp_in_nI hcc (by decide)) (by rw [nI_cl (by omega)]; exact gu) ?_
  refine x_invs d_M_perform_207 lm_M_73 (as := [.int (nI 4), .ref y, .ref u]) (S := [.int (nI a), .ref (o + 6 + 6 * p)]) (cz' := 0) (cs' := 0) (c_T_joined (nI 4) ty.k tu.k ty.w tu.w (by omega)) rfl rfl (Nat.le_of_ble_eq_true rfl) (by decide) (by omega) (by omega) ?_
  rintro _ _ ⟨rfl, rfl⟩
  refine x_invv d_M_perform_210 lm_M_62 (as := [.int (nI a), .ref (gz h)]) (S := []) (cz' := 0) (cs' := 0) (c_P_set (z1.1.2 p hp12).k (z1.1.2 p hp12).kr (z1.1.2 p hp12).rg ha (TR_branch wf (k := 4) ty tu).k) (z1.1.2 p hp12).k rfl rfl rfl (Nat.le_of_ble_eq_true rfl) (by omega) (by omega) (by omega) ?_
  rintro _ _ ⟨rfl, rfl⟩
  exact x_iret d_M_perform_213 rfl rfl (Pf.ok (by simp only [performM, cl_nI (show a < 2 ^ 31 by omega), cl_nI (show b < 2 ^ 31 by omega), cl_nI (show c < 2 ^ 31 by omega), if_neg hw]) (z1.reg wf.nT hc hp (TR_branch wf (k := 4) ty tu)).1 (((New.rf h).nT.chg o).tr (z1.reg wf.nT hc hp (TR_branch wf (k := 4) ty tu)).2))
theorem c_perf6n {E : th_E} {h : th_H} {o : Nat} {σ : Ho} (z : CR o σ h) {N p : Nat} (v : vPs N σ) (hp : p < oCt σ) {a : Nat} (ha : a < 8) {b : Nat} (hb : b < 8) {c : Nat} (hcc : c < 8) (hw : 15 < 1 + tW (pRg (oPr σ p) b) + tW (pRg (oPr σ p) c)) : Xc E m_M_perform 53 1 (5 * 1) [.ref (o + 1), .ref (o + 6 + 6 * p), .int (nI 6), .int (nI a), .int (nI b), .int (nI c)] h (Pf o h σ (performM σ p 6 (nI a) (nI b) (nI c))) := by
  have hp12 : p < 12 := by have := v.1; omega
  have hc := v.1
  have zp := z.2.2.2.2.2 p hp
  obtain ⟨y, gy, ty⟩ := zp.1 b hb
  obtain ⟨u, gu, tu⟩ := zp.1 c hcc
  refine Xc.of (by decide) (by simp [Value.category]) (Nat.le_of_ble_eq_true rfl) ?_
  show Xw E m_M_perform 53 1 (5 * 1) 0 [some (.ref (o + 1)), some (.ref (o + 6 + 6 * p)), some (.int (nI 6)), some (.int (nI a)), some (.int (nI b)), some (.int (nI c)), none] [] h _
  refine Xw.wf (fun wf => ?_)
  refine x_aload_n d_M_perform_0 rfl rfl ?_
  refine x_getf (v := .ref (o + 8 + 6 * p)) d_M_perform_1 lf_M_54 (z.1.2 p hp12).k (z.1.2 p hp12).rg ?_
  refine x_astore d_M_perform_4 (by decide) (L' := [some (.ref (o + 1)), some (.ref (o + 6 + 6 * p)), some (.int (nI 6)), some (.int (nI a)), some (.int (nI b)), some (.int (nI c)), some (.ref (o + 8 + 6 * p))]) rfl ?_
  refine x_iload_n d_M_perform_6 rfl rfl ?_
  refine x_tableIn (tgt := 214) (off := 207) d_M_perform_7 (by decide) (by decide) (by decide) rfl ?_
  refine x_aload_n d_M_perform_214 rfl rfl ?_
  refine x_iload_n d_M_perform_215 rfl rfl ?_
  refine x_iconst (v := (nI 5)) d_M_perform_216 (by decide) ?_
  refine x_aload d_M_perform_217 rfl ?_
  refine x_iload d_M_perform_219 rfl ?_
  refine x_aald (v := .ref y) d_M_perform_221 (z.1.2 p hp12).kr rfl (vp_in_nI hb (by decide)) (by rw [nI_cl (by omega)]; exact gy) ?_
  refine x_aload d_M_perform_222 rfl ?_
  refine x_iload d_M_perform_224 rfl ?_
  refine x_aald (v := .ref u) d_M_perform_226 (z.1.2 p hp12).kr rfl (vp_in_nI hcc (by decide)) (by rw [nI_cl (by omega)]; exact gu) ?_
  refine x_invs d_M_perform_227 lm_M_73 (as := [.int (nI 5), .ref y, .ref u]) (S := [.int (nI a), .ref (o + 6 + 6 * p)]) (cz' := 0) (cs' := 0) (c_T_joined_no (nI 5) ty.k tu.k ty.w tu.w hw (by have := (v.2.2 p hp).1 b; have := (v.2.2 p hp).1 c; have := this.2; have := ((v.2.2 p hp).1 b).2; omega)) rfl rfl (Nat.le_of_ble_eq_true rfl) (by decide) (by omega) (by omega) ?_
  rintro _ _ ⟨rfl, rfl⟩
  refine x_invv d_M_perform_230 lm_M_62 (as := [.int (nI a), .null]) (S := []) (cz' := 0) (cs' := 0) (c_P_set_null (z.1.2 p hp12).k (nI a)) (z.1.2 p hp12).k rfl rfl rfl (Nat.le_of_ble_eq_true rfl) (by decide) (by omega) (by omega) ?_
  rintro _ _ ⟨rfl, rfl⟩
  exact x_iret d_M_perform_233 rfl rfl (Pf.no (by simp only [performM, cl_nI (show b < 2 ^ 31 by omega), cl_nI (show c < 2 ^ 31 by omega), if_pos hw]) z (Chg.rf o h))
theorem c_perf6y {E : th_E} {h : th_H} {o : Nat} {σ : Ho} (z : CR o σ h) {N p : Nat} (v : vPs N σ) (hp : p < oCt σ) {a : Nat} (ha : a < 8) {b : Nat} (hb : b < 8) {c : Nat} (hcc : c < 8) (hw : ¬ 15 < 1 + tW (pRg (oPr σ p) b) + tW (pRg (oPr σ p) c)) : Xc E m_M_perform 53 1 (5 * 1) [.ref (o + 1), .ref (o + 6 + 6 * p), .int (nI 6), .int (nI a), .int (nI b), .int (nI c)] h (Pf o h σ (performM σ p 6 (nI a) (nI b) (nI c))) := by
  have hp12 : p < 12 := by have := v.1; omega
  have hc := v.1
  have zp := z.2.2.2.2.2 p hp
  obtain ⟨y, gy, ty⟩ := zp.1 b hb
  obtain ⟨u, gu, tu⟩ := zp.1 c hcc
  refine Xc.of (by decide) (by simp [Value.category]) (Nat.le_of_ble_eq_true rfl) ?_
  show Xw E m_M_perform 53 1 (5 * 1) 0 [some (.ref (o + 1)), some (.ref (o + 6 + 6 * p)), some (.int (nI 6)), some (.int (nI a)), some (.int (nI b)), some (.int (nI c)), none] [] h _
  refine Xw.wf (fun wf => ?_)
  have z1 : CR o σ (gnT h (nI 5) 0 (.ref y) (.ref u) (nI (1 + tW (pRg (oPr σ p) b) + tW (pRg (oPr σ p) c)))) := z.new hc wf (New.rf h).nT
  refine x_aload_n d_M_perform_0 rfl rfl ?_
  refine x_getf (v := .ref (o + 8 + 6 * p)) d_M_perform_1 lf_M_54 (z.1.2 p hp12).k (z.1.2 p hp12).rg ?_
  refine x_astore d_M_perform_4 (by decide) (L' := [some (.ref (o + 1)), some (.ref (o + 6 + 6 * p)), some (.int (nI 6)), some (.int (nI a)), some (.int (nI b)), some (.int (nI c)), some (.ref (o + 8 + 6 * p))]) rfl ?_
  refine x_iload_n d_M_perform_6 rfl rfl ?_
  refine x_tableIn (tgt := 214) (off := 207) d_M_perform_7 (by decide) (by decide) (by decide) rfl ?_
  refine x_aload_n d_M_perform_214 rfl rfl ?_
  refine x_iload_n d_M_perform_215 rfl rfl ?_
  refine x_iconst (v := (nI 5)) d_M_perform_216 (by decide) ?_
  refine x_aload d_M_perform_217 rfl ?_
  refine x_iload d_M_perform_219 rfl ?_
  refine x_aald (v := .ref y) d_M_perform_221 (z.1.2 p hp12).kr rfl (vp_in_nI hb (by decide)) (by rw [nI_cl (by omega)]; exact gy) ?_
  refine x_aload d_M_perform_222 rfl ?_
  refine x_iload d_M_perform_224 rfl ?_
  refine x_aald (v := .ref u) d_M_perform_226 (z.1.2 p hp12).kr rfl (vp_in_nI hcc (by decide)) (by rw [nI_cl (by omega)]; exact gu) ?_
  refine x_invs d_M_perform_227 lm_M_73 (as := [.int (nI 5), .ref y, .ref u]) (S := [.int (nI a), .ref (o + 6 + 6 * p)]) (cz' := 0) (cs' := 0) (c_T_joined (nI 5) ty.k tu.k ty.w tu.w (by omega)) rfl rfl (Nat.le_of_ble_eq_true rfl) (by decide) (by omega) (by omega) ?_
  rintro _ _ ⟨rfl, rfl⟩
  refine x_invv d_M_perform_230 lm_M_62 (as := [.int (nI a), .ref (gz h)]) (S := []) (cz' := 0) (cs' := 0) (c_P_set (z1.1.2 p hp12).k (z1.1.2 p hp12).kr (z1.1.2 p hp12).rg ha (TR_branch wf (k := 5) ty tu).k) (z1.1.2 p hp12).k rfl rfl rfl (Nat.le_of_ble_eq_true rfl) (by omega) (by omega) (by omega) ?_
  rintro _ _ ⟨rfl, rfl⟩
  exact x_iret d_M_perform_233 rfl rfl (Pf.ok (by simp only [performM, cl_nI (show a < 2 ^ 31 by omega), cl_nI (show b < 2 ^ 31 by omega), cl_nI (show c < 2 ^ 31 by omega), if_neg hw]) (z1.reg wf.nT hc hp (TR_branch wf (k := 5) ty tu)).1 (((New.rf h).nT.chg o).tr (z1.reg wf.nT hc hp (TR_branch wf (k := 5) ty tu)).2))
theorem c_perf7n {E : th_E} {h : th_H} {o : Nat} {σ : Ho} (z : CR o σ h) {N p : Nat} (v : vPs N σ) (hp : p < oCt σ) {a : Nat} (ha : a < 8) {b : Nat} (hb : b < 8) (c : Int32) {q : Int32 × Int32} (e : pRg (oPr σ p) b = .leaf q) : Xc E m_M_perform 53 0 0 [.ref (o + 1), .ref (o + 6 + 6 * p), .int (nI 7), .int (nI a), .int (nI b), .int c] h (Pf o h σ (performM σ p 7 (nI a) (nI b) c)) := by
  have hp12 : p < 12 := by have := v.1; omega
  have hc := v.1
  have zp := z.2.2.2.2.2 p hp
  obtain ⟨y, gy, ty⟩ := zp.1 b hb
  rw [e] at ty
  refine Xc.of (by decide) (by simp [Value.category]) (Nat.le_of_ble_eq_true rfl) ?_
  show Xw E m_M_perform 53 0 0 0 [some (.ref (o + 1)), some (.ref (o + 6 + 6 * p)), some (.int (nI 7)), some (.int (nI a)), some (.int (nI b)), some (.int c), none] [] h _
  refine Xw.wf (fun wf => ?_)
  refine x_aload_n d_M_perform_0 rfl rfl ?_
  refine x_getf (v := .ref (o + 8 + 6 * p)) d_M_perform_1 lf_M_54 (z.1.2 p hp12).k (z.1.2 p hp12).rg ?_
  refine x_astore d_M_perform_4 (by decide) (L' := [some (.ref (o + 1)), some (.ref (o + 6 + 6 * p)), some (.int (nI 7)), some (.int (nI a)), some (.int (nI b)), some (.int c), some (.ref (o + 8 + 6 * p))]) rfl ?_
  refine x_iload_n d_M_perform_6 rfl rfl ?_
  refine x_tableIn (tgt := 234) (off := 227) d_M_perform_7 (by decide) (by decide) (by decide) rfl ?_
  refine x_aload_n d_M_perform_234 rfl rfl ?_
  refine x_iload_n d_M_perform_235 rfl rfl ?_
  refine x_aload d_M_perform_236 rfl ?_
  refine x_iload d_M_perform_238 rfl ?_
  refine x_aald (v := .ref y) d_M_perform_240 (z.1.2 p hp12).kr rfl (vp_in_nI hb (by decide)) (by rw [nI_cl (by omega)]; exact gy) ?_
  refine x_getf (v := .null) d_M_perform_241 lf_M_77 ty.k (ty.2.2.2.1) ?_
  refine x_invv d_M_perform_244 lm_M_62 (as := [.int (nI a), .null]) (S := []) (cz' := 0) (cs' := 0) (c_P_set_null (z.1.2 p hp12).k (nI a)) (z.1.2 p hp12).k rfl rfl rfl (Nat.le_of_ble_eq_true rfl) (by decide) (by omega) (by omega) ?_
  rintro _ _ ⟨rfl, rfl⟩
  exact x_iret d_M_perform_247 rfl rfl (Pf.no (by simp only [performM, cl_nI (show b < 2 ^ 31 by omega), e]) z (Chg.rf o h))
theorem c_perf7y {E : th_E} {h : th_H} {o : Nat} {σ : Ho} (z : CR o σ h) {N p : Nat} (v : vPs N σ) (hp : p < oCt σ) {a : Nat} (ha : a < 8) {b : Nat} (hb : b < 8) (c : Int32) {k : Nat} {l r : Tm} (e : pRg (oPr σ p) b = .branch k l r) : Xc E m_M_perform 53 0 0 [.ref (o + 1), .ref (o + 6 + 6 * p), .int (nI 7), .int (nI a), .int (nI b), .int c] h (Pf o h σ (performM σ p 7 (nI a) (nI b) c)) := by
  have hp12 : p < 12 := by have := v.1; omega
  have hc := v.1
  have zp := z.2.2.2.2.2 p hp
  obtain ⟨y, gy, ty⟩ := zp.1 b hb
  rw [e] at ty
  obtain ⟨s, gs, ts⟩ := ty.2.2.2.1
  refine Xc.of (by decide) (by simp [Value.category]) (Nat.le_of_ble_eq_true rfl) ?_
  show Xw E m_M_perform 53 0 0 0 [some (.ref (o + 1)), some (.ref (o + 6 + 6 * p)), some (.int (nI 7)), some (.int (nI a)), some (.int (nI b)), some (.int c), none] [] h _
  refine Xw.wf (fun wf => ?_)
  refine x_aload_n d_M_perform_0 rfl rfl ?_
  refine x_getf (v := .ref (o + 8 + 6 * p)) d_M_perform_1 lf_M_54 (z.1.2 p hp12).k (z.1.2 p hp12).rg ?_
  refine x_astore d_M_perform_4 (by decide) (L' := [some (.ref (o + 1)), some (.ref (o + 6 + 6 * p)), some (.int (nI 7)), some (.int (nI a)), some (.int (nI b)), some (.int c), some (.ref (o + 8 + 6 * p))]) rfl ?_
  refine x_iload_n d_M_perform_6 rfl rfl ?_
  refine x_tableIn (tgt := 234) (off := 227) d_M_perform_7 (by decide) (by decide) (by decide) rfl ?_
  refine x_aload_n d_M_perform_234 rfl rfl ?_
  refine x_iload_n d_M_perform_235 rfl rfl ?_
  refine x_aload d_M_perform_236 rfl ?_
  refine x_iload d_M_perform_238 rfl ?_
  refine x_aald (v := .ref y) d_M_perform_240 (z.1.2 p hp12).kr rfl (vp_in_nI hb (by decide)) (by rw [nI_cl (by omega)]; exact gy) ?_
  refine x_getf (v := .ref s) d_M_perform_241 lf_M_77 ty.k gs ?_
  refine x_invv d_M_perform_244 lm_M_62 (as := [.int (nI a), .ref s]) (S := []) (cz' := 0) (cs' := 0) (c_P_set (z.1.2 p hp12).k (z.1.2 p hp12).kr (z.1.2 p hp12).rg ha ts.k) (z.1.2 p hp12).k rfl rfl rfl (Nat.le_of_ble_eq_true rfl) (by omega) (by omega) (by omega) ?_
  rintro _ _ ⟨rfl, rfl⟩
  exact x_iret d_M_perform_247 rfl rfl (Pf.ok (by simp only [performM, cl_nI (show a < 2 ^ 31 by omega), cl_nI (show b < 2 ^ 31 by omega), e]) (z.reg wf hc hp ts).1 ((z.reg wf hc hp ts).2))
theorem c_perf8n {E : th_E} {h : th_H} {o : Nat} {σ : Ho} (z : CR o σ h) {N p : Nat} (v : vPs N σ) (hp : p < oCt σ) {a : Nat} (ha : a < 8) {b : Nat} (hb : b < 8) (c : Int32) {q : Int32 × Int32} (e : pRg (oPr σ p) b = .leaf q) : Xc E m_M_perform 53 0 0 [.ref (o + 1), .ref (o + 6 + 6 * p), .int (nI 8), .int (nI a), .int (nI b), .int c] h (Pf o h σ (performM σ p 8 (nI a) (nI b) c)) := by
  have hp12 : p < 12 := by have := v.1; omega
  have hc := v.1
  have zp := z.2.2.2.2.2 p hp
  obtain ⟨y, gy, ty⟩ := zp.1 b hb
  rw [e] at ty
  refine Xc.of (by decide) (by simp [Value.category]) (Nat.le_of_ble_eq_true rfl) ?_
  show Xw E m_M_perform 53 0 0 0 [some (.ref (o + 1)), some (.ref (o + 6 + 6 * p)), some (.int (nI 8)), some (.int (nI a)), some (.int (nI b)), some (.int c), none] [] h _
  refine Xw.wf (fun wf => ?_)
  refine x_aload_n d_M_perform_0 rfl rfl ?_
  refine x_getf (v := .ref (o + 8 + 6 * p)) d_M_perform_1 lf_M_54 (z.1.2 p hp12).k (z.1.2 p hp12).rg ?_
  refine x_astore d_M_perform_4 (by decide) (L' := [some (.ref (o + 1)), some (.ref (o + 6 + 6 * p)), some (.int (nI 8)), some (.int (nI a)), some (.int (nI b)), some (.int c), some (.ref (o + 8 + 6 * p))]) rfl ?_
  refine x_iload_n d_M_perform_6 rfl rfl ?_
  refine x_tableIn (tgt := 248) (off := 241) d_M_perform_7 (by decide) (by decide) (by decide) rfl ?_
  refine x_aload_n d_M_perform_248 rfl rfl ?_
  refine x_iload_n d_M_perform_249 rfl rfl ?_
  refine x_aload d_M_perform_250 rfl ?_
  refine x_iload d_M_perform_252 rfl ?_
  refine x_aald (v := .ref y) d_M_perform_254 (z.1.2 p hp12).kr rfl (vp_in_nI hb (by decide)) (by rw [nI_cl (by omega)]; exact gy) ?_
  refine x_getf (v := .null) d_M_perform_255 lf_M_80 ty.k ty.2.2.2.2.1 ?_
  refine x_invv d_M_perform_258 lm_M_62 (as := [.int (nI a), .null]) (S := []) (cz' := 0) (cs' := 0) (c_P_set_null (z.1.2 p hp12).k (nI a)) (z.1.2 p hp12).k rfl rfl rfl (Nat.le_of_ble_eq_true rfl) (by decide) (by omega) (by omega) ?_
  rintro _ _ ⟨rfl, rfl⟩
  exact x_iret d_M_perform_261 rfl rfl (Pf.no (by simp only [performM, cl_nI (show b < 2 ^ 31 by omega), e]) z (Chg.rf o h))
theorem c_perf8y {E : th_E} {h : th_H} {o : Nat} {σ : Ho} (z : CR o σ h) {N p : Nat} (v : vPs N σ) (hp : p < oCt σ) {a : Nat} (ha : a < 8) {b : Nat} (hb : b < 8) (c : Int32) {k : Nat} {l r : Tm} (e : pRg (oPr σ p) b = .branch k l r) : Xc E m_M_perform 53 0 0 [.ref (o + 1), .ref (o + 6 + 6 * p), .int (nI 8), .int (nI a), .int (nI b), .int c] h (Pf o h σ (performM σ p 8 (nI a) (nI b) c)) := by
  have hp12 : p < 12 := by have := v.1; omega
  have hc := v.1
  have zp := z.2.2.2.2.2 p hp
  obtain ⟨y, gy, ty⟩ := zp.1 b hb
  rw [e] at ty
  obtain ⟨s, gs, ts⟩ := ty.2.2.2.2.1
  refine Xc.of (by decide) (by simp [Value.category]) (Nat.le_of_ble_eq_true rfl) ?_
  show Xw E m_M_perform 53 0 0 0 [some (.ref (o + 1)), some (.ref (o + 6 + 6 * p)), some (.int (nI 8)), some (.int (nI a)), some (.int (nI b)), some (.int c), none] [] h _
  refine Xw.wf (fun wf => ?_)
  refine x_aload_n d_M_perform_0 rfl rfl ?_
  refine x_getf (v := .ref (o + 8 + 6 * p)) d_M_perform_1 lf_M_54 (z.1.2 p hp12).k (z.1.2 p hp12).rg ?_
  refine x_astore d_M_perform_4 (by decide) (L' := [some (.ref (o + 1)), some (.ref (o + 6 + 6 * p)), some (.int (nI 8)), some (.int (nI a)), some (.int (nI b)), some (.int c), some (.ref (o + 8 + 6 * p))]) rfl ?_
  refine x_iload_n d_M_perform_6 rfl rfl ?_
  refine x_tableIn (tgt := 248) (off := 241) d_M_perform_7 (by decide) (by decide) (by decide) rfl ?_
  refine x_aload_n d_M_perform_248 rfl rfl ?_
  refine x_iload_n d_M_perform_249 rfl rfl ?_
  refine x_aload d_M_perform_250 rfl ?_
  refine x_iload d_M_perform_252 rfl ?_
  refine x_aald (v := .ref y) d_M_perform_254 (z.1.2 p hp12).kr rfl (vp_in_nI hb (by decide)) (by rw [nI_cl (by omega)]; exact gy) ?_
  refine x_getf (v := .ref s) d_M_perform_255 lf_M_80 ty.k gs ?_
  refine x_invv d_M_perform_258 lm_M_62 (as := [.int (nI a), .ref s]) (S := []) (cz' := 0) (cs' := 0) (c_P_set (z.1.2 p hp12).k (z.1.2 p hp12).kr (z.1.2 p hp12).rg ha ts.k) (z.1.2 p hp12).k rfl rfl rfl (Nat.le_of_ble_eq_true rfl) (by omega) (by omega) (by omega) ?_
  rintro _ _ ⟨rfl, rfl⟩
  exact x_iret d_M_perform_261 rfl rfl (Pf.ok (by simp only [performM, cl_nI (show a < 2 ^ 31 by omega), cl_nI (show b < 2 ^ 31 by omega), e]) (z.reg wf hc hp ts).1 ((z.reg wf hc hp ts).2))
theorem c_perf9n {E : th_E} {h : th_H} {o : Nat} {σ : Ho} (z : CR o σ h) {N p : Nat} (v : vPs N σ) (hp : p < oCt σ) {a : Nat} (ha : a < 8) {b : Nat} (hb : b < 8) {c : Nat} (hcc : c < 8) (hi : ¬ (tS (pRg (oPr σ p) b) = 0 ∧ tS (pRg (oPr σ p) c) = 0)) : Xc E m_M_perform 53 1 (5 * 1) [.ref (o + 1), .ref (o + 6 + 6 * p), .int (nI 9), .int (nI a), .int (nI b), .int (nI c)] h (Pf o h σ (performM σ p 9 (nI a) (nI b) (nI c))) := by
  have hp12 : p < 12 := by have := v.1; omega
  have hc := v.1
  have zp := z.2.2.2.2.2 p hp
  obtain ⟨y, gy, ty⟩ := zp.1 b hb
  obtain ⟨u, gu, tu⟩ := zp.1 c hcc
  refine Xc.of (by decide) (by simp [Value.category]) (Nat.le_of_ble_eq_true rfl) ?_
  show Xw E m_M_perform 53 1 (5 * 1) 0 [some (.ref (o + 1)), some (.ref (o + 6 + 6 * p)), some (.int (nI 9)), some (.int (nI a)), some (.int (nI b)), some (.int (nI c)), none] [] h _
  refine Xw.wf (fun wf => ?_)
  refine x_aload_n d_M_perform_0 rfl rfl ?_
  refine x_getf (v := .ref (o + 8 + 6 * p)) d_M_perform_1 lf_M_54 (z.1.2 p hp12).k (z.1.2 p hp12).rg ?_
  refine x_astore d_M_perform_4 (by decide) (L' := [some (.ref (o + 1)), some (.ref (o + 6 + 6 * p)), some (.int (nI 9)), some (.int (nI a)), some (.int (nI b)), some (.int (nI c)), some (.ref (o + 8 + 6 * p))]) rfl ?_
  refine x_iload_n d_M_perform_6 rfl rfl ?_
  refine x_tableIn (tgt := 262) (off := 255) d_M_perform_7 (by decide) (by decide) (by decide) rfl ?_
  refine x_aload d_M_perform_262 rfl ?_
  refine x_iload d_M_perform_264 rfl ?_
  refine x_aald (v := .ref y) d_M_perform_266 (z.1.2 p hp12).kr rfl (vp_in_nI hb (by decide)) (by rw [nI_cl (by omega)]; exact gy) ?_
  refine x_aload d_M_perform_267 rfl ?_
  refine x_iload d_M_perform_269 rfl ?_
  refine x_aald (v := .ref u) d_M_perform_271 (z.1.2 p hp12).kr rfl (vp_in_nI hcc (by decide)) (by rw [nI_cl (by omega)]; exact gu) ?_
  refine x_invs d_M_perform_272 lm_M_83 (as := [.ref y, .ref u]) (S := []) (cz' := 0) (cs' := 0) (c_M_areInts ty tu ⟨fun e => absurd e hi, fun _ => rfl⟩) rfl rfl (Nat.le_of_ble_eq_true rfl) (by decide) (by omega) (by omega) ?_
  rintro _ _ ⟨rfl, rfl⟩
  refine x_if_eq (tgt := 315) d_M_perform_275 rfl (fun q275 => ?_) (fun w_ => absurd rfl w_)
  refine x_iconst (v := 0) d_M_perform_315 (by decide) ?_
  exact x_iret d_M_perform_316 rfl rfl (Pf.no (by simp only [performM, cl_nI (show b < 2 ^ 31 by omega), cl_nI (show c < 2 ^ 31 by omega), if_neg hi]) z (Chg.rf o h))
theorem c_perf9y {E : th_E} {h : th_H} {o : Nat} {σ : Ho} (z : CR o σ h) {N p : Nat} (v : vPs N σ) (hp : p < oCt σ) {a : Nat} (ha : a < 8) {b : Nat} (hb : b < 8) {c : Nat} (hcc : c < 8) (hi : tS (pRg (oPr σ p) b) = 0 ∧ tS (pRg (oPr σ p) c) = 0) : Xc E m_M_perform 53 1 (5 * 1) [.ref (o + 1), .ref (o + 6 + 6 * p), .int (nI 9), .int (nI a), .int (nI b), .int (nI c)] h (Pf o h σ (performM σ p 9 (nI a) (nI b) (nI c))) := by
  have hp12 : p < 12 := by have := v.1; omega
  have hc := v.1
  have zp := z.2.2.2.2.2 p hp
  obtain ⟨y, gy, ty⟩ := zp.1 b hb
  obtain ⟨u, gu, tu⟩ := zp.1 c hcc
  refine Xc.of (by decide) (by simp [Value.category]) (Nat.le_of_ble_eq_true rfl) ?_
  show Xw E m_M_perform 53 1 (5 * 1) 0 [some (.ref (o + 1)), some (.ref (o + 6 + 6 * p)), some (.int (nI 9)), some (.int (nI a)), some (.int (nI b)), some (.int (nI c)), none] [] h _
  refine Xw.wf (fun wf => ?_)
  have z1 : CR o σ (gnT h 0 (tN (pRg (oPr σ p) b) + tN (pRg (oPr σ p) c)) .null .null (nI 1)) := z.new hc wf (New.rf h).nT
  refine x_aload_n d_M_perform_0 rfl rfl ?_
  refine x_getf (v := .ref (o + 8 + 6 * p)) d_M_perform_1 lf_M_54 (z.1.2 p hp12).k (z.1.2 p hp12).rg ?_
  refine x_astore d_M_perform_4 (by decide) (L' := [some (.ref (o + 1)), some (.ref (o + 6 + 6 * p)), some (.int (nI 9)), some (.int (nI a)), some (.int (nI b)), some (.int (nI c)), some (.ref (o + 8 + 6 * p))]) rfl ?_
  refine x_iload_n d_M_perform_6 rfl rfl ?_
  refine x_tableIn (tgt := 262) (off := 255) d_M_perform_7 (by decide) (by decide) (by decide) rfl ?_
  refine x_aload d_M_perform_262 rfl ?_
  refine x_iload d_M_perform_264 rfl ?_
  refine x_aald (v := .ref y) d_M_perform_266 (z.1.2 p hp12).kr rfl (vp_in_nI hb (by decide)) (by rw [nI_cl (by omega)]; exact gy) ?_
  refine x_aload d_M_perform_267 rfl ?_
  refine x_iload d_M_perform_269 rfl ?_
  refine x_aald (v := .ref u) d_M_perform_271 (z.1.2 p hp12).kr rfl (vp_in_nI hcc (by decide)) (by rw [nI_cl (by omega)]; exact gu) ?_
  refine x_invs d_M_perform_272 lm_M_83 (as := [.ref y, .ref u]) (S := []) (cz' := 1) (cs' := 5) (c_M_areInts ty tu ⟨fun _ => rfl, fun e => absurd hi e⟩) rfl rfl (Nat.le_of_ble_eq_true rfl) (by decide) (by omega) (by omega) ?_
  rintro _ _ ⟨rfl, rfl⟩
  refine x_if_eq (tgt := 315) d_M_perform_275 rfl (fun w_ => absurd w_ (by decide)) (fun q275 => ?_)
  refine x_aload_n d_M_perform_278 rfl rfl ?_
  refine x_iload_n d_M_perform_279 rfl rfl ?_
  refine x_new d_M_perform_280 ln_M_57 (cz' := 0) (by decide) (cs' := 0) (by decide) ?_
  refine x_dup d_M_perform_283 rfl ?_
  refine x_iconst (v := 0) d_M_perform_284 (by decide) ?_
  refine x_aload d_M_perform_285 rfl ?_
  refine x_iload d_M_perform_287 rfl ?_
  refine x_aald (v := .ref y) d_M_perform_289 (by rw [gk_nO, if_neg (Nat.ne_of_lt (wf _ _ (z.1.2 p hp12).kr))]; exact (z.1.2 p hp12).kr) rfl (vp_in_nI hb (by decide)) (by rw [gA_nO, nI_cl (by omega)]; exact gy) ?_
  refine x_getf (v := .int (tN (pRg (oPr σ p) b))) d_M_perform_290 lf_M_87 (by rw [gk_nO, if_neg (Nat.ne_of_lt (wf _ _ ty.k))]; exact ty.k) (by rw [gF_nO, if_neg (fun w_ => Nat.ne_of_lt (wf _ _ ty.k) w_.2)]; exact ty.n) ?_
  refine x_aload d_M_perform_293 rfl ?_
  refine x_iload d_M_perform_295 rfl ?_
  refine x_aald (v := .ref u) d_M_perform_297 (by rw [gk_nO, if_neg (Nat.ne_of_lt (wf _ _ (z.1.2 p hp12).kr))]; exact (z.1.2 p hp12).kr) rfl (vp_in_nI hcc (by decide)) (by rw [gA_nO, nI_cl (by omega)]; exact gu) ?_
  refine x_getf (v := .int (tN (pRg (oPr σ p) c))) d_M_perform_298 lf_M_87 (by rw [gk_nO, if_neg (Nat.ne_of_lt (wf _ _ tu.k))]; exact tu.k) (by rw [gF_nO, if_neg (fun w_ => Nat.ne_of_lt (wf _ _ tu.k) w_.2)]; exact tu.n) ?_
  refine x_iadd (v := ((tN (pRg (oPr σ p) b)) + (tN (pRg (oPr σ p) c)))) d_M_perform_301 rfl ?_
  refine x_invi d_M_perform_302 lm_M_59 (as := [.int 0, .int ((tN (pRg (oPr σ p) b)) + (tN (pRg (oPr σ p) c)))]) (S := [.ref (gz h), .int (nI a), .ref (o + 6 + 6 * p)]) (cz' := 0) (cs' := 0) (c_T_init (a := gz h) 0 (tN (pRg (oPr σ p) b) + tN (pRg (oPr σ p) c)) (by rw [gk_nO, if_pos rfl])) rfl rfl (Nat.le_of_ble_eq_true rfl) (by decide) (by omega) (by omega) ?_
  rintro _ _ ⟨rfl, rfl⟩
  refine x_invv d_M_perform_305 lm_M_62 (as := [.int (nI a), .ref (gz h)]) (S := []) (cz' := 0) (cs' := 0) (c_P_set (z1.1.2 p hp12).k (z1.1.2 p hp12).kr (z1.1.2 p hp12).rg ha (TR_leaf h 0 (tN (pRg (oPr σ p) b) + tN (pRg (oPr σ p) c))).k) (z1.1.2 p hp12).k rfl rfl rfl (Nat.le_of_ble_eq_true rfl) (by omega) (by omega) (by omega) ?_
  rintro _ _ ⟨rfl, rfl⟩
  refine x_if_eq (tgt := 315) d_M_perform_308 rfl (fun w_ => absurd w_ (by decide)) (fun q308 => ?_)
  refine x_iconst (v := 1) d_M_perform_311 (by decide) ?_
  refine x_goto (tgt := 316) d_M_perform_312 rfl ?_
  exact x_iret d_M_perform_316 rfl rfl (Pf.ok (by simp only [performM, cl_nI (show a < 2 ^ 31 by omega), cl_nI (show b < 2 ^ 31 by omega), cl_nI (show c < 2 ^ 31 by omega), if_pos hi]) (z1.reg wf.nT hc hp (TR_leaf h 0 (tN (pRg (oPr σ p) b) + tN (pRg (oPr σ p) c)))).1 (((New.rf h).nT.chg o).tr (z1.reg wf.nT hc hp (TR_leaf h 0 (tN (pRg (oPr σ p) b) + tN (pRg (oPr σ p) c)))).2))
theorem c_perf10n {E : th_E} {h : th_H} {o : Nat} {σ : Ho} (z : CR o σ h) {N p : Nat} (v : vPs N σ) (hp : p < oCt σ) {a : Nat} (ha : a < 8) {b : Nat} (hb : b < 8) {c : Nat} (hcc : c < 8) (hi : ¬ (tS (pRg (oPr σ p) b) = 0 ∧ tS (pRg (oPr σ p) c) = 0)) : Xc E m_M_perform 53 1 (5 * 1) [.ref (o + 1), .ref (o + 6 + 6 * p), .int (nI 10), .int (nI a), .int (nI b), .int (nI c)] h (Pf o h σ (performM σ p 10 (nI a) (nI b) (nI c))) := by
  have hp12 : p < 12 := by have := v.1; omega
  have hc := v.1
  have zp := z.2.2.2.2.2 p hp
  obtain ⟨y, gy, ty⟩ := zp.1 b hb
  obtain ⟨u, gu, tu⟩ := zp.1 c hcc
  refine Xc.of (by decide) (by simp [Value.category]) (Nat.le_of_ble_eq_true rfl) ?_
  show Xw E m_M_perform 53 1 (5 * 1) 0 [some (.ref (o + 1)), some (.ref (o + 6 + 6 * p)), some (.int (nI 10)), some (.int (nI a)), some (.int (nI b)), some (.int (nI c)), none] [] h _
  refine Xw.wf (fun wf => ?_)
  refine x_aload_n d_M_perform_0 rfl rfl ?_
  refine x_getf (v := .ref (o + 8 + 6 * p)) d_M_perform_1 lf_M_54 (z.1.2 p hp12).k (z.1.2 p hp12).rg ?_
  refine x_astore d_M_perform_4 (by decide) (L' := [some (.ref (o + 1)), some (.ref (o + 6 + 6 * p)), some (.int (nI 10)), some (.int (nI a)), some (.int (nI b)), some (.int (nI c)), some (.ref (o + 8 + 6 * p))]) rfl ?_
  refine x_iload_n d_M_perform_6 rfl rfl ?_
  refine x_tableIn (tgt := 317) (off := 310) d_M_perform_7 (by decide) (by decide) (by decide) rfl ?_
  refine x_aload d_M_perform_317 rfl ?_
  refine x_iload d_M_perform_319 rfl ?_
  refine x_aald (v := .ref y) d_M_perform_321 (z.1.2 p hp12).kr rfl (vp_in_nI hb (by decide)) (by rw [nI_cl (by omega)]; exact gy) ?_
  refine x_aload d_M_perform_322 rfl ?_
  refine x_iload d_M_perform_324 rfl ?_
  refine x_aald (v := .ref u) d_M_perform_326 (z.1.2 p hp12).kr rfl (vp_in_nI hcc (by decide)) (by rw [nI_cl (by omega)]; exact gu) ?_
  refine x_invs d_M_perform_327 lm_M_83 (as := [.ref y, .ref u]) (S := []) (cz' := 0) (cs' := 0) (c_M_areInts ty tu ⟨fun e => absurd e hi, fun _ => rfl⟩) rfl rfl (Nat.le_of_ble_eq_true rfl) (by decide) (by omega) (by omega) ?_
  rintro _ _ ⟨rfl, rfl⟩
  refine x_if_eq (tgt := 370) d_M_perform_330 rfl (fun q330 => ?_) (fun w_ => absurd rfl w_)
  refine x_iconst (v := 0) d_M_perform_370 (by decide) ?_
  exact x_iret d_M_perform_371 rfl rfl (Pf.no (by simp only [performM, cl_nI (show b < 2 ^ 31 by omega), cl_nI (show c < 2 ^ 31 by omega), if_neg hi]) z (Chg.rf o h))
theorem c_perf10y {E : th_E} {h : th_H} {o : Nat} {σ : Ho} (z : CR o σ h) {N p : Nat} (v : vPs N σ) (hp : p < oCt σ) {a : Nat} (ha : a < 8) {b : Nat} (hb : b < 8) {c : Nat} (hcc : c < 8) (hi : tS (pRg (oPr σ p) b) = 0 ∧ tS (pRg (oPr σ p) c) = 0) : Xc E m_M_perform 53 1 (5 * 1) [.ref (o + 1), .ref (o + 6 + 6 * p), .int (nI 10), .int (nI a), .int (nI b), .int (nI c)] h (Pf o h σ (performM σ p 10 (nI a) (nI b) (nI c))) := by
  have hp12 : p < 12 := by have := v.1; omega
  have hc := v.1
  have zp := z.2.2.2.2.2 p hp
  obtain ⟨y, gy, ty⟩ := zp.1 b hb
  obtain ⟨u, gu, tu⟩ := zp.1 c hcc
  refine Xc.of (by decide) (by simp [Value.category]) (Nat.le_of_ble_eq_true rfl) ?_
  show Xw E m_M_perform 53 1 (5 * 1) 0 [some (.ref (o + 1)), some (.ref (o + 6 + 6 * p)), some (.int (nI 10)), some (.int (nI a)), some (.int (nI b)), some (.int (nI c)), none] [] h _
  refine Xw.wf (fun wf => ?_)
  have z1 : CR o σ (gnT h 0 (tN (pRg (oPr σ p) b) - tN (pRg (oPr σ p) c)) .null .null (nI 1)) := z.new hc wf (New.rf h).nT
  refine x_aload_n d_M_perform_0 rfl rfl ?_
  refine x_getf (v := .ref (o + 8 + 6 * p)) d_M_perform_1 lf_M_54 (z.1.2 p hp12).k (z.1.2 p hp12).rg ?_
  refine x_astore d_M_perform_4 (by decide) (L' := [some (.ref (o + 1)), some (.ref (o + 6 + 6 * p)), some (.int (nI 10)), some (.int (nI a)), some (.int (nI b)), some (.int (nI c)), some (.ref (o + 8 + 6 * p))]) rfl ?_
  refine x_iload_n d_M_perform_6 rfl rfl ?_
  refine x_tableIn (tgt := 317) (off := 310) d_M_perform_7 (by decide) (by decide) (by decide) rfl ?_
  refine x_aload d_M_perform_317 rfl ?_
  refine x_iload d_M_perform_319 rfl ?_
  refine x_aald (v := .ref y) d_M_perform_321 (z.1.2 p hp12).kr rfl (vp_in_nI hb (by decide)) (by rw [nI_cl (by omega)]; exact gy) ?_
  refine x_aload d_M_perform_322 rfl ?_
  refine x_iload d_M_perform_324 rfl ?_
  refine x_aald (v := .ref u) d_M_perform_326 (z.1.2 p hp12).kr rfl (vp_in_nI hcc (by decide)) (by rw [nI_cl (by omega)]; exact gu) ?_
  refine x_invs d_M_perform_327 lm_M_83 (as := [.ref y, .ref u]) (S := []) (cz' := 1) (cs' := 5) (c_M_areInts ty tu ⟨fun _ => rfl, fun e => absurd hi e⟩) rfl rfl (Nat.le_of_ble_eq_true rfl) (by decide) (by omega) (by omega) ?_
  rintro _ _ ⟨rfl, rfl⟩
  refine x_if_eq (tgt := 370) d_M_perform_330 rfl (fun w_ => absurd w_ (by decide)) (fun q330 => ?_)
  refine x_aload_n d_M_perform_333 rfl rfl ?_
  refine x_iload_n d_M_perform_334 rfl rfl ?_
  refine x_new d_M_perform_335 ln_M_57 (cz' := 0) (by decide) (cs' := 0) (by decide) ?_
  refine x_dup d_M_perform_338 rfl ?_
  refine x_iconst (v := 0) d_M_perform_339 (by decide) ?_
  refine x_aload d_M_perform_340 rfl ?_
  refine x_iload d_M_perform_342 rfl ?_
  refine x_aald (v := .ref y) d_M_perform_344 (by rw [gk_nO, if_neg (Nat.ne_of_lt (wf _ _ (z.1.2 p hp12).kr))]; exact (z.1.2 p hp12).kr) rfl (vp_in_nI hb (by decide)) (by rw [gA_nO, nI_cl (by omega)]; exact gy) ?_
  refine x_getf (v := .int (tN (pRg (oPr σ p) b))) d_M_perform_345 lf_M_87 (by rw [gk_nO, if_neg (Nat.ne_of_lt (wf _ _ ty.k))]; exact ty.k) (by rw [gF_nO, if_neg (fun w_ => Nat.ne_of_lt (wf _ _ ty.k) w_.2)]; exact ty.n) ?_
  refine x_aload d_M_perform_348 rfl ?_
  refine x_iload d_M_perform_350 rfl ?_
  refine x_aald (v := .ref u) d_M_perform_352 (by rw [gk_nO, if_neg (Nat.ne_of_lt (wf _ _ (z.1.2 p hp12).kr))]; exact (z.1.2 p hp12).kr) rfl (vp_in_nI hcc (by decide)) (by rw [gA_nO, nI_cl (by omega)]; exact gu) ?_
  refine x_getf (v := .int (tN (pRg (oPr σ p) c))) d_M_perform_353 lf_M_87 (by rw [gk_nO, if_neg (Nat.ne_of_lt (wf _ _ tu.k))]; exact tu.k) (by rw [gF_nO, if_neg (fun w_ => Nat.ne_of_lt (wf _ _ tu.k) w_.2)]; exact tu.n) ?_
  refine x_isub (v := ((tN (pRg (oPr σ p) b)) - (tN (pRg (oPr σ p) c)))) d_M_perform_356 rfl ?_
  refine x_invi d_M_perform_357 lm_M_59 (as := [.int 0, .int ((tN (pRg (oPr σ p) b)) - (tN (pRg (oPr σ p) c)))]) (S := [.ref (gz h), .int (nI a), .ref (o + 6 + 6 * p)]) (cz' := 0) (cs' := 0) (c_T_init (a := gz h) 0 (tN (pRg (oPr σ p) b) - tN (pRg (oPr σ p) c)) (by rw [gk_nO, if_pos rfl])) rfl rfl (Nat.le_of_ble_eq_true rfl) (by decide) (by omega) (by omega) ?_
  rintro _ _ ⟨rfl, rfl⟩
  refine x_invv d_M_perform_360 lm_M_62 (as := [.int (nI a), .ref (gz h)]) (S := []) (cz' := 0) (cs' := 0) (c_P_set (z1.1.2 p hp12).k (z1.1.2 p hp12).kr (z1.1.2 p hp12).rg ha (TR_leaf h 0 (tN (pRg (oPr σ p) b) - tN (pRg (oPr σ p) c))).k) (z1.1.2 p hp12).k rfl rfl rfl (Nat.le_of_ble_eq_true rfl) (by omega) (by omega) (by omega) ?_
  rintro _ _ ⟨rfl, rfl⟩
  refine x_if_eq (tgt := 370) d_M_perform_363 rfl (fun w_ => absurd w_ (by decide)) (fun q363 => ?_)
  refine x_iconst (v := 1) d_M_perform_366 (by decide) ?_
  refine x_goto (tgt := 371) d_M_perform_367 rfl ?_
  exact x_iret d_M_perform_371 rfl rfl (Pf.ok (by simp only [performM, cl_nI (show a < 2 ^ 31 by omega), cl_nI (show b < 2 ^ 31 by omega), cl_nI (show c < 2 ^ 31 by omega), if_pos hi]) (z1.reg wf.nT hc hp (TR_leaf h 0 (tN (pRg (oPr σ p) b) - tN (pRg (oPr σ p) c)))).1 (((New.rf h).nT.chg o).tr (z1.reg wf.nT hc hp (TR_leaf h 0 (tN (pRg (oPr σ p) b) - tN (pRg (oPr σ p) c)))).2))
theorem c_perf11n {E : th_E} {h : th_H} {o : Nat} {σ : Ho} (z : CR o σ h) {N p : Nat} (v : vPs N σ) (hp : p < oCt σ) {a : Nat} (ha : a < 8) {b : Nat} (hb : b < 8) {c : Nat} (hcc : c < 48) (hi : ¬ (tS (pRg (oPr σ p) a) = 0 ∧ tS (pRg (oPr σ p) b) = 0)) : Xc E m_M_perform 53 0 0 [.ref (o + 1), .ref (o + 6 + 6 * p), .int (nI 11), .int (nI a), .int (nI b), .int (nI c)] h (Pf o h σ (performM σ p 11 (nI a) (nI b) (nI c))) := by
  have hp12 : p < 12 := by have := v.1; omega
  have hc := v.1
  have zp := z.2.2.2.2.2 p hp
  obtain ⟨x, gx, tx⟩ := zp.1 a ha
  obtain ⟨y, gy, ty⟩ := zp.1 b hb
  refine Xc.of (by decide) (by simp [Value.category]) (Nat.le_of_ble_eq_true rfl) ?_
  show Xw E m_M_perform 53 0 0 0 [some (.ref (o + 1)), some (.ref (o + 6 + 6 * p)), some (.int (nI 11)), some (.int (nI a)), some (.int (nI b)), some (.int (nI c)), none] [] h _
  refine Xw.wf (fun wf => ?_)
  refine x_aload_n d_M_perform_0 rfl rfl ?_
  refine x_getf (v := .ref (o + 8 + 6 * p)) d_M_perform_1 lf_M_54 (z.1.2 p hp12).k (z.1.2 p hp12).rg ?_
  refine x_astore d_M_perform_4 (by decide) (L' := [some (.ref (o + 1)), some (.ref (o + 6 + 6 * p)), some (.int (nI 11)), some (.int (nI a)), some (.int (nI b)), some (.int (nI c)), some (.ref (o + 8 + 6 * p))]) rfl ?_
  refine x_iload_n d_M_perform_6 rfl rfl ?_
  refine x_tableIn (tgt := 372) (off := 365) d_M_perform_7 (by decide) (by decide) (by decide) rfl ?_
  refine x_aload d_M_perform_372 rfl ?_
  refine x_iload_n d_M_perform_374 rfl rfl ?_
  refine x_aald (v := .ref x) d_M_perform_375 (z.1.2 p hp12).kr rfl (vp_in_nI ha (by decide)) (by rw [nI_cl (by omega)]; exact gx) ?_
  refine x_aload d_M_perform_376 rfl ?_
  refine x_iload d_M_perform_378 rfl ?_
  refine x_aald (v := .ref y) d_M_perform_380 (z.1.2 p hp12).kr rfl (vp_in_nI hb (by decide)) (by rw [nI_cl (by omega)]; exact gy) ?_
  refine x_invs d_M_perform_381 lm_M_83 (as := [.ref x, .ref y]) (S := []) (c_M_areInts tx ty ⟨fun e => absurd e hi, fun _ => rfl⟩) rfl rfl (Nat.le_of_ble_eq_true rfl) (by decide) (Nat.le_refl 0) (Nat.le_refl 0) ?_
  rintro _ _ ⟨rfl, rfl⟩
  refine x_if_eq (tgt := 423) d_M_perform_384 rfl (fun q384 => ?_) (fun w_ => absurd rfl w_)
  refine x_iconst (v := 0) d_M_perform_423 (by decide) ?_
  exact x_iret d_M_perform_424 rfl rfl (Pf.no (by simp only [performM, cl_nI (show a < 2 ^ 31 by omega), cl_nI (show b < 2 ^ 31 by omega), if_neg hi]) z (Chg.rf o h))
theorem c_perf11y {E : th_E} {h : th_H} {o : Nat} {σ : Ho} (z : CR o σ h) {N p : Nat} (v : vPs N σ) (hp : p < oCt σ) {a : Nat} (ha : a < 8) {b : Nat} (hb : b < 8) {c : Nat} (hcc : c < 48) (hi : tS (pRg (oPr σ p) a) = 0 ∧ tS (pRg (oPr σ p) b) = 0) (hl : tN (pRg (oPr σ p) a) < tN (pRg (oPr σ p) b)) : Xc E m_M_perform 53 0 0 [.ref (o + 1), .ref (o + 6 + 6 * p), .int (nI 11), .int (nI a), .int (nI b), .int (nI c)] h (Pf o h σ (performM σ p 11 (nI a) (nI b) (nI c))) := by
  have hp12 : p < 12 := by have := v.1; omega
  have hc := v.1
  have zp := z.2.2.2.2.2 p hp
  obtain ⟨x, gx, tx⟩ := zp.1 a ha
  obtain ⟨y, gy, ty⟩ := zp.1 b hb
  refine Xc.of (by decide) (by simp [Value.category]) (Nat.le_of_ble_eq_true rfl) ?_
  show Xw E m_M_perform 53 0 0 0 [some (.ref (o + 1)), some (.ref (o + 6 + 6 * p)), some (.int (nI 11)), some (.int (nI a)), some (.int (nI b)), some (.int (nI c)), none] [] h _
  refine Xw.wf (fun wf => ?_)
  refine x_aload_n d_M_perform_0 rfl rfl ?_
  refine x_getf (v := .ref (o + 8 + 6 * p)) d_M_perform_1 lf_M_54 (z.1.2 p hp12).k (z.1.2 p hp12).rg ?_
  refine x_astore d_M_perform_4 (by decide) (L' := [some (.ref (o + 1)), some (.ref (o + 6 + 6 * p)), some (.int (nI 11)), some (.int (nI a)), some (.int (nI b)), some (.int (nI c)), some (.ref (o + 8 + 6 * p))]) rfl ?_
  refine x_iload_n d_M_perform_6 rfl rfl ?_
  refine x_tableIn (tgt := 372) (off := 365) d_M_perform_7 (by decide) (by decide) (by decide) rfl ?_
  refine x_aload d_M_perform_372 rfl ?_
  refine x_iload_n d_M_perform_374 rfl rfl ?_
  refine x_aald (v := .ref x) d_M_perform_375 (z.1.2 p hp12).kr rfl (vp_in_nI ha (by decide)) (by rw [nI_cl (by omega)]; exact gx) ?_
  refine x_aload d_M_perform_376 rfl ?_
  refine x_iload d_M_perform_378 rfl ?_
  refine x_aald (v := .ref y) d_M_perform_380 (z.1.2 p hp12).kr rfl (vp_in_nI hb (by decide)) (by rw [nI_cl (by omega)]; exact gy) ?_
  refine x_invs d_M_perform_381 lm_M_83 (as := [.ref x, .ref y]) (S := []) (c_M_areInts tx ty ⟨fun _ => rfl, fun e => absurd hi e⟩) rfl rfl (Nat.le_of_ble_eq_true rfl) (by decide) (Nat.le_refl 0) (Nat.le_refl 0) ?_
  rintro _ _ ⟨rfl, rfl⟩
  refine x_if_eq (tgt := 423) d_M_perform_384 rfl (fun w_ => absurd w_ (by decide)) (fun q384 => ?_)
  refine x_aload_n d_M_perform_387 rfl rfl ?_
  refine x_aload d_M_perform_388 rfl ?_
  refine x_iload_n d_M_perform_390 rfl rfl ?_
  refine x_aald (v := .ref x) d_M_perform_391 (z.1.2 p hp12).kr rfl (vp_in_nI ha (by decide)) (by rw [nI_cl (by omega)]; exact gx) ?_
  refine x_getf (v := .int (tN (pRg (oPr σ p) a))) d_M_perform_392 lf_M_87 tx.k tx.n ?_
  refine x_aload d_M_perform_395 rfl ?_
  refine x_iload d_M_perform_397 rfl ?_
  refine x_aald (v := .ref y) d_M_perform_399 (z.1.2 p hp12).kr rfl (vp_in_nI hb (by decide)) (by rw [nI_cl (by omega)]; exact gy) ?_
  refine x_getf (v := .int (tN (pRg (oPr σ p) b))) d_M_perform_400 lf_M_87 ty.k ty.n ?_
  refine x_icmp_ge (tgt := 410) d_M_perform_403 rfl (fun w_ => absurd w_ (fun e => i32_nle e hl)) (fun q403 => ?_)
  refine x_iconst (v := 1) d_M_perform_406 (by decide) ?_
  refine x_goto (tgt := 411) d_M_perform_407 rfl ?_
  refine x_iload d_M_perform_411 rfl ?_
  refine x_invs d_M_perform_413 lm_M_90 (as := [.ref (o + 6 + 6 * p), .int 1, .int (nI c)]) (S := []) (c_M_goUnless1 (nI c)) rfl rfl (Nat.le_of_ble_eq_true rfl) (by decide) (Nat.le_refl 0) (Nat.le_refl 0) ?_
  rintro _ _ ⟨rfl, rfl⟩
  refine x_if_eq (tgt := 423) d_M_perform_416 rfl (fun w_ => absurd w_ (by decide)) (fun q416 => ?_)
  refine x_iconst (v := 1) d_M_perform_419 (by decide) ?_
  refine x_goto (tgt := 424) d_M_perform_420 rfl ?_
  exact x_iret d_M_perform_424 rfl rfl (Pf.ok (by simp only [performM, cl_nI (show a < 2 ^ 31 by omega), cl_nI (show b < 2 ^ 31 by omega), cl_nI (show c < 2 ^ 31 by omega), if_pos hi, if_pos hl]) z (Chg.rf o h))
theorem c_perf11z {E : th_E} {h : th_H} {o : Nat} {σ : Ho} (z : CR o σ h) {N p : Nat} (v : vPs N σ) (hp : p < oCt σ) {a : Nat} (ha : a < 8) {b : Nat} (hb : b < 8) {c : Nat} (hcc : c < 48) (hi : tS (pRg (oPr σ p) a) = 0 ∧ tS (pRg (oPr σ p) b) = 0) (hl : ¬ tN (pRg (oPr σ p) a) < tN (pRg (oPr σ p) b)) : Xc E m_M_perform 53 0 0 [.ref (o + 1), .ref (o + 6 + 6 * p), .int (nI 11), .int (nI a), .int (nI b), .int (nI c)] h (Pf o h σ (performM σ p 11 (nI a) (nI b) (nI c))) := by
  have hp12 : p < 12 := by have := v.1; omega
  have hc := v.1
  have zp := z.2.2.2.2.2 p hp
  obtain ⟨x, gx, tx⟩ := zp.1 a ha
  obtain ⟨y, gy, ty⟩ := zp.1 b hb
  refine Xc.of (by decide) (by simp [Value.category]) (Nat.le_of_ble_eq_true rfl) ?_
  show Xw E m_M_perform 53 0 0 0 [some (.ref (o + 1)), some (.ref (o + 6 + 6 * p)), some (.int (nI 11)), some (.int (nI a)), some (.int (nI b)), some (.int (nI c)), none] [] h _
  refine Xw.wf (fun wf => ?_)
  refine x_aload_n d_M_perform_0 rfl rfl ?_
  refine x_getf (v := .ref (o + 8 + 6 * p)) d_M_perform_1 lf_M_54 (z.1.2 p hp12).k (z.1.2 p hp12).rg ?_
  refine x_astore d_M_perform_4 (by decide) (L' := [some (.ref (o + 1)), some (.ref (o + 6 + 6 * p)), some (.int (nI 11)), some (.int (nI a)), some (.int (nI b)), some (.int (nI c)), some (.ref (o + 8 + 6 * p))]) rfl ?_
  refine x_iload_n d_M_perform_6 rfl rfl ?_
  refine x_tableIn (tgt := 372) (off := 365) d_M_perform_7 (by decide) (by decide) (by decide) rfl ?_
  refine x_aload d_M_perform_372 rfl ?_
  refine x_iload_n d_M_perform_374 rfl rfl ?_
  refine x_aald (v := .ref x) d_M_perform_375 (z.1.2 p hp12).kr rfl (vp_in_nI ha (by decide)) (by rw [nI_cl (by omega)]; exact gx) ?_
  refine x_aload d_M_perform_376 rfl ?_
  refine x_iload d_M_perform_378 rfl ?_
  refine x_aald (v := .ref y) d_M_perform_380 (z.1.2 p hp12).kr rfl (vp_in_nI hb (by decide)) (by rw [nI_cl (by omega)]; exact gy) ?_
  refine x_invs d_M_perform_381 lm_M_83 (as := [.ref x, .ref y]) (S := []) (c_M_areInts tx ty ⟨fun _ => rfl, fun e => absurd hi e⟩) rfl rfl (Nat.le_of_ble_eq_true rfl) (by decide) (Nat.le_refl 0) (Nat.le_refl 0) ?_
  rintro _ _ ⟨rfl, rfl⟩
  refine x_if_eq (tgt := 423) d_M_perform_384 rfl (fun w_ => absurd w_ (by decide)) (fun q384 => ?_)
  refine x_aload_n d_M_perform_387 rfl rfl ?_
  refine x_aload d_M_perform_388 rfl ?_
  refine x_iload_n d_M_perform_390 rfl rfl ?_
  refine x_aald (v := .ref x) d_M_perform_391 (z.1.2 p hp12).kr rfl (vp_in_nI ha (by decide)) (by rw [nI_cl (by omega)]; exact gx) ?_
  refine x_getf (v := .int (tN (pRg (oPr σ p) a))) d_M_perform_392 lf_M_87 tx.k tx.n ?_
  refine x_aload d_M_perform_395 rfl ?_
  refine x_iload d_M_perform_397 rfl ?_
  refine x_aald (v := .ref y) d_M_perform_399 (z.1.2 p hp12).kr rfl (vp_in_nI hb (by decide)) (by rw [nI_cl (by omega)]; exact gy) ?_
  refine x_getf (v := .int (tN (pRg (oPr σ p) b))) d_M_perform_400 lf_M_87 ty.k ty.n ?_
  refine x_icmp_ge (tgt := 410) d_M_perform_403 rfl (fun q403 => ?_) (fun w_ => absurd (i32_ge hl) w_)
  refine x_iconst (v := 0) d_M_perform_410 (by decide) ?_
  refine x_iload d_M_perform_411 rfl ?_
  refine x_invs d_M_perform_413 lm_M_90 (as := [.ref (o + 6 + 6 * p), .int 0, .int (nI c)]) (S := []) (c_M_goUnless0 (z.1.2 p hp12).k (nI c)) rfl rfl (Nat.le_of_ble_eq_true rfl) (by decide) (Nat.le_refl 0) (Nat.le_refl 0) ?_
  rintro _ _ ⟨rfl, rfl⟩
  refine x_if_eq (tgt := 423) d_M_perform_416 rfl (fun w_ => absurd w_ (by decide)) (fun q416 => ?_)
  refine x_iconst (v := 1) d_M_perform_419 (by decide) ?_
  refine x_goto (tgt := 424) d_M_perform_420 rfl ?_
  exact x_iret d_M_perform_424 rfl rfl (Pf.ok (by simp only [performM, cl_nI (show a < 2 ^ 31 by omega), cl_nI (show b < 2 ^ 31 by omega), cl_nI (show c < 2 ^ 31 by omega), if_pos hi, if_neg hl]) (z.pl wf hc hp c).1 (z.pl wf hc hp c).2)
theorem c_perf12y {E : th_E} {h : th_H} {o : Nat} {σ : Ho} (z : CR o σ h) {N p : Nat} (v : vPs N σ) (hp : p < oCt σ) {a : Nat} (ha : a < 8) {b : Nat} (hb : b < 8) {c : Nat} (hcc : c < 48) (hl : tF (pRg (oPr σ p) a) = tF (pRg (oPr σ p) b)) : Xc E m_M_perform 53 0 0 [.ref (o + 1), .ref (o + 6 + 6 * p), .int (nI 12), .int (nI a), .int (nI b), .int (nI c)] h (Pf o h σ (performM σ p 12 (nI a) (nI b) (nI c))) := by
  have hp12 : p < 12 := by have := v.1; omega
  have hc := v.1
  have zp := z.2.2.2.2.2 p hp
  obtain ⟨x, gx, tx⟩ := zp.1 a ha
  obtain ⟨y, gy, ty⟩ := zp.1 b hb
  refine Xc.of (by decide) (by simp [Value.category]) (Nat.le_of_ble_eq_true rfl) ?_
  show Xw E m_M_perform 53 0 0 0 [some (.ref (o + 1)), some (.ref (o + 6 + 6 * p)), some (.int (nI 12)), some (.int (nI a)), some (.int (nI b)), some (.int (nI c)), none] [] h _
  refine Xw.wf (fun wf => ?_)
  refine x_aload_n d_M_perform_0 rfl rfl ?_
  refine x_getf (v := .ref (o + 8 + 6 * p)) d_M_perform_1 lf_M_54 (z.1.2 p hp12).k (z.1.2 p hp12).rg ?_
  refine x_astore d_M_perform_4 (by decide) (L' := [some (.ref (o + 1)), some (.ref (o + 6 + 6 * p)), some (.int (nI 12)), some (.int (nI a)), some (.int (nI b)), some (.int (nI c)), some (.ref (o + 8 + 6 * p))]) rfl ?_
  refine x_iload_n d_M_perform_6 rfl rfl ?_
  refine x_tableIn (tgt := 425) (off := 418) d_M_perform_7 (by decide) (by decide) (by decide) rfl ?_
  refine x_aload_n d_M_perform_425 rfl rfl ?_
  refine x_aload d_M_perform_426 rfl ?_
  refine x_iload_n d_M_perform_428 rfl rfl ?_
  refine x_aald (v := .ref x) d_M_perform_429 (z.1.2 p hp12).kr rfl (vp_in_nI ha (by decide)) (by rw [nI_cl (by omega)]; exact gx) ?_
  refine x_aload d_M_perform_430 rfl ?_
  refine x_iload d_M_perform_432 rfl ?_
  refine x_aald (v := .ref y) d_M_perform_434 (z.1.2 p hp12).kr rfl (vp_in_nI hb (by decide)) (by rw [nI_cl (by omega)]; exact gy) ?_
  refine x_invsN d_M_perform_435 lm_M_94 (as := [.ref x, .ref y]) (S := [.ref (o + 6 + 6 * p)]) (c_T_alike _ _ x y 52 1 tx ty ((v.2.2 p hp).1 a).1 ((v.2.2 p hp).1 b).1 (by have := ((v.2.2 p hp).1 a).2; omega) ⟨fun _ => rfl, fun e => absurd ((tF_inj ((v.2.2 p hp).1 a).1 ((v.2.2 p hp).1 b).1).mpr hl) e⟩) rfl rfl (Nat.le_of_ble_eq_true rfl) (by decide) (Nat.le_refl 0) (Nat.le_refl 0) ?_
  rintro _ _ ⟨rfl, rfl⟩
  refine x_iload d_M_perform_438 rfl ?_
  refine x_invs d_M_perform_440 lm_M_90 (as := [.ref (o + 6 + 6 * p), .int 1, .int (nI c)]) (S := []) (c_M_goUnless1 (nI c)) rfl rfl (Nat.le_of_ble_eq_true rfl) (by decide) (Nat.le_refl 0) (Nat.le_refl 0) ?_
  rintro _ _ ⟨rfl, rfl⟩
  exact x_iret d_M_perform_443 rfl rfl (Pf.ok (by simp only [performM, cl_nI (show a < 2 ^ 31 by omega), cl_nI (show b < 2 ^ 31 by omega), cl_nI (show c < 2 ^ 31 by omega), if_pos hl]) z (Chg.rf o h))
theorem c_perf12n {E : th_E} {h : th_H} {o : Nat} {σ : Ho} (z : CR o σ h) {N p : Nat} (v : vPs N σ) (hp : p < oCt σ) {a : Nat} (ha : a < 8) {b : Nat} (hb : b < 8) {c : Nat} (hcc : c < 48) (hl : ¬ tF (pRg (oPr σ p) a) = tF (pRg (oPr σ p) b)) : Xc E m_M_perform 53 0 0 [.ref (o + 1), .ref (o + 6 + 6 * p), .int (nI 12), .int (nI a), .int (nI b), .int (nI c)] h (Pf o h σ (performM σ p 12 (nI a) (nI b) (nI c))) := by
  have hp12 : p < 12 := by have := v.1; omega
  have hc := v.1
  have zp := z.2.2.2.2.2 p hp
  obtain ⟨x, gx, tx⟩ := zp.1 a ha
  obtain ⟨y, gy, ty⟩ := zp.1 b hb
  refine Xc.of (by decide) (by simp [Value.category]) (Nat.le_of_ble_eq_true rfl) ?_
  show Xw E m_M_perform 53 0 0 0 [some (.ref (o + 1)), some (.ref (o + 6 + 6 * p)), some (.int (nI 12)), some (.int (nI a)), some (.int (nI b)), some (.int (nI c)), none] [] h _
  refine Xw.wf (fun wf => ?_)
  refine x_aload_n d_M_perform_0 rfl rfl ?_
  refine x_getf (v := .ref (o + 8 + 6 * p)) d_M_perform_1 lf_M_54 (z.1.2 p hp12).k (z.1.2 p hp12).rg ?_
  refine x_astore d_M_perform_4 (by decide) (L' := [some (.ref (o + 1)), some (.ref (o + 6 + 6 * p)), some (.int (nI 12)), some (.int (nI a)), some (.int (nI b)), some (.int (nI c)), some (.ref (o + 8 + 6 * p))]) rfl ?_
  refine x_iload_n d_M_perform_6 rfl rfl ?_
  refine x_tableIn (tgt := 425) (off := 418) d_M_perform_7 (by decide) (by decide) (by decide) rfl ?_
  refine x_aload_n d_M_perform_425 rfl rfl ?_
  refine x_aload d_M_perform_426 rfl ?_
  refine x_iload_n d_M_perform_428 rfl rfl ?_
  refine x_aald (v := .ref x) d_M_perform_429 (z.1.2 p hp12).kr rfl (vp_in_nI ha (by decide)) (by rw [nI_cl (by omega)]; exact gx) ?_
  refine x_aload d_M_perform_430 rfl ?_
  refine x_iload d_M_perform_432 rfl ?_
  refine x_aald (v := .ref y) d_M_perform_434 (z.1.2 p hp12).kr rfl (vp_in_nI hb (by decide)) (by rw [nI_cl (by omega)]; exact gy) ?_
  refine x_invsN d_M_perform_435 lm_M_94 (as := [.ref x, .ref y]) (S := [.ref (o + 6 + 6 * p)]) (c_T_alike _ _ x y 52 0 tx ty ((v.2.2 p hp).1 a).1 ((v.2.2 p hp).1 b).1 (by have := ((v.2.2 p hp).1 a).2; omega) ⟨fun e => absurd ((tF_inj ((v.2.2 p hp).1 a).1 ((v.2.2 p hp).1 b).1).mp e) hl, fun _ => rfl⟩) rfl rfl (Nat.le_of_ble_eq_true rfl) (by decide) (Nat.le_refl 0) (Nat.le_refl 0) ?_
  rintro _ _ ⟨rfl, rfl⟩
  refine x_iload d_M_perform_438 rfl ?_
  refine x_invs d_M_perform_440 lm_M_90 (as := [.ref (o + 6 + 6 * p), .int 0, .int (nI c)]) (S := []) (c_M_goUnless0 (z.1.2 p hp12).k (nI c)) rfl rfl (Nat.le_of_ble_eq_true rfl) (by decide) (Nat.le_refl 0) (Nat.le_refl 0) ?_
  rintro _ _ ⟨rfl, rfl⟩
  exact x_iret d_M_perform_443 rfl rfl (Pf.ok (by simp only [performM, cl_nI (show a < 2 ^ 31 by omega), cl_nI (show b < 2 ^ 31 by omega), cl_nI (show c < 2 ^ 31 by omega), if_neg hl]) (z.pl wf hc hp c).1 (z.pl wf hc hp c).2)
theorem c_perf13y {E : th_E} {h : th_H} {o : Nat} {σ : Ho} (z : CR o σ h) {N p : Nat} (v : vPs N σ) (hp : p < oCt σ) {a : Nat} (ha : a < 8) (b : Int32) {c : Nat} (hcc : c < 48) (hl : tS (pRg (oPr σ p) a) = b) : Xc E m_M_perform 53 0 0 [.ref (o + 1), .ref (o + 6 + 6 * p), .int (nI 13), .int (nI a), .int b, .int (nI c)] h (Pf o h σ (performM σ p 13 (nI a) b (nI c))) := by
  have hp12 : p < 12 := by have := v.1; omega
  have hc := v.1
  have zp := z.2.2.2.2.2 p hp
  obtain ⟨x, gx, tx⟩ := zp.1 a ha
  refine Xc.of (by decide) (by simp [Value.category]) (Nat.le_of_ble_eq_true rfl) ?_
  show Xw E m_M_perform 53 0 0 0 [some (.ref (o + 1)), some (.ref (o + 6 + 6 * p)), some (.int (nI 13)), some (.int (nI a)), some (.int b), some (.int (nI c)), none] [] h _
  refine Xw.wf (fun wf => ?_)
  refine x_aload_n d_M_perform_0 rfl rfl ?_
  refine x_getf (v := .ref (o + 8 + 6 * p)) d_M_perform_1 lf_M_54 (z.1.2 p hp12).k (z.1.2 p hp12).rg ?_
  refine x_astore d_M_perform_4 (by decide) (L' := [some (.ref (o + 1)), some (.ref (o + 6 + 6 * p)), some (.int (nI 13)), some (.int (nI a)), some (.int b), some (.int (nI c)), some (.ref (o + 8 + 6 * p))]) rfl ?_
  refine x_iload_n d_M_perform_6 rfl rfl ?_
  refine x_tableIn (tgt := 444) (off := 437) d_M_perform_7 (by decide) (by decide) (by decide) rfl ?_
  refine x_aload_n d_M_perform_444 rfl rfl ?_
  refine x_aload d_M_perform_445 rfl ?_
  refine x_iload_n d_M_perform_447 rfl rfl ?_
  refine x_aald (v := .ref x) d_M_perform_448 (z.1.2 p hp12).kr rfl (vp_in_nI ha (by decide)) (by rw [nI_cl (by omega)]; exact gx) ?_
  refine x_getf (v := .int (tS (pRg (oPr σ p) a))) d_M_perform_449 lf_M_97 tx.k tx.s ?_
  refine x_iload d_M_perform_452 rfl ?_
  refine x_icmp_ne (tgt := 461) d_M_perform_454 rfl (fun w_ => absurd hl w_) (fun q454 => ?_)
  refine x_iconst (v := 1) d_M_perform_457 (by decide) ?_
  refine x_goto (tgt := 462) d_M_perform_458 rfl ?_
  refine x_iload d_M_perform_462 rfl ?_
  refine x_invs d_M_perform_464 lm_M_90 (as := [.ref (o + 6 + 6 * p), .int 1, .int (nI c)]) (S := []) (c_M_goUnless1 (nI c)) rfl rfl (Nat.le_of_ble_eq_true rfl) (by decide) (Nat.le_refl 0) (Nat.le_refl 0) ?_
  rintro _ _ ⟨rfl, rfl⟩
  exact x_iret d_M_perform_467 rfl rfl (Pf.ok (by simp only [performM, cl_nI (show a < 2 ^ 31 by omega), cl_nI (show c < 2 ^ 31 by omega), if_pos hl]) z (Chg.rf o h))
theorem c_perf13n {E : th_E} {h : th_H} {o : Nat} {σ : Ho} (z : CR o σ h) {N p : Nat} (v : vPs N σ) (hp : p < oCt σ) {a : Nat} (ha : a < 8) (b : Int32) {c : Nat} (hcc : c < 48) (hl : ¬ tS (pRg (oPr σ p) a) = b) : Xc E m_M_perform 53 0 0 [.ref (o + 1), .ref (o + 6 + 6 * p), .int (nI 13), .int (nI a), .int b, .int (nI c)] h (Pf o h σ (performM σ p 13 (nI a) b (nI c))) := by
  have hp12 : p < 12 := by have := v.1; omega
  have hc := v.1
  have zp := z.2.2.2.2.2 p hp
  obtain ⟨x, gx, tx⟩ := zp.1 a ha
  refine Xc.of (by decide) (by simp [Value.category]) (Nat.le_of_ble_eq_true rfl) ?_
  show Xw E m_M_perform 53 0 0 0 [some (.ref (o + 1)), some (.ref (o + 6 + 6 * p)), some (.int (nI 13)), some (.int (nI a)), some (.int b), some (.int (nI c)), none] [] h _
  refine Xw.wf (fun wf => ?_)
  refine x_aload_n d_M_perform_0 rfl rfl ?_
  refine x_getf (v := .ref (o + 8 + 6 * p)) d_M_perform_1 lf_M_54 (z.1.2 p hp12).k (z.1.2 p hp12).rg ?_
  refine x_astore d_M_perform_4 (by decide) (L' := [some (.ref (o + 1)), some (.ref (o + 6 + 6 * p)), some (.int (nI 13)), some (.int (nI a)), some (.int b), some (.int (nI c)), some (.ref (o + 8 + 6 * p))]) rfl ?_
  refine x_iload_n d_M_perform_6 rfl rfl ?_
  refine x_tableIn (tgt := 444) (off := 437) d_M_perform_7 (by decide) (by decide) (by decide) rfl ?_
  refine x_aload_n d_M_perform_444 rfl rfl ?_
  refine x_aload d_M_perform_445 rfl ?_
  refine x_iload_n d_M_perform_447 rfl rfl ?_
  refine x_aald (v := .ref x) d_M_perform_448 (z.1.2 p hp12).kr rfl (vp_in_nI ha (by decide)) (by rw [nI_cl (by omega)]; exact gx) ?_
  refine x_getf (v := .int (tS (pRg (oPr σ p) a))) d_M_perform_449 lf_M_97 tx.k tx.s ?_
  refine x_iload d_M_perform_452 rfl ?_
  refine x_icmp_ne (tgt := 461) d_M_perform_454 rfl (fun q454 => ?_) (fun w_ => absurd w_ hl)
  refine x_iconst (v := 0) d_M_perform_461 (by decide) ?_
  refine x_iload d_M_perform_462 rfl ?_
  refine x_invs d_M_perform_464 lm_M_90 (as := [.ref (o + 6 + 6 * p), .int 0, .int (nI c)]) (S := []) (c_M_goUnless0 (z.1.2 p hp12).k (nI c)) rfl rfl (Nat.le_of_ble_eq_true rfl) (by decide) (Nat.le_refl 0) (Nat.le_refl 0) ?_
  rintro _ _ ⟨rfl, rfl⟩
  exact x_iret d_M_perform_467 rfl rfl (Pf.ok (by simp only [performM, cl_nI (show a < 2 ^ 31 by omega), cl_nI (show c < 2 ^ 31 by omega), if_neg hl]) (z.pl wf hc hp c).1 (z.pl wf hc hp c).2)
