/-! THE CLAIM OUT OF ONE WALK OF THE LAW'S BODY. Your part is whole_start (and what it stands on); all else here is the same for every law, but numbers. -/
def R_law : String := "TurnHostLaw"
def lw_P (b : Addr) (xs : List Int32) (args : Array Value) (s : State) : Prop := args = #[.ref b] ∧ s.IntsAt b xs ∧ xs.length ≤ 2561 ∧ (Jvm.Cond.and given_1 narrow_1).before args s = true
def lw_Q (_ : Array Value) (s : State) (o : Outcome) (t : State) : Prop := o = .returned (some (.int 1)) ∧ Framed s o t [] 600000 7302250
def lw_Z (below : List Frame) (a : Array Value) (s : State) : State → Prop := fun t => ∃ o, t.status = .running ∧ Ended t below o ∧ lw_Q a s o t
/-- the law's own end, with 1 on the stack, nothing written that was there before, its room as the claim has it -/
theorem lw_ret {p : Program} {l : Launch} {e : Env} {s : State} {m : MethodId} {below : List Frame} {meth : Method} {c : Code} {b : Nat} (hx : p.tables.exec = Jvm.exec) (hb : c.code = code) (hr : meth.sig.returnType = ret) (hlocks : meth.locks = false) {pc : Nat} {H : Heap} {ls : Array Slot} (hdg : decode code pc = .ok (.ireturn, 1)) : W p l e room_1 s m #[Value.ref b] below meth c H [] 600000 7302250 (lw_Z below #[Value.ref b] s) (F0 m pc ls [.int 1]) := by
  intro T hT X
  obtain ⟨fs, hret, hrun, hended, hW, hframe⟩ := X.leave (v := some (.int 1)) (hlocks := hlocks) (fun h => by rw [hr] at h; cases h)
  have hmeth' : T.vm.method? m = some meth := X.method'
  refine ⟨T.setFrames fs, ?_, .returned (some (.int 1)), hrun, hended, rfl, ⟨_, rfl⟩, hW, hframe⟩
  jvm_step X.here [X.here.top, hx, hb, hdg, hmeth', hr, ret, narrow_b1]
  (try refine ⟨rfl, ?_⟩); (try refine ⟨rfl, ?_⟩)
  first | (intro acts; rw [hret _ acts rfl rfl rfl]) | rw [hret _ _ rfl rfl rfl]
  exact Steps.refl _
/-- what holds at the law's entry: the machine, the code, the tables' words (any of lw_tbl by 'hts w (by decide +kernel)'), the script of L ints xs at the cell b, what the Statement gives of the start (any of its parts by flat_of_before) -/
def lw_At (p : Program) (s : State) (m : MethodId) (meth : Method) (c : Code) (b L : Nat) (xs : Nat → Int32) : Prop :=
  p.tables.exec = Jvm.exec ∧ c.code = code ∧ meth.sig.returnType = ret ∧ c.maxLocals = 4 ∧ s.vm.findClass R_law = some m.cls ∧ (∀ w ∈ lw_tbl, w.before #[Value.ref b] s = true) ∧ va_X b L xs s s.heap ∧ b < s.heap.size ∧ meth.locks = false ∧ (Jvm.Cond.and given_1 narrow_1).before #[Value.ref b] s = true
/-- the cells at the start: the script, the table of limits -/
def h0M (b tl L z : Nat) (xs : Nat → Int32) : th_H := (fun a => if a = b then some (.inr (0, L)) else if a = tl then some (.inr (0, 81)) else none, fun _ _ _ => .null, fun _ a i => if a = b then .int (xs i) else .int (limM i), z)
theorem h0_k (b tl L z : Nat) (xs : Nat → Int32) (a : Nat) : gk (h0M b tl L z xs) a = if a = b then some (.inr (0, L)) else if a = tl then some (.inr (0, 81)) else none := id rfl
theorem h0_A (b tl L z : Nat) (xs : Nat → Int32) (t a i : Nat) : gA (h0M b tl L z xs) t a i = if a = b then .int (xs i) else .int (limM i) := id rfl
theorem whole_start {p : Program} {e : Env} {s : State} {m : MethodId} {below : List Frame} {meth : Method} {c : Code} (l : Launch) {b L : Nat} {xs : Nat → Int32} (hL : L ≤ 2561) (C0 : lw_At p s m meth c b L xs) (hnm : meth.name = m_W_law.1.name) : W p l e room_1 s m #[Value.ref b] below meth c s.heap [] 0 0 (lw_Z below #[Value.ref b] s) (entryFrame m ([Value.ref b] : List Value).toArray 4) := by
  obtain ⟨hx, hb, hr, hml, hown, hts, hX, hbl, hlk, hgv⟩ := C0
  have htb : ∀ w ∈ th_tb, w.before #[Value.ref b] s = true := fun w hw => hts w (List.mem_filter.mp hw).1
  obtain ⟨c0, s0, K0⟩ := u_known (n := 5) htb ok_T.2.1 (htb _ k_54)
  obtain ⟨c1, s1, K1⟩ := u_known (n := 3) htb ok_B.2.1 (htb _ k_84)
  obtain ⟨c2, s2, K2⟩ := u_known (n := 12) htb ok_P.2.1 (htb _ k_48)
  obtain ⟨c3, s3, K3⟩ := u_known (n := 2) htb ok_L.2.1 (htb _ k_159)
  obtain ⟨c4, s4, K4⟩ := u_known (n := 5) htb ok_S.2.1 (htb _ k_41)
  obtain ⟨c5, s5, K5⟩ := u_known (n := 2) htb ok_G.2.1 (htb _ k_26)
  obtain ⟨c6, s6, K6⟩ := u_known (n := 2) htb ok_M.2.1 (htb _ k_20)
  obtain ⟨c7, s7, K7⟩ := u_known (n := 5) htb ok_H.2.1 (htb _ k_12)
  obtain ⟨c8, s8, K8⟩ := u_known (n := 22) htb ok_N.2.1 (htb _ k_486)
  obtain ⟨cI, kI, pI, i1, i2, i3⟩ := Cond.arrayClass_spec (htb _ k_39)
  obtain ⟨cZ, kZ, pZ, z1, z2, z3⟩ := Cond.arrayClass_spec (htb _ k_558)
  have aoT := hts _ (tbl1 (List.mem_of_getElem? (i := 82) rfl))
  have aoP := hts _ (tbl1 (List.mem_of_getElem? (i := 47) rfl))
  obtain ⟨pT, cT, kT, t1, -, t2, t3, t4⟩ := Cond.arrayOver_spec (n := "TurnHost$Term") aoT
  obtain ⟨pP, cP, kP, u1, -, u2, u3, u4⟩ := Cond.arrayOver_spec (n := "TurnHost$HostProcess") aoP
  have hs := flat_of_before _ hgv
  have harr : (Cond.arrayOf (.static "TurnHost" "LIMITS" "[I") .int).before #[Value.ref b] s = true := hs _ (by decide +kernel)
  have hlen : (Cond.eq (.length (.static "TurnHost" "LIMITS" "[I")) (.int 81)).before #[Value.ref b] s = true := hs _ (by decide +kernel)
  have hel : ∀ j : Nat, j < 81 → (Cond.eq (.elem (.static "TurnHost" "LIMITS" "[I") (.int (Int32.ofNat j))) (.int (limM j))).before #[Value.ref b] s = true := fun j hj => hs _ (by revert j hj; decide +kernel)
  obtain ⟨tl, ht, hT⟩ := va_Tof (f := fun j => .int (limM j)) (N := 81) (A := fun q : Nat => s.heap.size ≤ q) (by decide) harr (va_eqt hlen) (fun j hj => va_eqt (hel j hj)) (fun a h9 => Nat.not_le.mpr h9)
  have hZ : va_Z "TurnHost" "LIMITS" "[I" (.ref tl) (fun q : Nat => s.heap.size ≤ q) s s.heap := va_Zref (hts _ (tbl1 (List.mem_of_getElem? (i := 227) rfl))) (htb _ k_1) ht (fun a h9 => Nat.not_le.mpr h9)
  obtain ⟨scr, q1, q2, q3, q4, q5⟩ := hX
  obtain ⟨lim, r1, r2, r3, r4, r5, r6, r7⟩ := hT
  have rb : Rd (h0M b tl L s.heap.size xs) b L xs := ⟨by rw [h0_k, if_pos rfl], fun i _ => by rw [h0_A, if_pos rfl]⟩
  have rt : Rd (h0M b tl L s.heap.size xs) tl 81 limM := by
    by_cases hbt : tl = b
    · subst hbt
      cases q1.symm.trans r1
      have hL81 : L = 81 := by
        rw [q4] at r5
        exact nI_inj (by omega) (by decide) r5
      subst hL81
      exact ⟨by rw [h0_k, if_pos rfl], fun i hi => by rw [h0_A, if_pos rfl]; exact Option.some.inj ((q5 i hi).symm.trans (r6 i hi))⟩
    · exact ⟨by rw [h0_k, if_neg hbt, if_pos rfl], fun i _ => by rw [h0_A, if_neg hbt]⟩
  have key := W_law (E := (fun k => if k = 0 then c0 else if k = 1 then c1 else if k = 2 then c2 else if k = 3 then c3 else if k = 4 then c4 else if k = 5 then c5 else if k = 6 then c6 else if k = 7 then c7 else c8, fun k => if k = 0 then s0 else if k = 1 then s1 else if k = 2 then s2 else if k = 3 then s3 else if k = 4 then s4 else if k = 5 then s5 else if k = 6 then s6 else if k = 7 then s7 else s8, fun t => if t = 2 then cT else if t = 3 then cP else if t = 4 then cZ else cI, s.heap.size, fun _ => .ref tl)) rb rt rfl hL
  rw [lg_entry_eq]
  refine key p l e room_1 s m _ below meth c s.heap [] 0 0 _ _ ⟨⟨hx, hb, hml, hown, htb, hr, hlk, hnm, ⟨⟨fun k q hq => ?_, fun k q hq => ?_⟩, fun a i b n d g q => va_Nw.of rfl (hts _ q), fun a i x g q => va_Nw.of rfl (hts _ q), fun C q => va_AO.of (hts _ q)⟩, fun k q hq => ?_⟩, ⟨⟨rfl, Nat.le_refl _⟩, fun a k ha => ?_⟩, va_S.rf, th_L.entry (as := [.ref b]) (n := 4) (by simp [Value.category]) (Nat.le_of_ble_eq_true rfl), ⟨by decide, by decide⟩, ⟨by decide, by decide⟩, ?_⟩
  · match k, hq with
    | 0, hq => cases hq; exact K0
    | 1, hq => cases hq; exact K1
    | 2, hq => cases hq; exact K2
    | 3, hq => cases hq; exact K3
    | 4, hq => cases hq; exact K4
    | 5, hq => cases hq; exact K5
    | 6, hq => cases hq; exact K6
    | 7, hq => cases hq; exact K7
    | 8, hq => cases hq; exact K8
    | k + 9, hq => simp at hq
  · match k, hq with
    | 0, hq => cases hq; exact ⟨fun n z => ⟨fun k h => (by cases h), kI, i2, pI, i3⟩, i1⟩
    | 1, hq => cases hq; exact ⟨fun n z => ⟨fun k h => (by cases h), kI, i2, pI, i3⟩, i1⟩
    | 2, hq => cases hq; exact ⟨fun n z => ⟨fun k h => (by cases h), kT, t2, pT, t3⟩, kT, pT, t2, t3, t1, t4⟩
    | 3, hq => cases hq; exact ⟨fun n z => ⟨fun k h => (by cases h), kP, u2, pP, u3⟩, kP, pP, u2, u3, u1, u4⟩
    | 4, hq => cases hq; exact ⟨fun n z => ⟨fun k h => (by cases h), kZ, z2, pZ, z3⟩, z1⟩
    | k + 5, hq => simp [th_ty, th_tys] at hq
  · match k, hq with
    | 0, hq => cases hq; exact hZ
    | k + 1, hq => simp [th_sts] at hq
  · rw [h0_k] at ha
    by_cases hab : a = b
    · rw [if_pos hab] at ha
      cases ha
      subst hab
      exact ⟨scr, q1, q2, q3, ⟨by omega, by rw [q4]⟩, fun j hj => by rw [h0_A, if_pos rfl]; exact q5 j hj⟩
    · rw [if_neg hab] at ha
      by_cases hat : a = tl
      · rw [if_pos hat] at ha
        cases ha
        subst hat
        exact ⟨lim, r1, r2, r3, ⟨r4, r5⟩, fun j hj => by rw [h0_A, if_neg hab]; exact r6 j hj⟩
      · rw [if_neg hat] at ha
        cases ha
  · intro v h' pc' ls' H' locs' cells' slots' hp hR hP' hS' hce hsl
    obtain rfl : v = some (.int 1) := hp
    have hdg : decode code pc' = .ok (.ireturn, 1) := by
      rcases hR with ⟨h1, -⟩ | ⟨x, ty, h1, -, -, h2⟩ | ⟨w, ty, h1, -, -, h2, -⟩
      · cases h1
      · exact h2
      · cases h1
        rcases h2 with h2 | ⟨a, h2⟩ <;> cases h2
    refine va_forget (fun q hq => hS'.2.2 q hq) ?_
    refine W.widen (k := 600000) (n := 7302250) hce hsl ?_
    exact lw_ret hx hb hr hlk hdg
set_option maxHeartbeats 4000000 in
theorem lw_walk (l : Launch) (b : Addr) (xs : List Int32) : MetFree l x (headSpec (Jvm.Cond.code x code maxLocals ret :: tables_1) room_1) (lw_P b xs) (fun _ _ _ _ _ => True) lw_Q := by
  refine MetFree.of_bodyS (code := code) (maxLocals := maxLocals) (ret := ret) (by decide) ?_ ?_
  · intro args s m h hn
    obtain ⟨meth, c, h1, h2, h3, h4, h5, h6, -, -⟩ := Cond.code_spec hn (atoms_spec (ws := Jvm.Cond.code x code maxLocals ret :: tables_1) h _ List.mem_cons_self)
    exact ⟨meth, c, h1, h2, h3, h4, h5, h6⟩
  · intro p e s m args below meth c s₁ B hml0 hP _
    obtain ⟨rfl, hx, hbd, hgv⟩ := hP
    obtain ⟨scr, harrAt, hlist, hof, hsmall⟩ := hx
    obtain ⟨hcb, hkn, -, -⟩ := State.arrayAt?_spec harrAt
    have hown : s.vm.findClass R_law = some m.cls := findClass_of_methodNamed B.named
    have hts0 : ∀ c ∈ (Jvm.Cond.code x code maxLocals ret :: tables_1), c.before #[Value.ref b] s = true := atoms_spec (ws := Jvm.Cond.code x code maxLocals ret :: tables_1) B.pre
    have hts : ∀ w ∈ lw_tbl, w.before #[Value.ref b] s = true := k2_hts_sels lw_privs (fun w hw => hts0 w (List.mem_cons_of_mem _ hw)) lw_privs_ok
    have hml : c.maxLocals = 4 := B.maxLocals_eq (hts0 _ List.mem_cons_self)
    have X₀ : Stand p l e room_1 s m #[Value.ref b] below meth c s₁ [] 0 0 := Stand.of_body B
    have hh0 : s₁.heap = s.heap := by rw [B.state]; rfl
    have hsz : scr.slots.size = xs.length := by rw [← Array.length_toList, hlist, List.length_map]
    have hval : ∀ j : Nat, j < xs.length → scr.slots[j]? = some (.int (xs.getD j 0)) := fun j hj => by
      rw [← Array.getElem?_toList, hlist]
      simp [hj]
    have hbl : b < s.heap.size := (Array.getElem?_eq_some_iff.mp hcb).1
    have hX : va_X b xs.length (fun j => xs.getD j 0) s s.heap := ⟨scr, hcb, hof, hkn, hsz, hval⟩
    have K : W p l e room_1 s m #[Value.ref b] below meth c s₁.heap [] 0 0 (lw_Z below #[Value.ref b] s) (entryFrame m ([Value.ref b] : List Value).toArray 4) := by
      rw [hh0]
      exact whole_start l hbd ⟨B.exec, B.bytes, B.returns, hml, hown, hts, hX, hbl, B.notSynchronized, hgv⟩ (name_of_methodNamed B.named B.method).1
    obtain ⟨t, a1, o, b1, b2, b3⟩ := K s₁ rfl X₀
    exact ⟨t, o, a1, b1, b2, b3⟩
theorem lw_pre_spec {args : Array Value} {s : State} (h : (Jvm.Cond.and given_1 narrow_1).before args s = true) (hr : rest_1_c.before args s = true) : ∃ (b : Addr) (xs : List Int32), lw_P b xs args s := by
  have hs := flat_of_before _ h
  have hq := flat_of_before _ hr
  have hc : (Cond.count 1).before args s = true := hs _ (by decide +kernel)
  have harr : (Cond.arrayOf (.arg 0) .int).before args s = true := hs _ (by decide +kernel)
  have hle : (Cond.le (.length (.arg 0)) (.int 2561)).before args s = true := hs _ (by decide +kernel)
  have hlen : (Cond.isInt (.length (.arg 0))).before args s = true := hq _ (by decide +kernel)
  have hall : (Cond.all (.arg 0) (.isInt (.elem (.arg 0) (.index 0)))).before args s = true := hq _ (by decide +kernel)
  obtain ⟨b, xs, hb, hx⟩ := State.ints_of_pre rfl harr hlen hall
  have hsm : xs.length < 2 ^ 31 := hx.choose_spec.2.2.2
  have hev : (Term.length (.arg 0)).eval args s none [] s = some (.int xs.length.toInt32) := hx.length_eval hb
  have hv := Cond.le_ints hev (show (Term.int 2561).eval args s none [] s = some (.int 2561) from rfl)
  have hd : xs.length.toInt32 ≤ 2561 := by
    simpa [Cond.before, Cond.holds, hv] using hle
  have hN : xs.length ≤ 2561 := (Int32.ofNat_le_ofNat hsm (by decide)).mp (show Int32.ofNat xs.length ≤ Int32.ofNat 2561 from hd)
  exact ⟨b, xs, Cond.one_arg hc (show args[0]? = some (.ref b) from hb), hx, hN, h⟩
theorem lw_comes (l : Launch) : Comes l x (Jvm.Cond.code x code maxLocals ret :: tables_1) room_1 (fun tb e args s => Calls_1 tb e args s ∧ rest_1 tb e args s ∧ Pre_1 tb e args s)
    (fun _ _ args s o t => lw_Q args s o t) := by
  intro p e ha hc hk s m args below hf hfit hheap happ hpre
  obtain ⟨b, xs, hP⟩ := lw_pre_spec hpre.2.2 hpre.2.1
  obtain ⟨k, o, h1, h2, h3, hQ⟩ := lw_walk l b xs p e ha hc hk s m args below hf ((Spec.applies_iff_loose hf).mp happ).1 hP trivial
  exact ⟨k, o, h1, h2, h3, hQ⟩
theorem lw_frame {s t : State} {o : Outcome} {args : Array Value} (h : Framed s o t [] 600000 7302250) :
    Framed s o t (fieldLocs frame_1_writes args s ++ arrayLocs frame_1_arrays args s ++ staticLocs frame_1_statics s) 600000 7302250 := h
theorem lw_limb (L : Cond) (hL : ∀ (args : Array Value) (s t : State), L.after args s (.returned (some (.int 1))) t = true) :
    ArmFor flags0 classFile x code maxLocals ret World_1 tables_1 room_1 Calls_1 rest_1 Pre_1
      (fun tb e a s o t => postC L tb e a s o t ∧ Framed s o t (fieldLocs frame_1_writes a s ++ arrayLocs frame_1_arrays a s ++ staticLocs frame_1_statics s) 600000 7302250) := by
  intro l _ _ _ p e ha hc hk s m args below hf hfit hheap happ hpre
  obtain ⟨k, o, h1, h2, h3, rfl, hF⟩ := lw_comes l p e ha hc hk s m args below hf hfit hheap happ hpre
  exact ⟨k, _, h1, h2, h3, hL args s _, lw_frame hF⟩
theorem i_vc : Claimed_1_1 ∧ Claimed_1_2 := ⟨lw_limb limb_1_1 (fun args s t => by simp [limb_1_1, Cond.after, Cond.holds, Cond.value]), lw_limb limb_1_2 (fun args s t => Cond.after_iff.mpr (by
  first | (rw [show limb_1_2 = Cond.eq .result (.int 1) from rfl, Cond.eq_ints (x := 1) (y := 1) rfl rfl]; simp; done) | (simp [limb_1_2, Cond.value, Term.eval]; done)))⟩
