theorem mj_0 : Cond.classLink "RootCompassLaw" 8 "RootCompass" ∈ mm_Gb := mg_t1 (List.mem_of_getElem? (i := 14) (by decide +kernel)) (by decide +kernel)
theorem mj_1 : Cond.instantiable "RootCompass" 8 ∈ mm_Gb := mg_t1 (List.mem_of_getElem? (i := 15) (by decide +kernel)) (by decide +kernel)
theorem mj_2 : Cond.initialized "RootCompass" ∈ mm_Gb := mg_t1 (List.mem_of_getElem? (i := 1) (by decide +kernel)) (by decide +kernel)
theorem mj_3 : Cond.code ⟨"RootCompass", "<init>", "()V"⟩ prog_1_method_1_code 1 none ∈ mm_Gb := mg_t1 (List.mem_of_getElem? (i := 18) (by decide +kernel)) (by decide +kernel)
theorem mj_4 : Cond.instanceMethod ⟨"RootCompass", "<init>", "()V"⟩ ∈ mm_Gb := mg_t1 (List.mem_of_getElem? (i := 17) (by decide +kernel)) (by decide +kernel)
theorem mj_5 : Cond.methodLink "RootCompassLaw" 68 ⟨"RootCompass", "<init>", "()V"⟩ ∈ mm_Gb := mg_t1 (List.mem_of_getElem? (i := 16) (by decide +kernel)) (by decide +kernel)
theorem mj_6 : Cond.classLink "RootCompassLaw" 69 "RootCompassModel" ∈ mm_Gb := mg_t3 (List.mem_of_getElem? (i := 113) (by decide +kernel)) (by decide +kernel)
theorem mj_7 : Cond.instantiable "RootCompassModel" 11 ∈ mm_Gb := mg_t3 (List.mem_of_getElem? (i := 114) (by decide +kernel)) (by decide +kernel)
theorem mj_8 : Cond.initialized "RootCompassModel" ∈ mm_Gb := mg_t1 (List.mem_of_getElem? (i := 4) (by decide +kernel)) (by decide +kernel)
theorem mj_9 : Cond.code ⟨"RootCompassModel", "<init>", "()V"⟩ prog_5_method_1_code 2 none ∈ mm_Gb := mg_t3 (List.mem_of_getElem? (i := 117) (by decide +kernel)) (by decide +kernel)
theorem mj_10 : Cond.instanceMethod ⟨"RootCompassModel", "<init>", "()V"⟩ ∈ mm_Gb := mg_t3 (List.mem_of_getElem? (i := 116) (by decide +kernel)) (by decide +kernel)
theorem mj_11 : Cond.methodLink "RootCompassLaw" 71 ⟨"RootCompassModel", "<init>", "()V"⟩ ∈ mm_Gb := mg_t3 (List.mem_of_getElem? (i := 115) (by decide +kernel)) (by decide +kernel)
theorem mj_12 : Cond.arrayClass .long ∈ mm_Gb := mg_t3 (List.mem_of_getElem? (i := 154) (by decide +kernel)) (by decide +kernel)
theorem mj_13 : Cond.instantiable "RootCompass$Cut" 7 ∈ mm_Gb := mg_t1 (List.mem_of_getElem? (i := 51) (by decide +kernel)) (by decide +kernel)
theorem mj_14 : Cond.instantiable "RootCompass$Numbers" 6 ∈ mm_Gb := mg_t1 (List.mem_of_getElem? (i := 23) (by decide +kernel)) (by decide +kernel)
theorem mj_15 : Cond.arrayClass .int ∈ mm_Gb := mg_t1 (List.mem_of_getElem? (i := 49) (by decide +kernel)) (by decide +kernel)
theorem dk_L_0 : decode code 0 = .ok (.new 8, 3) := by decide +kernel
theorem dk_L_3 : decode code 3 = .ok (.dup, 1) := by decide +kernel
theorem dk_L_4 : decode code 4 = .ok (.invokespecial 68, 3) := by decide +kernel
theorem dk_L_7 : decode code 7 = .ok (.astore_n 1, 1) := by decide +kernel
theorem dk_L_8 : decode code 8 = .ok (.new 69, 3) := by decide +kernel
theorem dk_L_11 : decode code 11 = .ok (.dup, 1) := by decide +kernel
theorem dk_L_12 : decode code 12 = .ok (.invokespecial 71, 3) := by decide +kernel
theorem dk_L_15 : decode code 15 = .ok (.astore_n 2, 1) := by decide +kernel
theorem dk_L_16 : decode code 16 = .ok (.iconst 1, 1) := by decide +kernel
theorem dk_L_17 : decode code 17 = .ok (.newarray .long, 2) := by decide +kernel
theorem dk_L_19 : decode code 19 = .ok (.astore_n 3, 1) := by decide +kernel
/-! THE CLAIM OUT OF ONE WALK OF THE LAW'S BODY. Your part is whole_start (and what it stands on); all else here is the same for every law, but numbers. -/
def R_law : String := "RootCompassLaw"
def lw_P (b : Addr) (xs : List Int32) (args : Array Value) (s : State) : Prop := args = #[.ref b] ∧ s.IntsAt b xs ∧ xs.length ≤ 3072 ∧ (Jvm.Cond.and given_1 narrow_1).before args s = true
def lw_Q (_ : Array Value) (s : State) (o : Outcome) (t : State) : Prop := o = .returned (some (.int 1)) ∧ Framed s o t [] 601024 7293034
def lw_Z (below : List Frame) (a : Array Value) (s : State) : State → Prop := fun t => ∃ o, t.status = .running ∧ Ended t below o ∧ lw_Q a s o t
/-- the law's own end, with 1 on the stack, nothing written that was there before, its room as the claim has it -/
theorem lw_ret {p : Program} {l : Launch} {e : Env} {s : State} {m : MethodId} {below : List Frame} {meth : Method} {c : Code} {b : Nat} (hx : p.tables.exec = Jvm.exec) (hb : c.code = code) (hr : meth.sig.returnType = ret) (hlocks : meth.locks = false) {pc : Nat} {H : Heap} {ls : Array Slot} (hdg : decode code pc = .ok (.ireturn, 1)) : W p l e room_1 s m #[Value.ref b] below meth c H [] 601024 7293034 (lw_Z below #[Value.ref b] s) (F0 m pc ls [.int 1]) := by
  intro T hT X
  obtain ⟨fs, hret, hrun, hended, hW, hframe⟩ := X.leave (v := some (.int 1)) (hlocks := hlocks) (fun h => by rw [hr] at h; cases h)
  have hmeth' : T.vm.method? m = some meth := X.method'
  refine ⟨T.setFrames fs, ?_, .returned (some (.int 1)), hrun, hended, rfl, ⟨_, rfl⟩, hW, hframe⟩
  jvm_step X.here [X.here.top, hx, hb, hdg, hmeth', hr, ret, narrow_b1]
  (try refine ⟨rfl, ?_⟩); (try refine ⟨rfl, ?_⟩)
  first | (intro acts; rw [hret _ acts rfl rfl rfl]) | rw [hret _ _ rfl rfl rfl]
  exact Steps.refl _
/-- what holds at the law's entry: the machine, the code, the tables' words (any of lw_tbl by 'hts w (by decide +kernel)'), the script of L ints xs at the cell b, what the Statement gives of the start (any of its parts by flat_of_before) -/
def lw_At (p : Program) (s : State) (m : MethodId) (meth : Method) (c : Code) (b L : Nat) (xs : Nat → Int32) : Prop :=
  p.tables.exec = Jvm.exec ∧ c.code = code ∧ meth.sig.returnType = ret ∧ c.maxLocals = 7 ∧ s.vm.findClass R_law = some m.cls ∧ (∀ w ∈ lw_tbl, w.before #[Value.ref b] s = true) ∧ va_X b L xs s s.heap ∧ b < s.heap.size ∧ meth.locks = false ∧ (Jvm.Cond.and given_1 narrow_1).before #[Value.ref b] s = true
theorem fl_tx : ∀ q ∈ mm_Zb.1, Cond.stringRef q.1 q.2.1 q.2.2 ∈ lw_tbl ∧ Cond.exactly (.string q.1 q.2.1) "java/lang/String" ∈ flatC (Jvm.Cond.and given_1 narrow_1) := by decide +kernel
theorem fl_nw : ∀ w ∈ mm_Zb.2.1, w ∈ lw_tbl := by decide +kernel
theorem fl_cs : ∀ E ∈ mm_Zb.2.2, Cond.castable E E ∈ lw_tbl := by decide +kernel
theorem fl_nc : ∀ E ∈ mm_Zb.2.2, ∀ F ∈ mm_Zb.2.2, E ≠ F → Cond.not (.castable E F) ∈ flatC (Jvm.Cond.and given_1 narrow_1) := by decide +kernel
theorem fl_mn : Cond.methodLinkNest "RootCompass" 20 ⟨"RootCompass$Cut", "<init>", "()V"⟩ "RootCompass" ∈ lw_tbl := by decide +kernel
theorem fl_u : Cond.laysStatic Bundle.tN "UNASSIGNED_STACK" Bundle.steD ∈ lw_tbl ∧ Cond.laysStatic Bundle.tN "SUPPRESSED_SENTINEL" Bundle.listD ∈ lw_tbl ∧ Cond.initialized Bundle.tN ∈ lw_tbl := by decide +kernel
theorem fl_r : Cond.isRef (.static Bundle.tN "UNASSIGNED_STACK" Bundle.steD) ∈ flatC (Jvm.Cond.and given_1 narrow_1) ∧ Cond.isRef (.static Bundle.tN "SUPPRESSED_SENTINEL" Bundle.listD) ∈ flatC (Jvm.Cond.and given_1 narrow_1) := by decide +kernel
/-- what throws need, out of the start -/
theorem fl_th {args : Array Value} {s : State} (hts : ∀ w ∈ lw_tbl, w.before args s = true) (hgv : (Jvm.Cond.and given_1 narrow_1).before args s = true) {A : Nat → Prop} (hA : ∀ a : Nat, a < s.heap.size → ¬ A a) : mm_Th mm_Zb A s s.heap := by
  have hs := flat_of_before _ hgv
  refine ⟨vx_Zqof (hts _ fl_u.1) (hts _ fl_u.2.2) (hs _ fl_r.1) hA, vx_Zqof (hts _ fl_u.2.1) (hts _ fl_u.2.2) (hs _ fl_r.2) hA, fun q hq => ?_, fun q hq => va_Nw.of (mm_wk_tab (mm_Zb_wk q hq)) (hts _ (fl_nw q hq)), fun E hE => va_Nw.of rfl (hts _ (fl_cs E hE)), fun E hE F hF hn => va_Nc.of (hs _ (fl_nc E hE F hF hn))⟩
  obtain ⟨h1, h2⟩ := fl_tx q hq
  obtain ⟨b, -, -, -, hb, -⟩ := Cond.exactly_spec (hs _ h2)
  exact ⟨b, vk_R.of (hts _ h1) hb⟩
/-- the classes -/
theorem fl_K {args : Array Value} {s : State} (hG : ∀ w ∈ mm_Gb, w.before args s = true) : ∃ (D : va_G) (aC : Nat → Nat), va_K D mm_clb (mm_ty aC) s := by
  obtain ⟨c0, i0, k0⟩ := u_known hG mi_0 (hG _ mj_13)
  obtain ⟨c1, i1, k1⟩ := u_known hG mi_1 (hG _ mj_14)
  obtain ⟨c2, i2, k2⟩ := u_known hG mi_2 (hG _ mj_1)
  obtain ⟨c3, i3, k3⟩ := u_known hG mi_3 (hG _ mj_7)
  obtain ⟨cI, kI, mI, f1, f2, f3⟩ := Cond.arrayClass_spec (hG _ mj_15)
  obtain ⟨cJ, kJ, mJ, g1, g2, g3⟩ := Cond.arrayClass_spec (hG _ mj_12)
  refine ⟨(fun k => match k with | 0 => c0 | 1 => c1 | 2 => c2 | _ => c3, fun k => match k with | 0 => i0 | 1 => i1 | 2 => i2 | _ => i3), fun k => match k with | 0 => cI | _ => cJ, ?_, ?_⟩
  · intro c q hq
    match c, hq with
    | 0, hq => cases hq; exact k0
    | 1, hq => cases hq; exact k1
    | 2, hq => cases hq; exact k2
    | 3, hq => cases hq; exact k3
    | n + 4, hq => cases hq
  · intro k q hq
    match k, hq with
    | 0, hq => cases hq; exact ⟨fun n z => ⟨fun k h => (by cases h), kI, f2, mI, f3⟩, f1⟩
    | 1, hq => cases hq; exact ⟨fun n z => ⟨fun k h => (by cases h), kJ, g2, mJ, g3⟩, g1⟩
    | n + 2, hq => cases hq
set_option maxHeartbeats 4000000 in
set_option maxRecDepth 100000 in
/-- the law's body, out of its walk on the small machine -/
theorem law_body {p : Program} {e : Env} {s : State} {m : MethodId} {below : List Frame} {meth : Method} {c : Code} {l : Launch} {b L d : Nat} {xs : Nat → Int32} {D : va_G} {ad aC : Nat → Nat} {M : mm_M} (hfl : l.stackTraces = false) (hd : d ≤ 100) (C0 : lw_At p s m meth c b L xs) (htab : c.exceptionTable.toList = []) (hK : va_K D mm_clb (mm_ty aC) s) (h99 : ad 99 = b)
    (h : mm_W (mm_call mm_Tb d) (mp_law L xs) (mm_bt mm_Tb) 10000 (some .boolean) 7 (fun r _ => r = .inl (some (.int 1))) (20, [(0, .ref 99), (1, .ref 0), (2, .ref 10), (3, .ref 17)], [], M, 1000))
    {ls : Array Slot} {H : Heap} {locs : List Loc} (hl : lv_has ls 7 (mm_lm ad [(0, .ref 99), (1, .ref 0), (2, .ref 10), (3, .ref 17)])) (hP : va_P D mm_clb (mm_w ad aC 0 M) H) (hD : va_D (fun q => s.heap.size ≤ q) (mm_w ad aC 0 M)) (hS : va_S (fun q => s.heap.size ≤ q) s.heap H locs) :
    W p l e room_1 s m #[Value.ref b] below meth c H locs 1000 (6 * 1000) (lw_Z below #[Value.ref b] s) (F0 m 20 ls []) := by
  obtain ⟨hx, hb, hr, hml, hown, hts, hX, hbl, hlocks, hgv⟩ := C0
  have hG : ∀ w ∈ mm_Gb, w.before #[Value.ref b] s = true := fun w hw => hts w (List.mem_filter.mp hw).1
  have hTh := fl_th (A := fun q => s.heap.size ≤ q) hts hgv (fun a ha => Nat.not_le.mpr ha)
  have hR : mm_rm room_1 d 10000 := by
    refine ⟨?_, ?_, ?_, ?_⟩
    · show 8 + (d + 1) ≤ 2048
      omega
    · show 300 + 64 * (d + 1) ≤ 84000
      omega
    · show 10000 ≤ 601024
      decide
    · show 6 * 10000 ≤ 7293034
      decide
  have C : mm_Cx mm_Zb p s m #[Value.ref b] meth c D mm_clb ad aC (fun q => s.heap.size ≤ q) mm_Gb "RootCompassLaw" code 7 (some .boolean) (mm_hs (mp_law L xs)) (mm_fz (mp_law L xs)) := by
    refine ⟨hx, hb, hml, hown, hG, hr, hlocks, htab, hK, fun _ h => h, fun q hq => va_Nw.of (mm_wk_tab (mm_Zb_wk q hq)) (hts _ (fl_nw q hq)), fun q hq => ?_⟩
    have hq : q ∈ [(99, L, xs)] := hq
    rcases List.mem_singleton.mp hq with rfl
    show va_X (ad 99) L xs s s.heap ∧ ad 99 < s.heap.size ∧ ¬ (s.heap.size ≤ ad 99)
    rw [h99]
    exact ⟨hX, hbl, Nat.not_le.mpr hbl⟩
  refine h _ (mm_close (l := l) (e := e) (below := below) (ad := ad) (d := d) (K := mm_call mm_Tb d) (b := 10000) (R := room_1) (QQ := lw_Z below #[Value.ref b] s) hR C (mo_law L xs) (fun pc E hE => by cases hE) ?_
    (mm_callstep (mm_sound l mm_Zb mm_Gb mm_clb mm_Tb mm_okTb (mm_okXb l hfl) d) mm_Gb_good mm_Zb_wk (mo_law L xs) hR C hTh (fun _ E ce q9 M2 H1 locs1 ls rest pc u hq => by cases hq))) ls H locs hl hP hD hS
  intro r M1 u hu hq i pc hdc h1 h2 h3 h4 L1 ls1 H1 locs1 hl1 hP1 hD1 hS1
  have hq : r = some (.int 1) := Sum.inl.inj hq
  subst hq
  obtain ⟨rfl, -⟩ := h1 1 rfl
  refine W.widen (k := 601024) (n := 7293034) (Nat.le_trans hu (by decide)) (Nat.le_trans (Nat.mul_le_mul_left 6 hu) (by decide)) ?_
  exact va_forget hS1.2.2 (lw_ret hx hb hr hlocks hdc)
set_option maxHeartbeats 4000000 in
set_option maxRecDepth 100000 in
/-- from the entry to the law's body -/
theorem law_entry {p : Program} {e : Env} {s : State} {m : MethodId} {below : List Frame} {meth : Method} {c : Code} {l : Launch} {b L d : Nat} {xs : Nat → Int32} (hfl : l.stackTraces = false) (hd : d ≤ 100) (C0 : lw_At p s m meth c b L xs) (htab : c.exceptionTable.toList = [])
    (h : mm_W (mm_call mm_Tb d) (mp_law L xs) (mm_bt mm_Tb) 10000 (some .boolean) 7 (fun r _ => r = .inl (some (.int 1))) (20, [(0, .ref 99), (1, .ref 0), (2, .ref 10), (3, .ref 17)], [], wP (wCp (fun _ => 0) (fun _ => 0) 0 0 0 (0, 0, 0, 0, 0, 0, 0) (fun _ => 0) (fun _ => 0) (fun _ => 0) (fun _ => 0) (fun _ => 0) 0) (wQ (wNp md_p md_q9 (fun _ => 0) (fun _ => 0) 0 0 0 0 0 (fun _ => 0) (fun _ => 0)) (wO (fun _ => 0))), 1000)) :
    W p l e room_1 s m #[Value.ref b] below meth c s.heap [] 0 0 (lw_Z below #[Value.ref b] s) (entryFrame m ([Value.ref b] : List Value).toArray 7) := by
  obtain ⟨hx, hb, hr, hml, hown, hts, hX, hbl, hlocks, hgv⟩ := C0
  have hG : ∀ w ∈ mm_Gb, w.before #[Value.ref b] s = true := fun w hw => hts w (List.mem_filter.mp hw).1
  obtain ⟨D, aC, hK⟩ := fl_K hG
  have hnest : va_Nw (.methodLinkNest "RootCompass" 20 ⟨"RootCompass$Cut", "<init>", "()V"⟩ "RootCompass") s := va_Nw.of rfl (hts _ fl_mn)
  obtain ⟨A, hAe⟩ : ∃ z : Nat → Prop, z = fun q => s.heap.size ≤ q := ⟨_, rfl⟩
  have hA : ∀ q : Nat, s.heap.size ≤ q → A q := fun q h => by rw [hAe]; exact h
  have hP : va_P D mm_clb [] s.heap := fun k q h => by cases h
  have hD : va_D A [] := ⟨fun i j p q h => (by cases h), fun k q h => (by cases h)⟩
  have hS : va_S A s.heap s.heap [] := va_S.rf
  have hl := lv_entry ([.ref b]) (n := 7) (Nat.le_of_ble_eq_true rfl)
  rw [lg_entry_eq]
  generalize (lg_sl ([.ref b]) ++ List.replicate (7 - (lg_sl ([.ref b])).length) Slot.unset).toArray = ls at hl ⊢
  have hl : lv_has ls 7 [(0, .ref b)] := hl
  refine va_new (ci := 2) (fs := [.null, .null, .null, .null, .null, .null, .null, .int 0]) (C := RX2) (T := TX2) (N := 8) hx hb hG mi_2 tyX2 tyX2_ok hown (hG _ mj_0) (hG _ mj_1) (hG _ mj_2) hK hP hD hS hA rfl (by decide) (Nat.le_of_ble_eq_true rfl) (Nat.le_of_ble_eq_true rfl) dk_L_0 (fun h0 H hP hD hS => ?_)
  have hP : va_P D mm_clb [(h0, .inr (2, [.null, .null, .null, .null, .null, .null, .null, .int 0]))] H := hP
  have hD : va_D A [(h0, .inr (2, [.null, .null, .null, .null, .null, .null, .null, .int 0]))] := hD
  refine lv_dup hx hb dk_L_3 rfl ?_
  have hPc := hP.sub (ws' := [(h0, .inr (2, [.null, .null, .null, .null, .null, .null, .null, .int 0]))]) [0] rfl
  have hDc := hD.sub (ws' := [(h0, .inr (2, [.null, .null, .null, .null, .null, .null, .null, .int 0]))]) [0] (by decide) rfl
  have hFc := va_free (wc := [(h0, .inr (2, [.null, .null, .null, .null, .null, .null, .null, .int 0]))]) hD hS hA [0] rfl
  refine va_callv (va_runI (As := []) (rest := [.ref h0]) ⟨hx, hb, hml, hown, hG⟩ (k_C l D aC h0 H.size) (cwI 0 hG (mm_goodS mm_Gb_good (fun w hw => (List.mem_cons.mp hw).elim (fun e9 => by rw [e9]; exact mj_3) id)) rfl rfl rfl (hG _ mj_2) (hG _ mj_5) (hG _ mj_4) rfl (by decide +kernel) ⟨Nat.le_of_ble_eq_true rfl, Nat.le_of_ble_eq_true rfl⟩) ⟨fun a U g mk q => by obtain ⟨q0, q1, qP, qK, qD, qN⟩ := q; exact ⟨q0, q1, qP, va_K.moved (u := U) (U := U.calling g mk a) (Vm.Alike.refl U.vm) qK, qD, va_Nw.same (u := U) (U := U.calling g mk a) rfl rfl qN⟩, fun U hU hW => ⟨rfl, by rw [hU], by rw [hU]; exact hPc, va_K.moved hW.alike hK, hDc.weaken (fun _ _ _ _ => trivial), va_Nw.warmM hW hnest⟩⟩ rfl rfl hl.1 rfl (lv_room (Nat.le_of_ble_eq_true rfl)) dk_L_4 ⟨Nat.le_of_ble_eq_true rfl, Nat.le_of_ble_eq_true rfl⟩) hS (fun q _ h => hFc q h) hFc (fun u t H1 locs ht hvm _ hB hz1 hk1 hS => ?_)
  obtain ⟨qn, qc, qs, qf, qe, qt, qd, qo, qu⟩ := u
  obtain ⟨hP1, hK1, hD1⟩ := hB
  rw [ht] at hP1
  obtain ⟨hP, hD⟩ := va_join (wr := []) (w1 := [(h0, .inr (2, [.ref qn, .ref qc, .ref qs, .ref qf, .ref qe, .ref qt, .ref qd, .int 0])), (qn, .inr (1, [.ref qo, .ref qu, .int 308, .int 0, .int 0, .int 0])), (qc, .inr (0, [.int 0, .int 0, .int 0, .int 0, .int 0, .int 0, .int 0])), (qs, .inl (aC 0, (24, .inl (fun _ => 0)))), (qf, .inl (aC 0, (24, .inl (fun _ => 0)))), (qe, .inl (aC 0, (24, .inl (fun _ => 0)))), (qt, .inl (aC 0, (24, .inl (fun _ => 0)))), (qd, .inl (aC 0, (25, .inl (fun _ => 0)))), (qo, .inl (aC 0, (1332, .inl (fun _ => 0)))), (qu, .inl (aC 0, (1332, .inl (fun _ => 0))))]) hP hD [0] [] rfl rfl (by decide) (by decide) hk1 hFc hP1 hD1
  generalize H1 = H at hP hS ⊢
  have hP : va_P D mm_clb [(h0, .inr (2, [.ref qn, .ref qc, .ref qs, .ref qf, .ref qe, .ref qt, .ref qd, .int 0])), (qn, .inr (1, [.ref qo, .ref qu, .int 308, .int 0, .int 0, .int 0])), (qc, .inr (0, [.int 0, .int 0, .int 0, .int 0, .int 0, .int 0, .int 0])), (qs, .inl (aC 0, (24, .inl (fun _ => 0)))), (qf, .inl (aC 0, (24, .inl (fun _ => 0)))), (qe, .inl (aC 0, (24, .inl (fun _ => 0)))), (qt, .inl (aC 0, (24, .inl (fun _ => 0)))), (qd, .inl (aC 0, (25, .inl (fun _ => 0)))), (qo, .inl (aC 0, (1332, .inl (fun _ => 0)))), (qu, .inl (aC 0, (1332, .inl (fun _ => 0))))] H := hP
  have hD : va_D A [(h0, .inr (2, [.ref qn, .ref qc, .ref qs, .ref qf, .ref qe, .ref qt, .ref qd, .int 0])), (qn, .inr (1, [.ref qo, .ref qu, .int 308, .int 0, .int 0, .int 0])), (qc, .inr (0, [.int 0, .int 0, .int 0, .int 0, .int 0, .int 0, .int 0])), (qs, .inl (aC 0, (24, .inl (fun _ => 0)))), (qf, .inl (aC 0, (24, .inl (fun _ => 0)))), (qe, .inl (aC 0, (24, .inl (fun _ => 0)))), (qt, .inl (aC 0, (24, .inl (fun _ => 0)))), (qd, .inl (aC 0, (25, .inl (fun _ => 0)))), (qo, .inl (aC 0, (1332, .inl (fun _ => 0)))), (qu, .inl (aC 0, (1332, .inl (fun _ => 0))))] := hD
  refine lv_astore_n hx hb dk_L_7 rfl hl (by decide) rfl (fun ls hl => ?_)
  have hl : lv_has ls 7 [(1, .ref h0), (0, .ref b)] := hl
  refine va_new (ci := 3) (fs := [.int 0, .int 0, .int 0, .int 0, .null, .null, .null, .null, .int 0, .null, .null]) (C := mm_RM) (T := mm_TM) (N := 11) hx hb hG mi_3 mm_tyM mm_tyM_ok hown (hG _ mj_6) (hG _ mj_7) (hG _ mj_8) hK hP hD hS hA rfl (by decide) (Nat.le_of_ble_eq_true rfl) (Nat.le_of_ble_eq_true rfl) dk_L_8 (fun g0 H hP hD hS => ?_)
  have hP : va_P D mm_clb [(h0, .inr (2, [.ref qn, .ref qc, .ref qs, .ref qf, .ref qe, .ref qt, .ref qd, .int 0])), (qn, .inr (1, [.ref qo, .ref qu, .int 308, .int 0, .int 0, .int 0])), (qc, .inr (0, [.int 0, .int 0, .int 0, .int 0, .int 0, .int 0, .int 0])), (qs, .inl (aC 0, (24, .inl (fun _ => 0)))), (qf, .inl (aC 0, (24, .inl (fun _ => 0)))), (qe, .inl (aC 0, (24, .inl (fun _ => 0)))), (qt, .inl (aC 0, (24, .inl (fun _ => 0)))), (qd, .inl (aC 0, (25, .inl (fun _ => 0)))), (qo, .inl (aC 0, (1332, .inl (fun _ => 0)))), (qu, .inl (aC 0, (1332, .inl (fun _ => 0)))), (g0, .inr (3, [.int 0, .int 0, .int 0, .int 0, .null, .null, .null, .null, .int 0, .null, .null]))] H := hP
  have hD : va_D A [(h0, .inr (2, [.ref qn, .ref qc, .ref qs, .ref qf, .ref qe, .ref qt, .ref qd, .int 0])), (qn, .inr (1, [.ref qo, .ref qu, .int 308, .int 0, .int 0, .int 0])), (qc, .inr (0, [.int 0, .int 0, .int 0, .int 0, .int 0, .int 0, .int 0])), (qs, .inl (aC 0, (24, .inl (fun _ => 0)))), (qf, .inl (aC 0, (24, .inl (fun _ => 0)))), (qe, .inl (aC 0, (24, .inl (fun _ => 0)))), (qt, .inl (aC 0, (24, .inl (fun _ => 0)))), (qd, .inl (aC 0, (25, .inl (fun _ => 0)))), (qo, .inl (aC 0, (1332, .inl (fun _ => 0)))), (qu, .inl (aC 0, (1332, .inl (fun _ => 0)))), (g0, .inr (3, [.int 0, .int 0, .int 0, .int 0, .null, .null, .null, .null, .int 0, .null, .null]))] := hD
  refine lv_dup hx hb dk_L_11 rfl ?_
  have hPc := hP.sub (ws' := [(g0, .inr (3, [.int 0, .int 0, .int 0, .int 0, .null, .null, .null, .null, .int 0, .null, .null]))]) [10] rfl
  have hDc := hD.sub (ws' := [(g0, .inr (3, [.int 0, .int 0, .int 0, .int 0, .null, .null, .null, .null, .int 0, .null, .null]))]) [10] (by decide) rfl
  have hFc := va_free (wc := [(g0, .inr (3, [.int 0, .int 0, .int 0, .int 0, .null, .null, .null, .null, .int 0, .null, .null]))]) hD hS hA [10] rfl
  refine va_callv (va_runI (As := []) (rest := [.ref g0]) ⟨hx, hb, hml, hown, hG⟩ (k_M l D aC g0 H.size) (cwI 0 hG (mm_goodS mm_Gb_good (fun w hw => (List.mem_cons.mp hw).elim (fun e9 => by rw [e9]; exact mj_9) id)) rfl rfl rfl (hG _ mj_8) (hG _ mj_11) (hG _ mj_10) rfl (by decide +kernel) ⟨Nat.le_of_ble_eq_true rfl, Nat.le_of_ble_eq_true rfl⟩) ⟨fun a U g mk q => by obtain ⟨q0, q1, qP, qK, qD⟩ := q; exact ⟨q0, q1, qP, va_K.moved (u := U) (U := U.calling g mk a) (Vm.Alike.refl U.vm) qK, qD⟩, fun U hU hW => ⟨rfl, by rw [hU], by rw [hU]; exact hPc, va_K.moved hW.alike hK, hDc.weaken (fun _ _ _ _ => trivial)⟩⟩ rfl rfl hl.1 rfl (lv_room (Nat.le_of_ble_eq_true rfl)) dk_L_12 ⟨Nat.le_of_ble_eq_true rfl, Nat.le_of_ble_eq_true rfl⟩) hS (fun q _ h => hFc q h) hFc (fun u t H1 locs ht hvm _ hB hz1 hk1 hS => ?_)
  obtain ⟨gp, gq, gP, gQ, gs, gf⟩ := u
  obtain ⟨hP1, hK1, hD1⟩ := hB
  rw [ht] at hP1
  obtain ⟨hP, hD⟩ := va_join (wr := [(h0, .inr (2, [.ref qn, .ref qc, .ref qs, .ref qf, .ref qe, .ref qt, .ref qd, .int 0])), (qn, .inr (1, [.ref qo, .ref qu, .int 308, .int 0, .int 0, .int 0])), (qc, .inr (0, [.int 0, .int 0, .int 0, .int 0, .int 0, .int 0, .int 0])), (qs, .inl (aC 0, (24, .inl (fun _ => 0)))), (qf, .inl (aC 0, (24, .inl (fun _ => 0)))), (qe, .inl (aC 0, (24, .inl (fun _ => 0)))), (qt, .inl (aC 0, (24, .inl (fun _ => 0)))), (qd, .inl (aC 0, (25, .inl (fun _ => 0)))), (qo, .inl (aC 0, (1332, .inl (fun _ => 0)))), (qu, .inl (aC 0, (1332, .inl (fun _ => 0))))]) (w1 := [(g0, .inr (3, [.int 0, .int 0, .int 0, .int 0, .ref gp, .ref gq, .ref gP, .ref gQ, .int 0, .ref gs, .ref gf])), (gp, .inl (aC 1, (480, .inr (.inl md_p)))), (gq, .inl (aC 1, (480, .inr (.inl md_q9)))), (gP, .inl (aC 1, (292, .inr (.inl (fun _ => 0))))), (gQ, .inl (aC 1, (292, .inr (.inl (fun _ => 0))))), (gs, .inl (aC 0, (24, .inl (fun _ => 0)))), (gf, .inl (aC 0, (96, .inl (fun _ => 0))))]) hP hD [10] [0, 1, 2, 3, 4, 5, 6, 7, 8, 9] rfl rfl (by decide) (by decide) hk1 hFc hP1 hD1
  generalize H1 = H at hP hS ⊢
  have hP : va_P D mm_clb [(h0, .inr (2, [.ref qn, .ref qc, .ref qs, .ref qf, .ref qe, .ref qt, .ref qd, .int 0])), (qn, .inr (1, [.ref qo, .ref qu, .int 308, .int 0, .int 0, .int 0])), (qc, .inr (0, [.int 0, .int 0, .int 0, .int 0, .int 0, .int 0, .int 0])), (qs, .inl (aC 0, (24, .inl (fun _ => 0)))), (qf, .inl (aC 0, (24, .inl (fun _ => 0)))), (qe, .inl (aC 0, (24, .inl (fun _ => 0)))), (qt, .inl (aC 0, (24, .inl (fun _ => 0)))), (qd, .inl (aC 0, (25, .inl (fun _ => 0)))), (qo, .inl (aC 0, (1332, .inl (fun _ => 0)))), (qu, .inl (aC 0, (1332, .inl (fun _ => 0)))), (g0, .inr (3, [.int 0, .int 0, .int 0, .int 0, .ref gp, .ref gq, .ref gP, .ref gQ, .int 0, .ref gs, .ref gf])), (gp, .inl (aC 1, (480, .inr (.inl md_p)))), (gq, .inl (aC 1, (480, .inr (.inl md_q9)))), (gP, .inl (aC 1, (292, .inr (.inl (fun _ => 0))))), (gQ, .inl (aC 1, (292, .inr (.inl (fun _ => 0))))), (gs, .inl (aC 0, (24, .inl (fun _ => 0)))), (gf, .inl (aC 0, (96, .inl (fun _ => 0))))] H := hP
  have hD : va_D A [(h0, .inr (2, [.ref qn, .ref qc, .ref qs, .ref qf, .ref qe, .ref qt, .ref qd, .int 0])), (qn, .inr (1, [.ref qo, .ref qu, .int 308, .int 0, .int 0, .int 0])), (qc, .inr (0, [.int 0, .int 0, .int 0, .int 0, .int 0, .int 0, .int 0])), (qs, .inl (aC 0, (24, .inl (fun _ => 0)))), (qf, .inl (aC 0, (24, .inl (fun _ => 0)))), (qe, .inl (aC 0, (24, .inl (fun _ => 0)))), (qt, .inl (aC 0, (24, .inl (fun _ => 0)))), (qd, .inl (aC 0, (25, .inl (fun _ => 0)))), (qo, .inl (aC 0, (1332, .inl (fun _ => 0)))), (qu, .inl (aC 0, (1332, .inl (fun _ => 0)))), (g0, .inr (3, [.int 0, .int 0, .int 0, .int 0, .ref gp, .ref gq, .ref gP, .ref gQ, .int 0, .ref gs, .ref gf])), (gp, .inl (aC 1, (480, .inr (.inl md_p)))), (gq, .inl (aC 1, (480, .inr (.inl md_q9)))), (gP, .inl (aC 1, (292, .inr (.inl (fun _ => 0))))), (gQ, .inl (aC 1, (292, .inr (.inl (fun _ => 0))))), (gs, .inl (aC 0, (24, .inl (fun _ => 0)))), (gf, .inl (aC 0, (96, .inl (fun _ => 0))))] := hD
  refine lv_astore_n hx hb dk_L_15 rfl hl (by decide) rfl (fun ls hl => ?_)
  have hl : lv_has ls 7 [(2, .ref g0), (1, .ref h0), (0, .ref b)] := hl
  refine lv_iconst (v := 1) hx hb dk_L_16 (by decide) ?_
  refine ca_newa (atype := .long) (n := 1) (N' := 1) (a0 := (1, .inr (.inl (fun _ => 0)))) hx hb (hG _ mj_12) rfl 1 rfl (by first | exact Or.inl rfl | exact Or.inr rfl) hK hP hD hS hA (fun _ => rfl) (by decide) (by decide) (by decide) (Nat.le_of_ble_eq_true rfl) (Nat.le_of_ble_eq_true rfl) dk_L_17 (fun qz H hP hD hS => ?_)
  have hP : va_P D mm_clb [(h0, .inr (2, [.ref qn, .ref qc, .ref qs, .ref qf, .ref qe, .ref qt, .ref qd, .int 0])), (qn, .inr (1, [.ref qo, .ref qu, .int 308, .int 0, .int 0, .int 0])), (qc, .inr (0, [.int 0, .int 0, .int 0, .int 0, .int 0, .int 0, .int 0])), (qs, .inl (aC 0, (24, .inl (fun _ => 0)))), (qf, .inl (aC 0, (24, .inl (fun _ => 0)))), (qe, .inl (aC 0, (24, .inl (fun _ => 0)))), (qt, .inl (aC 0, (24, .inl (fun _ => 0)))), (qd, .inl (aC 0, (25, .inl (fun _ => 0)))), (qo, .inl (aC 0, (1332, .inl (fun _ => 0)))), (qu, .inl (aC 0, (1332, .inl (fun _ => 0)))), (g0, .inr (3, [.int 0, .int 0, .int 0, .int 0, .ref gp, .ref gq, .ref gP, .ref gQ, .int 0, .ref gs, .ref gf])), (gp, .inl (aC 1, (480, .inr (.inl md_p)))), (gq, .inl (aC 1, (480, .inr (.inl md_q9)))), (gP, .inl (aC 1, (292, .inr (.inl (fun _ => 0))))), (gQ, .inl (aC 1, (292, .inr (.inl (fun _ => 0))))), (gs, .inl (aC 0, (24, .inl (fun _ => 0)))), (gf, .inl (aC 0, (96, .inl (fun _ => 0)))), (qz, .inl (aC 1, (1, .inr (.inl (fun _ => 0)))))] H := hP
  have hD : va_D A [(h0, .inr (2, [.ref qn, .ref qc, .ref qs, .ref qf, .ref qe, .ref qt, .ref qd, .int 0])), (qn, .inr (1, [.ref qo, .ref qu, .int 308, .int 0, .int 0, .int 0])), (qc, .inr (0, [.int 0, .int 0, .int 0, .int 0, .int 0, .int 0, .int 0])), (qs, .inl (aC 0, (24, .inl (fun _ => 0)))), (qf, .inl (aC 0, (24, .inl (fun _ => 0)))), (qe, .inl (aC 0, (24, .inl (fun _ => 0)))), (qt, .inl (aC 0, (24, .inl (fun _ => 0)))), (qd, .inl (aC 0, (25, .inl (fun _ => 0)))), (qo, .inl (aC 0, (1332, .inl (fun _ => 0)))), (qu, .inl (aC 0, (1332, .inl (fun _ => 0)))), (g0, .inr (3, [.int 0, .int 0, .int 0, .int 0, .ref gp, .ref gq, .ref gP, .ref gQ, .int 0, .ref gs, .ref gf])), (gp, .inl (aC 1, (480, .inr (.inl md_p)))), (gq, .inl (aC 1, (480, .inr (.inl md_q9)))), (gP, .inl (aC 1, (292, .inr (.inl (fun _ => 0))))), (gQ, .inl (aC 1, (292, .inr (.inl (fun _ => 0))))), (gs, .inl (aC 0, (24, .inl (fun _ => 0)))), (gf, .inl (aC 0, (96, .inl (fun _ => 0)))), (qz, .inl (aC 1, (1, .inr (.inl (fun _ => 0)))))] := hD
  refine lv_astore_n hx hb dk_L_19 rfl hl (by decide) rfl (fun ls hl => ?_)
  have hl : lv_has ls 7 [(3, .ref qz), (2, .ref g0), (1, .ref h0), (0, .ref b)] := hl
  have hl : lv_has ls 7 [(0, .ref b), (1, .ref h0), (2, .ref g0), (3, .ref qz)] := lv_sub hl [3, 2, 1, 0] rfl
  refine W.widen (k := 1000) (n := 6 * 1000) (Nat.le_of_ble_eq_true rfl) (Nat.le_of_ble_eq_true rfl) ?_
  subst hAe
  exact law_body (ad := fun k => match k with | 0 => h0 | 1 => qn | 2 => qc | 3 => qs | 4 => qf | 5 => qe | 6 => qt | 7 => qd | 8 => qo | 9 => qu | 10 => g0 | 11 => gp | 12 => gq | 13 => gP | 14 => gQ | 15 => gs | 16 => gf | 17 => qz | _ => b) (aC := aC) (D := D) hfl hd ⟨hx, hb, hr, hml, hown, hts, hX, hbl, hlocks, hgv⟩ htab hK rfl h hl hP hD hS
