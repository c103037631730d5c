theorem mm_lg (ad : Nat → Nat) : ∀ a : List Value, (lg_sl (a.map (mm_v ad))).length = (lg_sl a).length
  | [] => rfl
  | v :: a => by
    have h := mm_lg ad a
    simp only [lg_sl, List.map_cons, List.flatMap_cons, List.length_append, mm_v_cat] at h ⊢
    rw [h]
    congr 1
    split <;> rfl
theorem mm_blind (Z : mm_Sx) (D : va_G) (cl : List vw_C) (ad aC : Nat → Nat) (sz : Nat) (M : mm_M) (av : List Value) : FrameBlind (va_Pc av (mm_Pw Z D cl ad aC sz M)) := by
  intro a U g mk q
  obtain ⟨q0, q1, qP, qK, qD, q3, q4, q5, q6, q7⟩ := q
  exact ⟨q0, q1, qP, va_K.moved (u := U) (U := U.calling g mk a) (Vm.Alike.refl U.vm) qK, qD, vx_Zq.moved (u := U) (U := U.calling g mk a) (Vm.Alike.refl U.vm) q3, vx_Zq.moved (u := U) (U := U.calling g mk a) (Vm.Alike.refl U.vm) q4, fun z hz => by
    obtain ⟨sa, h⟩ := q5 z hz
    exact ⟨sa, vk_R.same (u := U) (U := U.calling g mk a) rfl h⟩, fun z hz => va_Nw.same (u := U) (U := U.calling g mk a) rfl rfl (q6 z hz), fun z hz => va_Nw.same (u := U) (U := U.calling g mk a) rfl rfl (q7 z hz)⟩
theorem mm_stk (ad : Nat → Nat) (S : List Value) (n : Nat) : S.map (mm_v ad) = (((S.take n).reverse).map (mm_v ad)).reverse ++ (S.drop n).map (mm_v ad) := by
  rw [← List.map_reverse, List.reverse_reverse, ← List.map_append, List.take_append_drop]
theorem mm_goodS {G : List Cond} (hG : ∀ w ∈ G, goodWord w = true) {ws : List Cond} (h : ∀ w ∈ ws, w ∈ G) : GoodIn G ws := fun w hw => ⟨h w hw, good_of_word (hG w (h w hw))⟩
/-- what the tables must say of all methods -/
def mm_okT (Z : mm_Sx) (G : List Cond) (cl : List vw_C) (T : List mm_T) : Prop := (∀ w ∈ G, goodWord w = true) ∧ ∀ (j : Nat) (t : mm_T), T[j]? = some t → plainName t.1.cls = true ∧ mm_cd t ∈ G ∧ mm_ok Z G cl T t.1.cls t.2.1 t.2.2.2.2.2
/-- the throws of a method, each by a row of its own -/
def mm_okX (l : Launch) (Z : mm_Sx) (G : List Cond) (cl : List vw_C) (t : mm_T) : Prop :=
  ∀ (pc : Nat) (E : String), mm_lk t.2.2.2.2.2.2.2.2.2 pc = some E → ∀ (p : Program) (e : Env) (s : State) (m : MethodId) (args : Array Value) (below : List Frame) (meth : Method) (c : Code) (D : va_G) (ad aC : Nat → Nat) (A : Nat → Prop) (d : Nat) (Q : mm_R → mm_M → Prop),
    mm_Cx Z p s m args meth c D cl aC A G t.1.cls t.2.1 t.2.2.1 t.2.2.2.1 → mm_Th Z A s s.heap → ∀ L M u, u + 1 ≤ t.2.2.2.2.1 → Q (.inr E) M →
    mm_X p l e (mm_room (d + 1) t.2.2.2.2.1) s m args below meth c D cl ad aC A t.2.2.1 (vx_MQ below (mm_Qc D cl ad aC A Q) (mm_XC D cl ad aC A Q) args s t.2.2.2.2.1 (6 * t.2.2.2.2.1) A) (pc, L, [], M, u)
set_option maxHeartbeats 4000000 in
set_option maxRecDepth 100000 in
theorem mm_sound (l : Launch) (Z : mm_Sx) (G : List Cond) (cl : List vw_C) (T : List mm_T) (hT : mm_okT Z G cl T) (hXs : ∀ (j : Nat) (t : mm_T), T[j]? = some t → mm_okX l Z G cl t) :
    ∀ (d j : Nat) (a : List Value) (M : mm_M) (Q : mm_R → mm_M → Prop), mm_call T d j a M Q → ∀ t, T[j]? = some t → ∀ (D : va_G) (ad aC : Nat → Nat) (sz : Nat),
      vx_Met l t.1 (mm_cd t :: G) (mm_room d t.2.2.2.2.1) (va_Pc (a.map (mm_v ad)) (mm_Pw Z D cl ad aC sz M)) (mm_Qc D cl ad aC (va_A (mm_w ad aC 0 M) sz) Q) (mm_XC D cl ad aC (va_A (mm_w ad aC 0 M) sz) Q) t.2.2.2.2.1 (6 * t.2.2.2.2.1) (va_A (mm_w ad aC 0 M) sz)
  | 0, _, _, _, _, h, _, _, _, _, _, _ => h.elim
  | d + 1, j, a, M, Q, h, t, ht, D, ad, aC, sz => by
    obtain ⟨hG, hall⟩ := hT
    obtain ⟨hpl, hcd, hok⟩ := hall j t ht
    unfold mm_call at h
    rw [ht] at h
    obtain ⟨hlen, h⟩ := h
    refine vx_ofW (cc := t.2.1) (maxL := t.2.2.1) (ret := t.2.2.2.1) hpl rfl ?_
    intro p e s m args below meth c s₁ B hml htab hv
    obtain ⟨rfl, hsz, hP, hK, hD0, hTh⟩ := hv
    subst hsz
    have hts0 := atoms_spec (ws := mm_cd t :: G) B.pre
    have hts : ∀ w ∈ G, w.before (a.map (mm_v ad)).toArray s = true := fun w hw => hts0 w (List.mem_cons_of_mem _ hw)
    have hD := hD0.self (sz := s.heap.size)
    obtain ⟨A, hAe⟩ : ∃ z, z = va_A (mm_w ad aC 0 M) s.heap.size := ⟨_, rfl⟩
    rw [← hAe] at hD hTh ⊢
    have hA : ∀ q : Nat, s.heap.size ≤ q → A q := fun q h => by rw [hAe]; exact Or.inr h
    have C : mm_Cx Z p s m (a.map (mm_v ad)).toArray meth c D cl aC A G t.1.cls t.2.1 t.2.2.1 t.2.2.2.1 := ⟨B.exec, B.bytes, hml, findClass_of_methodNamed B.named, hts, B.returns, B.notSynchronized, htab, hK, hA, hTh.2.2.2.1⟩
    have hx := B.exec
    have hb := B.bytes
    have hr := B.returns
    have hlocks := B.notSynchronized
    have hown := findClass_of_methodNamed B.named
    have key := h _ (mm_close (l := l) (e := e) (below := below) (ad := ad) (d := d) (K := mm_call T d) (Q := Q) (b := t.2.2.2.2.1) (QQ := vx_MQ below (mm_Qc D cl ad aC A Q) (mm_XC D cl ad aC A Q) (a.map (mm_v ad)).toArray s t.2.2.2.2.1 (6 * t.2.2.2.2.1) A) C hok
      (fun pc E hE L M u hu hq => hXs j t ht pc E hE p e s m _ below meth c D ad aC A d Q C hTh L M u hu hq) ?_ ?_)
    · have hl := lv_entry (a.map (mm_v ad)) (n := t.2.2.1) (by rw [mm_lg]; exact hlen)
      rw [mm_lv_args] at hl
      rw [lg_entry_eq]
      exact key _ s.heap [] hl hP hD va_S.rf
    · intro r M1 u hu hq i pc hd h1 h2 h3 h4 L ls H locs hl hP1 hD1 hS1
      refine W.widen (k := t.2.2.2.2.1) (n := 6 * t.2.2.2.2.1) hu (Nat.mul_le_mul_left 6 hu) ?_
      have hend : ∀ t1 : State, t1.heap = H → s.WarmedH t1.vm → mm_Qc D cl ad aC A Q (a.map (mm_v ad)).toArray s (.returned (r.map (mm_v ad))) t1 := fun t1 ht1 hW => ⟨r, M1, rfl, hq, ⟨by rw [ht1]; exact hP1, va_K.moved hW.alike hK, hD1⟩, hS1.F ht1⟩
      cases r with
      | none =>
        obtain ⟨rfl, hret⟩ := h3 rfl
        exact vx_ret (W.vret hx hb (hr.trans hret) hend hS1.2.2 hd hlocks)
      | some v =>
        rcases h4 v rfl with ⟨x, rfl⟩ | ⟨x, rfl⟩
        · obtain ⟨rfl, hret | ⟨hret, hz⟩⟩ := h1 x rfl
          · exact vx_ret (W.iret hx hb (hr.trans hret) hend hS1.2.2 hd hlocks)
          · exact vx_ret (W.zret hx hb (hr.trans hret) (mm_narZ hz).1 hend hS1.2.2 hd hlocks)
        · obtain ⟨rfl, hret⟩ := h2 x rfl
          exact vx_ret (W.lret hx hb (hr.trans hret) hend hS1.2.2 hd hlocks)
    · intro k j1 n ci hf h98 st pc L S M1 u hd hn hcat hst hsv hu hK1 ls H locs hl hP1 hD1 hS1
      obtain ⟨t1, ht1, w1, w2, w3, hmx, hmh, hs9, hv9⟩ := (hok.2.2.2 _ (mm_lk_mem hf)).2 h98
      dsimp only at ht1 w2 hs9 hv9
      have hbt : mm_bt T j1 = t1.2.2.2.2.1 := by unfold mm_bt; rw [ht1]
      have hM := mm_sound l Z G cl T ⟨hG, hall⟩ hXs d j1 _ M1 _ hK1 t1 ht1 D ad aC H.size
      have hfr : ∀ q, va_A (mm_w ad aC 0 M1) H.size q → A q := fun q hq => by
        rcases hq with ⟨k9, e9, h9⟩ | h9
        · exact hD1.2 k9 (q, e9) h9
        · exact hA q (Nat.le_trans hS1.1 h9)
      have hpre : ∀ U : State, U.heap = H → s.WarmedH U.vm → mm_Pw Z D cl ad aC H.size M1 U := fun U hU hW =>
        ⟨by rw [hU], by rw [hU]; exact hP1, va_K.moved hW.alike hK, hD1.weaken (fun _ _ _ _ => trivial),
          by rw [hU]; exact vx_Zq.moved hW.alike ((hTh.1.kept hS1.2.1).narrow hfr), by rw [hU]; exact vx_Zq.moved hW.alike ((hTh.2.1.kept hS1.2.1).narrow hfr), fun z hz => by
            obtain ⟨sa, h9⟩ := hTh.2.2.1 z hz
            exact ⟨sa, vk_R.warm hW h9⟩, fun z hz => va_Nw.warmF hW (hTh.2.2.2.1 z hz), fun z hz => va_Nw.warmC hW (hTh.2.2.2.2 z hz)⟩
      have hroom : (mm_room d t1.2.2.2.2.1).frames + 1 ≤ (mm_room (d + 1) t.2.2.2.2.1).frames ∧ 8 + (t1.2.2.1 + 11) + (mm_room d t1.2.2.2.2.1).locals ≤ (mm_room (d + 1) t.2.2.2.2.1).locals := by
        constructor
        · show 8 + d + 1 ≤ 8 + (d + 1)
          omega
        · show 8 + (t1.2.2.1 + 11) + (300 + 64 * d) ≤ 300 + 64 * (d + 1)
          omega
      have hcells : u + t1.2.2.2.2.1 ≤ (mm_room (d + 1) t.2.2.2.2.1).cells ∧ 6 * u + 6 * t1.2.2.2.2.1 ≤ (mm_room (d + 1) t.2.2.2.2.1).slots := by
        rw [hbt] at hu
        constructor
        · exact hu
        · show 6 * u + 6 * t1.2.2.2.2.1 ≤ 6 * t.2.2.2.2.1
          omega
      have hcw : ∀ w ∈ mm_cd t1 :: G, w ∈ G := fun w hw => (List.mem_cons.mp hw).elim (fun e9 => by rw [e9]; exact w1) id
      have hrun : vx_Run p l e (mm_room (d + 1) t.2.2.2.2.1) s m (a.map (mm_v ad)).toArray below meth c H locs u (6 * u) t1.2.2.2.2.1 (6 * t1.2.2.2.2.1) (F0 m pc ls (S.map (mm_v ad))) ((S.drop n).map (mm_v ad)) (mm_Qc D cl ad aC (va_A (mm_w ad aC 0 M1) H.size) (fun r M' => match r with
          | .inl v => mm_X p l e (mm_room (d + 1) t.2.2.2.2.1) s m (a.map (mm_v ad)).toArray below meth c D cl ad aC A t.2.2.1 (vx_MQ below (mm_Qc D cl ad aC A Q) (mm_XC D cl ad aC A Q) (a.map (mm_v ad)).toArray s t.2.2.2.2.1 (6 * t.2.2.2.2.1) A) (pc + 3, L, v.toList ++ S.drop n, M', u + mm_bt T j1)
          | .inr E => Q (.inr E) M') (((S.take n).reverse).map (mm_v ad)).toArray) (mm_XC D cl ad aC (va_A (mm_w ad aC 0 M1) H.size) (fun r M' => match r with
          | .inl v => mm_X p l e (mm_room (d + 1) t.2.2.2.2.1) s m (a.map (mm_v ad)).toArray below meth c D cl ad aC A t.2.2.1 (vx_MQ below (mm_Qc D cl ad aC A Q) (mm_XC D cl ad aC A Q) (a.map (mm_v ad)).toArray s t.2.2.2.2.1 (6 * t.2.2.2.2.1) A) (pc + 3, L, v.toList ++ S.drop n, M', u + mm_bt T j1)
          | .inr E => Q (.inr E) M')) (va_A (mm_w ad aC 0 M1) H.size) := by
        cases st with
        | true =>
          obtain ⟨w4, hpar⟩ := hs9 (hst rfl)
          refine vx_runS (As := ((S.take n).reverse).map (mm_v ad)) (n := n) (own := t.1.cls) (Ts := G) ⟨hx, hb, hml, hown, hts⟩ hM (va_cwS n hts (mm_goodS hG ?_) rfl rfl rfl ⟨hmh.1, hmh.2, hpar⟩ hroom) ⟨mm_blind _ _ _ _ _ _ _ _, fun U hU hW => ⟨rfl, hpre U hU hW⟩⟩ rfl ?_ hl.1 (mm_stk ad S n) (lv_room (by rw [mm_cat_map]; exact hcat)) hd hcells
          · intro w hw
            rcases List.mem_append.mp hw with hw | hw
            · simp only [List.mem_cons, List.not_mem_nil, or_false] at hw
              rcases hw with rfl | rfl | rfl
              · exact w2
              · exact w4
              · exact w3
            · exact hcw w hw
          · simp only [List.length_map, List.length_reverse, List.length_take]
            omega
        | false =>
          obtain ⟨h99, a9, t9, fs, heq, hM9⟩ := hsv rfl
          obtain ⟨w4, w5, ⟨z, hz, hz1⟩, n9, hn9, hpar⟩ := hv9 h99
          have hlt : t9.length = n9 := by
            have e9 := congrArg List.length heq
            simp only [List.length_reverse, List.length_take, List.length_cons] at e9
            omega
          have hstk : S.map (mm_v ad) = (t9.map (mm_v ad)).reverse ++ .ref (ad a9) :: (S.drop n).map (mm_v ad) := by
            rw [mm_stk ad S n, heq]
            simp only [List.map_cons, List.reverse_cons, List.append_assoc, List.singleton_append, mm_v]
          have hrec := va_recv hK hP1 hz (mm_w_at (ad := ad) (aC := aC) hM9)
          rw [hz1] at hrec
          rw [heq] at hM ⊢
          refine vx_runV (As := t9.map (mm_v ad)) (b := ad a9) (n := n9) (own := t.1.cls) (C := t1.1.cls) (Ts := G) ⟨hx, hb, hml, hown, hts⟩ hM (cwV n9 hts (mm_goodS hG ?_) rfl rfl rfl ⟨rfl, hmh.1, hmh.2, hpar⟩ hroom) ⟨mm_blind _ _ _ _ _ _ _ _, hrec, fun U hU hW => ⟨rfl, hpre U hU hW⟩⟩ rfl ?_ hl.1 hstk (lv_room (by rw [mm_cat_map]; exact hcat)) hd hcells
          · intro w hw
            rcases List.mem_append.mp hw with hw | hw
            · simp only [List.mem_cons, List.not_mem_nil, or_false] at hw
              rcases hw with rfl | rfl | rfl | rfl
              · exact w2
              · exact w4
              · exact w5
              · exact w3
            · exact hcw w hw
          · rw [List.length_map]; exact hlt
      refine mm_callrow hrun hS1 (fun q _ h9 => hfr q h9) hfr ?_ ?_
      · intro E ce q9 M2 t2 H1 locs1 ht2 hvm hq hB hz hk hS2 hce hcv hcls
        obtain ⟨hP2, -, hD2⟩ := hB
        rw [ht2] at hP2
        rw [hbt] at hu
        exact vx_out (fun x hx9 => (htab x hx9).elim) hlocks hce hcv hcls (fun t3 ht3 hvm3 => ⟨M2, hq, ⟨by rw [ht3]; exact hP2, va_K.moved hvm3 hK, hD2.weaken (fun _ q _ h9 => hfr q.1 h9)⟩, hS2.F ht3⟩) hS2.2.2 hu (show 6 * u + 6 * t1.2.2.2.2.1 ≤ 6 * t.2.2.2.2.1 by omega)
      · intro v M2 t2 H1 locs1 ht2 hvm hq hB hz hk hS2
        obtain ⟨hP2, -, hD2⟩ := hB
        rw [ht2] at hP2
        have hX := hq ls H1 locs1 hl hP2 (hD2.weaken (fun _ q _ h9 => hfr q.1 h9)) hS2
        dsimp only at hX
        rw [hbt, Nat.mul_add] at hX
        refine W.eq ?_ hX
        cases v <;> rfl
/-- a throw: new, dup, ldc, invokespecial, athrow, with nothing else on the stack -/
theorem mm_throw {l : Launch} (hl : l.stackTraces = false) {Z : mm_Sx} {G : List Cond} {cl : List vw_C} {t : mm_T} {E text : String} {names : List String} {ik is ic pc : Nat}
    (hcls : Bundle.fit E = true) (hnames : ∀ n ∈ names, Bundle.fit n = true) (hlen : names.length = 2) (w1 : Cond.classLink t.1.cls ik E ∈ G) (w2 : Cond.initialized E ∈ G) (hstr : (t.1.cls, is, text) ∈ Z.1) (hcast : E ∈ Z.2.2)
    (hat : ∀ w ∈ vx_atS t.1.cls ic E names, w = .castable E E ∨ w ∈ G) (hgood : ∀ w ∈ Cond.classLink t.1.cls ik E :: Cond.initialized E :: vx_atS t.1.cls ic E names, vx_ot w = true)
    (d0 : decode t.2.1 pc = .ok (.new ik, 3)) (d3 : decode t.2.1 (pc + 3) = .ok (.dup, 1)) (d4 : decode t.2.1 (pc + 4) = .ok (.ldc is, 2)) (d6 : decode t.2.1 (pc + 6) = .ok (.invokespecial ic, 3)) (d9 : decode t.2.1 (pc + 9) = .ok (.athrow, 1))
    (p : Program) (e : Env) (s : State) (m : MethodId) (args : Array Value) (below : List Frame) (meth : Method) (c : Code) (D : va_G) (ad aC : Nat → Nat) (A : Nat → Prop) (d : Nat) (Q : mm_R → mm_M → Prop)
    (C : mm_Cx Z p s m args meth c D cl aC A G t.1.cls t.2.1 t.2.2.1 t.2.2.2.1) (hTh : mm_Th Z A s s.heap) (L : mm_L) (M : mm_M) (u : Nat) (hu : u + 1 ≤ t.2.2.2.2.1) (hq : Q (.inr E) M) :
    mm_X p l e (mm_room (d + 1) t.2.2.2.2.1) s m args below meth c D cl ad aC A t.2.2.1 (vx_MQ below (mm_Qc D cl ad aC A Q) (mm_XC D cl ad aC A Q) args s t.2.2.2.2.1 (6 * t.2.2.2.2.1) A) (pc, L, [], M, u) := by
  intro ls H locs hl1 hP hD hS
  obtain ⟨hx, hb, hml, hown, hts, hr, hlk, htab, hK0, hA, -⟩ := C
  obtain ⟨sa, hsa⟩ := hTh.2.2.1 _ hstr
  refine vx_throwS (names := names) (text := text) (sa := sa) hx hb hl hown hcls hnames (hts _ w1) (hts _ w2) hsa (fun w hw => ?_) hgood hTh.1 hTh.2.1 hS (hl1.1.trans hml.symm) d0 d3 d4 d6 d9 (fun x hx9 => (htab x hx9).elim) ?_ ?_ ?_ ?_ hlk ?_ hS.2.2 hu ?_
  · rcases hat w hw with rfl | h
    · exact va_Nw.use rfl (hTh.2.2.2.2 E hcast)
    · exact hts w h
  · show names.length + 3 < 8 + (d + 1)
    omega
  · show (([] : List Value).map fun v => v.category).sum + (13 * (names.length + 1) + 43) ≤ 300 + 64 * (d + 1)
    simp only [List.map_nil, List.sum_nil]
    omega
  · exact hu
  · show 6 * u + 6 ≤ 6 * t.2.2.2.2.1
    omega
  · intro t1 hvm hz hk
    exact ⟨M, hq, ⟨fun k q hq9 => (hP k q hq9).kept (hk q.1 (hP k q hq9).lt), va_K.moved hvm hK0, hD⟩, Nat.le_trans hS.1 hz, fun q h1 h2 => (hk q (Nat.lt_of_lt_of_le h1 hS.1)).trans (hS.2.1 q h1 h2)⟩
  · show 6 * u + 6 ≤ 6 * t.2.2.2.2.1
    omega
