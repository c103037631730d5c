theorem mm_lg (ad : Nat → Nat) : ∀ a : List Value, (lg_sl (a.map (mm_v ad))).length = (lg_sl a).length
  | [] => rfl
  | v :: a => by
    have h := mm_lg ad a
    simp only [lg_sl, List.map_cons, List.flatMap_cons, List.length_append, mm_v_cat] at h ⊢
    rw [h]
    congr 1
    split <;> rfl
theorem mm_blind (Z : mm_Sx) (hZ : ∀ w ∈ Z.2.1, mm_wk w = true) (D : va_G) (cl : List vw_C) (ad aC : Nat → Nat) (sz : Nat) (M : mm_M) (av : List Value) : FrameBlind (va_Pc av (mm_Pw Z D cl ad aC sz M)) := by
  intro a U g mk q
  obtain ⟨q0, q1, qP, qK, qD, q3, q4, q5, q6, q7, q8⟩ := q
  exact ⟨q0, q1, qP, va_K.moved (u := U) (U := U.calling g mk a) (Vm.Alike.refl U.vm) qK, qD, vx_Zq.moved (u := U) (U := U.calling g mk a) (Vm.Alike.refl U.vm) q3, vx_Zq.moved (u := U) (U := U.calling g mk a) (Vm.Alike.refl U.vm) q4, fun z hz => by
    obtain ⟨sa, h⟩ := q5 z hz
    exact ⟨sa, vk_R.same (u := U) (U := U.calling g mk a) rfl h⟩, fun z hz => va_Nw.same (u := U) (U := U.calling g mk a) (mm_wk_tab (hZ z hz)) rfl (q6 z hz), fun z hz => va_Nw.same (u := U) (U := U.calling g mk a) rfl rfl (q7 z hz), fun z hz y hy hn => va_Nc.moved (u := U) (U := U.calling g mk a) (Vm.Alike.refl U.vm) (q8 z hz y hy hn)⟩
theorem mm_stk (ad : Nat → Nat) (S : List Value) (n : Nat) : S.map (mm_v ad) = (((S.take n).reverse).map (mm_v ad)).reverse ++ (S.drop n).map (mm_v ad) := by
  rw [← List.map_reverse, List.reverse_reverse, ← List.map_append, List.take_append_drop]
theorem mm_goodS {G : List Cond} (hG : ∀ w ∈ G, goodWord w = true) {ws : List Cond} (h : ∀ w ∈ ws, w ∈ G) : GoodIn G ws := fun w hw => ⟨h w hw, good_of_word (hG w (h w hw))⟩
/-- what the tables must say of all methods -/
def mm_okT (Z : mm_Sx) (G : List Cond) (cl : List vw_C) (T : List mm_T) : Prop := (∀ w ∈ G, goodWord w = true) ∧ (∀ w ∈ Z.2.1, mm_wk w = true) ∧ ∀ (j : Nat) (t : mm_T), T[j]? = some t → plainName t.1.cls = true ∧ mm_cd t ∈ G ∧ mm_ok Z G cl T t.1.cls t.2.1 t.2.2.1 t.2.2.2.2.2 ∧ mm_fz t.2.2.2.2.2 = []
/-- the throws of a method, each by a row of its own -/
def mm_okX (l : Launch) (Z : mm_Sx) (G : List Cond) (cl : List vw_C) (t : mm_T) : Prop :=
  ∀ (pc : Nat) (E : String), mm_lk t.2.2.2.2.2.2.2.2.2.1 pc = some E → mm_hs t.2.2.2.2.2 = [] → ∀ (p : Program) (e : Env) (s : State) (m : MethodId) (args : Array Value) (below : List Frame) (meth : Method) (c : Code) (D : va_G) (ad aC : Nat → Nat) (A : Nat → Prop) (d : Nat) (Q : mm_R → mm_M → Prop),
    mm_Cx Z p s m args meth c D cl ad aC A G t.1.cls t.2.1 t.2.2.1 t.2.2.2.1 [] [] → mm_Th Z A s s.heap → ∀ L M u, u + 1 ≤ t.2.2.2.2.1 → Q (.inr E) M →
    mm_X p l e (mm_room (d + 1) t.2.2.2.2.1) s m args below meth c D cl ad aC A t.2.2.1 (vx_MQ below (mm_Qc D cl ad aC A Q) (mm_XC D cl ad aC A Q) args s t.2.2.2.2.1 (6 * t.2.2.2.2.1) A) (pc, L, [], M, u)
theorem mm_hd_spec {pc : Nat} {E : String} {q : Nat × Nat} : ∀ {hs : List mm_H}, mm_hd hs pc E = some q → ∃ (pre : List mm_H) (h : mm_H) (suf : List mm_H), hs = pre ++ h :: suf ∧ h.2.2.2.2.2 = q ∧ h.2.2.2.2.1 = E ∧ h.1 ≤ pc ∧ pc < h.2.1 ∧ ∀ z ∈ pre, ¬ (z.1 ≤ pc ∧ pc < z.2.1) ∨ z.2.2.2.2.1 ≠ E
  | [], h => by cases h
  | z :: t, h => by
    unfold mm_hd at h
    cases hb : (Nat.ble z.1 pc && Nat.blt pc z.2.1 && decide (z.2.2.2.2.1 = E)) with
    | true =>
      rw [hb] at h
      rw [Bool.and_eq_true, Bool.and_eq_true] at hb
      obtain ⟨⟨b1, b2⟩, b3⟩ := hb
      refine ⟨[], z, t, rfl, ?_, of_decide_eq_true b3, Nat.le_of_ble_eq_true b1, Nat.le_of_ble_eq_true b2, fun _ hz => absurd hz List.not_mem_nil⟩
      exact Option.some.inj h
    | false =>
      rw [hb] at h
      obtain ⟨pre, y, suf, e1, e2, e3, e4, e5, e6⟩ := mm_hd_spec (hs := t) h
      refine ⟨z :: pre, y, suf, by rw [e1]; rfl, e2, e3, e4, e5, fun x hx => ?_⟩
      rcases List.mem_cons.mp hx with rfl | hx
      · by_cases hE : x.2.2.2.2.1 = E
        · left
          intro ⟨h1, h2⟩
          have h3 : (Nat.ble x.1 pc && Nat.blt pc x.2.1 && decide (x.2.2.2.2.1 = E)) = true := by
            rw [Bool.and_eq_true, Bool.and_eq_true]
            exact ⟨⟨Nat.ble_eq_true_of_le h1, Nat.ble_eq_true_of_le h2⟩, decide_eq_true hE⟩
          rw [h3] at hb
          cases hb
        · exact Or.inr hE
      · exact e6 x hx
theorem mm_drop {ad : Nat → Nat} {ls : Array Slot} {nL i x : Nat} {L : mm_L} (h : lv_has ls nL ((i, Value.ref x) :: (mm_lm ad L).filter (fun q => !(q.1 == i) && !(q.1 + 1 == i && q.2.category == 2)))) : lv_has ls nL (mm_lm ad (mm_dr L i)) := by
  refine ⟨h.1, h.2.1, fun q hq => h.2.2 q (List.mem_cons_of_mem _ ?_)⟩
  have e := mm_filter ad (fun a b => !(a == i) && !(a + 1 == i && b == 2)) L
  have e2 : (mm_lm ad L).filter (fun q => !(q.1 == i) && !(q.1 + 1 == i && q.2.category == 2)) = mm_lm ad (mm_dr L i) := e
  rw [e2]
  exact hq
/-- what mm_sound says of the methods of T, with at most d calls open -/
def mm_Sd (l : Launch) (Z : mm_Sx) (G : List Cond) (cl : List vw_C) (T : List mm_T) (d : Nat) : Prop :=
  ∀ (j : Nat) (a : List Value) (M : mm_M) (Q : mm_R → mm_M → Prop), mm_call T d j a M Q → ∀ t, T[j]? = some t → ∀ (D : va_G) (ad aC : Nat → Nat) (sz : Nat),
      vx_Met l t.1 (mm_cd t :: G) (mm_room d t.2.2.2.2.1) (va_Pc (a.map (mm_v ad)) (mm_Pw Z D cl ad aC sz M)) (mm_Qc D cl ad aC (va_A (mm_w ad aC 0 M) sz) Q) (mm_XC D cl ad aC (va_A (mm_w ad aC 0 M) sz) Q) t.2.2.2.2.1 (6 * t.2.2.2.2.1) (va_A (mm_w ad aC 0 M) sz)
set_option maxHeartbeats 4000000 in
set_option maxRecDepth 100000 in
/-- a call -/
theorem mm_callstep {l : Launch} {Z : mm_Sx} {G : List Cond} {cl : List vw_C} {T : List mm_T} {d b nL : Nat} (IH : mm_Sd l Z G cl T d) (hG : ∀ w ∈ G, goodWord w = true) (hZ : ∀ w ∈ Z.2.1, mm_wk w = true) {own : String} {cc : ByteArray} {P : mm_P} (hok : mm_ok Z G cl T own cc nL P) {p : Program} {e : Env} {s : State} {m : MethodId} {args : Array Value} {below : List Frame} {meth : Method} {c : Code} {D : va_G} {ad aC : Nat → Nat} {A : Nat → Prop} {ret : Option FieldType} {fz : List (Nat × Nat × (Nat → Int32))} {R : Room} {QQ : State → Prop} {Q : mm_R → mm_M → Prop}
    (hR : mm_rm R d b) (C : mm_Cx Z p s m args meth c D cl ad aC A G own cc nL ret (mm_hs P) fz) (hTh : mm_Th Z A s s.heap)
    (hout : mm_hs P = [] → ∀ (E : String) (ce : Cell) (q9 : Addr) (M2 : mm_M) (H1 : Heap) (locs1 : List Loc) (ls : Array Slot) (rest : List Value) (pc u : Nat), Q (.inr E) M2 → va_P D cl (mm_w ad aC 0 M2) H1 → va_D A (mm_w ad aC 0 M2) → va_S A s.heap H1 locs1 → H1[q9]? = some ce → ce.vm = .none → s.vm.findClass E = some ce.cls → u ≤ b → vx_W p l e R s m args below meth c H1 locs1 u (6 * u) QQ (F0 m pc ls rest) q9)
    (k j1 n ci : Nat) (hf : mm_lk P.2.2.2.1 k = some (j1, n, ci)) (h98 : ci ≠ 98) (st : Bool) (pc : Nat) (L : mm_L) (S : List Value) (M1 : mm_M) (u : Nat) (hd : decode cc pc = .ok (if st then .invokestatic k else .invokevirtual k, 3)) (hn : n ≤ S.length) (hcat : mm_cat (S.drop n) ≤ 8) (hst : st = true → ci = 99) (hsv : st = false → ci ≠ 99 ∧ ∃ a t fs, (S.take n).reverse = .ref a :: t ∧ M1[a]? = some (.inr (ci, fs))) (hu : u + mm_bt T j1 ≤ b)
    (hK1 : mm_call T d j1 (S.take n).reverse M1 (mm_rs Q (mm_X p l e R s m args below meth c D cl ad aC A nL QQ) (fun v M' => (pc + 3, L, v.toList ++ S.drop n, M', u + mm_bt T j1)) (mm_ce P pc L (u + mm_bt T j1)))) : mm_X p l e R s m args below meth c D cl ad aC A nL QQ (pc, L, S, M1, u) := by
  intro ls H locs hl hP1 hD1 hS1
  obtain ⟨hx, hb, hml, hown, hts, hr, hlocks, htab, hK, hA, hnest, -⟩ := C
  obtain ⟨t1, ht1, w1, w2, w3, hmx, hmh, hs9, hv9⟩ := (hok.2.2.2.1 _ (mm_lk_mem hf)).2 h98
  dsimp only at ht1 w2 hs9 hv9
  have hbt : mm_bt T j1 = t1.2.2.2.2.1 := by unfold mm_bt; rw [ht1]
  obtain ⟨QC, hQC⟩ : ∃ z, z = mm_rs Q (mm_X p l e R s m args below meth c D cl ad aC A nL QQ) (fun v M' => (pc + 3, L, v.toList ++ S.drop n, M', u + mm_bt T j1)) (mm_ce P pc L (u + mm_bt T j1)) := ⟨_, rfl⟩
  rw [← hQC] at hK1
  have hM := IH j1 _ M1 _ hK1 t1 ht1 D ad aC H.size
  have hfr : ∀ q, va_A (mm_w ad aC 0 M1) H.size q → A q := fun q hq => by
    rcases hq with ⟨k9, e9, h9⟩ | h9
    · exact hD1.2 k9 (q, e9) h9
    · exact hA q (Nat.le_trans hS1.1 h9)
  have hpre : ∀ U : State, U.heap = H → s.WarmedH U.vm → mm_Pw Z D cl ad aC H.size M1 U := fun U hU hW =>
    ⟨by rw [hU], by rw [hU]; exact hP1, va_K.moved hW.alike hK, hD1.weaken (fun _ _ _ _ => trivial),
      by rw [hU]; exact vx_Zq.moved hW.alike ((hTh.1.kept hS1.2.1).narrow hfr), by rw [hU]; exact vx_Zq.moved hW.alike ((hTh.2.1.kept hS1.2.1).narrow hfr), fun z hz => by
        obtain ⟨sa, h9⟩ := hTh.2.2.1 z hz
        exact ⟨sa, vk_R.warm hW h9⟩, fun z hz => mm_wk_warm (hZ z hz) hW (hTh.2.2.2.1 z hz), fun z hz => va_Nw.warmC hW (hTh.2.2.2.2.1 z hz), fun z hz y hy hn9 => va_Nc.moved hW.alike (hTh.2.2.2.2.2 z hz y hy hn9)⟩
  have hroom : (mm_room d t1.2.2.2.2.1).frames + 1 ≤ R.frames ∧ 8 + (t1.2.2.1 + 11) + (mm_room d t1.2.2.2.2.1).locals ≤ R.locals := by
    constructor
    · refine Nat.le_trans ?_ hR.1
      show 8 + d + 1 ≤ 8 + (d + 1)
      omega
    · refine Nat.le_trans ?_ hR.2.1
      show 8 + (t1.2.2.1 + 11) + (300 + 64 * d) ≤ 300 + 64 * (d + 1)
      omega
  have hcells : u + t1.2.2.2.2.1 ≤ R.cells ∧ 6 * u + 6 * t1.2.2.2.2.1 ≤ R.slots := by
    have hu9 := hu
    rw [hbt] at hu9
    have r1 := hR.2.2.1
    have r2 := hR.2.2.2
    omega
  have hcw : ∀ w ∈ mm_cd t1 :: G, w ∈ G := fun w hw => (List.mem_cons.mp hw).elim (fun e9 => by rw [e9]; exact w1) id
  have hrun : vx_Run p l e R s m args below meth c H locs u (6 * u) t1.2.2.2.2.1 (6 * t1.2.2.2.2.1) (F0 m pc ls (S.map (mm_v ad))) ((S.drop n).map (mm_v ad)) (mm_Qc D cl ad aC (va_A (mm_w ad aC 0 M1) H.size) QC (((S.take n).reverse).map (mm_v ad)).toArray) (mm_XC D cl ad aC (va_A (mm_w ad aC 0 M1) H.size) QC) (va_A (mm_w ad aC 0 M1) H.size) := by
    cases st with
    | true =>
      obtain ⟨w4, hpar⟩ := hs9 (hst rfl)
      have hwds : ∀ w ∈ va_wsS own k t1.1 (mm_cd t1 :: G), w ∈ G := by
        intro w hw
        rcases List.mem_append.mp hw with hw | hw
        · simp only [List.mem_cons, List.not_mem_nil, or_false] at hw
          rcases hw with rfl | rfl | rfl
          · exact w2
          · exact w4
          · exact w3
        · exact hcw w hw
      have hlen9 : (((S.take n).reverse).map (mm_v ad)).length = n := by
        simp only [List.length_map, List.length_reverse, List.length_take]
        omega
      cases hh9 : mm_hs t1.2.2.2.2.2 with
      | nil =>
        have hc9 : mm_cd t1 = .code t1.1 t1.2.1 t1.2.2.1 t1.2.2.2.1 := by unfold mm_cd; rw [hh9]
        rw [hc9] at hM hwds
        exact vx_runS (As := ((S.take n).reverse).map (mm_v ad)) (n := n) (own := own) (Ts := G) ⟨hx, hb, hml, hown, hts⟩ hM (va_cwS n hts (mm_goodS hG hwds) rfl rfl rfl ⟨hmh.1, hmh.2, hpar⟩ hroom) ⟨mm_blind _ hZ _ _ _ _ _ _ _, fun U hU hW => ⟨rfl, hpre U hU hW⟩⟩ rfl hlen9 hl.1 (mm_stk ad S n) (lv_room (by rw [mm_cat_map]; exact hcat)) hd hcells
      | cons h0 r0 =>
        have hc9 : mm_cd t1 = .codeWith t1.1 t1.2.1 t1.2.2.1 t1.2.2.2.1 (mm_hh (h0 :: r0)) := by unfold mm_cd; rw [hh9]
        rw [hc9] at hM hwds
        exact vx_runSX (As := ((S.take n).reverse).map (mm_v ad)) (n := n) (own := own) (Ts := G) (hh := mm_hh (h0 :: r0)) ⟨hx, hb, hml, hown, hts⟩ hM (vx_cwSW n hts (mm_goodS hG hwds) rfl rfl rfl ⟨hmh.1, hmh.2, hpar⟩ hroom) ⟨mm_blind _ hZ _ _ _ _ _ _ _, fun U hU hW => ⟨rfl, hpre U hU hW⟩⟩ rfl hlen9 hl.1 (mm_stk ad S n) (lv_room (by rw [mm_cat_map]; exact hcat)) hd hcells
    | false =>
      obtain ⟨h99, a9, t9, fs, heq, hM9⟩ := hsv rfl
      obtain ⟨hh9, w4, w5, ⟨z, hz, hz1⟩, n9, hn9, hpar⟩ := hv9 h99
      have hlt : t9.length = n9 := by
        have e9 := congrArg List.length heq
        simp only [List.length_reverse, List.length_take, List.length_cons] at e9
        omega
      have hstk : S.map (mm_v ad) = (t9.map (mm_v ad)).reverse ++ .ref (ad a9) :: (S.drop n).map (mm_v ad) := by
        rw [mm_stk ad S n, heq]
        simp only [List.map_cons, List.reverse_cons, List.append_assoc, List.singleton_append, mm_v]
      have hrec := va_recv hK hP1 hz (mm_w_at (ad := ad) (aC := aC) hM9)
      rw [hz1] at hrec
      have hc9 : mm_cd t1 = .code t1.1 t1.2.1 t1.2.2.1 t1.2.2.2.1 := by unfold mm_cd; rw [hh9]
      rw [hc9] at hM hcw
      rw [heq] at hM ⊢
      refine vx_runV (As := t9.map (mm_v ad)) (b := ad a9) (n := n9) (own := own) (C := t1.1.cls) (Ts := G) ⟨hx, hb, hml, hown, hts⟩ hM (cwV n9 hts (mm_goodS hG ?_) rfl rfl rfl ⟨rfl, hmh.1, hmh.2, hpar⟩ hroom) ⟨mm_blind _ hZ _ _ _ _ _ _ _, hrec, fun U hU hW => ⟨rfl, hpre U hU hW⟩⟩ rfl ?_ hl.1 hstk (lv_room (by rw [mm_cat_map]; exact hcat)) hd hcells
      · intro w hw
        rcases List.mem_append.mp hw with hw | hw
        · simp only [List.mem_cons, List.not_mem_nil, or_false] at hw
          rcases hw with rfl | rfl | rfl | rfl
          · exact w2
          · exact w4
          · exact w5
          · exact w3
        · exact hcw w hw
      · rw [List.length_map]; exact hlt
  subst hQC
  refine mm_callrow hrun hS1 (fun q _ h9 => hfr q h9) hfr ?_ ?_
  · intro E ce q9 M2 t2 H1 locs1 ht2 hvm hq hB hz hk hS2 hce hcv hcls
    obtain ⟨hP2, -, hD2⟩ := hB
    rw [ht2] at hP2
    have hD3 := hD2.weaken (B := A) (fun _ q _ h9 => hfr q.1 h9)
    have hq : mm_ex Q (mm_X p l e R s m args below meth c D cl ad aC A nL QQ) E M2 (mm_ce P pc L (u + mm_bt T j1) E M2) := hq
    show vx_W p l e R s m args below meth c H1 locs1 (u + t1.2.2.2.2.1) (6 * u + 6 * t1.2.2.2.2.1) QQ (F0 m pc ls ((S.drop n).map (mm_v ad))) q9
    rw [← hbt, ← Nat.mul_add]
    cases hh : mm_hs P with
    | nil =>
      unfold mm_ce at hq
      rw [hh] at hq
      exact hout hh E ce q9 M2 H1 locs1 ls _ pc _ hq hP2 hD3 hS2 hce hcv hcls hu
    | cons h0 r0 =>
      unfold mm_ce at hq
      rw [hh] at hq
      dsimp only at hq
      cases hhd : mm_hd (h0 :: r0) pc E with
      | none => rw [hhd] at hq; exact hq.elim
      | some y =>
        rw [hhd] at hq
        have hX : mm_X p l e R s m args below meth c D cl ad aC A nL QQ (y.1, mm_dr L y.2, [], M2, u + mm_bt T j1) := hq
        obtain ⟨pre, h1, suf, e1, e2, e3, e4, e5, e6⟩ := mm_hd_spec hhd
        rw [← hh] at e1
        have hokH := hok.2.2.2.2.1
        obtain ⟨o1, o2, o3, o4, o5⟩ := hokH h1 (by rw [e1]; exact List.mem_append_right _ List.mem_cons_self)
        refine vx_catch (own := own) (name := E) (E := E) hown (tableOf (mm_hh pre)) ⟨h1.1, h1.2.1, h1.2.2.1, h1.2.2.2.1⟩ (tableOf (mm_hh suf)) ?_ ?_ ?_ o3 ?_ ?_ hce hcv hcls ?_
        · rw [htab, e1]
          simp only [mm_hh, tableOf, List.map_append, List.map_cons]
        · intro z hz
          obtain ⟨z1, hz1, rfl⟩ := List.mem_map.mp hz
          obtain ⟨z2, hz2, rfl⟩ := List.mem_map.mp hz1
          obtain ⟨v1, v2, v3, -, -⟩ := hokH z2 (by rw [e1]; exact List.mem_append_left _ hz2)
          rcases e6 z2 hz2 with g | g
          · left
            dsimp only [covers]
            rw [← Bool.decide_and]
            exact decide_eq_false g
          · right
            refine ⟨v3, z2.2.2.2.2.1, hts _ v1, ?_⟩
            rw [← e3]
            rw [← e3] at g
            exact hTh.2.2.2.2.2 _ o2 _ v2 (fun h => g h.symm)
        · dsimp only [covers]
          rw [← Bool.decide_and]
          exact decide_eq_true ⟨e4, e5⟩
        · rw [← e3]; exact hts _ o1
        · rw [← e3]; exact va_Nw.use rfl (hTh.2.2.2.2.1 _ o2)
        · rw [← e2] at hX
          rcases o5 with ⟨kf, k1, k2, k3⟩ | ⟨k2, k3⟩
          · refine lv_astore_n hx hb k2 k1 hl o4 rfl (fun ls' hl' => ?_)
            have h9 := hX ls' H1 locs1 (mm_drop hl') hP2 hD3 hS2
            dsimp only at h9
            rw [k3] at h9
            exact h9
          · refine lv_astore hx hb k2 hl o4 rfl (fun ls' hl' => ?_)
            have h9 := hX ls' H1 locs1 (mm_drop hl') hP2 hD3 hS2
            dsimp only at h9
            rw [k3] at h9
            exact h9
  · intro v M2 t2 H1 locs1 ht2 hvm hq hB hz hk hS2
    obtain ⟨hP2, -, hD2⟩ := hB
    rw [ht2] at hP2
    have hX : mm_X p l e R s m args below meth c D cl ad aC A nL QQ (pc + 3, L, v.toList ++ S.drop n, M2, u + mm_bt T j1) := hq
    have hX := hX ls H1 locs1 hl hP2 (hD2.weaken (fun _ q _ h9 => hfr q.1 h9)) hS2
    dsimp only at hX
    rw [hbt, Nat.mul_add] at hX
    refine W.eq ?_ hX
    cases v <;> rfl
set_option maxHeartbeats 4000000 in
set_option maxRecDepth 100000 in
theorem mm_sound (l : Launch) (Z : mm_Sx) (G : List Cond) (cl : List vw_C) (T : List mm_T) (hT : mm_okT Z G cl T) (hXs : ∀ (j : Nat) (t : mm_T), T[j]? = some t → mm_okX l Z G cl t) : ∀ d : Nat, mm_Sd l Z G cl T d
  | 0 => fun _ _ _ _ h => h.elim
  | d + 1 => by
    intro j a M Q h t ht D ad aC sz
    have IH := mm_sound l Z G cl T hT hXs d
    obtain ⟨hG, hZ, hall⟩ := hT
    obtain ⟨hpl, hcd, hok, hfz⟩ := hall j t ht
    unfold mm_call at h
    rw [ht] at h
    obtain ⟨hlen, h⟩ := h
    have body : ∀ (ws : List Cond) (p : Program) (e : Env) (s : State) (m : MethodId) (args : Array Value) (below : List Frame) (meth : Method) (c : Code) (s₁ : State), BodyLoose p l t.1 (headSpec ws (mm_room (d + 1) t.2.2.2.2.1)) t.2.1 t.2.2.1 t.2.2.2.1 e s m args below meth c s₁ → (∀ w ∈ G, w ∈ ws) → c.maxLocals = t.2.2.1 → c.exceptionTable.toList = tableOf (mm_hh (mm_hs t.2.2.2.2.2)) → va_Pc (a.map (mm_v ad)) (mm_Pw Z D cl ad aC sz M) args s →
        W p l e (mm_room (d + 1) t.2.2.2.2.1) s m args below meth c s.heap [] 0 0 (vx_MQ below (mm_Qc D cl ad aC (va_A (mm_w ad aC 0 M) sz) Q) (mm_XC D cl ad aC (va_A (mm_w ad aC 0 M) sz) Q) args s t.2.2.2.2.1 (6 * t.2.2.2.2.1) (va_A (mm_w ad aC 0 M) sz)) (entryFrame m args t.2.2.1) := by
      intro ws p e s m args below meth c s₁ B hws hml htab hv
      obtain ⟨rfl, hsz, hP, hK, hD0, hTh⟩ := hv
      subst hsz
      have hts0 := atoms_spec (ws := ws) B.pre
      have hts : ∀ w ∈ G, w.before (a.map (mm_v ad)).toArray s = true := fun w hw => hts0 w (hws w hw)
      have hD := hD0.self (sz := s.heap.size)
      obtain ⟨A, hAe⟩ : ∃ z, z = va_A (mm_w ad aC 0 M) s.heap.size := ⟨_, rfl⟩
      rw [← hAe] at hD hTh ⊢
      have hA : ∀ q : Nat, s.heap.size ≤ q → A q := fun q h => by rw [hAe]; exact Or.inr h
      have C : mm_Cx Z p s m (a.map (mm_v ad)).toArray meth c D cl ad aC A G t.1.cls t.2.1 t.2.2.1 t.2.2.2.1 (mm_hs t.2.2.2.2.2) (mm_fz t.2.2.2.2.2) := ⟨B.exec, B.bytes, hml, findClass_of_methodNamed B.named, hts, B.returns, B.notSynchronized, htab, hK, hA, hTh.2.2.2.1, by rw [hfz]; exact fun _ h9 => absurd h9 List.not_mem_nil⟩
      have hR : mm_rm (mm_room (d + 1) t.2.2.2.2.1) d t.2.2.2.2.1 := ⟨Nat.le_refl _, Nat.le_refl _, Nat.le_refl _, Nat.le_refl _⟩
      have hx := B.exec
      have hb := B.bytes
      have hr := B.returns
      have hlocks := B.notSynchronized
      have key := h _ (mm_close (l := l) (e := e) (below := below) (ad := ad) (d := d) (K := mm_call T d) (Q := Q) (b := t.2.2.2.2.1) (R := mm_room (d + 1) t.2.2.2.2.1) (QQ := vx_MQ below (mm_Qc D cl ad aC A Q) (mm_XC D cl ad aC A Q) (a.map (mm_v ad)).toArray s t.2.2.2.2.1 (6 * t.2.2.2.2.1) A) hR C hok
        (fun pc E hE L M u hu hq => by
          have hh0 : mm_hs t.2.2.2.2.2 = [] := by
            rcases hok.2.2.2.2.2 with h0 | h0
            · exact h0
            · rw [h0] at hE; cases hE
          rw [hh0, hfz] at C
          exact hXs j t ht pc E hE hh0 p e s m _ below meth c D ad aC A d Q C hTh L M u hu hq) ?_
        (mm_callstep IH hG hZ hok hR C hTh (fun hh0 E ce q9 M2 H1 locs1 ls rest pc u hq hP2 hD2 hS2 hce hcv hcls hu => vx_out (fun x hx9 => by rw [htab, hh0] at hx9; cases hx9) hlocks hce hcv hcls (fun t3 ht3 hvm3 => ⟨M2, hq, ⟨by rw [ht3]; exact hP2, va_K.moved hvm3 hK, hD2⟩, hS2.F ht3⟩) hS2.2.2 hu (Nat.mul_le_mul_left 6 hu))))
      · have hl := lv_entry (a.map (mm_v ad)) (n := t.2.2.1) (by rw [mm_lg]; exact hlen)
        rw [mm_lv_args] at hl
        rw [lg_entry_eq]
        exact key _ s.heap [] hl hP hD va_S.rf
      · intro r M1 u hu hq i pc hd h1 h2 h3 h4 L ls H locs hl hP1 hD1 hS1
        refine W.widen (k := t.2.2.2.2.1) (n := 6 * t.2.2.2.2.1) hu (Nat.mul_le_mul_left 6 hu) ?_
        have hend : ∀ t1 : State, t1.heap = H → s.WarmedH t1.vm → mm_Qc D cl ad aC A Q (a.map (mm_v ad)).toArray s (.returned (r.map (mm_v ad))) t1 := fun t1 ht1 hW => ⟨r, M1, rfl, hq, ⟨by rw [ht1]; exact hP1, va_K.moved hW.alike hK, hD1⟩, hS1.F ht1⟩
        cases r with
        | none =>
          obtain ⟨rfl, hret⟩ := h3 rfl
          exact vx_ret (W.vret hx hb (hr.trans hret) hend hS1.2.2 hd hlocks)
        | some v =>
          rcases h4 v rfl with ⟨x, rfl⟩ | ⟨x, rfl⟩
          · obtain ⟨rfl, hret | ⟨hret, hz⟩⟩ := h1 x rfl
            · exact vx_ret (W.iret hx hb (hr.trans hret) hend hS1.2.2 hd hlocks)
            · exact vx_ret (W.zret hx hb (hr.trans hret) (mm_narZ hz).1 hend hS1.2.2 hd hlocks)
          · obtain ⟨rfl, hret⟩ := h2 x rfl
            exact vx_ret (W.lret hx hb (hr.trans hret) hend hS1.2.2 hd hlocks)
    cases hh : mm_hs t.2.2.2.2.2 with
    | nil =>
      have hc9 : mm_cd t = .code t.1 t.2.1 t.2.2.1 t.2.2.2.1 := by unfold mm_cd; rw [hh]
      refine vx_ofW (cc := t.2.1) (maxL := t.2.2.1) (ret := t.2.2.2.1) hpl (by rw [hc9]) ?_
      intro p e s m args below meth c s₁ B hml htab hv
      refine body _ p e s m args below meth c s₁ B (fun w hw => List.mem_cons_of_mem _ hw) hml ?_ hv
      rw [hh]
      exact List.eq_nil_iff_forall_not_mem.mpr (fun x hx => htab x hx)
    | cons h0 r0 =>
      have hc9 : mm_cd t = .codeWith t.1 t.2.1 t.2.2.1 t.2.2.2.1 (mm_hh (h0 :: r0)) := by unfold mm_cd; rw [hh]
      refine vx_ofWH (cc := t.2.1) (maxL := t.2.2.1) (ret := t.2.2.2.1) (hh := mm_hh (h0 :: r0)) hpl (by rw [hc9]) ?_
      intro p e s m args below meth c s₁ B hml hv
      refine body _ p e s m args below meth c s₁ B (fun w hw => List.mem_cons_of_mem _ hw) hml ?_ hv
      rw [hh]
      exact vx_table (x := t.1) B (atoms_spec (ws := mm_cd t :: G) B.pre _ (by rw [hc9]; exact List.mem_cons_self))
/-- a throw: new, dup, ldc, invokespecial, athrow, with nothing else on the stack -/
theorem mm_throw {l : Launch} (hl : l.stackTraces = false) {Z : mm_Sx} {G : List Cond} {cl : List vw_C} {t : mm_T} {E text : String} {names : List String} {ik is ic pc : Nat}
    (hcls : Bundle.fit E = true) (hnames : ∀ n ∈ names, Bundle.fit n = true) (hlen : names.length = 2) (w1 : Cond.classLink t.1.cls ik E ∈ G) (w2 : Cond.initialized E ∈ G) (hstr : (t.1.cls, is, text) ∈ Z.1) (hcast : E ∈ Z.2.2)
    (hat : ∀ w ∈ vx_atS t.1.cls ic E names, w = .castable E E ∨ w ∈ Z.2.1 ∨ w ∈ G) (hZ : ∀ w ∈ Z.2.1, mm_wk w = true) (hgood : ∀ w ∈ Cond.classLink t.1.cls ik E :: Cond.initialized E :: vx_atS t.1.cls ic E names, vx_ot w = true)
    (d0 : decode t.2.1 pc = .ok (.new ik, 3)) (d3 : decode t.2.1 (pc + 3) = .ok (.dup, 1)) (d4 : decode t.2.1 (pc + 4) = .ok (.ldc is, 2)) (d6 : decode t.2.1 (pc + 6) = .ok (.invokespecial ic, 3)) (d9 : decode t.2.1 (pc + 9) = .ok (.athrow, 1))
    (p : Program) (e : Env) (s : State) (m : MethodId) (args : Array Value) (below : List Frame) (meth : Method) (c : Code) (D : va_G) (ad aC : Nat → Nat) (A : Nat → Prop) (d : Nat) (Q : mm_R → mm_M → Prop)
    (C : mm_Cx Z p s m args meth c D cl ad aC A G t.1.cls t.2.1 t.2.2.1 t.2.2.2.1 [] []) (hTh : mm_Th Z A s s.heap) (L : mm_L) (M : mm_M) (u : Nat) (hu : u + 1 ≤ t.2.2.2.2.1) (hq : Q (.inr E) M) :
    mm_X p l e (mm_room (d + 1) t.2.2.2.2.1) s m args below meth c D cl ad aC A t.2.2.1 (vx_MQ below (mm_Qc D cl ad aC A Q) (mm_XC D cl ad aC A Q) args s t.2.2.2.2.1 (6 * t.2.2.2.2.1) A) (pc, L, [], M, u) := by
  intro ls H locs hl1 hP hD hS
  obtain ⟨hx, hb, hml, hown, hts, hr, hlk, htab0, hK0, hA, hnest, -⟩ := C
  have htab : ∀ x ∈ c.exceptionTable.toList, False := fun x h9 => by rw [htab0] at h9; cases h9
  obtain ⟨sa, hsa⟩ := hTh.2.2.1 _ hstr
  refine vx_throwS (names := names) (text := text) (sa := sa) hx hb hl hown hcls hnames (hts _ w1) (hts _ w2) hsa (fun w hw => ?_) hgood hTh.1 hTh.2.1 hS (hl1.1.trans hml.symm) d0 d3 d4 d6 d9 (fun x hx9 => (htab x hx9).elim) ?_ ?_ ?_ ?_ hlk ?_ hS.2.2 hu ?_
  · rcases hat w hw with rfl | h | h
    · exact va_Nw.use rfl (hTh.2.2.2.2.1 E hcast)
    · exact va_Nw.use (mm_wk_tab (hZ w h)) (hnest w h)
    · exact hts w h
  · show names.length + 3 < 8 + (d + 1)
    omega
  · show (([] : List Value).map fun v => v.category).sum + (13 * (names.length + 1) + 43) ≤ 300 + 64 * (d + 1)
    simp only [List.map_nil, List.sum_nil]
    omega
  · exact hu
  · show 6 * u + 6 ≤ 6 * t.2.2.2.2.1
    omega
  · intro t1 hvm hz hk
    exact ⟨M, hq, ⟨fun k q hq9 => (hP k q hq9).kept (hk q.1 (hP k q hq9).lt), va_K.moved hvm hK0, hD⟩, Nat.le_trans hS.1 hz, fun q h1 h2 => (hk q (Nat.lt_of_lt_of_le h1 hS.1)).trans (hS.2.1 q h1 h2)⟩
  · show 6 * u + 6 ≤ 6 * t.2.2.2.2.1
    omega
