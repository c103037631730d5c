theorem nI_m1 {r : Nat} (h : r < 2 ^ 31) : ¬ nI r = -1 := by
  intro e
  have e1 := congrArg Int32.toInt e
  rw [nI_toInt h, show (-1 : Int32).toInt = -1 by decide] at e1
  omega
/-- behind a root: none (-1), or where it stands; the outer none of the spec: TOO WIDE -/
def rtR (ov un : Nat → Int32) (n : Nat) (fa : Int32) (cost : Nat) (T : Option (Option n4)) (ov1 un1 : Nat → Int32) (n1 : Nat) (fa1 : Int32) (v : Int32) : Prop :=
  (308 ≤ n1 ∧ n1 ≤ 1332) ∧ mm_z fa1 ∧ (∀ k, k < 308 → ov1 k = ov k ∧ un1 k = un k) ∧ (fa = 1 → fa1 = 1) ∧ (v = -1 ∨ ∃ r : Nat, v = nI r ∧ 308 ≤ r ∧ r + 4 ≤ 1332) ∧
    (fa1 = 0 → fa = 0 ∧ n ≤ n1 ∧ n1 ≤ n + cost ∧ (∀ k, k < n → ov1 k = ov k ∧ un1 k = un k) ∧ (v = -1 → T = some none) ∧ ∀ r : Nat, r + 4 ≤ 1332 → v = nI r → n ≤ r ∧ r + 4 ≤ n1 ∧ T = some (some (r4 ov1 un1 r)) ∧ v4 (r4 ov1 un1 r)) ∧ (fa1 = 1 → fa = 0 → n + cost ≤ 1332 → T = none)
theorem rt_ix {ov un ov1 un1 : Nat → Int32} {n n1 cost : Nat} {fa fa1 v : Int32} {T : Option (Option n4)} (h : rtR ov un n fa cost T ov1 un1 n1 fa1 v) (hv : ¬ v = -1) : ∃ r : Nat, v = nI r ∧ 308 ≤ r ∧ r + 4 ≤ 1332 := by
  rcases h.2.2.2.2.1 with e | e
  · exact absurd e hv
  · exact e
theorem at_rt {ov un ov1 un1 : Nat → Int32} {n n1 cost r : Nat} {fa fa1 : Int32} {T : Option (Option n4)} (h : rtR ov un n fa cost T ov1 un1 n1 fa1 (nI r)) (hr : r + 4 ≤ 1332) : isAt ov1 un1 n1 fa1 4 r (g4 (r4 ov1 un1 r)) := by
  refine ⟨⟨hr, fun h0 => ?_⟩, fun h0 j hj => (g4_r4 hj).symm⟩
  obtain ⟨q1, q2, q3, q4, -, q5⟩ := h.2.2.2.2.2.1 h0
  obtain ⟨p1, p2, p3, p4⟩ := q5 r hr rfl
  refine ⟨p2, fun j hj => ?_⟩
  show fv (rf ov1 un1 (r + j))
  rw [← g4_r4 hj]
  exact v4_g p4 hj
theorem rt_k {ov un ov1 un1 : Nat → Int32} {n n1 : Nat} {fa fa1 v : Int32} {cost : Nat} {T : Option (Option n4)} (h : rtR ov un n fa cost T ov1 un1 n1 fa1 v) : fa1 = 0 → fa = 0 ∧ n ≤ n1 ∧ ∀ k, k < n → ov1 k = ov k ∧ un1 k = un k := fun h0 => by
  obtain ⟨q1, q2, q3, q4, -⟩ := h.2.2.2.2.2.1 h0
  exact ⟨q1, q2, q4⟩
theorem stl_r {ov un ov1 un1 ov2 un2 : Nat → Int32} {n n1 n2 w : Nat} {fa fa1 fa2 v : Int32} {cost : Nat} {T : Option (Option n4)} (h : stl ov un n fa w ov1 un1 n1 fa1) (h2 : rtR ov1 un1 n1 fa1 cost T ov2 un2 n2 fa2 v) : stl ov un n fa (w + cost) ov2 un2 n2 fa2 := by
  obtain ⟨a1, a2, a3, a4, a5⟩ := h
  obtain ⟨b2, b3, b4, b5, -, b6, -⟩ := h2
  refine ⟨b2, b3, fun k hk => ⟨(b4 k hk).1.trans (a3 k hk).1, (b4 k hk).2.trans (a3 k hk).2⟩, fun h => b5 (a4 h), fun h0 => ?_⟩
  obtain ⟨q1, q2, q3, q4, -⟩ := b6 h0
  obtain ⟨p1, p2, p3, p4⟩ := a5 q1
  exact ⟨p1, by omega, by omega, fun k hk => ⟨(q4 k (by omega)).1.trans (p4 k hk).1, (q4 k (by omega)).2.trans (p4 k hk).2⟩⟩
theorem rt_e0 {ov un ov1 un1 : Nat → Int32} {n n1 : Nat} {fa fa1 v : Int32} {X : Type} {cost : Nat} {T : Option (Option n4)} {spec : Option X} {k : Option n4 → Option X} (E : fa = 0 → spec = T.bind k) (h : rtR ov un n fa cost T ov1 un1 n1 fa1 v) (hv : v = -1) : fa1 = 0 → spec = k none := by
  intro h0
  obtain ⟨q1, q2, q3, q4, q5, -⟩ := h.2.2.2.2.2.1 h0
  rw [E q1, q5 hv]
  rfl
theorem rt_e1 {ov un ov1 un1 : Nat → Int32} {n n1 r : Nat} {fa fa1 : Int32} {X : Type} {cost : Nat} {T : Option (Option n4)} {spec : Option X} {k : Option n4 → Option X} (E : fa = 0 → spec = T.bind k) (h : rtR ov un n fa cost T ov1 un1 n1 fa1 (nI r)) (hr : r + 4 ≤ 1332) : fa1 = 0 → spec = k (some (r4 ov1 un1 r)) := by
  intro h0
  obtain ⟨q1, q2, q3, q4, -, q5⟩ := h.2.2.2.2.2.1 h0
  rw [E q1, (q5 r hr rfl).2.2.1]
  rfl
theorem rt_f {ov un ov1 un1 ov2 un2 : Nat → Int32} {n n1 n2 w C : Nat} {fa fa1 fa2 v : Int32} {X : Type} {cost : Nat} {T : Option (Option n4)} {spec : Option X} {k : Option n4 → Option X} (hs : stl ov un n fa w ov1 un1 n1 fa1) (F : fa1 = 1 → fa = 0 → n + C ≤ 1332 → spec = none) (E : fa1 = 0 → spec = T.bind k) (h : rtR ov1 un1 n1 fa1 cost T ov2 un2 n2 fa2 v) (hC : w + cost ≤ C) : fa2 = 1 → fa = 0 → n + C ≤ 1332 → spec = none := by
  intro h9 h0 hroom
  rcases hs.2.1 with hz | hz
  · rw [E hz, h.2.2.2.2.2.2 h9 hz (by have := (hs.2.2.2.2 hz).2.2.1; omega)]
    rfl
  · exact F hz h0 hroom
/-- no root -/
theorem rt_no {ov un ov1 un1 : Nat → Int32} {n n1 w C : Nat} {fa fa1 : Int32} {T : Option (Option n4)} (hs : stl ov un n fa w ov1 un1 n1 fa1) (hw : w ≤ C) (E : fa1 = 0 → T = some none) (F : fa1 = 1 → fa = 0 → n + C ≤ 1332 → T = none) : rtR ov un n fa C T ov1 un1 n1 fa1 (-1) := by
  obtain ⟨a1, a2, a3, a4, a5⟩ := hs
  refine ⟨a1, a2, a3, a4, Or.inl rfl, fun h0 => ?_, F⟩
  obtain ⟨p1, p2, p3, p4⟩ := a5 h0
  exact ⟨p1, p2, by omega, p4, fun _ => E h0, fun r hr e => absurd e.symm (nI_m1 (by omega))⟩
noncomputable def nrt0 (x : Nat → fr) : Option (Option n4) := some ((rtw (x 0).1).bind fun p => (rtw (x 0).2).map fun q => (((p, q), z0, z0, z0) : n4))
theorem rt_val {P Q : Int} {p q : Nat} (hv : fv (P, Q)) (hp : p ≤ 46340) (hq : q ≤ 46340) (ep : (p : Int) * p = P) (eq : (q : Int) * q = Q) : fv ((p : Int), (q : Int)) := by
  obtain ⟨h1, h2, h3, h4, h5⟩ := hv
  have hq0 : 0 < q := by
    rcases Nat.eq_zero_or_pos q with e | e
    · subst e
      have h1 : 0 < Q := h1
      rw [← eq] at h1
      exact absurd h1 (by decide)
    · exact e
  refine ⟨?_, ?_, ?_, ?_, ?_⟩
  · show (0 : Int) < (q : Int)
    omega
  · show (q : Int) ≤ 2147483647
    omega
  · show (-2147483647 : Int) ≤ (p : Int)
    omega
  · show (p : Int) ≤ 2147483647
    omega
  · show Int.gcd (p : Int) (q : Int) = 1
    have h5 : Int.gcd P Q = 1 := h5
    rw [← ep, ← eq] at h5
    have d1 : Int.gcd (p : Int) (q : Int) ∣ Int.gcd ((p : Int) * p) ((q : Int) * q) := Nat.dvd_gcd (by rw [Int.natAbs_mul]; exact Nat.dvd_trans (Nat.gcd_dvd_left _ _) (Nat.dvd_mul_left _ _)) (by rw [Int.natAbs_mul]; exact Nat.dvd_trans (Nat.gcd_dvd_right _ _) (Nat.dvd_mul_left _ _))
    rw [h5] at d1
    exact Nat.dvd_one.mp d1
theorem rtw_sq {s t : Int} (h : rtw s = some t) : 0 ≤ t ∧ t * t = s := by
  unfold rtw at h
  by_cases hex : ∃ t : Int, 0 ≤ t ∧ t * t = s
  · rw [dif_pos hex] at h
    have e := Option.some.inj h
    rw [← e]
    exact Classical.choose_spec hex
  · rw [dif_neg hex] at h
    cases h
theorem rw_m1 {s : Int32} (h : rwR s (-1)) : rtw s.toInt = none := by
  rcases h with ⟨t, e, ht, -⟩ | ⟨-, h⟩
  · exact absurd e.symm (nI_m1 (by omega))
  · exact h
theorem rw_ix {s v : Int32} (h : rwR s v) (hv : ¬ v = -1) : ∃ t : Nat, v = nI t ∧ t ≤ 46340 ∧ rtw s.toInt = some (t : Int) := by
  rcases h with h | ⟨e, -⟩
  · exact h
  · exact absurd e hv
theorem nrt0_no {ov un : Nat → Int32} {n a : Nat} {fa : Int32} {x : Nat → fr} (A : isAt ov un n fa 1 a x) (h0 : fa = 0) (h : rtw (ov a).toInt = none ∨ rtw (un a).toInt = none) : nrt0 x = some none := by
  unfold nrt0
  have e : rf ov un a = x 0 := A.2 h0 0 (by omega)
  rw [← e]
  show some ((rtw (ov a).toInt).bind fun p => (rtw (un a).toInt).map fun q => (((p, q), z0, z0, z0) : n4)) = some none
  rcases h with h | h
  · rw [h]; rfl
  · rw [h]
    cases rtw (ov a).toInt <;> rfl
theorem rt0_fin {ov un ov1 un1 : Nat → Int32} {n n1 r a : Nat} {fa fa1 : Int32} {x : Nat → fr} {p q : Nat} (hfa : mm_z fa) (hn : 308 ≤ n) (A : isAt ov un n fa 1 a x) (h : resR ov un n fa ov1 un1 n1 fa1 r) (hp : p ≤ 46340) (hq : q ≤ 46340) (ep : rtw (ov a).toInt = some (p : Int)) (eq : rtw (un a).toInt = some (q : Int)) : rtR ov un n fa 4 (nrt0 x) (upd ov1 r (nI p)) (upd un1 r (nI q)) n1 fa1 (nI r) := by
  have hr := res_r h hn
  have az := at_res h hn
  obtain ⟨a1, a2, a3, a4, a5⟩ := stg_0 hfa hn h
  refine ⟨a1, a2, fun k hk => ?_, a4, Or.inr ⟨r, rfl, hr.1, hr.2.1⟩, fun h0 => ?_, res_f h (by omega)⟩
  · rw [pk_un (by omega), pk_un (by omega)]; exact a3 k hk
  · obtain ⟨q1, q2, q3⟩ := a5 h0
    have hrn := res_n h h0
    have z := az.2 h0
    have e0 : rf ov un a = x 0 := A.2 q1 0 (by omega)
    have e : r4 (upd ov1 r (nI p)) (upd un1 r (nI q)) r = (((p : Int), (q : Int)), z0, z0, z0) := by
      unfold r4 rf
      rw [pk_us, pk_us, pk_un (by omega), pk_un (by omega), pk_un (by omega), pk_un (by omega), pk_un (by omega), pk_un (by omega), nI_toInt (by omega), nI_toInt (by omega), show ((ov1 (r + 1)).toInt, (un1 (r + 1)).toInt) = z0 from z 1 (by omega), show ((ov1 (r + 2)).toInt, (un1 (r + 2)).toInt) = z0 from z 2 (by omega), show ((ov1 (r + 3)).toInt, (un1 (r + 3)).toInt) = z0 from z 3 (by omega)]
    have vx : fv ((ov a).toInt, (un a).toInt) := by
      have := at_v A q1 0 (by omega)
      rw [← e0] at this
      exact this
    refine ⟨q1, by omega, by omega, fun k hk => ?_, fun e9 => absurd e9 (nI_m1 (by omega)), fun r2 hr2 e9 => ?_⟩
    · rw [pk_un (by omega), pk_un (by omega)]; exact q3 k hk
    · have er : r = r2 := (nI_eq (by omega) (by omega)).mp e9
      subst er
      refine ⟨by omega, by omega, ?_, ?_⟩
      · rw [e]
        unfold nrt0
        rw [← e0]
        show some ((rtw (ov a).toInt).bind fun p => (rtw (un a).toInt).map fun q => (((p, q), z0, z0, z0) : n4)) = _
        rw [ep, eq]
        rfl
      · rw [e]
        exact ⟨rt_val vx hp hq (rtw_sq ep).2 (rtw_sq eq).2, fv_z0, fv_z0, fv_z0⟩
set_option maxRecDepth 100000 in
theorem at_N_rootOfFraction {d : Nat} {ov un : Nat → Int32} {dp fa : Int32} {cu : mm_cu} {st fi se th db : Nat → Int32} {cn : Int32} {F : mm_M} {n a : Nat} {x : Nat → fr} {Q : mm_R → mm_M → Prop} (hfa : mm_z fa) (hn : 308 ≤ n ∧ n ≤ 1332) (A : isAt ov un n fa 1 a x) (hQ : ∀ (ov1 un1 : Nat → Int32) (n1 : Nat) (fa1 v : Int32), rtR ov un n fa 4 (nrt0 x) ov1 un1 n1 fa1 v → Q (.inl (some (.int v))) (wC ov1 un1 (nI n1) dp fa1 cu st fi se th db cn F)) : mm_call mm_Tb (d + 2) 149 [.ref 1, .int (nI a)] (wC ov un (nI n) dp fa cu st fi se th db cn F) Q := by
  have ha1 := A.1.1
  refine mm_in mt_149 (Nat.le_of_ble_eq_true rfl) ?_
  show mm_W _ _ _ _ _ _ _ (0, [(0, .ref 1), (1, .int (nI a))], [], wC ov un (nI n) dp fa cu st fi se th db cn F, 0)
  refine mm_skip (mm_call_mono _ _) 3 (st' := (5, [(0, .ref 1), (1, .int (nI a))], [.int (nI a), .ref 8], wC ov un (nI n) dp fa cu st fi se th db cn F, 0)) rfl ?_
  refine mm_need (mm_call_mono _ _) (c := vp_in (nI a) 1332) (s' := (6, [(0, .ref 1), (1, .int (nI a))], [.int (ov (Int32.toNatClampNeg (nI a)))], wC ov un (nI n) dp fa cu st fi se th db cn F, 0)) rfl (vp_in_nI (show a < 1332 by omega) (by decide)) ?_
  rw [nI_clamp (show a < 2 ^ 31 by omega)]
  show mm_W _ _ _ _ _ _ _ (6, [(0, .ref 1), (1, .int (nI a))], [.int (ov a)], wC ov un (nI n) dp fa cu st fi se th db cn F, 0)
  refine mm_inv (mm_call_mono _ _) (j := 150) (a := [.int (ov a)]) (M := wC ov un (nI n) dp fa cu st fi se th db cn F) (u := 0) rfl (by decide) (ct_N_rootOfWhole (fun v1 q1 => ?_))
  show mm_W _ _ _ _ _ _ _ (9, [(0, .ref 1), (1, .int (nI a))], [.int v1], wC ov un (nI n) dp fa cu st fi se th db cn F, 0)
  refine mm_skip (mm_call_mono _ _) 4 (st' := (15, [(2, .int v1), (0, .ref 1), (1, .int (nI a))], [.int (nI a), .ref 9], wC ov un (nI n) dp fa cu st fi se th db cn F, 0)) rfl ?_
  refine mm_need (mm_call_mono _ _) (c := vp_in (nI a) 1332) (s' := (16, [(2, .int v1), (0, .ref 1), (1, .int (nI a))], [.int (un (Int32.toNatClampNeg (nI a)))], wC ov un (nI n) dp fa cu st fi se th db cn F, 0)) rfl (vp_in_nI (show a < 1332 by omega) (by decide)) ?_
  rw [nI_clamp (show a < 2 ^ 31 by omega)]
  show mm_W _ _ _ _ _ _ _ (16, [(2, .int v1), (0, .ref 1), (1, .int (nI a))], [.int (un a)], wC ov un (nI n) dp fa cu st fi se th db cn F, 0)
  refine mm_inv (mm_call_mono _ _) (j := 150) (a := [.int (un a)]) (M := wC ov un (nI n) dp fa cu st fi se th db cn F) (u := 0) rfl (by decide) (ct_N_rootOfWhole (fun v2 q2 => ?_))
  show mm_W _ _ _ _ _ _ _ (19, [(2, .int v1), (0, .ref 1), (1, .int (nI a))], [.int v2], wC ov un (nI n) dp fa cu st fi se th db cn F, 0)
  refine mm_skip (mm_call_mono _ _) 3 (st' := (22, [(3, .int v2), (2, .int v1), (0, .ref 1), (1, .int (nI a))], [.int (-1), .int v1], wC ov un (nI n) dp fa cu st fi se th db cn F, 0)) rfl ?_
  refine mm_branch (mm_call_mono _ _) (c := v1 = (-1)) (s1 := (30, [(3, .int v2), (2, .int v1), (0, .ref 1), (1, .int (nI a))], [], wC ov un (nI n) dp fa cu st fi se th db cn F, 0)) (s2 := (25, [(3, .int v2), (2, .int v1), (0, .ref 1), (1, .int (nI a))], [], wC ov un (nI n) dp fa cu st fi se th db cn F, 0)) rfl (fun e1 => ?_) (fun e1 => ?_)
  · skip
    refine mm_skip (mm_call_mono _ _) 1 (st' := (31, [(3, .int v2), (2, .int v1), (0, .ref 1), (1, .int (nI a))], [.int (-1)], wC ov un (nI n) dp fa cu st fi se th db cn F, 0)) rfl ?_
    exact mm_ret (mm_call_mono _ _) (c := True) (r := .inl (some (.int (-1)))) (M := wC ov un (nI n) dp fa cu st fi se th db cn F) (u := 0) rfl trivial (by decide) (hQ _ _ _ _ _ (rt_no (stl_0 hfa hn) (by omega) (fun q0 => nrt0_no A q0 (Or.inl (by rw [e1] at q1; exact rw_m1 q1))) f_0))
  · skip
    refine mm_skip (mm_call_mono _ _) 2 (st' := (27, [(3, .int v2), (2, .int v1), (0, .ref 1), (1, .int (nI a))], [.int (-1), .int v2], wC ov un (nI n) dp fa cu st fi se th db cn F, 0)) rfl ?_
    refine mm_branch (mm_call_mono _ _) (c := v2 = (-1)) (s1 := (30, [(3, .int v2), (2, .int v1), (0, .ref 1), (1, .int (nI a))], [], wC ov un (nI n) dp fa cu st fi se th db cn F, 0)) (s2 := (32, [(3, .int v2), (2, .int v1), (0, .ref 1), (1, .int (nI a))], [], wC ov un (nI n) dp fa cu st fi se th db cn F, 0)) rfl (fun e2 => ?_) (fun e2 => ?_)
    · skip
      refine mm_skip (mm_call_mono _ _) 1 (st' := (31, [(3, .int v2), (2, .int v1), (0, .ref 1), (1, .int (nI a))], [.int (-1)], wC ov un (nI n) dp fa cu st fi se th db cn F, 0)) rfl ?_
      exact mm_ret (mm_call_mono _ _) (c := True) (r := .inl (some (.int (-1)))) (M := wC ov un (nI n) dp fa cu st fi se th db cn F) (u := 0) rfl trivial (by decide) (hQ _ _ _ _ _ (rt_no (stl_0 hfa hn) (by omega) (fun q0 => nrt0_no A q0 (Or.inr (by rw [e2] at q2; exact rw_m1 q2))) f_0))
    · skip
      refine mm_skip (mm_call_mono _ _) 1 (st' := (33, [(3, .int v2), (2, .int v1), (0, .ref 1), (1, .int (nI a))], [.ref 1], wC ov un (nI n) dp fa cu st fi se th db cn F, 0)) rfl ?_
      refine mm_inv (mm_call_mono _ _) (j := 138) (a := [.ref 1]) (M := wC ov un (nI n) dp fa cu st fi se th db cn F) (u := 0) rfl (by decide) (ct_N_reserve hn (fun ov1 un1 n1 fa1 r h0 => ?_))
      show mm_W _ _ _ _ _ _ _ (36, [(3, .int v2), (2, .int v1), (0, .ref 1), (1, .int (nI a))], [.int (nI r)], wC ov1 un1 (nI n1) dp fa1 cu st fi se th db cn F, 0)
      have hr := res_r h0 hn.1
      obtain ⟨p, rfl, hp, ep⟩ := rw_ix q1 e1
      obtain ⟨q, rfl, hq, eq⟩ := rw_ix q2 e2
      refine mm_skip (mm_call_mono _ _) 5 (st' := (45, [(4, .int (nI r)), (3, .int (nI q)), (2, .int (nI p)), (0, .ref 1), (1, .int (nI a))], [.int (nI p), .int (nI r), .ref 8], wC ov1 un1 (nI n1) dp fa1 cu st fi se th db cn F, 0)) rfl ?_
      refine mm_need (mm_call_mono _ _) (c := vp_in (nI r) 1332) (s' := (46, [(4, .int (nI r)), (3, .int (nI q)), (2, .int (nI p)), (0, .ref 1), (1, .int (nI a))], [], wC (upd ov1 (Int32.toNatClampNeg (nI r)) (nI p)) un1 (nI n1) dp fa1 cu st fi se th db cn F, 0)) rfl (vp_in_nI (show r < 1332 by omega) (by decide)) ?_
      rw [nI_clamp (show r < 2 ^ 31 by omega)]
      show mm_W _ _ _ _ _ _ _ (46, [(4, .int (nI r)), (3, .int (nI q)), (2, .int (nI p)), (0, .ref 1), (1, .int (nI a))], [], wC (upd ov1 r (nI p)) un1 (nI n1) dp fa1 cu st fi se th db cn F, 0)
      refine mm_skip (mm_call_mono _ _) 4 (st' := (53, [(4, .int (nI r)), (3, .int (nI q)), (2, .int (nI p)), (0, .ref 1), (1, .int (nI a))], [.int (nI q), .int (nI r), .ref 9], wC (upd ov1 r (nI p)) un1 (nI n1) dp fa1 cu st fi se th db cn F, 0)) rfl ?_
      refine mm_need (mm_call_mono _ _) (c := vp_in (nI r) 1332) (s' := (54, [(4, .int (nI r)), (3, .int (nI q)), (2, .int (nI p)), (0, .ref 1), (1, .int (nI a))], [], wC (upd ov1 r (nI p)) (upd un1 (Int32.toNatClampNeg (nI r)) (nI q)) (nI n1) dp fa1 cu st fi se th db cn F, 0)) rfl (vp_in_nI (show r < 1332 by omega) (by decide)) ?_
      rw [nI_clamp (show r < 2 ^ 31 by omega)]
      show mm_W _ _ _ _ _ _ _ (54, [(4, .int (nI r)), (3, .int (nI q)), (2, .int (nI p)), (0, .ref 1), (1, .int (nI a))], [], wC (upd ov1 r (nI p)) (upd un1 r (nI q)) (nI n1) dp fa1 cu st fi se th db cn F, 0)
      refine mm_skip (mm_call_mono _ _) 1 (st' := (56, [(4, .int (nI r)), (3, .int (nI q)), (2, .int (nI p)), (0, .ref 1), (1, .int (nI a))], [.int (nI r)], wC (upd ov1 r (nI p)) (upd un1 r (nI q)) (nI n1) dp fa1 cu st fi se th db cn F, 0)) rfl ?_
      exact mm_ret (mm_call_mono _ _) (c := True) (r := .inl (some (.int (nI r)))) (M := wC (upd ov1 r (nI p)) (upd un1 r (nI q)) (nI n1) dp fa1 cu st fi se th db cn F) (u := 0) rfl trivial (by decide) (hQ _ _ _ _ _ (rt0_fin hfa hn.1 A h0 hp hq ep eq))

set_option maxRecDepth 100000 in
theorem at_N_root_0 {d : Nat} {ov un : Nat → Int32} {dp fa : Int32} {cu : mm_cu} {st fi se th db : Nat → Int32} {cn : Int32} {F : mm_M} {n a : Nat} {x : Nat → fr} {Q : mm_R → mm_M → Prop} (hfa : mm_z fa) (hn : 308 ≤ n ∧ n ≤ 1332) (A : isAt ov un n fa 1 a x) (hQ : ∀ (ov1 un1 : Nat → Int32) (n1 : Nat) (fa1 v : Int32), rtR ov un n fa 4 (nrt0 x) ov1 un1 n1 fa1 v → Q (.inl (some (.int v))) (wC ov1 un1 (nI n1) dp fa1 cu st fi se th db cn F)) : mm_call mm_Tb (d + 3) 148 [.ref 1, .int 0, .int (nI a)] (wC ov un (nI n) dp fa cu st fi se th db cn F) Q := by
  refine mm_in mt_148 (Nat.le_of_ble_eq_true rfl) ?_
  show mm_W _ _ _ _ _ _ _ (0, [(0, .ref 1), (1, .int 0), (2, .int (nI a))], [], wC ov un (nI n) dp fa cu st fi se th db cn F, 0)
  refine mm_skip (mm_call_mono _ _) 1 (st' := (1, [(0, .ref 1), (1, .int 0), (2, .int (nI a))], [.int 0], wC ov un (nI n) dp fa cu st fi se th db cn F, 0)) rfl ?_
  refine mm_branch (mm_call_mono _ _) (c := (0 : Int32) < 0) (s1 := (10, [(0, .ref 1), (1, .int 0), (2, .int (nI a))], [], wC ov un (nI n) dp fa cu st fi se th db cn F, 0)) (s2 := (4, [(0, .ref 1), (1, .int 0), (2, .int (nI a))], [], wC ov un (nI n) dp fa cu st fi se th db cn F, 0)) rfl (fun h => absurd h (by decide)) (fun _ => ?_)
  refine mm_skip (mm_call_mono _ _) 2 (st' := (6, [(0, .ref 1), (1, .int 0), (2, .int (nI a))], [.int (nI a), .ref 1], wC ov un (nI n) dp fa cu st fi se th db cn F, 0)) rfl ?_
  refine mm_inv (mm_call_mono _ _) (j := 149) (a := [.ref 1, .int (nI a)]) (M := wC ov un (nI n) dp fa cu st fi se th db cn F) (u := 0) rfl (by decide) (at_N_rootOfFraction hfa hn A (fun ov1 un1 n1 fa1 v h => ?_))
  show mm_W _ _ _ _ _ _ _ (9, [(0, .ref 1), (1, .int 0), (2, .int (nI a))], [.int v], wC ov1 un1 (nI n1) dp fa1 cu st fi se th db cn F, 0)
  exact mm_ret (mm_call_mono _ _) (c := True) (r := .inl (some (.int v))) (M := wC ov1 un1 (nI n1) dp fa1 cu st fi se th db cn F) (u := 0) rfl trivial (by decide) (hQ _ _ _ _ _ h)

