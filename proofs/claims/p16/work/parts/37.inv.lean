def finv (x : fr) : fr := if x.1 < 0 then (-x.2, -x.1) else (x.2, x.1)
def ninv0 (x : Nat → fr) : Option n4 := if (x 0).1 = 0 then none else some (finv (x 0), z0, z0, z0)
def ninvS (h : Nat) (M : (Nat → fr) → (Nat → fr) → Option n4) (I : (Nat → fr) → Option n4) (R x : Nat → fr) : Option n4 :=
  (M (sh h x) (sh h x)).bind fun bb => (M (g4 bb) R).bind fun bbr => (M x x).bind fun aa => (nneg h (g4 bbr)).bind fun nb => (nadd h (g4 aa) (g4 nb)).bind fun nn => (I (g4 nn)).bind fun m => (M x (g4 m)).bind fun am => (nneg h (sh h x)).bind fun nc => (M (g4 nc) (g4 m)).bind fun bm => some (jn h am bm)
def ninv1 (R x : Nat → fr) : Option n4 := ninvS 1 nmul0 ninv0 R x
def ninv2 (R1 R2 x : Nat → fr) : Option n4 := ninvS 2 (nmul1 R1) (ninv1 R1) R2 x
theorem finv_v {x : fr} (hx : fv x) (h0 : ¬ x.1 = 0) : fv (finv x) := by
  obtain ⟨h1, h2, h3, h4, h5⟩ := hx
  unfold finv
  split
  · refine ⟨?_, ?_, ?_, ?_, ?_⟩
    · show 0 < -x.1
      omega
    · show -x.1 ≤ 2147483647
      omega
    · show -2147483647 ≤ -x.2
      omega
    · show -x.2 ≤ 2147483647
      omega
    · show Int.gcd (-x.2) (-x.1) = 1
      rw [Int.neg_gcd, Int.gcd_neg, Int.gcd_comm]; exact h5
  · refine ⟨?_, ?_, ?_, ?_, ?_⟩
    · show 0 < x.1
      omega
    · show x.1 ≤ 2147483647
      omega
    · show -2147483647 ≤ x.2
      omega
    · show x.2 ≤ 2147483647
      omega
    · show Int.gcd x.2 x.1 = 1
      rw [Int.gcd_comm]; exact h5
/-- what failed by a mark of its own -/
theorem op_fail {ov un ov1 un1 : Nat → Int32} {n n1 r cost : Nat} {fa fa1 : Int32} {T : Option n4} (hfa : mm_z fa) (hn : 308 ≤ n) (h : resR ov un n fa ov1 un1 n1 fa1 r) (hc : 4 ≤ cost) (hT : fa1 = 0 → T = none) : opR ov un n fa cost T ov1 un1 n1 1 r := by
  have hr := res_r h hn
  obtain ⟨a1, a2, a3, a4, a5⟩ := stg_0 hfa hn h
  refine ⟨⟨hr.1, hr.2.1⟩, a1, Or.inr rfl, a3, fun _ => rfl, fun h0 => absurd h0 z10, fun _ h0 hroom => ?_⟩
  rcases a2 with hz | hz
  · exact hT hz
  · exact res_f h hc hz h0 hroom
theorem inv0_fin {ov un ov1 un1 : Nat → Int32} {n n1 r a : Nat} {fa fa1 : Int32} {x : Nat → fr} {V U : Int32} (hfa : mm_z fa) (hn : 308 ≤ n) (h : resR ov un n fa ov1 un1 n1 fa1 r) (ha : isAt ov1 un1 n1 fa1 1 a x) (hz : ¬ isz 1 ov1 a) (hV : fa1 = 0 → (V.toInt, U.toInt) = finv (x 0)) : opR ov un n fa 4 (ninv0 x) (upd ov1 r V) (upd un1 r U) n1 fa1 r := by
  have hr := res_r h hn
  have az := at_res h hn
  obtain ⟨a1, a2, a3, a4, a5⟩ := stg_0 hfa hn h
  refine ⟨⟨hr.1, hr.2.1⟩, a1, a2, fun k hk => ?_, a4, fun h0 => ?_, res_f h (by omega)⟩
  · rw [pk_un (by omega), pk_un (by omega)]; exact a3 k hk
  · obtain ⟨q1, q2, q3⟩ := a5 h0
    have hx : ¬ (x 0).1 = 0 := fun e => hz (fun j hj => by
      have e0 : j = 0 := by omega
      subst e0
      rw [← ha.2 h0 0 (by omega)] at e
      have e : (ov1 (a + 0)).toInt = 0 := e
      exact Int32.toInt_inj.mp (by rw [e]; decide))
    have z := az.2 h0
    have e : r4 (upd ov1 r V) (upd un1 r U) r = (finv (x 0), z0, z0, z0) := by
      unfold r4 rf
      rw [pk_us, pk_us, pk_un (by omega), pk_un (by omega), pk_un (by omega), pk_un (by omega), pk_un (by omega), pk_un (by omega), hV h0, show ((ov1 (r + 1)).toInt, (un1 (r + 1)).toInt) = z0 from z 1 (by omega), show ((ov1 (r + 2)).toInt, (un1 (r + 2)).toInt) = z0 from z 2 (by omega), show ((ov1 (r + 3)).toInt, (un1 (r + 3)).toInt) = z0 from z 3 (by omega)]
    refine ⟨q1, res_n h h0, by omega, fun k hk => ?_, ?_, ?_⟩
    · have hrn := res_n h h0
      rw [pk_un (by omega), pk_un (by omega)]; exact q3 k hk
    · rw [e]; unfold ninv0; rw [if_neg hx]
    · rw [e]; exact ⟨finv_v (at_v ha h0 0 (by omega)) hx, fv_z0, fv_z0, fv_z0⟩
/-- the two ways of the inverse of a fraction -/
theorem inv0_v {ov1 un1 : Nat → Int32} {n1 a : Nat} {fa1 : Int32} {x : Nat → fr} {b c : Prop} [Decidable b] [Decidable c] (ha : isAt ov1 un1 n1 fa1 1 a x) (h0 : fa1 = 0) (hb : b ↔ ov1 a < 0) (hc : c ↔ ov1 a < 0) : ((if b then -(un1 a) else un1 a).toInt, (if c then -(ov1 a) else ov1 a).toInt) = finv (x 0) := by
  have e : rf ov1 un1 a = x 0 := ha.2 h0 0 (by omega)
  have v := at_v ha h0 0 (by omega)
  rw [← e] at v ⊢
  obtain ⟨h1, h2, h3, h4, -⟩ := v
  have h1 : 0 < (un1 a).toInt := h1
  have h3 : -2147483647 ≤ (ov1 a).toInt := h3
  unfold finv rf
  by_cases hn : ov1 a < 0
  · rw [if_pos (hb.mpr hn), if_pos (hc.mpr hn), neg32 (by omega), neg32 h3, if_pos (by have := Int32.lt_iff_toInt_lt.mp hn; rw [show (0 : Int32).toInt = 0 by decide] at this; exact this)]
  · rw [if_neg (fun q => hn (hb.mp q)), if_neg (fun q => hn (hc.mp q)), if_neg (fun q => hn (Int32.lt_iff_toInt_lt.mpr (by rw [show (0 : Int32).toInt = 0 by decide]; exact q)))]
set_option maxRecDepth 100000 in
theorem at_N_inverse_0 {d : Nat} {ov un : Nat → Int32} {dp fa : Int32} {cu : mm_cu} {st fi se th db : Nat → Int32} {cn : Int32} {F : mm_M} {n a : Nat} {x : Nat → fr} {Q : mm_R → mm_M → Prop} (hfa : mm_z fa) (hn : 308 ≤ n ∧ n ≤ 1332) (A : isAt ov un n fa 1 a x) (hQ : ∀ (ov1 un1 : Nat → Int32) (n1 : Nat) (fa1 : Int32) (r : Nat), opR ov un n fa 4 (ninv0 x) ov1 un1 n1 fa1 r → Q (.inl (some (.int (nI r)))) (wC ov1 un1 (nI n1) dp fa1 cu st fi se th db cn F)) : mm_call mm_Tb (d + 2) 146 [.ref 1, .int 0, .int (nI a)] (wC ov un (nI n) dp fa cu st fi se th db cn F) Q := by
  have ha1 := A.1.1
  refine mm_in mt_146 (Nat.le_of_ble_eq_true rfl) ?_
  show mm_W _ _ _ _ _ _ _ (0, [(0, .ref 1), (1, .int 0), (2, .int (nI a))], [], wC ov un (nI n) dp fa cu st fi se th db cn F, 0)
  refine mm_skip (mm_call_mono _ _) 1 (st' := (1, [(0, .ref 1), (1, .int 0), (2, .int (nI a))], [.ref 1], wC ov un (nI n) dp fa cu st fi se th db cn F, 0)) rfl ?_
  refine mm_inv (mm_call_mono _ _) (j := 138) (a := [.ref 1]) (M := wC ov un (nI n) dp fa cu st fi se th db cn F) (u := 0) rfl (by decide) (ct_N_reserve hn (fun ov1 un1 n1 fa1 r h0 => ?_))
  show mm_W _ _ _ _ _ _ _ (4, [(0, .ref 1), (1, .int 0), (2, .int (nI a))], [.int (nI r)], wC ov1 un1 (nI n1) dp fa1 cu st fi se th db cn F, 0)
  have hr := res_r h0 hn.1
  have A1 := at_keep A (res_k h0 hn.1)
  have s1 := stg_0 hfa hn.1 h0
  have hra : fa1 = 0 → a ≠ r := fun q0 => by have t1 := (A.1.2 (s1.2.2.2.2 q0).1).1; have t2 := res_n h0 q0; omega
  refine mm_skip (mm_call_mono _ _) 4 (st' := (8, [(3, .int (nI r)), (0, .ref 1), (1, .int 0), (2, .int (nI a))], [.int (nI a), .int 0, .ref 1], wC ov1 un1 (nI n1) dp fa1 cu st fi se th db cn F, 0)) rfl ?_
  refine mm_inv (mm_call_mono _ _) (j := 141) (a := [.ref 1, .int 0, .int (nI a)]) (M := wC ov1 un1 (nI n1) dp fa1 cu st fi se th db cn F) (u := 0) rfl (by decide) (ct_N_isZero_0 (a := a) (by have := A.1.1; omega) ?_)
  show mm_W _ _ _ _ _ _ _ (11, [(3, .int (nI r)), (0, .ref 1), (1, .int 0), (2, .int (nI a))], [.int (bz (isz 1 ov1 a))], wC ov1 un1 (nI n1) dp fa1 cu st fi se th db cn F, 0)
  refine mm_branch (mm_call_mono _ _) (c := (bz (isz 1 ov1 a)) = 0) (s1 := (21, [(3, .int (nI r)), (0, .ref 1), (1, .int 0), (2, .int (nI a))], [], wC ov1 un1 (nI n1) dp fa1 cu st fi se th db cn F, 0)) (s2 := (14, [(3, .int (nI r)), (0, .ref 1), (1, .int 0), (2, .int (nI a))], [], wC ov1 un1 (nI n1) dp fa1 cu st fi se th db cn F, 0)) rfl (fun z1 => ?_) (fun z1 => ?_)
  · skip
    refine mm_skip (mm_call_mono _ _) 1 (st' := (22, [(3, .int (nI r)), (0, .ref 1), (1, .int 0), (2, .int (nI a))], [.int 0], wC ov1 un1 (nI n1) dp fa1 cu st fi se th db cn F, 0)) rfl ?_
    refine mm_branch (mm_call_mono _ _) (c := (0 : Int32) < 0) (s1 := (89, [(3, .int (nI r)), (0, .ref 1), (1, .int 0), (2, .int (nI a))], [], wC ov1 un1 (nI n1) dp fa1 cu st fi se th db cn F, 0)) (s2 := (25, [(3, .int (nI r)), (0, .ref 1), (1, .int 0), (2, .int (nI a))], [], wC ov1 un1 (nI n1) dp fa1 cu st fi se th db cn F, 0)) rfl (fun h => absurd h (by decide)) (fun _ => ?_)
    refine mm_skip (mm_call_mono _ _) 6 (st' := (35, [(3, .int (nI r)), (0, .ref 1), (1, .int 0), (2, .int (nI a))], [.int (nI a), .ref 8, .int (nI r), .ref 8], wC ov1 un1 (nI n1) dp fa1 cu st fi se th db cn F, 0)) rfl ?_
    refine mm_need (mm_call_mono _ _) (c := vp_in (nI a) 1332) (s' := (36, [(3, .int (nI r)), (0, .ref 1), (1, .int 0), (2, .int (nI a))], [.int (ov1 (Int32.toNatClampNeg (nI a))), .int (nI r), .ref 8], wC ov1 un1 (nI n1) dp fa1 cu st fi se th db cn F, 0)) rfl (vp_in_nI (show a < 1332 by omega) (by decide)) ?_
    rw [nI_clamp (show a < 2 ^ 31 by omega)]
    show mm_W _ _ _ _ _ _ _ (36, [(3, .int (nI r)), (0, .ref 1), (1, .int 0), (2, .int (nI a))], [.int (ov1 a), .int (nI r), .ref 8], wC ov1 un1 (nI n1) dp fa1 cu st fi se th db cn F, 0)
    refine mm_branch (mm_call_mono _ _) (c := 0 ≤ (ov1 a)) (s1 := (49, [(3, .int (nI r)), (0, .ref 1), (1, .int 0), (2, .int (nI a))], [.int (nI r), .ref 8], wC ov1 un1 (nI n1) dp fa1 cu st fi se th db cn F, 0)) (s2 := (39, [(3, .int (nI r)), (0, .ref 1), (1, .int 0), (2, .int (nI a))], [.int (nI r), .ref 8], wC ov1 un1 (nI n1) dp fa1 cu st fi se th db cn F, 0)) rfl (fun g1 => ?_) (fun g1 => ?_)
    · skip
      refine mm_skip (mm_call_mono _ _) 3 (st' := (54, [(3, .int (nI r)), (0, .ref 1), (1, .int 0), (2, .int (nI a))], [.int (nI a), .ref 9, .int (nI r), .ref 8], wC ov1 un1 (nI n1) dp fa1 cu st fi se th db cn F, 0)) rfl ?_
      refine mm_need (mm_call_mono _ _) (c := vp_in (nI a) 1332) (s' := (55, [(3, .int (nI r)), (0, .ref 1), (1, .int 0), (2, .int (nI a))], [.int (un1 (Int32.toNatClampNeg (nI a))), .int (nI r), .ref 8], wC ov1 un1 (nI n1) dp fa1 cu st fi se th db cn F, 0)) rfl (vp_in_nI (show a < 1332 by omega) (by decide)) ?_
      rw [nI_clamp (show a < 2 ^ 31 by omega)]
      show mm_W _ _ _ _ _ _ _ (55, [(3, .int (nI r)), (0, .ref 1), (1, .int 0), (2, .int (nI a))], [.int (un1 a), .int (nI r), .ref 8], wC ov1 un1 (nI n1) dp fa1 cu st fi se th db cn F, 0)
      refine mm_need (mm_call_mono _ _) (c := vp_in (nI r) 1332) (s' := (56, [(3, .int (nI r)), (0, .ref 1), (1, .int 0), (2, .int (nI a))], [], wC (upd ov1 (Int32.toNatClampNeg (nI r)) (un1 a)) un1 (nI n1) dp fa1 cu st fi se th db cn F, 0)) rfl (vp_in_nI (show r < 1332 by omega) (by decide)) ?_
      rw [nI_clamp (show r < 2 ^ 31 by omega)]
      show mm_W _ _ _ _ _ _ _ (56, [(3, .int (nI r)), (0, .ref 1), (1, .int 0), (2, .int (nI a))], [], wC (upd ov1 r (un1 a)) un1 (nI n1) dp fa1 cu st fi se th db cn F, 0)
      refine mm_skip (mm_call_mono _ _) 6 (st' := (66, [(3, .int (nI r)), (0, .ref 1), (1, .int 0), (2, .int (nI a))], [.int (nI a), .ref 8, .int (nI r), .ref 9], wC (upd ov1 r (un1 a)) un1 (nI n1) dp fa1 cu st fi se th db cn F, 0)) rfl ?_
      refine mm_need (mm_call_mono _ _) (c := vp_in (nI a) 1332) (s' := (67, [(3, .int (nI r)), (0, .ref 1), (1, .int 0), (2, .int (nI a))], [.int ((upd ov1 r (un1 a)) (Int32.toNatClampNeg (nI a))), .int (nI r), .ref 9], wC (upd ov1 r (un1 a)) un1 (nI n1) dp fa1 cu st fi se th db cn F, 0)) rfl (vp_in_nI (show a < 1332 by omega) (by decide)) ?_
      rw [nI_clamp (show a < 2 ^ 31 by omega)]
      show mm_W _ _ _ _ _ _ _ (67, [(3, .int (nI r)), (0, .ref 1), (1, .int 0), (2, .int (nI a))], [.int ((upd ov1 r (un1 a)) a), .int (nI r), .ref 9], wC (upd ov1 r (un1 a)) un1 (nI n1) dp fa1 cu st fi se th db cn F, 0)
      refine mm_branch (mm_call_mono _ _) (c := 0 ≤ ((upd ov1 r (un1 a)) a)) (s1 := (80, [(3, .int (nI r)), (0, .ref 1), (1, .int 0), (2, .int (nI a))], [.int (nI r), .ref 9], wC (upd ov1 r (un1 a)) un1 (nI n1) dp fa1 cu st fi se th db cn F, 0)) (s2 := (70, [(3, .int (nI r)), (0, .ref 1), (1, .int 0), (2, .int (nI a))], [.int (nI r), .ref 9], wC (upd ov1 r (un1 a)) un1 (nI n1) dp fa1 cu st fi se th db cn F, 0)) rfl (fun g2 => ?_) (fun g2 => ?_)
      · skip
        refine mm_skip (mm_call_mono _ _) 3 (st' := (85, [(3, .int (nI r)), (0, .ref 1), (1, .int 0), (2, .int (nI a))], [.int (nI a), .ref 8, .int (nI r), .ref 9], wC (upd ov1 r (un1 a)) un1 (nI n1) dp fa1 cu st fi se th db cn F, 0)) rfl ?_
        refine mm_need (mm_call_mono _ _) (c := vp_in (nI a) 1332) (s' := (86, [(3, .int (nI r)), (0, .ref 1), (1, .int 0), (2, .int (nI a))], [.int ((upd ov1 r (un1 a)) (Int32.toNatClampNeg (nI a))), .int (nI r), .ref 9], wC (upd ov1 r (un1 a)) un1 (nI n1) dp fa1 cu st fi se th db cn F, 0)) rfl (vp_in_nI (show a < 1332 by omega) (by decide)) ?_
        rw [nI_clamp (show a < 2 ^ 31 by omega)]
        show mm_W _ _ _ _ _ _ _ (86, [(3, .int (nI r)), (0, .ref 1), (1, .int 0), (2, .int (nI a))], [.int ((upd ov1 r (un1 a)) a), .int (nI r), .ref 9], wC (upd ov1 r (un1 a)) un1 (nI n1) dp fa1 cu st fi se th db cn F, 0)
        refine mm_need (mm_call_mono _ _) (c := vp_in (nI r) 1332) (s' := (87, [(3, .int (nI r)), (0, .ref 1), (1, .int 0), (2, .int (nI a))], [], wC (upd ov1 r (un1 a)) (upd un1 (Int32.toNatClampNeg (nI r)) ((upd ov1 r (un1 a)) a)) (nI n1) dp fa1 cu st fi se th db cn F, 0)) rfl (vp_in_nI (show r < 1332 by omega) (by decide)) ?_
        rw [nI_clamp (show r < 2 ^ 31 by omega)]
        show mm_W _ _ _ _ _ _ _ (87, [(3, .int (nI r)), (0, .ref 1), (1, .int 0), (2, .int (nI a))], [], wC (upd ov1 r (un1 a)) (upd un1 r ((upd ov1 r (un1 a)) a)) (nI n1) dp fa1 cu st fi se th db cn F, 0)
        refine mm_skip (mm_call_mono _ _) 1 (st' := (88, [(3, .int (nI r)), (0, .ref 1), (1, .int 0), (2, .int (nI a))], [.int (nI r)], wC (upd ov1 r (un1 a)) (upd un1 r ((upd ov1 r (un1 a)) a)) (nI n1) dp fa1 cu st fi se th db cn F, 0)) rfl ?_
        exact mm_ret (mm_call_mono _ _) (c := True) (r := .inl (some (.int (nI r)))) (M := wC (upd ov1 r (un1 a)) (upd un1 r ((upd ov1 r (un1 a)) a)) (nI n1) dp fa1 cu st fi se th db cn F) (u := 0) rfl trivial (by decide) (hQ _ _ _ _ _ (inv0_fin hfa hn.1 h0 A1 (bz_0 z1) (fun q0 => by have e9 := inv0_v (b := False) (c := False) A1 q0 (iff_of_false id (Int32.not_lt.mpr g1)) (iff_of_false id (Int32.not_lt.mpr (by rw [pk_un (hra q0)] at g2; exact g2))); rw [pk_un (hra q0)]; exact e9)))
      · skip
        refine mm_skip (mm_call_mono _ _) 3 (st' := (75, [(3, .int (nI r)), (0, .ref 1), (1, .int 0), (2, .int (nI a))], [.int (nI a), .ref 8, .int (nI r), .ref 9], wC (upd ov1 r (un1 a)) un1 (nI n1) dp fa1 cu st fi se th db cn F, 0)) rfl ?_
        refine mm_need (mm_call_mono _ _) (c := vp_in (nI a) 1332) (s' := (76, [(3, .int (nI r)), (0, .ref 1), (1, .int 0), (2, .int (nI a))], [.int ((upd ov1 r (un1 a)) (Int32.toNatClampNeg (nI a))), .int (nI r), .ref 9], wC (upd ov1 r (un1 a)) un1 (nI n1) dp fa1 cu st fi se th db cn F, 0)) rfl (vp_in_nI (show a < 1332 by omega) (by decide)) ?_
        rw [nI_clamp (show a < 2 ^ 31 by omega)]
        show mm_W _ _ _ _ _ _ _ (76, [(3, .int (nI r)), (0, .ref 1), (1, .int 0), (2, .int (nI a))], [.int ((upd ov1 r (un1 a)) a), .int (nI r), .ref 9], wC (upd ov1 r (un1 a)) un1 (nI n1) dp fa1 cu st fi se th db cn F, 0)
        refine mm_skip (mm_call_mono _ _) 2 (st' := (86, [(3, .int (nI r)), (0, .ref 1), (1, .int 0), (2, .int (nI a))], [.int (-((upd ov1 r (un1 a)) a)), .int (nI r), .ref 9], wC (upd ov1 r (un1 a)) un1 (nI n1) dp fa1 cu st fi se th db cn F, 0)) rfl ?_
        refine mm_need (mm_call_mono _ _) (c := vp_in (nI r) 1332) (s' := (87, [(3, .int (nI r)), (0, .ref 1), (1, .int 0), (2, .int (nI a))], [], wC (upd ov1 r (un1 a)) (upd un1 (Int32.toNatClampNeg (nI r)) (-((upd ov1 r (un1 a)) a))) (nI n1) dp fa1 cu st fi se th db cn F, 0)) rfl (vp_in_nI (show r < 1332 by omega) (by decide)) ?_
        rw [nI_clamp (show r < 2 ^ 31 by omega)]
        show mm_W _ _ _ _ _ _ _ (87, [(3, .int (nI r)), (0, .ref 1), (1, .int 0), (2, .int (nI a))], [], wC (upd ov1 r (un1 a)) (upd un1 r (-((upd ov1 r (un1 a)) a))) (nI n1) dp fa1 cu st fi se th db cn F, 0)
        refine mm_skip (mm_call_mono _ _) 1 (st' := (88, [(3, .int (nI r)), (0, .ref 1), (1, .int 0), (2, .int (nI a))], [.int (nI r)], wC (upd ov1 r (un1 a)) (upd un1 r (-((upd ov1 r (un1 a)) a))) (nI n1) dp fa1 cu st fi se th db cn F, 0)) rfl ?_
        exact mm_ret (mm_call_mono _ _) (c := True) (r := .inl (some (.int (nI r)))) (M := wC (upd ov1 r (un1 a)) (upd un1 r (-((upd ov1 r (un1 a)) a))) (nI n1) dp fa1 cu st fi se th db cn F) (u := 0) rfl trivial (by decide) (hQ _ _ _ _ _ (inv0_fin hfa hn.1 h0 A1 (bz_0 z1) (fun q0 => by have e9 := inv0_v (b := False) (c := True) A1 q0 (iff_of_false id (Int32.not_lt.mpr g1)) (iff_of_true trivial (Int32.not_le.mp (fun q => g2 (by rw [pk_un (hra q0)]; exact q)))); rw [pk_un (hra q0)]; exact e9)))
    · skip
      refine mm_skip (mm_call_mono _ _) 3 (st' := (44, [(3, .int (nI r)), (0, .ref 1), (1, .int 0), (2, .int (nI a))], [.int (nI a), .ref 9, .int (nI r), .ref 8], wC ov1 un1 (nI n1) dp fa1 cu st fi se th db cn F, 0)) rfl ?_
      refine mm_need (mm_call_mono _ _) (c := vp_in (nI a) 1332) (s' := (45, [(3, .int (nI r)), (0, .ref 1), (1, .int 0), (2, .int (nI a))], [.int (un1 (Int32.toNatClampNeg (nI a))), .int (nI r), .ref 8], wC ov1 un1 (nI n1) dp fa1 cu st fi se th db cn F, 0)) rfl (vp_in_nI (show a < 1332 by omega) (by decide)) ?_
      rw [nI_clamp (show a < 2 ^ 31 by omega)]
      show mm_W _ _ _ _ _ _ _ (45, [(3, .int (nI r)), (0, .ref 1), (1, .int 0), (2, .int (nI a))], [.int (un1 a), .int (nI r), .ref 8], wC ov1 un1 (nI n1) dp fa1 cu st fi se th db cn F, 0)
      refine mm_skip (mm_call_mono _ _) 2 (st' := (55, [(3, .int (nI r)), (0, .ref 1), (1, .int 0), (2, .int (nI a))], [.int (-(un1 a)), .int (nI r), .ref 8], wC ov1 un1 (nI n1) dp fa1 cu st fi se th db cn F, 0)) rfl ?_
      refine mm_need (mm_call_mono _ _) (c := vp_in (nI r) 1332) (s' := (56, [(3, .int (nI r)), (0, .ref 1), (1, .int 0), (2, .int (nI a))], [], wC (upd ov1 (Int32.toNatClampNeg (nI r)) (-(un1 a))) un1 (nI n1) dp fa1 cu st fi se th db cn F, 0)) rfl (vp_in_nI (show r < 1332 by omega) (by decide)) ?_
      rw [nI_clamp (show r < 2 ^ 31 by omega)]
      show mm_W _ _ _ _ _ _ _ (56, [(3, .int (nI r)), (0, .ref 1), (1, .int 0), (2, .int (nI a))], [], wC (upd ov1 r (-(un1 a))) un1 (nI n1) dp fa1 cu st fi se th db cn F, 0)
      refine mm_skip (mm_call_mono _ _) 6 (st' := (66, [(3, .int (nI r)), (0, .ref 1), (1, .int 0), (2, .int (nI a))], [.int (nI a), .ref 8, .int (nI r), .ref 9], wC (upd ov1 r (-(un1 a))) un1 (nI n1) dp fa1 cu st fi se th db cn F, 0)) rfl ?_
      refine mm_need (mm_call_mono _ _) (c := vp_in (nI a) 1332) (s' := (67, [(3, .int (nI r)), (0, .ref 1), (1, .int 0), (2, .int (nI a))], [.int ((upd ov1 r (-(un1 a))) (Int32.toNatClampNeg (nI a))), .int (nI r), .ref 9], wC (upd ov1 r (-(un1 a))) un1 (nI n1) dp fa1 cu st fi se th db cn F, 0)) rfl (vp_in_nI (show a < 1332 by omega) (by decide)) ?_
      rw [nI_clamp (show a < 2 ^ 31 by omega)]
      show mm_W _ _ _ _ _ _ _ (67, [(3, .int (nI r)), (0, .ref 1), (1, .int 0), (2, .int (nI a))], [.int ((upd ov1 r (-(un1 a))) a), .int (nI r), .ref 9], wC (upd ov1 r (-(un1 a))) un1 (nI n1) dp fa1 cu st fi se th db cn F, 0)
      refine mm_branch (mm_call_mono _ _) (c := 0 ≤ ((upd ov1 r (-(un1 a))) a)) (s1 := (80, [(3, .int (nI r)), (0, .ref 1), (1, .int 0), (2, .int (nI a))], [.int (nI r), .ref 9], wC (upd ov1 r (-(un1 a))) un1 (nI n1) dp fa1 cu st fi se th db cn F, 0)) (s2 := (70, [(3, .int (nI r)), (0, .ref 1), (1, .int 0), (2, .int (nI a))], [.int (nI r), .ref 9], wC (upd ov1 r (-(un1 a))) un1 (nI n1) dp fa1 cu st fi se th db cn F, 0)) rfl (fun g2 => ?_) (fun g2 => ?_)
      · skip
        refine mm_skip (mm_call_mono _ _) 3 (st' := (85, [(3, .int (nI r)), (0, .ref 1), (1, .int 0), (2, .int (nI a))], [.int (nI a), .ref 8, .int (nI r), .ref 9], wC (upd ov1 r (-(un1 a))) un1 (nI n1) dp fa1 cu st fi se th db cn F, 0)) rfl ?_
        refine mm_need (mm_call_mono _ _) (c := vp_in (nI a) 1332) (s' := (86, [(3, .int (nI r)), (0, .ref 1), (1, .int 0), (2, .int (nI a))], [.int ((upd ov1 r (-(un1 a))) (Int32.toNatClampNeg (nI a))), .int (nI r), .ref 9], wC (upd ov1 r (-(un1 a))) un1 (nI n1) dp fa1 cu st fi se th db cn F, 0)) rfl (vp_in_nI (show a < 1332 by omega) (by decide)) ?_
        rw [nI_clamp (show a < 2 ^ 31 by omega)]
        show mm_W _ _ _ _ _ _ _ (86, [(3, .int (nI r)), (0, .ref 1), (1, .int 0), (2, .int (nI a))], [.int ((upd ov1 r (-(un1 a))) a), .int (nI r), .ref 9], wC (upd ov1 r (-(un1 a))) un1 (nI n1) dp fa1 cu st fi se th db cn F, 0)
        refine mm_need (mm_call_mono _ _) (c := vp_in (nI r) 1332) (s' := (87, [(3, .int (nI r)), (0, .ref 1), (1, .int 0), (2, .int (nI a))], [], wC (upd ov1 r (-(un1 a))) (upd un1 (Int32.toNatClampNeg (nI r)) ((upd ov1 r (-(un1 a))) a)) (nI n1) dp fa1 cu st fi se th db cn F, 0)) rfl (vp_in_nI (show r < 1332 by omega) (by decide)) ?_
        rw [nI_clamp (show r < 2 ^ 31 by omega)]
        show mm_W _ _ _ _ _ _ _ (87, [(3, .int (nI r)), (0, .ref 1), (1, .int 0), (2, .int (nI a))], [], wC (upd ov1 r (-(un1 a))) (upd un1 r ((upd ov1 r (-(un1 a))) a)) (nI n1) dp fa1 cu st fi se th db cn F, 0)
        refine mm_skip (mm_call_mono _ _) 1 (st' := (88, [(3, .int (nI r)), (0, .ref 1), (1, .int 0), (2, .int (nI a))], [.int (nI r)], wC (upd ov1 r (-(un1 a))) (upd un1 r ((upd ov1 r (-(un1 a))) a)) (nI n1) dp fa1 cu st fi se th db cn F, 0)) rfl ?_
        exact mm_ret (mm_call_mono _ _) (c := True) (r := .inl (some (.int (nI r)))) (M := wC (upd ov1 r (-(un1 a))) (upd un1 r ((upd ov1 r (-(un1 a))) a)) (nI n1) dp fa1 cu st fi se th db cn F) (u := 0) rfl trivial (by decide) (hQ _ _ _ _ _ (inv0_fin hfa hn.1 h0 A1 (bz_0 z1) (fun q0 => by have e9 := inv0_v (b := True) (c := False) A1 q0 (iff_of_true trivial (Int32.not_le.mp (fun q => g1 q))) (iff_of_false id (Int32.not_lt.mpr (by rw [pk_un (hra q0)] at g2; exact g2))); rw [pk_un (hra q0)]; exact e9)))
      · skip
        refine mm_skip (mm_call_mono _ _) 3 (st' := (75, [(3, .int (nI r)), (0, .ref 1), (1, .int 0), (2, .int (nI a))], [.int (nI a), .ref 8, .int (nI r), .ref 9], wC (upd ov1 r (-(un1 a))) un1 (nI n1) dp fa1 cu st fi se th db cn F, 0)) rfl ?_
        refine mm_need (mm_call_mono _ _) (c := vp_in (nI a) 1332) (s' := (76, [(3, .int (nI r)), (0, .ref 1), (1, .int 0), (2, .int (nI a))], [.int ((upd ov1 r (-(un1 a))) (Int32.toNatClampNeg (nI a))), .int (nI r), .ref 9], wC (upd ov1 r (-(un1 a))) un1 (nI n1) dp fa1 cu st fi se th db cn F, 0)) rfl (vp_in_nI (show a < 1332 by omega) (by decide)) ?_
        rw [nI_clamp (show a < 2 ^ 31 by omega)]
        show mm_W _ _ _ _ _ _ _ (76, [(3, .int (nI r)), (0, .ref 1), (1, .int 0), (2, .int (nI a))], [.int ((upd ov1 r (-(un1 a))) a), .int (nI r), .ref 9], wC (upd ov1 r (-(un1 a))) un1 (nI n1) dp fa1 cu st fi se th db cn F, 0)
        refine mm_skip (mm_call_mono _ _) 2 (st' := (86, [(3, .int (nI r)), (0, .ref 1), (1, .int 0), (2, .int (nI a))], [.int (-((upd ov1 r (-(un1 a))) a)), .int (nI r), .ref 9], wC (upd ov1 r (-(un1 a))) un1 (nI n1) dp fa1 cu st fi se th db cn F, 0)) rfl ?_
        refine mm_need (mm_call_mono _ _) (c := vp_in (nI r) 1332) (s' := (87, [(3, .int (nI r)), (0, .ref 1), (1, .int 0), (2, .int (nI a))], [], wC (upd ov1 r (-(un1 a))) (upd un1 (Int32.toNatClampNeg (nI r)) (-((upd ov1 r (-(un1 a))) a))) (nI n1) dp fa1 cu st fi se th db cn F, 0)) rfl (vp_in_nI (show r < 1332 by omega) (by decide)) ?_
        rw [nI_clamp (show r < 2 ^ 31 by omega)]
        show mm_W _ _ _ _ _ _ _ (87, [(3, .int (nI r)), (0, .ref 1), (1, .int 0), (2, .int (nI a))], [], wC (upd ov1 r (-(un1 a))) (upd un1 r (-((upd ov1 r (-(un1 a))) a))) (nI n1) dp fa1 cu st fi se th db cn F, 0)
        refine mm_skip (mm_call_mono _ _) 1 (st' := (88, [(3, .int (nI r)), (0, .ref 1), (1, .int 0), (2, .int (nI a))], [.int (nI r)], wC (upd ov1 r (-(un1 a))) (upd un1 r (-((upd ov1 r (-(un1 a))) a))) (nI n1) dp fa1 cu st fi se th db cn F, 0)) rfl ?_
        exact mm_ret (mm_call_mono _ _) (c := True) (r := .inl (some (.int (nI r)))) (M := wC (upd ov1 r (-(un1 a))) (upd un1 r (-((upd ov1 r (-(un1 a))) a))) (nI n1) dp fa1 cu st fi se th db cn F) (u := 0) rfl trivial (by decide) (hQ _ _ _ _ _ (inv0_fin hfa hn.1 h0 A1 (bz_0 z1) (fun q0 => by have e9 := inv0_v (b := True) (c := True) A1 q0 (iff_of_true trivial (Int32.not_le.mp (fun q => g1 q))) (iff_of_true trivial (Int32.not_le.mp (fun q => g2 (by rw [pk_un (hra q0)]; exact q)))); rw [pk_un (hra q0)]; exact e9)))
  · skip
    refine mm_skip (mm_call_mono _ _) 2 (st' := (16, [(3, .int (nI r)), (0, .ref 1), (1, .int 0), (2, .int (nI a))], [.int 1, .ref 1], wC ov1 un1 (nI n1) dp fa1 cu st fi se th db cn F, 0)) rfl ?_
    refine mm_need (mm_call_mono _ _) (c := mm_z 1) (s' := (19, [(3, .int (nI r)), (0, .ref 1), (1, .int 0), (2, .int (nI a))], [], wC ov1 un1 (nI n1) dp 1 cu st fi se th db cn F, 0)) rfl (by unfold mm_z; decide) ?_
    refine mm_skip (mm_call_mono _ _) 1 (st' := (20, [(3, .int (nI r)), (0, .ref 1), (1, .int 0), (2, .int (nI a))], [.int (nI r)], wC ov1 un1 (nI n1) dp 1 cu st fi se th db cn F, 0)) rfl ?_
    exact mm_ret (mm_call_mono _ _) (c := True) (r := .inl (some (.int (nI r)))) (M := wC ov1 un1 (nI n1) dp 1 cu st fi se th db cn F) (u := 0) rfl trivial (by decide) (hQ _ _ _ _ _ (op_fail hfa hn.1 h0 (by omega) (fun q0 => by unfold ninv0; rw [if_pos (rd0 A1 (bz_1 z1) q0 0 (by omega))])))

theorem fneg_z0 : fneg z0 = z0 := by decide
theorem nneg_zz {h : Nat} (hh : h = 1 ∨ h = 2) : nneg h (g4 zz) = some zz := by
  rcases hh with rfl | rfl
  · show some ((fneg z0, z0, z0, z0) : n4) = some zz
    rw [fneg_z0]; rfl
  · show some ((fneg z0, fneg z0, z0, z0) : n4) = some zz
    rw [fneg_z0]; rfl
theorem ninvS_z {h : Nat} (hh : h = 1 ∨ h = 2) {M : (Nat → fr) → (Nat → fr) → Option n4} {I : (Nat → fr) → Option n4} (hM : zM h M) (hI : I (g4 zz) = none) {R x : Nat → fr} (hR : ∀ j, j < h → fv (R j)) (hx : ∀ j, j < 2 * h → fv (x j)) (hz : ∀ j, j < 2 * h → (x j).1 = 0) : ninvS h M I R x = none := by
  have a1 : M (sh h x) (sh h x) = some zz := hM _ _ (fun j hj => hx (h + j) (by omega)) (fun j hj => hx (h + j) (by omega)) (Or.inl (fun j hj => hz (h + j) (by omega)))
  have a2 : M (g4 zz) R = some zz := hM _ _ (fun j _ => by rw [g4_zz]; exact fv_z0) hR (Or.inl (fun j _ => by rw [g4_zz]; rfl))
  have a3 : M x x = some zz := hM _ _ (fun j hj => hx j (by omega)) (fun j hj => hx j (by omega)) (Or.inl (fun j hj => hz j (by omega)))
  unfold ninvS
  rw [a1]
  show ((M (g4 zz) R).bind fun bbr => (M x x).bind fun aa => (nneg h (g4 bbr)).bind fun nb => (nadd h (g4 aa) (g4 nb)).bind fun nn => (I (g4 nn)).bind fun m => (M x (g4 m)).bind fun am => (nneg h (sh h x)).bind fun nc => (M (g4 nc) (g4 m)).bind fun bm => some (jn h am bm)) = none
  rw [a2]
  show ((M x x).bind fun aa => (nneg h (g4 zz)).bind fun nb => (nadd h (g4 aa) (g4 nb)).bind fun nn => (I (g4 nn)).bind fun m => (M x (g4 m)).bind fun am => (nneg h (sh h x)).bind fun nc => (M (g4 nc) (g4 m)).bind fun bm => some (jn h am bm)) = none
  rw [a3]
  show ((nneg h (g4 zz)).bind fun nb => (nadd h (g4 zz) (g4 nb)).bind fun nn => (I (g4 nn)).bind fun m => (M x (g4 m)).bind fun am => (nneg h (sh h x)).bind fun nc => (M (g4 nc) (g4 m)).bind fun bm => some (jn h am bm)) = none
  rw [nneg_zz hh]
  show ((nadd h (g4 zz) (g4 zz)).bind fun nn => (I (g4 nn)).bind fun m => (M x (g4 m)).bind fun am => (nneg h (sh h x)).bind fun nc => (M (g4 nc) (g4 m)).bind fun bm => some (jn h am bm)) = none
  rw [nadd_zz hh]
  show ((I (g4 zz)).bind fun m => (M x (g4 m)).bind fun am => (nneg h (sh h x)).bind fun nc => (M (g4 nc) (g4 m)).bind fun bm => some (jn h am bm)) = none
  rw [hI]
  rfl
theorem ninv0_z : ninv0 (g4 zz) = none := by
  unfold ninv0
  rw [if_pos (by decide)]
theorem ninv1_z {R : Nat → fr} (hR : ∀ j, j < 1 → fv (R j)) : ninv1 R (g4 zz) = none := ninvS_z (Or.inl rfl) zM_0 ninv0_z hR (fun j _ => by rw [g4_zz]; exact fv_z0) (fun j _ => by rw [g4_zz]; rfl)
set_option maxRecDepth 100000 in
theorem at_N_inverse_1 {d : Nat} {ov un : Nat → Int32} {dp fa : Int32} {cu : mm_cu} {st fi se th db : Nat → Int32} {cn : Int32} {F : mm_M} {n a : Nat} {x R1 : Nat → fr} {Q : mm_R → mm_M → Prop} (hfa : mm_z fa) (hn : 308 ≤ n ∧ n ≤ 1332) (P : isAt ov un n fa 1 0 R1) (A : isAt ov un n fa 2 a x) (hQ : ∀ (ov1 un1 : Nat → Int32) (n1 : Nat) (fa1 : Int32) (r : Nat), opR ov un n fa 40 (ninv1 R1 x) ov1 un1 n1 fa1 r → Q (.inl (some (.int (nI r)))) (wC ov1 un1 (nI n1) dp fa1 cu st fi se th db cn F)) : mm_call mm_Tb (d + 3) 146 [.ref 1, .int 1, .int (nI a)] (wC ov un (nI n) dp fa cu st fi se th db cn F) Q := by
  refine mm_in mt_146 (Nat.le_of_ble_eq_true rfl) ?_
  show mm_W _ _ _ _ _ _ _ (0, [(0, .ref 1), (1, .int 1), (2, .int (nI a))], [], wC ov un (nI n) dp fa cu st fi se th db cn F, 0)
  refine mm_skip (mm_call_mono _ _) 1 (st' := (1, [(0, .ref 1), (1, .int 1), (2, .int (nI a))], [.ref 1], wC ov un (nI n) dp fa cu st fi se th db cn F, 0)) rfl ?_
  refine mm_inv (mm_call_mono _ _) (j := 138) (a := [.ref 1]) (M := wC ov un (nI n) dp fa cu st fi se th db cn F) (u := 0) rfl (by decide) (ct_N_reserve hn (fun ov1 un1 n1 fa1 r h0 => ?_))
  show mm_W _ _ _ _ _ _ _ (4, [(0, .ref 1), (1, .int 1), (2, .int (nI a))], [.int (nI r)], wC ov1 un1 (nI n1) dp fa1 cu st fi se th db cn F, 0)
  have hr := res_r h0 hn.1
  have s1 := stg_0 hfa hn.1 h0
  have Z1 := at_res h0 hn.1
  have A1 := at_keep A (res_k h0 hn.1)
  have P1 := at_keep P (res_k h0 hn.1)
  have F1 := res_f (spec := ninv1 R1 x) (C := 40) h0 (by omega)
  have E1 : fa1 = 0 → ninv1 R1 x = Option.bind (nmul0 (sh 1 x) (sh 1 x)) (fun bb => (nmul0 (g4 bb) R1).bind fun bbr => (nmul0 x x).bind fun aa => (nneg 1 (g4 bbr)).bind fun nb => (nadd 1 (g4 aa) (g4 nb)).bind fun nn => (ninv0 (g4 nn)).bind fun m => (nmul0 x (g4 m)).bind fun am => (nneg 1 (sh 1 x)).bind fun nc => (nmul0 (g4 nc) (g4 m)).bind fun bm => some (jn 1 am bm)) := fun _ => rfl
  refine mm_skip (mm_call_mono _ _) 4 (st' := (8, [(3, .int (nI r)), (0, .ref 1), (1, .int 1), (2, .int (nI a))], [.int (nI a), .int 1, .ref 1], wC ov1 un1 (nI n1) dp fa1 cu st fi se th db cn F, 0)) rfl ?_
  refine mm_inv (mm_call_mono _ _) (j := 141) (a := [.ref 1, .int 1, .int (nI a)]) (M := wC ov1 un1 (nI n1) dp fa1 cu st fi se th db cn F) (u := 0) rfl (by decide) (ct_N_isZero_1 (a := a) A.1.1 ?_)
  show mm_W _ _ _ _ _ _ _ (11, [(3, .int (nI r)), (0, .ref 1), (1, .int 1), (2, .int (nI a))], [.int (bz (isz 2 ov1 a))], wC ov1 un1 (nI n1) dp fa1 cu st fi se th db cn F, 0)
  refine mm_branch (mm_call_mono _ _) (c := (bz (isz 2 ov1 a)) = 0) (s1 := (21, [(3, .int (nI r)), (0, .ref 1), (1, .int 1), (2, .int (nI a))], [], wC ov1 un1 (nI n1) dp fa1 cu st fi se th db cn F, 0)) (s2 := (14, [(3, .int (nI r)), (0, .ref 1), (1, .int 1), (2, .int (nI a))], [], wC ov1 un1 (nI n1) dp fa1 cu st fi se th db cn F, 0)) rfl (fun z1 => ?_) (fun z1 => ?_)
  · skip
    refine mm_skip (mm_call_mono _ _) 1 (st' := (22, [(3, .int (nI r)), (0, .ref 1), (1, .int 1), (2, .int (nI a))], [.int 1], wC ov1 un1 (nI n1) dp fa1 cu st fi se th db cn F, 0)) rfl ?_
    refine mm_branch (mm_call_mono _ _) (c := (0 : Int32) < 1) (s1 := (89, [(3, .int (nI r)), (0, .ref 1), (1, .int 1), (2, .int (nI a))], [], wC ov1 un1 (nI n1) dp fa1 cu st fi se th db cn F, 0)) (s2 := (25, [(3, .int (nI r)), (0, .ref 1), (1, .int 1), (2, .int (nI a))], [], wC ov1 un1 (nI n1) dp fa1 cu st fi se th db cn F, 0)) rfl (fun _ => ?_) (fun h => absurd (by decide) h)
    refine mm_skip (mm_call_mono _ _) 16 (st' := (112, [(5, .int ((nI a) + 1)), (4, .int 0), (3, .int (nI r)), (0, .ref 1), (1, .int 1), (2, .int (nI a))], [.int ((nI a) + 1), .int ((nI a) + 1), .int 0, .ref 1, .int 0, .ref 1], wC ov1 un1 (nI n1) dp fa1 cu st fi se th db cn F, 0)) rfl ?_
    rw [nI_p1 (a)]
    show mm_W _ _ _ _ _ _ _ (112, [(5, .int (nI (a + 1))), (4, .int 0), (3, .int (nI r)), (0, .ref 1), (1, .int 1), (2, .int (nI a))], [.int (nI (a + 1)), .int (nI (a + 1)), .int 0, .ref 1, .int 0, .ref 1], wC ov1 un1 (nI n1) dp fa1 cu st fi se th db cn F, 0)
    refine mm_inv (mm_call_mono _ _) (j := 145) (a := [.ref 1, .int 0, .int (nI (a + 1)), .int (nI (a + 1))]) (M := wC ov1 un1 (nI n1) dp fa1 cu st fi se th db cn F) (u := 0) rfl (by decide) (at_N_product_0 s1.2.1 s1.1 (at_hi A1 1 (by omega)) (at_hi A1 1 (by omega)) (fun ov2 un2 n2 fa2 ibb h1 => ?_))
    show mm_W _ _ _ _ _ _ _ (115, [(5, .int (nI (a + 1))), (4, .int 0), (3, .int (nI r)), (0, .ref 1), (1, .int 1), (2, .int (nI a))], [.int (nI ibb), .int 0, .ref 1], wC ov2 un2 (nI n2) dp fa2 cu st fi se th db cn F, 0)
    have s2 := stg_s s1 hn.1 h1
    have F2 := seq_f s1 F1 E1 h1 (by omega)
    have E2 := seq_e E1 h1
    have A2 := at_keep A1 (op_k h1)
    have P2 := at_keep P1 (op_k h1)
    have Z2 := at_keep Z1 (op_k h1)
    have bb2 := at_new h1
    refine mm_skip (mm_call_mono _ _) 1 (st' := (116, [(5, .int (nI (a + 1))), (4, .int 0), (3, .int (nI r)), (0, .ref 1), (1, .int 1), (2, .int (nI a))], [.int 1, .int (nI ibb), .int 0, .ref 1], wC ov2 un2 (nI n2) dp fa2 cu st fi se th db cn F, 0)) rfl ?_
    refine mm_inv (mm_call_mono _ _) (j := 120) (a := [.int 1]) (M := wC ov2 un2 (nI n2) dp fa2 cu st fi se th db cn F) (u := 0) rfl (by decide) (ct_N_radicandOf_1 ?_)
    show mm_W _ _ _ _ _ _ _ (119, [(5, .int (nI (a + 1))), (4, .int 0), (3, .int (nI r)), (0, .ref 1), (1, .int 1), (2, .int (nI a))], [.int (nI 0), .int (nI ibb), .int 0, .ref 1], wC ov2 un2 (nI n2) dp fa2 cu st fi se th db cn F, 0)
    refine mm_inv (mm_call_mono _ _) (j := 145) (a := [.ref 1, .int 0, .int (nI ibb), .int (nI 0)]) (M := wC ov2 un2 (nI n2) dp fa2 cu st fi se th db cn F) (u := 0) rfl (by decide) (at_N_product_0 s2.2.1 s2.1 (at_lo bb2 (by omega)) P2 (fun ov3 un3 n3 fa3 ibbr h2 => ?_))
    show mm_W _ _ _ _ _ _ _ (122, [(5, .int (nI (a + 1))), (4, .int 0), (3, .int (nI r)), (0, .ref 1), (1, .int 1), (2, .int (nI a))], [.int (nI ibbr)], wC ov3 un3 (nI n3) dp fa3 cu st fi se th db cn F, 0)
    have s3 := stg_s s2 hn.1 h2
    have F3 := seq_f s2 F2 E2 h2 (by omega)
    have E3 := seq_e E2 h2
    have A3 := at_keep A2 (op_k h2)
    have P3 := at_keep P2 (op_k h2)
    have Z3 := at_keep Z2 (op_k h2)
    have bb3 := at_keep bb2 (op_k h2)
    have bbr3 := at_new h2
    refine mm_skip (mm_call_mono _ _) 9 (st' := (135, [(6, .int (nI ibbr)), (5, .int (nI (a + 1))), (4, .int 0), (3, .int (nI r)), (0, .ref 1), (1, .int 1), (2, .int (nI a))], [.int (nI a), .int (nI a), .int 0, .ref 1, .int 0, .ref 1, .int 0, .ref 1], wC ov3 un3 (nI n3) dp fa3 cu st fi se th db cn F, 0)) rfl ?_
    refine mm_inv (mm_call_mono _ _) (j := 145) (a := [.ref 1, .int 0, .int (nI a), .int (nI a)]) (M := wC ov3 un3 (nI n3) dp fa3 cu st fi se th db cn F) (u := 0) rfl (by decide) (at_N_product_0 s3.2.1 s3.1 (at_lo A3 (by omega)) (at_lo A3 (by omega)) (fun ov4 un4 n4 fa4 iaa h3 => ?_))
    show mm_W _ _ _ _ _ _ _ (138, [(6, .int (nI ibbr)), (5, .int (nI (a + 1))), (4, .int 0), (3, .int (nI r)), (0, .ref 1), (1, .int 1), (2, .int (nI a))], [.int (nI iaa), .int 0, .ref 1, .int 0, .ref 1], wC ov4 un4 (nI n4) dp fa4 cu st fi se th db cn F, 0)
    have s4 := stg_s s3 hn.1 h3
    have F4 := seq_f s3 F3 E3 h3 (by omega)
    have E4 := seq_e E3 h3
    have A4 := at_keep A3 (op_k h3)
    have P4 := at_keep P3 (op_k h3)
    have Z4 := at_keep Z3 (op_k h3)
    have bbr4 := at_keep bbr3 (op_k h3)
    have aa4 := at_new h3
    refine mm_skip (mm_call_mono _ _) 3 (st' := (143, [(6, .int (nI ibbr)), (5, .int (nI (a + 1))), (4, .int 0), (3, .int (nI r)), (0, .ref 1), (1, .int 1), (2, .int (nI a))], [.int (nI ibbr), .int 0, .ref 1, .int (nI iaa), .int 0, .ref 1, .int 0, .ref 1], wC ov4 un4 (nI n4) dp fa4 cu st fi se th db cn F, 0)) rfl ?_
    refine mm_inv (mm_call_mono _ _) (j := 143) (a := [.ref 1, .int 0, .int (nI ibbr)]) (M := wC ov4 un4 (nI n4) dp fa4 cu st fi se th db cn F) (u := 0) rfl (by decide) (at_N_negative_0 s4.2.1 s4.1 (at_lo bbr4 (by omega)) (fun ov5 un5 n5 fa5 inb h4 => ?_))
    show mm_W _ _ _ _ _ _ _ (146, [(6, .int (nI ibbr)), (5, .int (nI (a + 1))), (4, .int 0), (3, .int (nI r)), (0, .ref 1), (1, .int 1), (2, .int (nI a))], [.int (nI inb), .int (nI iaa), .int 0, .ref 1, .int 0, .ref 1], wC ov5 un5 (nI n5) dp fa5 cu st fi se th db cn F, 0)
    have s5 := stg_s s4 hn.1 h4
    have F5 := seq_f s4 F4 E4 h4 (by omega)
    have E5 := seq_e E4 h4
    have A5 := at_keep A4 (op_k h4)
    have P5 := at_keep P4 (op_k h4)
    have Z5 := at_keep Z4 (op_k h4)
    have bbr5 := at_keep bbr4 (op_k h4)
    have aa5 := at_keep aa4 (op_k h4)
    have nb5 := at_new h4
    refine mm_inv (mm_call_mono _ _) (j := 142) (a := [.ref 1, .int 0, .int (nI iaa), .int (nI inb)]) (M := wC ov5 un5 (nI n5) dp fa5 cu st fi se th db cn F) (u := 0) rfl (by decide) (at_N_sum_0 s5.2.1 s5.1 (at_lo aa5 (by omega)) (at_lo nb5 (by omega)) (fun ov6 un6 n6 fa6 inn h5 => ?_))
    show mm_W _ _ _ _ _ _ _ (149, [(6, .int (nI ibbr)), (5, .int (nI (a + 1))), (4, .int 0), (3, .int (nI r)), (0, .ref 1), (1, .int 1), (2, .int (nI a))], [.int (nI inn), .int 0, .ref 1], wC ov6 un6 (nI n6) dp fa6 cu st fi se th db cn F, 0)
    have s6 := stg_s s5 hn.1 h5
    have F6 := seq_f s5 F5 E5 h5 (by omega)
    have E6 := seq_e E5 h5
    have A6 := at_keep A5 (op_k h5)
    have P6 := at_keep P5 (op_k h5)
    have Z6 := at_keep Z5 (op_k h5)
    have aa6 := at_keep aa5 (op_k h5)
    have nb6 := at_keep nb5 (op_k h5)
    have nn6 := at_new h5
    refine mm_inv (mm_call_mono _ _) (j := 146) (a := [.ref 1, .int 0, .int (nI inn)]) (M := wC ov6 un6 (nI n6) dp fa6 cu st fi se th db cn F) (u := 0) rfl (by decide) (at_N_inverse_0 s6.2.1 s6.1 (at_lo nn6 (by omega)) (fun ov7 un7 n7 fa7 imm h6 => ?_))
    show mm_W _ _ _ _ _ _ _ (152, [(6, .int (nI ibbr)), (5, .int (nI (a + 1))), (4, .int 0), (3, .int (nI r)), (0, .ref 1), (1, .int 1), (2, .int (nI a))], [.int (nI imm)], wC ov7 un7 (nI n7) dp fa7 cu st fi se th db cn F, 0)
    have s7 := stg_s s6 hn.1 h6
    have F7 := seq_f s6 F6 E6 h6 (by omega)
    have E7 := seq_e E6 h6
    have A7 := at_keep A6 (op_k h6)
    have P7 := at_keep P6 (op_k h6)
    have Z7 := at_keep Z6 (op_k h6)
    have nn7 := at_keep nn6 (op_k h6)
    have mm7 := at_new h6
    refine mm_skip (mm_call_mono _ _) 8 (st' := (164, [(7, .int (nI imm)), (6, .int (nI ibbr)), (5, .int (nI (a + 1))), (4, .int 0), (3, .int (nI r)), (0, .ref 1), (1, .int 1), (2, .int (nI a))], [.int (nI imm), .int (nI a), .int 0, .ref 1, .int (nI r), .int 0, .ref 1], wC ov7 un7 (nI n7) dp fa7 cu st fi se th db cn F, 0)) rfl ?_
    refine mm_inv (mm_call_mono _ _) (j := 145) (a := [.ref 1, .int 0, .int (nI a), .int (nI imm)]) (M := wC ov7 un7 (nI n7) dp fa7 cu st fi se th db cn F) (u := 0) rfl (by decide) (at_N_product_0 s7.2.1 s7.1 (at_lo A7 (by omega)) (at_lo mm7 (by omega)) (fun ov8 un8 n8 fa8 iam h7 => ?_))
    show mm_W _ _ _ _ _ _ _ (167, [(7, .int (nI imm)), (6, .int (nI ibbr)), (5, .int (nI (a + 1))), (4, .int 0), (3, .int (nI r)), (0, .ref 1), (1, .int 1), (2, .int (nI a))], [.int (nI iam), .int (nI r), .int 0, .ref 1], wC ov8 un8 (nI n8) dp fa8 cu st fi se th db cn F, 0)
    have s8 := stg_s s7 hn.1 h7
    have F8 := seq_f s7 F7 E7 h7 (by omega)
    have E8 := seq_e E7 h7
    have A8 := at_keep A7 (op_k h7)
    have P8 := at_keep P7 (op_k h7)
    have Z8 := at_keep Z7 (op_k h7)
    have mm8 := at_keep mm7 (op_k h7)
    have am8 := at_new h7
    refine mm_skip (mm_call_mono _ _) 5 (st' := (175, [(7, .int (nI imm)), (6, .int (nI ibbr)), (5, .int (nI (a + 1))), (4, .int 0), (3, .int (nI r)), (0, .ref 1), (1, .int 1), (2, .int (nI a))], [.int (nI (a + 1)), .int 0, .ref 1, .int 0, .ref 1, .int (nI iam), .int (nI r), .int 0, .ref 1], wC ov8 un8 (nI n8) dp fa8 cu st fi se th db cn F, 0)) rfl ?_
    refine mm_inv (mm_call_mono _ _) (j := 143) (a := [.ref 1, .int 0, .int (nI (a + 1))]) (M := wC ov8 un8 (nI n8) dp fa8 cu st fi se th db cn F) (u := 0) rfl (by decide) (at_N_negative_0 s8.2.1 s8.1 (at_hi A8 1 (by omega)) (fun ov9 un9 n9 fa9 inc h8 => ?_))
    show mm_W _ _ _ _ _ _ _ (178, [(7, .int (nI imm)), (6, .int (nI ibbr)), (5, .int (nI (a + 1))), (4, .int 0), (3, .int (nI r)), (0, .ref 1), (1, .int 1), (2, .int (nI a))], [.int (nI inc), .int 0, .ref 1, .int (nI iam), .int (nI r), .int 0, .ref 1], wC ov9 un9 (nI n9) dp fa9 cu st fi se th db cn F, 0)
    have s9 := stg_s s8 hn.1 h8
    have F9 := seq_f s8 F8 E8 h8 (by omega)
    have E9 := seq_e E8 h8
    have A9 := at_keep A8 (op_k h8)
    have P9 := at_keep P8 (op_k h8)
    have Z9 := at_keep Z8 (op_k h8)
    have mm9 := at_keep mm8 (op_k h8)
    have am9 := at_keep am8 (op_k h8)
    have nc9 := at_new h8
    refine mm_skip (mm_call_mono _ _) 1 (st' := (180, [(7, .int (nI imm)), (6, .int (nI ibbr)), (5, .int (nI (a + 1))), (4, .int 0), (3, .int (nI r)), (0, .ref 1), (1, .int 1), (2, .int (nI a))], [.int (nI imm), .int (nI inc), .int 0, .ref 1, .int (nI iam), .int (nI r), .int 0, .ref 1], wC ov9 un9 (nI n9) dp fa9 cu st fi se th db cn F, 0)) rfl ?_
    refine mm_inv (mm_call_mono _ _) (j := 145) (a := [.ref 1, .int 0, .int (nI inc), .int (nI imm)]) (M := wC ov9 un9 (nI n9) dp fa9 cu st fi se th db cn F) (u := 0) rfl (by decide) (at_N_product_0 s9.2.1 s9.1 (at_lo nc9 (by omega)) (at_lo mm9 (by omega)) (fun ov10 un10 n10 fa10 ibm h9 => ?_))
    show mm_W _ _ _ _ _ _ _ (183, [(7, .int (nI imm)), (6, .int (nI ibbr)), (5, .int (nI (a + 1))), (4, .int 0), (3, .int (nI r)), (0, .ref 1), (1, .int 1), (2, .int (nI a))], [.int (nI ibm), .int (nI iam), .int (nI r), .int 0, .ref 1], wC ov10 un10 (nI n10) dp fa10 cu st fi se th db cn F, 0)
    have s10 := stg_s s9 hn.1 h9
    have F10 := seq_f s9 F9 E9 h9 (by omega)
    have E10 := seq_e E9 h9
    have A10 := at_keep A9 (op_k h9)
    have P10 := at_keep P9 (op_k h9)
    have Z10 := at_keep Z9 (op_k h9)
    have mm10 := at_keep mm9 (op_k h9)
    have am10 := at_keep am9 (op_k h9)
    have nc10 := at_keep nc9 (op_k h9)
    have bm10 := at_new h9
    refine mm_inv (mm_call_mono _ _) (j := 140) (a := [.ref 1, .int 0, .int (nI r), .int (nI iam), .int (nI ibm)]) (M := wC ov10 un10 (nI n10) dp fa10 cu st fi se th db cn F) (u := 0) rfl (by decide) (ct_N_pair_0 (r := r) (a := iam) (b := ibm) (by omega) (by have := h7.1; omega) (by have := h9.1; omega) ?_)
    show mm_W _ _ _ _ _ _ _ (186, [(7, .int (nI imm)), (6, .int (nI ibbr)), (5, .int (nI (a + 1))), (4, .int 0), (3, .int (nI r)), (0, .ref 1), (1, .int 1), (2, .int (nI a))], [.int (nI r)], wC (prow ov10 1 r iam ibm) (prow un10 1 r iam ibm) (nI (r + 4)) dp fa10 cu st fi se th db cn F, 0)
    exact mm_ret (mm_call_mono _ _) (c := True) (r := .inl (some (.int (nI r)))) (M := wC (prow ov10 1 r iam ibm) (prow un10 1 r iam ibm) (nI (r + 4)) dp fa10 cu st fi se th db cn F) (u := 0) rfl trivial (by decide) (hQ _ _ _ _ _ (pair_fin (C := 40) (by omega) ⟨hr.1, hr.2.1⟩ (fun q0 => by have e9 := op_rn h9 q0; have e8 := op_rn h8 e9.2; have e7 := op_rn h7 e8.2; have e6 := op_rn h6 e7.2; have e5 := op_rn h5 e6.2; have e4 := op_rn h4 e5.2; have e3 := op_rn h3 e4.2; have e2 := op_rn h2 e3.2; have e1 := op_rn h1 e2.2; have e0 := res_n h0 e1.2; exact e0) s10 Z10 am10 bm10 (fun q0 => by have e9 := op_rn h9 q0; have e8 := op_rn h8 e9.2; have e7 := op_rn h7 e8.2; have e6 := op_rn h6 e7.2; have e5 := op_rn h5 e6.2; have e4 := op_rn h4 e5.2; have e3 := op_rn h3 e4.2; have e2 := op_rn h2 e3.2; have e1 := op_rn h1 e2.2; have e0 := res_n h0 e1.2; have t7 := (s7.2.2.2.2 e7.2).2.1; have t9 := (s9.2.2.2.2 e9.2).2.1; omega) E10 F10))
  · skip
    refine mm_skip (mm_call_mono _ _) 2 (st' := (16, [(3, .int (nI r)), (0, .ref 1), (1, .int 1), (2, .int (nI a))], [.int 1, .ref 1], wC ov1 un1 (nI n1) dp fa1 cu st fi se th db cn F, 0)) rfl ?_
    refine mm_need (mm_call_mono _ _) (c := mm_z 1) (s' := (19, [(3, .int (nI r)), (0, .ref 1), (1, .int 1), (2, .int (nI a))], [], wC ov1 un1 (nI n1) dp 1 cu st fi se th db cn F, 0)) rfl (by unfold mm_z; decide) ?_
    refine mm_skip (mm_call_mono _ _) 1 (st' := (20, [(3, .int (nI r)), (0, .ref 1), (1, .int 1), (2, .int (nI a))], [.int (nI r)], wC ov1 un1 (nI n1) dp 1 cu st fi se th db cn F, 0)) rfl ?_
    exact mm_ret (mm_call_mono _ _) (c := True) (r := .inl (some (.int (nI r)))) (M := wC ov1 un1 (nI n1) dp 1 cu st fi se th db cn F) (u := 0) rfl trivial (by decide) (hQ _ _ _ _ _ (op_fail hfa hn.1 h0 (by omega) (fun q0 => ninvS_z (h := 1) (by omega) zM_0 ninv0_z (at_v P1 q0) (at_v A1 q0) (rd0 A1 (bz_1 z1) q0))))

set_option maxRecDepth 100000 in
theorem at_N_inverse_2 {d : Nat} {ov un : Nat → Int32} {dp fa : Int32} {cu : mm_cu} {st fi se th db : Nat → Int32} {cn : Int32} {F : mm_M} {n a : Nat} {x R1 R2 : Nat → fr} {Q : mm_R → mm_M → Prop} (hfa : mm_z fa) (hn : 308 ≤ n ∧ n ≤ 1332) (P : isAt ov un n fa 1 0 R1) (S : isAt ov un n fa 2 4 R2) (A : isAt ov un n fa 4 a x) (hQ : ∀ (ov1 un1 : Nat → Int32) (n1 : Nat) (fa1 : Int32) (r : Nat), opR ov un n fa 68 (ninv2 R1 R2 x) ov1 un1 n1 fa1 r → Q (.inl (some (.int (nI r)))) (wC ov1 un1 (nI n1) dp fa1 cu st fi se th db cn F)) : mm_call mm_Tb (d + 4) 146 [.ref 1, .int 2, .int (nI a)] (wC ov un (nI n) dp fa cu st fi se th db cn F) Q := by
  refine mm_in mt_146 (Nat.le_of_ble_eq_true rfl) ?_
  show mm_W _ _ _ _ _ _ _ (0, [(0, .ref 1), (1, .int 2), (2, .int (nI a))], [], wC ov un (nI n) dp fa cu st fi se th db cn F, 0)
  refine mm_skip (mm_call_mono _ _) 1 (st' := (1, [(0, .ref 1), (1, .int 2), (2, .int (nI a))], [.ref 1], wC ov un (nI n) dp fa cu st fi se th db cn F, 0)) rfl ?_
  refine mm_inv (mm_call_mono _ _) (j := 138) (a := [.ref 1]) (M := wC ov un (nI n) dp fa cu st fi se th db cn F) (u := 0) rfl (by decide) (ct_N_reserve hn (fun ov1 un1 n1 fa1 r h0 => ?_))
  show mm_W _ _ _ _ _ _ _ (4, [(0, .ref 1), (1, .int 2), (2, .int (nI a))], [.int (nI r)], wC ov1 un1 (nI n1) dp fa1 cu st fi se th db cn F, 0)
  have hr := res_r h0 hn.1
  have s1 := stg_0 hfa hn.1 h0
  have Z1 := at_res h0 hn.1
  have A1 := at_keep A (res_k h0 hn.1)
  have P1 := at_keep P (res_k h0 hn.1)
  have S1 := at_keep S (res_k h0 hn.1)
  have F1 := res_f (spec := ninv2 R1 R2 x) (C := 68) h0 (by omega)
  have E1 : fa1 = 0 → ninv2 R1 R2 x = Option.bind ((nmul1 R1) (sh 2 x) (sh 2 x)) (fun bb => ((nmul1 R1) (g4 bb) R2).bind fun bbr => ((nmul1 R1) x x).bind fun aa => (nneg 2 (g4 bbr)).bind fun nb => (nadd 2 (g4 aa) (g4 nb)).bind fun nn => ((ninv1 R1) (g4 nn)).bind fun m => ((nmul1 R1) x (g4 m)).bind fun am => (nneg 2 (sh 2 x)).bind fun nc => ((nmul1 R1) (g4 nc) (g4 m)).bind fun bm => some (jn 2 am bm)) := fun _ => rfl
  refine mm_skip (mm_call_mono _ _) 4 (st' := (8, [(3, .int (nI r)), (0, .ref 1), (1, .int 2), (2, .int (nI a))], [.int (nI a), .int 2, .ref 1], wC ov1 un1 (nI n1) dp fa1 cu st fi se th db cn F, 0)) rfl ?_
  refine mm_inv (mm_call_mono _ _) (j := 141) (a := [.ref 1, .int 2, .int (nI a)]) (M := wC ov1 un1 (nI n1) dp fa1 cu st fi se th db cn F) (u := 0) rfl (by decide) (ct_N_isZero_2 (a := a) A.1.1 ?_)
  show mm_W _ _ _ _ _ _ _ (11, [(3, .int (nI r)), (0, .ref 1), (1, .int 2), (2, .int (nI a))], [.int (bz (isz 4 ov1 a))], wC ov1 un1 (nI n1) dp fa1 cu st fi se th db cn F, 0)
  refine mm_branch (mm_call_mono _ _) (c := (bz (isz 4 ov1 a)) = 0) (s1 := (21, [(3, .int (nI r)), (0, .ref 1), (1, .int 2), (2, .int (nI a))], [], wC ov1 un1 (nI n1) dp fa1 cu st fi se th db cn F, 0)) (s2 := (14, [(3, .int (nI r)), (0, .ref 1), (1, .int 2), (2, .int (nI a))], [], wC ov1 un1 (nI n1) dp fa1 cu st fi se th db cn F, 0)) rfl (fun z1 => ?_) (fun z1 => ?_)
  · skip
    refine mm_skip (mm_call_mono _ _) 1 (st' := (22, [(3, .int (nI r)), (0, .ref 1), (1, .int 2), (2, .int (nI a))], [.int 2], wC ov1 un1 (nI n1) dp fa1 cu st fi se th db cn F, 0)) rfl ?_
    refine mm_branch (mm_call_mono _ _) (c := (0 : Int32) < 2) (s1 := (89, [(3, .int (nI r)), (0, .ref 1), (1, .int 2), (2, .int (nI a))], [], wC ov1 un1 (nI n1) dp fa1 cu st fi se th db cn F, 0)) (s2 := (25, [(3, .int (nI r)), (0, .ref 1), (1, .int 2), (2, .int (nI a))], [], wC ov1 un1 (nI n1) dp fa1 cu st fi se th db cn F, 0)) rfl (fun _ => ?_) (fun h => absurd (by decide) h)
    refine mm_skip (mm_call_mono _ _) 16 (st' := (112, [(5, .int ((nI a) + 2)), (4, .int 1), (3, .int (nI r)), (0, .ref 1), (1, .int 2), (2, .int (nI a))], [.int ((nI a) + 2), .int ((nI a) + 2), .int 1, .ref 1, .int 1, .ref 1], wC ov1 un1 (nI n1) dp fa1 cu st fi se th db cn F, 0)) rfl ?_
    rw [nI_p2 (a)]
    show mm_W _ _ _ _ _ _ _ (112, [(5, .int (nI (a + 2))), (4, .int 1), (3, .int (nI r)), (0, .ref 1), (1, .int 2), (2, .int (nI a))], [.int (nI (a + 2)), .int (nI (a + 2)), .int 1, .ref 1, .int 1, .ref 1], wC ov1 un1 (nI n1) dp fa1 cu st fi se th db cn F, 0)
    refine mm_inv (mm_call_mono _ _) (j := 145) (a := [.ref 1, .int 1, .int (nI (a + 2)), .int (nI (a + 2))]) (M := wC ov1 un1 (nI n1) dp fa1 cu st fi se th db cn F) (u := 0) rfl (by decide) (at_N_product_1 s1.2.1 s1.1 P1 (at_hi A1 2 (by omega)) (at_hi A1 2 (by omega)) (fun ov2 un2 n2 fa2 ibb h1 => ?_))
    show mm_W _ _ _ _ _ _ _ (115, [(5, .int (nI (a + 2))), (4, .int 1), (3, .int (nI r)), (0, .ref 1), (1, .int 2), (2, .int (nI a))], [.int (nI ibb), .int 1, .ref 1], wC ov2 un2 (nI n2) dp fa2 cu st fi se th db cn F, 0)
    have s2 := stg_s s1 hn.1 h1
    have F2 := seq_f s1 F1 E1 h1 (by omega)
    have E2 := seq_e E1 h1
    have A2 := at_keep A1 (op_k h1)
    have P2 := at_keep P1 (op_k h1)
    have S2 := at_keep S1 (op_k h1)
    have Z2 := at_keep Z1 (op_k h1)
    have bb2 := at_new h1
    refine mm_skip (mm_call_mono _ _) 1 (st' := (116, [(5, .int (nI (a + 2))), (4, .int 1), (3, .int (nI r)), (0, .ref 1), (1, .int 2), (2, .int (nI a))], [.int 2, .int (nI ibb), .int 1, .ref 1], wC ov2 un2 (nI n2) dp fa2 cu st fi se th db cn F, 0)) rfl ?_
    refine mm_inv (mm_call_mono _ _) (j := 120) (a := [.int 2]) (M := wC ov2 un2 (nI n2) dp fa2 cu st fi se th db cn F) (u := 0) rfl (by decide) (ct_N_radicandOf_2 ?_)
    show mm_W _ _ _ _ _ _ _ (119, [(5, .int (nI (a + 2))), (4, .int 1), (3, .int (nI r)), (0, .ref 1), (1, .int 2), (2, .int (nI a))], [.int (nI 4), .int (nI ibb), .int 1, .ref 1], wC ov2 un2 (nI n2) dp fa2 cu st fi se th db cn F, 0)
    refine mm_inv (mm_call_mono _ _) (j := 145) (a := [.ref 1, .int 1, .int (nI ibb), .int (nI 4)]) (M := wC ov2 un2 (nI n2) dp fa2 cu st fi se th db cn F) (u := 0) rfl (by decide) (at_N_product_1 s2.2.1 s2.1 P2 (at_lo bb2 (by omega)) S2 (fun ov3 un3 n3 fa3 ibbr h2 => ?_))
    show mm_W _ _ _ _ _ _ _ (122, [(5, .int (nI (a + 2))), (4, .int 1), (3, .int (nI r)), (0, .ref 1), (1, .int 2), (2, .int (nI a))], [.int (nI ibbr)], wC ov3 un3 (nI n3) dp fa3 cu st fi se th db cn F, 0)
    have s3 := stg_s s2 hn.1 h2
    have F3 := seq_f s2 F2 E2 h2 (by omega)
    have E3 := seq_e E2 h2
    have A3 := at_keep A2 (op_k h2)
    have P3 := at_keep P2 (op_k h2)
    have S3 := at_keep S2 (op_k h2)
    have Z3 := at_keep Z2 (op_k h2)
    have bb3 := at_keep bb2 (op_k h2)
    have bbr3 := at_new h2
    refine mm_skip (mm_call_mono _ _) 9 (st' := (135, [(6, .int (nI ibbr)), (5, .int (nI (a + 2))), (4, .int 1), (3, .int (nI r)), (0, .ref 1), (1, .int 2), (2, .int (nI a))], [.int (nI a), .int (nI a), .int 1, .ref 1, .int 1, .ref 1, .int 1, .ref 1], wC ov3 un3 (nI n3) dp fa3 cu st fi se th db cn F, 0)) rfl ?_
    refine mm_inv (mm_call_mono _ _) (j := 145) (a := [.ref 1, .int 1, .int (nI a), .int (nI a)]) (M := wC ov3 un3 (nI n3) dp fa3 cu st fi se th db cn F) (u := 0) rfl (by decide) (at_N_product_1 s3.2.1 s3.1 P3 (at_lo A3 (by omega)) (at_lo A3 (by omega)) (fun ov4 un4 n4 fa4 iaa h3 => ?_))
    show mm_W _ _ _ _ _ _ _ (138, [(6, .int (nI ibbr)), (5, .int (nI (a + 2))), (4, .int 1), (3, .int (nI r)), (0, .ref 1), (1, .int 2), (2, .int (nI a))], [.int (nI iaa), .int 1, .ref 1, .int 1, .ref 1], wC ov4 un4 (nI n4) dp fa4 cu st fi se th db cn F, 0)
    have s4 := stg_s s3 hn.1 h3
    have F4 := seq_f s3 F3 E3 h3 (by omega)
    have E4 := seq_e E3 h3
    have A4 := at_keep A3 (op_k h3)
    have P4 := at_keep P3 (op_k h3)
    have S4 := at_keep S3 (op_k h3)
    have Z4 := at_keep Z3 (op_k h3)
    have bbr4 := at_keep bbr3 (op_k h3)
    have aa4 := at_new h3
    refine mm_skip (mm_call_mono _ _) 3 (st' := (143, [(6, .int (nI ibbr)), (5, .int (nI (a + 2))), (4, .int 1), (3, .int (nI r)), (0, .ref 1), (1, .int 2), (2, .int (nI a))], [.int (nI ibbr), .int 1, .ref 1, .int (nI iaa), .int 1, .ref 1, .int 1, .ref 1], wC ov4 un4 (nI n4) dp fa4 cu st fi se th db cn F, 0)) rfl ?_
    refine mm_inv (mm_call_mono _ _) (j := 143) (a := [.ref 1, .int 1, .int (nI ibbr)]) (M := wC ov4 un4 (nI n4) dp fa4 cu st fi se th db cn F) (u := 0) rfl (by decide) (at_N_negative_1 s4.2.1 s4.1 (at_lo bbr4 (by omega)) (fun ov5 un5 n5 fa5 inb h4 => ?_))
    show mm_W _ _ _ _ _ _ _ (146, [(6, .int (nI ibbr)), (5, .int (nI (a + 2))), (4, .int 1), (3, .int (nI r)), (0, .ref 1), (1, .int 2), (2, .int (nI a))], [.int (nI inb), .int (nI iaa), .int 1, .ref 1, .int 1, .ref 1], wC ov5 un5 (nI n5) dp fa5 cu st fi se th db cn F, 0)
    have s5 := stg_s s4 hn.1 h4
    have F5 := seq_f s4 F4 E4 h4 (by omega)
    have E5 := seq_e E4 h4
    have A5 := at_keep A4 (op_k h4)
    have P5 := at_keep P4 (op_k h4)
    have S5 := at_keep S4 (op_k h4)
    have Z5 := at_keep Z4 (op_k h4)
    have bbr5 := at_keep bbr4 (op_k h4)
    have aa5 := at_keep aa4 (op_k h4)
    have nb5 := at_new h4
    refine mm_inv (mm_call_mono _ _) (j := 142) (a := [.ref 1, .int 1, .int (nI iaa), .int (nI inb)]) (M := wC ov5 un5 (nI n5) dp fa5 cu st fi se th db cn F) (u := 0) rfl (by decide) (at_N_sum_1 s5.2.1 s5.1 (at_lo aa5 (by omega)) (at_lo nb5 (by omega)) (fun ov6 un6 n6 fa6 inn h5 => ?_))
    show mm_W _ _ _ _ _ _ _ (149, [(6, .int (nI ibbr)), (5, .int (nI (a + 2))), (4, .int 1), (3, .int (nI r)), (0, .ref 1), (1, .int 2), (2, .int (nI a))], [.int (nI inn), .int 1, .ref 1], wC ov6 un6 (nI n6) dp fa6 cu st fi se th db cn F, 0)
    have s6 := stg_s s5 hn.1 h5
    have F6 := seq_f s5 F5 E5 h5 (by omega)
    have E6 := seq_e E5 h5
    have A6 := at_keep A5 (op_k h5)
    have P6 := at_keep P5 (op_k h5)
    have S6 := at_keep S5 (op_k h5)
    have Z6 := at_keep Z5 (op_k h5)
    have aa6 := at_keep aa5 (op_k h5)
    have nb6 := at_keep nb5 (op_k h5)
    have nn6 := at_new h5
    refine mm_inv (mm_call_mono _ _) (j := 146) (a := [.ref 1, .int 1, .int (nI inn)]) (M := wC ov6 un6 (nI n6) dp fa6 cu st fi se th db cn F) (u := 0) rfl (by decide) (at_N_inverse_1 s6.2.1 s6.1 P6 (at_lo nn6 (by omega)) (fun ov7 un7 n7 fa7 imm h6 => ?_))
    show mm_W _ _ _ _ _ _ _ (152, [(6, .int (nI ibbr)), (5, .int (nI (a + 2))), (4, .int 1), (3, .int (nI r)), (0, .ref 1), (1, .int 2), (2, .int (nI a))], [.int (nI imm)], wC ov7 un7 (nI n7) dp fa7 cu st fi se th db cn F, 0)
    have s7 := stg_s s6 hn.1 h6
    have F7 := seq_f s6 F6 E6 h6 (by omega)
    have E7 := seq_e E6 h6
    have A7 := at_keep A6 (op_k h6)
    have P7 := at_keep P6 (op_k h6)
    have S7 := at_keep S6 (op_k h6)
    have Z7 := at_keep Z6 (op_k h6)
    have nn7 := at_keep nn6 (op_k h6)
    have mm7 := at_new h6
    refine mm_skip (mm_call_mono _ _) 8 (st' := (164, [(7, .int (nI imm)), (6, .int (nI ibbr)), (5, .int (nI (a + 2))), (4, .int 1), (3, .int (nI r)), (0, .ref 1), (1, .int 2), (2, .int (nI a))], [.int (nI imm), .int (nI a), .int 1, .ref 1, .int (nI r), .int 1, .ref 1], wC ov7 un7 (nI n7) dp fa7 cu st fi se th db cn F, 0)) rfl ?_
    refine mm_inv (mm_call_mono _ _) (j := 145) (a := [.ref 1, .int 1, .int (nI a), .int (nI imm)]) (M := wC ov7 un7 (nI n7) dp fa7 cu st fi se th db cn F) (u := 0) rfl (by decide) (at_N_product_1 s7.2.1 s7.1 P7 (at_lo A7 (by omega)) (at_lo mm7 (by omega)) (fun ov8 un8 n8 fa8 iam h7 => ?_))
    show mm_W _ _ _ _ _ _ _ (167, [(7, .int (nI imm)), (6, .int (nI ibbr)), (5, .int (nI (a + 2))), (4, .int 1), (3, .int (nI r)), (0, .ref 1), (1, .int 2), (2, .int (nI a))], [.int (nI iam), .int (nI r), .int 1, .ref 1], wC ov8 un8 (nI n8) dp fa8 cu st fi se th db cn F, 0)
    have s8 := stg_s s7 hn.1 h7
    have F8 := seq_f s7 F7 E7 h7 (by omega)
    have E8 := seq_e E7 h7
    have A8 := at_keep A7 (op_k h7)
    have P8 := at_keep P7 (op_k h7)
    have S8 := at_keep S7 (op_k h7)
    have Z8 := at_keep Z7 (op_k h7)
    have mm8 := at_keep mm7 (op_k h7)
    have am8 := at_new h7
    refine mm_skip (mm_call_mono _ _) 5 (st' := (175, [(7, .int (nI imm)), (6, .int (nI ibbr)), (5, .int (nI (a + 2))), (4, .int 1), (3, .int (nI r)), (0, .ref 1), (1, .int 2), (2, .int (nI a))], [.int (nI (a + 2)), .int 1, .ref 1, .int 1, .ref 1, .int (nI iam), .int (nI r), .int 1, .ref 1], wC ov8 un8 (nI n8) dp fa8 cu st fi se th db cn F, 0)) rfl ?_
    refine mm_inv (mm_call_mono _ _) (j := 143) (a := [.ref 1, .int 1, .int (nI (a + 2))]) (M := wC ov8 un8 (nI n8) dp fa8 cu st fi se th db cn F) (u := 0) rfl (by decide) (at_N_negative_1 s8.2.1 s8.1 (at_hi A8 2 (by omega)) (fun ov9 un9 n9 fa9 inc h8 => ?_))
    show mm_W _ _ _ _ _ _ _ (178, [(7, .int (nI imm)), (6, .int (nI ibbr)), (5, .int (nI (a + 2))), (4, .int 1), (3, .int (nI r)), (0, .ref 1), (1, .int 2), (2, .int (nI a))], [.int (nI inc), .int 1, .ref 1, .int (nI iam), .int (nI r), .int 1, .ref 1], wC ov9 un9 (nI n9) dp fa9 cu st fi se th db cn F, 0)
    have s9 := stg_s s8 hn.1 h8
    have F9 := seq_f s8 F8 E8 h8 (by omega)
    have E9 := seq_e E8 h8
    have A9 := at_keep A8 (op_k h8)
    have P9 := at_keep P8 (op_k h8)
    have S9 := at_keep S8 (op_k h8)
    have Z9 := at_keep Z8 (op_k h8)
    have mm9 := at_keep mm8 (op_k h8)
    have am9 := at_keep am8 (op_k h8)
    have nc9 := at_new h8
    refine mm_skip (mm_call_mono _ _) 1 (st' := (180, [(7, .int (nI imm)), (6, .int (nI ibbr)), (5, .int (nI (a + 2))), (4, .int 1), (3, .int (nI r)), (0, .ref 1), (1, .int 2), (2, .int (nI a))], [.int (nI imm), .int (nI inc), .int 1, .ref 1, .int (nI iam), .int (nI r), .int 1, .ref 1], wC ov9 un9 (nI n9) dp fa9 cu st fi se th db cn F, 0)) rfl ?_
    refine mm_inv (mm_call_mono _ _) (j := 145) (a := [.ref 1, .int 1, .int (nI inc), .int (nI imm)]) (M := wC ov9 un9 (nI n9) dp fa9 cu st fi se th db cn F) (u := 0) rfl (by decide) (at_N_product_1 s9.2.1 s9.1 P9 (at_lo nc9 (by omega)) (at_lo mm9 (by omega)) (fun ov10 un10 n10 fa10 ibm h9 => ?_))
    show mm_W _ _ _ _ _ _ _ (183, [(7, .int (nI imm)), (6, .int (nI ibbr)), (5, .int (nI (a + 2))), (4, .int 1), (3, .int (nI r)), (0, .ref 1), (1, .int 2), (2, .int (nI a))], [.int (nI ibm), .int (nI iam), .int (nI r), .int 1, .ref 1], wC ov10 un10 (nI n10) dp fa10 cu st fi se th db cn F, 0)
    have s10 := stg_s s9 hn.1 h9
    have F10 := seq_f s9 F9 E9 h9 (by omega)
    have E10 := seq_e E9 h9
    have A10 := at_keep A9 (op_k h9)
    have P10 := at_keep P9 (op_k h9)
    have S10 := at_keep S9 (op_k h9)
    have Z10 := at_keep Z9 (op_k h9)
    have mm10 := at_keep mm9 (op_k h9)
    have am10 := at_keep am9 (op_k h9)
    have nc10 := at_keep nc9 (op_k h9)
    have bm10 := at_new h9
    refine mm_inv (mm_call_mono _ _) (j := 140) (a := [.ref 1, .int 1, .int (nI r), .int (nI iam), .int (nI ibm)]) (M := wC ov10 un10 (nI n10) dp fa10 cu st fi se th db cn F) (u := 0) rfl (by decide) (ct_N_pair_1 (r := r) (a := iam) (b := ibm) (by omega) (by have := h7.1; omega) (by have := h9.1; omega) ?_)
    show mm_W _ _ _ _ _ _ _ (186, [(7, .int (nI imm)), (6, .int (nI ibbr)), (5, .int (nI (a + 2))), (4, .int 1), (3, .int (nI r)), (0, .ref 1), (1, .int 2), (2, .int (nI a))], [.int (nI r)], wC (prow ov10 2 r iam ibm) (prow un10 2 r iam ibm) (nI (r + 4)) dp fa10 cu st fi se th db cn F, 0)
    exact mm_ret (mm_call_mono _ _) (c := True) (r := .inl (some (.int (nI r)))) (M := wC (prow ov10 2 r iam ibm) (prow un10 2 r iam ibm) (nI (r + 4)) dp fa10 cu st fi se th db cn F) (u := 0) rfl trivial (by decide) (hQ _ _ _ _ _ (pair_fin (C := 68) (by omega) ⟨hr.1, hr.2.1⟩ (fun q0 => by have e9 := op_rn h9 q0; have e8 := op_rn h8 e9.2; have e7 := op_rn h7 e8.2; have e6 := op_rn h6 e7.2; have e5 := op_rn h5 e6.2; have e4 := op_rn h4 e5.2; have e3 := op_rn h3 e4.2; have e2 := op_rn h2 e3.2; have e1 := op_rn h1 e2.2; have e0 := res_n h0 e1.2; exact e0) s10 Z10 am10 bm10 (fun q0 => by have e9 := op_rn h9 q0; have e8 := op_rn h8 e9.2; have e7 := op_rn h7 e8.2; have e6 := op_rn h6 e7.2; have e5 := op_rn h5 e6.2; have e4 := op_rn h4 e5.2; have e3 := op_rn h3 e4.2; have e2 := op_rn h2 e3.2; have e1 := op_rn h1 e2.2; have e0 := res_n h0 e1.2; have t7 := (s7.2.2.2.2 e7.2).2.1; have t9 := (s9.2.2.2.2 e9.2).2.1; omega) E10 F10))
  · skip
    refine mm_skip (mm_call_mono _ _) 2 (st' := (16, [(3, .int (nI r)), (0, .ref 1), (1, .int 2), (2, .int (nI a))], [.int 1, .ref 1], wC ov1 un1 (nI n1) dp fa1 cu st fi se th db cn F, 0)) rfl ?_
    refine mm_need (mm_call_mono _ _) (c := mm_z 1) (s' := (19, [(3, .int (nI r)), (0, .ref 1), (1, .int 2), (2, .int (nI a))], [], wC ov1 un1 (nI n1) dp 1 cu st fi se th db cn F, 0)) rfl (by unfold mm_z; decide) ?_
    refine mm_skip (mm_call_mono _ _) 1 (st' := (20, [(3, .int (nI r)), (0, .ref 1), (1, .int 2), (2, .int (nI a))], [.int (nI r)], wC ov1 un1 (nI n1) dp 1 cu st fi se th db cn F, 0)) rfl ?_
    exact mm_ret (mm_call_mono _ _) (c := True) (r := .inl (some (.int (nI r)))) (M := wC ov1 un1 (nI n1) dp 1 cu st fi se th db cn F) (u := 0) rfl trivial (by decide) (hQ _ _ _ _ _ (op_fail hfa hn.1 h0 (by omega) (fun q0 => ninvS_z (h := 2) (by omega) (zM_S (h := 1) (by omega) zM_0 (at_v P1 q0)) (ninv1_z (at_v P1 q0)) (at_v S1 q0) (at_v A1 q0) (rd0 A1 (bz_1 z1) q0))))

