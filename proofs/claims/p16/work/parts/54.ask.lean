/-- outcome of a question -/
def toQ (r : oc) : mm_R := match r.1 with
  | 0 => .inl (some (.int r.2))
  | 1 => .inr "java/lang/IllegalArgumentException"
  | _ => .inr "java/lang/UnsupportedOperationException"
def toI (r : oc) : mm_R := match r.1 with
  | 0 => .inl (some (.int r.2))
  | _ => .inr "java/lang/IndexOutOfBoundsException"
def oB (T : Option Bool) : oc := match T with
  | none => (2, 0)
  | some b => (0, bz (b = true))
def oI (T : Option Int) : oc := match T with
  | none => (2, 0)
  | some s => (0, Int32.ofInt s)
noncomputable def gv (S : Nat → stp) (k : Nat) : (Nat → o3) × lvR := (dr S k).getD (fun _ => (zz, zz, zz), (0, zz, zz))
theorem gv_s {S : Nat → stp} {k : Nat} {p : (Nat → o3) × lvR} (h : dr S k = some p) : gv S k = p := by unfold gv; rw [h]; rfl
theorem cI_k {S : Nat → stp} {k : Nat} {ov un ov1 un1 st fi se th db : Nat → Int32} {dp cn : Int32} (h : cI S k ov un dp st fi se th db cn) (e : ∀ j, j < 308 → ov1 j = ov j ∧ un1 j = un j) : cI S k ov1 un1 dp st fi se th db cn := by
  obtain ⟨a1, a2, a3, a4, a5, v, L, a6, a7, a8, a9, a10⟩ := h
  exact ⟨a1, a2, a3, a4, a5, v, L, a6, a7, rdA_k a7 a8 (fun j hj => e j (by omega)), fun i hi => hold_k (a9 i hi) (fun j h1 h2 => e j (by omega)), a10⟩
def tLies (L : lvR) (a b c x y : n4) : Option Bool := (xmul L a x).bind fun t => (xmul L b y).bind fun u => (xadd L.1 t u).bind fun d => some (decide (d = c))
def tOn (s : stp) (v : Nat → o3) (L : lvR) (i j : Nat) : Option Bool := if s.1 = 1 then tLies L (v j).1 (v j).2.1 (v j).2.2 (v i).1 (v i).2.1 else (xdist L (v s.2.1).1 (v s.2.1).2.1 (v i).1 (v i).2.1).bind fun d => some (decide (d = (v j).1))
noncomputable def qOn (S : Nat → stp) (k : Nat) (x y : Int32) : oc := if ckd S k x = 0 ∧ (ckd S k y = 1 ∨ ckd S k y = 2) then oB (tOn (S (cl y)) (gv S k).1 (gv S k).2 (cl x) (cl y)) else (1, 0)
noncomputable def qSame (S : Nat → stp) (k : Nat) (x y : Int32) : oc := if ckd S k x = 0 ∧ ckd S k y = 0 then (0, bz (((gv S k).1 (cl x)).1 = ((gv S k).1 (cl y)).1 ∧ ((gv S k).1 (cl x)).2.1 = ((gv S k).1 (cl y)).2.1)) else (1, 0)
def tEq (v : Nat → o3) (L : lvR) (i j l m : Nat) : Option Bool := (xdist L (v i).1 (v i).2.1 (v j).1 (v j).2.1).bind fun a => (xdist L (v l).1 (v l).2.1 (v m).1 (v m).2.1).bind fun b => some (decide (a = b))
noncomputable def qEq (S : Nat → stp) (k : Nat) (x y z w : Int32) : oc := if ckd S k x = 0 ∧ ckd S k y = 0 ∧ ckd S k z = 0 ∧ ckd S k w = 0 then oB (tEq (gv S k).1 (gv S k).2 (cl x) (cl y) (cl z) (cl w)) else (1, 0)
def tSide (v : Nat → o3) (L : lvR) (i j l : Nat) : Option Int := (xsub L.1 (v j).1 (v i).1).bind fun a => (xsub L.1 (v l).2.1 (v i).2.1).bind fun b => (xmul L a b).bind fun ab => (xsub L.1 (v j).2.1 (v i).2.1).bind fun c => (xsub L.1 (v l).1 (v i).1).bind fun e => (xmul L c e).bind fun ce => (xsub L.1 ab ce).bind fun s => (xsg L s).bind fun r => some r
noncomputable def qSide (S : Nat → stp) (k : Nat) (x y z : Int32) : oc := if ckd S k x = 0 ∧ ckd S k y = 0 ∧ ckd S k z = 0 then oI (tSide (gv S k).1 (gv S k).2 (cl x) (cl y) (cl z)) else (1, 0)
def tSign (L : lvR) (x : n4) (n : Int) : Option Int := ((fmk n 1).map em).bind fun e => (xsub L.1 x e).bind fun s => (xsg L s).bind fun r => some r
noncomputable def qSign (S : Nat → stp) (k : Nat) (x y n : Int32) : oc := if ckd S k x = 0 ∧ ¬ n < -1000000 ∧ n ≤ 1000000 then oI (tSign (gv S k).2 (if y = 0 then ((gv S k).1 (cl x)).1 else ((gv S k).1 (cl x)).2.1) n.toInt) else (1, 0)
/-- a part of a number -/
def prt (x : n4) (i : Nat) (q : Int32) : Int32 := Int32.ofInt (if q = 0 then (g4 x i).1 else (g4 x i).2)
noncomputable def qPart (S : Nat → stp) (k : Nat) (x y i q : Int32) : oc := if ckd S k x = 0 ∧ ¬ i < 0 ∧ i < 4 then (0, prt (if y = 0 then ((gv S k).1 (cl x)).1 else ((gv S k).1 (cl x)).2.1) (cl i) q) else (1, 0)
noncomputable def qRad (S : Nat → stp) (k : Nat) (x i q : Int32) : oc := if ¬ x < 1 ∧ x ≤ nI (gv S k).2.1 ∧ ¬ i < 0 ∧ i < 4 then (0, prt (if x = 1 then (gv S k).2.2.1 else (gv S k).2.2.2) (cl i) q) else (1, 0)
def nfr (S : Nat → stp) : Nat → Nat
  | 0 => 0
  | k + 1 => nfr S k + (if (S k).1 = 0 then 1 else 0)
noncomputable def qLook (S : Nat → stp) (k : Nat) (x : Int32) : Int32 := if x = 0 then nI k else if x = 1 then nI (gv S k).2.1 else if x = 2 then nI (nfr S k) else -1
theorem r4_2 {ov un : Nat → Int32} {a : Nat} {n : Nat} {fa : Int32} {V : n4} (h : isAt ov un n fa 4 a (g4 V)) (h0 : fa = 0) : r4 ov un a = V := r4_at h h0
theorem alk_v {ov un : Nat → Int32} {n a b : Nat} {fa : Int32} {V W : n4} (h : isAt ov un n fa 4 a (g4 V)) (h2 : isAt ov un n fa 4 b (g4 W)) (h0 : fa = 0) : bz (alk ov un a b) = bz (decide (V = W) = true) := bz_congr (alk_r4.trans (by rw [r4_at h h0, r4_at h2 h0, decide_eq_true_iff]))
theorem prt_v {ov un : Nat → Int32} {a i : Nat} {v : n4} (h : kp ov un a v) (hi : i < 4) (q : Int32) : (if q = 0 then ov (a + i) else un (a + i)) = prt v i q := by
  have e : rf ov un (a + i) = g4 v i := by rw [← g4_r4 hi, h.2]
  unfold prt
  rw [← e]
  by_cases hq : q = 0
  · rw [if_pos hq, if_pos hq]
    exact (Int32.ofInt_toInt _).symm
  · rw [if_neg hq, if_neg hq]
    exact (Int32.ofInt_toInt _).symm
/-- behind a question that is answered by yes or no -/
def bR (ov un : Nat → Int32) (n : Nat) (fa : Int32) (w C : Nat) (T : Option Bool) (ov1 un1 : Nat → Int32) (n1 : Nat) (fa1 b : Int32) : Prop :=
  stl ov un n fa w ov1 un1 n1 fa1 ∧ mm_z b ∧ (fa1 = 0 → oB T = (0, b)) ∧ (fa1 = 1 → fa = 0 → n + C ≤ 1332 → T = none)
theorem in4 {x : Int32} (h1 : ¬ x < 0) (h2 : x < 4) : ∃ j, j < 4 ∧ x = nI j := in_of (k := 4) (by omega) h1 h2
theorem rad_of {x : Int32} {l : Nat} (hl : l ≤ 2) (h1 : ¬ x < 1) (h2 : ¬ nI l < x) : (x = 1 ∧ 1 ≤ l) ∨ (x = 2 ∧ l = 2) := by
  rcases pk_ix x (show 3 < 2 ^ 31 by omega) with h | h | ⟨j, hj, rfl⟩
  · exact absurd (Int32.lt_trans h (by decide)) h1
  · exact absurd (Int32.lt_of_lt_of_le (nI_lt (show l < 3 by omega) (by omega)) h) h2
  · have a : j ≤ l := Nat.le_of_not_lt (fun q => h2 (nI_lt q (by omega)))
    rcases (show j = 0 ∨ j = 1 ∨ j = 2 by omega) with rfl | rfl | rfl
    · exact absurd (by decide) h1
    · exact Or.inl ⟨rfl, a⟩
    · exact Or.inr ⟨rfl, by omega⟩
set_option maxRecDepth 100000 in
theorem gd_refuse {d : Nat} {ov un : Nat → Int32} {nx dp fa : Int32} {cu : mm_cu} {st fi se th db : Nat → Int32} {cn : Int32} {F : mm_M} {Q : mm_R → mm_M → Prop} (h1 : ¬ fa = 0 → Q (.inr "java/lang/UnsupportedOperationException") (wC ov un nx dp fa cu st fi se th db cn F)) (h0 : fa = 0 → Q (.inl none) (wC ov un nx dp fa cu st fi se th db cn F)) : mm_call mm_Tb (d + 1) 26 [.ref 0] (wC ov un nx dp fa cu st fi se th db cn F) Q := by
  refine mm_in mt_26 (Nat.le_of_ble_eq_true rfl) ?_
  show mm_W _ _ _ _ _ _ _ (0, [(0, .ref 0)], [], wC ov un nx dp fa cu st fi se th db cn F, 0)
  refine mm_skip (mm_call_mono _ _) 3 (st' := (7, [(0, .ref 0)], [.int fa], wC ov un nx dp fa cu st fi se th db cn F, 0)) rfl ?_
  refine mm_branch (mm_call_mono _ _) (c := fa = 0) (s1 := (20, [(0, .ref 0)], [], wC ov un nx dp fa cu st fi se th db cn F, 0)) (s2 := (10, [(0, .ref 0)], [], wC ov un nx dp fa cu st fi se th db cn F, 0)) rfl (fun z => ?_) (fun z => ?_)
  · skip
    exact mm_ret (mm_call_mono _ _) (c := True) (r := .inl none) (M := wC ov un nx dp fa cu st fi se th db cn F) (u := 0) rfl trivial (by decide) (h0 z)
  · skip
    exact mm_ret (mm_call_mono _ _) (c := True) (r := .inr "java/lang/UnsupportedOperationException") (M := wC ov un nx dp fa cu st fi se th db cn F) (u := 1) rfl trivial (by decide) (h1 z)

set_option maxRecDepth 100000 in
theorem gd_read {d : Nat} {ov un : Nat → Int32} {nx dp fa : Int32} {cu : mm_cu} {st fi se th db : Nat → Int32} {cn : Int32} {F : mm_M} {a : Nat} {q : Int32} {Q : mm_R → mm_M → Prop} (ha : a < 1332) (hQ : Q (.inl (some (.int (if q = 0 then ov a else un a)))) (wC ov un nx dp fa cu st fi se th db cn F)) : mm_call mm_Tb (d + 1) 123 [.ref 1, .int (nI a), .int q] (wC ov un nx dp fa cu st fi se th db cn F) Q := by
  refine mm_in mt_123 (Nat.le_of_ble_eq_true rfl) ?_
  show mm_W _ _ _ _ _ _ _ (0, [(0, .ref 1), (1, .int (nI a)), (2, .int q)], [], wC ov un nx dp fa cu st fi se th db cn F, 0)
  refine mm_skip (mm_call_mono _ _) 1 (st' := (1, [(0, .ref 1), (1, .int (nI a)), (2, .int q)], [.int q], wC ov un nx dp fa cu st fi se th db cn F, 0)) rfl ?_
  refine mm_branch (mm_call_mono _ _) (c := q = 0) (s1 := (13, [(0, .ref 1), (1, .int (nI a)), (2, .int q)], [], wC ov un nx dp fa cu st fi se th db cn F, 0)) (s2 := (4, [(0, .ref 1), (1, .int (nI a)), (2, .int q)], [], wC ov un nx dp fa cu st fi se th db cn F, 0)) rfl (fun z => ?_) (fun z => ?_)
  · skip
    refine mm_skip (mm_call_mono _ _) 3 (st' := (18, [(0, .ref 1), (1, .int (nI a)), (2, .int q)], [.int (nI a), .ref 8], wC ov un nx dp fa cu st fi se th db cn F, 0)) rfl ?_
    refine mm_need (mm_call_mono _ _) (c := vp_in (nI a) 1332) (s' := (19, [(0, .ref 1), (1, .int (nI a)), (2, .int q)], [.int (ov (Int32.toNatClampNeg (nI a)))], wC ov un nx dp fa cu st fi se th db cn F, 0)) rfl (vp_in_nI (show a < 1332 by omega) (by decide)) ?_
    rw [nI_clamp (show a < 2 ^ 31 by omega)]
    show mm_W _ _ _ _ _ _ _ (19, [(0, .ref 1), (1, .int (nI a)), (2, .int q)], [.int (ov a)], wC ov un nx dp fa cu st fi se th db cn F, 0)
    exact mm_ret (mm_call_mono _ _) (c := True) (r := .inl (some (.int (ov a)))) (M := wC ov un nx dp fa cu st fi se th db cn F) (u := 0) rfl trivial (by decide) (by rw [if_pos z] at hQ; exact hQ)
  · skip
    refine mm_skip (mm_call_mono _ _) 3 (st' := (9, [(0, .ref 1), (1, .int (nI a)), (2, .int q)], [.int (nI a), .ref 9], wC ov un nx dp fa cu st fi se th db cn F, 0)) rfl ?_
    refine mm_need (mm_call_mono _ _) (c := vp_in (nI a) 1332) (s' := (10, [(0, .ref 1), (1, .int (nI a)), (2, .int q)], [.int (un (Int32.toNatClampNeg (nI a)))], wC ov un nx dp fa cu st fi se th db cn F, 0)) rfl (vp_in_nI (show a < 1332 by omega) (by decide)) ?_
    rw [nI_clamp (show a < 2 ^ 31 by omega)]
    show mm_W _ _ _ _ _ _ _ (10, [(0, .ref 1), (1, .int (nI a)), (2, .int q)], [.int (un a)], wC ov un nx dp fa cu st fi se th db cn F, 0)
    refine mm_skip (mm_call_mono _ _) 1 (st' := (19, [(0, .ref 1), (1, .int (nI a)), (2, .int q)], [.int (un a)], wC ov un nx dp fa cu st fi se th db cn F, 0)) rfl ?_
    exact mm_ret (mm_call_mono _ _) (c := True) (r := .inl (some (.int (un a)))) (M := wC ov un nx dp fa cu st fi se th db cn F) (u := 0) rfl trivial (by decide) (by rw [if_neg z] at hQ; exact hQ)

set_option maxRecDepth 100000 in
theorem gd_lies {d : Nat} {ov un : Nat → Int32} {fa : Int32} {cu : mm_cu} {st fi se th db : Nat → Int32} {cn : Int32} {F : mm_M} {n i j : Nat} {a b c x y : n4} {L : lvR} {Q : mm_R → mm_M → Prop} (hl : L.1 ≤ 2) (hfa : mm_z fa) (hn : 308 ≤ n ∧ n ≤ 1332) (R : rdA ov un n fa L) (A : isAt ov un n fa 4 (8 + 12 * j) (g4 a)) (B : isAt ov un n fa 4 (12 + 12 * j) (g4 b)) (C : isAt ov un n fa 4 (16 + 12 * j) (g4 c)) (D : isAt ov un n fa 4 (8 + 12 * i) (g4 x)) (G : isAt ov un n fa 4 (12 + 12 * i) (g4 y)) (hQ : ∀ (ov1 un1 : Nat → Int32) (n1 : Nat) (fa1 rb : Int32), bR ov un n fa 12 80 (tLies L a b c x y) ov1 un1 n1 fa1 rb → Q (.inl (some (.int rb))) (wC ov1 un1 (nI n1) (nI L.1) fa1 cu st fi se th db cn F)) : mm_call mm_Tb (d + 7) 36 [.ref 0, .int (nI i), .int (nI j)] (wC ov un (nI n) (nI L.1) fa cu st fi se th db cn F) Q := by
  have s0 := stl_0 (ov := ov) (un := un) hfa hn
  have E0 : fa = 0 → tLies L a b c x y = Option.bind (xmul L a x) _ := fun _ => rfl
  have F0 : fa = 1 → fa = 0 → n + 80 ≤ 1332 → tLies L a b c x y = none := f_0
  refine mm_in mt_36 (Nat.le_of_ble_eq_true rfl) ?_
  show mm_W _ _ _ _ _ _ _ (0, [(0, .ref 0), (1, .int (nI i)), (2, .int (nI j))], [], wC ov un (nI n) (nI L.1) fa cu st fi se th db cn F, 0)
  refine mm_skip (mm_call_mono _ _) 5 (st' := (9, [(0, .ref 0), (1, .int (nI i)), (2, .int (nI j))], [.int (nI j), .ref 1, .ref 1], wC ov un (nI n) (nI L.1) fa cu st fi se th db cn F, 0)) rfl ?_
  refine mm_inv (mm_call_mono _ _) (j := 43) (a := [.int (nI j)]) (M := wC ov un (nI n) (nI L.1) fa cu st fi se th db cn F) (u := 0) rfl (by decide) (ct_C_lineA ?_)
  show mm_W _ _ _ _ _ _ _ (12, [(0, .ref 0), (1, .int (nI i)), (2, .int (nI j))], [.int (nI (8 + 12 * j)), .ref 1, .ref 1], wC ov un (nI n) (nI L.1) fa cu st fi se th db cn F, 0)
  refine mm_skip (mm_call_mono _ _) 1 (st' := (13, [(0, .ref 0), (1, .int (nI i)), (2, .int (nI j))], [.int (nI i), .int (nI (8 + 12 * j)), .ref 1, .ref 1], wC ov un (nI n) (nI L.1) fa cu st fi se th db cn F, 0)) rfl ?_
  refine mm_inv (mm_call_mono _ _) (j := 41) (a := [.int (nI i)]) (M := wC ov un (nI n) (nI L.1) fa cu st fi se th db cn F) (u := 0) rfl (by decide) (ct_C_xOf ?_)
  show mm_W _ _ _ _ _ _ _ (16, [(0, .ref 0), (1, .int (nI i)), (2, .int (nI j))], [.int (nI (8 + 12 * i)), .int (nI (8 + 12 * j)), .ref 1, .ref 1], wC ov un (nI n) (nI L.1) fa cu st fi se th db cn F, 0)
  refine mm_inv (mm_call_mono _ _) (j := 131) (a := [.ref 1, .int (nI (8 + 12 * j)), .int (nI (8 + 12 * i))]) (M := wC ov un (nI n) (nI L.1) fa cu st fi se th db cn F) (u := 0) rfl (by decide) (gw_times hl s0.2.1 s0.1 R A D (fun ov1 un1 n1 fa1 y1 h1 => ?_))
  show mm_W _ _ _ _ _ _ _ (19, [(0, .ref 0), (1, .int (nI i)), (2, .int (nI j))], [.int (nI y1), .ref 1], wC ov1 un1 (nI n1) (nI L.1) fa1 cu st fi se th db cn F, 0)
  have s1 := stl_L s0 h1
  have F1 := sqL_f s0 F0 E0 h1 (by omega)
  have E1 := sqL_e E0 h1
  have g1 := h1.1.1
  have A_1 := at_keep A (opL_k h1)
  have B_1 := at_keep B (opL_k h1)
  have C_1 := at_keep C (opL_k h1)
  have D_1 := at_keep D (opL_k h1)
  have G_1 := at_keep G (opL_k h1)
  have R_1 := rd_keep R (opL_k h1)
  have W1_1 := at_newL h1
  refine mm_skip (mm_call_mono _ _) 3 (st' := (24, [(0, .ref 0), (1, .int (nI i)), (2, .int (nI j))], [.int (nI j), .ref 1, .int (nI y1), .ref 1], wC ov1 un1 (nI n1) (nI L.1) fa1 cu st fi se th db cn F, 0)) rfl ?_
  refine mm_inv (mm_call_mono _ _) (j := 44) (a := [.int (nI j)]) (M := wC ov1 un1 (nI n1) (nI L.1) fa1 cu st fi se th db cn F) (u := 0) rfl (by decide) (ct_C_lineB ?_)
  show mm_W _ _ _ _ _ _ _ (27, [(0, .ref 0), (1, .int (nI i)), (2, .int (nI j))], [.int (nI (12 + 12 * j)), .ref 1, .int (nI y1), .ref 1], wC ov1 un1 (nI n1) (nI L.1) fa1 cu st fi se th db cn F, 0)
  refine mm_skip (mm_call_mono _ _) 1 (st' := (28, [(0, .ref 0), (1, .int (nI i)), (2, .int (nI j))], [.int (nI i), .int (nI (12 + 12 * j)), .ref 1, .int (nI y1), .ref 1], wC ov1 un1 (nI n1) (nI L.1) fa1 cu st fi se th db cn F, 0)) rfl ?_
  refine mm_inv (mm_call_mono _ _) (j := 42) (a := [.int (nI i)]) (M := wC ov1 un1 (nI n1) (nI L.1) fa1 cu st fi se th db cn F) (u := 0) rfl (by decide) (ct_C_yOf ?_)
  show mm_W _ _ _ _ _ _ _ (31, [(0, .ref 0), (1, .int (nI i)), (2, .int (nI j))], [.int (nI (12 + 12 * i)), .int (nI (12 + 12 * j)), .ref 1, .int (nI y1), .ref 1], wC ov1 un1 (nI n1) (nI L.1) fa1 cu st fi se th db cn F, 0)
  refine mm_inv (mm_call_mono _ _) (j := 131) (a := [.ref 1, .int (nI (12 + 12 * j)), .int (nI (12 + 12 * i))]) (M := wC ov1 un1 (nI n1) (nI L.1) fa1 cu st fi se th db cn F) (u := 0) rfl (by decide) (gw_times hl s1.2.1 s1.1 R_1 B_1 G_1 (fun ov2 un2 n2 fa2 y2 h2 => ?_))
  show mm_W _ _ _ _ _ _ _ (34, [(0, .ref 0), (1, .int (nI i)), (2, .int (nI j))], [.int (nI y2), .int (nI y1), .ref 1], wC ov2 un2 (nI n2) (nI L.1) fa2 cu st fi se th db cn F, 0)
  have s2 := stl_L s1 h2
  have F2 := sqL_f s1 F1 E1 h2 (by omega)
  have E2 := sqL_e E1 h2
  have g2 := h2.1.1
  have A_2 := at_keep A_1 (opL_k h2)
  have B_2 := at_keep B_1 (opL_k h2)
  have C_2 := at_keep C_1 (opL_k h2)
  have D_2 := at_keep D_1 (opL_k h2)
  have G_2 := at_keep G_1 (opL_k h2)
  have W1_2 := at_keep W1_1 (opL_k h2)
  have R_2 := rd_keep R_1 (opL_k h2)
  have W2_2 := at_newL h2
  refine mm_inv (mm_call_mono _ _) (j := 129) (a := [.ref 1, .int (nI y1), .int (nI y2)]) (M := wC ov2 un2 (nI n2) (nI L.1) fa2 cu st fi se th db cn F) (u := 0) rfl (by decide) (gw_plus hl s2.2.1 s2.1 W1_2 W2_2 (fun ov3 un3 n3 fa3 y3 h3 => ?_))
  show mm_W _ _ _ _ _ _ _ (37, [(0, .ref 0), (1, .int (nI i)), (2, .int (nI j))], [.int (nI y3)], wC ov3 un3 (nI n3) (nI L.1) fa3 cu st fi se th db cn F, 0)
  have s3 := stl_L s2 h3
  have F3 := sqL_f s2 F2 E2 h3 (by omega)
  have E3 := sqL_e E2 h3
  have g3 := h3.1.1
  have A_3 := at_keep A_2 (opL_k h3)
  have B_3 := at_keep B_2 (opL_k h3)
  have C_3 := at_keep C_2 (opL_k h3)
  have D_3 := at_keep D_2 (opL_k h3)
  have G_3 := at_keep G_2 (opL_k h3)
  have W1_3 := at_keep W1_2 (opL_k h3)
  have W2_3 := at_keep W2_2 (opL_k h3)
  have R_3 := rd_keep R_2 (opL_k h3)
  have W3_3 := at_newL h3
  refine mm_skip (mm_call_mono _ _) 5 (st' := (44, [(3, .int (nI y3)), (0, .ref 0), (1, .int (nI i)), (2, .int (nI j))], [.int (nI j), .int (nI y3), .ref 1], wC ov3 un3 (nI n3) (nI L.1) fa3 cu st fi se th db cn F, 0)) rfl ?_
  refine mm_inv (mm_call_mono _ _) (j := 45) (a := [.int (nI j)]) (M := wC ov3 un3 (nI n3) (nI L.1) fa3 cu st fi se th db cn F) (u := 0) rfl (by decide) (ct_C_lineC ?_)
  show mm_W _ _ _ _ _ _ _ (47, [(3, .int (nI y3)), (0, .ref 0), (1, .int (nI i)), (2, .int (nI j))], [.int (nI (16 + 12 * j)), .int (nI y3), .ref 1], wC ov3 un3 (nI n3) (nI L.1) fa3 cu st fi se th db cn F, 0)
  refine mm_inv (mm_call_mono _ _) (j := 125) (a := [.ref 1, .int (nI y3), .int (nI (16 + 12 * j))]) (M := wC ov3 un3 (nI n3) (nI L.1) fa3 cu st fi se th db cn F) (u := 0) rfl (by decide) (ct_N_alike (x := y3) (y := 16 + 12 * j) W3_3.1.1 C_3.1.1 ?_)
  show mm_W _ _ _ _ _ _ _ (50, [(3, .int (nI y3)), (0, .ref 0), (1, .int (nI i)), (2, .int (nI j))], [.int (bz (alk ov3 un3 (y3) (16 + 12 * j)))], wC ov3 un3 (nI n3) (nI L.1) fa3 cu st fi se th db cn F, 0)
  exact mm_ret (mm_call_mono _ _) (c := mm_z (bz (alk ov3 un3 (y3) (16 + 12 * j)))) (r := .inl (some (.int (bz (alk ov3 un3 (y3) (16 + 12 * j)))))) (M := wC ov3 un3 (nI n3) (nI L.1) fa3 cu st fi se th db cn F) (u := 0) rfl (bz_z _) (by decide) (hQ _ _ _ _ _ ⟨s3, bz_z _, fun h0 => by rw [E3 h0]; exact congrArg (Prod.mk 0) (alk_v W3_3 C_3 h0).symm, F3⟩)

set_option maxRecDepth 100000 in
theorem gq_on {d : Nat} {ov un : Nat → Int32} {nx fa : Int32} {cu : mm_cu} {st fi se th db : Nat → Int32} {F : mm_M} {S : Nat → stp} {k : Nat} {v : Nat → o3} {L : lvR} {x1 x2 : Int32} {Q : mm_R → mm_M → Prop} (hI : cI S k ov un (nI L.1) st fi se th db (nI k)) (hdr : dr S k = some (v, L)) (hl : L.1 ≤ 2) (R : rdA ov un 308 0 L) (hH : ∀ i, i < k → hold (us (S i).1) ov un i (v i)) (hQ : ∀ (ov1 un1 : Nat → Int32) (nx1 fa1 : Int32) (r : oc), qOn S k x1 x2 = r → cI S k ov1 un1 (nI L.1) st fi se th db (nI k) → Q (toQ r) (wC ov1 un1 nx1 (nI L.1) fa1 cu st fi se th db (nI k) F)) : mm_call mm_Tb (d + 8) 7 [.ref 0, .int x1, .int x2] (wC ov un nx (nI L.1) fa cu st fi se th db (nI k) F) Q := by
  have hk := hI.1
  have hS := hI.2.2.1
  have hw := hI.2.2.2.1
  have hgv := gv_s hdr
  refine mm_in mt_7 (Nat.le_of_ble_eq_true rfl) ?_
  show mm_W _ _ _ _ _ _ _ (0, [(0, .ref 0), (1, .int x1), (2, .int x2)], [], wC ov un nx (nI L.1) fa cu st fi se th db (nI k) F, 0)
  refine mm_skip (mm_call_mono _ _) 2 (st' := (2, [(0, .ref 0), (1, .int x1), (2, .int x2)], [.int x1, .ref 0], wC ov un nx (nI L.1) fa cu st fi se th db (nI k) F, 0)) rfl ?_
  refine mm_inv (mm_call_mono _ _) (j := 18) (a := [.ref 0, .int x1]) (M := wC ov un nx (nI L.1) fa cu st fi se th db (nI k) F) (u := 0) rfl (by decide) (gd_isPoint hk hS hw ?_)
  show mm_W _ _ _ _ _ _ _ (5, [(0, .ref 0), (1, .int x1), (2, .int x2)], [.int (bz (ckd S k x1 = 0))], wC ov un nx (nI L.1) fa cu st fi se th db (nI k) F, 0)
  refine mm_branch (mm_call_mono _ _) (c := (bz (ckd S k x1 = 0)) = 0) (s1 := (16, [(0, .ref 0), (1, .int x1), (2, .int x2)], [], wC ov un nx (nI L.1) fa cu st fi se th db (nI k) F, 0)) (s2 := (8, [(0, .ref 0), (1, .int x1), (2, .int x2)], [], wC ov un nx (nI L.1) fa cu st fi se th db (nI k) F, 0)) rfl (fun z1 => ?_) (fun z1 => ?_)
  · skip
    exact mm_ret (mm_call_mono _ _) (c := True) (r := .inr "java/lang/IllegalArgumentException") (M := wC ov un nx (nI L.1) fa cu st fi se th db (nI k) F) (u := 1) rfl trivial (by decide) (by have e9 := hQ _ _ nx fa (1, 0) (if_neg (fun z => bz_0 z1 z.1)) hI; exact e9)
  · skip
    refine mm_skip (mm_call_mono _ _) 2 (st' := (10, [(0, .ref 0), (1, .int x1), (2, .int x2)], [.int x2, .ref 0], wC ov un nx (nI L.1) fa cu st fi se th db (nI k) F, 0)) rfl ?_
    refine mm_inv (mm_call_mono _ _) (j := 21) (a := [.ref 0, .int x2]) (M := wC ov un nx (nI L.1) fa cu st fi se th db (nI k) F) (u := 0) rfl (by decide) (gd_isCurve hk hS hw ?_)
    show mm_W _ _ _ _ _ _ _ (13, [(0, .ref 0), (1, .int x1), (2, .int x2)], [.int (bz (ckd S k x2 = 1 ∨ ckd S k x2 = 2))], wC ov un nx (nI L.1) fa cu st fi se th db (nI k) F, 0)
    refine mm_branch (mm_call_mono _ _) (c := (bz (ckd S k x2 = 1 ∨ ckd S k x2 = 2)) = 0) (s1 := (16, [(0, .ref 0), (1, .int x1), (2, .int x2)], [], wC ov un nx (nI L.1) fa cu st fi se th db (nI k) F, 0)) (s2 := (26, [(0, .ref 0), (1, .int x1), (2, .int x2)], [], wC ov un nx (nI L.1) fa cu st fi se th db (nI k) F, 0)) rfl (fun z2 => ?_) (fun z2 => ?_)
    · skip
      exact mm_ret (mm_call_mono _ _) (c := True) (r := .inr "java/lang/IllegalArgumentException") (M := wC ov un nx (nI L.1) fa cu st fi se th db (nI k) F) (u := 1) rfl trivial (by decide) (by have e9 := hQ _ _ nx fa (1, 0) (if_neg (fun z => bz_0 z2 z.2)) hI; exact e9)
    · skip
      have u1 := bz_1 z1
      have u2 := bz_1 z2
      obtain ⟨i, hi, rfl, pi⟩ := ckd_pt hk (bz_1 z1)
      have Ki := hold_pt pi (hH i hi)
      have Xi := at_kp (n := 308) (fa := 0) Ki.1 (by omega) (Nat.le_refl _)
      have Yi := at_kp (n := 308) (fa := 0) Ki.2 (by omega) (Nat.le_refl _)
      refine mm_skip (mm_call_mono _ _) 2 (st' := (30, [(0, .ref 0), (1, .int (nI i)), (2, .int x2)], [.ref 1], wC ov un nx (nI L.1) fa cu st fi se th db (nI k) F, 0)) rfl ?_
      refine mm_inv (mm_call_mono _ _) (j := 122) (a := [.ref 1]) (M := wC ov un nx (nI L.1) fa cu st fi se th db (nI k) F) (u := 0) rfl (by decide) (ct_N_begin ?_)
      show mm_W _ _ _ _ _ _ _ (33, [(0, .ref 0), (1, .int (nI i)), (2, .int x2)], [], wC ov un (nI 308) (nI L.1) 0 cu st fi se th db (nI k) F, 0)
      refine mm_skip (mm_call_mono _ _) 2 (st' := (35, [(0, .ref 0), (1, .int (nI i)), (2, .int x2)], [.int x2, .ref 0], wC ov un (nI 308) (nI L.1) 0 cu st fi se th db (nI k) F, 0)) rfl ?_
      refine mm_inv (mm_call_mono _ _) (j := 19) (a := [.ref 0, .int x2]) (M := wC ov un (nI 308) (nI L.1) 0 cu st fi se th db (nI k) F) (u := 0) rfl (by decide) (gd_isLine hk hS hw ?_)
      show mm_W _ _ _ _ _ _ _ (38, [(0, .ref 0), (1, .int (nI i)), (2, .int x2)], [.int (bz (ckd S k x2 = 1))], wC ov un (nI 308) (nI L.1) 0 cu st fi se th db (nI k) F, 0)
      refine mm_branch (mm_call_mono _ _) (c := (bz (ckd S k x2 = 1)) = 0) (s1 := (50, [(0, .ref 0), (1, .int (nI i)), (2, .int x2)], [], wC ov un (nI 308) (nI L.1) 0 cu st fi se th db (nI k) F, 0)) (s2 := (41, [(0, .ref 0), (1, .int (nI i)), (2, .int x2)], [], wC ov un (nI 308) (nI L.1) 0 cu st fi se th db (nI k) F, 0)) rfl (fun z3 => ?_) (fun z3 => ?_)
      · skip
        obtain ⟨j, hj, rfl, cj⟩ := ckd_c (c := 2) hk (by decide) (u2.resolve_left (bz_0 z3))
        have XA := at_kp (n := 308) (fa := 0) (hH j hj).1 (by omega) (Nat.le_refl _)
        have hc := ctr_of (hw j hj) cj
        have Kc := hold_pt hc.2 (hH _ (by omega))
        have Xc := at_kp (n := 308) (fa := 0) Kc.1 (by omega) (Nat.le_refl _)
        have Yc := at_kp (n := 308) (fa := 0) Kc.2 (by omega) (Nat.le_refl _)
        have s0 := stl_0 (ov := ov) (un := un) (n := 308) (fa := 0) (Or.inl rfl) (by omega)
        have E0 : (0 : Int32) = 0 → tOn (S j) v L i j = Option.bind (xdist L (v (S j).2.1).1 (v (S j).2.1).2.1 (v i).1 (v i).2.1) _ := fun _ => if_neg (by rw [cj]; decide)
        have F0 : (0 : Int32) = 1 → (0 : Int32) = 0 → 308 + 100 ≤ 1332 → tOn (S j) v L i j = none := f_0
        refine mm_skip (mm_call_mono _ _) 6 (st' := (60, [(0, .ref 0), (1, .int (nI i)), (2, .int (nI j))], [.int (nI j), .ref 4, .ref 0, .ref 1], wC ov un (nI 308) (nI L.1) 0 cu st fi se th db (nI k) F, 0)) rfl ?_
        refine mm_need (mm_call_mono _ _) (c := vp_in (nI j) 24) (s' := (61, [(0, .ref 0), (1, .int (nI i)), (2, .int (nI j))], [.int (fi (Int32.toNatClampNeg (nI j))), .ref 0, .ref 1], wC ov un (nI 308) (nI L.1) 0 cu st fi se th db (nI k) F, 0)) rfl (vp_in_nI (show j < 24 by omega) (by decide)) ?_
        rw [nI_clamp (show j < 2 ^ 31 by omega)]
        show mm_W _ _ _ _ _ _ _ (61, [(0, .ref 0), (1, .int (nI i)), (2, .int (nI j))], [.int (fi j), .ref 0, .ref 1], wC ov un (nI 308) (nI L.1) 0 cu st fi se th db (nI k) F, 0)
        rw [(hS j hj).2.1]
        show mm_W _ _ _ _ _ _ _ (61, [(0, .ref 0), (1, .int (nI i)), (2, .int (nI j))], [.int (nI (S j).2.1), .ref 0, .ref 1], wC ov un (nI 308) (nI L.1) 0 cu st fi se th db (nI k) F, 0)
        refine mm_skip (mm_call_mono _ _) 1 (st' := (62, [(0, .ref 0), (1, .int (nI i)), (2, .int (nI j))], [.int (nI i), .int (nI (S j).2.1), .ref 0, .ref 1], wC ov un (nI 308) (nI L.1) 0 cu st fi se th db (nI k) F, 0)) rfl ?_
        refine mm_inv (mm_call_mono _ _) (j := 38) (a := [.ref 0, .int (nI (S j).2.1), .int (nI i)]) (M := wC ov un (nI 308) (nI L.1) 0 cu st fi se th db (nI k) F) (u := 0) rfl (by decide) (gd_sqd hl s0.2.1 s0.1 R Xc Yc Xi Yi (fun ov1 un1 n1 fa1 y1 h1 => ?_))
        show mm_W _ _ _ _ _ _ _ (65, [(0, .ref 0), (1, .int (nI i)), (2, .int (nI j))], [.int (nI y1), .ref 1], wC ov1 un1 (nI n1) (nI L.1) fa1 cu st fi se th db (nI k) F, 0)
        have s1 := stl_L s0 h1
        have F1 := sqL_f s0 F0 E0 h1 (by omega)
        have E1 := sqL_e E0 h1
        have g1 := h1.1.1
        have Xi_1 := at_keep Xi (opL_k h1)
        have Yi_1 := at_keep Yi (opL_k h1)
        have Xc_1 := at_keep Xc (opL_k h1)
        have Yc_1 := at_keep Yc (opL_k h1)
        have XA_1 := at_keep XA (opL_k h1)
        have R_1 := rd_keep R (opL_k h1)
        have W1_1 := at_newL h1
        refine mm_skip (mm_call_mono _ _) 1 (st' := (66, [(0, .ref 0), (1, .int (nI i)), (2, .int (nI j))], [.int (nI j), .int (nI y1), .ref 1], wC ov1 un1 (nI n1) (nI L.1) fa1 cu st fi se th db (nI k) F, 0)) rfl ?_
        refine mm_inv (mm_call_mono _ _) (j := 46) (a := [.int (nI j)]) (M := wC ov1 un1 (nI n1) (nI L.1) fa1 cu st fi se th db (nI k) F) (u := 0) rfl (by decide) (ct_C_squareOf ?_)
        show mm_W _ _ _ _ _ _ _ (69, [(0, .ref 0), (1, .int (nI i)), (2, .int (nI j))], [.int (nI (8 + 12 * j)), .int (nI y1), .ref 1], wC ov1 un1 (nI n1) (nI L.1) fa1 cu st fi se th db (nI k) F, 0)
        refine mm_inv (mm_call_mono _ _) (j := 125) (a := [.ref 1, .int (nI y1), .int (nI (8 + 12 * j))]) (M := wC ov1 un1 (nI n1) (nI L.1) fa1 cu st fi se th db (nI k) F) (u := 0) rfl (by decide) (ct_N_alike (x := y1) (y := 8 + 12 * j) W1_1.1.1 XA_1.1.1 ?_)
        show mm_W _ _ _ _ _ _ _ (72, [(0, .ref 0), (1, .int (nI i)), (2, .int (nI j))], [.int (bz (alk ov1 un1 (y1) (8 + 12 * j)))], wC ov1 un1 (nI n1) (nI L.1) fa1 cu st fi se th db (nI k) F, 0)
        refine mm_skip (mm_call_mono _ _) 2 (st' := (74, [(3, .int (bz (alk ov1 un1 (y1) (8 + 12 * j)))), (0, .ref 0), (1, .int (nI i)), (2, .int (nI j))], [.ref 0], wC ov1 un1 (nI n1) (nI L.1) fa1 cu st fi se th db (nI k) F, 0)) rfl ?_
        refine mm_inv (mm_call_mono _ _) (j := 26) (a := [.ref 0]) (M := wC ov1 un1 (nI n1) (nI L.1) fa1 cu st fi se th db (nI k) F) (u := 1) rfl (by decide) (gd_refuse (fun hz => (by have e9 := hQ _ _ (nI n1) fa1 (2, 0) ((show qOn S k (nI i) (nI j) = oB (tOn (S j) v L i j) from (if_pos ⟨u1, u2⟩).trans (by rw [hgv, cl_n (by omega), cl_n (by omega)])).trans (by rw [F1 (mm_z1 s1.2.1 hz) rfl (by omega)]; rfl)) (cI_k hI s1.2.2.1); exact e9)) (fun hz => ?_))
        show mm_W _ _ _ _ _ _ _ (77, [(3, .int (bz (alk ov1 un1 (y1) (8 + 12 * j)))), (0, .ref 0), (1, .int (nI i)), (2, .int (nI j))], [], wC ov1 un1 (nI n1) (nI L.1) fa1 cu st fi se th db (nI k) F, 1)
        refine mm_skip (mm_call_mono _ _) 1 (st' := (78, [(3, .int (bz (alk ov1 un1 (y1) (8 + 12 * j)))), (0, .ref 0), (1, .int (nI i)), (2, .int (nI j))], [.int (bz (alk ov1 un1 (y1) (8 + 12 * j)))], wC ov1 un1 (nI n1) (nI L.1) fa1 cu st fi se th db (nI k) F, 1)) rfl ?_
        exact mm_ret (mm_call_mono _ _) (c := mm_z (bz (alk ov1 un1 (y1) (8 + 12 * j)))) (r := .inl (some (.int (bz (alk ov1 un1 (y1) (8 + 12 * j)))))) (M := wC ov1 un1 (nI n1) (nI L.1) fa1 cu st fi se th db (nI k) F) (u := 1) rfl (bz_z _) (by decide) (by have e9 := hQ _ _ (nI n1) fa1 (0, bz (alk ov1 un1 (y1) (8 + 12 * j))) ((show qOn S k (nI i) (nI j) = oB (tOn (S j) v L i j) from (if_pos ⟨u1, u2⟩).trans (by rw [hgv, cl_n (by omega), cl_n (by omega)])).trans (by rw [E1 hz]; exact congrArg (Prod.mk 0) (alk_v W1_1 XA_1 hz).symm)) (cI_k hI s1.2.2.1); exact e9)
      · skip
        obtain ⟨j, hj, rfl, cj⟩ := ckd_c (c := 1) hk (by decide) (bz_1 z3)
        have Kj := hold_ln cj (hH j hj)
        have XA := at_kp (n := 308) (fa := 0) Kj.1 (by omega) (Nat.le_refl _)
        have XB := at_kp (n := 308) (fa := 0) Kj.2.1 (by omega) (Nat.le_refl _)
        have XC := at_kp (n := 308) (fa := 0) Kj.2.2 (by omega) (Nat.le_refl _)
        refine mm_skip (mm_call_mono _ _) 3 (st' := (44, [(0, .ref 0), (1, .int (nI i)), (2, .int (nI j))], [.int (nI j), .int (nI i), .ref 0], wC ov un (nI 308) (nI L.1) 0 cu st fi se th db (nI k) F, 0)) rfl ?_
        refine mm_inv (mm_call_mono _ _) (j := 36) (a := [.ref 0, .int (nI i), .int (nI j)]) (M := wC ov un (nI 308) (nI L.1) 0 cu st fi se th db (nI k) F) (u := 0) rfl (by decide) (gd_lies hl (Or.inl rfl) (by omega) R XA XB XC Xi Yi (fun ov1 un1 n1 fa1 rb hb => ?_))
        show mm_W _ _ _ _ _ _ _ (47, [(0, .ref 0), (1, .int (nI i)), (2, .int (nI j))], [.int rb], wC ov1 un1 (nI n1) (nI L.1) fa1 cu st fi se th db (nI k) F, 0)
        have hbz := hb.2.1
        refine mm_skip (mm_call_mono _ _) 3 (st' := (74, [(3, .int rb), (0, .ref 0), (1, .int (nI i)), (2, .int (nI j))], [.ref 0], wC ov1 un1 (nI n1) (nI L.1) fa1 cu st fi se th db (nI k) F, 0)) rfl ?_
        refine mm_inv (mm_call_mono _ _) (j := 26) (a := [.ref 0]) (M := wC ov1 un1 (nI n1) (nI L.1) fa1 cu st fi se th db (nI k) F) (u := 1) rfl (by decide) (gd_refuse (fun hz => (by have e9 := hQ _ _ (nI n1) fa1 (2, 0) ((show qOn S k (nI i) (nI j) = oB (tOn (S j) v L i j) from (if_pos ⟨u1, u2⟩).trans (by rw [hgv, cl_n (by omega), cl_n (by omega)])).trans (by rw [show tOn (S j) v L i j = tLies L (v j).1 (v j).2.1 (v j).2.2 (v i).1 (v i).2.1 from if_pos cj, hb.2.2.2 (mm_z1 hb.1.2.1 hz) rfl (by omega)]; rfl)) (cI_k hI hb.1.2.2.1); exact e9)) (fun hz => ?_))
        show mm_W _ _ _ _ _ _ _ (77, [(3, .int rb), (0, .ref 0), (1, .int (nI i)), (2, .int (nI j))], [], wC ov1 un1 (nI n1) (nI L.1) fa1 cu st fi se th db (nI k) F, 1)
        refine mm_skip (mm_call_mono _ _) 1 (st' := (78, [(3, .int rb), (0, .ref 0), (1, .int (nI i)), (2, .int (nI j))], [.int rb], wC ov1 un1 (nI n1) (nI L.1) fa1 cu st fi se th db (nI k) F, 1)) rfl ?_
        exact mm_ret (mm_call_mono _ _) (c := mm_z rb) (r := .inl (some (.int rb))) (M := wC ov1 un1 (nI n1) (nI L.1) fa1 cu st fi se th db (nI k) F) (u := 1) rfl hbz (by decide) (by have e9 := hQ _ _ (nI n1) fa1 (0, rb) ((show qOn S k (nI i) (nI j) = oB (tOn (S j) v L i j) from (if_pos ⟨u1, u2⟩).trans (by rw [hgv, cl_n (by omega), cl_n (by omega)])).trans (by rw [show tOn (S j) v L i j = tLies L (v j).1 (v j).2.1 (v j).2.2 (v i).1 (v i).2.1 from if_pos cj]; exact hb.2.2.1 hz)) (cI_k hI hb.1.2.2.1); exact e9)

set_option maxRecDepth 100000 in
theorem gq_same {d : Nat} {ov un : Nat → Int32} {nx fa : Int32} {cu : mm_cu} {st fi se th db : Nat → Int32} {F : mm_M} {S : Nat → stp} {k : Nat} {v : Nat → o3} {L : lvR} {x1 x2 : Int32} {Q : mm_R → mm_M → Prop} (hI : cI S k ov un (nI L.1) st fi se th db (nI k)) (hdr : dr S k = some (v, L)) (hl : L.1 ≤ 2) (R : rdA ov un 308 0 L) (hH : ∀ i, i < k → hold (us (S i).1) ov un i (v i)) (hQ : ∀ (ov1 un1 : Nat → Int32) (nx1 fa1 : Int32) (r : oc), qSame S k x1 x2 = r → cI S k ov1 un1 (nI L.1) st fi se th db (nI k) → Q (toQ r) (wC ov1 un1 nx1 (nI L.1) fa1 cu st fi se th db (nI k) F)) : mm_call mm_Tb (d + 4) 8 [.ref 0, .int x1, .int x2] (wC ov un nx (nI L.1) fa cu st fi se th db (nI k) F) Q := by
  have hk := hI.1
  have hS := hI.2.2.1
  have hw := hI.2.2.2.1
  have hgv := gv_s hdr
  refine mm_in mt_8 (Nat.le_of_ble_eq_true rfl) ?_
  show mm_W _ _ _ _ _ _ _ (0, [(0, .ref 0), (1, .int x1), (2, .int x2)], [], wC ov un nx (nI L.1) fa cu st fi se th db (nI k) F, 0)
  refine mm_skip (mm_call_mono _ _) 2 (st' := (2, [(0, .ref 0), (1, .int x1), (2, .int x2)], [.int x1, .ref 0], wC ov un nx (nI L.1) fa cu st fi se th db (nI k) F, 0)) rfl ?_
  refine mm_inv (mm_call_mono _ _) (j := 18) (a := [.ref 0, .int x1]) (M := wC ov un nx (nI L.1) fa cu st fi se th db (nI k) F) (u := 0) rfl (by decide) (gd_isPoint hk hS hw ?_)
  show mm_W _ _ _ _ _ _ _ (5, [(0, .ref 0), (1, .int x1), (2, .int x2)], [.int (bz (ckd S k x1 = 0))], wC ov un nx (nI L.1) fa cu st fi se th db (nI k) F, 0)
  refine mm_branch (mm_call_mono _ _) (c := (bz (ckd S k x1 = 0)) = 0) (s1 := (16, [(0, .ref 0), (1, .int x1), (2, .int x2)], [], wC ov un nx (nI L.1) fa cu st fi se th db (nI k) F, 0)) (s2 := (8, [(0, .ref 0), (1, .int x1), (2, .int x2)], [], wC ov un nx (nI L.1) fa cu st fi se th db (nI k) F, 0)) rfl (fun z1 => ?_) (fun z1 => ?_)
  · skip
    exact mm_ret (mm_call_mono _ _) (c := True) (r := .inr "java/lang/IllegalArgumentException") (M := wC ov un nx (nI L.1) fa cu st fi se th db (nI k) F) (u := 1) rfl trivial (by decide) (by have e9 := hQ _ _ nx fa (1, 0) (if_neg (fun z => bz_0 z1 z.1)) hI; exact e9)
  · skip
    refine mm_skip (mm_call_mono _ _) 2 (st' := (10, [(0, .ref 0), (1, .int x1), (2, .int x2)], [.int x2, .ref 0], wC ov un nx (nI L.1) fa cu st fi se th db (nI k) F, 0)) rfl ?_
    refine mm_inv (mm_call_mono _ _) (j := 18) (a := [.ref 0, .int x2]) (M := wC ov un nx (nI L.1) fa cu st fi se th db (nI k) F) (u := 0) rfl (by decide) (gd_isPoint hk hS hw ?_)
    show mm_W _ _ _ _ _ _ _ (13, [(0, .ref 0), (1, .int x1), (2, .int x2)], [.int (bz (ckd S k x2 = 0))], wC ov un nx (nI L.1) fa cu st fi se th db (nI k) F, 0)
    refine mm_branch (mm_call_mono _ _) (c := (bz (ckd S k x2 = 0)) = 0) (s1 := (16, [(0, .ref 0), (1, .int x1), (2, .int x2)], [], wC ov un nx (nI L.1) fa cu st fi se th db (nI k) F, 0)) (s2 := (26, [(0, .ref 0), (1, .int x1), (2, .int x2)], [], wC ov un nx (nI L.1) fa cu st fi se th db (nI k) F, 0)) rfl (fun z2 => ?_) (fun z2 => ?_)
    · skip
      exact mm_ret (mm_call_mono _ _) (c := True) (r := .inr "java/lang/IllegalArgumentException") (M := wC ov un nx (nI L.1) fa cu st fi se th db (nI k) F) (u := 1) rfl trivial (by decide) (by have e9 := hQ _ _ nx fa (1, 0) (if_neg (fun z => bz_0 z2 z.2)) hI; exact e9)
    · skip
      have u1 := bz_1 z1
      have u2 := bz_1 z2
      obtain ⟨i, hi, rfl, pi⟩ := ckd_pt hk (bz_1 z1)
      have Ki := hold_pt pi (hH i hi)
      obtain ⟨j, hj, rfl, pj⟩ := ckd_pt hk (bz_1 z2)
      have Kj := hold_pt pj (hH j hj)
      refine mm_skip (mm_call_mono _ _) 3 (st' := (29, [(0, .ref 0), (1, .int (nI i)), (2, .int (nI j))], [.int (nI j), .int (nI i), .ref 0], wC ov un nx (nI L.1) fa cu st fi se th db (nI k) F, 0)) rfl ?_
      refine mm_inv (mm_call_mono _ _) (j := 37) (a := [.ref 0, .int (nI i), .int (nI j)]) (M := wC ov un nx (nI L.1) fa cu st fi se th db (nI k) F) (u := 0) rfl (by decide) (gd_coincide (by omega) (by omega) Ki.1 Ki.2 Kj.1 Kj.2 ?_)
      show mm_W _ _ _ _ _ _ _ (32, [(0, .ref 0), (1, .int (nI i)), (2, .int (nI j))], [.int (bz ((v i).1 = (v j).1 ∧ (v i).2.1 = (v j).2.1))], wC ov un nx (nI L.1) fa cu st fi se th db (nI k) F, 0)
      exact mm_ret (mm_call_mono _ _) (c := mm_z (bz ((v i).1 = (v j).1 ∧ (v i).2.1 = (v j).2.1))) (r := .inl (some (.int (bz ((v i).1 = (v j).1 ∧ (v i).2.1 = (v j).2.1))))) (M := wC ov un nx (nI L.1) fa cu st fi se th db (nI k) F) (u := 0) rfl (bz_z _) (by decide) (by have e9 := hQ _ _ nx fa (0, bz ((v i).1 = (v j).1 ∧ (v i).2.1 = (v j).2.1)) ((if_pos ⟨u1, u2⟩).trans (by rw [hgv, cl_n (by omega), cl_n (by omega)])) hI; exact e9)

set_option maxRecDepth 100000 in
theorem gq_equal {d : Nat} {ov un : Nat → Int32} {nx fa : Int32} {cu : mm_cu} {st fi se th db : Nat → Int32} {F : mm_M} {S : Nat → stp} {k : Nat} {v : Nat → o3} {L : lvR} {x1 x2 x3 x4 : Int32} {Q : mm_R → mm_M → Prop} (hI : cI S k ov un (nI L.1) st fi se th db (nI k)) (hdr : dr S k = some (v, L)) (hl : L.1 ≤ 2) (R : rdA ov un 308 0 L) (hH : ∀ i, i < k → hold (us (S i).1) ov un i (v i)) (hQ : ∀ (ov1 un1 : Nat → Int32) (nx1 fa1 : Int32) (r : oc), qEq S k x1 x2 x3 x4 = r → cI S k ov1 un1 (nI L.1) st fi se th db (nI k) → Q (toQ r) (wC ov1 un1 nx1 (nI L.1) fa1 cu st fi se th db (nI k) F)) : mm_call mm_Tb (d + 8) 9 [.ref 0, .int x1, .int x2, .int x3, .int x4] (wC ov un nx (nI L.1) fa cu st fi se th db (nI k) F) Q := by
  have hk := hI.1
  have hS := hI.2.2.1
  have hw := hI.2.2.2.1
  have hgv := gv_s hdr
  refine mm_in mt_9 (Nat.le_of_ble_eq_true rfl) ?_
  show mm_W _ _ _ _ _ _ _ (0, [(0, .ref 0), (1, .int x1), (2, .int x2), (3, .int x3), (4, .int x4)], [], wC ov un nx (nI L.1) fa cu st fi se th db (nI k) F, 0)
  refine mm_skip (mm_call_mono _ _) 2 (st' := (2, [(0, .ref 0), (1, .int x1), (2, .int x2), (3, .int x3), (4, .int x4)], [.int x1, .ref 0], wC ov un nx (nI L.1) fa cu st fi se th db (nI k) F, 0)) rfl ?_
  refine mm_inv (mm_call_mono _ _) (j := 18) (a := [.ref 0, .int x1]) (M := wC ov un nx (nI L.1) fa cu st fi se th db (nI k) F) (u := 0) rfl (by decide) (gd_isPoint hk hS hw ?_)
  show mm_W _ _ _ _ _ _ _ (5, [(0, .ref 0), (1, .int x1), (2, .int x2), (3, .int x3), (4, .int x4)], [.int (bz (ckd S k x1 = 0))], wC ov un nx (nI L.1) fa cu st fi se th db (nI k) F, 0)
  refine mm_branch (mm_call_mono _ _) (c := (bz (ckd S k x1 = 0)) = 0) (s1 := (33, [(0, .ref 0), (1, .int x1), (2, .int x2), (3, .int x3), (4, .int x4)], [], wC ov un nx (nI L.1) fa cu st fi se th db (nI k) F, 0)) (s2 := (8, [(0, .ref 0), (1, .int x1), (2, .int x2), (3, .int x3), (4, .int x4)], [], wC ov un nx (nI L.1) fa cu st fi se th db (nI k) F, 0)) rfl (fun z1 => ?_) (fun z1 => ?_)
  · skip
    exact mm_ret (mm_call_mono _ _) (c := True) (r := .inr "java/lang/IllegalArgumentException") (M := wC ov un nx (nI L.1) fa cu st fi se th db (nI k) F) (u := 1) rfl trivial (by decide) (by have e9 := hQ _ _ nx fa (1, 0) (if_neg (fun z => bz_0 z1 z.1)) hI; exact e9)
  · skip
    refine mm_skip (mm_call_mono _ _) 2 (st' := (10, [(0, .ref 0), (1, .int x1), (2, .int x2), (3, .int x3), (4, .int x4)], [.int x2, .ref 0], wC ov un nx (nI L.1) fa cu st fi se th db (nI k) F, 0)) rfl ?_
    refine mm_inv (mm_call_mono _ _) (j := 18) (a := [.ref 0, .int x2]) (M := wC ov un nx (nI L.1) fa cu st fi se th db (nI k) F) (u := 0) rfl (by decide) (gd_isPoint hk hS hw ?_)
    show mm_W _ _ _ _ _ _ _ (13, [(0, .ref 0), (1, .int x1), (2, .int x2), (3, .int x3), (4, .int x4)], [.int (bz (ckd S k x2 = 0))], wC ov un nx (nI L.1) fa cu st fi se th db (nI k) F, 0)
    refine mm_branch (mm_call_mono _ _) (c := (bz (ckd S k x2 = 0)) = 0) (s1 := (33, [(0, .ref 0), (1, .int x1), (2, .int x2), (3, .int x3), (4, .int x4)], [], wC ov un nx (nI L.1) fa cu st fi se th db (nI k) F, 0)) (s2 := (16, [(0, .ref 0), (1, .int x1), (2, .int x2), (3, .int x3), (4, .int x4)], [], wC ov un nx (nI L.1) fa cu st fi se th db (nI k) F, 0)) rfl (fun z2 => ?_) (fun z2 => ?_)
    · skip
      exact mm_ret (mm_call_mono _ _) (c := True) (r := .inr "java/lang/IllegalArgumentException") (M := wC ov un nx (nI L.1) fa cu st fi se th db (nI k) F) (u := 1) rfl trivial (by decide) (by have e9 := hQ _ _ nx fa (1, 0) (if_neg (fun z => bz_0 z2 z.2.1)) hI; exact e9)
    · skip
      refine mm_skip (mm_call_mono _ _) 2 (st' := (18, [(0, .ref 0), (1, .int x1), (2, .int x2), (3, .int x3), (4, .int x4)], [.int x3, .ref 0], wC ov un nx (nI L.1) fa cu st fi se th db (nI k) F, 0)) rfl ?_
      refine mm_inv (mm_call_mono _ _) (j := 18) (a := [.ref 0, .int x3]) (M := wC ov un nx (nI L.1) fa cu st fi se th db (nI k) F) (u := 0) rfl (by decide) (gd_isPoint hk hS hw ?_)
      show mm_W _ _ _ _ _ _ _ (21, [(0, .ref 0), (1, .int x1), (2, .int x2), (3, .int x3), (4, .int x4)], [.int (bz (ckd S k x3 = 0))], wC ov un nx (nI L.1) fa cu st fi se th db (nI k) F, 0)
      refine mm_branch (mm_call_mono _ _) (c := (bz (ckd S k x3 = 0)) = 0) (s1 := (33, [(0, .ref 0), (1, .int x1), (2, .int x2), (3, .int x3), (4, .int x4)], [], wC ov un nx (nI L.1) fa cu st fi se th db (nI k) F, 0)) (s2 := (24, [(0, .ref 0), (1, .int x1), (2, .int x2), (3, .int x3), (4, .int x4)], [], wC ov un nx (nI L.1) fa cu st fi se th db (nI k) F, 0)) rfl (fun z3 => ?_) (fun z3 => ?_)
      · skip
        exact mm_ret (mm_call_mono _ _) (c := True) (r := .inr "java/lang/IllegalArgumentException") (M := wC ov un nx (nI L.1) fa cu st fi se th db (nI k) F) (u := 1) rfl trivial (by decide) (by have e9 := hQ _ _ nx fa (1, 0) (if_neg (fun z => bz_0 z3 z.2.2.1)) hI; exact e9)
      · skip
        refine mm_skip (mm_call_mono _ _) 2 (st' := (27, [(0, .ref 0), (1, .int x1), (2, .int x2), (3, .int x3), (4, .int x4)], [.int x4, .ref 0], wC ov un nx (nI L.1) fa cu st fi se th db (nI k) F, 0)) rfl ?_
        refine mm_inv (mm_call_mono _ _) (j := 18) (a := [.ref 0, .int x4]) (M := wC ov un nx (nI L.1) fa cu st fi se th db (nI k) F) (u := 0) rfl (by decide) (gd_isPoint hk hS hw ?_)
        show mm_W _ _ _ _ _ _ _ (30, [(0, .ref 0), (1, .int x1), (2, .int x2), (3, .int x3), (4, .int x4)], [.int (bz (ckd S k x4 = 0))], wC ov un nx (nI L.1) fa cu st fi se th db (nI k) F, 0)
        refine mm_branch (mm_call_mono _ _) (c := (bz (ckd S k x4 = 0)) = 0) (s1 := (33, [(0, .ref 0), (1, .int x1), (2, .int x2), (3, .int x3), (4, .int x4)], [], wC ov un nx (nI L.1) fa cu st fi se th db (nI k) F, 0)) (s2 := (43, [(0, .ref 0), (1, .int x1), (2, .int x2), (3, .int x3), (4, .int x4)], [], wC ov un nx (nI L.1) fa cu st fi se th db (nI k) F, 0)) rfl (fun z4 => ?_) (fun z4 => ?_)
        · skip
          exact mm_ret (mm_call_mono _ _) (c := True) (r := .inr "java/lang/IllegalArgumentException") (M := wC ov un nx (nI L.1) fa cu st fi se th db (nI k) F) (u := 1) rfl trivial (by decide) (by have e9 := hQ _ _ nx fa (1, 0) (if_neg (fun z => bz_0 z4 z.2.2.2)) hI; exact e9)
        · skip
          have u1 := bz_1 z1
          have u2 := bz_1 z2
          have u3 := bz_1 z3
          have u4 := bz_1 z4
          obtain ⟨i, hi, rfl, pi⟩ := ckd_pt hk (bz_1 z1)
          have Ki := hold_pt pi (hH i hi)
          have Xi := at_kp (n := 308) (fa := 0) Ki.1 (by omega) (Nat.le_refl _)
          have Yi := at_kp (n := 308) (fa := 0) Ki.2 (by omega) (Nat.le_refl _)
          obtain ⟨j, hj, rfl, pj⟩ := ckd_pt hk (bz_1 z2)
          have Kj := hold_pt pj (hH j hj)
          have Xj := at_kp (n := 308) (fa := 0) Kj.1 (by omega) (Nat.le_refl _)
          have Yj := at_kp (n := 308) (fa := 0) Kj.2 (by omega) (Nat.le_refl _)
          obtain ⟨g, hg, rfl, pg⟩ := ckd_pt hk (bz_1 z3)
          have Kg := hold_pt pg (hH g hg)
          have Xg := at_kp (n := 308) (fa := 0) Kg.1 (by omega) (Nat.le_refl _)
          have Yg := at_kp (n := 308) (fa := 0) Kg.2 (by omega) (Nat.le_refl _)
          obtain ⟨m, hm, rfl, pm⟩ := ckd_pt hk (bz_1 z4)
          have Km := hold_pt pm (hH m hm)
          have Xm := at_kp (n := 308) (fa := 0) Km.1 (by omega) (Nat.le_refl _)
          have Ym := at_kp (n := 308) (fa := 0) Km.2 (by omega) (Nat.le_refl _)
          refine mm_skip (mm_call_mono _ _) 2 (st' := (47, [(0, .ref 0), (1, .int (nI i)), (2, .int (nI j)), (3, .int (nI g)), (4, .int (nI m))], [.ref 1], wC ov un nx (nI L.1) fa cu st fi se th db (nI k) F, 0)) rfl ?_
          refine mm_inv (mm_call_mono _ _) (j := 122) (a := [.ref 1]) (M := wC ov un nx (nI L.1) fa cu st fi se th db (nI k) F) (u := 0) rfl (by decide) (ct_N_begin ?_)
          show mm_W _ _ _ _ _ _ _ (50, [(0, .ref 0), (1, .int (nI i)), (2, .int (nI j)), (3, .int (nI g)), (4, .int (nI m))], [], wC ov un (nI 308) (nI L.1) 0 cu st fi se th db (nI k) F, 0)
          have s0 := stl_0 (ov := ov) (un := un) (n := 308) (fa := 0) (Or.inl rfl) (by omega)
          have E0 : (0 : Int32) = 0 → tEq v L i j g m = Option.bind (xdist L (v i).1 (v i).2.1 (v j).1 (v j).2.1) _ := fun _ => rfl
          have F0 : (0 : Int32) = 1 → (0 : Int32) = 0 → 308 + 200 ≤ 1332 → tEq v L i j g m = none := f_0
          refine mm_skip (mm_call_mono _ _) 5 (st' := (57, [(0, .ref 0), (1, .int (nI i)), (2, .int (nI j)), (3, .int (nI g)), (4, .int (nI m))], [.int (nI j), .int (nI i), .ref 0, .ref 1], wC ov un (nI 308) (nI L.1) 0 cu st fi se th db (nI k) F, 0)) rfl ?_
          refine mm_inv (mm_call_mono _ _) (j := 38) (a := [.ref 0, .int (nI i), .int (nI j)]) (M := wC ov un (nI 308) (nI L.1) 0 cu st fi se th db (nI k) F) (u := 0) rfl (by decide) (gd_sqd hl s0.2.1 s0.1 R Xi Yi Xj Yj (fun ov1 un1 n1 fa1 y1 h1 => ?_))
          show mm_W _ _ _ _ _ _ _ (60, [(0, .ref 0), (1, .int (nI i)), (2, .int (nI j)), (3, .int (nI g)), (4, .int (nI m))], [.int (nI y1), .ref 1], wC ov1 un1 (nI n1) (nI L.1) fa1 cu st fi se th db (nI k) F, 0)
          have s1 := stl_L s0 h1
          have F1 := sqL_f s0 F0 E0 h1 (by omega)
          have E1 := sqL_e E0 h1
          have g1 := h1.1.1
          have Xi_1 := at_keep Xi (opL_k h1)
          have Yi_1 := at_keep Yi (opL_k h1)
          have Xj_1 := at_keep Xj (opL_k h1)
          have Yj_1 := at_keep Yj (opL_k h1)
          have Xg_1 := at_keep Xg (opL_k h1)
          have Yg_1 := at_keep Yg (opL_k h1)
          have Xm_1 := at_keep Xm (opL_k h1)
          have Ym_1 := at_keep Ym (opL_k h1)
          have R_1 := rd_keep R (opL_k h1)
          have W1_1 := at_newL h1
          refine mm_skip (mm_call_mono _ _) 3 (st' := (64, [(0, .ref 0), (1, .int (nI i)), (2, .int (nI j)), (3, .int (nI g)), (4, .int (nI m))], [.int (nI m), .int (nI g), .ref 0, .int (nI y1), .ref 1], wC ov1 un1 (nI n1) (nI L.1) fa1 cu st fi se th db (nI k) F, 0)) rfl ?_
          refine mm_inv (mm_call_mono _ _) (j := 38) (a := [.ref 0, .int (nI g), .int (nI m)]) (M := wC ov1 un1 (nI n1) (nI L.1) fa1 cu st fi se th db (nI k) F) (u := 0) rfl (by decide) (gd_sqd hl s1.2.1 s1.1 R_1 Xg_1 Yg_1 Xm_1 Ym_1 (fun ov2 un2 n2 fa2 y2 h2 => ?_))
          show mm_W _ _ _ _ _ _ _ (67, [(0, .ref 0), (1, .int (nI i)), (2, .int (nI j)), (3, .int (nI g)), (4, .int (nI m))], [.int (nI y2), .int (nI y1), .ref 1], wC ov2 un2 (nI n2) (nI L.1) fa2 cu st fi se th db (nI k) F, 0)
          have s2 := stl_L s1 h2
          have F2 := sqL_f s1 F1 E1 h2 (by omega)
          have E2 := sqL_e E1 h2
          have g2 := h2.1.1
          have Xi_2 := at_keep Xi_1 (opL_k h2)
          have Yi_2 := at_keep Yi_1 (opL_k h2)
          have Xj_2 := at_keep Xj_1 (opL_k h2)
          have Yj_2 := at_keep Yj_1 (opL_k h2)
          have Xg_2 := at_keep Xg_1 (opL_k h2)
          have Yg_2 := at_keep Yg_1 (opL_k h2)
          have Xm_2 := at_keep Xm_1 (opL_k h2)
          have Ym_2 := at_keep Ym_1 (opL_k h2)
          have W1_2 := at_keep W1_1 (opL_k h2)
          have R_2 := rd_keep R_1 (opL_k h2)
          have W2_2 := at_newL h2
          refine mm_inv (mm_call_mono _ _) (j := 125) (a := [.ref 1, .int (nI y1), .int (nI y2)]) (M := wC ov2 un2 (nI n2) (nI L.1) fa2 cu st fi se th db (nI k) F) (u := 0) rfl (by decide) (ct_N_alike (x := y1) (y := y2) W1_2.1.1 W2_2.1.1 ?_)
          show mm_W _ _ _ _ _ _ _ (70, [(0, .ref 0), (1, .int (nI i)), (2, .int (nI j)), (3, .int (nI g)), (4, .int (nI m))], [.int (bz (alk ov2 un2 (y1) (y2)))], wC ov2 un2 (nI n2) (nI L.1) fa2 cu st fi se th db (nI k) F, 0)
          refine mm_skip (mm_call_mono _ _) 2 (st' := (73, [(5, .int (bz (alk ov2 un2 (y1) (y2)))), (0, .ref 0), (1, .int (nI i)), (2, .int (nI j)), (3, .int (nI g)), (4, .int (nI m))], [.ref 0], wC ov2 un2 (nI n2) (nI L.1) fa2 cu st fi se th db (nI k) F, 0)) rfl ?_
          refine mm_inv (mm_call_mono _ _) (j := 26) (a := [.ref 0]) (M := wC ov2 un2 (nI n2) (nI L.1) fa2 cu st fi se th db (nI k) F) (u := 1) rfl (by decide) (gd_refuse (fun hz => (by have e9 := hQ _ _ (nI n2) fa2 (2, 0) ((show qEq S k (nI i) (nI j) (nI g) (nI m) = oB (tEq v L i j g m) from (if_pos ⟨u1, u2, u3, u4⟩).trans (by rw [hgv, cl_n (by omega), cl_n (by omega), cl_n (by omega), cl_n (by omega)])).trans (by rw [F2 (mm_z1 s2.2.1 hz) rfl (by omega)]; rfl)) (cI_k hI s2.2.2.1); exact e9)) (fun hz => ?_))
          show mm_W _ _ _ _ _ _ _ (76, [(5, .int (bz (alk ov2 un2 (y1) (y2)))), (0, .ref 0), (1, .int (nI i)), (2, .int (nI j)), (3, .int (nI g)), (4, .int (nI m))], [], wC ov2 un2 (nI n2) (nI L.1) fa2 cu st fi se th db (nI k) F, 1)
          refine mm_skip (mm_call_mono _ _) 1 (st' := (78, [(5, .int (bz (alk ov2 un2 (y1) (y2)))), (0, .ref 0), (1, .int (nI i)), (2, .int (nI j)), (3, .int (nI g)), (4, .int (nI m))], [.int (bz (alk ov2 un2 (y1) (y2)))], wC ov2 un2 (nI n2) (nI L.1) fa2 cu st fi se th db (nI k) F, 1)) rfl ?_
          exact mm_ret (mm_call_mono _ _) (c := mm_z (bz (alk ov2 un2 (y1) (y2)))) (r := .inl (some (.int (bz (alk ov2 un2 (y1) (y2)))))) (M := wC ov2 un2 (nI n2) (nI L.1) fa2 cu st fi se th db (nI k) F) (u := 1) rfl (bz_z _) (by decide) (by have e9 := hQ _ _ (nI n2) fa2 (0, bz (alk ov2 un2 (y1) (y2))) ((show qEq S k (nI i) (nI j) (nI g) (nI m) = oB (tEq v L i j g m) from (if_pos ⟨u1, u2, u3, u4⟩).trans (by rw [hgv, cl_n (by omega), cl_n (by omega), cl_n (by omega), cl_n (by omega)])).trans (by rw [E2 hz]; exact congrArg (Prod.mk 0) (alk_v W1_2 W2_2 hz).symm)) (cI_k hI s2.2.2.1); exact e9)

set_option maxRecDepth 100000 in
theorem gq_side {d : Nat} {ov un : Nat → Int32} {nx fa : Int32} {cu : mm_cu} {st fi se th db : Nat → Int32} {F : mm_M} {S : Nat → stp} {k : Nat} {v : Nat → o3} {L : lvR} {x1 x2 x3 : Int32} {Q : mm_R → mm_M → Prop} (hI : cI S k ov un (nI L.1) st fi se th db (nI k)) (hdr : dr S k = some (v, L)) (hl : L.1 ≤ 2) (R : rdA ov un 308 0 L) (hH : ∀ i, i < k → hold (us (S i).1) ov un i (v i)) (hQ : ∀ (ov1 un1 : Nat → Int32) (nx1 fa1 : Int32) (r : oc), qSide S k x1 x2 x3 = r → cI S k ov1 un1 (nI L.1) st fi se th db (nI k) → Q (toQ r) (wC ov1 un1 nx1 (nI L.1) fa1 cu st fi se th db (nI k) F)) : mm_call mm_Tb (d + 8) 11 [.ref 0, .int x1, .int x2, .int x3] (wC ov un nx (nI L.1) fa cu st fi se th db (nI k) F) Q := by
  have hk := hI.1
  have hS := hI.2.2.1
  have hw := hI.2.2.2.1
  have hgv := gv_s hdr
  refine mm_in mt_11 (Nat.le_of_ble_eq_true rfl) ?_
  show mm_W _ _ _ _ _ _ _ (0, [(0, .ref 0), (1, .int x1), (2, .int x2), (3, .int x3)], [], wC ov un nx (nI L.1) fa cu st fi se th db (nI k) F, 0)
  refine mm_skip (mm_call_mono _ _) 2 (st' := (2, [(0, .ref 0), (1, .int x1), (2, .int x2), (3, .int x3)], [.int x1, .ref 0], wC ov un nx (nI L.1) fa cu st fi se th db (nI k) F, 0)) rfl ?_
  refine mm_inv (mm_call_mono _ _) (j := 18) (a := [.ref 0, .int x1]) (M := wC ov un nx (nI L.1) fa cu st fi se th db (nI k) F) (u := 0) rfl (by decide) (gd_isPoint hk hS hw ?_)
  show mm_W _ _ _ _ _ _ _ (5, [(0, .ref 0), (1, .int x1), (2, .int x2), (3, .int x3)], [.int (bz (ckd S k x1 = 0))], wC ov un nx (nI L.1) fa cu st fi se th db (nI k) F, 0)
  refine mm_branch (mm_call_mono _ _) (c := (bz (ckd S k x1 = 0)) = 0) (s1 := (24, [(0, .ref 0), (1, .int x1), (2, .int x2), (3, .int x3)], [], wC ov un nx (nI L.1) fa cu st fi se th db (nI k) F, 0)) (s2 := (8, [(0, .ref 0), (1, .int x1), (2, .int x2), (3, .int x3)], [], wC ov un nx (nI L.1) fa cu st fi se th db (nI k) F, 0)) rfl (fun z1 => ?_) (fun z1 => ?_)
  · skip
    exact mm_ret (mm_call_mono _ _) (c := True) (r := .inr "java/lang/IllegalArgumentException") (M := wC ov un nx (nI L.1) fa cu st fi se th db (nI k) F) (u := 1) rfl trivial (by decide) (by have e9 := hQ _ _ nx fa (1, 0) (if_neg (fun z => bz_0 z1 z.1)) hI; exact e9)
  · skip
    refine mm_skip (mm_call_mono _ _) 2 (st' := (10, [(0, .ref 0), (1, .int x1), (2, .int x2), (3, .int x3)], [.int x2, .ref 0], wC ov un nx (nI L.1) fa cu st fi se th db (nI k) F, 0)) rfl ?_
    refine mm_inv (mm_call_mono _ _) (j := 18) (a := [.ref 0, .int x2]) (M := wC ov un nx (nI L.1) fa cu st fi se th db (nI k) F) (u := 0) rfl (by decide) (gd_isPoint hk hS hw ?_)
    show mm_W _ _ _ _ _ _ _ (13, [(0, .ref 0), (1, .int x1), (2, .int x2), (3, .int x3)], [.int (bz (ckd S k x2 = 0))], wC ov un nx (nI L.1) fa cu st fi se th db (nI k) F, 0)
    refine mm_branch (mm_call_mono _ _) (c := (bz (ckd S k x2 = 0)) = 0) (s1 := (24, [(0, .ref 0), (1, .int x1), (2, .int x2), (3, .int x3)], [], wC ov un nx (nI L.1) fa cu st fi se th db (nI k) F, 0)) (s2 := (16, [(0, .ref 0), (1, .int x1), (2, .int x2), (3, .int x3)], [], wC ov un nx (nI L.1) fa cu st fi se th db (nI k) F, 0)) rfl (fun z2 => ?_) (fun z2 => ?_)
    · skip
      exact mm_ret (mm_call_mono _ _) (c := True) (r := .inr "java/lang/IllegalArgumentException") (M := wC ov un nx (nI L.1) fa cu st fi se th db (nI k) F) (u := 1) rfl trivial (by decide) (by have e9 := hQ _ _ nx fa (1, 0) (if_neg (fun z => bz_0 z2 z.2.1)) hI; exact e9)
    · skip
      refine mm_skip (mm_call_mono _ _) 2 (st' := (18, [(0, .ref 0), (1, .int x1), (2, .int x2), (3, .int x3)], [.int x3, .ref 0], wC ov un nx (nI L.1) fa cu st fi se th db (nI k) F, 0)) rfl ?_
      refine mm_inv (mm_call_mono _ _) (j := 18) (a := [.ref 0, .int x3]) (M := wC ov un nx (nI L.1) fa cu st fi se th db (nI k) F) (u := 0) rfl (by decide) (gd_isPoint hk hS hw ?_)
      show mm_W _ _ _ _ _ _ _ (21, [(0, .ref 0), (1, .int x1), (2, .int x2), (3, .int x3)], [.int (bz (ckd S k x3 = 0))], wC ov un nx (nI L.1) fa cu st fi se th db (nI k) F, 0)
      refine mm_branch (mm_call_mono _ _) (c := (bz (ckd S k x3 = 0)) = 0) (s1 := (24, [(0, .ref 0), (1, .int x1), (2, .int x2), (3, .int x3)], [], wC ov un nx (nI L.1) fa cu st fi se th db (nI k) F, 0)) (s2 := (34, [(0, .ref 0), (1, .int x1), (2, .int x2), (3, .int x3)], [], wC ov un nx (nI L.1) fa cu st fi se th db (nI k) F, 0)) rfl (fun z3 => ?_) (fun z3 => ?_)
      · skip
        exact mm_ret (mm_call_mono _ _) (c := True) (r := .inr "java/lang/IllegalArgumentException") (M := wC ov un nx (nI L.1) fa cu st fi se th db (nI k) F) (u := 1) rfl trivial (by decide) (by have e9 := hQ _ _ nx fa (1, 0) (if_neg (fun z => bz_0 z3 z.2.2)) hI; exact e9)
      · skip
        have u1 := bz_1 z1
        have u2 := bz_1 z2
        have u3 := bz_1 z3
        obtain ⟨i, hi, rfl, pi⟩ := ckd_pt hk (bz_1 z1)
        have Ki := hold_pt pi (hH i hi)
        have Xi := at_kp (n := 308) (fa := 0) Ki.1 (by omega) (Nat.le_refl _)
        have Yi := at_kp (n := 308) (fa := 0) Ki.2 (by omega) (Nat.le_refl _)
        obtain ⟨j, hj, rfl, pj⟩ := ckd_pt hk (bz_1 z2)
        have Kj := hold_pt pj (hH j hj)
        have Xj := at_kp (n := 308) (fa := 0) Kj.1 (by omega) (Nat.le_refl _)
        have Yj := at_kp (n := 308) (fa := 0) Kj.2 (by omega) (Nat.le_refl _)
        obtain ⟨g, hg, rfl, pg⟩ := ckd_pt hk (bz_1 z3)
        have Kg := hold_pt pg (hH g hg)
        have Xg := at_kp (n := 308) (fa := 0) Kg.1 (by omega) (Nat.le_refl _)
        have Yg := at_kp (n := 308) (fa := 0) Kg.2 (by omega) (Nat.le_refl _)
        refine mm_skip (mm_call_mono _ _) 2 (st' := (38, [(0, .ref 0), (1, .int (nI i)), (2, .int (nI j)), (3, .int (nI g))], [.ref 1], wC ov un nx (nI L.1) fa cu st fi se th db (nI k) F, 0)) rfl ?_
        refine mm_inv (mm_call_mono _ _) (j := 122) (a := [.ref 1]) (M := wC ov un nx (nI L.1) fa cu st fi se th db (nI k) F) (u := 0) rfl (by decide) (ct_N_begin ?_)
        show mm_W _ _ _ _ _ _ _ (41, [(0, .ref 0), (1, .int (nI i)), (2, .int (nI j)), (3, .int (nI g))], [], wC ov un (nI 308) (nI L.1) 0 cu st fi se th db (nI k) F, 0)
        have s0 := stl_0 (ov := ov) (un := un) (n := 308) (fa := 0) (Or.inl rfl) (by omega)
        have E0 : (0 : Int32) = 0 → tSide v L i j g = Option.bind (xsub L.1 (v j).1 (v i).1) _ := fun _ => rfl
        have F0 : (0 : Int32) = 1 → (0 : Int32) = 0 → 308 + 300 ≤ 1332 → tSide v L i j g = none := f_0
        refine mm_skip (mm_call_mono _ _) 9 (st' := (58, [(0, .ref 0), (1, .int (nI i)), (2, .int (nI j)), (3, .int (nI g))], [.int (nI j), .ref 1, .ref 1, .ref 1, .ref 1], wC ov un (nI 308) (nI L.1) 0 cu st fi se th db (nI k) F, 0)) rfl ?_
        refine mm_inv (mm_call_mono _ _) (j := 41) (a := [.int (nI j)]) (M := wC ov un (nI 308) (nI L.1) 0 cu st fi se th db (nI k) F) (u := 0) rfl (by decide) (ct_C_xOf ?_)
        show mm_W _ _ _ _ _ _ _ (61, [(0, .ref 0), (1, .int (nI i)), (2, .int (nI j)), (3, .int (nI g))], [.int (nI (8 + 12 * j)), .ref 1, .ref 1, .ref 1, .ref 1], wC ov un (nI 308) (nI L.1) 0 cu st fi se th db (nI k) F, 0)
        refine mm_skip (mm_call_mono _ _) 1 (st' := (62, [(0, .ref 0), (1, .int (nI i)), (2, .int (nI j)), (3, .int (nI g))], [.int (nI i), .int (nI (8 + 12 * j)), .ref 1, .ref 1, .ref 1, .ref 1], wC ov un (nI 308) (nI L.1) 0 cu st fi se th db (nI k) F, 0)) rfl ?_
        refine mm_inv (mm_call_mono _ _) (j := 41) (a := [.int (nI i)]) (M := wC ov un (nI 308) (nI L.1) 0 cu st fi se th db (nI k) F) (u := 0) rfl (by decide) (ct_C_xOf ?_)
        show mm_W _ _ _ _ _ _ _ (65, [(0, .ref 0), (1, .int (nI i)), (2, .int (nI j)), (3, .int (nI g))], [.int (nI (8 + 12 * i)), .int (nI (8 + 12 * j)), .ref 1, .ref 1, .ref 1, .ref 1], wC ov un (nI 308) (nI L.1) 0 cu st fi se th db (nI k) F, 0)
        refine mm_inv (mm_call_mono _ _) (j := 130) (a := [.ref 1, .int (nI (8 + 12 * j)), .int (nI (8 + 12 * i))]) (M := wC ov un (nI 308) (nI L.1) 0 cu st fi se th db (nI k) F) (u := 0) rfl (by decide) (gw_minus hl s0.2.1 s0.1 Xj Xi (fun ov1 un1 n1 fa1 y1 h1 => ?_))
        show mm_W _ _ _ _ _ _ _ (68, [(0, .ref 0), (1, .int (nI i)), (2, .int (nI j)), (3, .int (nI g))], [.int (nI y1), .ref 1, .ref 1, .ref 1], wC ov1 un1 (nI n1) (nI L.1) fa1 cu st fi se th db (nI k) F, 0)
        have s1 := stl_L s0 h1
        have F1 := sqL_f s0 F0 E0 h1 (by omega)
        have E1 := sqL_e E0 h1
        have g1 := h1.1.1
        have Xi_1 := at_keep Xi (opL_k h1)
        have Yi_1 := at_keep Yi (opL_k h1)
        have Xj_1 := at_keep Xj (opL_k h1)
        have Yj_1 := at_keep Yj (opL_k h1)
        have Xg_1 := at_keep Xg (opL_k h1)
        have Yg_1 := at_keep Yg (opL_k h1)
        have R_1 := rd_keep R (opL_k h1)
        have W1_1 := at_newL h1
        refine mm_skip (mm_call_mono _ _) 3 (st' := (73, [(0, .ref 0), (1, .int (nI i)), (2, .int (nI j)), (3, .int (nI g))], [.int (nI g), .ref 1, .int (nI y1), .ref 1, .ref 1, .ref 1], wC ov1 un1 (nI n1) (nI L.1) fa1 cu st fi se th db (nI k) F, 0)) rfl ?_
        refine mm_inv (mm_call_mono _ _) (j := 42) (a := [.int (nI g)]) (M := wC ov1 un1 (nI n1) (nI L.1) fa1 cu st fi se th db (nI k) F) (u := 0) rfl (by decide) (ct_C_yOf ?_)
        show mm_W _ _ _ _ _ _ _ (76, [(0, .ref 0), (1, .int (nI i)), (2, .int (nI j)), (3, .int (nI g))], [.int (nI (12 + 12 * g)), .ref 1, .int (nI y1), .ref 1, .ref 1, .ref 1], wC ov1 un1 (nI n1) (nI L.1) fa1 cu st fi se th db (nI k) F, 0)
        refine mm_skip (mm_call_mono _ _) 1 (st' := (77, [(0, .ref 0), (1, .int (nI i)), (2, .int (nI j)), (3, .int (nI g))], [.int (nI i), .int (nI (12 + 12 * g)), .ref 1, .int (nI y1), .ref 1, .ref 1, .ref 1], wC ov1 un1 (nI n1) (nI L.1) fa1 cu st fi se th db (nI k) F, 0)) rfl ?_
        refine mm_inv (mm_call_mono _ _) (j := 42) (a := [.int (nI i)]) (M := wC ov1 un1 (nI n1) (nI L.1) fa1 cu st fi se th db (nI k) F) (u := 0) rfl (by decide) (ct_C_yOf ?_)
        show mm_W _ _ _ _ _ _ _ (80, [(0, .ref 0), (1, .int (nI i)), (2, .int (nI j)), (3, .int (nI g))], [.int (nI (12 + 12 * i)), .int (nI (12 + 12 * g)), .ref 1, .int (nI y1), .ref 1, .ref 1, .ref 1], wC ov1 un1 (nI n1) (nI L.1) fa1 cu st fi se th db (nI k) F, 0)
        refine mm_inv (mm_call_mono _ _) (j := 130) (a := [.ref 1, .int (nI (12 + 12 * g)), .int (nI (12 + 12 * i))]) (M := wC ov1 un1 (nI n1) (nI L.1) fa1 cu st fi se th db (nI k) F) (u := 0) rfl (by decide) (gw_minus hl s1.2.1 s1.1 Yg_1 Yi_1 (fun ov2 un2 n2 fa2 y2 h2 => ?_))
        show mm_W _ _ _ _ _ _ _ (83, [(0, .ref 0), (1, .int (nI i)), (2, .int (nI j)), (3, .int (nI g))], [.int (nI y2), .int (nI y1), .ref 1, .ref 1, .ref 1], wC ov2 un2 (nI n2) (nI L.1) fa2 cu st fi se th db (nI k) F, 0)
        have s2 := stl_L s1 h2
        have F2 := sqL_f s1 F1 E1 h2 (by omega)
        have E2 := sqL_e E1 h2
        have g2 := h2.1.1
        have Xi_2 := at_keep Xi_1 (opL_k h2)
        have Yi_2 := at_keep Yi_1 (opL_k h2)
        have Xj_2 := at_keep Xj_1 (opL_k h2)
        have Yj_2 := at_keep Yj_1 (opL_k h2)
        have Xg_2 := at_keep Xg_1 (opL_k h2)
        have Yg_2 := at_keep Yg_1 (opL_k h2)
        have W1_2 := at_keep W1_1 (opL_k h2)
        have R_2 := rd_keep R_1 (opL_k h2)
        have W2_2 := at_newL h2
        refine mm_inv (mm_call_mono _ _) (j := 131) (a := [.ref 1, .int (nI y1), .int (nI y2)]) (M := wC ov2 un2 (nI n2) (nI L.1) fa2 cu st fi se th db (nI k) F) (u := 0) rfl (by decide) (gw_times hl s2.2.1 s2.1 R_2 W1_2 W2_2 (fun ov3 un3 n3 fa3 y3 h3 => ?_))
        show mm_W _ _ _ _ _ _ _ (86, [(0, .ref 0), (1, .int (nI i)), (2, .int (nI j)), (3, .int (nI g))], [.int (nI y3), .ref 1, .ref 1], wC ov3 un3 (nI n3) (nI L.1) fa3 cu st fi se th db (nI k) F, 0)
        have s3 := stl_L s2 h3
        have F3 := sqL_f s2 F2 E2 h3 (by omega)
        have E3 := sqL_e E2 h3
        have g3 := h3.1.1
        have Xi_3 := at_keep Xi_2 (opL_k h3)
        have Yi_3 := at_keep Yi_2 (opL_k h3)
        have Xj_3 := at_keep Xj_2 (opL_k h3)
        have Yj_3 := at_keep Yj_2 (opL_k h3)
        have Xg_3 := at_keep Xg_2 (opL_k h3)
        have Yg_3 := at_keep Yg_2 (opL_k h3)
        have W1_3 := at_keep W1_2 (opL_k h3)
        have W2_3 := at_keep W2_2 (opL_k h3)
        have R_3 := rd_keep R_2 (opL_k h3)
        have W3_3 := at_newL h3
        refine mm_skip (mm_call_mono _ _) 5 (st' := (95, [(0, .ref 0), (1, .int (nI i)), (2, .int (nI j)), (3, .int (nI g))], [.int (nI j), .ref 1, .ref 1, .int (nI y3), .ref 1, .ref 1], wC ov3 un3 (nI n3) (nI L.1) fa3 cu st fi se th db (nI k) F, 0)) rfl ?_
        refine mm_inv (mm_call_mono _ _) (j := 42) (a := [.int (nI j)]) (M := wC ov3 un3 (nI n3) (nI L.1) fa3 cu st fi se th db (nI k) F) (u := 0) rfl (by decide) (ct_C_yOf ?_)
        show mm_W _ _ _ _ _ _ _ (98, [(0, .ref 0), (1, .int (nI i)), (2, .int (nI j)), (3, .int (nI g))], [.int (nI (12 + 12 * j)), .ref 1, .ref 1, .int (nI y3), .ref 1, .ref 1], wC ov3 un3 (nI n3) (nI L.1) fa3 cu st fi se th db (nI k) F, 0)
        refine mm_skip (mm_call_mono _ _) 1 (st' := (99, [(0, .ref 0), (1, .int (nI i)), (2, .int (nI j)), (3, .int (nI g))], [.int (nI i), .int (nI (12 + 12 * j)), .ref 1, .ref 1, .int (nI y3), .ref 1, .ref 1], wC ov3 un3 (nI n3) (nI L.1) fa3 cu st fi se th db (nI k) F, 0)) rfl ?_
        refine mm_inv (mm_call_mono _ _) (j := 42) (a := [.int (nI i)]) (M := wC ov3 un3 (nI n3) (nI L.1) fa3 cu st fi se th db (nI k) F) (u := 0) rfl (by decide) (ct_C_yOf ?_)
        show mm_W _ _ _ _ _ _ _ (102, [(0, .ref 0), (1, .int (nI i)), (2, .int (nI j)), (3, .int (nI g))], [.int (nI (12 + 12 * i)), .int (nI (12 + 12 * j)), .ref 1, .ref 1, .int (nI y3), .ref 1, .ref 1], wC ov3 un3 (nI n3) (nI L.1) fa3 cu st fi se th db (nI k) F, 0)
        refine mm_inv (mm_call_mono _ _) (j := 130) (a := [.ref 1, .int (nI (12 + 12 * j)), .int (nI (12 + 12 * i))]) (M := wC ov3 un3 (nI n3) (nI L.1) fa3 cu st fi se th db (nI k) F) (u := 0) rfl (by decide) (gw_minus hl s3.2.1 s3.1 Yj_3 Yi_3 (fun ov4 un4 n4 fa4 y4 h4 => ?_))
        show mm_W _ _ _ _ _ _ _ (105, [(0, .ref 0), (1, .int (nI i)), (2, .int (nI j)), (3, .int (nI g))], [.int (nI y4), .ref 1, .int (nI y3), .ref 1, .ref 1], wC ov4 un4 (nI n4) (nI L.1) fa4 cu st fi se th db (nI k) F, 0)
        have s4 := stl_L s3 h4
        have F4 := sqL_f s3 F3 E3 h4 (by omega)
        have E4 := sqL_e E3 h4
        have g4 := h4.1.1
        have Xi_4 := at_keep Xi_3 (opL_k h4)
        have Yi_4 := at_keep Yi_3 (opL_k h4)
        have Xj_4 := at_keep Xj_3 (opL_k h4)
        have Yj_4 := at_keep Yj_3 (opL_k h4)
        have Xg_4 := at_keep Xg_3 (opL_k h4)
        have Yg_4 := at_keep Yg_3 (opL_k h4)
        have W1_4 := at_keep W1_3 (opL_k h4)
        have W2_4 := at_keep W2_3 (opL_k h4)
        have W3_4 := at_keep W3_3 (opL_k h4)
        have R_4 := rd_keep R_3 (opL_k h4)
        have W4_4 := at_newL h4
        refine mm_skip (mm_call_mono _ _) 3 (st' := (110, [(0, .ref 0), (1, .int (nI i)), (2, .int (nI j)), (3, .int (nI g))], [.int (nI g), .ref 1, .int (nI y4), .ref 1, .int (nI y3), .ref 1, .ref 1], wC ov4 un4 (nI n4) (nI L.1) fa4 cu st fi se th db (nI k) F, 0)) rfl ?_
        refine mm_inv (mm_call_mono _ _) (j := 41) (a := [.int (nI g)]) (M := wC ov4 un4 (nI n4) (nI L.1) fa4 cu st fi se th db (nI k) F) (u := 0) rfl (by decide) (ct_C_xOf ?_)
        show mm_W _ _ _ _ _ _ _ (113, [(0, .ref 0), (1, .int (nI i)), (2, .int (nI j)), (3, .int (nI g))], [.int (nI (8 + 12 * g)), .ref 1, .int (nI y4), .ref 1, .int (nI y3), .ref 1, .ref 1], wC ov4 un4 (nI n4) (nI L.1) fa4 cu st fi se th db (nI k) F, 0)
        refine mm_skip (mm_call_mono _ _) 1 (st' := (114, [(0, .ref 0), (1, .int (nI i)), (2, .int (nI j)), (3, .int (nI g))], [.int (nI i), .int (nI (8 + 12 * g)), .ref 1, .int (nI y4), .ref 1, .int (nI y3), .ref 1, .ref 1], wC ov4 un4 (nI n4) (nI L.1) fa4 cu st fi se th db (nI k) F, 0)) rfl ?_
        refine mm_inv (mm_call_mono _ _) (j := 41) (a := [.int (nI i)]) (M := wC ov4 un4 (nI n4) (nI L.1) fa4 cu st fi se th db (nI k) F) (u := 0) rfl (by decide) (ct_C_xOf ?_)
        show mm_W _ _ _ _ _ _ _ (117, [(0, .ref 0), (1, .int (nI i)), (2, .int (nI j)), (3, .int (nI g))], [.int (nI (8 + 12 * i)), .int (nI (8 + 12 * g)), .ref 1, .int (nI y4), .ref 1, .int (nI y3), .ref 1, .ref 1], wC ov4 un4 (nI n4) (nI L.1) fa4 cu st fi se th db (nI k) F, 0)
        refine mm_inv (mm_call_mono _ _) (j := 130) (a := [.ref 1, .int (nI (8 + 12 * g)), .int (nI (8 + 12 * i))]) (M := wC ov4 un4 (nI n4) (nI L.1) fa4 cu st fi se th db (nI k) F) (u := 0) rfl (by decide) (gw_minus hl s4.2.1 s4.1 Xg_4 Xi_4 (fun ov5 un5 n5 fa5 y5 h5 => ?_))
        show mm_W _ _ _ _ _ _ _ (120, [(0, .ref 0), (1, .int (nI i)), (2, .int (nI j)), (3, .int (nI g))], [.int (nI y5), .int (nI y4), .ref 1, .int (nI y3), .ref 1, .ref 1], wC ov5 un5 (nI n5) (nI L.1) fa5 cu st fi se th db (nI k) F, 0)
        have s5 := stl_L s4 h5
        have F5 := sqL_f s4 F4 E4 h5 (by omega)
        have E5 := sqL_e E4 h5
        have g5 := h5.1.1
        have Xi_5 := at_keep Xi_4 (opL_k h5)
        have Yi_5 := at_keep Yi_4 (opL_k h5)
        have Xj_5 := at_keep Xj_4 (opL_k h5)
        have Yj_5 := at_keep Yj_4 (opL_k h5)
        have Xg_5 := at_keep Xg_4 (opL_k h5)
        have Yg_5 := at_keep Yg_4 (opL_k h5)
        have W1_5 := at_keep W1_4 (opL_k h5)
        have W2_5 := at_keep W2_4 (opL_k h5)
        have W3_5 := at_keep W3_4 (opL_k h5)
        have W4_5 := at_keep W4_4 (opL_k h5)
        have R_5 := rd_keep R_4 (opL_k h5)
        have W5_5 := at_newL h5
        refine mm_inv (mm_call_mono _ _) (j := 131) (a := [.ref 1, .int (nI y4), .int (nI y5)]) (M := wC ov5 un5 (nI n5) (nI L.1) fa5 cu st fi se th db (nI k) F) (u := 0) rfl (by decide) (gw_times hl s5.2.1 s5.1 R_5 W4_5 W5_5 (fun ov6 un6 n6 fa6 y6 h6 => ?_))
        show mm_W _ _ _ _ _ _ _ (123, [(0, .ref 0), (1, .int (nI i)), (2, .int (nI j)), (3, .int (nI g))], [.int (nI y6), .int (nI y3), .ref 1, .ref 1], wC ov6 un6 (nI n6) (nI L.1) fa6 cu st fi se th db (nI k) F, 0)
        have s6 := stl_L s5 h6
        have F6 := sqL_f s5 F5 E5 h6 (by omega)
        have E6 := sqL_e E5 h6
        have g6 := h6.1.1
        have Xi_6 := at_keep Xi_5 (opL_k h6)
        have Yi_6 := at_keep Yi_5 (opL_k h6)
        have Xj_6 := at_keep Xj_5 (opL_k h6)
        have Yj_6 := at_keep Yj_5 (opL_k h6)
        have Xg_6 := at_keep Xg_5 (opL_k h6)
        have Yg_6 := at_keep Yg_5 (opL_k h6)
        have W1_6 := at_keep W1_5 (opL_k h6)
        have W2_6 := at_keep W2_5 (opL_k h6)
        have W3_6 := at_keep W3_5 (opL_k h6)
        have W4_6 := at_keep W4_5 (opL_k h6)
        have W5_6 := at_keep W5_5 (opL_k h6)
        have R_6 := rd_keep R_5 (opL_k h6)
        have W6_6 := at_newL h6
        refine mm_inv (mm_call_mono _ _) (j := 130) (a := [.ref 1, .int (nI y3), .int (nI y6)]) (M := wC ov6 un6 (nI n6) (nI L.1) fa6 cu st fi se th db (nI k) F) (u := 0) rfl (by decide) (gw_minus hl s6.2.1 s6.1 W3_6 W6_6 (fun ov7 un7 n7 fa7 y7 h7 => ?_))
        show mm_W _ _ _ _ _ _ _ (126, [(0, .ref 0), (1, .int (nI i)), (2, .int (nI j)), (3, .int (nI g))], [.int (nI y7), .ref 1], wC ov7 un7 (nI n7) (nI L.1) fa7 cu st fi se th db (nI k) F, 0)
        have s7 := stl_L s6 h7
        have F7 := sqL_f s6 F6 E6 h7 (by omega)
        have E7 := sqL_e E6 h7
        have g7 := h7.1.1
        have Xi_7 := at_keep Xi_6 (opL_k h7)
        have Yi_7 := at_keep Yi_6 (opL_k h7)
        have Xj_7 := at_keep Xj_6 (opL_k h7)
        have Yj_7 := at_keep Yj_6 (opL_k h7)
        have Xg_7 := at_keep Xg_6 (opL_k h7)
        have Yg_7 := at_keep Yg_6 (opL_k h7)
        have W1_7 := at_keep W1_6 (opL_k h7)
        have W2_7 := at_keep W2_6 (opL_k h7)
        have W3_7 := at_keep W3_6 (opL_k h7)
        have W4_7 := at_keep W4_6 (opL_k h7)
        have W5_7 := at_keep W5_6 (opL_k h7)
        have W6_7 := at_keep W6_6 (opL_k h7)
        have R_7 := rd_keep R_6 (opL_k h7)
        have W7_7 := at_newL h7
        refine mm_inv (mm_call_mono _ _) (j := 135) (a := [.ref 1, .int (nI y7)]) (M := wC ov7 un7 (nI n7) (nI L.1) fa7 cu st fi se th db (nI k) F) (u := 0) rfl (by decide) (gw_signum hl s7.2.1 s7.1 R_7 W7_7 (fun ov8 un8 n8 fa8 sv h8 => ?_))
        show mm_W _ _ _ _ _ _ _ (129, [(0, .ref 0), (1, .int (nI i)), (2, .int (nI j)), (3, .int (nI g))], [.int sv], wC ov8 un8 (nI n8) (nI L.1) fa8 cu st fi se th db (nI k) F, 0)
        have s8 := stl_g s7 h8
        have F8 := sg_f s7 F7 E7 h8 (by omega)
        have E8 := sg_e E7 h8
        refine mm_skip (mm_call_mono _ _) 2 (st' := (132, [(4, .int sv), (0, .ref 0), (1, .int (nI i)), (2, .int (nI j)), (3, .int (nI g))], [.ref 0], wC ov8 un8 (nI n8) (nI L.1) fa8 cu st fi se th db (nI k) F, 0)) rfl ?_
        refine mm_inv (mm_call_mono _ _) (j := 26) (a := [.ref 0]) (M := wC ov8 un8 (nI n8) (nI L.1) fa8 cu st fi se th db (nI k) F) (u := 1) rfl (by decide) (gd_refuse (fun hz => (by have e9 := hQ _ _ (nI n8) fa8 (2, 0) ((show qSide S k (nI i) (nI j) (nI g) = oI (tSide v L i j g) from (if_pos ⟨u1, u2, u3⟩).trans (by rw [hgv, cl_n (by omega), cl_n (by omega), cl_n (by omega)])).trans (by rw [F8 (mm_z1 s8.2.1 hz) rfl (by omega)]; rfl)) (cI_k hI s8.2.2.1); exact e9)) (fun hz => ?_))
        show mm_W _ _ _ _ _ _ _ (135, [(4, .int sv), (0, .ref 0), (1, .int (nI i)), (2, .int (nI j)), (3, .int (nI g))], [], wC ov8 un8 (nI n8) (nI L.1) fa8 cu st fi se th db (nI k) F, 1)
        refine mm_skip (mm_call_mono _ _) 1 (st' := (137, [(4, .int sv), (0, .ref 0), (1, .int (nI i)), (2, .int (nI j)), (3, .int (nI g))], [.int sv], wC ov8 un8 (nI n8) (nI L.1) fa8 cu st fi se th db (nI k) F, 1)) rfl ?_
        exact mm_ret (mm_call_mono _ _) (c := True) (r := .inl (some (.int sv))) (M := wC ov8 un8 (nI n8) (nI L.1) fa8 cu st fi se th db (nI k) F) (u := 1) rfl trivial (by decide) (by have e9 := hQ _ _ (nI n8) fa8 (0, sv) ((show qSide S k (nI i) (nI j) (nI g) = oI (tSide v L i j g) from (if_pos ⟨u1, u2, u3⟩).trans (by rw [hgv, cl_n (by omega), cl_n (by omega), cl_n (by omega)])).trans (by rw [E8 hz]; exact congrArg (Prod.mk 0) (Int32.ofInt_toInt _))) (cI_k hI s8.2.2.1); exact e9)

set_option maxRecDepth 100000 in
theorem gw_whole {d : Nat} {ov un : Nat → Int32} {dp fa : Int32} {cu : mm_cu} {st fi se th db : Nat → Int32} {cn : Int32} {F : mm_M} {n : Nat} {p : Int32} {Q : mm_R → mm_M → Prop} (hfa : mm_z fa) (hn : 308 ≤ n ∧ n ≤ 1332) (hQ : ∀ (ov1 un1 : Nat → Int32) (n1 : Nat) (fa1 : Int32) (r : Nat), opL ov un n fa 4 4 ((fmk p.toInt 1).map em) ov1 un1 n1 fa1 r → Q (.inl (some (.int (nI r)))) (wC ov1 un1 (nI n1) dp fa1 cu st fi se th db cn F)) : mm_call mm_Tb (d + 3) 127 [.ref 1, .int p] (wC ov un (nI n) dp fa cu st fi se th db cn F) Q := by
  refine mm_in mt_127 (Nat.le_of_ble_eq_true rfl) ?_
  show mm_W _ _ _ _ _ _ _ (0, [(0, .ref 1), (1, .int p)], [], wC ov un (nI n) dp fa cu st fi se th db cn F, 0)
  refine mm_skip (mm_call_mono _ _) 3 (st' := (3, [(0, .ref 1), (1, .int p)], [.int 1, .int p, .ref 1], wC ov un (nI n) dp fa cu st fi se th db cn F, 0)) rfl ?_
  refine mm_inv (mm_call_mono _ _) (j := 128) (a := [.ref 1, .int p, .int 1]) (M := wC ov un (nI n) dp fa cu st fi se th db cn F) (u := 0) rfl (by decide) (gw_quot hfa hn (by decide) (fun ov1 un1 n1 fa1 r h => ?_))
  show mm_W _ _ _ _ _ _ _ (6, [(0, .ref 1), (1, .int p)], [.int (nI r)], wC ov1 un1 (nI n1) dp fa1 cu st fi se th db cn F, 0)
  exact mm_ret (mm_call_mono _ _) (c := True) (r := .inl (some (.int (nI r)))) (M := wC ov1 un1 (nI n1) dp fa1 cu st fi se th db cn F) (u := 0) rfl trivial (by decide) (hQ _ _ _ _ _ h)

set_option maxRecDepth 100000 in
theorem gq_sign0 {d : Nat} {ov un : Nat → Int32} {nx fa : Int32} {cu : mm_cu} {st fi se th db : Nat → Int32} {F : mm_M} {S : Nat → stp} {k : Nat} {v : Nat → o3} {L : lvR} {x1 x2 x3 : Int32} {Q : mm_R → mm_M → Prop} (hy : x2 = 0) (hI : cI S k ov un (nI L.1) st fi se th db (nI k)) (hdr : dr S k = some (v, L)) (hl : L.1 ≤ 2) (R : rdA ov un 308 0 L) (hH : ∀ i, i < k → hold (us (S i).1) ov un i (v i)) (hQ : ∀ (ov1 un1 : Nat → Int32) (nx1 fa1 : Int32) (r : oc), qSign S k x1 x2 x3 = r → cI S k ov1 un1 (nI L.1) st fi se th db (nI k) → Q (toQ r) (wC ov1 un1 nx1 (nI L.1) fa1 cu st fi se th db (nI k) F)) : mm_call mm_Tb (d + 8) 12 [.ref 0, .int x1, .int x2, .int x3] (wC ov un nx (nI L.1) fa cu st fi se th db (nI k) F) Q := by
  have hk := hI.1
  have hS := hI.2.2.1
  have hw := hI.2.2.2.1
  have hgv := gv_s hdr
  refine mm_in mt_12 (Nat.le_of_ble_eq_true rfl) ?_
  show mm_W _ _ _ _ _ _ _ (0, [(0, .ref 0), (1, .int x1), (2, .int x2), (3, .int x3)], [], wC ov un nx (nI L.1) fa cu st fi se th db (nI k) F, 0)
  refine mm_skip (mm_call_mono _ _) 2 (st' := (2, [(0, .ref 0), (1, .int x1), (2, .int x2), (3, .int x3)], [.int x1, .ref 0], wC ov un nx (nI L.1) fa cu st fi se th db (nI k) F, 0)) rfl ?_
  refine mm_inv (mm_call_mono _ _) (j := 18) (a := [.ref 0, .int x1]) (M := wC ov un nx (nI L.1) fa cu st fi se th db (nI k) F) (u := 0) rfl (by decide) (gd_isPoint hk hS hw ?_)
  show mm_W _ _ _ _ _ _ _ (5, [(0, .ref 0), (1, .int x1), (2, .int x2), (3, .int x3)], [.int (bz (ckd S k x1 = 0))], wC ov un nx (nI L.1) fa cu st fi se th db (nI k) F, 0)
  refine mm_branch (mm_call_mono _ _) (c := (bz (ckd S k x1 = 0)) = 0) (s1 := (20, [(0, .ref 0), (1, .int x1), (2, .int x2), (3, .int x3)], [], wC ov un nx (nI L.1) fa cu st fi se th db (nI k) F, 0)) (s2 := (8, [(0, .ref 0), (1, .int x1), (2, .int x2), (3, .int x3)], [], wC ov un nx (nI L.1) fa cu st fi se th db (nI k) F, 0)) rfl (fun z1 => ?_) (fun z1 => ?_)
  · skip
    exact mm_ret (mm_call_mono _ _) (c := True) (r := .inr "java/lang/IllegalArgumentException") (M := wC ov un nx (nI L.1) fa cu st fi se th db (nI k) F) (u := 1) rfl trivial (by decide) (by have e9 := hQ _ _ nx fa (1, 0) (if_neg (fun z => bz_0 z1 z.1)) hI; exact e9)
  · skip
    refine mm_skip (mm_call_mono _ _) 2 (st' := (11, [(0, .ref 0), (1, .int x1), (2, .int x2), (3, .int x3)], [.int (-1000000), .int x3], wC ov un nx (nI L.1) fa cu st fi se th db (nI k) F, 0)) rfl ?_
    refine mm_branch (mm_call_mono _ _) (c := x3 < (-1000000)) (s1 := (20, [(0, .ref 0), (1, .int x1), (2, .int x2), (3, .int x3)], [], wC ov un nx (nI L.1) fa cu st fi se th db (nI k) F, 0)) (s2 := (14, [(0, .ref 0), (1, .int x1), (2, .int x2), (3, .int x3)], [], wC ov un nx (nI L.1) fa cu st fi se th db (nI k) F, 0)) rfl (fun z2 => ?_) (fun z2 => ?_)
    · skip
      exact mm_ret (mm_call_mono _ _) (c := True) (r := .inr "java/lang/IllegalArgumentException") (M := wC ov un nx (nI L.1) fa cu st fi se th db (nI k) F) (u := 1) rfl trivial (by decide) (by have e9 := hQ _ _ nx fa (1, 0) (if_neg (fun z => z.2.1 z2)) hI; exact e9)
    · skip
      refine mm_skip (mm_call_mono _ _) 2 (st' := (17, [(0, .ref 0), (1, .int x1), (2, .int x2), (3, .int x3)], [.int 1000000, .int x3], wC ov un nx (nI L.1) fa cu st fi se th db (nI k) F, 0)) rfl ?_
      refine mm_branch (mm_call_mono _ _) (c := x3 ≤ 1000000) (s1 := (30, [(0, .ref 0), (1, .int x1), (2, .int x2), (3, .int x3)], [], wC ov un nx (nI L.1) fa cu st fi se th db (nI k) F, 0)) (s2 := (20, [(0, .ref 0), (1, .int x1), (2, .int x2), (3, .int x3)], [], wC ov un nx (nI L.1) fa cu st fi se th db (nI k) F, 0)) rfl (fun z3 => ?_) (fun z3 => ?_)
      · skip
        have u1 := bz_1 z1
        obtain ⟨i, hi, rfl, pi⟩ := ckd_pt hk (bz_1 z1)
        have Ki := hold_pt pi (hH i hi)
        have Xi := at_kp (n := 308) (fa := 0) Ki.1 (by omega) (Nat.le_refl _)
        have Yi := at_kp (n := 308) (fa := 0) Ki.2 (by omega) (Nat.le_refl _)
        refine mm_skip (mm_call_mono _ _) 2 (st' := (34, [(0, .ref 0), (1, .int (nI i)), (2, .int x2), (3, .int x3)], [.ref 1], wC ov un nx (nI L.1) fa cu st fi se th db (nI k) F, 0)) rfl ?_
        refine mm_inv (mm_call_mono _ _) (j := 122) (a := [.ref 1]) (M := wC ov un nx (nI L.1) fa cu st fi se th db (nI k) F) (u := 0) rfl (by decide) (ct_N_begin ?_)
        show mm_W _ _ _ _ _ _ _ (37, [(0, .ref 0), (1, .int (nI i)), (2, .int x2), (3, .int x3)], [], wC ov un (nI 308) (nI L.1) 0 cu st fi se th db (nI k) F, 0)
        have s0 := stl_0 (ov := ov) (un := un) (n := 308) (fa := 0) (Or.inl rfl) (by omega)
        have E0 : (0 : Int32) = 0 → tSign L (v i).1 x3.toInt = Option.bind ((fmk x3.toInt 1).map em) _ := fun _ => rfl
        have F0 : (0 : Int32) = 1 → (0 : Int32) = 0 → 308 + 200 ≤ 1332 → tSign L (v i).1 x3.toInt = none := f_0
        refine mm_skip (mm_call_mono _ _) 5 (st' := (46, [(0, .ref 0), (1, .int (nI i)), (2, .int x2), (3, .int x3)], [.int x2, .ref 1, .ref 1], wC ov un (nI 308) (nI L.1) 0 cu st fi se th db (nI k) F, 0)) rfl ?_
        refine mm_branch (mm_call_mono _ _) (c := x2 = 0) (s1 := (56, [(0, .ref 0), (1, .int (nI i)), (2, .int x2), (3, .int x3)], [.ref 1, .ref 1], wC ov un (nI 308) (nI L.1) 0 cu st fi se th db (nI k) F, 0)) (s2 := (49, [(0, .ref 0), (1, .int (nI i)), (2, .int x2), (3, .int x3)], [.ref 1, .ref 1], wC ov un (nI 308) (nI L.1) 0 cu st fi se th db (nI k) F, 0)) rfl (fun _ => ?_) (fun h => absurd hy h)
        refine mm_skip (mm_call_mono _ _) 1 (st' := (57, [(0, .ref 0), (1, .int (nI i)), (2, .int x2), (3, .int x3)], [.int (nI i), .ref 1, .ref 1], wC ov un (nI 308) (nI L.1) 0 cu st fi se th db (nI k) F, 0)) rfl ?_
        refine mm_inv (mm_call_mono _ _) (j := 41) (a := [.int (nI i)]) (M := wC ov un (nI 308) (nI L.1) 0 cu st fi se th db (nI k) F) (u := 0) rfl (by decide) (ct_C_xOf ?_)
        show mm_W _ _ _ _ _ _ _ (60, [(0, .ref 0), (1, .int (nI i)), (2, .int x2), (3, .int x3)], [.int (nI (8 + 12 * i)), .ref 1, .ref 1], wC ov un (nI 308) (nI L.1) 0 cu st fi se th db (nI k) F, 0)
        refine mm_skip (mm_call_mono _ _) 3 (st' := (65, [(0, .ref 0), (1, .int (nI i)), (2, .int x2), (3, .int x3)], [.int x3, .ref 1, .int (nI (8 + 12 * i)), .ref 1, .ref 1], wC ov un (nI 308) (nI L.1) 0 cu st fi se th db (nI k) F, 0)) rfl ?_
        refine mm_inv (mm_call_mono _ _) (j := 127) (a := [.ref 1, .int x3]) (M := wC ov un (nI 308) (nI L.1) 0 cu st fi se th db (nI k) F) (u := 0) rfl (by decide) (gw_whole s0.2.1 s0.1 (fun ov1 un1 n1 fa1 y1 h1 => ?_))
        show mm_W _ _ _ _ _ _ _ (68, [(0, .ref 0), (1, .int (nI i)), (2, .int x2), (3, .int x3)], [.int (nI y1), .int (nI (8 + 12 * i)), .ref 1, .ref 1], wC ov1 un1 (nI n1) (nI L.1) fa1 cu st fi se th db (nI k) F, 0)
        have s1 := stl_L s0 h1
        have F1 := sqL_f s0 F0 E0 h1 (by omega)
        have E1 := sqL_e E0 h1
        have g1 := h1.1.1
        have Xi_1 := at_keep Xi (opL_k h1)
        have Yi_1 := at_keep Yi (opL_k h1)
        have R_1 := rd_keep R (opL_k h1)
        have W1_1 := at_newL h1
        refine mm_inv (mm_call_mono _ _) (j := 130) (a := [.ref 1, .int (nI (8 + 12 * i)), .int (nI y1)]) (M := wC ov1 un1 (nI n1) (nI L.1) fa1 cu st fi se th db (nI k) F) (u := 0) rfl (by decide) (gw_minus hl s1.2.1 s1.1 Xi_1 W1_1 (fun ov2 un2 n2 fa2 y2 h2 => ?_))
        show mm_W _ _ _ _ _ _ _ (71, [(0, .ref 0), (1, .int (nI i)), (2, .int x2), (3, .int x3)], [.int (nI y2), .ref 1], wC ov2 un2 (nI n2) (nI L.1) fa2 cu st fi se th db (nI k) F, 0)
        have s2 := stl_L s1 h2
        have F2 := sqL_f s1 F1 E1 h2 (by omega)
        have E2 := sqL_e E1 h2
        have g2 := h2.1.1
        have Xi_2 := at_keep Xi_1 (opL_k h2)
        have Yi_2 := at_keep Yi_1 (opL_k h2)
        have W1_2 := at_keep W1_1 (opL_k h2)
        have R_2 := rd_keep R_1 (opL_k h2)
        have W2_2 := at_newL h2
        refine mm_inv (mm_call_mono _ _) (j := 135) (a := [.ref 1, .int (nI y2)]) (M := wC ov2 un2 (nI n2) (nI L.1) fa2 cu st fi se th db (nI k) F) (u := 0) rfl (by decide) (gw_signum hl s2.2.1 s2.1 R_2 W2_2 (fun ov3 un3 n3 fa3 sv h3 => ?_))
        show mm_W _ _ _ _ _ _ _ (74, [(0, .ref 0), (1, .int (nI i)), (2, .int x2), (3, .int x3)], [.int sv], wC ov3 un3 (nI n3) (nI L.1) fa3 cu st fi se th db (nI k) F, 0)
        have s3 := stl_g s2 h3
        have F3 := sg_f s2 F2 E2 h3 (by omega)
        have E3 := sg_e E2 h3
        refine mm_skip (mm_call_mono _ _) 2 (st' := (77, [(4, .int sv), (0, .ref 0), (1, .int (nI i)), (2, .int x2), (3, .int x3)], [.ref 0], wC ov3 un3 (nI n3) (nI L.1) fa3 cu st fi se th db (nI k) F, 0)) rfl ?_
        refine mm_inv (mm_call_mono _ _) (j := 26) (a := [.ref 0]) (M := wC ov3 un3 (nI n3) (nI L.1) fa3 cu st fi se th db (nI k) F) (u := 1) rfl (by decide) (gd_refuse (fun hz => (by have e9 := hQ _ _ (nI n3) fa3 (2, 0) ((show qSign S k (nI i) x2 x3 = oI (tSign L (v i).1 x3.toInt) from (if_pos ⟨u1, z2, z3⟩).trans (by rw [hgv, cl_n (by omega), if_pos hy])).trans (by rw [F3 (mm_z1 s3.2.1 hz) rfl (by omega)]; rfl)) (cI_k hI s3.2.2.1); exact e9)) (fun hz => ?_))
        show mm_W _ _ _ _ _ _ _ (80, [(4, .int sv), (0, .ref 0), (1, .int (nI i)), (2, .int x2), (3, .int x3)], [], wC ov3 un3 (nI n3) (nI L.1) fa3 cu st fi se th db (nI k) F, 1)
        refine mm_skip (mm_call_mono _ _) 1 (st' := (82, [(4, .int sv), (0, .ref 0), (1, .int (nI i)), (2, .int x2), (3, .int x3)], [.int sv], wC ov3 un3 (nI n3) (nI L.1) fa3 cu st fi se th db (nI k) F, 1)) rfl ?_
        exact mm_ret (mm_call_mono _ _) (c := True) (r := .inl (some (.int sv))) (M := wC ov3 un3 (nI n3) (nI L.1) fa3 cu st fi se th db (nI k) F) (u := 1) rfl trivial (by decide) (by have e9 := hQ _ _ (nI n3) fa3 (0, sv) ((show qSign S k (nI i) x2 x3 = oI (tSign L (v i).1 x3.toInt) from (if_pos ⟨u1, z2, z3⟩).trans (by rw [hgv, cl_n (by omega), if_pos hy])).trans (by rw [E3 hz]; exact congrArg (Prod.mk 0) (Int32.ofInt_toInt _))) (cI_k hI s3.2.2.1); exact e9)
      · skip
        exact mm_ret (mm_call_mono _ _) (c := True) (r := .inr "java/lang/IllegalArgumentException") (M := wC ov un nx (nI L.1) fa cu st fi se th db (nI k) F) (u := 1) rfl trivial (by decide) (by have e9 := hQ _ _ nx fa (1, 0) (if_neg (fun z => z3 z.2.2)) hI; exact e9)

set_option maxRecDepth 100000 in
theorem gq_sign1 {d : Nat} {ov un : Nat → Int32} {nx fa : Int32} {cu : mm_cu} {st fi se th db : Nat → Int32} {F : mm_M} {S : Nat → stp} {k : Nat} {v : Nat → o3} {L : lvR} {x1 x2 x3 : Int32} {Q : mm_R → mm_M → Prop} (hy : ¬ x2 = 0) (hI : cI S k ov un (nI L.1) st fi se th db (nI k)) (hdr : dr S k = some (v, L)) (hl : L.1 ≤ 2) (R : rdA ov un 308 0 L) (hH : ∀ i, i < k → hold (us (S i).1) ov un i (v i)) (hQ : ∀ (ov1 un1 : Nat → Int32) (nx1 fa1 : Int32) (r : oc), qSign S k x1 x2 x3 = r → cI S k ov1 un1 (nI L.1) st fi se th db (nI k) → Q (toQ r) (wC ov1 un1 nx1 (nI L.1) fa1 cu st fi se th db (nI k) F)) : mm_call mm_Tb (d + 8) 12 [.ref 0, .int x1, .int x2, .int x3] (wC ov un nx (nI L.1) fa cu st fi se th db (nI k) F) Q := by
  have hk := hI.1
  have hS := hI.2.2.1
  have hw := hI.2.2.2.1
  have hgv := gv_s hdr
  refine mm_in mt_12 (Nat.le_of_ble_eq_true rfl) ?_
  show mm_W _ _ _ _ _ _ _ (0, [(0, .ref 0), (1, .int x1), (2, .int x2), (3, .int x3)], [], wC ov un nx (nI L.1) fa cu st fi se th db (nI k) F, 0)
  refine mm_skip (mm_call_mono _ _) 2 (st' := (2, [(0, .ref 0), (1, .int x1), (2, .int x2), (3, .int x3)], [.int x1, .ref 0], wC ov un nx (nI L.1) fa cu st fi se th db (nI k) F, 0)) rfl ?_
  refine mm_inv (mm_call_mono _ _) (j := 18) (a := [.ref 0, .int x1]) (M := wC ov un nx (nI L.1) fa cu st fi se th db (nI k) F) (u := 0) rfl (by decide) (gd_isPoint hk hS hw ?_)
  show mm_W _ _ _ _ _ _ _ (5, [(0, .ref 0), (1, .int x1), (2, .int x2), (3, .int x3)], [.int (bz (ckd S k x1 = 0))], wC ov un nx (nI L.1) fa cu st fi se th db (nI k) F, 0)
  refine mm_branch (mm_call_mono _ _) (c := (bz (ckd S k x1 = 0)) = 0) (s1 := (20, [(0, .ref 0), (1, .int x1), (2, .int x2), (3, .int x3)], [], wC ov un nx (nI L.1) fa cu st fi se th db (nI k) F, 0)) (s2 := (8, [(0, .ref 0), (1, .int x1), (2, .int x2), (3, .int x3)], [], wC ov un nx (nI L.1) fa cu st fi se th db (nI k) F, 0)) rfl (fun z1 => ?_) (fun z1 => ?_)
  · skip
    exact mm_ret (mm_call_mono _ _) (c := True) (r := .inr "java/lang/IllegalArgumentException") (M := wC ov un nx (nI L.1) fa cu st fi se th db (nI k) F) (u := 1) rfl trivial (by decide) (by have e9 := hQ _ _ nx fa (1, 0) (if_neg (fun z => bz_0 z1 z.1)) hI; exact e9)
  · skip
    refine mm_skip (mm_call_mono _ _) 2 (st' := (11, [(0, .ref 0), (1, .int x1), (2, .int x2), (3, .int x3)], [.int (-1000000), .int x3], wC ov un nx (nI L.1) fa cu st fi se th db (nI k) F, 0)) rfl ?_
    refine mm_branch (mm_call_mono _ _) (c := x3 < (-1000000)) (s1 := (20, [(0, .ref 0), (1, .int x1), (2, .int x2), (3, .int x3)], [], wC ov un nx (nI L.1) fa cu st fi se th db (nI k) F, 0)) (s2 := (14, [(0, .ref 0), (1, .int x1), (2, .int x2), (3, .int x3)], [], wC ov un nx (nI L.1) fa cu st fi se th db (nI k) F, 0)) rfl (fun z2 => ?_) (fun z2 => ?_)
    · skip
      exact mm_ret (mm_call_mono _ _) (c := True) (r := .inr "java/lang/IllegalArgumentException") (M := wC ov un nx (nI L.1) fa cu st fi se th db (nI k) F) (u := 1) rfl trivial (by decide) (by have e9 := hQ _ _ nx fa (1, 0) (if_neg (fun z => z.2.1 z2)) hI; exact e9)
    · skip
      refine mm_skip (mm_call_mono _ _) 2 (st' := (17, [(0, .ref 0), (1, .int x1), (2, .int x2), (3, .int x3)], [.int 1000000, .int x3], wC ov un nx (nI L.1) fa cu st fi se th db (nI k) F, 0)) rfl ?_
      refine mm_branch (mm_call_mono _ _) (c := x3 ≤ 1000000) (s1 := (30, [(0, .ref 0), (1, .int x1), (2, .int x2), (3, .int x3)], [], wC ov un nx (nI L.1) fa cu st fi se th db (nI k) F, 0)) (s2 := (20, [(0, .ref 0), (1, .int x1), (2, .int x2), (3, .int x3)], [], wC ov un nx (nI L.1) fa cu st fi se th db (nI k) F, 0)) rfl (fun z3 => ?_) (fun z3 => ?_)
      · skip
        have u1 := bz_1 z1
        obtain ⟨i, hi, rfl, pi⟩ := ckd_pt hk (bz_1 z1)
        have Ki := hold_pt pi (hH i hi)
        have Xi := at_kp (n := 308) (fa := 0) Ki.1 (by omega) (Nat.le_refl _)
        have Yi := at_kp (n := 308) (fa := 0) Ki.2 (by omega) (Nat.le_refl _)
        refine mm_skip (mm_call_mono _ _) 2 (st' := (34, [(0, .ref 0), (1, .int (nI i)), (2, .int x2), (3, .int x3)], [.ref 1], wC ov un nx (nI L.1) fa cu st fi se th db (nI k) F, 0)) rfl ?_
        refine mm_inv (mm_call_mono _ _) (j := 122) (a := [.ref 1]) (M := wC ov un nx (nI L.1) fa cu st fi se th db (nI k) F) (u := 0) rfl (by decide) (ct_N_begin ?_)
        show mm_W _ _ _ _ _ _ _ (37, [(0, .ref 0), (1, .int (nI i)), (2, .int x2), (3, .int x3)], [], wC ov un (nI 308) (nI L.1) 0 cu st fi se th db (nI k) F, 0)
        have s0 := stl_0 (ov := ov) (un := un) (n := 308) (fa := 0) (Or.inl rfl) (by omega)
        have E0 : (0 : Int32) = 0 → tSign L (v i).2.1 x3.toInt = Option.bind ((fmk x3.toInt 1).map em) _ := fun _ => rfl
        have F0 : (0 : Int32) = 1 → (0 : Int32) = 0 → 308 + 200 ≤ 1332 → tSign L (v i).2.1 x3.toInt = none := f_0
        refine mm_skip (mm_call_mono _ _) 5 (st' := (46, [(0, .ref 0), (1, .int (nI i)), (2, .int x2), (3, .int x3)], [.int x2, .ref 1, .ref 1], wC ov un (nI 308) (nI L.1) 0 cu st fi se th db (nI k) F, 0)) rfl ?_
        refine mm_branch (mm_call_mono _ _) (c := x2 = 0) (s1 := (56, [(0, .ref 0), (1, .int (nI i)), (2, .int x2), (3, .int x3)], [.ref 1, .ref 1], wC ov un (nI 308) (nI L.1) 0 cu st fi se th db (nI k) F, 0)) (s2 := (49, [(0, .ref 0), (1, .int (nI i)), (2, .int x2), (3, .int x3)], [.ref 1, .ref 1], wC ov un (nI 308) (nI L.1) 0 cu st fi se th db (nI k) F, 0)) rfl (fun h => absurd h hy) (fun _ => ?_)
        refine mm_skip (mm_call_mono _ _) 1 (st' := (50, [(0, .ref 0), (1, .int (nI i)), (2, .int x2), (3, .int x3)], [.int (nI i), .ref 1, .ref 1], wC ov un (nI 308) (nI L.1) 0 cu st fi se th db (nI k) F, 0)) rfl ?_
        refine mm_inv (mm_call_mono _ _) (j := 42) (a := [.int (nI i)]) (M := wC ov un (nI 308) (nI L.1) 0 cu st fi se th db (nI k) F) (u := 0) rfl (by decide) (ct_C_yOf ?_)
        show mm_W _ _ _ _ _ _ _ (53, [(0, .ref 0), (1, .int (nI i)), (2, .int x2), (3, .int x3)], [.int (nI (12 + 12 * i)), .ref 1, .ref 1], wC ov un (nI 308) (nI L.1) 0 cu st fi se th db (nI k) F, 0)
        refine mm_skip (mm_call_mono _ _) 4 (st' := (65, [(0, .ref 0), (1, .int (nI i)), (2, .int x2), (3, .int x3)], [.int x3, .ref 1, .int (nI (12 + 12 * i)), .ref 1, .ref 1], wC ov un (nI 308) (nI L.1) 0 cu st fi se th db (nI k) F, 0)) rfl ?_
        refine mm_inv (mm_call_mono _ _) (j := 127) (a := [.ref 1, .int x3]) (M := wC ov un (nI 308) (nI L.1) 0 cu st fi se th db (nI k) F) (u := 0) rfl (by decide) (gw_whole s0.2.1 s0.1 (fun ov1 un1 n1 fa1 y1 h1 => ?_))
        show mm_W _ _ _ _ _ _ _ (68, [(0, .ref 0), (1, .int (nI i)), (2, .int x2), (3, .int x3)], [.int (nI y1), .int (nI (12 + 12 * i)), .ref 1, .ref 1], wC ov1 un1 (nI n1) (nI L.1) fa1 cu st fi se th db (nI k) F, 0)
        have s1 := stl_L s0 h1
        have F1 := sqL_f s0 F0 E0 h1 (by omega)
        have E1 := sqL_e E0 h1
        have g1 := h1.1.1
        have Xi_1 := at_keep Xi (opL_k h1)
        have Yi_1 := at_keep Yi (opL_k h1)
        have R_1 := rd_keep R (opL_k h1)
        have W1_1 := at_newL h1
        refine mm_inv (mm_call_mono _ _) (j := 130) (a := [.ref 1, .int (nI (12 + 12 * i)), .int (nI y1)]) (M := wC ov1 un1 (nI n1) (nI L.1) fa1 cu st fi se th db (nI k) F) (u := 0) rfl (by decide) (gw_minus hl s1.2.1 s1.1 Yi_1 W1_1 (fun ov2 un2 n2 fa2 y2 h2 => ?_))
        show mm_W _ _ _ _ _ _ _ (71, [(0, .ref 0), (1, .int (nI i)), (2, .int x2), (3, .int x3)], [.int (nI y2), .ref 1], wC ov2 un2 (nI n2) (nI L.1) fa2 cu st fi se th db (nI k) F, 0)
        have s2 := stl_L s1 h2
        have F2 := sqL_f s1 F1 E1 h2 (by omega)
        have E2 := sqL_e E1 h2
        have g2 := h2.1.1
        have Xi_2 := at_keep Xi_1 (opL_k h2)
        have Yi_2 := at_keep Yi_1 (opL_k h2)
        have W1_2 := at_keep W1_1 (opL_k h2)
        have R_2 := rd_keep R_1 (opL_k h2)
        have W2_2 := at_newL h2
        refine mm_inv (mm_call_mono _ _) (j := 135) (a := [.ref 1, .int (nI y2)]) (M := wC ov2 un2 (nI n2) (nI L.1) fa2 cu st fi se th db (nI k) F) (u := 0) rfl (by decide) (gw_signum hl s2.2.1 s2.1 R_2 W2_2 (fun ov3 un3 n3 fa3 sv h3 => ?_))
        show mm_W _ _ _ _ _ _ _ (74, [(0, .ref 0), (1, .int (nI i)), (2, .int x2), (3, .int x3)], [.int sv], wC ov3 un3 (nI n3) (nI L.1) fa3 cu st fi se th db (nI k) F, 0)
        have s3 := stl_g s2 h3
        have F3 := sg_f s2 F2 E2 h3 (by omega)
        have E3 := sg_e E2 h3
        refine mm_skip (mm_call_mono _ _) 2 (st' := (77, [(4, .int sv), (0, .ref 0), (1, .int (nI i)), (2, .int x2), (3, .int x3)], [.ref 0], wC ov3 un3 (nI n3) (nI L.1) fa3 cu st fi se th db (nI k) F, 0)) rfl ?_
        refine mm_inv (mm_call_mono _ _) (j := 26) (a := [.ref 0]) (M := wC ov3 un3 (nI n3) (nI L.1) fa3 cu st fi se th db (nI k) F) (u := 1) rfl (by decide) (gd_refuse (fun hz => (by have e9 := hQ _ _ (nI n3) fa3 (2, 0) ((show qSign S k (nI i) x2 x3 = oI (tSign L (v i).2.1 x3.toInt) from (if_pos ⟨u1, z2, z3⟩).trans (by rw [hgv, cl_n (by omega), if_neg hy])).trans (by rw [F3 (mm_z1 s3.2.1 hz) rfl (by omega)]; rfl)) (cI_k hI s3.2.2.1); exact e9)) (fun hz => ?_))
        show mm_W _ _ _ _ _ _ _ (80, [(4, .int sv), (0, .ref 0), (1, .int (nI i)), (2, .int x2), (3, .int x3)], [], wC ov3 un3 (nI n3) (nI L.1) fa3 cu st fi se th db (nI k) F, 1)
        refine mm_skip (mm_call_mono _ _) 1 (st' := (82, [(4, .int sv), (0, .ref 0), (1, .int (nI i)), (2, .int x2), (3, .int x3)], [.int sv], wC ov3 un3 (nI n3) (nI L.1) fa3 cu st fi se th db (nI k) F, 1)) rfl ?_
        exact mm_ret (mm_call_mono _ _) (c := True) (r := .inl (some (.int sv))) (M := wC ov3 un3 (nI n3) (nI L.1) fa3 cu st fi se th db (nI k) F) (u := 1) rfl trivial (by decide) (by have e9 := hQ _ _ (nI n3) fa3 (0, sv) ((show qSign S k (nI i) x2 x3 = oI (tSign L (v i).2.1 x3.toInt) from (if_pos ⟨u1, z2, z3⟩).trans (by rw [hgv, cl_n (by omega), if_neg hy])).trans (by rw [E3 hz]; exact congrArg (Prod.mk 0) (Int32.ofInt_toInt _))) (cI_k hI s3.2.2.1); exact e9)
      · skip
        exact mm_ret (mm_call_mono _ _) (c := True) (r := .inr "java/lang/IllegalArgumentException") (M := wC ov un nx (nI L.1) fa cu st fi se th db (nI k) F) (u := 1) rfl trivial (by decide) (by have e9 := hQ _ _ nx fa (1, 0) (if_neg (fun z => z3 z.2.2)) hI; exact e9)

set_option maxRecDepth 100000 in
theorem gq_angle {d : Nat} {ov un : Nat → Int32} {nx fa : Int32} {cu : mm_cu} {st fi se th db : Nat → Int32} {F : mm_M} {S : Nat → stp} {k : Nat} {v : Nat → o3} {L : lvR} {x1 x2 : Int32} {Q : mm_R → mm_M → Prop} (hI : cI S k ov un (nI L.1) st fi se th db (nI k)) (hdr : dr S k = some (v, L)) (hl : L.1 ≤ 2) (R : rdA ov un 308 0 L) (hH : ∀ i, i < k → hold (us (S i).1) ov un i (v i)) (hQ : ∀ (ov1 un1 : Nat → Int32) (nx1 fa1 : Int32) (r : oc), cI S k ov1 un1 (nI L.1) st fi se th db (nI k) → Q (toQ r) (wC ov1 un1 nx1 (nI L.1) fa1 cu st fi se th db (nI k) F)) : mm_call mm_Tb (d + 8) 10 [.ref 0, .int x1, .int x2] (wC ov un nx (nI L.1) fa cu st fi se th db (nI k) F) Q := by
  have hk := hI.1
  have hS := hI.2.2.1
  have hw := hI.2.2.2.1
  have hgv := gv_s hdr
  refine mm_in mt_10 (Nat.le_of_ble_eq_true rfl) ?_
  show mm_W _ _ _ _ _ _ _ (0, [(0, .ref 0), (1, .int x1), (2, .int x2)], [], wC ov un nx (nI L.1) fa cu st fi se th db (nI k) F, 0)
  refine mm_skip (mm_call_mono _ _) 2 (st' := (2, [(0, .ref 0), (1, .int x1), (2, .int x2)], [.int x1, .ref 0], wC ov un nx (nI L.1) fa cu st fi se th db (nI k) F, 0)) rfl ?_
  refine mm_inv (mm_call_mono _ _) (j := 19) (a := [.ref 0, .int x1]) (M := wC ov un nx (nI L.1) fa cu st fi se th db (nI k) F) (u := 0) rfl (by decide) (gd_isLine hk hS hw ?_)
  show mm_W _ _ _ _ _ _ _ (5, [(0, .ref 0), (1, .int x1), (2, .int x2)], [.int (bz (ckd S k x1 = 1))], wC ov un nx (nI L.1) fa cu st fi se th db (nI k) F, 0)
  refine mm_branch (mm_call_mono _ _) (c := (bz (ckd S k x1 = 1)) = 0) (s1 := (16, [(0, .ref 0), (1, .int x1), (2, .int x2)], [], wC ov un nx (nI L.1) fa cu st fi se th db (nI k) F, 0)) (s2 := (8, [(0, .ref 0), (1, .int x1), (2, .int x2)], [], wC ov un nx (nI L.1) fa cu st fi se th db (nI k) F, 0)) rfl (fun z1 => ?_) (fun z1 => ?_)
  · skip
    exact mm_ret (mm_call_mono _ _) (c := True) (r := .inr "java/lang/IllegalArgumentException") (M := wC ov un nx (nI L.1) fa cu st fi se th db (nI k) F) (u := 1) rfl trivial (by decide) (hQ _ _ _ _ (1, 0) hI)
  · skip
    refine mm_skip (mm_call_mono _ _) 2 (st' := (10, [(0, .ref 0), (1, .int x1), (2, .int x2)], [.int x2, .ref 0], wC ov un nx (nI L.1) fa cu st fi se th db (nI k) F, 0)) rfl ?_
    refine mm_inv (mm_call_mono _ _) (j := 19) (a := [.ref 0, .int x2]) (M := wC ov un nx (nI L.1) fa cu st fi se th db (nI k) F) (u := 0) rfl (by decide) (gd_isLine hk hS hw ?_)
    show mm_W _ _ _ _ _ _ _ (13, [(0, .ref 0), (1, .int x1), (2, .int x2)], [.int (bz (ckd S k x2 = 1))], wC ov un nx (nI L.1) fa cu st fi se th db (nI k) F, 0)
    refine mm_branch (mm_call_mono _ _) (c := (bz (ckd S k x2 = 1)) = 0) (s1 := (16, [(0, .ref 0), (1, .int x1), (2, .int x2)], [], wC ov un nx (nI L.1) fa cu st fi se th db (nI k) F, 0)) (s2 := (26, [(0, .ref 0), (1, .int x1), (2, .int x2)], [], wC ov un nx (nI L.1) fa cu st fi se th db (nI k) F, 0)) rfl (fun z2 => ?_) (fun z2 => ?_)
    · skip
      exact mm_ret (mm_call_mono _ _) (c := True) (r := .inr "java/lang/IllegalArgumentException") (M := wC ov un nx (nI L.1) fa cu st fi se th db (nI k) F) (u := 1) rfl trivial (by decide) (hQ _ _ _ _ (1, 0) hI)
    · skip
      obtain ⟨i, hi, rfl, ci⟩ := ckd_c (c := 1) hk (by decide) (bz_1 z1)
      have Ki := hold_ln ci (hH i hi)
      have Xi := at_kp (n := 308) (fa := 0) Ki.1 (by omega) (Nat.le_refl _)
      have Yi := at_kp (n := 308) (fa := 0) Ki.2.1 (by omega) (Nat.le_refl _)
      have Zi := at_kp (n := 308) (fa := 0) Ki.2.2 (by omega) (Nat.le_refl _)
      obtain ⟨j, hj, rfl, cj⟩ := ckd_c (c := 1) hk (by decide) (bz_1 z2)
      have Kj := hold_ln cj (hH j hj)
      have Xj := at_kp (n := 308) (fa := 0) Kj.1 (by omega) (Nat.le_refl _)
      have Yj := at_kp (n := 308) (fa := 0) Kj.2.1 (by omega) (Nat.le_refl _)
      have Zj := at_kp (n := 308) (fa := 0) Kj.2.2 (by omega) (Nat.le_refl _)
      refine mm_skip (mm_call_mono _ _) 2 (st' := (30, [(0, .ref 0), (1, .int (nI i)), (2, .int (nI j))], [.ref 1], wC ov un nx (nI L.1) fa cu st fi se th db (nI k) F, 0)) rfl ?_
      refine mm_inv (mm_call_mono _ _) (j := 122) (a := [.ref 1]) (M := wC ov un nx (nI L.1) fa cu st fi se th db (nI k) F) (u := 0) rfl (by decide) (ct_N_begin ?_)
      show mm_W _ _ _ _ _ _ _ (33, [(0, .ref 0), (1, .int (nI i)), (2, .int (nI j))], [], wC ov un (nI 308) (nI L.1) 0 cu st fi se th db (nI k) F, 0)
      have s0 := stl_0 (ov := ov) (un := un) (n := 308) (fa := 0) (Or.inl rfl) (by omega)
      refine mm_skip (mm_call_mono _ _) 5 (st' := (42, [(0, .ref 0), (1, .int (nI i)), (2, .int (nI j))], [.int (nI i), .ref 1, .ref 1], wC ov un (nI 308) (nI L.1) 0 cu st fi se th db (nI k) F, 0)) rfl ?_
      refine mm_inv (mm_call_mono _ _) (j := 43) (a := [.int (nI i)]) (M := wC ov un (nI 308) (nI L.1) 0 cu st fi se th db (nI k) F) (u := 0) rfl (by decide) (ct_C_lineA ?_)
      show mm_W _ _ _ _ _ _ _ (45, [(0, .ref 0), (1, .int (nI i)), (2, .int (nI j))], [.int (nI (8 + 12 * i)), .ref 1, .ref 1], wC ov un (nI 308) (nI L.1) 0 cu st fi se th db (nI k) F, 0)
      refine mm_skip (mm_call_mono _ _) 1 (st' := (46, [(0, .ref 0), (1, .int (nI i)), (2, .int (nI j))], [.int (nI j), .int (nI (8 + 12 * i)), .ref 1, .ref 1], wC ov un (nI 308) (nI L.1) 0 cu st fi se th db (nI k) F, 0)) rfl ?_
      refine mm_inv (mm_call_mono _ _) (j := 44) (a := [.int (nI j)]) (M := wC ov un (nI 308) (nI L.1) 0 cu st fi se th db (nI k) F) (u := 0) rfl (by decide) (ct_C_lineB ?_)
      show mm_W _ _ _ _ _ _ _ (49, [(0, .ref 0), (1, .int (nI i)), (2, .int (nI j))], [.int (nI (12 + 12 * j)), .int (nI (8 + 12 * i)), .ref 1, .ref 1], wC ov un (nI 308) (nI L.1) 0 cu st fi se th db (nI k) F, 0)
      refine mm_inv (mm_call_mono _ _) (j := 131) (a := [.ref 1, .int (nI (8 + 12 * i)), .int (nI (12 + 12 * j))]) (M := wC ov un (nI 308) (nI L.1) 0 cu st fi se th db (nI k) F) (u := 0) rfl (by decide) (gw_times hl s0.2.1 s0.1 R Xi Yj (fun ov1 un1 n1 fa1 y1 h1 => ?_))
      show mm_W _ _ _ _ _ _ _ (52, [(0, .ref 0), (1, .int (nI i)), (2, .int (nI j))], [.int (nI y1), .ref 1], wC ov1 un1 (nI n1) (nI L.1) fa1 cu st fi se th db (nI k) F, 0)
      have s1 := stl_L s0 h1
      have g1 := h1.1.1
      have Xi_1 := at_keep Xi (opL_k h1)
      have Yi_1 := at_keep Yi (opL_k h1)
      have Zi_1 := at_keep Zi (opL_k h1)
      have Xj_1 := at_keep Xj (opL_k h1)
      have Yj_1 := at_keep Yj (opL_k h1)
      have Zj_1 := at_keep Zj (opL_k h1)
      have R_1 := rd_keep R (opL_k h1)
      have W1_1 := at_newL h1
      refine mm_skip (mm_call_mono _ _) 3 (st' := (57, [(0, .ref 0), (1, .int (nI i)), (2, .int (nI j))], [.int (nI j), .ref 1, .int (nI y1), .ref 1], wC ov1 un1 (nI n1) (nI L.1) fa1 cu st fi se th db (nI k) F, 0)) rfl ?_
      refine mm_inv (mm_call_mono _ _) (j := 43) (a := [.int (nI j)]) (M := wC ov1 un1 (nI n1) (nI L.1) fa1 cu st fi se th db (nI k) F) (u := 0) rfl (by decide) (ct_C_lineA ?_)
      show mm_W _ _ _ _ _ _ _ (60, [(0, .ref 0), (1, .int (nI i)), (2, .int (nI j))], [.int (nI (8 + 12 * j)), .ref 1, .int (nI y1), .ref 1], wC ov1 un1 (nI n1) (nI L.1) fa1 cu st fi se th db (nI k) F, 0)
      refine mm_skip (mm_call_mono _ _) 1 (st' := (61, [(0, .ref 0), (1, .int (nI i)), (2, .int (nI j))], [.int (nI i), .int (nI (8 + 12 * j)), .ref 1, .int (nI y1), .ref 1], wC ov1 un1 (nI n1) (nI L.1) fa1 cu st fi se th db (nI k) F, 0)) rfl ?_
      refine mm_inv (mm_call_mono _ _) (j := 44) (a := [.int (nI i)]) (M := wC ov1 un1 (nI n1) (nI L.1) fa1 cu st fi se th db (nI k) F) (u := 0) rfl (by decide) (ct_C_lineB ?_)
      show mm_W _ _ _ _ _ _ _ (64, [(0, .ref 0), (1, .int (nI i)), (2, .int (nI j))], [.int (nI (12 + 12 * i)), .int (nI (8 + 12 * j)), .ref 1, .int (nI y1), .ref 1], wC ov1 un1 (nI n1) (nI L.1) fa1 cu st fi se th db (nI k) F, 0)
      refine mm_inv (mm_call_mono _ _) (j := 131) (a := [.ref 1, .int (nI (8 + 12 * j)), .int (nI (12 + 12 * i))]) (M := wC ov1 un1 (nI n1) (nI L.1) fa1 cu st fi se th db (nI k) F) (u := 0) rfl (by decide) (gw_times hl s1.2.1 s1.1 R_1 Xj_1 Yi_1 (fun ov2 un2 n2 fa2 y2 h2 => ?_))
      show mm_W _ _ _ _ _ _ _ (67, [(0, .ref 0), (1, .int (nI i)), (2, .int (nI j))], [.int (nI y2), .int (nI y1), .ref 1], wC ov2 un2 (nI n2) (nI L.1) fa2 cu st fi se th db (nI k) F, 0)
      have s2 := stl_L s1 h2
      have g2 := h2.1.1
      have Xi_2 := at_keep Xi_1 (opL_k h2)
      have Yi_2 := at_keep Yi_1 (opL_k h2)
      have Zi_2 := at_keep Zi_1 (opL_k h2)
      have Xj_2 := at_keep Xj_1 (opL_k h2)
      have Yj_2 := at_keep Yj_1 (opL_k h2)
      have Zj_2 := at_keep Zj_1 (opL_k h2)
      have W1_2 := at_keep W1_1 (opL_k h2)
      have R_2 := rd_keep R_1 (opL_k h2)
      have W2_2 := at_newL h2
      refine mm_inv (mm_call_mono _ _) (j := 125) (a := [.ref 1, .int (nI y1), .int (nI y2)]) (M := wC ov2 un2 (nI n2) (nI L.1) fa2 cu st fi se th db (nI k) F) (u := 0) rfl (by decide) (ct_N_alike (x := y1) (y := y2) W1_2.1.1 W2_2.1.1 ?_)
      show mm_W _ _ _ _ _ _ _ (70, [(0, .ref 0), (1, .int (nI i)), (2, .int (nI j))], [.int (bz (alk ov2 un2 (y1) (y2)))], wC ov2 un2 (nI n2) (nI L.1) fa2 cu st fi se th db (nI k) F, 0)
      refine mm_skip (mm_call_mono _ _) 2 (st' := (72, [(3, .int (bz (alk ov2 un2 (y1) (y2)))), (0, .ref 0), (1, .int (nI i)), (2, .int (nI j))], [.ref 0], wC ov2 un2 (nI n2) (nI L.1) fa2 cu st fi se th db (nI k) F, 0)) rfl ?_
      refine mm_inv (mm_call_mono _ _) (j := 26) (a := [.ref 0]) (M := wC ov2 un2 (nI n2) (nI L.1) fa2 cu st fi se th db (nI k) F) (u := 1) rfl (by decide) (gd_refuse (fun hz => (hQ _ _ _ _ (2, 0) (cI_k hI s2.2.2.1))) (fun hz => ?_))
      show mm_W _ _ _ _ _ _ _ (75, [(3, .int (bz (alk ov2 un2 (y1) (y2)))), (0, .ref 0), (1, .int (nI i)), (2, .int (nI j))], [], wC ov2 un2 (nI n2) (nI L.1) fa2 cu st fi se th db (nI k) F, 1)
      refine mm_skip (mm_call_mono _ _) 1 (st' := (76, [(3, .int (bz (alk ov2 un2 (y1) (y2)))), (0, .ref 0), (1, .int (nI i)), (2, .int (nI j))], [.int (bz (alk ov2 un2 (y1) (y2)))], wC ov2 un2 (nI n2) (nI L.1) fa2 cu st fi se th db (nI k) F, 1)) rfl ?_
      refine mm_branch (mm_call_mono _ _) (c := (bz (alk ov2 un2 (y1) (y2))) = 0) (s1 := (81, [(3, .int (bz (alk ov2 un2 (y1) (y2)))), (0, .ref 0), (1, .int (nI i)), (2, .int (nI j))], [], wC ov2 un2 (nI n2) (nI L.1) fa2 cu st fi se th db (nI k) F, 1)) (s2 := (79, [(3, .int (bz (alk ov2 un2 (y1) (y2)))), (0, .ref 0), (1, .int (nI i)), (2, .int (nI j))], [], wC ov2 un2 (nI n2) (nI L.1) fa2 cu st fi se th db (nI k) F, 1)) rfl (fun z3 => ?_) (fun z3 => ?_)
      · skip
        refine mm_skip (mm_call_mono _ _) 5 (st' := (90, [(3, .int (bz (alk ov2 un2 (y1) (y2)))), (0, .ref 0), (1, .int (nI i)), (2, .int (nI j))], [.int (nI i), .ref 1, .ref 1], wC ov2 un2 (nI n2) (nI L.1) fa2 cu st fi se th db (nI k) F, 1)) rfl ?_
        refine mm_inv (mm_call_mono _ _) (j := 43) (a := [.int (nI i)]) (M := wC ov2 un2 (nI n2) (nI L.1) fa2 cu st fi se th db (nI k) F) (u := 1) rfl (by decide) (ct_C_lineA ?_)
        show mm_W _ _ _ _ _ _ _ (93, [(3, .int (bz (alk ov2 un2 (y1) (y2)))), (0, .ref 0), (1, .int (nI i)), (2, .int (nI j))], [.int (nI (8 + 12 * i)), .ref 1, .ref 1], wC ov2 un2 (nI n2) (nI L.1) fa2 cu st fi se th db (nI k) F, 1)
        refine mm_skip (mm_call_mono _ _) 1 (st' := (94, [(3, .int (bz (alk ov2 un2 (y1) (y2)))), (0, .ref 0), (1, .int (nI i)), (2, .int (nI j))], [.int (nI j), .int (nI (8 + 12 * i)), .ref 1, .ref 1], wC ov2 un2 (nI n2) (nI L.1) fa2 cu st fi se th db (nI k) F, 1)) rfl ?_
        refine mm_inv (mm_call_mono _ _) (j := 43) (a := [.int (nI j)]) (M := wC ov2 un2 (nI n2) (nI L.1) fa2 cu st fi se th db (nI k) F) (u := 1) rfl (by decide) (ct_C_lineA ?_)
        show mm_W _ _ _ _ _ _ _ (97, [(3, .int (bz (alk ov2 un2 (y1) (y2)))), (0, .ref 0), (1, .int (nI i)), (2, .int (nI j))], [.int (nI (8 + 12 * j)), .int (nI (8 + 12 * i)), .ref 1, .ref 1], wC ov2 un2 (nI n2) (nI L.1) fa2 cu st fi se th db (nI k) F, 1)
        refine mm_inv (mm_call_mono _ _) (j := 131) (a := [.ref 1, .int (nI (8 + 12 * i)), .int (nI (8 + 12 * j))]) (M := wC ov2 un2 (nI n2) (nI L.1) fa2 cu st fi se th db (nI k) F) (u := 1) rfl (by decide) (gw_times hl s2.2.1 s2.1 R_2 Xi_2 Xj_2 (fun ov3 un3 n3 fa3 y3 h3 => ?_))
        show mm_W _ _ _ _ _ _ _ (100, [(3, .int (bz (alk ov2 un2 (y1) (y2)))), (0, .ref 0), (1, .int (nI i)), (2, .int (nI j))], [.int (nI y3), .ref 1], wC ov3 un3 (nI n3) (nI L.1) fa3 cu st fi se th db (nI k) F, 1)
        have s3 := stl_L s2 h3
        have g3 := h3.1.1
        have Xi_3 := at_keep Xi_2 (opL_k h3)
        have Yi_3 := at_keep Yi_2 (opL_k h3)
        have Zi_3 := at_keep Zi_2 (opL_k h3)
        have Xj_3 := at_keep Xj_2 (opL_k h3)
        have Yj_3 := at_keep Yj_2 (opL_k h3)
        have Zj_3 := at_keep Zj_2 (opL_k h3)
        have W1_3 := at_keep W1_2 (opL_k h3)
        have W2_3 := at_keep W2_2 (opL_k h3)
        have R_3 := rd_keep R_2 (opL_k h3)
        have W3_3 := at_newL h3
        refine mm_skip (mm_call_mono _ _) 3 (st' := (105, [(3, .int (bz (alk ov2 un2 (y1) (y2)))), (0, .ref 0), (1, .int (nI i)), (2, .int (nI j))], [.int (nI i), .ref 1, .int (nI y3), .ref 1], wC ov3 un3 (nI n3) (nI L.1) fa3 cu st fi se th db (nI k) F, 1)) rfl ?_
        refine mm_inv (mm_call_mono _ _) (j := 44) (a := [.int (nI i)]) (M := wC ov3 un3 (nI n3) (nI L.1) fa3 cu st fi se th db (nI k) F) (u := 1) rfl (by decide) (ct_C_lineB ?_)
        show mm_W _ _ _ _ _ _ _ (108, [(3, .int (bz (alk ov2 un2 (y1) (y2)))), (0, .ref 0), (1, .int (nI i)), (2, .int (nI j))], [.int (nI (12 + 12 * i)), .ref 1, .int (nI y3), .ref 1], wC ov3 un3 (nI n3) (nI L.1) fa3 cu st fi se th db (nI k) F, 1)
        refine mm_skip (mm_call_mono _ _) 1 (st' := (109, [(3, .int (bz (alk ov2 un2 (y1) (y2)))), (0, .ref 0), (1, .int (nI i)), (2, .int (nI j))], [.int (nI j), .int (nI (12 + 12 * i)), .ref 1, .int (nI y3), .ref 1], wC ov3 un3 (nI n3) (nI L.1) fa3 cu st fi se th db (nI k) F, 1)) rfl ?_
        refine mm_inv (mm_call_mono _ _) (j := 44) (a := [.int (nI j)]) (M := wC ov3 un3 (nI n3) (nI L.1) fa3 cu st fi se th db (nI k) F) (u := 1) rfl (by decide) (ct_C_lineB ?_)
        show mm_W _ _ _ _ _ _ _ (112, [(3, .int (bz (alk ov2 un2 (y1) (y2)))), (0, .ref 0), (1, .int (nI i)), (2, .int (nI j))], [.int (nI (12 + 12 * j)), .int (nI (12 + 12 * i)), .ref 1, .int (nI y3), .ref 1], wC ov3 un3 (nI n3) (nI L.1) fa3 cu st fi se th db (nI k) F, 1)
        refine mm_inv (mm_call_mono _ _) (j := 131) (a := [.ref 1, .int (nI (12 + 12 * i)), .int (nI (12 + 12 * j))]) (M := wC ov3 un3 (nI n3) (nI L.1) fa3 cu st fi se th db (nI k) F) (u := 1) rfl (by decide) (gw_times hl s3.2.1 s3.1 R_3 Yi_3 Yj_3 (fun ov4 un4 n4 fa4 y4 h4 => ?_))
        show mm_W _ _ _ _ _ _ _ (115, [(3, .int (bz (alk ov2 un2 (y1) (y2)))), (0, .ref 0), (1, .int (nI i)), (2, .int (nI j))], [.int (nI y4), .int (nI y3), .ref 1], wC ov4 un4 (nI n4) (nI L.1) fa4 cu st fi se th db (nI k) F, 1)
        have s4 := stl_L s3 h4
        have g4 := h4.1.1
        have Xi_4 := at_keep Xi_3 (opL_k h4)
        have Yi_4 := at_keep Yi_3 (opL_k h4)
        have Zi_4 := at_keep Zi_3 (opL_k h4)
        have Xj_4 := at_keep Xj_3 (opL_k h4)
        have Yj_4 := at_keep Yj_3 (opL_k h4)
        have Zj_4 := at_keep Zj_3 (opL_k h4)
        have W1_4 := at_keep W1_3 (opL_k h4)
        have W2_4 := at_keep W2_3 (opL_k h4)
        have W3_4 := at_keep W3_3 (opL_k h4)
        have R_4 := rd_keep R_3 (opL_k h4)
        have W4_4 := at_newL h4
        refine mm_inv (mm_call_mono _ _) (j := 129) (a := [.ref 1, .int (nI y3), .int (nI y4)]) (M := wC ov4 un4 (nI n4) (nI L.1) fa4 cu st fi se th db (nI k) F) (u := 1) rfl (by decide) (gw_plus hl s4.2.1 s4.1 W3_4 W4_4 (fun ov5 un5 n5 fa5 y5 h5 => ?_))
        show mm_W _ _ _ _ _ _ _ (118, [(3, .int (bz (alk ov2 un2 (y1) (y2)))), (0, .ref 0), (1, .int (nI i)), (2, .int (nI j))], [.int (nI y5)], wC ov5 un5 (nI n5) (nI L.1) fa5 cu st fi se th db (nI k) F, 1)
        have s5 := stl_L s4 h5
        have g5 := h5.1.1
        have Xi_5 := at_keep Xi_4 (opL_k h5)
        have Yi_5 := at_keep Yi_4 (opL_k h5)
        have Zi_5 := at_keep Zi_4 (opL_k h5)
        have Xj_5 := at_keep Xj_4 (opL_k h5)
        have Yj_5 := at_keep Yj_4 (opL_k h5)
        have Zj_5 := at_keep Zj_4 (opL_k h5)
        have W1_5 := at_keep W1_4 (opL_k h5)
        have W2_5 := at_keep W2_4 (opL_k h5)
        have W3_5 := at_keep W3_4 (opL_k h5)
        have W4_5 := at_keep W4_4 (opL_k h5)
        have R_5 := rd_keep R_4 (opL_k h5)
        have W5_5 := at_newL h5
        refine mm_skip (mm_call_mono _ _) 2 (st' := (121, [(4, .int (nI y5)), (3, .int (bz (alk ov2 un2 (y1) (y2)))), (0, .ref 0), (1, .int (nI i)), (2, .int (nI j))], [.ref 0], wC ov5 un5 (nI n5) (nI L.1) fa5 cu st fi se th db (nI k) F, 1)) rfl ?_
        refine mm_inv (mm_call_mono _ _) (j := 26) (a := [.ref 0]) (M := wC ov5 un5 (nI n5) (nI L.1) fa5 cu st fi se th db (nI k) F) (u := 2) rfl (by decide) (gd_refuse (fun hz => (hQ _ _ _ _ (2, 0) (cI_k hI s5.2.2.1))) (fun hz => ?_))
        show mm_W _ _ _ _ _ _ _ (124, [(4, .int (nI y5)), (3, .int (bz (alk ov2 un2 (y1) (y2)))), (0, .ref 0), (1, .int (nI i)), (2, .int (nI j))], [], wC ov5 un5 (nI n5) (nI L.1) fa5 cu st fi se th db (nI k) F, 2)
        refine mm_skip (mm_call_mono _ _) 3 (st' := (130, [(4, .int (nI y5)), (3, .int (bz (alk ov2 un2 (y1) (y2)))), (0, .ref 0), (1, .int (nI i)), (2, .int (nI j))], [.int (nI y5), .ref 1], wC ov5 un5 (nI n5) (nI L.1) fa5 cu st fi se th db (nI k) F, 2)) rfl ?_
        refine mm_inv (mm_call_mono _ _) (j := 126) (a := [.ref 1, .int (nI y5)]) (M := wC ov5 un5 (nI n5) (nI L.1) fa5 cu st fi se th db (nI k) F) (u := 2) rfl (by decide) (ct_N_isNought (x := y5) W5_5.1.1 ?_)
        show mm_W _ _ _ _ _ _ _ (133, [(4, .int (nI y5)), (3, .int (bz (alk ov2 un2 (y1) (y2)))), (0, .ref 0), (1, .int (nI i)), (2, .int (nI j))], [.int (bz (isz 4 ov5 y5))], wC ov5 un5 (nI n5) (nI L.1) fa5 cu st fi se th db (nI k) F, 2)
        refine mm_branch (mm_call_mono _ _) (c := (bz (isz 4 ov5 y5)) = 0) (s1 := (140, [(4, .int (nI y5)), (3, .int (bz (alk ov2 un2 (y1) (y2)))), (0, .ref 0), (1, .int (nI i)), (2, .int (nI j))], [], wC ov5 un5 (nI n5) (nI L.1) fa5 cu st fi se th db (nI k) F, 2)) (s2 := (136, [(4, .int (nI y5)), (3, .int (bz (alk ov2 un2 (y1) (y2)))), (0, .ref 0), (1, .int (nI i)), (2, .int (nI j))], [], wC ov5 un5 (nI n5) (nI L.1) fa5 cu st fi se th db (nI k) F, 2)) rfl (fun z4 => ?_) (fun z4 => ?_)
        · skip
          refine mm_skip (mm_call_mono _ _) 1 (st' := (141, [(4, .int (nI y5)), (3, .int (bz (alk ov2 un2 (y1) (y2)))), (0, .ref 0), (1, .int (nI i)), (2, .int (nI j))], [.int 0], wC ov5 un5 (nI n5) (nI L.1) fa5 cu st fi se th db (nI k) F, 2)) rfl ?_
          exact mm_ret (mm_call_mono _ _) (c := True) (r := .inl (some (.int 0))) (M := wC ov5 un5 (nI n5) (nI L.1) fa5 cu st fi se th db (nI k) F) (u := 2) rfl trivial (by decide) (hQ _ _ _ _ (0, 0) (cI_k hI s5.2.2.1))
        · skip
          refine mm_skip (mm_call_mono _ _) 2 (st' := (141, [(4, .int (nI y5)), (3, .int (bz (alk ov2 un2 (y1) (y2)))), (0, .ref 0), (1, .int (nI i)), (2, .int (nI j))], [.int 2], wC ov5 un5 (nI n5) (nI L.1) fa5 cu st fi se th db (nI k) F, 2)) rfl ?_
          exact mm_ret (mm_call_mono _ _) (c := True) (r := .inl (some (.int 2))) (M := wC ov5 un5 (nI n5) (nI L.1) fa5 cu st fi se th db (nI k) F) (u := 2) rfl trivial (by decide) (hQ _ _ _ _ (0, 2) (cI_k hI s5.2.2.1))
      · skip
        refine mm_skip (mm_call_mono _ _) 1 (st' := (80, [(3, .int (bz (alk ov2 un2 (y1) (y2)))), (0, .ref 0), (1, .int (nI i)), (2, .int (nI j))], [.int 1], wC ov2 un2 (nI n2) (nI L.1) fa2 cu st fi se th db (nI k) F, 1)) rfl ?_
        exact mm_ret (mm_call_mono _ _) (c := True) (r := .inl (some (.int 1))) (M := wC ov2 un2 (nI n2) (nI L.1) fa2 cu st fi se th db (nI k) F) (u := 1) rfl trivial (by decide) (hQ _ _ _ _ (0, 1) (cI_k hI s2.2.2.1))

set_option maxRecDepth 100000 in
theorem gq_part0 {d : Nat} {ov un : Nat → Int32} {nx fa : Int32} {cu : mm_cu} {st fi se th db : Nat → Int32} {F : mm_M} {S : Nat → stp} {k : Nat} {v : Nat → o3} {L : lvR} {x1 x2 x3 x4 : Int32} {Q : mm_R → mm_M → Prop} (hy : x2 = 0) (hI : cI S k ov un (nI L.1) st fi se th db (nI k)) (hdr : dr S k = some (v, L)) (hl : L.1 ≤ 2) (R : rdA ov un 308 0 L) (hH : ∀ i, i < k → hold (us (S i).1) ov un i (v i)) (hQ : ∀ (ov1 un1 : Nat → Int32) (nx1 fa1 : Int32) (r : oc), qPart S k x1 x2 x3 x4 = r → cI S k ov1 un1 (nI L.1) st fi se th db (nI k) → Q (toQ r) (wC ov1 un1 nx1 (nI L.1) fa1 cu st fi se th db (nI k) F)) : mm_call mm_Tb (d + 4) 13 [.ref 0, .int x1, .int x2, .int x3, .int x4] (wC ov un nx (nI L.1) fa cu st fi se th db (nI k) F) Q := by
  have hk := hI.1
  have hS := hI.2.2.1
  have hw := hI.2.2.2.1
  have hgv := gv_s hdr
  refine mm_in mt_13 (Nat.le_of_ble_eq_true rfl) ?_
  show mm_W _ _ _ _ _ _ _ (0, [(0, .ref 0), (1, .int x1), (2, .int x2), (3, .int x3), (4, .int x4)], [], wC ov un nx (nI L.1) fa cu st fi se th db (nI k) F, 0)
  refine mm_skip (mm_call_mono _ _) 2 (st' := (2, [(0, .ref 0), (1, .int x1), (2, .int x2), (3, .int x3), (4, .int x4)], [.int x1, .ref 0], wC ov un nx (nI L.1) fa cu st fi se th db (nI k) F, 0)) rfl ?_
  refine mm_inv (mm_call_mono _ _) (j := 18) (a := [.ref 0, .int x1]) (M := wC ov un nx (nI L.1) fa cu st fi se th db (nI k) F) (u := 0) rfl (by decide) (gd_isPoint hk hS hw ?_)
  show mm_W _ _ _ _ _ _ _ (5, [(0, .ref 0), (1, .int x1), (2, .int x2), (3, .int x3), (4, .int x4)], [.int (bz (ckd S k x1 = 0))], wC ov un nx (nI L.1) fa cu st fi se th db (nI k) F, 0)
  refine mm_branch (mm_call_mono _ _) (c := (bz (ckd S k x1 = 0)) = 0) (s1 := (17, [(0, .ref 0), (1, .int x1), (2, .int x2), (3, .int x3), (4, .int x4)], [], wC ov un nx (nI L.1) fa cu st fi se th db (nI k) F, 0)) (s2 := (8, [(0, .ref 0), (1, .int x1), (2, .int x2), (3, .int x3), (4, .int x4)], [], wC ov un nx (nI L.1) fa cu st fi se th db (nI k) F, 0)) rfl (fun z1 => ?_) (fun z1 => ?_)
  · skip
    exact mm_ret (mm_call_mono _ _) (c := True) (r := .inr "java/lang/IllegalArgumentException") (M := wC ov un nx (nI L.1) fa cu st fi se th db (nI k) F) (u := 1) rfl trivial (by decide) (by have e9 := hQ _ _ nx fa (1, 0) (if_neg (fun z => bz_0 z1 z.1)) hI; exact e9)
  · skip
    refine mm_skip (mm_call_mono _ _) 1 (st' := (9, [(0, .ref 0), (1, .int x1), (2, .int x2), (3, .int x3), (4, .int x4)], [.int x3], wC ov un nx (nI L.1) fa cu st fi se th db (nI k) F, 0)) rfl ?_
    refine mm_branch (mm_call_mono _ _) (c := x3 < 0) (s1 := (17, [(0, .ref 0), (1, .int x1), (2, .int x2), (3, .int x3), (4, .int x4)], [], wC ov un nx (nI L.1) fa cu st fi se th db (nI k) F, 0)) (s2 := (12, [(0, .ref 0), (1, .int x1), (2, .int x2), (3, .int x3), (4, .int x4)], [], wC ov un nx (nI L.1) fa cu st fi se th db (nI k) F, 0)) rfl (fun z2 => ?_) (fun z2 => ?_)
    · skip
      exact mm_ret (mm_call_mono _ _) (c := True) (r := .inr "java/lang/IllegalArgumentException") (M := wC ov un nx (nI L.1) fa cu st fi se th db (nI k) F) (u := 1) rfl trivial (by decide) (by have e9 := hQ _ _ nx fa (1, 0) (if_neg (fun z => z.2.1 z2)) hI; exact e9)
    · skip
      refine mm_skip (mm_call_mono _ _) 2 (st' := (14, [(0, .ref 0), (1, .int x1), (2, .int x2), (3, .int x3), (4, .int x4)], [.int 4, .int x3], wC ov un nx (nI L.1) fa cu st fi se th db (nI k) F, 0)) rfl ?_
      refine mm_branch (mm_call_mono _ _) (c := x3 < 4) (s1 := (27, [(0, .ref 0), (1, .int x1), (2, .int x2), (3, .int x3), (4, .int x4)], [], wC ov un nx (nI L.1) fa cu st fi se th db (nI k) F, 0)) (s2 := (17, [(0, .ref 0), (1, .int x1), (2, .int x2), (3, .int x3), (4, .int x4)], [], wC ov un nx (nI L.1) fa cu st fi se th db (nI k) F, 0)) rfl (fun z3 => ?_) (fun z3 => ?_)
      · skip
        have u1 := bz_1 z1
        obtain ⟨i, hi, rfl, pi⟩ := ckd_pt hk (bz_1 z1)
        have Ki := hold_pt pi (hH i hi)
        obtain ⟨a, ha, rfl⟩ := in4 z2 z3
        refine mm_skip (mm_call_mono _ _) 3 (st' := (32, [(0, .ref 0), (1, .int (nI i)), (2, .int x2), (3, .int (nI a)), (4, .int x4)], [.int x2, .ref 1], wC ov un nx (nI L.1) fa cu st fi se th db (nI k) F, 0)) rfl ?_
        refine mm_branch (mm_call_mono _ _) (c := x2 = 0) (s1 := (42, [(0, .ref 0), (1, .int (nI i)), (2, .int x2), (3, .int (nI a)), (4, .int x4)], [.ref 1], wC ov un nx (nI L.1) fa cu st fi se th db (nI k) F, 0)) (s2 := (35, [(0, .ref 0), (1, .int (nI i)), (2, .int x2), (3, .int (nI a)), (4, .int x4)], [.ref 1], wC ov un nx (nI L.1) fa cu st fi se th db (nI k) F, 0)) rfl (fun _ => ?_) (fun h => absurd hy h)
        refine mm_skip (mm_call_mono _ _) 1 (st' := (43, [(0, .ref 0), (1, .int (nI i)), (2, .int x2), (3, .int (nI a)), (4, .int x4)], [.int (nI i), .ref 1], wC ov un nx (nI L.1) fa cu st fi se th db (nI k) F, 0)) rfl ?_
        refine mm_inv (mm_call_mono _ _) (j := 41) (a := [.int (nI i)]) (M := wC ov un nx (nI L.1) fa cu st fi se th db (nI k) F) (u := 0) rfl (by decide) (ct_C_xOf ?_)
        show mm_W _ _ _ _ _ _ _ (46, [(0, .ref 0), (1, .int (nI i)), (2, .int x2), (3, .int (nI a)), (4, .int x4)], [.int (nI (8 + 12 * i)), .ref 1], wC ov un nx (nI L.1) fa cu st fi se th db (nI k) F, 0)
        refine mm_skip (mm_call_mono _ _) 2 (st' := (48, [(0, .ref 0), (1, .int (nI i)), (2, .int x2), (3, .int (nI a)), (4, .int x4)], [.int ((nI (8 + 12 * i)) + (nI a)), .ref 1], wC ov un nx (nI L.1) fa cu st fi se th db (nI k) F, 0)) rfl ?_
        rw [(nI_add (8 + 12 * i) a)]
        show mm_W _ _ _ _ _ _ _ (48, [(0, .ref 0), (1, .int (nI i)), (2, .int x2), (3, .int (nI a)), (4, .int x4)], [.int (nI (8 + 12 * i + a)), .ref 1], wC ov un nx (nI L.1) fa cu st fi se th db (nI k) F, 0)
        refine mm_skip (mm_call_mono _ _) 1 (st' := (50, [(0, .ref 0), (1, .int (nI i)), (2, .int x2), (3, .int (nI a)), (4, .int x4)], [.int x4, .int (nI (8 + 12 * i + a)), .ref 1], wC ov un nx (nI L.1) fa cu st fi se th db (nI k) F, 0)) rfl ?_
        refine mm_inv (mm_call_mono _ _) (j := 123) (a := [.ref 1, .int (nI (8 + 12 * i + a)), .int x4]) (M := wC ov un nx (nI L.1) fa cu st fi se th db (nI k) F) (u := 0) rfl (by decide) (gd_read (a := 8 + 12 * i + a) (by omega) ?_)
        show mm_W _ _ _ _ _ _ _ (53, [(0, .ref 0), (1, .int (nI i)), (2, .int x2), (3, .int (nI a)), (4, .int x4)], [.int (if x4 = 0 then ov (8 + 12 * i + a) else un (8 + 12 * i + a))], wC ov un nx (nI L.1) fa cu st fi se th db (nI k) F, 0)
        exact mm_ret (mm_call_mono _ _) (c := True) (r := .inl (some (.int (if x4 = 0 then ov (8 + 12 * i + a) else un (8 + 12 * i + a))))) (M := wC ov un nx (nI L.1) fa cu st fi se th db (nI k) F) (u := 0) rfl trivial (by decide) (by have e9 := hQ _ _ nx fa (0, if x4 = 0 then ov (8 + 12 * i + a) else un (8 + 12 * i + a)) ((show qPart S k (nI i) x2 (nI a) x4 = (0, prt ((v i).1) a x4) from (if_pos ⟨u1, z2, z3⟩).trans (by rw [hgv, cl_n (by omega), cl_n (by omega), if_pos hy])).trans (congrArg (Prod.mk 0) (prt_v Ki.1 ha x4).symm)) hI; exact e9)
      · skip
        exact mm_ret (mm_call_mono _ _) (c := True) (r := .inr "java/lang/IllegalArgumentException") (M := wC ov un nx (nI L.1) fa cu st fi se th db (nI k) F) (u := 1) rfl trivial (by decide) (by have e9 := hQ _ _ nx fa (1, 0) (if_neg (fun z => z3 z.2.2)) hI; exact e9)

set_option maxRecDepth 100000 in
theorem gq_part1 {d : Nat} {ov un : Nat → Int32} {nx fa : Int32} {cu : mm_cu} {st fi se th db : Nat → Int32} {F : mm_M} {S : Nat → stp} {k : Nat} {v : Nat → o3} {L : lvR} {x1 x2 x3 x4 : Int32} {Q : mm_R → mm_M → Prop} (hy : ¬ x2 = 0) (hI : cI S k ov un (nI L.1) st fi se th db (nI k)) (hdr : dr S k = some (v, L)) (hl : L.1 ≤ 2) (R : rdA ov un 308 0 L) (hH : ∀ i, i < k → hold (us (S i).1) ov un i (v i)) (hQ : ∀ (ov1 un1 : Nat → Int32) (nx1 fa1 : Int32) (r : oc), qPart S k x1 x2 x3 x4 = r → cI S k ov1 un1 (nI L.1) st fi se th db (nI k) → Q (toQ r) (wC ov1 un1 nx1 (nI L.1) fa1 cu st fi se th db (nI k) F)) : mm_call mm_Tb (d + 4) 13 [.ref 0, .int x1, .int x2, .int x3, .int x4] (wC ov un nx (nI L.1) fa cu st fi se th db (nI k) F) Q := by
  have hk := hI.1
  have hS := hI.2.2.1
  have hw := hI.2.2.2.1
  have hgv := gv_s hdr
  refine mm_in mt_13 (Nat.le_of_ble_eq_true rfl) ?_
  show mm_W _ _ _ _ _ _ _ (0, [(0, .ref 0), (1, .int x1), (2, .int x2), (3, .int x3), (4, .int x4)], [], wC ov un nx (nI L.1) fa cu st fi se th db (nI k) F, 0)
  refine mm_skip (mm_call_mono _ _) 2 (st' := (2, [(0, .ref 0), (1, .int x1), (2, .int x2), (3, .int x3), (4, .int x4)], [.int x1, .ref 0], wC ov un nx (nI L.1) fa cu st fi se th db (nI k) F, 0)) rfl ?_
  refine mm_inv (mm_call_mono _ _) (j := 18) (a := [.ref 0, .int x1]) (M := wC ov un nx (nI L.1) fa cu st fi se th db (nI k) F) (u := 0) rfl (by decide) (gd_isPoint hk hS hw ?_)
  show mm_W _ _ _ _ _ _ _ (5, [(0, .ref 0), (1, .int x1), (2, .int x2), (3, .int x3), (4, .int x4)], [.int (bz (ckd S k x1 = 0))], wC ov un nx (nI L.1) fa cu st fi se th db (nI k) F, 0)
  refine mm_branch (mm_call_mono _ _) (c := (bz (ckd S k x1 = 0)) = 0) (s1 := (17, [(0, .ref 0), (1, .int x1), (2, .int x2), (3, .int x3), (4, .int x4)], [], wC ov un nx (nI L.1) fa cu st fi se th db (nI k) F, 0)) (s2 := (8, [(0, .ref 0), (1, .int x1), (2, .int x2), (3, .int x3), (4, .int x4)], [], wC ov un nx (nI L.1) fa cu st fi se th db (nI k) F, 0)) rfl (fun z1 => ?_) (fun z1 => ?_)
  · skip
    exact mm_ret (mm_call_mono _ _) (c := True) (r := .inr "java/lang/IllegalArgumentException") (M := wC ov un nx (nI L.1) fa cu st fi se th db (nI k) F) (u := 1) rfl trivial (by decide) (by have e9 := hQ _ _ nx fa (1, 0) (if_neg (fun z => bz_0 z1 z.1)) hI; exact e9)
  · skip
    refine mm_skip (mm_call_mono _ _) 1 (st' := (9, [(0, .ref 0), (1, .int x1), (2, .int x2), (3, .int x3), (4, .int x4)], [.int x3], wC ov un nx (nI L.1) fa cu st fi se th db (nI k) F, 0)) rfl ?_
    refine mm_branch (mm_call_mono _ _) (c := x3 < 0) (s1 := (17, [(0, .ref 0), (1, .int x1), (2, .int x2), (3, .int x3), (4, .int x4)], [], wC ov un nx (nI L.1) fa cu st fi se th db (nI k) F, 0)) (s2 := (12, [(0, .ref 0), (1, .int x1), (2, .int x2), (3, .int x3), (4, .int x4)], [], wC ov un nx (nI L.1) fa cu st fi se th db (nI k) F, 0)) rfl (fun z2 => ?_) (fun z2 => ?_)
    · skip
      exact mm_ret (mm_call_mono _ _) (c := True) (r := .inr "java/lang/IllegalArgumentException") (M := wC ov un nx (nI L.1) fa cu st fi se th db (nI k) F) (u := 1) rfl trivial (by decide) (by have e9 := hQ _ _ nx fa (1, 0) (if_neg (fun z => z.2.1 z2)) hI; exact e9)
    · skip
      refine mm_skip (mm_call_mono _ _) 2 (st' := (14, [(0, .ref 0), (1, .int x1), (2, .int x2), (3, .int x3), (4, .int x4)], [.int 4, .int x3], wC ov un nx (nI L.1) fa cu st fi se th db (nI k) F, 0)) rfl ?_
      refine mm_branch (mm_call_mono _ _) (c := x3 < 4) (s1 := (27, [(0, .ref 0), (1, .int x1), (2, .int x2), (3, .int x3), (4, .int x4)], [], wC ov un nx (nI L.1) fa cu st fi se th db (nI k) F, 0)) (s2 := (17, [(0, .ref 0), (1, .int x1), (2, .int x2), (3, .int x3), (4, .int x4)], [], wC ov un nx (nI L.1) fa cu st fi se th db (nI k) F, 0)) rfl (fun z3 => ?_) (fun z3 => ?_)
      · skip
        have u1 := bz_1 z1
        obtain ⟨i, hi, rfl, pi⟩ := ckd_pt hk (bz_1 z1)
        have Ki := hold_pt pi (hH i hi)
        obtain ⟨a, ha, rfl⟩ := in4 z2 z3
        refine mm_skip (mm_call_mono _ _) 3 (st' := (32, [(0, .ref 0), (1, .int (nI i)), (2, .int x2), (3, .int (nI a)), (4, .int x4)], [.int x2, .ref 1], wC ov un nx (nI L.1) fa cu st fi se th db (nI k) F, 0)) rfl ?_
        refine mm_branch (mm_call_mono _ _) (c := x2 = 0) (s1 := (42, [(0, .ref 0), (1, .int (nI i)), (2, .int x2), (3, .int (nI a)), (4, .int x4)], [.ref 1], wC ov un nx (nI L.1) fa cu st fi se th db (nI k) F, 0)) (s2 := (35, [(0, .ref 0), (1, .int (nI i)), (2, .int x2), (3, .int (nI a)), (4, .int x4)], [.ref 1], wC ov un nx (nI L.1) fa cu st fi se th db (nI k) F, 0)) rfl (fun h => absurd h hy) (fun _ => ?_)
        refine mm_skip (mm_call_mono _ _) 1 (st' := (36, [(0, .ref 0), (1, .int (nI i)), (2, .int x2), (3, .int (nI a)), (4, .int x4)], [.int (nI i), .ref 1], wC ov un nx (nI L.1) fa cu st fi se th db (nI k) F, 0)) rfl ?_
        refine mm_inv (mm_call_mono _ _) (j := 42) (a := [.int (nI i)]) (M := wC ov un nx (nI L.1) fa cu st fi se th db (nI k) F) (u := 0) rfl (by decide) (ct_C_yOf ?_)
        show mm_W _ _ _ _ _ _ _ (39, [(0, .ref 0), (1, .int (nI i)), (2, .int x2), (3, .int (nI a)), (4, .int x4)], [.int (nI (12 + 12 * i)), .ref 1], wC ov un nx (nI L.1) fa cu st fi se th db (nI k) F, 0)
        refine mm_skip (mm_call_mono _ _) 3 (st' := (48, [(0, .ref 0), (1, .int (nI i)), (2, .int x2), (3, .int (nI a)), (4, .int x4)], [.int ((nI (12 + 12 * i)) + (nI a)), .ref 1], wC ov un nx (nI L.1) fa cu st fi se th db (nI k) F, 0)) rfl ?_
        rw [(nI_add (12 + 12 * i) a)]
        show mm_W _ _ _ _ _ _ _ (48, [(0, .ref 0), (1, .int (nI i)), (2, .int x2), (3, .int (nI a)), (4, .int x4)], [.int (nI (12 + 12 * i + a)), .ref 1], wC ov un nx (nI L.1) fa cu st fi se th db (nI k) F, 0)
        refine mm_skip (mm_call_mono _ _) 1 (st' := (50, [(0, .ref 0), (1, .int (nI i)), (2, .int x2), (3, .int (nI a)), (4, .int x4)], [.int x4, .int (nI (12 + 12 * i + a)), .ref 1], wC ov un nx (nI L.1) fa cu st fi se th db (nI k) F, 0)) rfl ?_
        refine mm_inv (mm_call_mono _ _) (j := 123) (a := [.ref 1, .int (nI (12 + 12 * i + a)), .int x4]) (M := wC ov un nx (nI L.1) fa cu st fi se th db (nI k) F) (u := 0) rfl (by decide) (gd_read (a := 12 + 12 * i + a) (by omega) ?_)
        show mm_W _ _ _ _ _ _ _ (53, [(0, .ref 0), (1, .int (nI i)), (2, .int x2), (3, .int (nI a)), (4, .int x4)], [.int (if x4 = 0 then ov (12 + 12 * i + a) else un (12 + 12 * i + a))], wC ov un nx (nI L.1) fa cu st fi se th db (nI k) F, 0)
        exact mm_ret (mm_call_mono _ _) (c := True) (r := .inl (some (.int (if x4 = 0 then ov (12 + 12 * i + a) else un (12 + 12 * i + a))))) (M := wC ov un nx (nI L.1) fa cu st fi se th db (nI k) F) (u := 0) rfl trivial (by decide) (by have e9 := hQ _ _ nx fa (0, if x4 = 0 then ov (12 + 12 * i + a) else un (12 + 12 * i + a)) ((show qPart S k (nI i) x2 (nI a) x4 = (0, prt ((v i).2.1) a x4) from (if_pos ⟨u1, z2, z3⟩).trans (by rw [hgv, cl_n (by omega), cl_n (by omega), if_neg hy])).trans (congrArg (Prod.mk 0) (prt_v Ki.2 ha x4).symm)) hI; exact e9)
      · skip
        exact mm_ret (mm_call_mono _ _) (c := True) (r := .inr "java/lang/IllegalArgumentException") (M := wC ov un nx (nI L.1) fa cu st fi se th db (nI k) F) (u := 1) rfl trivial (by decide) (by have e9 := hQ _ _ nx fa (1, 0) (if_neg (fun z => z3 z.2.2)) hI; exact e9)

set_option maxRecDepth 100000 in
theorem gq_rad1 {d : Nat} {ov un : Nat → Int32} {nx fa : Int32} {cu : mm_cu} {st fi se th db : Nat → Int32} {F : mm_M} {S : Nat → stp} {k : Nat} {v : Nat → o3} {L : lvR} {x2 x3 : Int32} {Q : mm_R → mm_M → Prop} (hv : 1 ≤ L.1) (hI : cI S k ov un (nI L.1) st fi se th db (nI k)) (hdr : dr S k = some (v, L)) (hl : L.1 ≤ 2) (R : rdA ov un 308 0 L) (hH : ∀ i, i < k → hold (us (S i).1) ov un i (v i)) (hQ : ∀ (ov1 un1 : Nat → Int32) (nx1 fa1 : Int32) (r : oc), qRad S k 1 x2 x3 = r → cI S k ov1 un1 (nI L.1) st fi se th db (nI k) → Q (toI r) (wC ov1 un1 nx1 (nI L.1) fa1 cu st fi se th db (nI k) F)) : mm_call mm_Tb (d + 2) 14 [.ref 0, .int 1, .int x2, .int x3] (wC ov un nx (nI L.1) fa cu st fi se th db (nI k) F) Q := by
  have hk := hI.1
  have hS := hI.2.2.1
  have hw := hI.2.2.2.1
  have hgv := gv_s hdr
  refine mm_in mt_14 (Nat.le_of_ble_eq_true rfl) ?_
  show mm_W _ _ _ _ _ _ _ (0, [(0, .ref 0), (1, .int 1), (2, .int x2), (3, .int x3)], [], wC ov un nx (nI L.1) fa cu st fi se th db (nI k) F, 0)
  refine mm_skip (mm_call_mono _ _) 2 (st' := (2, [(0, .ref 0), (1, .int 1), (2, .int x2), (3, .int x3)], [.int 1, .int 1], wC ov un nx (nI L.1) fa cu st fi se th db (nI k) F, 0)) rfl ?_
  refine mm_branch (mm_call_mono _ _) (c := (1 : Int32) < 1) (s1 := (25, [(0, .ref 0), (1, .int 1), (2, .int x2), (3, .int x3)], [], wC ov un nx (nI L.1) fa cu st fi se th db (nI k) F, 0)) (s2 := (5, [(0, .ref 0), (1, .int 1), (2, .int x2), (3, .int x3)], [], wC ov un nx (nI L.1) fa cu st fi se th db (nI k) F, 0)) rfl (fun h => absurd h (by decide)) (fun _ => ?_)
  refine mm_skip (mm_call_mono _ _) 4 (st' := (13, [(0, .ref 0), (1, .int 1), (2, .int x2), (3, .int x3)], [.int (nI L.1), .int 1], wC ov un nx (nI L.1) fa cu st fi se th db (nI k) F, 0)) rfl ?_
  refine mm_branch (mm_call_mono _ _) (c := (nI L.1) < 1) (s1 := (25, [(0, .ref 0), (1, .int 1), (2, .int x2), (3, .int x3)], [], wC ov un nx (nI L.1) fa cu st fi se th db (nI k) F, 0)) (s2 := (16, [(0, .ref 0), (1, .int 1), (2, .int x2), (3, .int x3)], [], wC ov un nx (nI L.1) fa cu st fi se th db (nI k) F, 0)) rfl (fun h => absurd h (fun z => nI_nlt hv (by omega) (show nI L.1 < nI 1 from z))) (fun _ => ?_)
  refine mm_skip (mm_call_mono _ _) 1 (st' := (17, [(0, .ref 0), (1, .int 1), (2, .int x2), (3, .int x3)], [.int x2], wC ov un nx (nI L.1) fa cu st fi se th db (nI k) F, 0)) rfl ?_
  refine mm_branch (mm_call_mono _ _) (c := x2 < 0) (s1 := (25, [(0, .ref 0), (1, .int 1), (2, .int x2), (3, .int x3)], [], wC ov un nx (nI L.1) fa cu st fi se th db (nI k) F, 0)) (s2 := (20, [(0, .ref 0), (1, .int 1), (2, .int x2), (3, .int x3)], [], wC ov un nx (nI L.1) fa cu st fi se th db (nI k) F, 0)) rfl (fun z2 => ?_) (fun z2 => ?_)
  · skip
    exact mm_ret (mm_call_mono _ _) (c := True) (r := .inr "java/lang/IndexOutOfBoundsException") (M := wC ov un nx (nI L.1) fa cu st fi se th db (nI k) F) (u := 1) rfl trivial (by decide) (by have e9 := hQ _ _ nx fa (1, 0) (if_neg (fun z => z.2.2.1 z2)) hI; exact e9)
  · skip
    refine mm_skip (mm_call_mono _ _) 2 (st' := (22, [(0, .ref 0), (1, .int 1), (2, .int x2), (3, .int x3)], [.int 4, .int x2], wC ov un nx (nI L.1) fa cu st fi se th db (nI k) F, 0)) rfl ?_
    refine mm_branch (mm_call_mono _ _) (c := x2 < 4) (s1 := (35, [(0, .ref 0), (1, .int 1), (2, .int x2), (3, .int x3)], [], wC ov un nx (nI L.1) fa cu st fi se th db (nI k) F, 0)) (s2 := (25, [(0, .ref 0), (1, .int 1), (2, .int x2), (3, .int x3)], [], wC ov un nx (nI L.1) fa cu st fi se th db (nI k) F, 0)) rfl (fun z3 => ?_) (fun z3 => ?_)
    · skip
      obtain ⟨a, ha, rfl⟩ := in4 z2 z3
      refine mm_skip (mm_call_mono _ _) 3 (st' := (40, [(0, .ref 0), (1, .int 1), (2, .int (nI a)), (3, .int x3)], [.int 1, .ref 1], wC ov un nx (nI L.1) fa cu st fi se th db (nI k) F, 0)) rfl ?_
      refine mm_inv (mm_call_mono _ _) (j := 120) (a := [.int 1]) (M := wC ov un nx (nI L.1) fa cu st fi se th db (nI k) F) (u := 0) rfl (by decide) (ct_N_radicandOf_1 ?_)
      show mm_W _ _ _ _ _ _ _ (43, [(0, .ref 0), (1, .int 1), (2, .int (nI a)), (3, .int x3)], [.int (nI 0), .ref 1], wC ov un nx (nI L.1) fa cu st fi se th db (nI k) F, 0)
      refine mm_skip (mm_call_mono _ _) 2 (st' := (45, [(0, .ref 0), (1, .int 1), (2, .int (nI a)), (3, .int x3)], [.int ((nI 0) + (nI a)), .ref 1], wC ov un nx (nI L.1) fa cu st fi se th db (nI k) F, 0)) rfl ?_
      rw [(nI_add 0 a)]
      show mm_W _ _ _ _ _ _ _ (45, [(0, .ref 0), (1, .int 1), (2, .int (nI a)), (3, .int x3)], [.int (nI (0 + a)), .ref 1], wC ov un nx (nI L.1) fa cu st fi se th db (nI k) F, 0)
      refine mm_skip (mm_call_mono _ _) 1 (st' := (46, [(0, .ref 0), (1, .int 1), (2, .int (nI a)), (3, .int x3)], [.int x3, .int (nI (0 + a)), .ref 1], wC ov un nx (nI L.1) fa cu st fi se th db (nI k) F, 0)) rfl ?_
      refine mm_inv (mm_call_mono _ _) (j := 123) (a := [.ref 1, .int (nI (0 + a)), .int x3]) (M := wC ov un nx (nI L.1) fa cu st fi se th db (nI k) F) (u := 0) rfl (by decide) (gd_read (a := 0 + a) (by omega) ?_)
      show mm_W _ _ _ _ _ _ _ (49, [(0, .ref 0), (1, .int 1), (2, .int (nI a)), (3, .int x3)], [.int (if x3 = 0 then ov (0 + a) else un (0 + a))], wC ov un nx (nI L.1) fa cu st fi se th db (nI k) F, 0)
      exact mm_ret (mm_call_mono _ _) (c := True) (r := .inl (some (.int (if x3 = 0 then ov (0 + a) else un (0 + a))))) (M := wC ov un nx (nI L.1) fa cu st fi se th db (nI k) F) (u := 0) rfl trivial (by decide) (by have e9 := hQ _ _ nx fa (0, if x3 = 0 then ov (0 + a) else un (0 + a)) ((if_pos ⟨by decide, by rw [hgv]; exact (nI_le hv (by omega) : nI 1 ≤ nI L.1), z2, z3⟩).trans (by rw [hgv, cl_n (by omega)]; exact congrArg (Prod.mk 0) (prt_v (kp_at (R.1 (by omega)) rfl) ha x3).symm)) hI; exact e9)
    · skip
      exact mm_ret (mm_call_mono _ _) (c := True) (r := .inr "java/lang/IndexOutOfBoundsException") (M := wC ov un nx (nI L.1) fa cu st fi se th db (nI k) F) (u := 1) rfl trivial (by decide) (by have e9 := hQ _ _ nx fa (1, 0) (if_neg (fun z => z3 z.2.2.2)) hI; exact e9)

set_option maxRecDepth 100000 in
theorem gq_rad2 {d : Nat} {ov un : Nat → Int32} {nx fa : Int32} {cu : mm_cu} {st fi se th db : Nat → Int32} {F : mm_M} {S : Nat → stp} {k : Nat} {v : Nat → o3} {L : lvR} {x2 x3 : Int32} {Q : mm_R → mm_M → Prop} (hv : 2 ≤ L.1) (hI : cI S k ov un (nI L.1) st fi se th db (nI k)) (hdr : dr S k = some (v, L)) (hl : L.1 ≤ 2) (R : rdA ov un 308 0 L) (hH : ∀ i, i < k → hold (us (S i).1) ov un i (v i)) (hQ : ∀ (ov1 un1 : Nat → Int32) (nx1 fa1 : Int32) (r : oc), qRad S k 2 x2 x3 = r → cI S k ov1 un1 (nI L.1) st fi se th db (nI k) → Q (toI r) (wC ov1 un1 nx1 (nI L.1) fa1 cu st fi se th db (nI k) F)) : mm_call mm_Tb (d + 2) 14 [.ref 0, .int 2, .int x2, .int x3] (wC ov un nx (nI L.1) fa cu st fi se th db (nI k) F) Q := by
  have hk := hI.1
  have hS := hI.2.2.1
  have hw := hI.2.2.2.1
  have hgv := gv_s hdr
  refine mm_in mt_14 (Nat.le_of_ble_eq_true rfl) ?_
  show mm_W _ _ _ _ _ _ _ (0, [(0, .ref 0), (1, .int 2), (2, .int x2), (3, .int x3)], [], wC ov un nx (nI L.1) fa cu st fi se th db (nI k) F, 0)
  refine mm_skip (mm_call_mono _ _) 2 (st' := (2, [(0, .ref 0), (1, .int 2), (2, .int x2), (3, .int x3)], [.int 1, .int 2], wC ov un nx (nI L.1) fa cu st fi se th db (nI k) F, 0)) rfl ?_
  refine mm_branch (mm_call_mono _ _) (c := (2 : Int32) < 1) (s1 := (25, [(0, .ref 0), (1, .int 2), (2, .int x2), (3, .int x3)], [], wC ov un nx (nI L.1) fa cu st fi se th db (nI k) F, 0)) (s2 := (5, [(0, .ref 0), (1, .int 2), (2, .int x2), (3, .int x3)], [], wC ov un nx (nI L.1) fa cu st fi se th db (nI k) F, 0)) rfl (fun h => absurd h (by decide)) (fun _ => ?_)
  refine mm_skip (mm_call_mono _ _) 4 (st' := (13, [(0, .ref 0), (1, .int 2), (2, .int x2), (3, .int x3)], [.int (nI L.1), .int 2], wC ov un nx (nI L.1) fa cu st fi se th db (nI k) F, 0)) rfl ?_
  refine mm_branch (mm_call_mono _ _) (c := (nI L.1) < 2) (s1 := (25, [(0, .ref 0), (1, .int 2), (2, .int x2), (3, .int x3)], [], wC ov un nx (nI L.1) fa cu st fi se th db (nI k) F, 0)) (s2 := (16, [(0, .ref 0), (1, .int 2), (2, .int x2), (3, .int x3)], [], wC ov un nx (nI L.1) fa cu st fi se th db (nI k) F, 0)) rfl (fun h => absurd h (fun z => nI_nlt hv (by omega) (show nI L.1 < nI 2 from z))) (fun _ => ?_)
  refine mm_skip (mm_call_mono _ _) 1 (st' := (17, [(0, .ref 0), (1, .int 2), (2, .int x2), (3, .int x3)], [.int x2], wC ov un nx (nI L.1) fa cu st fi se th db (nI k) F, 0)) rfl ?_
  refine mm_branch (mm_call_mono _ _) (c := x2 < 0) (s1 := (25, [(0, .ref 0), (1, .int 2), (2, .int x2), (3, .int x3)], [], wC ov un nx (nI L.1) fa cu st fi se th db (nI k) F, 0)) (s2 := (20, [(0, .ref 0), (1, .int 2), (2, .int x2), (3, .int x3)], [], wC ov un nx (nI L.1) fa cu st fi se th db (nI k) F, 0)) rfl (fun z2 => ?_) (fun z2 => ?_)
  · skip
    exact mm_ret (mm_call_mono _ _) (c := True) (r := .inr "java/lang/IndexOutOfBoundsException") (M := wC ov un nx (nI L.1) fa cu st fi se th db (nI k) F) (u := 1) rfl trivial (by decide) (by have e9 := hQ _ _ nx fa (1, 0) (if_neg (fun z => z.2.2.1 z2)) hI; exact e9)
  · skip
    refine mm_skip (mm_call_mono _ _) 2 (st' := (22, [(0, .ref 0), (1, .int 2), (2, .int x2), (3, .int x3)], [.int 4, .int x2], wC ov un nx (nI L.1) fa cu st fi se th db (nI k) F, 0)) rfl ?_
    refine mm_branch (mm_call_mono _ _) (c := x2 < 4) (s1 := (35, [(0, .ref 0), (1, .int 2), (2, .int x2), (3, .int x3)], [], wC ov un nx (nI L.1) fa cu st fi se th db (nI k) F, 0)) (s2 := (25, [(0, .ref 0), (1, .int 2), (2, .int x2), (3, .int x3)], [], wC ov un nx (nI L.1) fa cu st fi se th db (nI k) F, 0)) rfl (fun z3 => ?_) (fun z3 => ?_)
    · skip
      obtain ⟨a, ha, rfl⟩ := in4 z2 z3
      refine mm_skip (mm_call_mono _ _) 3 (st' := (40, [(0, .ref 0), (1, .int 2), (2, .int (nI a)), (3, .int x3)], [.int 2, .ref 1], wC ov un nx (nI L.1) fa cu st fi se th db (nI k) F, 0)) rfl ?_
      refine mm_inv (mm_call_mono _ _) (j := 120) (a := [.int 2]) (M := wC ov un nx (nI L.1) fa cu st fi se th db (nI k) F) (u := 0) rfl (by decide) (ct_N_radicandOf_2 ?_)
      show mm_W _ _ _ _ _ _ _ (43, [(0, .ref 0), (1, .int 2), (2, .int (nI a)), (3, .int x3)], [.int (nI 4), .ref 1], wC ov un nx (nI L.1) fa cu st fi se th db (nI k) F, 0)
      refine mm_skip (mm_call_mono _ _) 2 (st' := (45, [(0, .ref 0), (1, .int 2), (2, .int (nI a)), (3, .int x3)], [.int ((nI 4) + (nI a)), .ref 1], wC ov un nx (nI L.1) fa cu st fi se th db (nI k) F, 0)) rfl ?_
      rw [(nI_add 4 a)]
      show mm_W _ _ _ _ _ _ _ (45, [(0, .ref 0), (1, .int 2), (2, .int (nI a)), (3, .int x3)], [.int (nI (4 + a)), .ref 1], wC ov un nx (nI L.1) fa cu st fi se th db (nI k) F, 0)
      refine mm_skip (mm_call_mono _ _) 1 (st' := (46, [(0, .ref 0), (1, .int 2), (2, .int (nI a)), (3, .int x3)], [.int x3, .int (nI (4 + a)), .ref 1], wC ov un nx (nI L.1) fa cu st fi se th db (nI k) F, 0)) rfl ?_
      refine mm_inv (mm_call_mono _ _) (j := 123) (a := [.ref 1, .int (nI (4 + a)), .int x3]) (M := wC ov un nx (nI L.1) fa cu st fi se th db (nI k) F) (u := 0) rfl (by decide) (gd_read (a := 4 + a) (by omega) ?_)
      show mm_W _ _ _ _ _ _ _ (49, [(0, .ref 0), (1, .int 2), (2, .int (nI a)), (3, .int x3)], [.int (if x3 = 0 then ov (4 + a) else un (4 + a))], wC ov un nx (nI L.1) fa cu st fi se th db (nI k) F, 0)
      exact mm_ret (mm_call_mono _ _) (c := True) (r := .inl (some (.int (if x3 = 0 then ov (4 + a) else un (4 + a))))) (M := wC ov un nx (nI L.1) fa cu st fi se th db (nI k) F) (u := 0) rfl trivial (by decide) (by have e9 := hQ _ _ nx fa (0, if x3 = 0 then ov (4 + a) else un (4 + a)) ((if_pos ⟨by decide, by rw [hgv]; exact (nI_le hv (by omega) : nI 2 ≤ nI L.1), z2, z3⟩).trans (by rw [hgv, cl_n (by omega)]; exact congrArg (Prod.mk 0) (prt_v (kp_at (R.2 (by omega)) rfl) ha x3).symm)) hI; exact e9)
    · skip
      exact mm_ret (mm_call_mono _ _) (c := True) (r := .inr "java/lang/IndexOutOfBoundsException") (M := wC ov un nx (nI L.1) fa cu st fi se th db (nI k) F) (u := 1) rfl trivial (by decide) (by have e9 := hQ _ _ nx fa (1, 0) (if_neg (fun z => z3 z.2.2.2)) hI; exact e9)

set_option maxRecDepth 100000 in
theorem gq_radX {d : Nat} {ov un : Nat → Int32} {nx fa : Int32} {cu : mm_cu} {st fi se th db : Nat → Int32} {F : mm_M} {S : Nat → stp} {k : Nat} {v : Nat → o3} {L : lvR} {x1 x2 x3 : Int32} {Q : mm_R → mm_M → Prop} (hx : ¬ (¬ x1 < 1 ∧ x1 ≤ nI L.1)) (hI : cI S k ov un (nI L.1) st fi se th db (nI k)) (hdr : dr S k = some (v, L)) (hl : L.1 ≤ 2) (R : rdA ov un 308 0 L) (hH : ∀ i, i < k → hold (us (S i).1) ov un i (v i)) (hQ : ∀ (ov1 un1 : Nat → Int32) (nx1 fa1 : Int32) (r : oc), qRad S k x1 x2 x3 = r → cI S k ov1 un1 (nI L.1) st fi se th db (nI k) → Q (toI r) (wC ov1 un1 nx1 (nI L.1) fa1 cu st fi se th db (nI k) F)) : mm_call mm_Tb (d + 2) 14 [.ref 0, .int x1, .int x2, .int x3] (wC ov un nx (nI L.1) fa cu st fi se th db (nI k) F) Q := by
  have hk := hI.1
  have hS := hI.2.2.1
  have hw := hI.2.2.2.1
  have hgv := gv_s hdr
  refine mm_in mt_14 (Nat.le_of_ble_eq_true rfl) ?_
  show mm_W _ _ _ _ _ _ _ (0, [(0, .ref 0), (1, .int x1), (2, .int x2), (3, .int x3)], [], wC ov un nx (nI L.1) fa cu st fi se th db (nI k) F, 0)
  refine mm_skip (mm_call_mono _ _) 2 (st' := (2, [(0, .ref 0), (1, .int x1), (2, .int x2), (3, .int x3)], [.int 1, .int x1], wC ov un nx (nI L.1) fa cu st fi se th db (nI k) F, 0)) rfl ?_
  refine mm_branch (mm_call_mono _ _) (c := x1 < 1) (s1 := (25, [(0, .ref 0), (1, .int x1), (2, .int x2), (3, .int x3)], [], wC ov un nx (nI L.1) fa cu st fi se th db (nI k) F, 0)) (s2 := (5, [(0, .ref 0), (1, .int x1), (2, .int x2), (3, .int x3)], [], wC ov un nx (nI L.1) fa cu st fi se th db (nI k) F, 0)) rfl (fun z1 => ?_) (fun z1 => ?_)
  · skip
    exact mm_ret (mm_call_mono _ _) (c := True) (r := .inr "java/lang/IndexOutOfBoundsException") (M := wC ov un nx (nI L.1) fa cu st fi se th db (nI k) F) (u := 1) rfl trivial (by decide) (by have e9 := hQ _ _ nx fa (1, 0) (if_neg (fun z => z.1 z1)) hI; exact e9)
  · skip
    refine mm_skip (mm_call_mono _ _) 4 (st' := (13, [(0, .ref 0), (1, .int x1), (2, .int x2), (3, .int x3)], [.int (nI L.1), .int x1], wC ov un nx (nI L.1) fa cu st fi se th db (nI k) F, 0)) rfl ?_
    refine mm_branch (mm_call_mono _ _) (c := (nI L.1) < x1) (s1 := (25, [(0, .ref 0), (1, .int x1), (2, .int x2), (3, .int x3)], [], wC ov un nx (nI L.1) fa cu st fi se th db (nI k) F, 0)) (s2 := (16, [(0, .ref 0), (1, .int x1), (2, .int x2), (3, .int x3)], [], wC ov un nx (nI L.1) fa cu st fi se th db (nI k) F, 0)) rfl (fun _ => ?_) (fun h => absurd (Int32.not_le.mp (fun z => hx ⟨z1, z⟩)) h)
    exact mm_ret (mm_call_mono _ _) (c := True) (r := .inr "java/lang/IndexOutOfBoundsException") (M := wC ov un nx (nI L.1) fa cu st fi se th db (nI k) F) (u := 1) rfl trivial (by decide) (by have e9 := hQ _ _ nx fa (1, 0) (if_neg (fun z => hx ⟨z.1, by have h := z.2.1; rw [hgv] at h; exact h⟩)) hI; exact e9)

set_option maxRecDepth 100000 in
theorem cfp_loop {d : Nat} {ov un : Nat → Int32} {nx dp fa : Int32} {cu : mm_cu} {st fi se th db : Nat → Int32} {F : mm_M} {S : Nat → stp} {k : Nat} {Q : mm_R → mm_M → Prop} (hk : k ≤ 24) (hS : ∀ i, i < k → stM st fi se th S i) (hw : ∀ i, i < k → wf S i) (hQ : Q (.inl (some (.int (nI (nfr S k))))) (wC ov un nx dp fa cu st fi se th db (nI k) F)) : ∀ (m i c : Nat), i + m = k → c = nfr S i → mm_W (mm_call mm_Tb d) mp_C_countFreePoints (mm_bt mm_Tb) 0 (some .int) 3 Q (4, [(2, .int (nI i)), (1, .int (nI c)), (0, .ref 0)], [], wC ov un nx dp fa cu st fi se th db (nI k) F, 0)
  | 0, i, c, hm, hc => by
    have e : i = k := by omega
    subst e
    subst hc
    refine mm_skip (mm_call_mono _ _) 3 (st' := (9, [(2, .int (nI i)), (1, .int (nI (nfr S i))), (0, .ref 0)], [.int (nI i), .int (nI i)], wC ov un nx dp fa cu st fi se th db (nI i) F, 0)) rfl ?_
    refine mm_branch (mm_call_mono _ _) (c := (nI i) ≤ (nI i)) (s1 := (35, [(2, .int (nI i)), (1, .int (nI (nfr S i))), (0, .ref 0)], [], wC ov un nx dp fa cu st fi se th db (nI i) F, 0)) (s2 := (12, [(2, .int (nI i)), (1, .int (nI (nfr S i))), (0, .ref 0)], [], wC ov un nx dp fa cu st fi se th db (nI i) F, 0)) rfl (fun _ => ?_) (fun h => absurd (nI_le (show i ≤ i by omega) (by omega)) h)
    refine mm_skip (mm_call_mono _ _) 1 (st' := (36, [(2, .int (nI i)), (1, .int (nI (nfr S i))), (0, .ref 0)], [.int (nI (nfr S i))], wC ov un nx dp fa cu st fi se th db (nI i) F, 0)) rfl ?_
    exact mm_ret (mm_call_mono _ _) (c := True) (r := .inl (some (.int (nI (nfr S i))))) (M := wC ov un nx dp fa cu st fi se th db (nI i) F) (u := 0) rfl trivial (by decide) hQ

  | m + 1, i, c, hm, hc => by
    have hi : i < k := by omega
    refine mm_skip (mm_call_mono _ _) 3 (st' := (9, [(2, .int (nI i)), (1, .int (nI c)), (0, .ref 0)], [.int (nI k), .int (nI i)], wC ov un nx dp fa cu st fi se th db (nI k) F, 0)) rfl ?_
    refine mm_branch (mm_call_mono _ _) (c := (nI k) ≤ (nI i)) (s1 := (35, [(2, .int (nI i)), (1, .int (nI c)), (0, .ref 0)], [], wC ov un nx dp fa cu st fi se th db (nI k) F, 0)) (s2 := (12, [(2, .int (nI i)), (1, .int (nI c)), (0, .ref 0)], [], wC ov un nx dp fa cu st fi se th db (nI k) F, 0)) rfl (fun h => absurd h (nI_ge hi (by omega))) (fun _ => ?_)
    refine mm_skip (mm_call_mono _ _) 4 (st' := (18, [(2, .int (nI i)), (1, .int (nI c)), (0, .ref 0)], [.int (nI i), .ref 3, .int (nI c)], wC ov un nx dp fa cu st fi se th db (nI k) F, 0)) rfl ?_
    refine mm_need (mm_call_mono _ _) (c := vp_in (nI i) 24) (s' := (19, [(2, .int (nI i)), (1, .int (nI c)), (0, .ref 0)], [.int (st (Int32.toNatClampNeg (nI i))), .int (nI c)], wC ov un nx dp fa cu st fi se th db (nI k) F, 0)) rfl (vp_in_nI (show i < 24 by omega) (by decide)) ?_
    rw [nI_clamp (show i < 2 ^ 31 by omega)]
    show mm_W _ _ _ _ _ _ _ (19, [(2, .int (nI i)), (1, .int (nI c)), (0, .ref 0)], [.int (st i), .int (nI c)], wC ov un nx dp fa cu st fi se th db (nI k) F, 0)
    refine mm_branch (mm_call_mono _ _) (c := (st i) = 0) (s1 := (22, [(2, .int (nI i)), (1, .int (nI c)), (0, .ref 0)], [.int (nI c)], wC ov un nx dp fa cu st fi se th db (nI k) F, 0)) (s2 := (26, [(2, .int (nI i)), (1, .int (nI c)), (0, .ref 0)], [.int (nI c)], wC ov un nx dp fa cu st fi se th db (nI k) F, 0)) rfl (fun z => ?_) (fun z => ?_)
    · have hz0 : (S i).1 = 0 := (nI_eq (by have := (hw i hi).1; omega) (by omega)).mp (((hS i hi).1).symm.trans (z.trans nI_0.symm))
      refine mm_skip (mm_call_mono _ _) 6 (st' := (4, [(2, .int ((nI i) + 1)), (1, .int ((nI c) + 1)), (0, .ref 0)], [], wC ov un nx dp fa cu st fi se th db (nI k) F, 0)) rfl ?_
      rw [nI_p1 (i)]
      rw [nI_p1 (c)]
      show mm_W _ _ _ _ _ _ _ (4, [(2, .int (nI (i + 1))), (1, .int (nI (c + 1))), (0, .ref 0)], [], wC ov un nx dp fa cu st fi se th db (nI k) F, 0)
      exact cfp_loop hk hS hw hQ m (i + 1) _ (by omega) (show _ = nfr S i + (if (S i).1 = 0 then 1 else 0) by rw [← hc]; first | rw [if_pos hz0] | rw [if_neg hz0, Nat.add_zero])
    · have hz0 : ¬ (S i).1 = 0 := fun e => z (((hS i hi).1).trans (by rw [e]; rfl))
      refine mm_skip (mm_call_mono _ _) 5 (st' := (4, [(2, .int ((nI i) + 1)), (1, .int ((nI c) + 0)), (0, .ref 0)], [], wC ov un nx dp fa cu st fi se th db (nI k) F, 0)) rfl ?_
      rw [nI_p1 (i)]
      rw [nI_p0 (c)]
      show mm_W _ _ _ _ _ _ _ (4, [(2, .int (nI (i + 1))), (1, .int (nI c)), (0, .ref 0)], [], wC ov un nx dp fa cu st fi se th db (nI k) F, 0)
      exact cfp_loop hk hS hw hQ m (i + 1) _ (by omega) (show _ = nfr S i + (if (S i).1 = 0 then 1 else 0) by rw [← hc]; first | rw [if_pos hz0] | rw [if_neg hz0, Nat.add_zero])

set_option maxRecDepth 100000 in
theorem gd_cfp {d : Nat} {ov un : Nat → Int32} {nx dp fa : Int32} {cu : mm_cu} {st fi se th db : Nat → Int32} {F : mm_M} {S : Nat → stp} {k : Nat} {Q : mm_R → mm_M → Prop} (hk : k ≤ 24) (hS : ∀ i, i < k → stM st fi se th S i) (hw : ∀ i, i < k → wf S i) (hQ : Q (.inl (some (.int (nI (nfr S k))))) (wC ov un nx dp fa cu st fi se th db (nI k) F)) : mm_call mm_Tb (d + 1) 17 [.ref 0] (wC ov un nx dp fa cu st fi se th db (nI k) F) Q := by
  refine mm_in mt_17 (Nat.le_of_ble_eq_true rfl) ?_
  show mm_W _ _ _ _ _ _ _ (0, [(0, .ref 0)], [], wC ov un nx dp fa cu st fi se th db (nI k) F, 0)
  refine mm_skip (mm_call_mono _ _) 4 (st' := (4, [(2, .int 0), (1, .int 0), (0, .ref 0)], [], wC ov un nx dp fa cu st fi se th db (nI k) F, 0)) rfl ?_
  exact cfp_loop hk hS hw hQ k 0 0 (by omega) rfl

set_option maxRecDepth 100000 in
theorem gq_look {d : Nat} {ov un : Nat → Int32} {nx fa : Int32} {cu : mm_cu} {st fi se th db : Nat → Int32} {F : mm_M} {S : Nat → stp} {k : Nat} {v : Nat → o3} {L : lvR} {x1 : Int32} {Q : mm_R → mm_M → Prop} (hI : cI S k ov un (nI L.1) st fi se th db (nI k)) (hdr : dr S k = some (v, L)) (hl : L.1 ≤ 2) (R : rdA ov un 308 0 L) (hH : ∀ i, i < k → hold (us (S i).1) ov un i (v i)) (hQ : Q (.inl (some (.int (qLook S k x1)))) (wC ov un nx (nI L.1) fa cu st fi se th db (nI k) F)) : mm_call mm_Tb (d + 2) 16 [.ref 0, .int x1] (wC ov un nx (nI L.1) fa cu st fi se th db (nI k) F) Q := by
  have hk := hI.1
  have hS := hI.2.2.1
  have hw := hI.2.2.2.1
  have hgv := gv_s hdr
  refine mm_in mt_16 (Nat.le_of_ble_eq_true rfl) ?_
  show mm_W _ _ _ _ _ _ _ (0, [(0, .ref 0), (1, .int x1)], [], wC ov un nx (nI L.1) fa cu st fi se th db (nI k) F, 0)
  refine mm_skip (mm_call_mono _ _) 1 (st' := (1, [(0, .ref 0), (1, .int x1)], [.int x1], wC ov un nx (nI L.1) fa cu st fi se th db (nI k) F, 0)) rfl ?_
  refine mm_switch (mm_call_mono _ _) (w := [(Int32.toInt x1 = 0, (28, [(0, .ref 0), (1, .int x1)], [], wC ov un nx (nI L.1) fa cu st fi se th db (nI k) F, 0)), (Int32.toInt x1 = 1, (33, [(0, .ref 0), (1, .int x1)], [], wC ov un nx (nI L.1) fa cu st fi se th db (nI k) F, 0)), (Int32.toInt x1 = 2, (41, [(0, .ref 0), (1, .int x1)], [], wC ov un nx (nI L.1) fa cu st fi se th db (nI k) F, 0)), ((Int32.toInt x1 < 0 ∨ 2 < Int32.toInt x1), (46, [(0, .ref 0), (1, .int x1)], [], wC ov un nx (nI L.1) fa cu st fi se th db (nI k) F, 0))]) rfl ⟨fun hs => ?_, fun hs => ?_, fun hs => ?_, fun hs => ?_, trivial⟩
  · skip
    refine mm_skip (mm_call_mono _ _) 2 (st' := (32, [(0, .ref 0), (1, .int x1)], [.int (nI k)], wC ov un nx (nI L.1) fa cu st fi se th db (nI k) F, 0)) rfl ?_
    exact mm_ret (mm_call_mono _ _) (c := True) (r := .inl (some (.int (nI k)))) (M := wC ov un nx (nI L.1) fa cu st fi se th db (nI k) F) (u := 0) rfl trivial (by decide) (by have hx : x1 = 0 := Int32.toInt_inj.mp (hs.trans (by decide)); subst hx; exact hQ)
  · skip
    refine mm_skip (mm_call_mono _ _) 3 (st' := (40, [(0, .ref 0), (1, .int x1)], [.int (nI L.1)], wC ov un nx (nI L.1) fa cu st fi se th db (nI k) F, 0)) rfl ?_
    exact mm_ret (mm_call_mono _ _) (c := True) (r := .inl (some (.int (nI L.1)))) (M := wC ov un nx (nI L.1) fa cu st fi se th db (nI k) F) (u := 0) rfl trivial (by decide) (by have hx : x1 = 1 := Int32.toInt_inj.mp (hs.trans (by decide)); subst hx; rw [show qLook S k 1 = nI L.1 by unfold qLook; rw [hgv]; rfl] at hQ; exact hQ)
  · skip
    refine mm_skip (mm_call_mono _ _) 1 (st' := (42, [(0, .ref 0), (1, .int x1)], [.ref 0], wC ov un nx (nI L.1) fa cu st fi se th db (nI k) F, 0)) rfl ?_
    refine mm_inv (mm_call_mono _ _) (j := 17) (a := [.ref 0]) (M := wC ov un nx (nI L.1) fa cu st fi se th db (nI k) F) (u := 0) rfl (by decide) (gd_cfp hk hS hw ?_)
    show mm_W _ _ _ _ _ _ _ (45, [(0, .ref 0), (1, .int x1)], [.int (nI (nfr S k))], wC ov un nx (nI L.1) fa cu st fi se th db (nI k) F, 0)
    exact mm_ret (mm_call_mono _ _) (c := True) (r := .inl (some (.int (nI (nfr S k))))) (M := wC ov un nx (nI L.1) fa cu st fi se th db (nI k) F) (u := 0) rfl trivial (by decide) (by have hx : x1 = 2 := Int32.toInt_inj.mp (hs.trans (by decide)); subst hx; exact hQ)
  · skip
    refine mm_skip (mm_call_mono _ _) 1 (st' := (47, [(0, .ref 0), (1, .int x1)], [.int (-1)], wC ov un nx (nI L.1) fa cu st fi se th db (nI k) F, 0)) rfl ?_
    exact mm_ret (mm_call_mono _ _) (c := True) (r := .inl (some (.int (-1)))) (M := wC ov un nx (nI L.1) fa cu st fi se th db (nI k) F) (u := 0) rfl trivial (by decide) (by have h2 : Int32.toInt x1 < 0 ∨ 2 < Int32.toInt x1 := hs; rw [show qLook S k x1 = -1 by unfold qLook; rw [if_neg (fun e => absurd h2 (by rw [e]; decide)), if_neg (fun e => absurd h2 (by rw [e]; decide)), if_neg (fun e => absurd h2 (by rw [e]; decide))]] at hQ; exact hQ)

