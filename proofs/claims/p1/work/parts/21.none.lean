theorem lt01 {a : Int32} (h : ¬ a < 1) : (0 : Int32) < a := by
  rw [Int32.lt_iff_toInt_lt] at h ⊢
  have h1 : (1 : Int32).toInt = 1 := by decide
  have h0 : (0 : Int32).toInt = 0 := by decide
  omega
theorem ct_C_isPoint0 {d : Nat} {ov un : Nat → Int32} {nx dp fa : Int32} {cu : mm_cu} {st fi se th db : Nat → Int32} {F : mm_M} {o : Int32} {Q : mm_R → mm_M → Prop} (hQ : Q (.inl (some (.int 0))) (wP (wCp ov un nx dp fa cu st fi se th db 0) F)) : mm_call mm_Tb (d + 2) 18 [.ref 0, .int o] (wP (wCp ov un nx dp fa cu st fi se th db 0) F) Q := ct_C_isPoint (by decide) (by rw [kd_0, bz_f (by decide)]; exact hQ)
theorem ct_C_isLine0 {d : Nat} {ov un : Nat → Int32} {nx dp fa : Int32} {cu : mm_cu} {st fi se th db : Nat → Int32} {F : mm_M} {o : Int32} {Q : mm_R → mm_M → Prop} (hQ : Q (.inl (some (.int 0))) (wP (wCp ov un nx dp fa cu st fi se th db 0) F)) : mm_call mm_Tb (d + 2) 19 [.ref 0, .int o] (wP (wCp ov un nx dp fa cu st fi se th db 0) F) Q := ct_C_isLine (by decide) (by rw [kd_0, bz_f (by decide)]; exact hQ)
theorem ct_C_isCircle0 {d : Nat} {ov un : Nat → Int32} {nx dp fa : Int32} {cu : mm_cu} {st fi se th db : Nat → Int32} {F : mm_M} {o : Int32} {Q : mm_R → mm_M → Prop} (hQ : Q (.inl (some (.int 0))) (wP (wCp ov un nx dp fa cu st fi se th db 0) F)) : mm_call mm_Tb (d + 2) 20 [.ref 0, .int o] (wP (wCp ov un nx dp fa cu st fi se th db 0) F) Q := ct_C_isCircle (by decide) (by rw [kd_0, bz_f (by decide)]; exact hQ)
theorem ct_C_kind0 {d : Nat} {ov un : Nat → Int32} {nx dp fa : Int32} {cu : mm_cu} {st fi se th db : Nat → Int32} {F : mm_M} {o : Int32} {Q : mm_R → mm_M → Prop} (hQ : Q (.inl (some (.int (-1)))) (wP (wCp ov un nx dp fa cu st fi se th db 0) F)) : mm_call mm_Tb (d + 1) 15 [.ref 0, .int o] (wP (wCp ov un nx dp fa cu st fi se th db 0) F) Q := ct_C_kind (by decide) (by rw [kd_0]; exact hQ)
set_option maxRecDepth 100000 in
theorem ct_C_isCurve0 {d : Nat} {ov un : Nat → Int32} {nx dp fa : Int32} {cu : mm_cu} {st fi se th db : Nat → Int32} {F : mm_M} {o : Int32} {Q : mm_R → mm_M → Prop} (hQ : Q (.inl (some (.int 0))) (wP (wCp ov un nx dp fa cu st fi se th db 0) F)) : mm_call mm_Tb (d + 3) 21 [.ref 0, .int o] (wP (wCp ov un nx dp fa cu st fi se th db 0) F) Q := by
  refine mm_in mt_21 (Nat.le_of_ble_eq_true rfl) ?_
  show mm_W _ _ _ _ _ _ _ (0, [(0, .ref 0), (1, .int o)], [], wP (wCp ov un nx dp fa cu st fi se th db 0) F, 0)
  refine mm_skip (mm_call_mono _ _) 2 (st' := (2, [(0, .ref 0), (1, .int o)], [.int o, .ref 0], wP (wCp ov un nx dp fa cu st fi se th db 0) F, 0)) rfl ?_
  refine mm_inv (mm_call_mono _ _) (j := 19) (a := [.ref 0, .int o]) (M := wP (wCp ov un nx dp fa cu st fi se th db 0) F) (u := 0) rfl (by decide) (ct_C_isLine0 ?_)
  show mm_W _ _ _ _ _ _ _ (5, [(0, .ref 0), (1, .int o)], [.int 0], wP (wCp ov un nx dp fa cu st fi se th db 0) F, 0)
  refine mm_branch (mm_call_mono _ _) (c := (0 : Int32) = 0) (s1 := (8, [(0, .ref 0), (1, .int o)], [], wP (wCp ov un nx dp fa cu st fi se th db 0) F, 0)) (s2 := (16, [(0, .ref 0), (1, .int o)], [], wP (wCp ov un nx dp fa cu st fi se th db 0) F, 0)) rfl (fun _ => ?_) (fun h => absurd (by decide) h)
  refine mm_skip (mm_call_mono _ _) 2 (st' := (10, [(0, .ref 0), (1, .int o)], [.int o, .ref 0], wP (wCp ov un nx dp fa cu st fi se th db 0) F, 0)) rfl ?_
  refine mm_inv (mm_call_mono _ _) (j := 20) (a := [.ref 0, .int o]) (M := wP (wCp ov un nx dp fa cu st fi se th db 0) F) (u := 0) rfl (by decide) (ct_C_isCircle0 ?_)
  show mm_W _ _ _ _ _ _ _ (13, [(0, .ref 0), (1, .int o)], [.int 0], wP (wCp ov un nx dp fa cu st fi se th db 0) F, 0)
  refine mm_branch (mm_call_mono _ _) (c := (0 : Int32) = 0) (s1 := (20, [(0, .ref 0), (1, .int o)], [], wP (wCp ov un nx dp fa cu st fi se th db 0) F, 0)) (s2 := (16, [(0, .ref 0), (1, .int o)], [], wP (wCp ov un nx dp fa cu st fi se th db 0) F, 0)) rfl (fun _ => ?_) (fun h => absurd (by decide) h)
  refine mm_skip (mm_call_mono _ _) 1 (st' := (21, [(0, .ref 0), (1, .int o)], [.int 0], wP (wCp ov un nx dp fa cu st fi se th db 0) F, 0)) rfl ?_
  exact mm_ret (mm_call_mono _ _) (c := mm_z 0) (r := .inl (some (.int 0))) (M := wP (wCp ov un nx dp fa cu st fi se th db 0) F) (u := 0) rfl (by unfold mm_z; decide) (by decide) hQ

set_option maxRecDepth 100000 in
theorem ct_C_line0 {d : Nat} {ov un : Nat → Int32} {nx dp fa : Int32} {cu : mm_cu} {st fi se th db : Nat → Int32} {F : mm_M} {a b : Int32} {Q : mm_R → mm_M → Prop} (hQ : Q (.inr "java/lang/IllegalArgumentException") (wP (wCp ov un nx dp fa cu st fi se th db 0) F)) : mm_call mm_Tb (d + 4) 1 [.ref 0, .int a, .int b] (wP (wCp ov un nx dp fa cu st fi se th db 0) F) Q := by
  refine mm_in mt_1 (Nat.le_of_ble_eq_true rfl) ?_
  show mm_W _ _ _ _ _ _ _ (0, [(0, .ref 0), (1, .int a), (2, .int b)], [], wP (wCp ov un nx dp fa cu st fi se th db 0) F, 0)
  refine mm_skip (mm_call_mono _ _) 2 (st' := (2, [(0, .ref 0), (1, .int a), (2, .int b)], [.int a, .ref 0], wP (wCp ov un nx dp fa cu st fi se th db 0) F, 0)) rfl ?_
  refine mm_inv (mm_call_mono _ _) (j := 18) (a := [.ref 0, .int a]) (M := wP (wCp ov un nx dp fa cu st fi se th db 0) F) (u := 0) rfl (by decide) (ct_C_isPoint0 ?_)
  show mm_W _ _ _ _ _ _ _ (5, [(0, .ref 0), (1, .int a), (2, .int b)], [.int 0], wP (wCp ov un nx dp fa cu st fi se th db 0) F, 0)
  refine mm_branch (mm_call_mono _ _) (c := (0 : Int32) = 0) (s1 := (16, [(0, .ref 0), (1, .int a), (2, .int b)], [], wP (wCp ov un nx dp fa cu st fi se th db 0) F, 0)) (s2 := (8, [(0, .ref 0), (1, .int a), (2, .int b)], [], wP (wCp ov un nx dp fa cu st fi se th db 0) F, 0)) rfl (fun _ => ?_) (fun h => absurd (by decide) h)
  exact mm_ret (mm_call_mono _ _) (c := True) (r := .inr "java/lang/IllegalArgumentException") (M := wP (wCp ov un nx dp fa cu st fi se th db 0) F) (u := 1) rfl trivial (by decide) hQ

set_option maxRecDepth 100000 in
theorem ct_C_circle0 {d : Nat} {ov un : Nat → Int32} {nx dp fa : Int32} {cu : mm_cu} {st fi se th db : Nat → Int32} {F : mm_M} {a b c : Int32} {Q : mm_R → mm_M → Prop} (hQ : Q (.inr "java/lang/IllegalArgumentException") (wP (wCp ov un nx dp fa cu st fi se th db 0) F)) : mm_call mm_Tb (d + 4) 2 [.ref 0, .int a, .int b, .int c] (wP (wCp ov un nx dp fa cu st fi se th db 0) F) Q := by
  refine mm_in mt_2 (Nat.le_of_ble_eq_true rfl) ?_
  show mm_W _ _ _ _ _ _ _ (0, [(0, .ref 0), (1, .int a), (2, .int b), (3, .int c)], [], wP (wCp ov un nx dp fa cu st fi se th db 0) F, 0)
  refine mm_skip (mm_call_mono _ _) 2 (st' := (2, [(0, .ref 0), (1, .int a), (2, .int b), (3, .int c)], [.int a, .ref 0], wP (wCp ov un nx dp fa cu st fi se th db 0) F, 0)) rfl ?_
  refine mm_inv (mm_call_mono _ _) (j := 18) (a := [.ref 0, .int a]) (M := wP (wCp ov un nx dp fa cu st fi se th db 0) F) (u := 0) rfl (by decide) (ct_C_isPoint0 ?_)
  show mm_W _ _ _ _ _ _ _ (5, [(0, .ref 0), (1, .int a), (2, .int b), (3, .int c)], [.int 0], wP (wCp ov un nx dp fa cu st fi se th db 0) F, 0)
  refine mm_branch (mm_call_mono _ _) (c := (0 : Int32) = 0) (s1 := (24, [(0, .ref 0), (1, .int a), (2, .int b), (3, .int c)], [], wP (wCp ov un nx dp fa cu st fi se th db 0) F, 0)) (s2 := (8, [(0, .ref 0), (1, .int a), (2, .int b), (3, .int c)], [], wP (wCp ov un nx dp fa cu st fi se th db 0) F, 0)) rfl (fun _ => ?_) (fun h => absurd (by decide) h)
  exact mm_ret (mm_call_mono _ _) (c := True) (r := .inr "java/lang/IllegalArgumentException") (M := wP (wCp ov un nx dp fa cu st fi se th db 0) F) (u := 1) rfl trivial (by decide) hQ

set_option maxRecDepth 100000 in
theorem ct_C_middle0 {d : Nat} {ov un : Nat → Int32} {nx dp fa : Int32} {cu : mm_cu} {st fi se th db : Nat → Int32} {F : mm_M} {a b : Int32} {Q : mm_R → mm_M → Prop} (hQ : Q (.inr "java/lang/IllegalArgumentException") (wP (wCp ov un nx dp fa cu st fi se th db 0) F)) : mm_call mm_Tb (d + 4) 3 [.ref 0, .int a, .int b] (wP (wCp ov un nx dp fa cu st fi se th db 0) F) Q := by
  refine mm_in mt_3 (Nat.le_of_ble_eq_true rfl) ?_
  show mm_W _ _ _ _ _ _ _ (0, [(0, .ref 0), (1, .int a), (2, .int b)], [], wP (wCp ov un nx dp fa cu st fi se th db 0) F, 0)
  refine mm_skip (mm_call_mono _ _) 2 (st' := (2, [(0, .ref 0), (1, .int a), (2, .int b)], [.int a, .ref 0], wP (wCp ov un nx dp fa cu st fi se th db 0) F, 0)) rfl ?_
  refine mm_inv (mm_call_mono _ _) (j := 18) (a := [.ref 0, .int a]) (M := wP (wCp ov un nx dp fa cu st fi se th db 0) F) (u := 0) rfl (by decide) (ct_C_isPoint0 ?_)
  show mm_W _ _ _ _ _ _ _ (5, [(0, .ref 0), (1, .int a), (2, .int b)], [.int 0], wP (wCp ov un nx dp fa cu st fi se th db 0) F, 0)
  refine mm_branch (mm_call_mono _ _) (c := (0 : Int32) = 0) (s1 := (16, [(0, .ref 0), (1, .int a), (2, .int b)], [], wP (wCp ov un nx dp fa cu st fi se th db 0) F, 0)) (s2 := (8, [(0, .ref 0), (1, .int a), (2, .int b)], [], wP (wCp ov un nx dp fa cu st fi se th db 0) F, 0)) rfl (fun _ => ?_) (fun h => absurd (by decide) h)
  exact mm_ret (mm_call_mono _ _) (c := True) (r := .inr "java/lang/IllegalArgumentException") (M := wP (wCp ov un nx dp fa cu st fi se th db 0) F) (u := 1) rfl trivial (by decide) hQ

set_option maxRecDepth 100000 in
theorem ct_C_meet0 {d : Nat} {ov un : Nat → Int32} {nx dp fa : Int32} {cu : mm_cu} {st fi se th db : Nat → Int32} {F : mm_M} {a b c : Int32} {Q : mm_R → mm_M → Prop} (hQ : Q (.inr "java/lang/IllegalArgumentException") (wP (wCp ov un nx dp fa cu st fi se th db 0) F)) : mm_call mm_Tb (d + 4) 4 [.ref 0, .int a, .int b, .int c] (wP (wCp ov un nx dp fa cu st fi se th db 0) F) Q := by
  refine mm_in mt_4 (Nat.le_of_ble_eq_true rfl) ?_
  show mm_W _ _ _ _ _ _ _ (0, [(0, .ref 0), (1, .int a), (2, .int b), (3, .int c)], [], wP (wCp ov un nx dp fa cu st fi se th db 0) F, 0)
  refine mm_skip (mm_call_mono _ _) 2 (st' := (2, [(0, .ref 0), (1, .int a), (2, .int b), (3, .int c)], [.int a, .ref 0], wP (wCp ov un nx dp fa cu st fi se th db 0) F, 0)) rfl ?_
  refine mm_inv (mm_call_mono _ _) (j := 21) (a := [.ref 0, .int a]) (M := wP (wCp ov un nx dp fa cu st fi se th db 0) F) (u := 0) rfl (by decide) (ct_C_isCurve0 ?_)
  show mm_W _ _ _ _ _ _ _ (5, [(0, .ref 0), (1, .int a), (2, .int b), (3, .int c)], [.int 0], wP (wCp ov un nx dp fa cu st fi se th db 0) F, 0)
  refine mm_branch (mm_call_mono _ _) (c := (0 : Int32) = 0) (s1 := (21, [(0, .ref 0), (1, .int a), (2, .int b), (3, .int c)], [], wP (wCp ov un nx dp fa cu st fi se th db 0) F, 0)) (s2 := (8, [(0, .ref 0), (1, .int a), (2, .int b), (3, .int c)], [], wP (wCp ov un nx dp fa cu st fi se th db 0) F, 0)) rfl (fun _ => ?_) (fun h => absurd (by decide) h)
  exact mm_ret (mm_call_mono _ _) (c := True) (r := .inr "java/lang/IllegalArgumentException") (M := wP (wCp ov un nx dp fa cu st fi se th db 0) F) (u := 1) rfl trivial (by decide) hQ

set_option maxRecDepth 100000 in
theorem ct_C_move0 {d : Nat} {ov un : Nat → Int32} {nx dp fa : Int32} {cu : mm_cu} {st fi se th db : Nat → Int32} {F : mm_M} {a b c e g : Int32} {Q : mm_R → mm_M → Prop} (hQ : Q (.inr "java/lang/IllegalArgumentException") (wP (wCp ov un nx dp fa cu st fi se th db 0) F)) : mm_call mm_Tb (d + 4) 5 [.ref 0, .int a, .int b, .int c, .int e, .int g] (wP (wCp ov un nx dp fa cu st fi se th db 0) F) Q := by
  refine mm_in mt_5 (Nat.le_of_ble_eq_true rfl) ?_
  show mm_W _ _ _ _ _ _ _ (0, [(0, .ref 0), (1, .int a), (2, .int b), (3, .int c), (4, .int e), (5, .int g)], [], wP (wCp ov un nx dp fa cu st fi se th db 0) F, 0)
  refine mm_skip (mm_call_mono _ _) 2 (st' := (2, [(0, .ref 0), (1, .int a), (2, .int b), (3, .int c), (4, .int e), (5, .int g)], [.int a, .ref 0], wP (wCp ov un nx dp fa cu st fi se th db 0) F, 0)) rfl ?_
  refine mm_inv (mm_call_mono _ _) (j := 18) (a := [.ref 0, .int a]) (M := wP (wCp ov un nx dp fa cu st fi se th db 0) F) (u := 0) rfl (by decide) (ct_C_isPoint0 ?_)
  show mm_W _ _ _ _ _ _ _ (5, [(0, .ref 0), (1, .int a), (2, .int b), (3, .int c), (4, .int e), (5, .int g)], [.int 0], wP (wCp ov un nx dp fa cu st fi se th db 0) F, 0)
  refine mm_branch (mm_call_mono _ _) (c := (0 : Int32) = 0) (s1 := (17, [(0, .ref 0), (1, .int a), (2, .int b), (3, .int c), (4, .int e), (5, .int g)], [], wP (wCp ov un nx dp fa cu st fi se th db 0) F, 0)) (s2 := (8, [(0, .ref 0), (1, .int a), (2, .int b), (3, .int c), (4, .int e), (5, .int g)], [], wP (wCp ov un nx dp fa cu st fi se th db 0) F, 0)) rfl (fun _ => ?_) (fun h => absurd (by decide) h)
  exact mm_ret (mm_call_mono _ _) (c := True) (r := .inr "java/lang/IllegalArgumentException") (M := wP (wCp ov un nx dp fa cu st fi se th db 0) F) (u := 1) rfl trivial (by decide) hQ

set_option maxRecDepth 100000 in
theorem ct_C_on0 {d : Nat} {ov un : Nat → Int32} {nx dp fa : Int32} {cu : mm_cu} {st fi se th db : Nat → Int32} {F : mm_M} {a b : Int32} {Q : mm_R → mm_M → Prop} (hQ : Q (.inr "java/lang/IllegalArgumentException") (wP (wCp ov un nx dp fa cu st fi se th db 0) F)) : mm_call mm_Tb (d + 4) 7 [.ref 0, .int a, .int b] (wP (wCp ov un nx dp fa cu st fi se th db 0) F) Q := by
  refine mm_in mt_7 (Nat.le_of_ble_eq_true rfl) ?_
  show mm_W _ _ _ _ _ _ _ (0, [(0, .ref 0), (1, .int a), (2, .int b)], [], wP (wCp ov un nx dp fa cu st fi se th db 0) F, 0)
  refine mm_skip (mm_call_mono _ _) 2 (st' := (2, [(0, .ref 0), (1, .int a), (2, .int b)], [.int a, .ref 0], wP (wCp ov un nx dp fa cu st fi se th db 0) F, 0)) rfl ?_
  refine mm_inv (mm_call_mono _ _) (j := 18) (a := [.ref 0, .int a]) (M := wP (wCp ov un nx dp fa cu st fi se th db 0) F) (u := 0) rfl (by decide) (ct_C_isPoint0 ?_)
  show mm_W _ _ _ _ _ _ _ (5, [(0, .ref 0), (1, .int a), (2, .int b)], [.int 0], wP (wCp ov un nx dp fa cu st fi se th db 0) F, 0)
  refine mm_branch (mm_call_mono _ _) (c := (0 : Int32) = 0) (s1 := (16, [(0, .ref 0), (1, .int a), (2, .int b)], [], wP (wCp ov un nx dp fa cu st fi se th db 0) F, 0)) (s2 := (8, [(0, .ref 0), (1, .int a), (2, .int b)], [], wP (wCp ov un nx dp fa cu st fi se th db 0) F, 0)) rfl (fun _ => ?_) (fun h => absurd (by decide) h)
  exact mm_ret (mm_call_mono _ _) (c := True) (r := .inr "java/lang/IllegalArgumentException") (M := wP (wCp ov un nx dp fa cu st fi se th db 0) F) (u := 1) rfl trivial (by decide) hQ

set_option maxRecDepth 100000 in
theorem ct_C_same0 {d : Nat} {ov un : Nat → Int32} {nx dp fa : Int32} {cu : mm_cu} {st fi se th db : Nat → Int32} {F : mm_M} {a b : Int32} {Q : mm_R → mm_M → Prop} (hQ : Q (.inr "java/lang/IllegalArgumentException") (wP (wCp ov un nx dp fa cu st fi se th db 0) F)) : mm_call mm_Tb (d + 4) 8 [.ref 0, .int a, .int b] (wP (wCp ov un nx dp fa cu st fi se th db 0) F) Q := by
  refine mm_in mt_8 (Nat.le_of_ble_eq_true rfl) ?_
  show mm_W _ _ _ _ _ _ _ (0, [(0, .ref 0), (1, .int a), (2, .int b)], [], wP (wCp ov un nx dp fa cu st fi se th db 0) F, 0)
  refine mm_skip (mm_call_mono _ _) 2 (st' := (2, [(0, .ref 0), (1, .int a), (2, .int b)], [.int a, .ref 0], wP (wCp ov un nx dp fa cu st fi se th db 0) F, 0)) rfl ?_
  refine mm_inv (mm_call_mono _ _) (j := 18) (a := [.ref 0, .int a]) (M := wP (wCp ov un nx dp fa cu st fi se th db 0) F) (u := 0) rfl (by decide) (ct_C_isPoint0 ?_)
  show mm_W _ _ _ _ _ _ _ (5, [(0, .ref 0), (1, .int a), (2, .int b)], [.int 0], wP (wCp ov un nx dp fa cu st fi se th db 0) F, 0)
  refine mm_branch (mm_call_mono _ _) (c := (0 : Int32) = 0) (s1 := (16, [(0, .ref 0), (1, .int a), (2, .int b)], [], wP (wCp ov un nx dp fa cu st fi se th db 0) F, 0)) (s2 := (8, [(0, .ref 0), (1, .int a), (2, .int b)], [], wP (wCp ov un nx dp fa cu st fi se th db 0) F, 0)) rfl (fun _ => ?_) (fun h => absurd (by decide) h)
  exact mm_ret (mm_call_mono _ _) (c := True) (r := .inr "java/lang/IllegalArgumentException") (M := wP (wCp ov un nx dp fa cu st fi se th db 0) F) (u := 1) rfl trivial (by decide) hQ

set_option maxRecDepth 100000 in
theorem ct_C_equal0 {d : Nat} {ov un : Nat → Int32} {nx dp fa : Int32} {cu : mm_cu} {st fi se th db : Nat → Int32} {F : mm_M} {a b c e : Int32} {Q : mm_R → mm_M → Prop} (hQ : Q (.inr "java/lang/IllegalArgumentException") (wP (wCp ov un nx dp fa cu st fi se th db 0) F)) : mm_call mm_Tb (d + 4) 9 [.ref 0, .int a, .int b, .int c, .int e] (wP (wCp ov un nx dp fa cu st fi se th db 0) F) Q := by
  refine mm_in mt_9 (Nat.le_of_ble_eq_true rfl) ?_
  show mm_W _ _ _ _ _ _ _ (0, [(0, .ref 0), (1, .int a), (2, .int b), (3, .int c), (4, .int e)], [], wP (wCp ov un nx dp fa cu st fi se th db 0) F, 0)
  refine mm_skip (mm_call_mono _ _) 2 (st' := (2, [(0, .ref 0), (1, .int a), (2, .int b), (3, .int c), (4, .int e)], [.int a, .ref 0], wP (wCp ov un nx dp fa cu st fi se th db 0) F, 0)) rfl ?_
  refine mm_inv (mm_call_mono _ _) (j := 18) (a := [.ref 0, .int a]) (M := wP (wCp ov un nx dp fa cu st fi se th db 0) F) (u := 0) rfl (by decide) (ct_C_isPoint0 ?_)
  show mm_W _ _ _ _ _ _ _ (5, [(0, .ref 0), (1, .int a), (2, .int b), (3, .int c), (4, .int e)], [.int 0], wP (wCp ov un nx dp fa cu st fi se th db 0) F, 0)
  refine mm_branch (mm_call_mono _ _) (c := (0 : Int32) = 0) (s1 := (33, [(0, .ref 0), (1, .int a), (2, .int b), (3, .int c), (4, .int e)], [], wP (wCp ov un nx dp fa cu st fi se th db 0) F, 0)) (s2 := (8, [(0, .ref 0), (1, .int a), (2, .int b), (3, .int c), (4, .int e)], [], wP (wCp ov un nx dp fa cu st fi se th db 0) F, 0)) rfl (fun _ => ?_) (fun h => absurd (by decide) h)
  exact mm_ret (mm_call_mono _ _) (c := True) (r := .inr "java/lang/IllegalArgumentException") (M := wP (wCp ov un nx dp fa cu st fi se th db 0) F) (u := 1) rfl trivial (by decide) hQ

set_option maxRecDepth 100000 in
theorem ct_C_angle0 {d : Nat} {ov un : Nat → Int32} {nx dp fa : Int32} {cu : mm_cu} {st fi se th db : Nat → Int32} {F : mm_M} {a b : Int32} {Q : mm_R → mm_M → Prop} (hQ : Q (.inr "java/lang/IllegalArgumentException") (wP (wCp ov un nx dp fa cu st fi se th db 0) F)) : mm_call mm_Tb (d + 4) 10 [.ref 0, .int a, .int b] (wP (wCp ov un nx dp fa cu st fi se th db 0) F) Q := by
  refine mm_in mt_10 (Nat.le_of_ble_eq_true rfl) ?_
  show mm_W _ _ _ _ _ _ _ (0, [(0, .ref 0), (1, .int a), (2, .int b)], [], wP (wCp ov un nx dp fa cu st fi se th db 0) F, 0)
  refine mm_skip (mm_call_mono _ _) 2 (st' := (2, [(0, .ref 0), (1, .int a), (2, .int b)], [.int a, .ref 0], wP (wCp ov un nx dp fa cu st fi se th db 0) F, 0)) rfl ?_
  refine mm_inv (mm_call_mono _ _) (j := 19) (a := [.ref 0, .int a]) (M := wP (wCp ov un nx dp fa cu st fi se th db 0) F) (u := 0) rfl (by decide) (ct_C_isLine0 ?_)
  show mm_W _ _ _ _ _ _ _ (5, [(0, .ref 0), (1, .int a), (2, .int b)], [.int 0], wP (wCp ov un nx dp fa cu st fi se th db 0) F, 0)
  refine mm_branch (mm_call_mono _ _) (c := (0 : Int32) = 0) (s1 := (16, [(0, .ref 0), (1, .int a), (2, .int b)], [], wP (wCp ov un nx dp fa cu st fi se th db 0) F, 0)) (s2 := (8, [(0, .ref 0), (1, .int a), (2, .int b)], [], wP (wCp ov un nx dp fa cu st fi se th db 0) F, 0)) rfl (fun _ => ?_) (fun h => absurd (by decide) h)
  exact mm_ret (mm_call_mono _ _) (c := True) (r := .inr "java/lang/IllegalArgumentException") (M := wP (wCp ov un nx dp fa cu st fi se th db 0) F) (u := 1) rfl trivial (by decide) hQ

set_option maxRecDepth 100000 in
theorem ct_C_side0 {d : Nat} {ov un : Nat → Int32} {nx dp fa : Int32} {cu : mm_cu} {st fi se th db : Nat → Int32} {F : mm_M} {a b c : Int32} {Q : mm_R → mm_M → Prop} (hQ : Q (.inr "java/lang/IllegalArgumentException") (wP (wCp ov un nx dp fa cu st fi se th db 0) F)) : mm_call mm_Tb (d + 4) 11 [.ref 0, .int a, .int b, .int c] (wP (wCp ov un nx dp fa cu st fi se th db 0) F) Q := by
  refine mm_in mt_11 (Nat.le_of_ble_eq_true rfl) ?_
  show mm_W _ _ _ _ _ _ _ (0, [(0, .ref 0), (1, .int a), (2, .int b), (3, .int c)], [], wP (wCp ov un nx dp fa cu st fi se th db 0) F, 0)
  refine mm_skip (mm_call_mono _ _) 2 (st' := (2, [(0, .ref 0), (1, .int a), (2, .int b), (3, .int c)], [.int a, .ref 0], wP (wCp ov un nx dp fa cu st fi se th db 0) F, 0)) rfl ?_
  refine mm_inv (mm_call_mono _ _) (j := 18) (a := [.ref 0, .int a]) (M := wP (wCp ov un nx dp fa cu st fi se th db 0) F) (u := 0) rfl (by decide) (ct_C_isPoint0 ?_)
  show mm_W _ _ _ _ _ _ _ (5, [(0, .ref 0), (1, .int a), (2, .int b), (3, .int c)], [.int 0], wP (wCp ov un nx dp fa cu st fi se th db 0) F, 0)
  refine mm_branch (mm_call_mono _ _) (c := (0 : Int32) = 0) (s1 := (24, [(0, .ref 0), (1, .int a), (2, .int b), (3, .int c)], [], wP (wCp ov un nx dp fa cu st fi se th db 0) F, 0)) (s2 := (8, [(0, .ref 0), (1, .int a), (2, .int b), (3, .int c)], [], wP (wCp ov un nx dp fa cu st fi se th db 0) F, 0)) rfl (fun _ => ?_) (fun h => absurd (by decide) h)
  exact mm_ret (mm_call_mono _ _) (c := True) (r := .inr "java/lang/IllegalArgumentException") (M := wP (wCp ov un nx dp fa cu st fi se th db 0) F) (u := 1) rfl trivial (by decide) hQ

set_option maxRecDepth 100000 in
theorem ct_C_sign0 {d : Nat} {ov un : Nat → Int32} {nx dp fa : Int32} {cu : mm_cu} {st fi se th db : Nat → Int32} {F : mm_M} {a b c : Int32} {Q : mm_R → mm_M → Prop} (hQ : Q (.inr "java/lang/IllegalArgumentException") (wP (wCp ov un nx dp fa cu st fi se th db 0) F)) : mm_call mm_Tb (d + 4) 12 [.ref 0, .int a, .int b, .int c] (wP (wCp ov un nx dp fa cu st fi se th db 0) F) Q := by
  refine mm_in mt_12 (Nat.le_of_ble_eq_true rfl) ?_
  show mm_W _ _ _ _ _ _ _ (0, [(0, .ref 0), (1, .int a), (2, .int b), (3, .int c)], [], wP (wCp ov un nx dp fa cu st fi se th db 0) F, 0)
  refine mm_skip (mm_call_mono _ _) 2 (st' := (2, [(0, .ref 0), (1, .int a), (2, .int b), (3, .int c)], [.int a, .ref 0], wP (wCp ov un nx dp fa cu st fi se th db 0) F, 0)) rfl ?_
  refine mm_inv (mm_call_mono _ _) (j := 18) (a := [.ref 0, .int a]) (M := wP (wCp ov un nx dp fa cu st fi se th db 0) F) (u := 0) rfl (by decide) (ct_C_isPoint0 ?_)
  show mm_W _ _ _ _ _ _ _ (5, [(0, .ref 0), (1, .int a), (2, .int b), (3, .int c)], [.int 0], wP (wCp ov un nx dp fa cu st fi se th db 0) F, 0)
  refine mm_branch (mm_call_mono _ _) (c := (0 : Int32) = 0) (s1 := (20, [(0, .ref 0), (1, .int a), (2, .int b), (3, .int c)], [], wP (wCp ov un nx dp fa cu st fi se th db 0) F, 0)) (s2 := (8, [(0, .ref 0), (1, .int a), (2, .int b), (3, .int c)], [], wP (wCp ov un nx dp fa cu st fi se th db 0) F, 0)) rfl (fun _ => ?_) (fun h => absurd (by decide) h)
  exact mm_ret (mm_call_mono _ _) (c := True) (r := .inr "java/lang/IllegalArgumentException") (M := wP (wCp ov un nx dp fa cu st fi se th db 0) F) (u := 1) rfl trivial (by decide) hQ

set_option maxRecDepth 100000 in
theorem ct_C_part0 {d : Nat} {ov un : Nat → Int32} {nx dp fa : Int32} {cu : mm_cu} {st fi se th db : Nat → Int32} {F : mm_M} {a b c e : Int32} {Q : mm_R → mm_M → Prop} (hQ : Q (.inr "java/lang/IllegalArgumentException") (wP (wCp ov un nx dp fa cu st fi se th db 0) F)) : mm_call mm_Tb (d + 4) 13 [.ref 0, .int a, .int b, .int c, .int e] (wP (wCp ov un nx dp fa cu st fi se th db 0) F) Q := by
  refine mm_in mt_13 (Nat.le_of_ble_eq_true rfl) ?_
  show mm_W _ _ _ _ _ _ _ (0, [(0, .ref 0), (1, .int a), (2, .int b), (3, .int c), (4, .int e)], [], wP (wCp ov un nx dp fa cu st fi se th db 0) F, 0)
  refine mm_skip (mm_call_mono _ _) 2 (st' := (2, [(0, .ref 0), (1, .int a), (2, .int b), (3, .int c), (4, .int e)], [.int a, .ref 0], wP (wCp ov un nx dp fa cu st fi se th db 0) F, 0)) rfl ?_
  refine mm_inv (mm_call_mono _ _) (j := 18) (a := [.ref 0, .int a]) (M := wP (wCp ov un nx dp fa cu st fi se th db 0) F) (u := 0) rfl (by decide) (ct_C_isPoint0 ?_)
  show mm_W _ _ _ _ _ _ _ (5, [(0, .ref 0), (1, .int a), (2, .int b), (3, .int c), (4, .int e)], [.int 0], wP (wCp ov un nx dp fa cu st fi se th db 0) F, 0)
  refine mm_branch (mm_call_mono _ _) (c := (0 : Int32) = 0) (s1 := (17, [(0, .ref 0), (1, .int a), (2, .int b), (3, .int c), (4, .int e)], [], wP (wCp ov un nx dp fa cu st fi se th db 0) F, 0)) (s2 := (8, [(0, .ref 0), (1, .int a), (2, .int b), (3, .int c), (4, .int e)], [], wP (wCp ov un nx dp fa cu st fi se th db 0) F, 0)) rfl (fun _ => ?_) (fun h => absurd (by decide) h)
  exact mm_ret (mm_call_mono _ _) (c := True) (r := .inr "java/lang/IllegalArgumentException") (M := wP (wCp ov un nx dp fa cu st fi se th db 0) F) (u := 1) rfl trivial (by decide) hQ

set_option maxRecDepth 100000 in
theorem ct_C_radicand0 {d : Nat} {ov un : Nat → Int32} {nx fa : Int32} {cu : mm_cu} {st fi se th db : Nat → Int32} {F : mm_M} {a b c : Int32} {Q : mm_R → mm_M → Prop} (hQ : Q (.inr "java/lang/IndexOutOfBoundsException") (wP (wCp ov un nx 0 fa cu st fi se th db 0) F)) : mm_call mm_Tb (d + 1) 14 [.ref 0, .int a, .int b, .int c] (wP (wCp ov un nx 0 fa cu st fi se th db 0) F) Q := by
  refine mm_in mt_14 (Nat.le_of_ble_eq_true rfl) ?_
  show mm_W _ _ _ _ _ _ _ (0, [(0, .ref 0), (1, .int a), (2, .int b), (3, .int c)], [], wP (wCp ov un nx 0 fa cu st fi se th db 0) F, 0)
  refine mm_skip (mm_call_mono _ _) 2 (st' := (2, [(0, .ref 0), (1, .int a), (2, .int b), (3, .int c)], [.int 1, .int a], wP (wCp ov un nx 0 fa cu st fi se th db 0) F, 0)) rfl ?_
  refine mm_branch (mm_call_mono _ _) (c := a < 1) (s1 := (25, [(0, .ref 0), (1, .int a), (2, .int b), (3, .int c)], [], wP (wCp ov un nx 0 fa cu st fi se th db 0) F, 0)) (s2 := (5, [(0, .ref 0), (1, .int a), (2, .int b), (3, .int c)], [], wP (wCp ov un nx 0 fa cu st fi se th db 0) F, 0)) rfl (fun h1 => ?_) (fun h1 => ?_)
  · skip
    exact mm_ret (mm_call_mono _ _) (c := True) (r := .inr "java/lang/IndexOutOfBoundsException") (M := wP (wCp ov un nx 0 fa cu st fi se th db 0) F) (u := 1) rfl trivial (by decide) hQ
  · skip
    refine mm_skip (mm_call_mono _ _) 4 (st' := (13, [(0, .ref 0), (1, .int a), (2, .int b), (3, .int c)], [.int 0, .int a], wP (wCp ov un nx 0 fa cu st fi se th db 0) F, 0)) rfl ?_
    refine mm_branch (mm_call_mono _ _) (c := 0 < a) (s1 := (25, [(0, .ref 0), (1, .int a), (2, .int b), (3, .int c)], [], wP (wCp ov un nx 0 fa cu st fi se th db 0) F, 0)) (s2 := (16, [(0, .ref 0), (1, .int a), (2, .int b), (3, .int c)], [], wP (wCp ov un nx 0 fa cu st fi se th db 0) F, 0)) rfl (fun _ => ?_) (fun h => absurd (lt01 h1) h)
    exact mm_ret (mm_call_mono _ _) (c := True) (r := .inr "java/lang/IndexOutOfBoundsException") (M := wP (wCp ov un nx 0 fa cu st fi se th db 0) F) (u := 1) rfl trivial (by decide) hQ

set_option maxRecDepth 100000 in
theorem ct_C_undo0 {d : Nat} {ov un : Nat → Int32} {nx dp fa : Int32} {cu : mm_cu} {st fi se th db : Nat → Int32} {F : mm_M} {Q : mm_R → mm_M → Prop} (hQ : Q (.inl (some (.int 0))) (wP (wCp ov un nx dp fa cu st fi se th db 0) F)) : mm_call mm_Tb (d + 1) 6 [.ref 0] (wP (wCp ov un nx dp fa cu st fi se th db 0) F) Q := by
  refine mm_in mt_6 (Nat.le_of_ble_eq_true rfl) ?_
  show mm_W _ _ _ _ _ _ _ (0, [(0, .ref 0)], [], wP (wCp ov un nx dp fa cu st fi se th db 0) F, 0)
  refine mm_skip (mm_call_mono _ _) 2 (st' := (4, [(0, .ref 0)], [.int 0], wP (wCp ov un nx dp fa cu st fi se th db 0) F, 0)) rfl ?_
  refine mm_branch (mm_call_mono _ _) (c := (0 : Int32) = 0) (s1 := (7, [(0, .ref 0)], [], wP (wCp ov un nx dp fa cu st fi se th db 0) F, 0)) (s2 := (9, [(0, .ref 0)], [], wP (wCp ov un nx dp fa cu st fi se th db 0) F, 0)) rfl (fun _ => ?_) (fun h => absurd (by decide) h)
  refine mm_skip (mm_call_mono _ _) 1 (st' := (8, [(0, .ref 0)], [.int 0], wP (wCp ov un nx dp fa cu st fi se th db 0) F, 0)) rfl ?_
  exact mm_ret (mm_call_mono _ _) (c := mm_z 0) (r := .inl (some (.int 0))) (M := wP (wCp ov un nx dp fa cu st fi se th db 0) F) (u := 0) rfl (by unfold mm_z; decide) (by decide) hQ

set_option maxRecDepth 100000 in
theorem ct_C_countFreePoints0 {d : Nat} {ov un : Nat → Int32} {nx dp fa : Int32} {cu : mm_cu} {st fi se th db : Nat → Int32} {F : mm_M} {Q : mm_R → mm_M → Prop} (hQ : Q (.inl (some (.int 0))) (wP (wCp ov un nx dp fa cu st fi se th db 0) F)) : mm_call mm_Tb (d + 1) 17 [.ref 0] (wP (wCp ov un nx dp fa cu st fi se th db 0) F) Q := by
  refine mm_in mt_17 (Nat.le_of_ble_eq_true rfl) ?_
  show mm_W _ _ _ _ _ _ _ (0, [(0, .ref 0)], [], wP (wCp ov un nx dp fa cu st fi se th db 0) F, 0)
  refine mm_skip (mm_call_mono _ _) 7 (st' := (9, [(2, .int 0), (1, .int 0), (0, .ref 0)], [.int 0, .int 0], wP (wCp ov un nx dp fa cu st fi se th db 0) F, 0)) rfl ?_
  refine mm_branch (mm_call_mono _ _) (c := (0 : Int32) ≤ 0) (s1 := (35, [(2, .int 0), (1, .int 0), (0, .ref 0)], [], wP (wCp ov un nx dp fa cu st fi se th db 0) F, 0)) (s2 := (12, [(2, .int 0), (1, .int 0), (0, .ref 0)], [], wP (wCp ov un nx dp fa cu st fi se th db 0) F, 0)) rfl (fun _ => ?_) (fun h => absurd (by decide) h)
  refine mm_skip (mm_call_mono _ _) 1 (st' := (36, [(2, .int 0), (1, .int 0), (0, .ref 0)], [.int 0], wP (wCp ov un nx dp fa cu st fi se th db 0) F, 0)) rfl ?_
  exact mm_ret (mm_call_mono _ _) (c := True) (r := .inl (some (.int 0))) (M := wP (wCp ov un nx dp fa cu st fi se th db 0) F) (u := 0) rfl trivial (by decide) hQ

/-- look while there is nothing -/
def lk0 (a : Int32) : Int32 := if a = 0 ∨ a = 1 ∨ a = 2 then 0 else -1
theorem lk0_c {a : Int32} {k : Int} (h : a.toInt = k) (b : Int32) (hb : b.toInt = k) : a = b := Int32.toInt_inj.mp (h.trans hb.symm)
theorem lk0_d {a : Int32} (h : a.toInt < 0 ∨ 2 < a.toInt) : lk0 a = -1 := by
  unfold lk0
  rw [if_neg]
  rintro (rfl | rfl | rfl) <;> revert h <;> decide
set_option maxRecDepth 100000 in
theorem ct_C_look0 {d : Nat} {ov un : Nat → Int32} {nx fa : Int32} {cu : mm_cu} {st fi se th db : Nat → Int32} {F : mm_M} {a : Int32} {Q : mm_R → mm_M → Prop} (hQ : Q (.inl (some (.int (lk0 a)))) (wP (wCp ov un nx 0 fa cu st fi se th db 0) F)) : mm_call mm_Tb (d + 2) 16 [.ref 0, .int a] (wP (wCp ov un nx 0 fa cu st fi se th db 0) F) Q := by
  refine mm_in mt_16 (Nat.le_of_ble_eq_true rfl) ?_
  show mm_W _ _ _ _ _ _ _ (0, [(0, .ref 0), (1, .int a)], [], wP (wCp ov un nx 0 fa cu st fi se th db 0) F, 0)
  refine mm_skip (mm_call_mono _ _) 1 (st' := (1, [(0, .ref 0), (1, .int a)], [.int a], wP (wCp ov un nx 0 fa cu st fi se th db 0) F, 0)) rfl ?_
  refine mm_switch (mm_call_mono _ _) (w := [(Int32.toInt a = 0, (28, [(0, .ref 0), (1, .int a)], [], wP (wCp ov un nx 0 fa cu st fi se th db 0) F, 0)), (Int32.toInt a = 1, (33, [(0, .ref 0), (1, .int a)], [], wP (wCp ov un nx 0 fa cu st fi se th db 0) F, 0)), (Int32.toInt a = 2, (41, [(0, .ref 0), (1, .int a)], [], wP (wCp ov un nx 0 fa cu st fi se th db 0) F, 0)), ((Int32.toInt a < 0 ∨ 2 < Int32.toInt a), (46, [(0, .ref 0), (1, .int a)], [], wP (wCp ov un nx 0 fa cu st fi se th db 0) F, 0))]) rfl ⟨fun hs => ?_, fun hs => ?_, fun hs => ?_, fun hs => ?_, trivial⟩
  · skip
    refine mm_skip (mm_call_mono _ _) 2 (st' := (32, [(0, .ref 0), (1, .int a)], [.int 0], wP (wCp ov un nx 0 fa cu st fi se th db 0) F, 0)) rfl ?_
    exact mm_ret (mm_call_mono _ _) (c := True) (r := .inl (some (.int 0))) (M := wP (wCp ov un nx 0 fa cu st fi se th db 0) F) (u := 0) rfl trivial (by decide) (by rw [lk0_c hs 0 (by decide)] at hQ; exact hQ)
  · skip
    refine mm_skip (mm_call_mono _ _) 3 (st' := (40, [(0, .ref 0), (1, .int a)], [.int 0], wP (wCp ov un nx 0 fa cu st fi se th db 0) F, 0)) rfl ?_
    exact mm_ret (mm_call_mono _ _) (c := True) (r := .inl (some (.int 0))) (M := wP (wCp ov un nx 0 fa cu st fi se th db 0) F) (u := 0) rfl trivial (by decide) (by rw [lk0_c hs 1 (by decide)] at hQ; exact hQ)
  · skip
    refine mm_skip (mm_call_mono _ _) 1 (st' := (42, [(0, .ref 0), (1, .int a)], [.ref 0], wP (wCp ov un nx 0 fa cu st fi se th db 0) F, 0)) rfl ?_
    refine mm_inv (mm_call_mono _ _) (j := 17) (a := [.ref 0]) (M := wP (wCp ov un nx 0 fa cu st fi se th db 0) F) (u := 0) rfl (by decide) (ct_C_countFreePoints0 ?_)
    show mm_W _ _ _ _ _ _ _ (45, [(0, .ref 0), (1, .int a)], [.int 0], wP (wCp ov un nx 0 fa cu st fi se th db 0) F, 0)
    exact mm_ret (mm_call_mono _ _) (c := True) (r := .inl (some (.int 0))) (M := wP (wCp ov un nx 0 fa cu st fi se th db 0) F) (u := 0) rfl trivial (by decide) (by rw [lk0_c hs 2 (by decide)] at hQ; exact hQ)
  · skip
    refine mm_skip (mm_call_mono _ _) 1 (st' := (47, [(0, .ref 0), (1, .int a)], [.int (-1)], wP (wCp ov un nx 0 fa cu st fi se th db 0) F, 0)) rfl ?_
    exact mm_ret (mm_call_mono _ _) (c := True) (r := .inl (some (.int (-1)))) (M := wP (wCp ov un nx 0 fa cu st fi se th db 0) F) (u := 0) rfl trivial (by decide) (by rw [lk0_d hs] at hQ; exact hQ)

set_option maxRecDepth 100000 in
theorem ct_M_kindOf0 {d : Nat} {pre : mm_pre} {p q op oq : Nat → Int64} {tr dp wi fa : Int32} {st of : Nat → Int32} {F : mm_M} {a : Int32} {Q : mm_R → mm_M → Prop} (hQ : Q (.inl (some (.int (-1)))) (wP pre (wQ (wNp p q op oq tr dp wi fa 0 st of) F))) : mm_call mm_Tb (d + 1) 98 [.ref 10, .int a] (wP pre (wQ (wNp p q op oq tr dp wi fa 0 st of) F)) Q := by
  refine mm_in mt_98 (Nat.le_of_ble_eq_true rfl) ?_
  show mm_W _ _ _ _ _ _ _ (0, [(0, .ref 10), (1, .int a)], [], wP pre (wQ (wNp p q op oq tr dp wi fa 0 st of) F), 0)
  refine mm_skip (mm_call_mono _ _) 1 (st' := (1, [(0, .ref 10), (1, .int a)], [.int a], wP pre (wQ (wNp p q op oq tr dp wi fa 0 st of) F), 0)) rfl ?_
  refine mm_branch (mm_call_mono _ _) (c := a < 0) (s1 := (12, [(0, .ref 10), (1, .int a)], [], wP pre (wQ (wNp p q op oq tr dp wi fa 0 st of) F), 0)) (s2 := (4, [(0, .ref 10), (1, .int a)], [], wP pre (wQ (wNp p q op oq tr dp wi fa 0 st of) F), 0)) rfl (fun h1 => ?_) (fun h1 => ?_)
  · skip
    refine mm_skip (mm_call_mono _ _) 2 (st' := (70, [(0, .ref 10), (1, .int a)], [.int (-1)], wP pre (wQ (wNp p q op oq tr dp wi fa 0 st of) F), 0)) rfl ?_
    exact mm_ret (mm_call_mono _ _) (c := True) (r := .inl (some (.int (-1)))) (M := wP pre (wQ (wNp p q op oq tr dp wi fa 0 st of) F)) (u := 0) rfl trivial (by decide) hQ
  · skip
    refine mm_skip (mm_call_mono _ _) 3 (st' := (9, [(0, .ref 10), (1, .int a)], [.int 0, .int a], wP pre (wQ (wNp p q op oq tr dp wi fa 0 st of) F), 0)) rfl ?_
    refine mm_branch (mm_call_mono _ _) (c := a < 0) (s1 := (16, [(0, .ref 10), (1, .int a)], [], wP pre (wQ (wNp p q op oq tr dp wi fa 0 st of) F), 0)) (s2 := (12, [(0, .ref 10), (1, .int a)], [], wP pre (wQ (wNp p q op oq tr dp wi fa 0 st of) F), 0)) rfl (fun h => absurd h h1) (fun _ => ?_)
    refine mm_skip (mm_call_mono _ _) 2 (st' := (70, [(0, .ref 10), (1, .int a)], [.int (-1)], wP pre (wQ (wNp p q op oq tr dp wi fa 0 st of) F), 0)) rfl ?_
    exact mm_ret (mm_call_mono _ _) (c := True) (r := .inl (some (.int (-1)))) (M := wP pre (wQ (wNp p q op oq tr dp wi fa 0 st of) F)) (u := 0) rfl trivial (by decide) hQ

set_option maxRecDepth 100000 in
theorem ct_M_isPoint0 {d : Nat} {pre : mm_pre} {p q op oq : Nat → Int64} {tr dp wi fa : Int32} {st of : Nat → Int32} {F : mm_M} {a : Int32} {Q : mm_R → mm_M → Prop} (hQ : Q (.inl (some (.int 0))) (wP pre (wQ (wNp p q op oq tr dp wi fa 0 st of) F))) : mm_call mm_Tb (d + 2) 97 [.ref 10, .int a] (wP pre (wQ (wNp p q op oq tr dp wi fa 0 st of) F)) Q := by
  refine mm_in mt_97 (Nat.le_of_ble_eq_true rfl) ?_
  show mm_W _ _ _ _ _ _ _ (0, [(0, .ref 10), (1, .int a)], [], wP pre (wQ (wNp p q op oq tr dp wi fa 0 st of) F), 0)
  refine mm_skip (mm_call_mono _ _) 2 (st' := (2, [(0, .ref 10), (1, .int a)], [.int a, .ref 10], wP pre (wQ (wNp p q op oq tr dp wi fa 0 st of) F), 0)) rfl ?_
  refine mm_inv (mm_call_mono _ _) (j := 98) (a := [.ref 10, .int a]) (M := wP pre (wQ (wNp p q op oq tr dp wi fa 0 st of) F)) (u := 0) rfl (by decide) (ct_M_kindOf0 ?_)
  show mm_W _ _ _ _ _ _ _ (5, [(0, .ref 10), (1, .int a)], [.int (-1)], wP pre (wQ (wNp p q op oq tr dp wi fa 0 st of) F), 0)
  refine mm_branch (mm_call_mono _ _) (c := ((-1) : Int32) = 0) (s1 := (8, [(0, .ref 10), (1, .int a)], [], wP pre (wQ (wNp p q op oq tr dp wi fa 0 st of) F), 0)) (s2 := (12, [(0, .ref 10), (1, .int a)], [], wP pre (wQ (wNp p q op oq tr dp wi fa 0 st of) F), 0)) rfl (fun h => absurd h (by decide)) (fun _ => ?_)
  refine mm_skip (mm_call_mono _ _) 1 (st' := (13, [(0, .ref 10), (1, .int a)], [.int 0], wP pre (wQ (wNp p q op oq tr dp wi fa 0 st of) F), 0)) rfl ?_
  exact mm_ret (mm_call_mono _ _) (c := mm_z 0) (r := .inl (some (.int 0))) (M := wP pre (wQ (wNp p q op oq tr dp wi fa 0 st of) F)) (u := 0) rfl (by unfold mm_z; decide) (by decide) hQ

set_option maxRecDepth 100000 in
theorem ct_M_line0 {d : Nat} {pre : mm_pre} {p q op oq : Nat → Int64} {tr dp wi fa : Int32} {st of : Nat → Int32} {F : mm_M} {a b : Int32} {Q : mm_R → mm_M → Prop} (hQ : Q (.inl (some (.int 0))) (wP pre (wQ (wNp p q op oq 1 dp wi fa 0 st of) F))) : mm_call mm_Tb (d + 3) 102 [.ref 10, .int a, .int b] (wP pre (wQ (wNp p q op oq tr dp wi fa 0 st of) F)) Q := by
  refine mm_in mt_102 (Nat.le_of_ble_eq_true rfl) ?_
  show mm_W _ _ _ _ _ _ _ (0, [(0, .ref 10), (1, .int a), (2, .int b)], [], wP pre (wQ (wNp p q op oq tr dp wi fa 0 st of) F), 0)
  refine mm_skip (mm_call_mono _ _) 3 (st' := (3, [(0, .ref 10), (1, .int a), (2, .int b)], [.int a, .ref 10, .ref 10], wP pre (wQ (wNp p q op oq tr dp wi fa 0 st of) F), 0)) rfl ?_
  refine mm_inv (mm_call_mono _ _) (j := 97) (a := [.ref 10, .int a]) (M := wP pre (wQ (wNp p q op oq tr dp wi fa 0 st of) F)) (u := 0) rfl (by decide) (ct_M_isPoint0 ?_)
  show mm_W _ _ _ _ _ _ _ (6, [(0, .ref 10), (1, .int a), (2, .int b)], [.int 0, .ref 10], wP pre (wQ (wNp p q op oq tr dp wi fa 0 st of) F), 0)
  refine mm_branch (mm_call_mono _ _) (c := (0 : Int32) = 0) (s1 := (21, [(0, .ref 10), (1, .int a), (2, .int b)], [.ref 10], wP pre (wQ (wNp p q op oq tr dp wi fa 0 st of) F), 0)) (s2 := (9, [(0, .ref 10), (1, .int a), (2, .int b)], [.ref 10], wP pre (wQ (wNp p q op oq tr dp wi fa 0 st of) F), 0)) rfl (fun _ => ?_) (fun h => absurd (by decide) h)
  refine mm_skip (mm_call_mono _ _) 4 (st' := (29, [(0, .ref 10), (1, .int a), (2, .int b)], [.int 1], wP pre (wQ (wNp p q op oq 1 dp wi fa 0 st of) F), 0)) rfl ?_
  refine mm_branch (mm_call_mono _ _) (c := (1 : Int32) ≤ 0) (s1 := (36, [(0, .ref 10), (1, .int a), (2, .int b)], [], wP pre (wQ (wNp p q op oq 1 dp wi fa 0 st of) F), 0)) (s2 := (32, [(0, .ref 10), (1, .int a), (2, .int b)], [], wP pre (wQ (wNp p q op oq 1 dp wi fa 0 st of) F), 0)) rfl (fun h => absurd h (by decide)) (fun _ => ?_)
  refine mm_skip (mm_call_mono _ _) 2 (st' := (45, [(0, .ref 10), (1, .int a), (2, .int b)], [.int 0], wP pre (wQ (wNp p q op oq 1 dp wi fa 0 st of) F), 0)) rfl ?_
  exact mm_ret (mm_call_mono _ _) (c := True) (r := .inl (some (.int 0))) (M := wP pre (wQ (wNp p q op oq 1 dp wi fa 0 st of) F)) (u := 0) rfl trivial (by decide) hQ

set_option maxRecDepth 100000 in
theorem ct_M_circle0 {d : Nat} {pre : mm_pre} {p q op oq : Nat → Int64} {tr dp wi fa : Int32} {st of : Nat → Int32} {F : mm_M} {a b c : Int32} {Q : mm_R → mm_M → Prop} (hQ : Q (.inl (some (.int 0))) (wP pre (wQ (wNp p q op oq 1 dp wi fa 0 st of) F))) : mm_call mm_Tb (d + 3) 103 [.ref 10, .int a, .int b, .int c] (wP pre (wQ (wNp p q op oq tr dp wi fa 0 st of) F)) Q := by
  refine mm_in mt_103 (Nat.le_of_ble_eq_true rfl) ?_
  show mm_W _ _ _ _ _ _ _ (0, [(0, .ref 10), (1, .int a), (2, .int b), (3, .int c)], [], wP pre (wQ (wNp p q op oq tr dp wi fa 0 st of) F), 0)
  refine mm_skip (mm_call_mono _ _) 3 (st' := (3, [(0, .ref 10), (1, .int a), (2, .int b), (3, .int c)], [.int a, .ref 10, .ref 10], wP pre (wQ (wNp p q op oq tr dp wi fa 0 st of) F), 0)) rfl ?_
  refine mm_inv (mm_call_mono _ _) (j := 97) (a := [.ref 10, .int a]) (M := wP pre (wQ (wNp p q op oq tr dp wi fa 0 st of) F)) (u := 0) rfl (by decide) (ct_M_isPoint0 ?_)
  show mm_W _ _ _ _ _ _ _ (6, [(0, .ref 10), (1, .int a), (2, .int b), (3, .int c)], [.int 0, .ref 10], wP pre (wQ (wNp p q op oq tr dp wi fa 0 st of) F), 0)
  refine mm_branch (mm_call_mono _ _) (c := (0 : Int32) = 0) (s1 := (29, [(0, .ref 10), (1, .int a), (2, .int b), (3, .int c)], [.ref 10], wP pre (wQ (wNp p q op oq tr dp wi fa 0 st of) F), 0)) (s2 := (9, [(0, .ref 10), (1, .int a), (2, .int b), (3, .int c)], [.ref 10], wP pre (wQ (wNp p q op oq tr dp wi fa 0 st of) F), 0)) rfl (fun _ => ?_) (fun h => absurd (by decide) h)
  refine mm_skip (mm_call_mono _ _) 4 (st' := (37, [(0, .ref 10), (1, .int a), (2, .int b), (3, .int c)], [.int 1], wP pre (wQ (wNp p q op oq 1 dp wi fa 0 st of) F), 0)) rfl ?_
  refine mm_branch (mm_call_mono _ _) (c := (1 : Int32) ≤ 0) (s1 := (44, [(0, .ref 10), (1, .int a), (2, .int b), (3, .int c)], [], wP pre (wQ (wNp p q op oq 1 dp wi fa 0 st of) F), 0)) (s2 := (40, [(0, .ref 10), (1, .int a), (2, .int b), (3, .int c)], [], wP pre (wQ (wNp p q op oq 1 dp wi fa 0 st of) F), 0)) rfl (fun h => absurd h (by decide)) (fun _ => ?_)
  refine mm_skip (mm_call_mono _ _) 2 (st' := (53, [(0, .ref 10), (1, .int a), (2, .int b), (3, .int c)], [.int 0], wP pre (wQ (wNp p q op oq 1 dp wi fa 0 st of) F), 0)) rfl ?_
  exact mm_ret (mm_call_mono _ _) (c := True) (r := .inl (some (.int 0))) (M := wP pre (wQ (wNp p q op oq 1 dp wi fa 0 st of) F)) (u := 0) rfl trivial (by decide) hQ

set_option maxRecDepth 100000 in
theorem ct_M_middle0 {d : Nat} {pre : mm_pre} {p q op oq : Nat → Int64} {tr dp wi fa : Int32} {st of : Nat → Int32} {F : mm_M} {a b : Int32} {Q : mm_R → mm_M → Prop} (hQ : Q (.inl (some (.int 0))) (wP pre (wQ (wNp p q op oq 1 dp wi fa 0 st of) F))) : mm_call mm_Tb (d + 3) 104 [.ref 10, .int a, .int b] (wP pre (wQ (wNp p q op oq tr dp wi fa 0 st of) F)) Q := by
  refine mm_in mt_104 (Nat.le_of_ble_eq_true rfl) ?_
  show mm_W _ _ _ _ _ _ _ (0, [(0, .ref 10), (1, .int a), (2, .int b)], [], wP pre (wQ (wNp p q op oq tr dp wi fa 0 st of) F), 0)
  refine mm_skip (mm_call_mono _ _) 3 (st' := (3, [(0, .ref 10), (1, .int a), (2, .int b)], [.int a, .ref 10, .ref 10], wP pre (wQ (wNp p q op oq tr dp wi fa 0 st of) F), 0)) rfl ?_
  refine mm_inv (mm_call_mono _ _) (j := 97) (a := [.ref 10, .int a]) (M := wP pre (wQ (wNp p q op oq tr dp wi fa 0 st of) F)) (u := 0) rfl (by decide) (ct_M_isPoint0 ?_)
  show mm_W _ _ _ _ _ _ _ (6, [(0, .ref 10), (1, .int a), (2, .int b)], [.int 0, .ref 10], wP pre (wQ (wNp p q op oq tr dp wi fa 0 st of) F), 0)
  refine mm_branch (mm_call_mono _ _) (c := (0 : Int32) = 0) (s1 := (21, [(0, .ref 10), (1, .int a), (2, .int b)], [.ref 10], wP pre (wQ (wNp p q op oq tr dp wi fa 0 st of) F), 0)) (s2 := (9, [(0, .ref 10), (1, .int a), (2, .int b)], [.ref 10], wP pre (wQ (wNp p q op oq tr dp wi fa 0 st of) F), 0)) rfl (fun _ => ?_) (fun h => absurd (by decide) h)
  refine mm_skip (mm_call_mono _ _) 4 (st' := (29, [(0, .ref 10), (1, .int a), (2, .int b)], [.int 1], wP pre (wQ (wNp p q op oq 1 dp wi fa 0 st of) F), 0)) rfl ?_
  refine mm_branch (mm_call_mono _ _) (c := (1 : Int32) ≤ 0) (s1 := (36, [(0, .ref 10), (1, .int a), (2, .int b)], [], wP pre (wQ (wNp p q op oq 1 dp wi fa 0 st of) F), 0)) (s2 := (32, [(0, .ref 10), (1, .int a), (2, .int b)], [], wP pre (wQ (wNp p q op oq 1 dp wi fa 0 st of) F), 0)) rfl (fun h => absurd h (by decide)) (fun _ => ?_)
  refine mm_skip (mm_call_mono _ _) 2 (st' := (45, [(0, .ref 10), (1, .int a), (2, .int b)], [.int 0], wP pre (wQ (wNp p q op oq 1 dp wi fa 0 st of) F), 0)) rfl ?_
  exact mm_ret (mm_call_mono _ _) (c := True) (r := .inl (some (.int 0))) (M := wP pre (wQ (wNp p q op oq 1 dp wi fa 0 st of) F)) (u := 0) rfl trivial (by decide) hQ

set_option maxRecDepth 100000 in
theorem ct_M_meet0 {d : Nat} {pre : mm_pre} {p q op oq : Nat → Int64} {tr dp wi fa : Int32} {st of : Nat → Int32} {F : mm_M} {a b c : Int32} {Q : mm_R → mm_M → Prop} (hQ : Q (.inl (some (.int 0))) (wP pre (wQ (wNp p q op oq 1 dp wi fa 0 st of) F))) : mm_call mm_Tb (d + 3) 105 [.ref 10, .int a, .int b, .int c] (wP pre (wQ (wNp p q op oq tr dp wi fa 0 st of) F)) Q := by
  refine mm_in mt_105 (Nat.le_of_ble_eq_true rfl) ?_
  show mm_W _ _ _ _ _ _ _ (0, [(0, .ref 10), (1, .int a), (2, .int b), (3, .int c)], [], wP pre (wQ (wNp p q op oq tr dp wi fa 0 st of) F), 0)
  refine mm_skip (mm_call_mono _ _) 2 (st' := (2, [(0, .ref 10), (1, .int a), (2, .int b), (3, .int c)], [.int a, .ref 10], wP pre (wQ (wNp p q op oq tr dp wi fa 0 st of) F), 0)) rfl ?_
  refine mm_inv (mm_call_mono _ _) (j := 98) (a := [.ref 10, .int a]) (M := wP pre (wQ (wNp p q op oq tr dp wi fa 0 st of) F)) (u := 0) rfl (by decide) (ct_M_kindOf0 ?_)
  show mm_W _ _ _ _ _ _ _ (5, [(0, .ref 10), (1, .int a), (2, .int b), (3, .int c)], [.int (-1)], wP pre (wQ (wNp p q op oq tr dp wi fa 0 st of) F), 0)
  refine mm_skip (mm_call_mono _ _) 1 (st' := (6, [(0, .ref 10), (1, .int a), (2, .int b), (3, .int c)], [.int 1, .int (-1)], wP pre (wQ (wNp p q op oq tr dp wi fa 0 st of) F), 0)) rfl ?_
  refine mm_branch (mm_call_mono _ _) (c := ((-1) : Int32) = 1) (s1 := (9, [(0, .ref 10), (1, .int a), (2, .int b), (3, .int c)], [], wP pre (wQ (wNp p q op oq tr dp wi fa 0 st of) F), 0)) (s2 := (22, [(0, .ref 10), (1, .int a), (2, .int b), (3, .int c)], [], wP pre (wQ (wNp p q op oq tr dp wi fa 0 st of) F), 0)) rfl (fun h => absurd h (by decide)) (fun _ => ?_)
  refine mm_skip (mm_call_mono _ _) 5 (st' := (28, [(4, .int 1), (0, .ref 10), (1, .int a), (2, .int b), (3, .int c)], [.int a, .ref 10, .ref 10], wP pre (wQ (wNp p q op oq tr dp wi fa 0 st of) F), 0)) rfl ?_
  refine mm_inv (mm_call_mono _ _) (j := 98) (a := [.ref 10, .int a]) (M := wP pre (wQ (wNp p q op oq tr dp wi fa 0 st of) F)) (u := 0) rfl (by decide) (ct_M_kindOf0 ?_)
  show mm_W _ _ _ _ _ _ _ (31, [(4, .int 1), (0, .ref 10), (1, .int a), (2, .int b), (3, .int c)], [.int (-1), .ref 10], wP pre (wQ (wNp p q op oq tr dp wi fa 0 st of) F), 0)
  refine mm_skip (mm_call_mono _ _) 1 (st' := (32, [(4, .int 1), (0, .ref 10), (1, .int a), (2, .int b), (3, .int c)], [.int 1, .int (-1), .ref 10], wP pre (wQ (wNp p q op oq tr dp wi fa 0 st of) F), 0)) rfl ?_
  refine mm_branch (mm_call_mono _ _) (c := ((-1) : Int32) < 1) (s1 := (59, [(4, .int 1), (0, .ref 10), (1, .int a), (2, .int b), (3, .int c)], [.ref 10], wP pre (wQ (wNp p q op oq tr dp wi fa 0 st of) F), 0)) (s2 := (35, [(4, .int 1), (0, .ref 10), (1, .int a), (2, .int b), (3, .int c)], [.ref 10], wP pre (wQ (wNp p q op oq tr dp wi fa 0 st of) F), 0)) rfl (fun _ => ?_) (fun h => absurd (by decide) h)
  refine mm_skip (mm_call_mono _ _) 5 (st' := (71, [(4, .int 1), (0, .ref 10), (1, .int a), (2, .int b), (3, .int c)], [.int 1], wP pre (wQ (wNp p q op oq 1 dp wi fa 0 st of) F), 0)) rfl ?_
  refine mm_branch (mm_call_mono _ _) (c := (1 : Int32) ≤ 0) (s1 := (78, [(4, .int 1), (0, .ref 10), (1, .int a), (2, .int b), (3, .int c)], [], wP pre (wQ (wNp p q op oq 1 dp wi fa 0 st of) F), 0)) (s2 := (74, [(4, .int 1), (0, .ref 10), (1, .int a), (2, .int b), (3, .int c)], [], wP pre (wQ (wNp p q op oq 1 dp wi fa 0 st of) F), 0)) rfl (fun h => absurd h (by decide)) (fun _ => ?_)
  refine mm_skip (mm_call_mono _ _) 2 (st' := (87, [(4, .int 1), (0, .ref 10), (1, .int a), (2, .int b), (3, .int c)], [.int 0], wP pre (wQ (wNp p q op oq 1 dp wi fa 0 st of) F), 0)) rfl ?_
  exact mm_ret (mm_call_mono _ _) (c := True) (r := .inl (some (.int 0))) (M := wP pre (wQ (wNp p q op oq 1 dp wi fa 0 st of) F)) (u := 0) rfl trivial (by decide) hQ

set_option maxRecDepth 100000 in
theorem ct_M_move0 {d : Nat} {pre : mm_pre} {p q op oq : Nat → Int64} {tr dp wi fa : Int32} {st of : Nat → Int32} {F : mm_M} {a b c e g : Int32} {Q : mm_R → mm_M → Prop} (hQ : Q (.inl (some (.int 0))) (wP pre (wQ (wNp p q op oq 1 dp wi fa 0 st of) F))) : mm_call mm_Tb (d + 3) 106 [.ref 10, .int a, .int b, .int c, .int e, .int g] (wP pre (wQ (wNp p q op oq tr dp wi fa 0 st of) F)) Q := by
  refine mm_in mt_106 (Nat.le_of_ble_eq_true rfl) ?_
  show mm_W _ _ _ _ _ _ _ (0, [(0, .ref 10), (1, .int a), (2, .int b), (3, .int c), (4, .int e), (5, .int g)], [], wP pre (wQ (wNp p q op oq tr dp wi fa 0 st of) F), 0)
  refine mm_skip (mm_call_mono _ _) 3 (st' := (3, [(0, .ref 10), (1, .int a), (2, .int b), (3, .int c), (4, .int e), (5, .int g)], [.int a, .ref 10, .ref 10], wP pre (wQ (wNp p q op oq tr dp wi fa 0 st of) F), 0)) rfl ?_
  refine mm_inv (mm_call_mono _ _) (j := 97) (a := [.ref 10, .int a]) (M := wP pre (wQ (wNp p q op oq tr dp wi fa 0 st of) F)) (u := 0) rfl (by decide) (ct_M_isPoint0 ?_)
  show mm_W _ _ _ _ _ _ _ (6, [(0, .ref 10), (1, .int a), (2, .int b), (3, .int c), (4, .int e), (5, .int g)], [.int 0, .ref 10], wP pre (wQ (wNp p q op oq tr dp wi fa 0 st of) F), 0)
  refine mm_branch (mm_call_mono _ _) (c := (0 : Int32) = 0) (s1 := (31, [(0, .ref 10), (1, .int a), (2, .int b), (3, .int c), (4, .int e), (5, .int g)], [.ref 10], wP pre (wQ (wNp p q op oq tr dp wi fa 0 st of) F), 0)) (s2 := (9, [(0, .ref 10), (1, .int a), (2, .int b), (3, .int c), (4, .int e), (5, .int g)], [.ref 10], wP pre (wQ (wNp p q op oq tr dp wi fa 0 st of) F), 0)) rfl (fun _ => ?_) (fun h => absurd (by decide) h)
  refine mm_skip (mm_call_mono _ _) 4 (st' := (39, [(0, .ref 10), (1, .int a), (2, .int b), (3, .int c), (4, .int e), (5, .int g)], [.int 1], wP pre (wQ (wNp p q op oq 1 dp wi fa 0 st of) F), 0)) rfl ?_
  refine mm_branch (mm_call_mono _ _) (c := (1 : Int32) ≤ 0) (s1 := (44, [(0, .ref 10), (1, .int a), (2, .int b), (3, .int c), (4, .int e), (5, .int g)], [], wP pre (wQ (wNp p q op oq 1 dp wi fa 0 st of) F), 0)) (s2 := (42, [(0, .ref 10), (1, .int a), (2, .int b), (3, .int c), (4, .int e), (5, .int g)], [], wP pre (wQ (wNp p q op oq 1 dp wi fa 0 st of) F), 0)) rfl (fun h => absurd h (by decide)) (fun _ => ?_)
  refine mm_skip (mm_call_mono _ _) 1 (st' := (43, [(0, .ref 10), (1, .int a), (2, .int b), (3, .int c), (4, .int e), (5, .int g)], [.int 0], wP pre (wQ (wNp p q op oq 1 dp wi fa 0 st of) F), 0)) rfl ?_
  exact mm_ret (mm_call_mono _ _) (c := True) (r := .inl (some (.int 0))) (M := wP pre (wQ (wNp p q op oq 1 dp wi fa 0 st of) F)) (u := 0) rfl trivial (by decide) hQ

set_option maxRecDepth 100000 in
theorem ct_M_on0 {d : Nat} {pre : mm_pre} {p q op oq : Nat → Int64} {tr dp wi fa : Int32} {st of : Nat → Int32} {F : mm_M} {a b : Int32} {Q : mm_R → mm_M → Prop} (hQ : Q (.inl (some (.int 0))) (wP pre (wQ (wNp p q op oq 1 dp wi fa 0 st of) F))) : mm_call mm_Tb (d + 3) 110 [.ref 10, .int a, .int b] (wP pre (wQ (wNp p q op oq tr dp wi fa 0 st of) F)) Q := by
  refine mm_in mt_110 (Nat.le_of_ble_eq_true rfl) ?_
  show mm_W _ _ _ _ _ _ _ (0, [(0, .ref 10), (1, .int a), (2, .int b)], [], wP pre (wQ (wNp p q op oq tr dp wi fa 0 st of) F), 0)
  refine mm_skip (mm_call_mono _ _) 3 (st' := (3, [(0, .ref 10), (1, .int a), (2, .int b)], [.int a, .ref 10, .ref 10], wP pre (wQ (wNp p q op oq tr dp wi fa 0 st of) F), 0)) rfl ?_
  refine mm_inv (mm_call_mono _ _) (j := 97) (a := [.ref 10, .int a]) (M := wP pre (wQ (wNp p q op oq tr dp wi fa 0 st of) F)) (u := 0) rfl (by decide) (ct_M_isPoint0 ?_)
  show mm_W _ _ _ _ _ _ _ (6, [(0, .ref 10), (1, .int a), (2, .int b)], [.int 0, .ref 10], wP pre (wQ (wNp p q op oq tr dp wi fa 0 st of) F), 0)
  refine mm_branch (mm_call_mono _ _) (c := (0 : Int32) = 0) (s1 := (21, [(0, .ref 10), (1, .int a), (2, .int b)], [.ref 10], wP pre (wQ (wNp p q op oq tr dp wi fa 0 st of) F), 0)) (s2 := (9, [(0, .ref 10), (1, .int a), (2, .int b)], [.ref 10], wP pre (wQ (wNp p q op oq tr dp wi fa 0 st of) F), 0)) rfl (fun _ => ?_) (fun h => absurd (by decide) h)
  refine mm_skip (mm_call_mono _ _) 4 (st' := (29, [(0, .ref 10), (1, .int a), (2, .int b)], [.int 1], wP pre (wQ (wNp p q op oq 1 dp wi fa 0 st of) F), 0)) rfl ?_
  refine mm_branch (mm_call_mono _ _) (c := (1 : Int32) ≤ 0) (s1 := (34, [(0, .ref 10), (1, .int a), (2, .int b)], [], wP pre (wQ (wNp p q op oq 1 dp wi fa 0 st of) F), 0)) (s2 := (32, [(0, .ref 10), (1, .int a), (2, .int b)], [], wP pre (wQ (wNp p q op oq 1 dp wi fa 0 st of) F), 0)) rfl (fun h => absurd h (by decide)) (fun _ => ?_)
  refine mm_skip (mm_call_mono _ _) 1 (st' := (33, [(0, .ref 10), (1, .int a), (2, .int b)], [.int 0], wP pre (wQ (wNp p q op oq 1 dp wi fa 0 st of) F), 0)) rfl ?_
  exact mm_ret (mm_call_mono _ _) (c := mm_z 0) (r := .inl (some (.int 0))) (M := wP pre (wQ (wNp p q op oq 1 dp wi fa 0 st of) F)) (u := 0) rfl (by unfold mm_z; decide) (by decide) hQ

set_option maxRecDepth 100000 in
theorem ct_M_same0 {d : Nat} {pre : mm_pre} {p q op oq : Nat → Int64} {tr dp wi fa : Int32} {st of : Nat → Int32} {F : mm_M} {a b : Int32} {Q : mm_R → mm_M → Prop} (hQ : Q (.inl (some (.int 0))) (wP pre (wQ (wNp p q op oq 1 dp wi fa 0 st of) F))) : mm_call mm_Tb (d + 3) 111 [.ref 10, .int a, .int b] (wP pre (wQ (wNp p q op oq tr dp wi fa 0 st of) F)) Q := by
  refine mm_in mt_111 (Nat.le_of_ble_eq_true rfl) ?_
  show mm_W _ _ _ _ _ _ _ (0, [(0, .ref 10), (1, .int a), (2, .int b)], [], wP pre (wQ (wNp p q op oq tr dp wi fa 0 st of) F), 0)
  refine mm_skip (mm_call_mono _ _) 3 (st' := (3, [(0, .ref 10), (1, .int a), (2, .int b)], [.int a, .ref 10, .ref 10], wP pre (wQ (wNp p q op oq tr dp wi fa 0 st of) F), 0)) rfl ?_
  refine mm_inv (mm_call_mono _ _) (j := 97) (a := [.ref 10, .int a]) (M := wP pre (wQ (wNp p q op oq tr dp wi fa 0 st of) F)) (u := 0) rfl (by decide) (ct_M_isPoint0 ?_)
  show mm_W _ _ _ _ _ _ _ (6, [(0, .ref 10), (1, .int a), (2, .int b)], [.int 0, .ref 10], wP pre (wQ (wNp p q op oq tr dp wi fa 0 st of) F), 0)
  refine mm_branch (mm_call_mono _ _) (c := (0 : Int32) = 0) (s1 := (21, [(0, .ref 10), (1, .int a), (2, .int b)], [.ref 10], wP pre (wQ (wNp p q op oq tr dp wi fa 0 st of) F), 0)) (s2 := (9, [(0, .ref 10), (1, .int a), (2, .int b)], [.ref 10], wP pre (wQ (wNp p q op oq tr dp wi fa 0 st of) F), 0)) rfl (fun _ => ?_) (fun h => absurd (by decide) h)
  refine mm_skip (mm_call_mono _ _) 4 (st' := (29, [(0, .ref 10), (1, .int a), (2, .int b)], [.int 1], wP pre (wQ (wNp p q op oq 1 dp wi fa 0 st of) F), 0)) rfl ?_
  refine mm_branch (mm_call_mono _ _) (c := (1 : Int32) = 0) (s1 := (32, [(0, .ref 10), (1, .int a), (2, .int b)], [], wP pre (wQ (wNp p q op oq 1 dp wi fa 0 st of) F), 0)) (s2 := (66, [(0, .ref 10), (1, .int a), (2, .int b)], [], wP pre (wQ (wNp p q op oq 1 dp wi fa 0 st of) F), 0)) rfl (fun h => absurd h (by decide)) (fun _ => ?_)
  refine mm_skip (mm_call_mono _ _) 1 (st' := (67, [(0, .ref 10), (1, .int a), (2, .int b)], [.int 0], wP pre (wQ (wNp p q op oq 1 dp wi fa 0 st of) F), 0)) rfl ?_
  exact mm_ret (mm_call_mono _ _) (c := mm_z 0) (r := .inl (some (.int 0))) (M := wP pre (wQ (wNp p q op oq 1 dp wi fa 0 st of) F)) (u := 0) rfl (by unfold mm_z; decide) (by decide) hQ

set_option maxRecDepth 100000 in
theorem ct_M_equal0 {d : Nat} {pre : mm_pre} {p q op oq : Nat → Int64} {tr dp wi fa : Int32} {st of : Nat → Int32} {F : mm_M} {a b c e : Int32} {Q : mm_R → mm_M → Prop} (hQ : Q (.inl (some (.int 0))) (wP pre (wQ (wNp p q op oq 1 dp wi fa 0 st of) F))) : mm_call mm_Tb (d + 3) 112 [.ref 10, .int a, .int b, .int c, .int e] (wP pre (wQ (wNp p q op oq tr dp wi fa 0 st of) F)) Q := by
  refine mm_in mt_112 (Nat.le_of_ble_eq_true rfl) ?_
  show mm_W _ _ _ _ _ _ _ (0, [(0, .ref 10), (1, .int a), (2, .int b), (3, .int c), (4, .int e)], [], wP pre (wQ (wNp p q op oq tr dp wi fa 0 st of) F), 0)
  refine mm_skip (mm_call_mono _ _) 3 (st' := (3, [(0, .ref 10), (1, .int a), (2, .int b), (3, .int c), (4, .int e)], [.int a, .ref 10, .ref 10], wP pre (wQ (wNp p q op oq tr dp wi fa 0 st of) F), 0)) rfl ?_
  refine mm_inv (mm_call_mono _ _) (j := 97) (a := [.ref 10, .int a]) (M := wP pre (wQ (wNp p q op oq tr dp wi fa 0 st of) F)) (u := 0) rfl (by decide) (ct_M_isPoint0 ?_)
  show mm_W _ _ _ _ _ _ _ (6, [(0, .ref 10), (1, .int a), (2, .int b), (3, .int c), (4, .int e)], [.int 0, .ref 10], wP pre (wQ (wNp p q op oq tr dp wi fa 0 st of) F), 0)
  refine mm_branch (mm_call_mono _ _) (c := (0 : Int32) = 0) (s1 := (38, [(0, .ref 10), (1, .int a), (2, .int b), (3, .int c), (4, .int e)], [.ref 10], wP pre (wQ (wNp p q op oq tr dp wi fa 0 st of) F), 0)) (s2 := (9, [(0, .ref 10), (1, .int a), (2, .int b), (3, .int c), (4, .int e)], [.ref 10], wP pre (wQ (wNp p q op oq tr dp wi fa 0 st of) F), 0)) rfl (fun _ => ?_) (fun h => absurd (by decide) h)
  refine mm_skip (mm_call_mono _ _) 4 (st' := (46, [(0, .ref 10), (1, .int a), (2, .int b), (3, .int c), (4, .int e)], [.int 1], wP pre (wQ (wNp p q op oq 1 dp wi fa 0 st of) F), 0)) rfl ?_
  refine mm_branch (mm_call_mono _ _) (c := (1 : Int32) ≤ 0) (s1 := (51, [(0, .ref 10), (1, .int a), (2, .int b), (3, .int c), (4, .int e)], [], wP pre (wQ (wNp p q op oq 1 dp wi fa 0 st of) F), 0)) (s2 := (49, [(0, .ref 10), (1, .int a), (2, .int b), (3, .int c), (4, .int e)], [], wP pre (wQ (wNp p q op oq 1 dp wi fa 0 st of) F), 0)) rfl (fun h => absurd h (by decide)) (fun _ => ?_)
  refine mm_skip (mm_call_mono _ _) 1 (st' := (50, [(0, .ref 10), (1, .int a), (2, .int b), (3, .int c), (4, .int e)], [.int 0], wP pre (wQ (wNp p q op oq 1 dp wi fa 0 st of) F), 0)) rfl ?_
  exact mm_ret (mm_call_mono _ _) (c := mm_z 0) (r := .inl (some (.int 0))) (M := wP pre (wQ (wNp p q op oq 1 dp wi fa 0 st of) F)) (u := 0) rfl (by unfold mm_z; decide) (by decide) hQ

set_option maxRecDepth 100000 in
theorem ct_M_angle0 {d : Nat} {pre : mm_pre} {p q op oq : Nat → Int64} {tr dp wi fa : Int32} {st of : Nat → Int32} {F : mm_M} {a b : Int32} {Q : mm_R → mm_M → Prop} (hQ : Q (.inl (some (.int 0))) (wP pre (wQ (wNp p q op oq 1 dp wi fa 0 st of) F))) : mm_call mm_Tb (d + 3) 113 [.ref 10, .int a, .int b] (wP pre (wQ (wNp p q op oq tr dp wi fa 0 st of) F)) Q := by
  refine mm_in mt_113 (Nat.le_of_ble_eq_true rfl) ?_
  show mm_W _ _ _ _ _ _ _ (0, [(0, .ref 10), (1, .int a), (2, .int b)], [], wP pre (wQ (wNp p q op oq tr dp wi fa 0 st of) F), 0)
  refine mm_skip (mm_call_mono _ _) 3 (st' := (3, [(0, .ref 10), (1, .int a), (2, .int b)], [.int a, .ref 10, .ref 10], wP pre (wQ (wNp p q op oq tr dp wi fa 0 st of) F), 0)) rfl ?_
  refine mm_inv (mm_call_mono _ _) (j := 98) (a := [.ref 10, .int a]) (M := wP pre (wQ (wNp p q op oq tr dp wi fa 0 st of) F)) (u := 0) rfl (by decide) (ct_M_kindOf0 ?_)
  show mm_W _ _ _ _ _ _ _ (6, [(0, .ref 10), (1, .int a), (2, .int b)], [.int (-1), .ref 10], wP pre (wQ (wNp p q op oq tr dp wi fa 0 st of) F), 0)
  refine mm_skip (mm_call_mono _ _) 1 (st' := (7, [(0, .ref 10), (1, .int a), (2, .int b)], [.int 1, .int (-1), .ref 10], wP pre (wQ (wNp p q op oq tr dp wi fa 0 st of) F), 0)) rfl ?_
  refine mm_branch (mm_call_mono _ _) (c := ((-1) : Int32) = 1) (s1 := (10, [(0, .ref 10), (1, .int a), (2, .int b)], [.ref 10], wP pre (wQ (wNp p q op oq tr dp wi fa 0 st of) F), 0)) (s2 := (23, [(0, .ref 10), (1, .int a), (2, .int b)], [.ref 10], wP pre (wQ (wNp p q op oq tr dp wi fa 0 st of) F), 0)) rfl (fun h => absurd h (by decide)) (fun _ => ?_)
  refine mm_skip (mm_call_mono _ _) 4 (st' := (31, [(0, .ref 10), (1, .int a), (2, .int b)], [.int 1], wP pre (wQ (wNp p q op oq 1 dp wi fa 0 st of) F), 0)) rfl ?_
  refine mm_branch (mm_call_mono _ _) (c := (1 : Int32) ≤ 0) (s1 := (36, [(0, .ref 10), (1, .int a), (2, .int b)], [], wP pre (wQ (wNp p q op oq 1 dp wi fa 0 st of) F), 0)) (s2 := (34, [(0, .ref 10), (1, .int a), (2, .int b)], [], wP pre (wQ (wNp p q op oq 1 dp wi fa 0 st of) F), 0)) rfl (fun h => absurd h (by decide)) (fun _ => ?_)
  refine mm_skip (mm_call_mono _ _) 1 (st' := (35, [(0, .ref 10), (1, .int a), (2, .int b)], [.int 0], wP pre (wQ (wNp p q op oq 1 dp wi fa 0 st of) F), 0)) rfl ?_
  exact mm_ret (mm_call_mono _ _) (c := True) (r := .inl (some (.int 0))) (M := wP pre (wQ (wNp p q op oq 1 dp wi fa 0 st of) F)) (u := 0) rfl trivial (by decide) hQ

set_option maxRecDepth 100000 in
theorem ct_M_side0 {d : Nat} {pre : mm_pre} {p q op oq : Nat → Int64} {tr dp wi fa : Int32} {st of : Nat → Int32} {F : mm_M} {a b c : Int32} {Q : mm_R → mm_M → Prop} (hQ : Q (.inl (some (.int 0))) (wP pre (wQ (wNp p q op oq 1 dp wi fa 0 st of) F))) : mm_call mm_Tb (d + 3) 114 [.ref 10, .int a, .int b, .int c] (wP pre (wQ (wNp p q op oq tr dp wi fa 0 st of) F)) Q := by
  refine mm_in mt_114 (Nat.le_of_ble_eq_true rfl) ?_
  show mm_W _ _ _ _ _ _ _ (0, [(0, .ref 10), (1, .int a), (2, .int b), (3, .int c)], [], wP pre (wQ (wNp p q op oq tr dp wi fa 0 st of) F), 0)
  refine mm_skip (mm_call_mono _ _) 3 (st' := (3, [(0, .ref 10), (1, .int a), (2, .int b), (3, .int c)], [.int a, .ref 10, .ref 10], wP pre (wQ (wNp p q op oq tr dp wi fa 0 st of) F), 0)) rfl ?_
  refine mm_inv (mm_call_mono _ _) (j := 97) (a := [.ref 10, .int a]) (M := wP pre (wQ (wNp p q op oq tr dp wi fa 0 st of) F)) (u := 0) rfl (by decide) (ct_M_isPoint0 ?_)
  show mm_W _ _ _ _ _ _ _ (6, [(0, .ref 10), (1, .int a), (2, .int b), (3, .int c)], [.int 0, .ref 10], wP pre (wQ (wNp p q op oq tr dp wi fa 0 st of) F), 0)
  refine mm_branch (mm_call_mono _ _) (c := (0 : Int32) = 0) (s1 := (29, [(0, .ref 10), (1, .int a), (2, .int b), (3, .int c)], [.ref 10], wP pre (wQ (wNp p q op oq tr dp wi fa 0 st of) F), 0)) (s2 := (9, [(0, .ref 10), (1, .int a), (2, .int b), (3, .int c)], [.ref 10], wP pre (wQ (wNp p q op oq tr dp wi fa 0 st of) F), 0)) rfl (fun _ => ?_) (fun h => absurd (by decide) h)
  refine mm_skip (mm_call_mono _ _) 4 (st' := (37, [(0, .ref 10), (1, .int a), (2, .int b), (3, .int c)], [.int 1], wP pre (wQ (wNp p q op oq 1 dp wi fa 0 st of) F), 0)) rfl ?_
  refine mm_branch (mm_call_mono _ _) (c := (1 : Int32) ≤ 0) (s1 := (42, [(0, .ref 10), (1, .int a), (2, .int b), (3, .int c)], [], wP pre (wQ (wNp p q op oq 1 dp wi fa 0 st of) F), 0)) (s2 := (40, [(0, .ref 10), (1, .int a), (2, .int b), (3, .int c)], [], wP pre (wQ (wNp p q op oq 1 dp wi fa 0 st of) F), 0)) rfl (fun h => absurd h (by decide)) (fun _ => ?_)
  refine mm_skip (mm_call_mono _ _) 1 (st' := (41, [(0, .ref 10), (1, .int a), (2, .int b), (3, .int c)], [.int 0], wP pre (wQ (wNp p q op oq 1 dp wi fa 0 st of) F), 0)) rfl ?_
  exact mm_ret (mm_call_mono _ _) (c := True) (r := .inl (some (.int 0))) (M := wP pre (wQ (wNp p q op oq 1 dp wi fa 0 st of) F)) (u := 0) rfl trivial (by decide) hQ

set_option maxRecDepth 100000 in
theorem ct_M_sign0 {d : Nat} {pre : mm_pre} {p q op oq : Nat → Int64} {tr dp wi fa : Int32} {st of : Nat → Int32} {F : mm_M} {a b c : Int32} {Q : mm_R → mm_M → Prop} (hQ : Q (.inl (some (.int 0))) (wP pre (wQ (wNp p q op oq 1 dp wi fa 0 st of) F))) : mm_call mm_Tb (d + 3) 115 [.ref 10, .int a, .int b, .int c] (wP pre (wQ (wNp p q op oq tr dp wi fa 0 st of) F)) Q := by
  refine mm_in mt_115 (Nat.le_of_ble_eq_true rfl) ?_
  show mm_W _ _ _ _ _ _ _ (0, [(0, .ref 10), (1, .int a), (2, .int b), (3, .int c)], [], wP pre (wQ (wNp p q op oq tr dp wi fa 0 st of) F), 0)
  refine mm_skip (mm_call_mono _ _) 3 (st' := (3, [(0, .ref 10), (1, .int a), (2, .int b), (3, .int c)], [.int a, .ref 10, .ref 10], wP pre (wQ (wNp p q op oq tr dp wi fa 0 st of) F), 0)) rfl ?_
  refine mm_inv (mm_call_mono _ _) (j := 97) (a := [.ref 10, .int a]) (M := wP pre (wQ (wNp p q op oq tr dp wi fa 0 st of) F)) (u := 0) rfl (by decide) (ct_M_isPoint0 ?_)
  show mm_W _ _ _ _ _ _ _ (6, [(0, .ref 10), (1, .int a), (2, .int b), (3, .int c)], [.int 0, .ref 10], wP pre (wQ (wNp p q op oq tr dp wi fa 0 st of) F), 0)
  refine mm_branch (mm_call_mono _ _) (c := (0 : Int32) = 0) (s1 := (25, [(0, .ref 10), (1, .int a), (2, .int b), (3, .int c)], [.ref 10], wP pre (wQ (wNp p q op oq tr dp wi fa 0 st of) F), 0)) (s2 := (9, [(0, .ref 10), (1, .int a), (2, .int b), (3, .int c)], [.ref 10], wP pre (wQ (wNp p q op oq tr dp wi fa 0 st of) F), 0)) rfl (fun _ => ?_) (fun h => absurd (by decide) h)
  refine mm_skip (mm_call_mono _ _) 4 (st' := (33, [(0, .ref 10), (1, .int a), (2, .int b), (3, .int c)], [.int 1], wP pre (wQ (wNp p q op oq 1 dp wi fa 0 st of) F), 0)) rfl ?_
  refine mm_branch (mm_call_mono _ _) (c := (1 : Int32) ≤ 0) (s1 := (38, [(0, .ref 10), (1, .int a), (2, .int b), (3, .int c)], [], wP pre (wQ (wNp p q op oq 1 dp wi fa 0 st of) F), 0)) (s2 := (36, [(0, .ref 10), (1, .int a), (2, .int b), (3, .int c)], [], wP pre (wQ (wNp p q op oq 1 dp wi fa 0 st of) F), 0)) rfl (fun h => absurd h (by decide)) (fun _ => ?_)
  refine mm_skip (mm_call_mono _ _) 1 (st' := (37, [(0, .ref 10), (1, .int a), (2, .int b), (3, .int c)], [.int 0], wP pre (wQ (wNp p q op oq 1 dp wi fa 0 st of) F), 0)) rfl ?_
  exact mm_ret (mm_call_mono _ _) (c := True) (r := .inl (some (.int 0))) (M := wP pre (wQ (wNp p q op oq 1 dp wi fa 0 st of) F)) (u := 0) rfl trivial (by decide) hQ

set_option maxRecDepth 100000 in
theorem ct_M_part0 {d : Nat} {pre : mm_pre} {p q op oq : Nat → Int64} {tr dp wi fa : Int32} {st of : Nat → Int32} {F : mm_M} {a b c e : Int32} {Q : mm_R → mm_M → Prop} (hQ : Q (.inl (some (.int 0))) (wP pre (wQ (wNp p q op oq 1 dp wi fa 0 st of) F))) : mm_call mm_Tb (d + 3) 116 [.ref 10, .int a, .int b, .int c, .int e] (wP pre (wQ (wNp p q op oq tr dp wi fa 0 st of) F)) Q := by
  refine mm_in mt_116 (Nat.le_of_ble_eq_true rfl) ?_
  show mm_W _ _ _ _ _ _ _ (0, [(0, .ref 10), (1, .int a), (2, .int b), (3, .int c), (4, .int e)], [], wP pre (wQ (wNp p q op oq tr dp wi fa 0 st of) F), 0)
  refine mm_skip (mm_call_mono _ _) 3 (st' := (3, [(0, .ref 10), (1, .int a), (2, .int b), (3, .int c), (4, .int e)], [.int a, .ref 10, .ref 10], wP pre (wQ (wNp p q op oq tr dp wi fa 0 st of) F), 0)) rfl ?_
  refine mm_inv (mm_call_mono _ _) (j := 97) (a := [.ref 10, .int a]) (M := wP pre (wQ (wNp p q op oq tr dp wi fa 0 st of) F)) (u := 0) rfl (by decide) (ct_M_isPoint0 ?_)
  show mm_W _ _ _ _ _ _ _ (6, [(0, .ref 10), (1, .int a), (2, .int b), (3, .int c), (4, .int e)], [.int 0, .ref 10], wP pre (wQ (wNp p q op oq tr dp wi fa 0 st of) F), 0)
  refine mm_branch (mm_call_mono _ _) (c := (0 : Int32) = 0) (s1 := (22, [(0, .ref 10), (1, .int a), (2, .int b), (3, .int c), (4, .int e)], [.ref 10], wP pre (wQ (wNp p q op oq tr dp wi fa 0 st of) F), 0)) (s2 := (9, [(0, .ref 10), (1, .int a), (2, .int b), (3, .int c), (4, .int e)], [.ref 10], wP pre (wQ (wNp p q op oq tr dp wi fa 0 st of) F), 0)) rfl (fun _ => ?_) (fun h => absurd (by decide) h)
  refine mm_skip (mm_call_mono _ _) 4 (st' := (30, [(0, .ref 10), (1, .int a), (2, .int b), (3, .int c), (4, .int e)], [.int 1], wP pre (wQ (wNp p q op oq 1 dp wi fa 0 st of) F), 0)) rfl ?_
  refine mm_branch (mm_call_mono _ _) (c := (1 : Int32) ≤ 0) (s1 := (35, [(0, .ref 10), (1, .int a), (2, .int b), (3, .int c), (4, .int e)], [], wP pre (wQ (wNp p q op oq 1 dp wi fa 0 st of) F), 0)) (s2 := (33, [(0, .ref 10), (1, .int a), (2, .int b), (3, .int c), (4, .int e)], [], wP pre (wQ (wNp p q op oq 1 dp wi fa 0 st of) F), 0)) rfl (fun h => absurd h (by decide)) (fun _ => ?_)
  refine mm_skip (mm_call_mono _ _) 1 (st' := (34, [(0, .ref 10), (1, .int a), (2, .int b), (3, .int c), (4, .int e)], [.int 0], wP pre (wQ (wNp p q op oq 1 dp wi fa 0 st of) F), 0)) rfl ?_
  exact mm_ret (mm_call_mono _ _) (c := True) (r := .inl (some (.int 0))) (M := wP pre (wQ (wNp p q op oq 1 dp wi fa 0 st of) F)) (u := 0) rfl trivial (by decide) hQ

set_option maxRecDepth 100000 in
theorem ct_M_radicand0 {d : Nat} {pre : mm_pre} {p q op oq : Nat → Int64} {tr wi fa : Int32} {st of : Nat → Int32} {F : mm_M} {a b c : Int32} {Q : mm_R → mm_M → Prop} (hQ : Q (.inl (some (.int 0))) (wP pre (wQ (wNp p q op oq 1 0 wi fa 0 st of) F))) : mm_call mm_Tb (d + 1) 117 [.ref 10, .int a, .int b, .int c] (wP pre (wQ (wNp p q op oq tr 0 wi fa 0 st of) F)) Q := by
  refine mm_in mt_117 (Nat.le_of_ble_eq_true rfl) ?_
  show mm_W _ _ _ _ _ _ _ (0, [(0, .ref 10), (1, .int a), (2, .int b), (3, .int c)], [], wP pre (wQ (wNp p q op oq tr 0 wi fa 0 st of) F), 0)
  refine mm_skip (mm_call_mono _ _) 3 (st' := (3, [(0, .ref 10), (1, .int a), (2, .int b), (3, .int c)], [.int 1, .int a, .ref 10], wP pre (wQ (wNp p q op oq tr 0 wi fa 0 st of) F), 0)) rfl ?_
  refine mm_branch (mm_call_mono _ _) (c := a < 1) (s1 := (23, [(0, .ref 10), (1, .int a), (2, .int b), (3, .int c)], [.ref 10], wP pre (wQ (wNp p q op oq tr 0 wi fa 0 st of) F), 0)) (s2 := (6, [(0, .ref 10), (1, .int a), (2, .int b), (3, .int c)], [.ref 10], wP pre (wQ (wNp p q op oq tr 0 wi fa 0 st of) F), 0)) rfl (fun h1 => ?_) (fun h1 => ?_)
  · skip
    refine mm_skip (mm_call_mono _ _) 5 (st' := (35, [(0, .ref 10), (1, .int a), (2, .int b), (3, .int c)], [.int 1], wP pre (wQ (wNp p q op oq 1 0 wi fa 0 st of) F), 0)) rfl ?_
    refine mm_branch (mm_call_mono _ _) (c := (1 : Int32) ≤ 0) (s1 := (40, [(0, .ref 10), (1, .int a), (2, .int b), (3, .int c)], [], wP pre (wQ (wNp p q op oq 1 0 wi fa 0 st of) F), 0)) (s2 := (38, [(0, .ref 10), (1, .int a), (2, .int b), (3, .int c)], [], wP pre (wQ (wNp p q op oq 1 0 wi fa 0 st of) F), 0)) rfl (fun h => absurd h (by decide)) (fun _ => ?_)
    refine mm_skip (mm_call_mono _ _) 1 (st' := (39, [(0, .ref 10), (1, .int a), (2, .int b), (3, .int c)], [.int 0], wP pre (wQ (wNp p q op oq 1 0 wi fa 0 st of) F), 0)) rfl ?_
    exact mm_ret (mm_call_mono _ _) (c := True) (r := .inl (some (.int 0))) (M := wP pre (wQ (wNp p q op oq 1 0 wi fa 0 st of) F)) (u := 0) rfl trivial (by decide) hQ
  · skip
    refine mm_skip (mm_call_mono _ _) 3 (st' := (11, [(0, .ref 10), (1, .int a), (2, .int b), (3, .int c)], [.int 0, .int a, .ref 10], wP pre (wQ (wNp p q op oq tr 0 wi fa 0 st of) F), 0)) rfl ?_
    refine mm_branch (mm_call_mono _ _) (c := 0 < a) (s1 := (23, [(0, .ref 10), (1, .int a), (2, .int b), (3, .int c)], [.ref 10], wP pre (wQ (wNp p q op oq tr 0 wi fa 0 st of) F), 0)) (s2 := (14, [(0, .ref 10), (1, .int a), (2, .int b), (3, .int c)], [.ref 10], wP pre (wQ (wNp p q op oq tr 0 wi fa 0 st of) F), 0)) rfl (fun _ => ?_) (fun h => absurd (lt01 h1) h)
    refine mm_skip (mm_call_mono _ _) 5 (st' := (35, [(0, .ref 10), (1, .int a), (2, .int b), (3, .int c)], [.int 1], wP pre (wQ (wNp p q op oq 1 0 wi fa 0 st of) F), 0)) rfl ?_
    refine mm_branch (mm_call_mono _ _) (c := (1 : Int32) ≤ 0) (s1 := (40, [(0, .ref 10), (1, .int a), (2, .int b), (3, .int c)], [], wP pre (wQ (wNp p q op oq 1 0 wi fa 0 st of) F), 0)) (s2 := (38, [(0, .ref 10), (1, .int a), (2, .int b), (3, .int c)], [], wP pre (wQ (wNp p q op oq 1 0 wi fa 0 st of) F), 0)) rfl (fun h => absurd h (by decide)) (fun _ => ?_)
    refine mm_skip (mm_call_mono _ _) 1 (st' := (39, [(0, .ref 10), (1, .int a), (2, .int b), (3, .int c)], [.int 0], wP pre (wQ (wNp p q op oq 1 0 wi fa 0 st of) F), 0)) rfl ?_
    exact mm_ret (mm_call_mono _ _) (c := True) (r := .inl (some (.int 0))) (M := wP pre (wQ (wNp p q op oq 1 0 wi fa 0 st of) F)) (u := 0) rfl trivial (by decide) hQ

set_option maxRecDepth 100000 in
theorem ct_M_undo0 {d : Nat} {pre : mm_pre} {p q op oq : Nat → Int64} {tr dp wi fa : Int32} {st of : Nat → Int32} {F : mm_M} {Q : mm_R → mm_M → Prop} (hQ : Q (.inl (some (.int 0))) (wP pre (wQ (wNp p q op oq 0 dp wi fa 0 st of) F))) : mm_call mm_Tb (d + 1) 108 [.ref 10] (wP pre (wQ (wNp p q op oq tr dp wi fa 0 st of) F)) Q := by
  refine mm_in mt_108 (Nat.le_of_ble_eq_true rfl) ?_
  show mm_W _ _ _ _ _ _ _ (0, [(0, .ref 10)], [], wP pre (wQ (wNp p q op oq tr dp wi fa 0 st of) F), 0)
  refine mm_skip (mm_call_mono _ _) 5 (st' := (9, [(0, .ref 10)], [.int 0], wP pre (wQ (wNp p q op oq 0 dp wi fa 0 st of) F), 0)) rfl ?_
  refine mm_branch (mm_call_mono _ _) (c := (0 : Int32) = 0) (s1 := (12, [(0, .ref 10)], [], wP pre (wQ (wNp p q op oq 0 dp wi fa 0 st of) F), 0)) (s2 := (14, [(0, .ref 10)], [], wP pre (wQ (wNp p q op oq 0 dp wi fa 0 st of) F), 0)) rfl (fun _ => ?_) (fun h => absurd (by decide) h)
  refine mm_skip (mm_call_mono _ _) 1 (st' := (13, [(0, .ref 10)], [.int 0], wP pre (wQ (wNp p q op oq 0 dp wi fa 0 st of) F), 0)) rfl ?_
  exact mm_ret (mm_call_mono _ _) (c := mm_z 0) (r := .inl (some (.int 0))) (M := wP pre (wQ (wNp p q op oq 0 dp wi fa 0 st of) F)) (u := 0) rfl (by unfold mm_z; decide) (by decide) hQ

set_option maxRecDepth 100000 in
theorem ct_M_kind0 {d : Nat} {pre : mm_pre} {p q op oq : Nat → Int64} {tr dp wi fa : Int32} {st of : Nat → Int32} {F : mm_M} {a : Int32} {Q : mm_R → mm_M → Prop} (hQ : Q (.inl (some (.int (-1)))) (wP pre (wQ (wNp p q op oq 0 dp wi fa 0 st of) F))) : mm_call mm_Tb (d + 2) 118 [.ref 10, .int a] (wP pre (wQ (wNp p q op oq tr dp wi fa 0 st of) F)) Q := by
  refine mm_in mt_118 (Nat.le_of_ble_eq_true rfl) ?_
  show mm_W _ _ _ _ _ _ _ (0, [(0, .ref 10), (1, .int a)], [], wP pre (wQ (wNp p q op oq tr dp wi fa 0 st of) F), 0)
  refine mm_skip (mm_call_mono _ _) 5 (st' := (7, [(0, .ref 10), (1, .int a)], [.int a, .ref 10], wP pre (wQ (wNp p q op oq 0 dp wi fa 0 st of) F), 0)) rfl ?_
  refine mm_inv (mm_call_mono _ _) (j := 98) (a := [.ref 10, .int a]) (M := wP pre (wQ (wNp p q op oq 0 dp wi fa 0 st of) F)) (u := 0) rfl (by decide) (ct_M_kindOf0 ?_)
  show mm_W _ _ _ _ _ _ _ (10, [(0, .ref 10), (1, .int a)], [.int (-1)], wP pre (wQ (wNp p q op oq 0 dp wi fa 0 st of) F), 0)
  exact mm_ret (mm_call_mono _ _) (c := True) (r := .inl (some (.int (-1)))) (M := wP pre (wQ (wNp p q op oq 0 dp wi fa 0 st of) F)) (u := 0) rfl trivial (by decide) hQ

theorem lk0_n {a : Int32} (h0 : ¬ a = 0) (h1 : ¬ a = 1) (h2 : ¬ a = 2) : lk0 a = -1 := by
  unfold lk0
  rw [if_neg]
  rintro (h | h | h)
  · exact h0 h
  · exact h1 h
  · exact h2 h
set_option maxRecDepth 100000 in
theorem ct_M_look0 {d : Nat} {pre : mm_pre} {p q op oq : Nat → Int64} {tr wi fa : Int32} {st of : Nat → Int32} {F : mm_M} {a : Int32} {Q : mm_R → mm_M → Prop} (hQ : Q (.inl (some (.int (lk0 a)))) (wP pre (wQ (wNp p q op oq 0 0 wi fa 0 st of) F))) : mm_call mm_Tb (d + 1) 119 [.ref 10, .int a] (wP pre (wQ (wNp p q op oq tr 0 wi fa 0 st of) F)) Q := by
  refine mm_in mt_119 (Nat.le_of_ble_eq_true rfl) ?_
  show mm_W _ _ _ _ _ _ _ (0, [(0, .ref 10), (1, .int a)], [], wP pre (wQ (wNp p q op oq tr 0 wi fa 0 st of) F), 0)
  refine mm_skip (mm_call_mono _ _) 10 (st' := (14, [(3, .int 0), (2, .int 0), (0, .ref 10), (1, .int a)], [.int 0, .int 0], wP pre (wQ (wNp p q op oq 0 0 wi fa 0 st of) F), 0)) rfl ?_
  refine mm_branch (mm_call_mono _ _) (c := (0 : Int32) ≤ 0) (s1 := (40, [(3, .int 0), (2, .int 0), (0, .ref 10), (1, .int a)], [], wP pre (wQ (wNp p q op oq 0 0 wi fa 0 st of) F), 0)) (s2 := (17, [(3, .int 0), (2, .int 0), (0, .ref 10), (1, .int a)], [], wP pre (wQ (wNp p q op oq 0 0 wi fa 0 st of) F), 0)) rfl (fun _ => ?_) (fun h => absurd (by decide) h)
  refine mm_skip (mm_call_mono _ _) 1 (st' := (41, [(3, .int 0), (2, .int 0), (0, .ref 10), (1, .int a)], [.int a], wP pre (wQ (wNp p q op oq 0 0 wi fa 0 st of) F), 0)) rfl ?_
  refine mm_branch (mm_call_mono _ _) (c := a = 0) (s1 := (44, [(3, .int 0), (2, .int 0), (0, .ref 10), (1, .int a)], [], wP pre (wQ (wNp p q op oq 0 0 wi fa 0 st of) F), 0)) (s2 := (51, [(3, .int 0), (2, .int 0), (0, .ref 10), (1, .int a)], [], wP pre (wQ (wNp p q op oq 0 0 wi fa 0 st of) F), 0)) rfl (fun h1 => ?_) (fun h1 => ?_)
  · skip
    refine mm_skip (mm_call_mono _ _) 3 (st' := (73, [(3, .int 0), (2, .int 0), (0, .ref 10), (1, .int a)], [.int 0], wP pre (wQ (wNp p q op oq 0 0 wi fa 0 st of) F), 0)) rfl ?_
    exact mm_ret (mm_call_mono _ _) (c := True) (r := .inl (some (.int 0))) (M := wP pre (wQ (wNp p q op oq 0 0 wi fa 0 st of) F)) (u := 0) rfl trivial (by decide) (by rw [h1] at hQ; exact hQ)
  · skip
    refine mm_skip (mm_call_mono _ _) 2 (st' := (53, [(3, .int 0), (2, .int 0), (0, .ref 10), (1, .int a)], [.int 1, .int a], wP pre (wQ (wNp p q op oq 0 0 wi fa 0 st of) F), 0)) rfl ?_
    refine mm_branch (mm_call_mono _ _) (c := a = 1) (s1 := (56, [(3, .int 0), (2, .int 0), (0, .ref 10), (1, .int a)], [], wP pre (wQ (wNp p q op oq 0 0 wi fa 0 st of) F), 0)) (s2 := (63, [(3, .int 0), (2, .int 0), (0, .ref 10), (1, .int a)], [], wP pre (wQ (wNp p q op oq 0 0 wi fa 0 st of) F), 0)) rfl (fun h2 => ?_) (fun h2 => ?_)
    · skip
      refine mm_skip (mm_call_mono _ _) 3 (st' := (73, [(3, .int 0), (2, .int 0), (0, .ref 10), (1, .int a)], [.int 0], wP pre (wQ (wNp p q op oq 0 0 wi fa 0 st of) F), 0)) rfl ?_
      exact mm_ret (mm_call_mono _ _) (c := True) (r := .inl (some (.int 0))) (M := wP pre (wQ (wNp p q op oq 0 0 wi fa 0 st of) F)) (u := 0) rfl trivial (by decide) (by rw [h2] at hQ; exact hQ)
    · skip
      refine mm_skip (mm_call_mono _ _) 2 (st' := (65, [(3, .int 0), (2, .int 0), (0, .ref 10), (1, .int a)], [.int 2, .int a], wP pre (wQ (wNp p q op oq 0 0 wi fa 0 st of) F), 0)) rfl ?_
      refine mm_branch (mm_call_mono _ _) (c := a = 2) (s1 := (68, [(3, .int 0), (2, .int 0), (0, .ref 10), (1, .int a)], [], wP pre (wQ (wNp p q op oq 0 0 wi fa 0 st of) F), 0)) (s2 := (72, [(3, .int 0), (2, .int 0), (0, .ref 10), (1, .int a)], [], wP pre (wQ (wNp p q op oq 0 0 wi fa 0 st of) F), 0)) rfl (fun h3 => ?_) (fun h3 => ?_)
      · skip
        refine mm_skip (mm_call_mono _ _) 2 (st' := (73, [(3, .int 0), (2, .int 0), (0, .ref 10), (1, .int a)], [.int 0], wP pre (wQ (wNp p q op oq 0 0 wi fa 0 st of) F), 0)) rfl ?_
        exact mm_ret (mm_call_mono _ _) (c := True) (r := .inl (some (.int 0))) (M := wP pre (wQ (wNp p q op oq 0 0 wi fa 0 st of) F)) (u := 0) rfl trivial (by decide) (by rw [h3] at hQ; exact hQ)
      · skip
        refine mm_skip (mm_call_mono _ _) 1 (st' := (73, [(3, .int 0), (2, .int 0), (0, .ref 10), (1, .int a)], [.int (-1)], wP pre (wQ (wNp p q op oq 0 0 wi fa 0 st of) F), 0)) rfl ?_
        exact mm_ret (mm_call_mono _ _) (c := True) (r := .inl (some (.int (-1)))) (M := wP pre (wQ (wNp p q op oq 0 0 wi fa 0 st of) F)) (u := 0) rfl trivial (by decide) (by rw [lk0_n h1 h2 h3] at hQ; exact hQ)

set_option maxRecDepth 100000 in
theorem ct_M_thrown {d : Nat} {pre : mm_pre} {p q op oq : Nat → Int64} {tr dp wi fa ob : Int32} {st of : Nat → Int32} {F : mm_M} {Q : mm_R → mm_M → Prop} (hQ : Q (.inl (some (.int tr))) (wP pre (wQ (wNp p q op oq tr dp wi fa ob st of) F))) : mm_call mm_Tb (d + 1) 47 [.ref 10] (wP pre (wQ (wNp p q op oq tr dp wi fa ob st of) F)) Q := by
  refine mm_in mt_47 (Nat.le_of_ble_eq_true rfl) ?_
  show mm_W _ _ _ _ _ _ _ (0, [(0, .ref 10)], [], wP pre (wQ (wNp p q op oq tr dp wi fa ob st of) F), 0)
  refine mm_skip (mm_call_mono _ _) 2 (st' := (4, [(0, .ref 10)], [.int tr], wP pre (wQ (wNp p q op oq tr dp wi fa ob st of) F), 0)) rfl ?_
  exact mm_ret (mm_call_mono _ _) (c := True) (r := .inl (some (.int tr))) (M := wP pre (wQ (wNp p q op oq tr dp wi fa ob st of) F)) (u := 0) rfl trivial (by decide) hQ

