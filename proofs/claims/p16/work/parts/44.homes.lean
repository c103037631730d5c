set_option maxRecDepth 100000 in
theorem ct_N_begin {d : Nat} {ov un : Nat → Int32} {nx dp fa : Int32} {cu : mm_cu} {st fi se th db : Nat → Int32} {cn : Int32} {F : mm_M} {Q : mm_R → mm_M → Prop} (hQ : Q (.inl none) (wC ov un 308 dp 0 cu st fi se th db cn F)) : mm_call mm_Tb (d + 1) 122 [.ref 1] (wC ov un nx dp fa cu st fi se th db cn F) Q := by
  refine mm_in mt_122 (Nat.le_of_ble_eq_true rfl) ?_
  show mm_W _ _ _ _ _ _ _ (0, [(0, .ref 1)], [], wC ov un nx dp fa cu st fi se th db cn F, 0)
  refine mm_skip (mm_call_mono _ _) 6 (st' := (10, [(0, .ref 1)], [.int 0, .ref 1], wC ov un 308 dp fa cu st fi se th db cn F, 0)) rfl ?_
  refine mm_need (mm_call_mono _ _) (c := mm_z 0) (s' := (13, [(0, .ref 1)], [], wC ov un 308 dp 0 cu st fi se th db cn F, 0)) rfl (by unfold mm_z; decide) ?_
  exact mm_ret (mm_call_mono _ _) (c := True) (r := .inl none) (M := wC ov un 308 dp 0 cu st fi se th db cn F) (u := 0) rfl trivial (by decide) hQ

set_option maxRecDepth 100000 in
theorem ct_N_copy {d : Nat} {ov un : Nat → Int32} {nx dp fa : Int32} {cu : mm_cu} {st fi se th db : Nat → Int32} {cn : Int32} {F : mm_M} {x y : Nat} {Q : mm_R → mm_M → Prop} (hx : x + 4 ≤ 1332) (hy : y + 4 ≤ 1332) (hQ : Q (.inl none) (wC (va_cpy ov ov x y 4) (va_cpy un un x y 4) nx dp fa cu st fi se th db cn F)) : mm_call mm_Tb (d + 1) 124 [.ref 1, .int (nI x), .int (nI y)] (wC ov un nx dp fa cu st fi se th db cn F) Q := by
  refine mm_in mt_124 (Nat.le_of_ble_eq_true rfl) ?_
  show mm_W _ _ _ _ _ _ _ (0, [(0, .ref 1), (1, .int (nI x)), (2, .int (nI y))], [], wC ov un nx dp fa cu st fi se th db cn F, 0)
  refine mm_skip (mm_call_mono _ _) 7 (st' := (11, [(0, .ref 1), (1, .int (nI x)), (2, .int (nI y))], [.int 4, .int (nI y), .ref 8, .int (nI x), .ref 8], wC ov un nx dp fa cu st fi se th db cn F, 0)) rfl ?_
  refine mm_need (mm_call_mono _ _) (c := ¬ (nI x) < 0 ∧ ¬ (nI y) < 0 ∧ ¬ (4 : Int32) < 0 ∧ (Int32.toNatClampNeg (nI x)) + 4 ≤ 1332 ∧ (Int32.toNatClampNeg (nI y)) + 4 ≤ 1332) (s' := (14, [(0, .ref 1), (1, .int (nI x)), (2, .int (nI y))], [], wC (va_cpy ov ov (Int32.toNatClampNeg (nI x)) (Int32.toNatClampNeg (nI y)) 4) un nx dp fa cu st fi se th db cn F, 0)) rfl (cp_ok4 hx hy) ?_
  rw [nI_clamp (show x < 2 ^ 31 by omega)]
  rw [nI_clamp (show y < 2 ^ 31 by omega)]
  show mm_W _ _ _ _ _ _ _ (14, [(0, .ref 1), (1, .int (nI x)), (2, .int (nI y))], [], wC (va_cpy ov ov x y 4) un nx dp fa cu st fi se th db cn F, 0)
  refine mm_skip (mm_call_mono _ _) 7 (st' := (25, [(0, .ref 1), (1, .int (nI x)), (2, .int (nI y))], [.int 4, .int (nI y), .ref 9, .int (nI x), .ref 9], wC (va_cpy ov ov x y 4) un nx dp fa cu st fi se th db cn F, 0)) rfl ?_
  refine mm_need (mm_call_mono _ _) (c := ¬ (nI x) < 0 ∧ ¬ (nI y) < 0 ∧ ¬ (4 : Int32) < 0 ∧ (Int32.toNatClampNeg (nI x)) + 4 ≤ 1332 ∧ (Int32.toNatClampNeg (nI y)) + 4 ≤ 1332) (s' := (28, [(0, .ref 1), (1, .int (nI x)), (2, .int (nI y))], [], wC (va_cpy ov ov x y 4) (va_cpy un un (Int32.toNatClampNeg (nI x)) (Int32.toNatClampNeg (nI y)) 4) nx dp fa cu st fi se th db cn F, 0)) rfl (cp_ok4 hx hy) ?_
  rw [nI_clamp (show x < 2 ^ 31 by omega)]
  rw [nI_clamp (show y < 2 ^ 31 by omega)]
  show mm_W _ _ _ _ _ _ _ (28, [(0, .ref 1), (1, .int (nI x)), (2, .int (nI y))], [], wC (va_cpy ov ov x y 4) (va_cpy un un x y 4) nx dp fa cu st fi se th db cn F, 0)
  exact mm_ret (mm_call_mono _ _) (c := True) (r := .inl none) (M := wC (va_cpy ov ov x y 4) (va_cpy un un x y 4) nx dp fa cu st fi se th db cn F) (u := 0) rfl trivial (by decide) hQ

/-- two numbers whose cells are the same -/
abbrev alk (ov un : Nat → Int32) (x y : Nat) : Prop := ∀ j, j < 4 → ov (x + j) = ov (y + j) ∧ un (x + j) = un (y + j)
theorem alk_o {ov un : Nat → Int32} {x y j : Nat} (hj : j < 4) (h : ¬ ov (x + j) = ov (y + j)) : ¬ alk ov un x y := fun z => h (z j hj).1
theorem alk_u {ov un : Nat → Int32} {x y j : Nat} (hj : j < 4) (h : ¬ un (x + j) = un (y + j)) : ¬ alk ov un x y := fun z => h (z j hj).2
set_option maxRecDepth 100000 in
theorem ct_N_alike {d : Nat} {ov un : Nat → Int32} {nx dp fa : Int32} {cu : mm_cu} {st fi se th db : Nat → Int32} {cn : Int32} {F : mm_M} {x y : Nat} {Q : mm_R → mm_M → Prop} (hx : x + 4 ≤ 1332) (hy : y + 4 ≤ 1332) (hQ : Q (.inl (some (.int (bz (alk ov un x y))))) (wC ov un nx dp fa cu st fi se th db cn F)) : mm_call mm_Tb (d + 1) 125 [.ref 1, .int (nI x), .int (nI y)] (wC ov un nx dp fa cu st fi se th db cn F) Q := by
  refine mm_in mt_125 (Nat.le_of_ble_eq_true rfl) ?_
  show mm_W _ _ _ _ _ _ _ (0, [(0, .ref 1), (1, .int (nI x)), (2, .int (nI y))], [], wC ov un nx dp fa cu st fi se th db cn F, 0)
  refine mm_skip (mm_call_mono _ _) 4 (st' := (4, [(3, .int 0), (0, .ref 1), (1, .int (nI x)), (2, .int (nI y))], [.int 4, .int 0], wC ov un nx dp fa cu st fi se th db cn F, 0)) rfl ?_
  refine mm_branch (mm_call_mono _ _) (c := (4 : Int32) ≤ 0) (s1 := (53, [(3, .int 0), (0, .ref 1), (1, .int (nI x)), (2, .int (nI y))], [], wC ov un nx dp fa cu st fi se th db cn F, 0)) (s2 := (7, [(3, .int 0), (0, .ref 1), (1, .int (nI x)), (2, .int (nI y))], [], wC ov un nx dp fa cu st fi se th db cn F, 0)) rfl (fun h => absurd h (by decide)) (fun _ => ?_)
  refine mm_skip (mm_call_mono _ _) 5 (st' := (14, [(3, .int 0), (0, .ref 1), (1, .int (nI x)), (2, .int (nI y))], [.int ((nI x) + 0), .ref 8], wC ov un nx dp fa cu st fi se th db cn F, 0)) rfl ?_
  rw [nI_p0 (x)]
  show mm_W _ _ _ _ _ _ _ (14, [(3, .int 0), (0, .ref 1), (1, .int (nI x)), (2, .int (nI y))], [.int (nI x), .ref 8], wC ov un nx dp fa cu st fi se th db cn F, 0)
  refine mm_need (mm_call_mono _ _) (c := vp_in (nI x) 1332) (s' := (15, [(3, .int 0), (0, .ref 1), (1, .int (nI x)), (2, .int (nI y))], [.int (ov (Int32.toNatClampNeg (nI x)))], wC ov un nx dp fa cu st fi se th db cn F, 0)) rfl (vp_in_nI (show x < 1332 by omega) (by decide)) ?_
  rw [nI_clamp (show x < 2 ^ 31 by omega)]
  show mm_W _ _ _ _ _ _ _ (15, [(3, .int 0), (0, .ref 1), (1, .int (nI x)), (2, .int (nI y))], [.int (ov x)], wC ov un nx dp fa cu st fi se th db cn F, 0)
  refine mm_skip (mm_call_mono _ _) 5 (st' := (22, [(3, .int 0), (0, .ref 1), (1, .int (nI x)), (2, .int (nI y))], [.int ((nI y) + 0), .ref 8, .int (ov x)], wC ov un nx dp fa cu st fi se th db cn F, 0)) rfl ?_
  rw [nI_p0 (y)]
  show mm_W _ _ _ _ _ _ _ (22, [(3, .int 0), (0, .ref 1), (1, .int (nI x)), (2, .int (nI y))], [.int (nI y), .ref 8, .int (ov x)], wC ov un nx dp fa cu st fi se th db cn F, 0)
  refine mm_need (mm_call_mono _ _) (c := vp_in (nI y) 1332) (s' := (23, [(3, .int 0), (0, .ref 1), (1, .int (nI x)), (2, .int (nI y))], [.int (ov (Int32.toNatClampNeg (nI y))), .int (ov x)], wC ov un nx dp fa cu st fi se th db cn F, 0)) rfl (vp_in_nI (show y < 1332 by omega) (by decide)) ?_
  rw [nI_clamp (show y < 2 ^ 31 by omega)]
  show mm_W _ _ _ _ _ _ _ (23, [(3, .int 0), (0, .ref 1), (1, .int (nI x)), (2, .int (nI y))], [.int (ov y), .int (ov x)], wC ov un nx dp fa cu st fi se th db cn F, 0)
  refine mm_branch (mm_call_mono _ _) (c := (ov x) = (ov y)) (s1 := (26, [(3, .int 0), (0, .ref 1), (1, .int (nI x)), (2, .int (nI y))], [], wC ov un nx dp fa cu st fi se th db cn F, 0)) (s2 := (45, [(3, .int 0), (0, .ref 1), (1, .int (nI x)), (2, .int (nI y))], [], wC ov un nx dp fa cu st fi se th db cn F, 0)) rfl (fun o0 => ?_) (fun o0 => ?_)
  · skip
    refine mm_skip (mm_call_mono _ _) 5 (st' := (33, [(3, .int 0), (0, .ref 1), (1, .int (nI x)), (2, .int (nI y))], [.int ((nI x) + 0), .ref 9], wC ov un nx dp fa cu st fi se th db cn F, 0)) rfl ?_
    rw [nI_p0 (x)]
    show mm_W _ _ _ _ _ _ _ (33, [(3, .int 0), (0, .ref 1), (1, .int (nI x)), (2, .int (nI y))], [.int (nI x), .ref 9], wC ov un nx dp fa cu st fi se th db cn F, 0)
    refine mm_need (mm_call_mono _ _) (c := vp_in (nI x) 1332) (s' := (34, [(3, .int 0), (0, .ref 1), (1, .int (nI x)), (2, .int (nI y))], [.int (un (Int32.toNatClampNeg (nI x)))], wC ov un nx dp fa cu st fi se th db cn F, 0)) rfl (vp_in_nI (show x < 1332 by omega) (by decide)) ?_
    rw [nI_clamp (show x < 2 ^ 31 by omega)]
    show mm_W _ _ _ _ _ _ _ (34, [(3, .int 0), (0, .ref 1), (1, .int (nI x)), (2, .int (nI y))], [.int (un x)], wC ov un nx dp fa cu st fi se th db cn F, 0)
    refine mm_skip (mm_call_mono _ _) 5 (st' := (41, [(3, .int 0), (0, .ref 1), (1, .int (nI x)), (2, .int (nI y))], [.int ((nI y) + 0), .ref 9, .int (un x)], wC ov un nx dp fa cu st fi se th db cn F, 0)) rfl ?_
    rw [nI_p0 (y)]
    show mm_W _ _ _ _ _ _ _ (41, [(3, .int 0), (0, .ref 1), (1, .int (nI x)), (2, .int (nI y))], [.int (nI y), .ref 9, .int (un x)], wC ov un nx dp fa cu st fi se th db cn F, 0)
    refine mm_need (mm_call_mono _ _) (c := vp_in (nI y) 1332) (s' := (42, [(3, .int 0), (0, .ref 1), (1, .int (nI x)), (2, .int (nI y))], [.int (un (Int32.toNatClampNeg (nI y))), .int (un x)], wC ov un nx dp fa cu st fi se th db cn F, 0)) rfl (vp_in_nI (show y < 1332 by omega) (by decide)) ?_
    rw [nI_clamp (show y < 2 ^ 31 by omega)]
    show mm_W _ _ _ _ _ _ _ (42, [(3, .int 0), (0, .ref 1), (1, .int (nI x)), (2, .int (nI y))], [.int (un y), .int (un x)], wC ov un nx dp fa cu st fi se th db cn F, 0)
    refine mm_branch (mm_call_mono _ _) (c := (un x) = (un y)) (s1 := (47, [(3, .int 0), (0, .ref 1), (1, .int (nI x)), (2, .int (nI y))], [], wC ov un nx dp fa cu st fi se th db cn F, 0)) (s2 := (45, [(3, .int 0), (0, .ref 1), (1, .int (nI x)), (2, .int (nI y))], [], wC ov un nx dp fa cu st fi se th db cn F, 0)) rfl (fun u0 => ?_) (fun u0 => ?_)
    · skip
      refine mm_skip (mm_call_mono _ _) 4 (st' := (4, [(3, .int 1), (0, .ref 1), (1, .int (nI x)), (2, .int (nI y))], [.int 4, .int 1], wC ov un nx dp fa cu st fi se th db cn F, 0)) rfl ?_
      refine mm_branch (mm_call_mono _ _) (c := (4 : Int32) ≤ 1) (s1 := (53, [(3, .int 1), (0, .ref 1), (1, .int (nI x)), (2, .int (nI y))], [], wC ov un nx dp fa cu st fi se th db cn F, 0)) (s2 := (7, [(3, .int 1), (0, .ref 1), (1, .int (nI x)), (2, .int (nI y))], [], wC ov un nx dp fa cu st fi se th db cn F, 0)) rfl (fun h => absurd h (by decide)) (fun _ => ?_)
      refine mm_skip (mm_call_mono _ _) 5 (st' := (14, [(3, .int 1), (0, .ref 1), (1, .int (nI x)), (2, .int (nI y))], [.int ((nI x) + 1), .ref 8], wC ov un nx dp fa cu st fi se th db cn F, 0)) rfl ?_
      rw [nI_p1 (x)]
      show mm_W _ _ _ _ _ _ _ (14, [(3, .int 1), (0, .ref 1), (1, .int (nI x)), (2, .int (nI y))], [.int (nI (x + 1)), .ref 8], wC ov un nx dp fa cu st fi se th db cn F, 0)
      refine mm_need (mm_call_mono _ _) (c := vp_in (nI (x + 1)) 1332) (s' := (15, [(3, .int 1), (0, .ref 1), (1, .int (nI x)), (2, .int (nI y))], [.int (ov (Int32.toNatClampNeg (nI (x + 1))))], wC ov un nx dp fa cu st fi se th db cn F, 0)) rfl (vp_in_nI (show (x + 1) < 1332 by omega) (by decide)) ?_
      rw [nI_clamp (show (x + 1) < 2 ^ 31 by omega)]
      show mm_W _ _ _ _ _ _ _ (15, [(3, .int 1), (0, .ref 1), (1, .int (nI x)), (2, .int (nI y))], [.int (ov (x + 1))], wC ov un nx dp fa cu st fi se th db cn F, 0)
      refine mm_skip (mm_call_mono _ _) 5 (st' := (22, [(3, .int 1), (0, .ref 1), (1, .int (nI x)), (2, .int (nI y))], [.int ((nI y) + 1), .ref 8, .int (ov (x + 1))], wC ov un nx dp fa cu st fi se th db cn F, 0)) rfl ?_
      rw [nI_p1 (y)]
      show mm_W _ _ _ _ _ _ _ (22, [(3, .int 1), (0, .ref 1), (1, .int (nI x)), (2, .int (nI y))], [.int (nI (y + 1)), .ref 8, .int (ov (x + 1))], wC ov un nx dp fa cu st fi se th db cn F, 0)
      refine mm_need (mm_call_mono _ _) (c := vp_in (nI (y + 1)) 1332) (s' := (23, [(3, .int 1), (0, .ref 1), (1, .int (nI x)), (2, .int (nI y))], [.int (ov (Int32.toNatClampNeg (nI (y + 1)))), .int (ov (x + 1))], wC ov un nx dp fa cu st fi se th db cn F, 0)) rfl (vp_in_nI (show (y + 1) < 1332 by omega) (by decide)) ?_
      rw [nI_clamp (show (y + 1) < 2 ^ 31 by omega)]
      show mm_W _ _ _ _ _ _ _ (23, [(3, .int 1), (0, .ref 1), (1, .int (nI x)), (2, .int (nI y))], [.int (ov (y + 1)), .int (ov (x + 1))], wC ov un nx dp fa cu st fi se th db cn F, 0)
      refine mm_branch (mm_call_mono _ _) (c := (ov (x + 1)) = (ov (y + 1))) (s1 := (26, [(3, .int 1), (0, .ref 1), (1, .int (nI x)), (2, .int (nI y))], [], wC ov un nx dp fa cu st fi se th db cn F, 0)) (s2 := (45, [(3, .int 1), (0, .ref 1), (1, .int (nI x)), (2, .int (nI y))], [], wC ov un nx dp fa cu st fi se th db cn F, 0)) rfl (fun o1 => ?_) (fun o1 => ?_)
      · skip
        refine mm_skip (mm_call_mono _ _) 5 (st' := (33, [(3, .int 1), (0, .ref 1), (1, .int (nI x)), (2, .int (nI y))], [.int ((nI x) + 1), .ref 9], wC ov un nx dp fa cu st fi se th db cn F, 0)) rfl ?_
        rw [nI_p1 (x)]
        show mm_W _ _ _ _ _ _ _ (33, [(3, .int 1), (0, .ref 1), (1, .int (nI x)), (2, .int (nI y))], [.int (nI (x + 1)), .ref 9], wC ov un nx dp fa cu st fi se th db cn F, 0)
        refine mm_need (mm_call_mono _ _) (c := vp_in (nI (x + 1)) 1332) (s' := (34, [(3, .int 1), (0, .ref 1), (1, .int (nI x)), (2, .int (nI y))], [.int (un (Int32.toNatClampNeg (nI (x + 1))))], wC ov un nx dp fa cu st fi se th db cn F, 0)) rfl (vp_in_nI (show (x + 1) < 1332 by omega) (by decide)) ?_
        rw [nI_clamp (show (x + 1) < 2 ^ 31 by omega)]
        show mm_W _ _ _ _ _ _ _ (34, [(3, .int 1), (0, .ref 1), (1, .int (nI x)), (2, .int (nI y))], [.int (un (x + 1))], wC ov un nx dp fa cu st fi se th db cn F, 0)
        refine mm_skip (mm_call_mono _ _) 5 (st' := (41, [(3, .int 1), (0, .ref 1), (1, .int (nI x)), (2, .int (nI y))], [.int ((nI y) + 1), .ref 9, .int (un (x + 1))], wC ov un nx dp fa cu st fi se th db cn F, 0)) rfl ?_
        rw [nI_p1 (y)]
        show mm_W _ _ _ _ _ _ _ (41, [(3, .int 1), (0, .ref 1), (1, .int (nI x)), (2, .int (nI y))], [.int (nI (y + 1)), .ref 9, .int (un (x + 1))], wC ov un nx dp fa cu st fi se th db cn F, 0)
        refine mm_need (mm_call_mono _ _) (c := vp_in (nI (y + 1)) 1332) (s' := (42, [(3, .int 1), (0, .ref 1), (1, .int (nI x)), (2, .int (nI y))], [.int (un (Int32.toNatClampNeg (nI (y + 1)))), .int (un (x + 1))], wC ov un nx dp fa cu st fi se th db cn F, 0)) rfl (vp_in_nI (show (y + 1) < 1332 by omega) (by decide)) ?_
        rw [nI_clamp (show (y + 1) < 2 ^ 31 by omega)]
        show mm_W _ _ _ _ _ _ _ (42, [(3, .int 1), (0, .ref 1), (1, .int (nI x)), (2, .int (nI y))], [.int (un (y + 1)), .int (un (x + 1))], wC ov un nx dp fa cu st fi se th db cn F, 0)
        refine mm_branch (mm_call_mono _ _) (c := (un (x + 1)) = (un (y + 1))) (s1 := (47, [(3, .int 1), (0, .ref 1), (1, .int (nI x)), (2, .int (nI y))], [], wC ov un nx dp fa cu st fi se th db cn F, 0)) (s2 := (45, [(3, .int 1), (0, .ref 1), (1, .int (nI x)), (2, .int (nI y))], [], wC ov un nx dp fa cu st fi se th db cn F, 0)) rfl (fun u1 => ?_) (fun u1 => ?_)
        · skip
          refine mm_skip (mm_call_mono _ _) 4 (st' := (4, [(3, .int 2), (0, .ref 1), (1, .int (nI x)), (2, .int (nI y))], [.int 4, .int 2], wC ov un nx dp fa cu st fi se th db cn F, 0)) rfl ?_
          refine mm_branch (mm_call_mono _ _) (c := (4 : Int32) ≤ 2) (s1 := (53, [(3, .int 2), (0, .ref 1), (1, .int (nI x)), (2, .int (nI y))], [], wC ov un nx dp fa cu st fi se th db cn F, 0)) (s2 := (7, [(3, .int 2), (0, .ref 1), (1, .int (nI x)), (2, .int (nI y))], [], wC ov un nx dp fa cu st fi se th db cn F, 0)) rfl (fun h => absurd h (by decide)) (fun _ => ?_)
          refine mm_skip (mm_call_mono _ _) 5 (st' := (14, [(3, .int 2), (0, .ref 1), (1, .int (nI x)), (2, .int (nI y))], [.int ((nI x) + 2), .ref 8], wC ov un nx dp fa cu st fi se th db cn F, 0)) rfl ?_
          rw [nI_p2 (x)]
          show mm_W _ _ _ _ _ _ _ (14, [(3, .int 2), (0, .ref 1), (1, .int (nI x)), (2, .int (nI y))], [.int (nI (x + 2)), .ref 8], wC ov un nx dp fa cu st fi se th db cn F, 0)
          refine mm_need (mm_call_mono _ _) (c := vp_in (nI (x + 2)) 1332) (s' := (15, [(3, .int 2), (0, .ref 1), (1, .int (nI x)), (2, .int (nI y))], [.int (ov (Int32.toNatClampNeg (nI (x + 2))))], wC ov un nx dp fa cu st fi se th db cn F, 0)) rfl (vp_in_nI (show (x + 2) < 1332 by omega) (by decide)) ?_
          rw [nI_clamp (show (x + 2) < 2 ^ 31 by omega)]
          show mm_W _ _ _ _ _ _ _ (15, [(3, .int 2), (0, .ref 1), (1, .int (nI x)), (2, .int (nI y))], [.int (ov (x + 2))], wC ov un nx dp fa cu st fi se th db cn F, 0)
          refine mm_skip (mm_call_mono _ _) 5 (st' := (22, [(3, .int 2), (0, .ref 1), (1, .int (nI x)), (2, .int (nI y))], [.int ((nI y) + 2), .ref 8, .int (ov (x + 2))], wC ov un nx dp fa cu st fi se th db cn F, 0)) rfl ?_
          rw [nI_p2 (y)]
          show mm_W _ _ _ _ _ _ _ (22, [(3, .int 2), (0, .ref 1), (1, .int (nI x)), (2, .int (nI y))], [.int (nI (y + 2)), .ref 8, .int (ov (x + 2))], wC ov un nx dp fa cu st fi se th db cn F, 0)
          refine mm_need (mm_call_mono _ _) (c := vp_in (nI (y + 2)) 1332) (s' := (23, [(3, .int 2), (0, .ref 1), (1, .int (nI x)), (2, .int (nI y))], [.int (ov (Int32.toNatClampNeg (nI (y + 2)))), .int (ov (x + 2))], wC ov un nx dp fa cu st fi se th db cn F, 0)) rfl (vp_in_nI (show (y + 2) < 1332 by omega) (by decide)) ?_
          rw [nI_clamp (show (y + 2) < 2 ^ 31 by omega)]
          show mm_W _ _ _ _ _ _ _ (23, [(3, .int 2), (0, .ref 1), (1, .int (nI x)), (2, .int (nI y))], [.int (ov (y + 2)), .int (ov (x + 2))], wC ov un nx dp fa cu st fi se th db cn F, 0)
          refine mm_branch (mm_call_mono _ _) (c := (ov (x + 2)) = (ov (y + 2))) (s1 := (26, [(3, .int 2), (0, .ref 1), (1, .int (nI x)), (2, .int (nI y))], [], wC ov un nx dp fa cu st fi se th db cn F, 0)) (s2 := (45, [(3, .int 2), (0, .ref 1), (1, .int (nI x)), (2, .int (nI y))], [], wC ov un nx dp fa cu st fi se th db cn F, 0)) rfl (fun o2 => ?_) (fun o2 => ?_)
          · skip
            refine mm_skip (mm_call_mono _ _) 5 (st' := (33, [(3, .int 2), (0, .ref 1), (1, .int (nI x)), (2, .int (nI y))], [.int ((nI x) + 2), .ref 9], wC ov un nx dp fa cu st fi se th db cn F, 0)) rfl ?_
            rw [nI_p2 (x)]
            show mm_W _ _ _ _ _ _ _ (33, [(3, .int 2), (0, .ref 1), (1, .int (nI x)), (2, .int (nI y))], [.int (nI (x + 2)), .ref 9], wC ov un nx dp fa cu st fi se th db cn F, 0)
            refine mm_need (mm_call_mono _ _) (c := vp_in (nI (x + 2)) 1332) (s' := (34, [(3, .int 2), (0, .ref 1), (1, .int (nI x)), (2, .int (nI y))], [.int (un (Int32.toNatClampNeg (nI (x + 2))))], wC ov un nx dp fa cu st fi se th db cn F, 0)) rfl (vp_in_nI (show (x + 2) < 1332 by omega) (by decide)) ?_
            rw [nI_clamp (show (x + 2) < 2 ^ 31 by omega)]
            show mm_W _ _ _ _ _ _ _ (34, [(3, .int 2), (0, .ref 1), (1, .int (nI x)), (2, .int (nI y))], [.int (un (x + 2))], wC ov un nx dp fa cu st fi se th db cn F, 0)
            refine mm_skip (mm_call_mono _ _) 5 (st' := (41, [(3, .int 2), (0, .ref 1), (1, .int (nI x)), (2, .int (nI y))], [.int ((nI y) + 2), .ref 9, .int (un (x + 2))], wC ov un nx dp fa cu st fi se th db cn F, 0)) rfl ?_
            rw [nI_p2 (y)]
            show mm_W _ _ _ _ _ _ _ (41, [(3, .int 2), (0, .ref 1), (1, .int (nI x)), (2, .int (nI y))], [.int (nI (y + 2)), .ref 9, .int (un (x + 2))], wC ov un nx dp fa cu st fi se th db cn F, 0)
            refine mm_need (mm_call_mono _ _) (c := vp_in (nI (y + 2)) 1332) (s' := (42, [(3, .int 2), (0, .ref 1), (1, .int (nI x)), (2, .int (nI y))], [.int (un (Int32.toNatClampNeg (nI (y + 2)))), .int (un (x + 2))], wC ov un nx dp fa cu st fi se th db cn F, 0)) rfl (vp_in_nI (show (y + 2) < 1332 by omega) (by decide)) ?_
            rw [nI_clamp (show (y + 2) < 2 ^ 31 by omega)]
            show mm_W _ _ _ _ _ _ _ (42, [(3, .int 2), (0, .ref 1), (1, .int (nI x)), (2, .int (nI y))], [.int (un (y + 2)), .int (un (x + 2))], wC ov un nx dp fa cu st fi se th db cn F, 0)
            refine mm_branch (mm_call_mono _ _) (c := (un (x + 2)) = (un (y + 2))) (s1 := (47, [(3, .int 2), (0, .ref 1), (1, .int (nI x)), (2, .int (nI y))], [], wC ov un nx dp fa cu st fi se th db cn F, 0)) (s2 := (45, [(3, .int 2), (0, .ref 1), (1, .int (nI x)), (2, .int (nI y))], [], wC ov un nx dp fa cu st fi se th db cn F, 0)) rfl (fun u2 => ?_) (fun u2 => ?_)
            · skip
              refine mm_skip (mm_call_mono _ _) 4 (st' := (4, [(3, .int 3), (0, .ref 1), (1, .int (nI x)), (2, .int (nI y))], [.int 4, .int 3], wC ov un nx dp fa cu st fi se th db cn F, 0)) rfl ?_
              refine mm_branch (mm_call_mono _ _) (c := (4 : Int32) ≤ 3) (s1 := (53, [(3, .int 3), (0, .ref 1), (1, .int (nI x)), (2, .int (nI y))], [], wC ov un nx dp fa cu st fi se th db cn F, 0)) (s2 := (7, [(3, .int 3), (0, .ref 1), (1, .int (nI x)), (2, .int (nI y))], [], wC ov un nx dp fa cu st fi se th db cn F, 0)) rfl (fun h => absurd h (by decide)) (fun _ => ?_)
              refine mm_skip (mm_call_mono _ _) 5 (st' := (14, [(3, .int 3), (0, .ref 1), (1, .int (nI x)), (2, .int (nI y))], [.int ((nI x) + 3), .ref 8], wC ov un nx dp fa cu st fi se th db cn F, 0)) rfl ?_
              rw [nI_p3 (x)]
              show mm_W _ _ _ _ _ _ _ (14, [(3, .int 3), (0, .ref 1), (1, .int (nI x)), (2, .int (nI y))], [.int (nI (x + 3)), .ref 8], wC ov un nx dp fa cu st fi se th db cn F, 0)
              refine mm_need (mm_call_mono _ _) (c := vp_in (nI (x + 3)) 1332) (s' := (15, [(3, .int 3), (0, .ref 1), (1, .int (nI x)), (2, .int (nI y))], [.int (ov (Int32.toNatClampNeg (nI (x + 3))))], wC ov un nx dp fa cu st fi se th db cn F, 0)) rfl (vp_in_nI (show (x + 3) < 1332 by omega) (by decide)) ?_
              rw [nI_clamp (show (x + 3) < 2 ^ 31 by omega)]
              show mm_W _ _ _ _ _ _ _ (15, [(3, .int 3), (0, .ref 1), (1, .int (nI x)), (2, .int (nI y))], [.int (ov (x + 3))], wC ov un nx dp fa cu st fi se th db cn F, 0)
              refine mm_skip (mm_call_mono _ _) 5 (st' := (22, [(3, .int 3), (0, .ref 1), (1, .int (nI x)), (2, .int (nI y))], [.int ((nI y) + 3), .ref 8, .int (ov (x + 3))], wC ov un nx dp fa cu st fi se th db cn F, 0)) rfl ?_
              rw [nI_p3 (y)]
              show mm_W _ _ _ _ _ _ _ (22, [(3, .int 3), (0, .ref 1), (1, .int (nI x)), (2, .int (nI y))], [.int (nI (y + 3)), .ref 8, .int (ov (x + 3))], wC ov un nx dp fa cu st fi se th db cn F, 0)
              refine mm_need (mm_call_mono _ _) (c := vp_in (nI (y + 3)) 1332) (s' := (23, [(3, .int 3), (0, .ref 1), (1, .int (nI x)), (2, .int (nI y))], [.int (ov (Int32.toNatClampNeg (nI (y + 3)))), .int (ov (x + 3))], wC ov un nx dp fa cu st fi se th db cn F, 0)) rfl (vp_in_nI (show (y + 3) < 1332 by omega) (by decide)) ?_
              rw [nI_clamp (show (y + 3) < 2 ^ 31 by omega)]
              show mm_W _ _ _ _ _ _ _ (23, [(3, .int 3), (0, .ref 1), (1, .int (nI x)), (2, .int (nI y))], [.int (ov (y + 3)), .int (ov (x + 3))], wC ov un nx dp fa cu st fi se th db cn F, 0)
              refine mm_branch (mm_call_mono _ _) (c := (ov (x + 3)) = (ov (y + 3))) (s1 := (26, [(3, .int 3), (0, .ref 1), (1, .int (nI x)), (2, .int (nI y))], [], wC ov un nx dp fa cu st fi se th db cn F, 0)) (s2 := (45, [(3, .int 3), (0, .ref 1), (1, .int (nI x)), (2, .int (nI y))], [], wC ov un nx dp fa cu st fi se th db cn F, 0)) rfl (fun o3 => ?_) (fun o3 => ?_)
              · skip
                refine mm_skip (mm_call_mono _ _) 5 (st' := (33, [(3, .int 3), (0, .ref 1), (1, .int (nI x)), (2, .int (nI y))], [.int ((nI x) + 3), .ref 9], wC ov un nx dp fa cu st fi se th db cn F, 0)) rfl ?_
                rw [nI_p3 (x)]
                show mm_W _ _ _ _ _ _ _ (33, [(3, .int 3), (0, .ref 1), (1, .int (nI x)), (2, .int (nI y))], [.int (nI (x + 3)), .ref 9], wC ov un nx dp fa cu st fi se th db cn F, 0)
                refine mm_need (mm_call_mono _ _) (c := vp_in (nI (x + 3)) 1332) (s' := (34, [(3, .int 3), (0, .ref 1), (1, .int (nI x)), (2, .int (nI y))], [.int (un (Int32.toNatClampNeg (nI (x + 3))))], wC ov un nx dp fa cu st fi se th db cn F, 0)) rfl (vp_in_nI (show (x + 3) < 1332 by omega) (by decide)) ?_
                rw [nI_clamp (show (x + 3) < 2 ^ 31 by omega)]
                show mm_W _ _ _ _ _ _ _ (34, [(3, .int 3), (0, .ref 1), (1, .int (nI x)), (2, .int (nI y))], [.int (un (x + 3))], wC ov un nx dp fa cu st fi se th db cn F, 0)
                refine mm_skip (mm_call_mono _ _) 5 (st' := (41, [(3, .int 3), (0, .ref 1), (1, .int (nI x)), (2, .int (nI y))], [.int ((nI y) + 3), .ref 9, .int (un (x + 3))], wC ov un nx dp fa cu st fi se th db cn F, 0)) rfl ?_
                rw [nI_p3 (y)]
                show mm_W _ _ _ _ _ _ _ (41, [(3, .int 3), (0, .ref 1), (1, .int (nI x)), (2, .int (nI y))], [.int (nI (y + 3)), .ref 9, .int (un (x + 3))], wC ov un nx dp fa cu st fi se th db cn F, 0)
                refine mm_need (mm_call_mono _ _) (c := vp_in (nI (y + 3)) 1332) (s' := (42, [(3, .int 3), (0, .ref 1), (1, .int (nI x)), (2, .int (nI y))], [.int (un (Int32.toNatClampNeg (nI (y + 3)))), .int (un (x + 3))], wC ov un nx dp fa cu st fi se th db cn F, 0)) rfl (vp_in_nI (show (y + 3) < 1332 by omega) (by decide)) ?_
                rw [nI_clamp (show (y + 3) < 2 ^ 31 by omega)]
                show mm_W _ _ _ _ _ _ _ (42, [(3, .int 3), (0, .ref 1), (1, .int (nI x)), (2, .int (nI y))], [.int (un (y + 3)), .int (un (x + 3))], wC ov un nx dp fa cu st fi se th db cn F, 0)
                refine mm_branch (mm_call_mono _ _) (c := (un (x + 3)) = (un (y + 3))) (s1 := (47, [(3, .int 3), (0, .ref 1), (1, .int (nI x)), (2, .int (nI y))], [], wC ov un nx dp fa cu st fi se th db cn F, 0)) (s2 := (45, [(3, .int 3), (0, .ref 1), (1, .int (nI x)), (2, .int (nI y))], [], wC ov un nx dp fa cu st fi se th db cn F, 0)) rfl (fun u3 => ?_) (fun u3 => ?_)
                · skip
                  refine mm_skip (mm_call_mono _ _) 4 (st' := (4, [(3, .int 4), (0, .ref 1), (1, .int (nI x)), (2, .int (nI y))], [.int 4, .int 4], wC ov un nx dp fa cu st fi se th db cn F, 0)) rfl ?_
                  refine mm_branch (mm_call_mono _ _) (c := (4 : Int32) ≤ 4) (s1 := (53, [(3, .int 4), (0, .ref 1), (1, .int (nI x)), (2, .int (nI y))], [], wC ov un nx dp fa cu st fi se th db cn F, 0)) (s2 := (7, [(3, .int 4), (0, .ref 1), (1, .int (nI x)), (2, .int (nI y))], [], wC ov un nx dp fa cu st fi se th db cn F, 0)) rfl (fun _ => ?_) (fun h => absurd (by decide) h)
                  refine mm_skip (mm_call_mono _ _) 1 (st' := (54, [(3, .int 4), (0, .ref 1), (1, .int (nI x)), (2, .int (nI y))], [.int 1], wC ov un nx dp fa cu st fi se th db cn F, 0)) rfl ?_
                  exact mm_ret (mm_call_mono _ _) (c := mm_z 1) (r := .inl (some (.int 1))) (M := wC ov un nx dp fa cu st fi se th db cn F) (u := 0) rfl (by unfold mm_z; decide) (by decide) (by rw [bz_t (show alk ov un x y from fun j hj => by rcases (show j = 0 ∨ j = 1 ∨ j = 2 ∨ j = 3 by omega) with rfl | rfl | rfl | rfl <;> exact ⟨by assumption, by assumption⟩)] at hQ; exact hQ)
                · skip
                  refine mm_skip (mm_call_mono _ _) 1 (st' := (46, [(3, .int 3), (0, .ref 1), (1, .int (nI x)), (2, .int (nI y))], [.int 0], wC ov un nx dp fa cu st fi se th db cn F, 0)) rfl ?_
                  exact mm_ret (mm_call_mono _ _) (c := mm_z 0) (r := .inl (some (.int 0))) (M := wC ov un nx dp fa cu st fi se th db cn F) (u := 0) rfl (by unfold mm_z; decide) (by decide) (by rw [bz_f (alk_u (j := 3) (by omega) u3)] at hQ; exact hQ)
              · skip
                refine mm_skip (mm_call_mono _ _) 1 (st' := (46, [(3, .int 3), (0, .ref 1), (1, .int (nI x)), (2, .int (nI y))], [.int 0], wC ov un nx dp fa cu st fi se th db cn F, 0)) rfl ?_
                exact mm_ret (mm_call_mono _ _) (c := mm_z 0) (r := .inl (some (.int 0))) (M := wC ov un nx dp fa cu st fi se th db cn F) (u := 0) rfl (by unfold mm_z; decide) (by decide) (by rw [bz_f (alk_o (j := 3) (by omega) o3)] at hQ; exact hQ)
            · skip
              refine mm_skip (mm_call_mono _ _) 1 (st' := (46, [(3, .int 2), (0, .ref 1), (1, .int (nI x)), (2, .int (nI y))], [.int 0], wC ov un nx dp fa cu st fi se th db cn F, 0)) rfl ?_
              exact mm_ret (mm_call_mono _ _) (c := mm_z 0) (r := .inl (some (.int 0))) (M := wC ov un nx dp fa cu st fi se th db cn F) (u := 0) rfl (by unfold mm_z; decide) (by decide) (by rw [bz_f (alk_u (j := 2) (by omega) u2)] at hQ; exact hQ)
          · skip
            refine mm_skip (mm_call_mono _ _) 1 (st' := (46, [(3, .int 2), (0, .ref 1), (1, .int (nI x)), (2, .int (nI y))], [.int 0], wC ov un nx dp fa cu st fi se th db cn F, 0)) rfl ?_
            exact mm_ret (mm_call_mono _ _) (c := mm_z 0) (r := .inl (some (.int 0))) (M := wC ov un nx dp fa cu st fi se th db cn F) (u := 0) rfl (by unfold mm_z; decide) (by decide) (by rw [bz_f (alk_o (j := 2) (by omega) o2)] at hQ; exact hQ)
        · skip
          refine mm_skip (mm_call_mono _ _) 1 (st' := (46, [(3, .int 1), (0, .ref 1), (1, .int (nI x)), (2, .int (nI y))], [.int 0], wC ov un nx dp fa cu st fi se th db cn F, 0)) rfl ?_
          exact mm_ret (mm_call_mono _ _) (c := mm_z 0) (r := .inl (some (.int 0))) (M := wC ov un nx dp fa cu st fi se th db cn F) (u := 0) rfl (by unfold mm_z; decide) (by decide) (by rw [bz_f (alk_u (j := 1) (by omega) u1)] at hQ; exact hQ)
      · skip
        refine mm_skip (mm_call_mono _ _) 1 (st' := (46, [(3, .int 1), (0, .ref 1), (1, .int (nI x)), (2, .int (nI y))], [.int 0], wC ov un nx dp fa cu st fi se th db cn F, 0)) rfl ?_
        exact mm_ret (mm_call_mono _ _) (c := mm_z 0) (r := .inl (some (.int 0))) (M := wC ov un nx dp fa cu st fi se th db cn F) (u := 0) rfl (by unfold mm_z; decide) (by decide) (by rw [bz_f (alk_o (j := 1) (by omega) o1)] at hQ; exact hQ)
    · skip
      refine mm_skip (mm_call_mono _ _) 1 (st' := (46, [(3, .int 0), (0, .ref 1), (1, .int (nI x)), (2, .int (nI y))], [.int 0], wC ov un nx dp fa cu st fi se th db cn F, 0)) rfl ?_
      exact mm_ret (mm_call_mono _ _) (c := mm_z 0) (r := .inl (some (.int 0))) (M := wC ov un nx dp fa cu st fi se th db cn F) (u := 0) rfl (by unfold mm_z; decide) (by decide) (by rw [bz_f (alk_u (j := 0) (by omega) u0)] at hQ; exact hQ)
  · skip
    refine mm_skip (mm_call_mono _ _) 1 (st' := (46, [(3, .int 0), (0, .ref 1), (1, .int (nI x)), (2, .int (nI y))], [.int 0], wC ov un nx dp fa cu st fi se th db cn F, 0)) rfl ?_
    exact mm_ret (mm_call_mono _ _) (c := mm_z 0) (r := .inl (some (.int 0))) (M := wC ov un nx dp fa cu st fi se th db cn F) (u := 0) rfl (by unfold mm_z; decide) (by decide) (by rw [bz_f (alk_o (j := 0) (by omega) o0)] at hQ; exact hQ)

set_option maxRecDepth 100000 in
theorem ct_N_isNought {d : Nat} {ov un : Nat → Int32} {nx dp fa : Int32} {cu : mm_cu} {st fi se th db : Nat → Int32} {cn : Int32} {F : mm_M} {x : Nat} {Q : mm_R → mm_M → Prop} (hx : x + 4 ≤ 1332) (hQ : Q (.inl (some (.int (bz (isz 4 ov x))))) (wC ov un nx dp fa cu st fi se th db cn F)) : mm_call mm_Tb (d + 2) 126 [.ref 1, .int (nI x)] (wC ov un nx dp fa cu st fi se th db cn F) Q := by
  refine mm_in mt_126 (Nat.le_of_ble_eq_true rfl) ?_
  show mm_W _ _ _ _ _ _ _ (0, [(0, .ref 1), (1, .int (nI x))], [], wC ov un nx dp fa cu st fi se th db cn F, 0)
  refine mm_skip (mm_call_mono _ _) 3 (st' := (3, [(0, .ref 1), (1, .int (nI x))], [.int (nI x), .int 2, .ref 1], wC ov un nx dp fa cu st fi se th db cn F, 0)) rfl ?_
  refine mm_inv (mm_call_mono _ _) (j := 141) (a := [.ref 1, .int 2, .int (nI x)]) (M := wC ov un nx dp fa cu st fi se th db cn F) (u := 0) rfl (by decide) (ct_N_isZero_2 hx ?_)
  show mm_W _ _ _ _ _ _ _ (6, [(0, .ref 1), (1, .int (nI x))], [.int (bz (isz 4 ov x))], wC ov un nx dp fa cu st fi se th db cn F, 0)
  exact mm_ret (mm_call_mono _ _) (c := mm_z (bz (isz 4 ov x))) (r := .inl (some (.int (bz (isz 4 ov x))))) (M := wC ov un nx dp fa cu st fi se th db cn F) (u := 0) rfl (bz_z _) (by decide) hQ

set_option maxRecDepth 100000 in
theorem ct_N_home {d : Nat} {ov un : Nat → Int32} {nx dp fa : Int32} {cu : mm_cu} {st fi se th db : Nat → Int32} {cn : Int32} {F : mm_M} {i : Int32} {Q : mm_R → mm_M → Prop} (hQ : Q (.inl (some (.int ((2 + i) * 4)))) (wC ov un nx dp fa cu st fi se th db cn F)) : mm_call mm_Tb (d + 1) 121 [.int i] (wC ov un nx dp fa cu st fi se th db cn F) Q := by
  refine mm_in mt_121 (Nat.le_of_ble_eq_true rfl) ?_
  show mm_W _ _ _ _ _ _ _ (0, [(0, .int i)], [], wC ov un nx dp fa cu st fi se th db cn F, 0)
  refine mm_skip (mm_call_mono _ _) 5 (st' := (5, [(0, .int i)], [.int ((2 + i) * 4)], wC ov un nx dp fa cu st fi se th db cn F, 0)) rfl ?_
  exact mm_ret (mm_call_mono _ _) (c := True) (r := .inl (some (.int ((2 + i) * 4)))) (M := wC ov un nx dp fa cu st fi se th db cn F) (u := 0) rfl trivial (by decide) hQ

theorem pl_xOf (k : Nat) : ((2 + ((nI k) * 3)) * 4 : Int32) = nI (8 + 12 * k) := by
  have e : 8 + 12 * k = (2 + (k * 3)) * 4 := by omega
  rw [e]
  show _ = Int32.ofNat ((2 + (k * 3)) * 4)
  simp only [Int32.ofNat_mul, Int32.ofNat_add]
  rfl
set_option maxRecDepth 100000 in
theorem ct_C_xOf {d : Nat} {ov un : Nat → Int32} {nx dp fa : Int32} {cu : mm_cu} {st fi se th db : Nat → Int32} {cn : Int32} {F : mm_M} {k : Nat} {Q : mm_R → mm_M → Prop} (hQ : Q (.inl (some (.int (nI (8 + 12 * k))))) (wC ov un nx dp fa cu st fi se th db cn F)) : mm_call mm_Tb (d + 2) 41 [.int (nI k)] (wC ov un nx dp fa cu st fi se th db cn F) Q := by
  refine mm_in mt_41 (Nat.le_of_ble_eq_true rfl) ?_
  show mm_W _ _ _ _ _ _ _ (0, [(0, .int (nI k))], [], wC ov un nx dp fa cu st fi se th db cn F, 0)
  refine mm_skip (mm_call_mono _ _) 3 (st' := (3, [(0, .int (nI k))], [.int ((nI k) * 3)], wC ov un nx dp fa cu st fi se th db cn F, 0)) rfl ?_
  refine mm_inv (mm_call_mono _ _) (j := 121) (a := [.int ((nI k) * 3)]) (M := wC ov un nx dp fa cu st fi se th db cn F) (u := 0) rfl (by decide) (ct_N_home ?_)
  show mm_W _ _ _ _ _ _ _ (6, [(0, .int (nI k))], [.int ((2 + ((nI k) * 3)) * 4)], wC ov un nx dp fa cu st fi se th db cn F, 0)
  exact mm_ret (mm_call_mono _ _) (c := True) (r := .inl (some (.int ((2 + ((nI k) * 3)) * 4)))) (M := wC ov un nx dp fa cu st fi se th db cn F) (u := 0) rfl trivial (by decide) (by rw [← pl_xOf] at hQ; exact hQ)

theorem pl_yOf (k : Nat) : ((2 + (((nI k) * 3) + 1)) * 4 : Int32) = nI (12 + 12 * k) := by
  have e : 12 + 12 * k = (2 + (k * 3 + 1)) * 4 := by omega
  rw [e]
  show _ = Int32.ofNat ((2 + (k * 3 + 1)) * 4)
  simp only [Int32.ofNat_mul, Int32.ofNat_add]
  rfl
set_option maxRecDepth 100000 in
theorem ct_C_yOf {d : Nat} {ov un : Nat → Int32} {nx dp fa : Int32} {cu : mm_cu} {st fi se th db : Nat → Int32} {cn : Int32} {F : mm_M} {k : Nat} {Q : mm_R → mm_M → Prop} (hQ : Q (.inl (some (.int (nI (12 + 12 * k))))) (wC ov un nx dp fa cu st fi se th db cn F)) : mm_call mm_Tb (d + 2) 42 [.int (nI k)] (wC ov un nx dp fa cu st fi se th db cn F) Q := by
  refine mm_in mt_42 (Nat.le_of_ble_eq_true rfl) ?_
  show mm_W _ _ _ _ _ _ _ (0, [(0, .int (nI k))], [], wC ov un nx dp fa cu st fi se th db cn F, 0)
  refine mm_skip (mm_call_mono _ _) 5 (st' := (5, [(0, .int (nI k))], [.int (((nI k) * 3) + 1)], wC ov un nx dp fa cu st fi se th db cn F, 0)) rfl ?_
  refine mm_inv (mm_call_mono _ _) (j := 121) (a := [.int (((nI k) * 3) + 1)]) (M := wC ov un nx dp fa cu st fi se th db cn F) (u := 0) rfl (by decide) (ct_N_home ?_)
  show mm_W _ _ _ _ _ _ _ (8, [(0, .int (nI k))], [.int ((2 + (((nI k) * 3) + 1)) * 4)], wC ov un nx dp fa cu st fi se th db cn F, 0)
  exact mm_ret (mm_call_mono _ _) (c := True) (r := .inl (some (.int ((2 + (((nI k) * 3) + 1)) * 4)))) (M := wC ov un nx dp fa cu st fi se th db cn F) (u := 0) rfl trivial (by decide) (by rw [← pl_yOf] at hQ; exact hQ)

theorem pl_lineA (k : Nat) : ((2 + ((nI k) * 3)) * 4 : Int32) = nI (8 + 12 * k) := by
  have e : 8 + 12 * k = (2 + (k * 3)) * 4 := by omega
  rw [e]
  show _ = Int32.ofNat ((2 + (k * 3)) * 4)
  simp only [Int32.ofNat_mul, Int32.ofNat_add]
  rfl
set_option maxRecDepth 100000 in
theorem ct_C_lineA {d : Nat} {ov un : Nat → Int32} {nx dp fa : Int32} {cu : mm_cu} {st fi se th db : Nat → Int32} {cn : Int32} {F : mm_M} {k : Nat} {Q : mm_R → mm_M → Prop} (hQ : Q (.inl (some (.int (nI (8 + 12 * k))))) (wC ov un nx dp fa cu st fi se th db cn F)) : mm_call mm_Tb (d + 2) 43 [.int (nI k)] (wC ov un nx dp fa cu st fi se th db cn F) Q := by
  refine mm_in mt_43 (Nat.le_of_ble_eq_true rfl) ?_
  show mm_W _ _ _ _ _ _ _ (0, [(0, .int (nI k))], [], wC ov un nx dp fa cu st fi se th db cn F, 0)
  refine mm_skip (mm_call_mono _ _) 3 (st' := (3, [(0, .int (nI k))], [.int ((nI k) * 3)], wC ov un nx dp fa cu st fi se th db cn F, 0)) rfl ?_
  refine mm_inv (mm_call_mono _ _) (j := 121) (a := [.int ((nI k) * 3)]) (M := wC ov un nx dp fa cu st fi se th db cn F) (u := 0) rfl (by decide) (ct_N_home ?_)
  show mm_W _ _ _ _ _ _ _ (6, [(0, .int (nI k))], [.int ((2 + ((nI k) * 3)) * 4)], wC ov un nx dp fa cu st fi se th db cn F, 0)
  exact mm_ret (mm_call_mono _ _) (c := True) (r := .inl (some (.int ((2 + ((nI k) * 3)) * 4)))) (M := wC ov un nx dp fa cu st fi se th db cn F) (u := 0) rfl trivial (by decide) (by rw [← pl_lineA] at hQ; exact hQ)

theorem pl_lineB (k : Nat) : ((2 + (((nI k) * 3) + 1)) * 4 : Int32) = nI (12 + 12 * k) := by
  have e : 12 + 12 * k = (2 + (k * 3 + 1)) * 4 := by omega
  rw [e]
  show _ = Int32.ofNat ((2 + (k * 3 + 1)) * 4)
  simp only [Int32.ofNat_mul, Int32.ofNat_add]
  rfl
set_option maxRecDepth 100000 in
theorem ct_C_lineB {d : Nat} {ov un : Nat → Int32} {nx dp fa : Int32} {cu : mm_cu} {st fi se th db : Nat → Int32} {cn : Int32} {F : mm_M} {k : Nat} {Q : mm_R → mm_M → Prop} (hQ : Q (.inl (some (.int (nI (12 + 12 * k))))) (wC ov un nx dp fa cu st fi se th db cn F)) : mm_call mm_Tb (d + 2) 44 [.int (nI k)] (wC ov un nx dp fa cu st fi se th db cn F) Q := by
  refine mm_in mt_44 (Nat.le_of_ble_eq_true rfl) ?_
  show mm_W _ _ _ _ _ _ _ (0, [(0, .int (nI k))], [], wC ov un nx dp fa cu st fi se th db cn F, 0)
  refine mm_skip (mm_call_mono _ _) 5 (st' := (5, [(0, .int (nI k))], [.int (((nI k) * 3) + 1)], wC ov un nx dp fa cu st fi se th db cn F, 0)) rfl ?_
  refine mm_inv (mm_call_mono _ _) (j := 121) (a := [.int (((nI k) * 3) + 1)]) (M := wC ov un nx dp fa cu st fi se th db cn F) (u := 0) rfl (by decide) (ct_N_home ?_)
  show mm_W _ _ _ _ _ _ _ (8, [(0, .int (nI k))], [.int ((2 + (((nI k) * 3) + 1)) * 4)], wC ov un nx dp fa cu st fi se th db cn F, 0)
  exact mm_ret (mm_call_mono _ _) (c := True) (r := .inl (some (.int ((2 + (((nI k) * 3) + 1)) * 4)))) (M := wC ov un nx dp fa cu st fi se th db cn F) (u := 0) rfl trivial (by decide) (by rw [← pl_lineB] at hQ; exact hQ)

theorem pl_lineC (k : Nat) : ((2 + (((nI k) * 3) + 2)) * 4 : Int32) = nI (16 + 12 * k) := by
  have e : 16 + 12 * k = (2 + (k * 3 + 2)) * 4 := by omega
  rw [e]
  show _ = Int32.ofNat ((2 + (k * 3 + 2)) * 4)
  simp only [Int32.ofNat_mul, Int32.ofNat_add]
  rfl
set_option maxRecDepth 100000 in
theorem ct_C_lineC {d : Nat} {ov un : Nat → Int32} {nx dp fa : Int32} {cu : mm_cu} {st fi se th db : Nat → Int32} {cn : Int32} {F : mm_M} {k : Nat} {Q : mm_R → mm_M → Prop} (hQ : Q (.inl (some (.int (nI (16 + 12 * k))))) (wC ov un nx dp fa cu st fi se th db cn F)) : mm_call mm_Tb (d + 2) 45 [.int (nI k)] (wC ov un nx dp fa cu st fi se th db cn F) Q := by
  refine mm_in mt_45 (Nat.le_of_ble_eq_true rfl) ?_
  show mm_W _ _ _ _ _ _ _ (0, [(0, .int (nI k))], [], wC ov un nx dp fa cu st fi se th db cn F, 0)
  refine mm_skip (mm_call_mono _ _) 5 (st' := (5, [(0, .int (nI k))], [.int (((nI k) * 3) + 2)], wC ov un nx dp fa cu st fi se th db cn F, 0)) rfl ?_
  refine mm_inv (mm_call_mono _ _) (j := 121) (a := [.int (((nI k) * 3) + 2)]) (M := wC ov un nx dp fa cu st fi se th db cn F) (u := 0) rfl (by decide) (ct_N_home ?_)
  show mm_W _ _ _ _ _ _ _ (8, [(0, .int (nI k))], [.int ((2 + (((nI k) * 3) + 2)) * 4)], wC ov un nx dp fa cu st fi se th db cn F, 0)
  exact mm_ret (mm_call_mono _ _) (c := True) (r := .inl (some (.int ((2 + (((nI k) * 3) + 2)) * 4)))) (M := wC ov un nx dp fa cu st fi se th db cn F) (u := 0) rfl trivial (by decide) (by rw [← pl_lineC] at hQ; exact hQ)

theorem pl_squareOf (k : Nat) : ((2 + ((nI k) * 3)) * 4 : Int32) = nI (8 + 12 * k) := by
  have e : 8 + 12 * k = (2 + (k * 3)) * 4 := by omega
  rw [e]
  show _ = Int32.ofNat ((2 + (k * 3)) * 4)
  simp only [Int32.ofNat_mul, Int32.ofNat_add]
  rfl
set_option maxRecDepth 100000 in
theorem ct_C_squareOf {d : Nat} {ov un : Nat → Int32} {nx dp fa : Int32} {cu : mm_cu} {st fi se th db : Nat → Int32} {cn : Int32} {F : mm_M} {k : Nat} {Q : mm_R → mm_M → Prop} (hQ : Q (.inl (some (.int (nI (8 + 12 * k))))) (wC ov un nx dp fa cu st fi se th db cn F)) : mm_call mm_Tb (d + 2) 46 [.int (nI k)] (wC ov un nx dp fa cu st fi se th db cn F) Q := by
  refine mm_in mt_46 (Nat.le_of_ble_eq_true rfl) ?_
  show mm_W _ _ _ _ _ _ _ (0, [(0, .int (nI k))], [], wC ov un nx dp fa cu st fi se th db cn F, 0)
  refine mm_skip (mm_call_mono _ _) 3 (st' := (3, [(0, .int (nI k))], [.int ((nI k) * 3)], wC ov un nx dp fa cu st fi se th db cn F, 0)) rfl ?_
  refine mm_inv (mm_call_mono _ _) (j := 121) (a := [.int ((nI k) * 3)]) (M := wC ov un nx dp fa cu st fi se th db cn F) (u := 0) rfl (by decide) (ct_N_home ?_)
  show mm_W _ _ _ _ _ _ _ (6, [(0, .int (nI k))], [.int ((2 + ((nI k) * 3)) * 4)], wC ov un nx dp fa cu st fi se th db cn F, 0)
  exact mm_ret (mm_call_mono _ _) (c := True) (r := .inl (some (.int ((2 + ((nI k) * 3)) * 4)))) (M := wC ov un nx dp fa cu st fi se th db cn F) (u := 0) rfl trivial (by decide) (by rw [← pl_squareOf] at hQ; exact hQ)

