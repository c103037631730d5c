theorem nI_p0 (a : Nat) : nI a + 0 = nI (a + 0) := nI_add a 0
theorem nI_p1 (a : Nat) : nI a + 1 = nI (a + 1) := nI_add a 1
theorem nI_p2 (a : Nat) : nI a + 2 = nI (a + 2) := nI_add a 2
theorem nI_p3 (a : Nat) : nI a + 3 = nI (a + 3) := nI_add a 3
theorem nI_p4 (a : Nat) : nI a + 4 = nI (a + 4) := nI_add a 4
theorem nI_p8 (a : Nat) : nI a + 8 = nI (a + 8) := nI_add a 8
theorem nI_p12 (a : Nat) : nI a + 12 = nI (a + 12) := nI_add a 12
/-- a fraction of the rows -/
def rf (ov un : Nat → Int32) (k : Nat) : fr := ((ov k).toInt, (un k).toInt)
/-- behind reserve: a new number, 0, unless there is no room -/
def resR (ov un : Nat → Int32) (n : Nat) (fa : Int32) (ov1 un1 : Nat → Int32) (n1 : Nat) (fa1 : Int32) (r : Nat) : Prop :=
  ((n + 4 ≤ 1332 ∧ r = n ∧ fa1 = fa) ∨ (1332 < n + 4 ∧ r = 308 ∧ fa1 = 1)) ∧ n1 = r + 4 ∧ (∀ k, ¬ (r ≤ k ∧ k < r + 4) → ov1 k = ov k ∧ un1 k = un k) ∧ ∀ k, r ≤ k → k < r + 4 → ov1 k = 0 ∧ un1 k = 1
theorem res_rows (ov un : Nat → Int32) (r : Nat) : (∀ k, ¬ (r ≤ k ∧ k < r + 4) → upd (upd (upd (upd ov r 0) (r + 1) 0) (r + 2) 0) (r + 3) 0 k = ov k ∧ upd (upd (upd (upd un r 1) (r + 1) 1) (r + 2) 1) (r + 3) 1 k = un k) ∧ ∀ k, r ≤ k → k < r + 4 → upd (upd (upd (upd ov r 0) (r + 1) 0) (r + 2) 0) (r + 3) 0 k = 0 ∧ upd (upd (upd (upd un r 1) (r + 1) 1) (r + 2) 1) (r + 3) 1 k = 1 := by
  refine ⟨fun k hk => ?_, fun k h1 h2 => ?_⟩
  · rw [pk_un (by omega), pk_un (by omega), pk_un (by omega), pk_un (by omega), pk_un (by omega), pk_un (by omega), pk_un (by omega), pk_un (by omega)]
    exact ⟨rfl, rfl⟩
  · rcases (show k = r + 3 ∨ k = r + 2 ∨ k = r + 1 ∨ k = r by omega) with rfl | rfl | rfl | rfl
    · rw [pk_us, pk_us]; exact ⟨rfl, rfl⟩
    · rw [pk_un (by omega), pk_us, pk_un (by omega), pk_us]; exact ⟨rfl, rfl⟩
    · rw [pk_un (by omega), pk_un (by omega), pk_us, pk_un (by omega), pk_un (by omega), pk_us]; exact ⟨rfl, rfl⟩
    · rw [pk_un (by omega), pk_un (by omega), pk_un (by omega), pk_us, pk_un (by omega), pk_un (by omega), pk_un (by omega), pk_us]; exact ⟨rfl, rfl⟩
theorem res_tail {d : Nat} {ov un : Nat → Int32} {dp fa : Int32} {cu : mm_cu} {st fi se th db : Nat → Int32} {cn : Int32} {F : mm_M} {r : Nat} {Q : mm_R → mm_M → Prop} (hr : r + 4 ≤ 1332) (hQ : Q (.inl (some (.int (nI r)))) (wC (upd (upd (upd (upd ov r 0) (r + 1) 0) (r + 2) 0) (r + 3) 0) (upd (upd (upd (upd un r 1) (r + 1) 1) (r + 2) 1) (r + 3) 1) (nI (r + 4)) dp fa cu st fi se th db cn F)) : mm_W (mm_call mm_Tb d) mp_N_reserve (mm_bt mm_Tb) 0 (some .int) 3 Q (27, [(0, .ref 1)], [], wC ov un (nI r) dp fa cu st fi se th db cn F, 0) := by
  refine mm_skip (mm_call_mono _ _) 14 (st' := (49, [(2, .int (nI r)), (1, .int (nI r)), (0, .ref 1)], [.int ((nI r) + 4), .int (nI r)], wC ov un ((nI r) + 4) dp fa cu st fi se th db cn F, 0)) rfl ?_
  rw [nI_p4 (r)]
  show mm_W _ _ _ _ _ _ _ (49, [(2, .int (nI r)), (1, .int (nI r)), (0, .ref 1)], [.int (nI (r + 4)), .int (nI r)], wC ov un (nI (r + 4)) dp fa cu st fi se th db cn F, 0)
  refine mm_branch (mm_call_mono _ _) (c := (nI (r + 4)) ≤ (nI r)) (s1 := (72, [(2, .int (nI r)), (1, .int (nI r)), (0, .ref 1)], [], wC ov un (nI (r + 4)) dp fa cu st fi se th db cn F, 0)) (s2 := (52, [(2, .int (nI r)), (1, .int (nI r)), (0, .ref 1)], [], wC ov un (nI (r + 4)) dp fa cu st fi se th db cn F, 0)) rfl (fun h => absurd h (nI_ge (show r < (r + 4) by omega) (by omega))) (fun _ => ?_)
  refine mm_skip (mm_call_mono _ _) 4 (st' := (58, [(2, .int (nI r)), (1, .int (nI r)), (0, .ref 1)], [.int 0, .int (nI r), .ref 8], wC ov un (nI (r + 4)) dp fa cu st fi se th db cn F, 0)) rfl ?_
  refine mm_need (mm_call_mono _ _) (c := vp_in (nI r) 1332) (s' := (59, [(2, .int (nI r)), (1, .int (nI r)), (0, .ref 1)], [], wC (upd ov (Int32.toNatClampNeg (nI r)) 0) un (nI (r + 4)) dp fa cu st fi se th db cn F, 0)) rfl (vp_in_nI (show r < 1332 by omega) (by decide)) ?_
  rw [nI_clamp (show r < 2 ^ 31 by omega)]
  show mm_W _ _ _ _ _ _ _ (59, [(2, .int (nI r)), (1, .int (nI r)), (0, .ref 1)], [], wC (upd ov r 0) un (nI (r + 4)) dp fa cu st fi se th db cn F, 0)
  refine mm_skip (mm_call_mono _ _) 4 (st' := (65, [(2, .int (nI r)), (1, .int (nI r)), (0, .ref 1)], [.int 1, .int (nI r), .ref 9], wC (upd ov r 0) un (nI (r + 4)) dp fa cu st fi se th db cn F, 0)) rfl ?_
  refine mm_need (mm_call_mono _ _) (c := vp_in (nI r) 1332) (s' := (66, [(2, .int (nI r)), (1, .int (nI r)), (0, .ref 1)], [], wC (upd ov r 0) (upd un (Int32.toNatClampNeg (nI r)) 1) (nI (r + 4)) dp fa cu st fi se th db cn F, 0)) rfl (vp_in_nI (show r < 1332 by omega) (by decide)) ?_
  rw [nI_clamp (show r < 2 ^ 31 by omega)]
  show mm_W _ _ _ _ _ _ _ (66, [(2, .int (nI r)), (1, .int (nI r)), (0, .ref 1)], [], wC (upd ov r 0) (upd un r 1) (nI (r + 4)) dp fa cu st fi se th db cn F, 0)
  refine mm_skip (mm_call_mono _ _) 5 (st' := (49, [(2, .int ((nI r) + 1)), (1, .int (nI r)), (0, .ref 1)], [.int (nI (r + 4)), .int ((nI r) + 1)], wC (upd ov r 0) (upd un r 1) (nI (r + 4)) dp fa cu st fi se th db cn F, 0)) rfl ?_
  rw [nI_p1 (r)]
  show mm_W _ _ _ _ _ _ _ (49, [(2, .int (nI (r + 1))), (1, .int (nI r)), (0, .ref 1)], [.int (nI (r + 4)), .int (nI (r + 1))], wC (upd ov r 0) (upd un r 1) (nI (r + 4)) dp fa cu st fi se th db cn F, 0)
  refine mm_branch (mm_call_mono _ _) (c := (nI (r + 4)) ≤ (nI (r + 1))) (s1 := (72, [(2, .int (nI (r + 1))), (1, .int (nI r)), (0, .ref 1)], [], wC (upd ov r 0) (upd un r 1) (nI (r + 4)) dp fa cu st fi se th db cn F, 0)) (s2 := (52, [(2, .int (nI (r + 1))), (1, .int (nI r)), (0, .ref 1)], [], wC (upd ov r 0) (upd un r 1) (nI (r + 4)) dp fa cu st fi se th db cn F, 0)) rfl (fun h => absurd h (nI_ge (show (r + 1) < (r + 4) by omega) (by omega))) (fun _ => ?_)
  refine mm_skip (mm_call_mono _ _) 4 (st' := (58, [(2, .int (nI (r + 1))), (1, .int (nI r)), (0, .ref 1)], [.int 0, .int (nI (r + 1)), .ref 8], wC (upd ov r 0) (upd un r 1) (nI (r + 4)) dp fa cu st fi se th db cn F, 0)) rfl ?_
  refine mm_need (mm_call_mono _ _) (c := vp_in (nI (r + 1)) 1332) (s' := (59, [(2, .int (nI (r + 1))), (1, .int (nI r)), (0, .ref 1)], [], wC (upd (upd ov r 0) (Int32.toNatClampNeg (nI (r + 1))) 0) (upd un r 1) (nI (r + 4)) dp fa cu st fi se th db cn F, 0)) rfl (vp_in_nI (show (r + 1) < 1332 by omega) (by decide)) ?_
  rw [nI_clamp (show (r + 1) < 2 ^ 31 by omega)]
  show mm_W _ _ _ _ _ _ _ (59, [(2, .int (nI (r + 1))), (1, .int (nI r)), (0, .ref 1)], [], wC (upd (upd ov r 0) (r + 1) 0) (upd un r 1) (nI (r + 4)) dp fa cu st fi se th db cn F, 0)
  refine mm_skip (mm_call_mono _ _) 4 (st' := (65, [(2, .int (nI (r + 1))), (1, .int (nI r)), (0, .ref 1)], [.int 1, .int (nI (r + 1)), .ref 9], wC (upd (upd ov r 0) (r + 1) 0) (upd un r 1) (nI (r + 4)) dp fa cu st fi se th db cn F, 0)) rfl ?_
  refine mm_need (mm_call_mono _ _) (c := vp_in (nI (r + 1)) 1332) (s' := (66, [(2, .int (nI (r + 1))), (1, .int (nI r)), (0, .ref 1)], [], wC (upd (upd ov r 0) (r + 1) 0) (upd (upd un r 1) (Int32.toNatClampNeg (nI (r + 1))) 1) (nI (r + 4)) dp fa cu st fi se th db cn F, 0)) rfl (vp_in_nI (show (r + 1) < 1332 by omega) (by decide)) ?_
  rw [nI_clamp (show (r + 1) < 2 ^ 31 by omega)]
  show mm_W _ _ _ _ _ _ _ (66, [(2, .int (nI (r + 1))), (1, .int (nI r)), (0, .ref 1)], [], wC (upd (upd ov r 0) (r + 1) 0) (upd (upd un r 1) (r + 1) 1) (nI (r + 4)) dp fa cu st fi se th db cn F, 0)
  refine mm_skip (mm_call_mono _ _) 5 (st' := (49, [(2, .int ((nI (r + 1)) + 1)), (1, .int (nI r)), (0, .ref 1)], [.int (nI (r + 4)), .int ((nI (r + 1)) + 1)], wC (upd (upd ov r 0) (r + 1) 0) (upd (upd un r 1) (r + 1) 1) (nI (r + 4)) dp fa cu st fi se th db cn F, 0)) rfl ?_
  rw [nI_p1 ((r + 1))]
  show mm_W _ _ _ _ _ _ _ (49, [(2, .int (nI (r + 2))), (1, .int (nI r)), (0, .ref 1)], [.int (nI (r + 4)), .int (nI (r + 2))], wC (upd (upd ov r 0) (r + 1) 0) (upd (upd un r 1) (r + 1) 1) (nI (r + 4)) dp fa cu st fi se th db cn F, 0)
  refine mm_branch (mm_call_mono _ _) (c := (nI (r + 4)) ≤ (nI (r + 2))) (s1 := (72, [(2, .int (nI (r + 2))), (1, .int (nI r)), (0, .ref 1)], [], wC (upd (upd ov r 0) (r + 1) 0) (upd (upd un r 1) (r + 1) 1) (nI (r + 4)) dp fa cu st fi se th db cn F, 0)) (s2 := (52, [(2, .int (nI (r + 2))), (1, .int (nI r)), (0, .ref 1)], [], wC (upd (upd ov r 0) (r + 1) 0) (upd (upd un r 1) (r + 1) 1) (nI (r + 4)) dp fa cu st fi se th db cn F, 0)) rfl (fun h => absurd h (nI_ge (show (r + 2) < (r + 4) by omega) (by omega))) (fun _ => ?_)
  refine mm_skip (mm_call_mono _ _) 4 (st' := (58, [(2, .int (nI (r + 2))), (1, .int (nI r)), (0, .ref 1)], [.int 0, .int (nI (r + 2)), .ref 8], wC (upd (upd ov r 0) (r + 1) 0) (upd (upd un r 1) (r + 1) 1) (nI (r + 4)) dp fa cu st fi se th db cn F, 0)) rfl ?_
  refine mm_need (mm_call_mono _ _) (c := vp_in (nI (r + 2)) 1332) (s' := (59, [(2, .int (nI (r + 2))), (1, .int (nI r)), (0, .ref 1)], [], wC (upd (upd (upd ov r 0) (r + 1) 0) (Int32.toNatClampNeg (nI (r + 2))) 0) (upd (upd un r 1) (r + 1) 1) (nI (r + 4)) dp fa cu st fi se th db cn F, 0)) rfl (vp_in_nI (show (r + 2) < 1332 by omega) (by decide)) ?_
  rw [nI_clamp (show (r + 2) < 2 ^ 31 by omega)]
  show mm_W _ _ _ _ _ _ _ (59, [(2, .int (nI (r + 2))), (1, .int (nI r)), (0, .ref 1)], [], wC (upd (upd (upd ov r 0) (r + 1) 0) (r + 2) 0) (upd (upd un r 1) (r + 1) 1) (nI (r + 4)) dp fa cu st fi se th db cn F, 0)
  refine mm_skip (mm_call_mono _ _) 4 (st' := (65, [(2, .int (nI (r + 2))), (1, .int (nI r)), (0, .ref 1)], [.int 1, .int (nI (r + 2)), .ref 9], wC (upd (upd (upd ov r 0) (r + 1) 0) (r + 2) 0) (upd (upd un r 1) (r + 1) 1) (nI (r + 4)) dp fa cu st fi se th db cn F, 0)) rfl ?_
  refine mm_need (mm_call_mono _ _) (c := vp_in (nI (r + 2)) 1332) (s' := (66, [(2, .int (nI (r + 2))), (1, .int (nI r)), (0, .ref 1)], [], wC (upd (upd (upd ov r 0) (r + 1) 0) (r + 2) 0) (upd (upd (upd un r 1) (r + 1) 1) (Int32.toNatClampNeg (nI (r + 2))) 1) (nI (r + 4)) dp fa cu st fi se th db cn F, 0)) rfl (vp_in_nI (show (r + 2) < 1332 by omega) (by decide)) ?_
  rw [nI_clamp (show (r + 2) < 2 ^ 31 by omega)]
  show mm_W _ _ _ _ _ _ _ (66, [(2, .int (nI (r + 2))), (1, .int (nI r)), (0, .ref 1)], [], wC (upd (upd (upd ov r 0) (r + 1) 0) (r + 2) 0) (upd (upd (upd un r 1) (r + 1) 1) (r + 2) 1) (nI (r + 4)) dp fa cu st fi se th db cn F, 0)
  refine mm_skip (mm_call_mono _ _) 5 (st' := (49, [(2, .int ((nI (r + 2)) + 1)), (1, .int (nI r)), (0, .ref 1)], [.int (nI (r + 4)), .int ((nI (r + 2)) + 1)], wC (upd (upd (upd ov r 0) (r + 1) 0) (r + 2) 0) (upd (upd (upd un r 1) (r + 1) 1) (r + 2) 1) (nI (r + 4)) dp fa cu st fi se th db cn F, 0)) rfl ?_
  rw [nI_p1 ((r + 2))]
  show mm_W _ _ _ _ _ _ _ (49, [(2, .int (nI (r + 3))), (1, .int (nI r)), (0, .ref 1)], [.int (nI (r + 4)), .int (nI (r + 3))], wC (upd (upd (upd ov r 0) (r + 1) 0) (r + 2) 0) (upd (upd (upd un r 1) (r + 1) 1) (r + 2) 1) (nI (r + 4)) dp fa cu st fi se th db cn F, 0)
  refine mm_branch (mm_call_mono _ _) (c := (nI (r + 4)) ≤ (nI (r + 3))) (s1 := (72, [(2, .int (nI (r + 3))), (1, .int (nI r)), (0, .ref 1)], [], wC (upd (upd (upd ov r 0) (r + 1) 0) (r + 2) 0) (upd (upd (upd un r 1) (r + 1) 1) (r + 2) 1) (nI (r + 4)) dp fa cu st fi se th db cn F, 0)) (s2 := (52, [(2, .int (nI (r + 3))), (1, .int (nI r)), (0, .ref 1)], [], wC (upd (upd (upd ov r 0) (r + 1) 0) (r + 2) 0) (upd (upd (upd un r 1) (r + 1) 1) (r + 2) 1) (nI (r + 4)) dp fa cu st fi se th db cn F, 0)) rfl (fun h => absurd h (nI_ge (show (r + 3) < (r + 4) by omega) (by omega))) (fun _ => ?_)
  refine mm_skip (mm_call_mono _ _) 4 (st' := (58, [(2, .int (nI (r + 3))), (1, .int (nI r)), (0, .ref 1)], [.int 0, .int (nI (r + 3)), .ref 8], wC (upd (upd (upd ov r 0) (r + 1) 0) (r + 2) 0) (upd (upd (upd un r 1) (r + 1) 1) (r + 2) 1) (nI (r + 4)) dp fa cu st fi se th db cn F, 0)) rfl ?_
  refine mm_need (mm_call_mono _ _) (c := vp_in (nI (r + 3)) 1332) (s' := (59, [(2, .int (nI (r + 3))), (1, .int (nI r)), (0, .ref 1)], [], wC (upd (upd (upd (upd ov r 0) (r + 1) 0) (r + 2) 0) (Int32.toNatClampNeg (nI (r + 3))) 0) (upd (upd (upd un r 1) (r + 1) 1) (r + 2) 1) (nI (r + 4)) dp fa cu st fi se th db cn F, 0)) rfl (vp_in_nI (show (r + 3) < 1332 by omega) (by decide)) ?_
  rw [nI_clamp (show (r + 3) < 2 ^ 31 by omega)]
  show mm_W _ _ _ _ _ _ _ (59, [(2, .int (nI (r + 3))), (1, .int (nI r)), (0, .ref 1)], [], wC (upd (upd (upd (upd ov r 0) (r + 1) 0) (r + 2) 0) (r + 3) 0) (upd (upd (upd un r 1) (r + 1) 1) (r + 2) 1) (nI (r + 4)) dp fa cu st fi se th db cn F, 0)
  refine mm_skip (mm_call_mono _ _) 4 (st' := (65, [(2, .int (nI (r + 3))), (1, .int (nI r)), (0, .ref 1)], [.int 1, .int (nI (r + 3)), .ref 9], wC (upd (upd (upd (upd ov r 0) (r + 1) 0) (r + 2) 0) (r + 3) 0) (upd (upd (upd un r 1) (r + 1) 1) (r + 2) 1) (nI (r + 4)) dp fa cu st fi se th db cn F, 0)) rfl ?_
  refine mm_need (mm_call_mono _ _) (c := vp_in (nI (r + 3)) 1332) (s' := (66, [(2, .int (nI (r + 3))), (1, .int (nI r)), (0, .ref 1)], [], wC (upd (upd (upd (upd ov r 0) (r + 1) 0) (r + 2) 0) (r + 3) 0) (upd (upd (upd (upd un r 1) (r + 1) 1) (r + 2) 1) (Int32.toNatClampNeg (nI (r + 3))) 1) (nI (r + 4)) dp fa cu st fi se th db cn F, 0)) rfl (vp_in_nI (show (r + 3) < 1332 by omega) (by decide)) ?_
  rw [nI_clamp (show (r + 3) < 2 ^ 31 by omega)]
  show mm_W _ _ _ _ _ _ _ (66, [(2, .int (nI (r + 3))), (1, .int (nI r)), (0, .ref 1)], [], wC (upd (upd (upd (upd ov r 0) (r + 1) 0) (r + 2) 0) (r + 3) 0) (upd (upd (upd (upd un r 1) (r + 1) 1) (r + 2) 1) (r + 3) 1) (nI (r + 4)) dp fa cu st fi se th db cn F, 0)
  refine mm_skip (mm_call_mono _ _) 5 (st' := (49, [(2, .int ((nI (r + 3)) + 1)), (1, .int (nI r)), (0, .ref 1)], [.int (nI (r + 4)), .int ((nI (r + 3)) + 1)], wC (upd (upd (upd (upd ov r 0) (r + 1) 0) (r + 2) 0) (r + 3) 0) (upd (upd (upd (upd un r 1) (r + 1) 1) (r + 2) 1) (r + 3) 1) (nI (r + 4)) dp fa cu st fi se th db cn F, 0)) rfl ?_
  rw [nI_p1 ((r + 3))]
  show mm_W _ _ _ _ _ _ _ (49, [(2, .int (nI (r + 4))), (1, .int (nI r)), (0, .ref 1)], [.int (nI (r + 4)), .int (nI (r + 4))], wC (upd (upd (upd (upd ov r 0) (r + 1) 0) (r + 2) 0) (r + 3) 0) (upd (upd (upd (upd un r 1) (r + 1) 1) (r + 2) 1) (r + 3) 1) (nI (r + 4)) dp fa cu st fi se th db cn F, 0)
  refine mm_branch (mm_call_mono _ _) (c := (nI (r + 4)) ≤ (nI (r + 4))) (s1 := (72, [(2, .int (nI (r + 4))), (1, .int (nI r)), (0, .ref 1)], [], wC (upd (upd (upd (upd ov r 0) (r + 1) 0) (r + 2) 0) (r + 3) 0) (upd (upd (upd (upd un r 1) (r + 1) 1) (r + 2) 1) (r + 3) 1) (nI (r + 4)) dp fa cu st fi se th db cn F, 0)) (s2 := (52, [(2, .int (nI (r + 4))), (1, .int (nI r)), (0, .ref 1)], [], wC (upd (upd (upd (upd ov r 0) (r + 1) 0) (r + 2) 0) (r + 3) 0) (upd (upd (upd (upd un r 1) (r + 1) 1) (r + 2) 1) (r + 3) 1) (nI (r + 4)) dp fa cu st fi se th db cn F, 0)) rfl (fun _ => ?_) (fun h => absurd (nI_le (show (r + 4) ≤ (r + 4) by omega) (by omega)) h)
  refine mm_skip (mm_call_mono _ _) 1 (st' := (73, [(2, .int (nI (r + 4))), (1, .int (nI r)), (0, .ref 1)], [.int (nI r)], wC (upd (upd (upd (upd ov r 0) (r + 1) 0) (r + 2) 0) (r + 3) 0) (upd (upd (upd (upd un r 1) (r + 1) 1) (r + 2) 1) (r + 3) 1) (nI (r + 4)) dp fa cu st fi se th db cn F, 0)) rfl ?_
  exact mm_ret (mm_call_mono _ _) (c := True) (r := .inl (some (.int (nI r)))) (M := wC (upd (upd (upd (upd ov r 0) (r + 1) 0) (r + 2) 0) (r + 3) 0) (upd (upd (upd (upd un r 1) (r + 1) 1) (r + 2) 1) (r + 3) 1) (nI (r + 4)) dp fa cu st fi se th db cn F) (u := 0) rfl trivial (by decide) hQ

set_option maxRecDepth 100000 in
theorem ct_N_reserve {d : Nat} {ov un : Nat → Int32} {dp fa : Int32} {cu : mm_cu} {st fi se th db : Nat → Int32} {cn : Int32} {F : mm_M} {n : Nat} {Q : mm_R → mm_M → Prop} (hn : 308 ≤ n ∧ n ≤ 1332) (hQ : ∀ (ov1 un1 : Nat → Int32) (n1 : Nat) (fa1 : Int32) (r : Nat), resR ov un n fa ov1 un1 n1 fa1 r → Q (.inl (some (.int (nI r)))) (wC ov1 un1 (nI n1) dp fa1 cu st fi se th db cn F)) : mm_call mm_Tb (d + 1) 138 [.ref 1] (wC ov un (nI n) dp fa cu st fi se th db cn F) Q := by
  have h4 : nI (n + 4) ≤ 1332 → n + 4 ≤ 1332 := fun h => (nI_leI (a := n + 4) (b := 1332) (by omega) (by omega)).mp h
  have h5 : ¬ nI (n + 4) ≤ 1332 → 1332 < n + 4 := fun h => Nat.not_le.mp (fun z => h ((nI_leI (a := n + 4) (b := 1332) (by omega) (by omega)).mpr z))
  refine mm_in mt_138 (Nat.le_of_ble_eq_true rfl) ?_
  show mm_W _ _ _ _ _ _ _ (0, [(0, .ref 1)], [], wC ov un (nI n) dp fa cu st fi se th db cn F, 0)
  refine mm_skip (mm_call_mono _ _) 7 (st' := (11, [(0, .ref 1)], [.int 1332, .int ((nI n) + 4)], wC ov un (nI n) dp fa cu st fi se th db cn F, 0)) rfl ?_
  rw [nI_p4 (n)]
  show mm_W _ _ _ _ _ _ _ (11, [(0, .ref 1)], [.int 1332, .int (nI (n + 4))], wC ov un (nI n) dp fa cu st fi se th db cn F, 0)
  refine mm_branch (mm_call_mono _ _) (c := (nI (n + 4)) ≤ 1332) (s1 := (27, [(0, .ref 1)], [], wC ov un (nI n) dp fa cu st fi se th db cn F, 0)) (s2 := (14, [(0, .ref 1)], [], wC ov un (nI n) dp fa cu st fi se th db cn F, 0)) rfl (fun h1 => ?_) (fun h1 => ?_)
  · skip
    first
        | exact res_tail (r := n) (h4 h1) (hQ _ _ _ _ _ ⟨Or.inl ⟨h4 h1, rfl, rfl⟩, rfl, (res_rows ov un n).1, (res_rows ov un n).2⟩)
        | exact res_tail (r := 308) (by decide) (hQ _ _ _ _ _ ⟨Or.inr ⟨h5 h1, rfl, rfl⟩, rfl, (res_rows ov un 308).1, (res_rows ov un 308).2⟩)
  · skip
    refine mm_skip (mm_call_mono _ _) 2 (st' := (16, [(0, .ref 1)], [.int 1, .ref 1], wC ov un (nI n) dp fa cu st fi se th db cn F, 0)) rfl ?_
    refine mm_need (mm_call_mono _ _) (c := mm_z 1) (s' := (19, [(0, .ref 1)], [], wC ov un (nI n) dp 1 cu st fi se th db cn F, 0)) rfl (by unfold mm_z; decide) ?_
    refine mm_skip (mm_call_mono _ _) 4 (st' := (27, [(0, .ref 1)], [], wC ov un 308 dp 1 cu st fi se th db cn F, 0)) rfl ?_
    first
        | exact res_tail (r := n) (h4 h1) (hQ _ _ _ _ _ ⟨Or.inl ⟨h4 h1, rfl, rfl⟩, rfl, (res_rows ov un n).1, (res_rows ov un n).2⟩)
        | exact res_tail (r := 308) (by decide) (hQ _ _ _ _ _ ⟨Or.inr ⟨h5 h1, rfl, rfl⟩, rfl, (res_rows ov un 308).1, (res_rows ov un 308).2⟩)

