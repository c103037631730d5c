/-- small numbers -/
def sm (p : Int64) : Prop := -10000 ≤ p.toInt ∧ p.toInt ≤ 10000
theorem sm_div {p : Int64} (h : sm p) (g : Int64) : sm (p / g) := by
  have hm : p ≠ Int64.minValue := by
    intro e
    rw [e] at h
    revert h
    unfold sm
    decide
  unfold sm
  rw [Int64.toInt_div_of_ne_left _ _ hm]
  have h1 := Int.natAbs_tdiv_le_natAbs p.toInt g.toInt
  have h2 := h.1
  have h3 := h.2
  omega
theorem sm_le {p : Int64} (h : sm p) : ¬ (2147483647 : Int64) < p := by
  rw [Int64.lt_iff_toInt_lt, show (2147483647 : Int64).toInt = 2147483647 by decide]
  have h3 := h.2
  omega
theorem sm_ge {p : Int64} (h : sm p) : ¬ p < (-2147483647 : Int64) := by
  rw [Int64.lt_iff_toInt_lt, show (-2147483647 : Int64).toInt = -2147483647 by decide]
  have h3 := h.1
  omega
abbrev isin (p q : Int32) : Prop := ¬ p < -10000 ∧ ¬ 10000 < p ∧ ¬ q < 1 ∧ ¬ 10000 < q
theorem isin_sm {p q : Int32} (h : isin p q) : sm p.toInt64 ∧ sm q.toInt64 ∧ 1 ≤ q.toInt64.toInt := by
  obtain ⟨h1, h2, h3, h4⟩ := h
  unfold sm
  rw [Int32.lt_iff_toInt_lt] at h1 h2 h3 h4
  rw [show (-10000 : Int32).toInt = -10000 by decide] at h1
  rw [show (10000 : Int32).toInt = 10000 by decide] at h2 h4
  rw [show (1 : Int32).toInt = 1 by decide] at h3
  rw [Int32.toInt_toInt64, Int32.toInt_toInt64]
  omega
theorem ne0_of {q : Int64} (h : 1 ≤ q.toInt) : ¬ q = 0 := by
  intro e
  rw [e] at h
  revert h
  decide
theorem put0_end {d : Nat} {ov un : Nat → Int32} {nx dp : Int32} {cu : mm_cu} {st fi se th db : Nat → Int32} {cn : Int32} {F : mm_M} {cell : Int32} {p q : Int64} {Q : mm_R → mm_M → Prop} (hp : sm p) (hq : sm q) (hq1 : 1 ≤ q.toInt) (hc : vp_in cell 1332) (hQ : ∀ (ov1 un1 : Nat → Int32), Q (.inl none) (wP (wCp ov1 un1 nx dp 0 cu st fi se th db cn) F)) (dv rs lf : Int64) (i : Int32) : mm_W (mm_call mm_Tb d) mp_N_put (mm_bt mm_Tb) 0 none 14 Q (70, [(10, .int i), (8, .long rs), (6, .long dv), (11, .long lf), (0, .ref 1), (1, .int cell), (2, .long p), (4, .long q)], [], wP (wCp ov un nx dp 0 cu st fi se th db cn) F, 0) := by
  refine mm_skip (mm_call_mono _ _) 3 (st' := (74, [(10, .int i), (8, .long rs), (6, .long dv), (11, .long lf), (0, .ref 1), (1, .int cell), (2, .long p), (4, .long q)], [.int (lg_cmp dv 0)], wP (wCp ov un nx dp 0 cu st fi se th db cn) F, 0)) rfl ?_
  refine mm_branch (mm_call_mono _ _) (c := (lg_cmp dv 0) = 0) (s1 := (77, [(10, .int i), (8, .long rs), (6, .long dv), (11, .long lf), (0, .ref 1), (1, .int cell), (2, .long p), (4, .long q)], [], wP (wCp ov un nx dp 0 cu st fi se th db cn) F, 0)) (s2 := (78, [(10, .int i), (8, .long rs), (6, .long dv), (11, .long lf), (0, .ref 1), (1, .int cell), (2, .long p), (4, .long q)], [], wP (wCp ov un nx dp 0 cu st fi se th db cn) F, 0)) rfl (fun h1 => ?_) (fun h1 => ?_)
  · skip
    exact mm_ret (mm_call_mono _ _) (c := True) (r := .inl none) (M := wP (wCp ov un nx dp 0 cu st fi se th db cn) F) (u := 0) rfl trivial (by decide) (hQ _ _)
  · skip
    refine mm_skip (mm_call_mono _ _) 2 (st' := (81, [(10, .int i), (8, .long rs), (6, .long dv), (11, .long lf), (0, .ref 1), (1, .int cell), (2, .long p), (4, .long q)], [.long dv, .long p], wP (wCp ov un nx dp 0 cu st fi se th db cn) F, 0)) rfl ?_
    refine mm_need (mm_call_mono _ _) (c := ¬ dv = 0) (s' := (82, [(10, .int i), (8, .long rs), (6, .long dv), (11, .long lf), (0, .ref 1), (1, .int cell), (2, .long p), (4, .long q)], [.long (p / dv)], wP (wCp ov un nx dp 0 cu st fi se th db cn) F, 0)) rfl (fun e => h1 ((lg_cmp_eq _ _).mpr e)) ?_
    refine mm_skip (mm_call_mono _ _) 3 (st' := (88, [(10, .long (p / dv)), (8, .long rs), (6, .long dv), (0, .ref 1), (1, .int cell), (2, .long p), (4, .long q)], [.long dv, .long q], wP (wCp ov un nx dp 0 cu st fi se th db cn) F, 0)) rfl ?_
    refine mm_need (mm_call_mono _ _) (c := ¬ dv = 0) (s' := (89, [(10, .long (p / dv)), (8, .long rs), (6, .long dv), (0, .ref 1), (1, .int cell), (2, .long p), (4, .long q)], [.long (q / dv)], wP (wCp ov un nx dp 0 cu st fi se th db cn) F, 0)) rfl (fun e => h1 ((lg_cmp_eq _ _).mpr e)) ?_
    refine mm_skip (mm_call_mono _ _) 4 (st' := (97, [(12, .long (q / dv)), (10, .long (p / dv)), (8, .long rs), (6, .long dv), (0, .ref 1), (1, .int cell), (2, .long p), (4, .long q)], [.int (lg_cmp (p / dv) 2147483647)], wP (wCp ov un nx dp 0 cu st fi se th db cn) F, 0)) rfl ?_
    refine mm_branch (mm_call_mono _ _) (c := 0 < (lg_cmp (p / dv) 2147483647)) (s1 := (118, [(12, .long (q / dv)), (10, .long (p / dv)), (8, .long rs), (6, .long dv), (0, .ref 1), (1, .int cell), (2, .long p), (4, .long q)], [], wP (wCp ov un nx dp 0 cu st fi se th db cn) F, 0)) (s2 := (100, [(12, .long (q / dv)), (10, .long (p / dv)), (8, .long rs), (6, .long dv), (0, .ref 1), (1, .int cell), (2, .long p), (4, .long q)], [], wP (wCp ov un nx dp 0 cu st fi se th db cn) F, 0)) rfl (fun h => absurd h (fun e => sm_le (sm_div hp dv) ((lg_cmp_gt _ _).mp e))) (fun _ => ?_)
    refine mm_skip (mm_call_mono _ _) 3 (st' := (106, [(12, .long (q / dv)), (10, .long (p / dv)), (8, .long rs), (6, .long dv), (0, .ref 1), (1, .int cell), (2, .long p), (4, .long q)], [.int (lg_cmp (p / dv) (-2147483647))], wP (wCp ov un nx dp 0 cu st fi se th db cn) F, 0)) rfl ?_
    refine mm_branch (mm_call_mono _ _) (c := (lg_cmp (p / dv) (-2147483647)) < 0) (s1 := (118, [(12, .long (q / dv)), (10, .long (p / dv)), (8, .long rs), (6, .long dv), (0, .ref 1), (1, .int cell), (2, .long p), (4, .long q)], [], wP (wCp ov un nx dp 0 cu st fi se th db cn) F, 0)) (s2 := (109, [(12, .long (q / dv)), (10, .long (p / dv)), (8, .long rs), (6, .long dv), (0, .ref 1), (1, .int cell), (2, .long p), (4, .long q)], [], wP (wCp ov un nx dp 0 cu st fi se th db cn) F, 0)) rfl (fun h => absurd h (fun e => sm_ge (sm_div hp dv) ((lg_cmp_lt _ _).mp e))) (fun _ => ?_)
    refine mm_skip (mm_call_mono _ _) 3 (st' := (115, [(12, .long (q / dv)), (10, .long (p / dv)), (8, .long rs), (6, .long dv), (0, .ref 1), (1, .int cell), (2, .long p), (4, .long q)], [.int (lg_cmp (q / dv) 2147483647)], wP (wCp ov un nx dp 0 cu st fi se th db cn) F, 0)) rfl ?_
    refine mm_branch (mm_call_mono _ _) (c := (lg_cmp (q / dv) 2147483647) ≤ 0) (s1 := (124, [(12, .long (q / dv)), (10, .long (p / dv)), (8, .long rs), (6, .long dv), (0, .ref 1), (1, .int cell), (2, .long p), (4, .long q)], [], wP (wCp ov un nx dp 0 cu st fi se th db cn) F, 0)) (s2 := (118, [(12, .long (q / dv)), (10, .long (p / dv)), (8, .long rs), (6, .long dv), (0, .ref 1), (1, .int cell), (2, .long p), (4, .long q)], [], wP (wCp ov un nx dp 0 cu st fi se th db cn) F, 0)) rfl (fun _ => ?_) (fun h => absurd ((lg_cmp_le _ _).mpr (Int64.not_lt.mp (sm_le (sm_div hq dv)))) h)
    refine mm_skip (mm_call_mono _ _) 5 (st' := (132, [(12, .long (q / dv)), (10, .long (p / dv)), (8, .long rs), (6, .long dv), (0, .ref 1), (1, .int cell), (2, .long p), (4, .long q)], [.int (Int64.toInt32 (p / dv)), .int cell, .ref 8], wP (wCp ov un nx dp 0 cu st fi se th db cn) F, 0)) rfl ?_
    refine mm_need (mm_call_mono _ _) (c := vp_in cell 1332) (s' := (133, [(12, .long (q / dv)), (10, .long (p / dv)), (8, .long rs), (6, .long dv), (0, .ref 1), (1, .int cell), (2, .long p), (4, .long q)], [], wP (wCp (upd ov (Int32.toNatClampNeg cell) (Int64.toInt32 (p / dv))) un nx dp 0 cu st fi se th db cn) F, 0)) rfl hc ?_
    refine mm_skip (mm_call_mono _ _) 5 (st' := (141, [(12, .long (q / dv)), (10, .long (p / dv)), (8, .long rs), (6, .long dv), (0, .ref 1), (1, .int cell), (2, .long p), (4, .long q)], [.int (Int64.toInt32 (q / dv)), .int cell, .ref 9], wP (wCp (upd ov (Int32.toNatClampNeg cell) (Int64.toInt32 (p / dv))) un nx dp 0 cu st fi se th db cn) F, 0)) rfl ?_
    refine mm_need (mm_call_mono _ _) (c := vp_in cell 1332) (s' := (142, [(12, .long (q / dv)), (10, .long (p / dv)), (8, .long rs), (6, .long dv), (0, .ref 1), (1, .int cell), (2, .long p), (4, .long q)], [], wP (wCp (upd ov (Int32.toNatClampNeg cell) (Int64.toInt32 (p / dv))) (upd un (Int32.toNatClampNeg cell) (Int64.toInt32 (q / dv))) nx dp 0 cu st fi se th db cn) F, 0)) rfl hc ?_
    exact mm_ret (mm_call_mono _ _) (c := True) (r := .inl none) (M := wP (wCp (upd ov (Int32.toNatClampNeg cell) (Int64.toInt32 (p / dv))) (upd un (Int32.toNatClampNeg cell) (Int64.toInt32 (q / dv))) nx dp 0 cu st fi se th db cn) F) (u := 0) rfl trivial (by decide) (hQ _ _)

theorem put0_loop {d : Nat} {ov un : Nat → Int32} {nx dp : Int32} {cu : mm_cu} {st fi se th db : Nat → Int32} {cn : Int32} {F : mm_M} {cell : Int32} {p q : Int64} {Q : mm_R → mm_M → Prop} (hp : sm p) (hq : sm q) (hq1 : 1 ≤ q.toInt) (hc : vp_in cell 1332) (hQ : ∀ (ov1 un1 : Nat → Int32), Q (.inl none) (wP (wCp ov1 un1 nx dp 0 cu st fi se th db cn) F)) : ∀ (n i : Nat) (dv rs lf : Int64), i + n = 100 → mm_W (mm_call mm_Tb d) mp_N_put (mm_bt mm_Tb) 0 none 14 Q (35, [(10, .int (nI i)), (8, .long rs), (6, .long dv), (11, .long lf), (0, .ref 1), (1, .int cell), (2, .long p), (4, .long q)], [], wP (wCp ov un nx dp 0 cu st fi se th db cn) F, 0)
  | 0, i, dv, rs, lf, hi => by
    have e : i = 100 := by omega
    subst e
    refine mm_skip (mm_call_mono _ _) 2 (st' := (39, [(10, .int (nI 100)), (8, .long rs), (6, .long dv), (11, .long lf), (0, .ref 1), (1, .int cell), (2, .long p), (4, .long q)], [.int 100, .int (nI 100)], wP (wCp ov un nx dp 0 cu st fi se th db cn) F, 0)) rfl ?_
    refine mm_branch (mm_call_mono _ _) (c := 100 ≤ (nI 100)) (s1 := (70, [(10, .int (nI 100)), (8, .long rs), (6, .long dv), (11, .long lf), (0, .ref 1), (1, .int cell), (2, .long p), (4, .long q)], [], wP (wCp ov un nx dp 0 cu st fi se th db cn) F, 0)) (s2 := (42, [(10, .int (nI 100)), (8, .long rs), (6, .long dv), (11, .long lf), (0, .ref 1), (1, .int cell), (2, .long p), (4, .long q)], [], wP (wCp ov un nx dp 0 cu st fi se th db cn) F, 0)) rfl (fun _ => ?_) (fun h => absurd (by decide) h)
    exact put0_end hp hq hq1 hc hQ _ _ _ _

  | n + 1, i, dv, rs, lf, hi => by
    refine mm_skip (mm_call_mono _ _) 2 (st' := (39, [(10, .int (nI i)), (8, .long rs), (6, .long dv), (11, .long lf), (0, .ref 1), (1, .int cell), (2, .long p), (4, .long q)], [.int 100, .int (nI i)], wP (wCp ov un nx dp 0 cu st fi se th db cn) F, 0)) rfl ?_
    refine mm_branch (mm_call_mono _ _) (c := 100 ≤ (nI i)) (s1 := (70, [(10, .int (nI i)), (8, .long rs), (6, .long dv), (11, .long lf), (0, .ref 1), (1, .int cell), (2, .long p), (4, .long q)], [], wP (wCp ov un nx dp 0 cu st fi se th db cn) F, 0)) (s2 := (42, [(10, .int (nI i)), (8, .long rs), (6, .long dv), (11, .long lf), (0, .ref 1), (1, .int cell), (2, .long p), (4, .long q)], [], wP (wCp ov un nx dp 0 cu st fi se th db cn) F, 0)) rfl (fun h => absurd h (nI_ge (show i < 100 by omega) (by decide))) (fun _ => ?_)
    refine mm_skip (mm_call_mono _ _) 3 (st' := (46, [(10, .int (nI i)), (8, .long rs), (6, .long dv), (11, .long lf), (0, .ref 1), (1, .int cell), (2, .long p), (4, .long q)], [.int (lg_cmp rs 0)], wP (wCp ov un nx dp 0 cu st fi se th db cn) F, 0)) rfl ?_
    refine mm_branch (mm_call_mono _ _) (c := (lg_cmp rs 0) = 0) (s1 := (70, [(10, .int (nI i)), (8, .long rs), (6, .long dv), (11, .long lf), (0, .ref 1), (1, .int cell), (2, .long p), (4, .long q)], [], wP (wCp ov un nx dp 0 cu st fi se th db cn) F, 0)) (s2 := (49, [(10, .int (nI i)), (8, .long rs), (6, .long dv), (11, .long lf), (0, .ref 1), (1, .int cell), (2, .long p), (4, .long q)], [], wP (wCp ov un nx dp 0 cu st fi se th db cn) F, 0)) rfl (fun h1 => ?_) (fun h1 => ?_)
    · skip
      exact put0_end hp hq hq1 hc hQ _ _ _ _
    · skip
      refine mm_skip (mm_call_mono _ _) 2 (st' := (53, [(10, .int (nI i)), (8, .long rs), (6, .long dv), (11, .long lf), (0, .ref 1), (1, .int cell), (2, .long p), (4, .long q)], [.long rs, .long dv], wP (wCp ov un nx dp 0 cu st fi se th db cn) F, 0)) rfl ?_
      refine mm_need (mm_call_mono _ _) (c := ¬ rs = 0) (s' := (54, [(10, .int (nI i)), (8, .long rs), (6, .long dv), (11, .long lf), (0, .ref 1), (1, .int cell), (2, .long p), (4, .long q)], [.long (dv - dv / rs * rs)], wP (wCp ov un nx dp 0 cu st fi se th db cn) F, 0)) rfl (fun e => h1 ((lg_cmp_eq _ _).mpr e)) ?_
      refine mm_skip (mm_call_mono _ _) 7 (st' := (35, [(10, .int ((nI i) + 1)), (8, .long (dv - dv / rs * rs)), (6, .long rs), (11, .long (dv - dv / rs * rs)), (0, .ref 1), (1, .int cell), (2, .long p), (4, .long q)], [], wP (wCp ov un nx dp 0 cu st fi se th db cn) F, 0)) rfl ?_
      rw [nI_1]
      exact put0_loop hp hq hq1 hc hQ n (i + 1) _ _ _ (by omega)

set_option maxRecDepth 100000 in
theorem ct_N_put0 {d : Nat} {ov un : Nat → Int32} {nx dp : Int32} {cu : mm_cu} {st fi se th db : Nat → Int32} {cn : Int32} {F : mm_M} {cell : Int32} {p q : Int64} {Q : mm_R → mm_M → Prop} (hp : sm p) (hq : sm q) (hq1 : 1 ≤ q.toInt) (hc : vp_in cell 1332) (hQ : ∀ (ov1 un1 : Nat → Int32), Q (.inl none) (wP (wCp ov1 un1 nx dp 0 cu st fi se th db cn) F)) : mm_call mm_Tb (d + 1) 139 [.ref 1, .int cell, .long p, .long q] (wP (wCp ov un nx dp 0 cu st fi se th db cn) F) Q := by
  refine mm_in mt_139 (Nat.le_of_ble_eq_true rfl) ?_
  show mm_W _ _ _ _ _ _ _ (0, [(0, .ref 1), (1, .int cell), (2, .long p), (4, .long q)], [], wP (wCp ov un nx dp 0 cu st fi se th db cn) F, 0)
  refine mm_skip (mm_call_mono _ _) 3 (st' := (3, [(0, .ref 1), (1, .int cell), (2, .long p), (4, .long q)], [.int (lg_cmp p 0)], wP (wCp ov un nx dp 0 cu st fi se th db cn) F, 0)) rfl ?_
  refine mm_branch (mm_call_mono _ _) (c := (lg_cmp p 0) = 0) (s1 := (13, [(0, .ref 1), (1, .int cell), (2, .long p), (4, .long q)], [], wP (wCp ov un nx dp 0 cu st fi se th db cn) F, 0)) (s2 := (6, [(0, .ref 1), (1, .int cell), (2, .long p), (4, .long q)], [], wP (wCp ov un nx dp 0 cu st fi se th db cn) F, 0)) rfl (fun h1 => ?_) (fun h1 => ?_)
  · skip
    exact mm_ret (mm_call_mono _ _) (c := True) (r := .inl none) (M := wP (wCp ov un nx dp 0 cu st fi se th db cn) F) (u := 0) rfl trivial (by decide) (hQ _ _)
  · skip
    refine mm_skip (mm_call_mono _ _) 2 (st' := (10, [(0, .ref 1), (1, .int cell), (2, .long p), (4, .long q)], [.int 0], wP (wCp ov un nx dp 0 cu st fi se th db cn) F, 0)) rfl ?_
    refine mm_branch (mm_call_mono _ _) (c := (0 : Int32) = 0) (s1 := (14, [(0, .ref 1), (1, .int cell), (2, .long p), (4, .long q)], [], wP (wCp ov un nx dp 0 cu st fi se th db cn) F, 0)) (s2 := (13, [(0, .ref 1), (1, .int cell), (2, .long p), (4, .long q)], [], wP (wCp ov un nx dp 0 cu st fi se th db cn) F, 0)) rfl (fun _ => ?_) (fun h => absurd (by decide) h)
    refine mm_skip (mm_call_mono _ _) 3 (st' := (17, [(0, .ref 1), (1, .int cell), (2, .long p), (4, .long q)], [.int (lg_cmp p 0)], wP (wCp ov un nx dp 0 cu st fi se th db cn) F, 0)) rfl ?_
    refine mm_branch (mm_call_mono _ _) (c := 0 ≤ (lg_cmp p 0)) (s1 := (25, [(0, .ref 1), (1, .int cell), (2, .long p), (4, .long q)], [], wP (wCp ov un nx dp 0 cu st fi se th db cn) F, 0)) (s2 := (20, [(0, .ref 1), (1, .int cell), (2, .long p), (4, .long q)], [], wP (wCp ov un nx dp 0 cu st fi se th db cn) F, 0)) rfl (fun h2 => ?_) (fun h2 => ?_)
    · skip
      refine mm_skip (mm_call_mono _ _) 8 (st' := (39, [(10, .int 0), (8, .long q), (6, .long p), (0, .ref 1), (1, .int cell), (2, .long p), (4, .long q)], [.int 100, .int 0], wP (wCp ov un nx dp 0 cu st fi se th db cn) F, 0)) rfl ?_
      refine mm_branch (mm_call_mono _ _) (c := (100 : Int32) ≤ 0) (s1 := (70, [(10, .int 0), (8, .long q), (6, .long p), (0, .ref 1), (1, .int cell), (2, .long p), (4, .long q)], [], wP (wCp ov un nx dp 0 cu st fi se th db cn) F, 0)) (s2 := (42, [(10, .int 0), (8, .long q), (6, .long p), (0, .ref 1), (1, .int cell), (2, .long p), (4, .long q)], [], wP (wCp ov un nx dp 0 cu st fi se th db cn) F, 0)) rfl (fun h => absurd h (by decide)) (fun _ => ?_)
      refine mm_skip (mm_call_mono _ _) 3 (st' := (46, [(10, .int 0), (8, .long q), (6, .long p), (0, .ref 1), (1, .int cell), (2, .long p), (4, .long q)], [.int (lg_cmp q 0)], wP (wCp ov un nx dp 0 cu st fi se th db cn) F, 0)) rfl ?_
      refine mm_branch (mm_call_mono _ _) (c := (lg_cmp q 0) = 0) (s1 := (70, [(10, .int 0), (8, .long q), (6, .long p), (0, .ref 1), (1, .int cell), (2, .long p), (4, .long q)], [], wP (wCp ov un nx dp 0 cu st fi se th db cn) F, 0)) (s2 := (49, [(10, .int 0), (8, .long q), (6, .long p), (0, .ref 1), (1, .int cell), (2, .long p), (4, .long q)], [], wP (wCp ov un nx dp 0 cu st fi se th db cn) F, 0)) rfl (fun h => absurd h (fun e => ne0_of hq1 ((lg_cmp_eq _ _).mp e))) (fun _ => ?_)
      refine mm_skip (mm_call_mono _ _) 2 (st' := (53, [(10, .int 0), (8, .long q), (6, .long p), (0, .ref 1), (1, .int cell), (2, .long p), (4, .long q)], [.long q, .long p], wP (wCp ov un nx dp 0 cu st fi se th db cn) F, 0)) rfl ?_
      refine mm_need (mm_call_mono _ _) (c := ¬ q = 0) (s' := (54, [(10, .int 0), (8, .long q), (6, .long p), (0, .ref 1), (1, .int cell), (2, .long p), (4, .long q)], [.long (p - p / q * q)], wP (wCp ov un nx dp 0 cu st fi se th db cn) F, 0)) rfl (ne0_of hq1) ?_
      refine mm_skip (mm_call_mono _ _) 7 (st' := (35, [(10, .int 1), (8, .long (p - p / q * q)), (6, .long q), (11, .long (p - p / q * q)), (0, .ref 1), (1, .int cell), (2, .long p), (4, .long q)], [], wP (wCp ov un nx dp 0 cu st fi se th db cn) F, 0)) rfl ?_
      exact put0_loop hp hq hq1 hc hQ 99 1 _ _ _ (by omega)
    · skip
      refine mm_skip (mm_call_mono _ _) 10 (st' := (39, [(10, .int 0), (8, .long q), (6, .long (-p)), (0, .ref 1), (1, .int cell), (2, .long p), (4, .long q)], [.int 100, .int 0], wP (wCp ov un nx dp 0 cu st fi se th db cn) F, 0)) rfl ?_
      refine mm_branch (mm_call_mono _ _) (c := (100 : Int32) ≤ 0) (s1 := (70, [(10, .int 0), (8, .long q), (6, .long (-p)), (0, .ref 1), (1, .int cell), (2, .long p), (4, .long q)], [], wP (wCp ov un nx dp 0 cu st fi se th db cn) F, 0)) (s2 := (42, [(10, .int 0), (8, .long q), (6, .long (-p)), (0, .ref 1), (1, .int cell), (2, .long p), (4, .long q)], [], wP (wCp ov un nx dp 0 cu st fi se th db cn) F, 0)) rfl (fun h => absurd h (by decide)) (fun _ => ?_)
      refine mm_skip (mm_call_mono _ _) 3 (st' := (46, [(10, .int 0), (8, .long q), (6, .long (-p)), (0, .ref 1), (1, .int cell), (2, .long p), (4, .long q)], [.int (lg_cmp q 0)], wP (wCp ov un nx dp 0 cu st fi se th db cn) F, 0)) rfl ?_
      refine mm_branch (mm_call_mono _ _) (c := (lg_cmp q 0) = 0) (s1 := (70, [(10, .int 0), (8, .long q), (6, .long (-p)), (0, .ref 1), (1, .int cell), (2, .long p), (4, .long q)], [], wP (wCp ov un nx dp 0 cu st fi se th db cn) F, 0)) (s2 := (49, [(10, .int 0), (8, .long q), (6, .long (-p)), (0, .ref 1), (1, .int cell), (2, .long p), (4, .long q)], [], wP (wCp ov un nx dp 0 cu st fi se th db cn) F, 0)) rfl (fun h => absurd h (fun e => ne0_of hq1 ((lg_cmp_eq _ _).mp e))) (fun _ => ?_)
      refine mm_skip (mm_call_mono _ _) 2 (st' := (53, [(10, .int 0), (8, .long q), (6, .long (-p)), (0, .ref 1), (1, .int cell), (2, .long p), (4, .long q)], [.long q, .long (-p)], wP (wCp ov un nx dp 0 cu st fi se th db cn) F, 0)) rfl ?_
      refine mm_need (mm_call_mono _ _) (c := ¬ q = 0) (s' := (54, [(10, .int 0), (8, .long q), (6, .long (-p)), (0, .ref 1), (1, .int cell), (2, .long p), (4, .long q)], [.long ((-p) - (-p) / q * q)], wP (wCp ov un nx dp 0 cu st fi se th db cn) F, 0)) rfl (ne0_of hq1) ?_
      refine mm_skip (mm_call_mono _ _) 7 (st' := (35, [(10, .int 1), (8, .long ((-p) - (-p) / q * q)), (6, .long q), (11, .long ((-p) - (-p) / q * q)), (0, .ref 1), (1, .int cell), (2, .long p), (4, .long q)], [], wP (wCp ov un nx dp 0 cu st fi se th db cn) F, 0)) rfl ?_
      exact put0_loop hp hq hq1 hc hQ 99 1 _ _ _ (by omega)

theorem bz_0 {p : Prop} [Decidable p] (h : bz p = 0) : ¬ p := fun hp => by rw [bz_t hp] at h; revert h; decide
theorem bz_1 {p : Prop} [Decidable p] (h : ¬ bz p = 0) : p := by
  by_cases hp : p
  · exact hp
  · exact absurd (bz_f hp) h
set_option maxRecDepth 100000 in
theorem ct_C_isInput {d : Nat} {ov un : Nat → Int32} {nx dp fa : Int32} {cu : mm_cu} {st fi se th db : Nat → Int32} {cn : Int32} {F : mm_M} {a b : Int32} {Q : mm_R → mm_M → Prop} (hQ : Q (.inl (some (.int (bz (isin a b))))) (wP (wCp ov un nx dp fa cu st fi se th db cn) F)) : mm_call mm_Tb (d + 1) 23 [.int a, .int b] (wP (wCp ov un nx dp fa cu st fi se th db cn) F) Q := by
  refine mm_in mt_23 (Nat.le_of_ble_eq_true rfl) ?_
  show mm_W _ _ _ _ _ _ _ (0, [(0, .int a), (1, .int b)], [], wP (wCp ov un nx dp fa cu st fi se th db cn) F, 0)
  refine mm_skip (mm_call_mono _ _) 2 (st' := (4, [(0, .int a), (1, .int b)], [.int (-10000), .int a], wP (wCp ov un nx dp fa cu st fi se th db cn) F, 0)) rfl ?_
  refine mm_branch (mm_call_mono _ _) (c := a < (-10000)) (s1 := (30, [(0, .int a), (1, .int b)], [], wP (wCp ov un nx dp fa cu st fi se th db cn) F, 0)) (s2 := (7, [(0, .int a), (1, .int b)], [], wP (wCp ov un nx dp fa cu st fi se th db cn) F, 0)) rfl (fun h1 => ?_) (fun h1 => ?_)
  · skip
    refine mm_skip (mm_call_mono _ _) 1 (st' := (31, [(0, .int a), (1, .int b)], [.int 0], wP (wCp ov un nx dp fa cu st fi se th db cn) F, 0)) rfl ?_
    exact mm_ret (mm_call_mono _ _) (c := mm_z 0) (r := .inl (some (.int 0))) (M := wP (wCp ov un nx dp fa cu st fi se th db cn) F) (u := 0) rfl (by unfold mm_z; decide) (by decide) (by rw [bz_f (fun h => h.1 h1)] at hQ; exact hQ)
  · skip
    refine mm_skip (mm_call_mono _ _) 2 (st' := (11, [(0, .int a), (1, .int b)], [.int 10000, .int a], wP (wCp ov un nx dp fa cu st fi se th db cn) F, 0)) rfl ?_
    refine mm_branch (mm_call_mono _ _) (c := 10000 < a) (s1 := (30, [(0, .int a), (1, .int b)], [], wP (wCp ov un nx dp fa cu st fi se th db cn) F, 0)) (s2 := (14, [(0, .int a), (1, .int b)], [], wP (wCp ov un nx dp fa cu st fi se th db cn) F, 0)) rfl (fun h2 => ?_) (fun h2 => ?_)
    · skip
      refine mm_skip (mm_call_mono _ _) 1 (st' := (31, [(0, .int a), (1, .int b)], [.int 0], wP (wCp ov un nx dp fa cu st fi se th db cn) F, 0)) rfl ?_
      exact mm_ret (mm_call_mono _ _) (c := mm_z 0) (r := .inl (some (.int 0))) (M := wP (wCp ov un nx dp fa cu st fi se th db cn) F) (u := 0) rfl (by unfold mm_z; decide) (by decide) (by rw [bz_f (fun h => h.2.1 h2)] at hQ; exact hQ)
    · skip
      refine mm_skip (mm_call_mono _ _) 2 (st' := (16, [(0, .int a), (1, .int b)], [.int 1, .int b], wP (wCp ov un nx dp fa cu st fi se th db cn) F, 0)) rfl ?_
      refine mm_branch (mm_call_mono _ _) (c := b < 1) (s1 := (30, [(0, .int a), (1, .int b)], [], wP (wCp ov un nx dp fa cu st fi se th db cn) F, 0)) (s2 := (19, [(0, .int a), (1, .int b)], [], wP (wCp ov un nx dp fa cu st fi se th db cn) F, 0)) rfl (fun h3 => ?_) (fun h3 => ?_)
      · skip
        refine mm_skip (mm_call_mono _ _) 1 (st' := (31, [(0, .int a), (1, .int b)], [.int 0], wP (wCp ov un nx dp fa cu st fi se th db cn) F, 0)) rfl ?_
        exact mm_ret (mm_call_mono _ _) (c := mm_z 0) (r := .inl (some (.int 0))) (M := wP (wCp ov un nx dp fa cu st fi se th db cn) F) (u := 0) rfl (by unfold mm_z; decide) (by decide) (by rw [bz_f (fun h => h.2.2.1 h3)] at hQ; exact hQ)
      · skip
        refine mm_skip (mm_call_mono _ _) 2 (st' := (23, [(0, .int a), (1, .int b)], [.int 10000, .int b], wP (wCp ov un nx dp fa cu st fi se th db cn) F, 0)) rfl ?_
        refine mm_branch (mm_call_mono _ _) (c := 10000 < b) (s1 := (30, [(0, .int a), (1, .int b)], [], wP (wCp ov un nx dp fa cu st fi se th db cn) F, 0)) (s2 := (26, [(0, .int a), (1, .int b)], [], wP (wCp ov un nx dp fa cu st fi se th db cn) F, 0)) rfl (fun h4 => ?_) (fun h4 => ?_)
        · skip
          refine mm_skip (mm_call_mono _ _) 1 (st' := (31, [(0, .int a), (1, .int b)], [.int 0], wP (wCp ov un nx dp fa cu st fi se th db cn) F, 0)) rfl ?_
          exact mm_ret (mm_call_mono _ _) (c := mm_z 0) (r := .inl (some (.int 0))) (M := wP (wCp ov un nx dp fa cu st fi se th db cn) F) (u := 0) rfl (by unfold mm_z; decide) (by decide) (by rw [bz_f (fun h => h.2.2.2 h4)] at hQ; exact hQ)
        · skip
          refine mm_skip (mm_call_mono _ _) 2 (st' := (31, [(0, .int a), (1, .int b)], [.int 1], wP (wCp ov un nx dp fa cu st fi se th db cn) F, 0)) rfl ?_
          exact mm_ret (mm_call_mono _ _) (c := mm_z 1) (r := .inl (some (.int 1))) (M := wP (wCp ov un nx dp fa cu st fi se th db cn) F) (u := 0) rfl (by unfold mm_z; decide) (by decide) (by rw [bz_t ⟨h1, h2, h3, h4⟩] at hQ; exact hQ)

set_option maxRecDepth 100000 in
theorem ct_C_isPlace {d : Nat} {ov un : Nat → Int32} {nx dp fa : Int32} {cu : mm_cu} {st fi se th db : Nat → Int32} {cn : Int32} {F : mm_M} {a b c e : Int32} {Q : mm_R → mm_M → Prop} (hQ : Q (.inl (some (.int (bz (isin a b ∧ isin c e))))) (wP (wCp ov un nx dp fa cu st fi se th db cn) F)) : mm_call mm_Tb (d + 2) 22 [.int a, .int b, .int c, .int e] (wP (wCp ov un nx dp fa cu st fi se th db cn) F) Q := by
  refine mm_in mt_22 (Nat.le_of_ble_eq_true rfl) ?_
  show mm_W _ _ _ _ _ _ _ (0, [(0, .int a), (1, .int b), (2, .int c), (3, .int e)], [], wP (wCp ov un nx dp fa cu st fi se th db cn) F, 0)
  refine mm_skip (mm_call_mono _ _) 2 (st' := (2, [(0, .int a), (1, .int b), (2, .int c), (3, .int e)], [.int b, .int a], wP (wCp ov un nx dp fa cu st fi se th db cn) F, 0)) rfl ?_
  refine mm_inv (mm_call_mono _ _) (j := 23) (a := [.int a, .int b]) (M := wP (wCp ov un nx dp fa cu st fi se th db cn) F) (u := 0) rfl (by decide) (ct_C_isInput ?_)
  show mm_W _ _ _ _ _ _ _ (5, [(0, .int a), (1, .int b), (2, .int c), (3, .int e)], [.int (bz (isin a b))], wP (wCp ov un nx dp fa cu st fi se th db cn) F, 0)
  refine mm_branch (mm_call_mono _ _) (c := (bz (isin a b)) = 0) (s1 := (20, [(0, .int a), (1, .int b), (2, .int c), (3, .int e)], [], wP (wCp ov un nx dp fa cu st fi se th db cn) F, 0)) (s2 := (8, [(0, .int a), (1, .int b), (2, .int c), (3, .int e)], [], wP (wCp ov un nx dp fa cu st fi se th db cn) F, 0)) rfl (fun h1 => ?_) (fun h1 => ?_)
  · skip
    refine mm_skip (mm_call_mono _ _) 1 (st' := (21, [(0, .int a), (1, .int b), (2, .int c), (3, .int e)], [.int 0], wP (wCp ov un nx dp fa cu st fi se th db cn) F, 0)) rfl ?_
    exact mm_ret (mm_call_mono _ _) (c := mm_z 0) (r := .inl (some (.int 0))) (M := wP (wCp ov un nx dp fa cu st fi se th db cn) F) (u := 0) rfl (by unfold mm_z; decide) (by decide) (by rw [bz_f (fun h => bz_0 h1 h.1)] at hQ; exact hQ)
  · skip
    refine mm_skip (mm_call_mono _ _) 2 (st' := (10, [(0, .int a), (1, .int b), (2, .int c), (3, .int e)], [.int e, .int c], wP (wCp ov un nx dp fa cu st fi se th db cn) F, 0)) rfl ?_
    refine mm_inv (mm_call_mono _ _) (j := 23) (a := [.int c, .int e]) (M := wP (wCp ov un nx dp fa cu st fi se th db cn) F) (u := 0) rfl (by decide) (ct_C_isInput ?_)
    show mm_W _ _ _ _ _ _ _ (13, [(0, .int a), (1, .int b), (2, .int c), (3, .int e)], [.int (bz (isin c e))], wP (wCp ov un nx dp fa cu st fi se th db cn) F, 0)
    refine mm_branch (mm_call_mono _ _) (c := (bz (isin c e)) = 0) (s1 := (20, [(0, .int a), (1, .int b), (2, .int c), (3, .int e)], [], wP (wCp ov un nx dp fa cu st fi se th db cn) F, 0)) (s2 := (16, [(0, .int a), (1, .int b), (2, .int c), (3, .int e)], [], wP (wCp ov un nx dp fa cu st fi se th db cn) F, 0)) rfl (fun h2 => ?_) (fun h2 => ?_)
    · skip
      refine mm_skip (mm_call_mono _ _) 1 (st' := (21, [(0, .int a), (1, .int b), (2, .int c), (3, .int e)], [.int 0], wP (wCp ov un nx dp fa cu st fi se th db cn) F, 0)) rfl ?_
      exact mm_ret (mm_call_mono _ _) (c := mm_z 0) (r := .inl (some (.int 0))) (M := wP (wCp ov un nx dp fa cu st fi se th db cn) F) (u := 0) rfl (by unfold mm_z; decide) (by decide) (by rw [bz_f (fun h => bz_0 h2 h.2)] at hQ; exact hQ)
    · skip
      refine mm_skip (mm_call_mono _ _) 2 (st' := (21, [(0, .int a), (1, .int b), (2, .int c), (3, .int e)], [.int 1], wP (wCp ov un nx dp fa cu st fi se th db cn) F, 0)) rfl ?_
      exact mm_ret (mm_call_mono _ _) (c := mm_z 1) (r := .inl (some (.int 1))) (M := wP (wCp ov un nx dp fa cu st fi se th db cn) F) (u := 0) rfl (by unfold mm_z; decide) (by decide) (by rw [bz_t ⟨bz_1 h1, bz_1 h2⟩] at hQ; exact hQ)

set_option maxRecDepth 100000 in
theorem ct_N_begin {d : Nat} {ov un : Nat → Int32} {nx dp fa : Int32} {cu : mm_cu} {st fi se th db : Nat → Int32} {cn : Int32} {F : mm_M} {Q : mm_R → mm_M → Prop} (hQ : Q (.inl none) (wP (wCp ov un 308 dp 0 cu st fi se th db cn) F)) : mm_call mm_Tb (d + 1) 122 [.ref 1] (wP (wCp ov un nx dp fa cu st fi se th db cn) F) Q := by
  refine mm_in mt_122 (Nat.le_of_ble_eq_true rfl) ?_
  show mm_W _ _ _ _ _ _ _ (0, [(0, .ref 1)], [], wP (wCp ov un nx dp fa cu st fi se th db cn) F, 0)
  refine mm_skip (mm_call_mono _ _) 6 (st' := (10, [(0, .ref 1)], [.int 0, .ref 1], wP (wCp ov un 308 dp fa cu st fi se th db cn) F, 0)) rfl ?_
  refine mm_need (mm_call_mono _ _) (c := mm_z 0) (s' := (13, [(0, .ref 1)], [], wP (wCp ov un 308 dp 0 cu st fi se th db cn) F, 0)) rfl (by unfold mm_z; decide) ?_
  exact mm_ret (mm_call_mono _ _) (c := True) (r := .inl none) (M := wP (wCp ov un 308 dp 0 cu st fi se th db cn) F) (u := 0) rfl trivial (by decide) hQ

set_option maxRecDepth 100000 in
theorem ct_N_reserve308 {d : Nat} {ov un : Nat → Int32} {dp fa : Int32} {cu : mm_cu} {st fi se th db : Nat → Int32} {cn : Int32} {F : mm_M} {Q : mm_R → mm_M → Prop} (hQ : ∀ ov1 un1 : Nat → Int32, Q (.inl (some (.int 308))) (wP (wCp ov1 un1 312 dp fa cu st fi se th db cn) F)) : mm_call mm_Tb (d + 1) 138 [.ref 1] (wP (wCp ov un 308 dp fa cu st fi se th db cn) F) Q := by
  refine mm_in mt_138 (Nat.le_of_ble_eq_true rfl) ?_
  show mm_W _ _ _ _ _ _ _ (0, [(0, .ref 1)], [], wP (wCp ov un 308 dp fa cu st fi se th db cn) F, 0)
  refine mm_skip (mm_call_mono _ _) 7 (st' := (11, [(0, .ref 1)], [.int 1332, .int 312], wP (wCp ov un 308 dp fa cu st fi se th db cn) F, 0)) rfl ?_
  refine mm_branch (mm_call_mono _ _) (c := (312 : Int32) ≤ 1332) (s1 := (27, [(0, .ref 1)], [], wP (wCp ov un 308 dp fa cu st fi se th db cn) F, 0)) (s2 := (14, [(0, .ref 1)], [], wP (wCp ov un 308 dp fa cu st fi se th db cn) F, 0)) rfl (fun _ => ?_) (fun h => absurd (by decide) h)
  refine mm_skip (mm_call_mono _ _) 14 (st' := (49, [(2, .int 308), (1, .int 308), (0, .ref 1)], [.int 312, .int 308], wP (wCp ov un 312 dp fa cu st fi se th db cn) F, 0)) rfl ?_
  refine mm_branch (mm_call_mono _ _) (c := (312 : Int32) ≤ 308) (s1 := (72, [(2, .int 308), (1, .int 308), (0, .ref 1)], [], wP (wCp ov un 312 dp fa cu st fi se th db cn) F, 0)) (s2 := (52, [(2, .int 308), (1, .int 308), (0, .ref 1)], [], wP (wCp ov un 312 dp fa cu st fi se th db cn) F, 0)) rfl (fun h => absurd h (by decide)) (fun _ => ?_)
  refine mm_skip (mm_call_mono _ _) 4 (st' := (58, [(2, .int 308), (1, .int 308), (0, .ref 1)], [.int 0, .int 308, .ref 8], wP (wCp ov un 312 dp fa cu st fi se th db cn) F, 0)) rfl ?_
  refine mm_need (mm_call_mono _ _) (c := vp_in 308 1332) (s' := (59, [(2, .int 308), (1, .int 308), (0, .ref 1)], [], wP (wCp (upd ov 308 0) un 312 dp fa cu st fi se th db cn) F, 0)) rfl (by unfold vp_in; decide) ?_
  refine mm_skip (mm_call_mono _ _) 4 (st' := (65, [(2, .int 308), (1, .int 308), (0, .ref 1)], [.int 1, .int 308, .ref 9], wP (wCp (upd ov 308 0) un 312 dp fa cu st fi se th db cn) F, 0)) rfl ?_
  refine mm_need (mm_call_mono _ _) (c := vp_in 308 1332) (s' := (66, [(2, .int 308), (1, .int 308), (0, .ref 1)], [], wP (wCp (upd ov 308 0) (upd un 308 1) 312 dp fa cu st fi se th db cn) F, 0)) rfl (by unfold vp_in; decide) ?_
  refine mm_skip (mm_call_mono _ _) 5 (st' := (49, [(2, .int 309), (1, .int 308), (0, .ref 1)], [.int 312, .int 309], wP (wCp (upd ov 308 0) (upd un 308 1) 312 dp fa cu st fi se th db cn) F, 0)) rfl ?_
  refine mm_branch (mm_call_mono _ _) (c := (312 : Int32) ≤ 309) (s1 := (72, [(2, .int 309), (1, .int 308), (0, .ref 1)], [], wP (wCp (upd ov 308 0) (upd un 308 1) 312 dp fa cu st fi se th db cn) F, 0)) (s2 := (52, [(2, .int 309), (1, .int 308), (0, .ref 1)], [], wP (wCp (upd ov 308 0) (upd un 308 1) 312 dp fa cu st fi se th db cn) F, 0)) rfl (fun h => absurd h (by decide)) (fun _ => ?_)
  refine mm_skip (mm_call_mono _ _) 4 (st' := (58, [(2, .int 309), (1, .int 308), (0, .ref 1)], [.int 0, .int 309, .ref 8], wP (wCp (upd ov 308 0) (upd un 308 1) 312 dp fa cu st fi se th db cn) F, 0)) rfl ?_
  refine mm_need (mm_call_mono _ _) (c := vp_in 309 1332) (s' := (59, [(2, .int 309), (1, .int 308), (0, .ref 1)], [], wP (wCp (upd (upd ov 308 0) 309 0) (upd un 308 1) 312 dp fa cu st fi se th db cn) F, 0)) rfl (by unfold vp_in; decide) ?_
  refine mm_skip (mm_call_mono _ _) 4 (st' := (65, [(2, .int 309), (1, .int 308), (0, .ref 1)], [.int 1, .int 309, .ref 9], wP (wCp (upd (upd ov 308 0) 309 0) (upd un 308 1) 312 dp fa cu st fi se th db cn) F, 0)) rfl ?_
  refine mm_need (mm_call_mono _ _) (c := vp_in 309 1332) (s' := (66, [(2, .int 309), (1, .int 308), (0, .ref 1)], [], wP (wCp (upd (upd ov 308 0) 309 0) (upd (upd un 308 1) 309 1) 312 dp fa cu st fi se th db cn) F, 0)) rfl (by unfold vp_in; decide) ?_
  refine mm_skip (mm_call_mono _ _) 5 (st' := (49, [(2, .int 310), (1, .int 308), (0, .ref 1)], [.int 312, .int 310], wP (wCp (upd (upd ov 308 0) 309 0) (upd (upd un 308 1) 309 1) 312 dp fa cu st fi se th db cn) F, 0)) rfl ?_
  refine mm_branch (mm_call_mono _ _) (c := (312 : Int32) ≤ 310) (s1 := (72, [(2, .int 310), (1, .int 308), (0, .ref 1)], [], wP (wCp (upd (upd ov 308 0) 309 0) (upd (upd un 308 1) 309 1) 312 dp fa cu st fi se th db cn) F, 0)) (s2 := (52, [(2, .int 310), (1, .int 308), (0, .ref 1)], [], wP (wCp (upd (upd ov 308 0) 309 0) (upd (upd un 308 1) 309 1) 312 dp fa cu st fi se th db cn) F, 0)) rfl (fun h => absurd h (by decide)) (fun _ => ?_)
  refine mm_skip (mm_call_mono _ _) 4 (st' := (58, [(2, .int 310), (1, .int 308), (0, .ref 1)], [.int 0, .int 310, .ref 8], wP (wCp (upd (upd ov 308 0) 309 0) (upd (upd un 308 1) 309 1) 312 dp fa cu st fi se th db cn) F, 0)) rfl ?_
  refine mm_need (mm_call_mono _ _) (c := vp_in 310 1332) (s' := (59, [(2, .int 310), (1, .int 308), (0, .ref 1)], [], wP (wCp (upd (upd (upd ov 308 0) 309 0) 310 0) (upd (upd un 308 1) 309 1) 312 dp fa cu st fi se th db cn) F, 0)) rfl (by unfold vp_in; decide) ?_
  refine mm_skip (mm_call_mono _ _) 4 (st' := (65, [(2, .int 310), (1, .int 308), (0, .ref 1)], [.int 1, .int 310, .ref 9], wP (wCp (upd (upd (upd ov 308 0) 309 0) 310 0) (upd (upd un 308 1) 309 1) 312 dp fa cu st fi se th db cn) F, 0)) rfl ?_
  refine mm_need (mm_call_mono _ _) (c := vp_in 310 1332) (s' := (66, [(2, .int 310), (1, .int 308), (0, .ref 1)], [], wP (wCp (upd (upd (upd ov 308 0) 309 0) 310 0) (upd (upd (upd un 308 1) 309 1) 310 1) 312 dp fa cu st fi se th db cn) F, 0)) rfl (by unfold vp_in; decide) ?_
  refine mm_skip (mm_call_mono _ _) 5 (st' := (49, [(2, .int 311), (1, .int 308), (0, .ref 1)], [.int 312, .int 311], wP (wCp (upd (upd (upd ov 308 0) 309 0) 310 0) (upd (upd (upd un 308 1) 309 1) 310 1) 312 dp fa cu st fi se th db cn) F, 0)) rfl ?_
  refine mm_branch (mm_call_mono _ _) (c := (312 : Int32) ≤ 311) (s1 := (72, [(2, .int 311), (1, .int 308), (0, .ref 1)], [], wP (wCp (upd (upd (upd ov 308 0) 309 0) 310 0) (upd (upd (upd un 308 1) 309 1) 310 1) 312 dp fa cu st fi se th db cn) F, 0)) (s2 := (52, [(2, .int 311), (1, .int 308), (0, .ref 1)], [], wP (wCp (upd (upd (upd ov 308 0) 309 0) 310 0) (upd (upd (upd un 308 1) 309 1) 310 1) 312 dp fa cu st fi se th db cn) F, 0)) rfl (fun h => absurd h (by decide)) (fun _ => ?_)
  refine mm_skip (mm_call_mono _ _) 4 (st' := (58, [(2, .int 311), (1, .int 308), (0, .ref 1)], [.int 0, .int 311, .ref 8], wP (wCp (upd (upd (upd ov 308 0) 309 0) 310 0) (upd (upd (upd un 308 1) 309 1) 310 1) 312 dp fa cu st fi se th db cn) F, 0)) rfl ?_
  refine mm_need (mm_call_mono _ _) (c := vp_in 311 1332) (s' := (59, [(2, .int 311), (1, .int 308), (0, .ref 1)], [], wP (wCp (upd (upd (upd (upd ov 308 0) 309 0) 310 0) 311 0) (upd (upd (upd un 308 1) 309 1) 310 1) 312 dp fa cu st fi se th db cn) F, 0)) rfl (by unfold vp_in; decide) ?_
  refine mm_skip (mm_call_mono _ _) 4 (st' := (65, [(2, .int 311), (1, .int 308), (0, .ref 1)], [.int 1, .int 311, .ref 9], wP (wCp (upd (upd (upd (upd ov 308 0) 309 0) 310 0) 311 0) (upd (upd (upd un 308 1) 309 1) 310 1) 312 dp fa cu st fi se th db cn) F, 0)) rfl ?_
  refine mm_need (mm_call_mono _ _) (c := vp_in 311 1332) (s' := (66, [(2, .int 311), (1, .int 308), (0, .ref 1)], [], wP (wCp (upd (upd (upd (upd ov 308 0) 309 0) 310 0) 311 0) (upd (upd (upd (upd un 308 1) 309 1) 310 1) 311 1) 312 dp fa cu st fi se th db cn) F, 0)) rfl (by unfold vp_in; decide) ?_
  refine mm_skip (mm_call_mono _ _) 5 (st' := (49, [(2, .int 312), (1, .int 308), (0, .ref 1)], [.int 312, .int 312], wP (wCp (upd (upd (upd (upd ov 308 0) 309 0) 310 0) 311 0) (upd (upd (upd (upd un 308 1) 309 1) 310 1) 311 1) 312 dp fa cu st fi se th db cn) F, 0)) rfl ?_
  refine mm_branch (mm_call_mono _ _) (c := (312 : Int32) ≤ 312) (s1 := (72, [(2, .int 312), (1, .int 308), (0, .ref 1)], [], wP (wCp (upd (upd (upd (upd ov 308 0) 309 0) 310 0) 311 0) (upd (upd (upd (upd un 308 1) 309 1) 310 1) 311 1) 312 dp fa cu st fi se th db cn) F, 0)) (s2 := (52, [(2, .int 312), (1, .int 308), (0, .ref 1)], [], wP (wCp (upd (upd (upd (upd ov 308 0) 309 0) 310 0) 311 0) (upd (upd (upd (upd un 308 1) 309 1) 310 1) 311 1) 312 dp fa cu st fi se th db cn) F, 0)) rfl (fun _ => ?_) (fun h => absurd (by decide) h)
  refine mm_skip (mm_call_mono _ _) 1 (st' := (73, [(2, .int 312), (1, .int 308), (0, .ref 1)], [.int 308], wP (wCp (upd (upd (upd (upd ov 308 0) 309 0) 310 0) 311 0) (upd (upd (upd (upd un 308 1) 309 1) 310 1) 311 1) 312 dp fa cu st fi se th db cn) F, 0)) rfl ?_
  exact mm_ret (mm_call_mono _ _) (c := True) (r := .inl (some (.int 308))) (M := wP (wCp (upd (upd (upd (upd ov 308 0) 309 0) 310 0) 311 0) (upd (upd (upd (upd un 308 1) 309 1) 310 1) 311 1) 312 dp fa cu st fi se th db cn) F) (u := 0) rfl trivial (by decide) (hQ _ _)

set_option maxRecDepth 100000 in
theorem ct_N_quotient308 {d : Nat} {ov un : Nat → Int32} {dp : Int32} {cu : mm_cu} {st fi se th db : Nat → Int32} {cn : Int32} {F : mm_M} {a b : Int32} {Q : mm_R → mm_M → Prop} (hi : isin a b) (hQ : ∀ ov1 un1 : Nat → Int32, Q (.inl (some (.int 308))) (wP (wCp ov1 un1 312 dp 0 cu st fi se th db cn) F)) : mm_call mm_Tb (d + 2) 128 [.ref 1, .int a, .int b] (wP (wCp ov un 308 dp 0 cu st fi se th db cn) F) Q := by
  refine mm_in mt_128 (Nat.le_of_ble_eq_true rfl) ?_
  show mm_W _ _ _ _ _ _ _ (0, [(0, .ref 1), (1, .int a), (2, .int b)], [], wP (wCp ov un 308 dp 0 cu st fi se th db cn) F, 0)
  refine mm_skip (mm_call_mono _ _) 1 (st' := (1, [(0, .ref 1), (1, .int a), (2, .int b)], [.ref 1], wP (wCp ov un 308 dp 0 cu st fi se th db cn) F, 0)) rfl ?_
  refine mm_inv (mm_call_mono _ _) (j := 138) (a := [.ref 1]) (M := wP (wCp ov un 308 dp 0 cu st fi se th db cn) F) (u := 0) rfl (by decide) (ct_N_reserve308 (fun ov1 un1 => ?_))
  show mm_W _ _ _ _ _ _ _ (4, [(0, .ref 1), (1, .int a), (2, .int b)], [.int 308], wP (wCp ov1 un1 312 dp 0 cu st fi se th db cn) F, 0)
  refine mm_skip (mm_call_mono _ _) 7 (st' := (11, [(3, .int 308), (0, .ref 1), (1, .int a), (2, .int b)], [.long (Int32.toInt64 b), .long (Int32.toInt64 a), .int 308, .ref 1], wP (wCp ov1 un1 312 dp 0 cu st fi se th db cn) F, 0)) rfl ?_
  refine mm_inv (mm_call_mono _ _) (j := 139) (a := [.ref 1, .int 308, .long (Int32.toInt64 a), .long (Int32.toInt64 b)]) (M := wP (wCp ov1 un1 312 dp 0 cu st fi se th db cn) F) (u := 0) rfl (by decide) (ct_N_put0 (isin_sm hi).1 (isin_sm hi).2.1 (isin_sm hi).2.2 (by unfold vp_in; decide) (fun ov2 un2 => ?_))
  show mm_W _ _ _ _ _ _ _ (14, [(3, .int 308), (0, .ref 1), (1, .int a), (2, .int b)], [], wP (wCp ov2 un2 312 dp 0 cu st fi se th db cn) F, 0)
  refine mm_skip (mm_call_mono _ _) 1 (st' := (15, [(3, .int 308), (0, .ref 1), (1, .int a), (2, .int b)], [.int 308], wP (wCp ov2 un2 312 dp 0 cu st fi se th db cn) F, 0)) rfl ?_
  exact mm_ret (mm_call_mono _ _) (c := True) (r := .inl (some (.int 308))) (M := wP (wCp ov2 un2 312 dp 0 cu st fi se th db cn) F) (u := 0) rfl trivial (by decide) (hQ _ _)

set_option maxRecDepth 100000 in
theorem ct_N_reserve312 {d : Nat} {ov un : Nat → Int32} {dp fa : Int32} {cu : mm_cu} {st fi se th db : Nat → Int32} {cn : Int32} {F : mm_M} {Q : mm_R → mm_M → Prop} (hQ : ∀ ov1 un1 : Nat → Int32, Q (.inl (some (.int 312))) (wP (wCp ov1 un1 316 dp fa cu st fi se th db cn) F)) : mm_call mm_Tb (d + 1) 138 [.ref 1] (wP (wCp ov un 312 dp fa cu st fi se th db cn) F) Q := by
  refine mm_in mt_138 (Nat.le_of_ble_eq_true rfl) ?_
  show mm_W _ _ _ _ _ _ _ (0, [(0, .ref 1)], [], wP (wCp ov un 312 dp fa cu st fi se th db cn) F, 0)
  refine mm_skip (mm_call_mono _ _) 7 (st' := (11, [(0, .ref 1)], [.int 1332, .int 316], wP (wCp ov un 312 dp fa cu st fi se th db cn) F, 0)) rfl ?_
  refine mm_branch (mm_call_mono _ _) (c := (316 : Int32) ≤ 1332) (s1 := (27, [(0, .ref 1)], [], wP (wCp ov un 312 dp fa cu st fi se th db cn) F, 0)) (s2 := (14, [(0, .ref 1)], [], wP (wCp ov un 312 dp fa cu st fi se th db cn) F, 0)) rfl (fun _ => ?_) (fun h => absurd (by decide) h)
  refine mm_skip (mm_call_mono _ _) 14 (st' := (49, [(2, .int 312), (1, .int 312), (0, .ref 1)], [.int 316, .int 312], wP (wCp ov un 316 dp fa cu st fi se th db cn) F, 0)) rfl ?_
  refine mm_branch (mm_call_mono _ _) (c := (316 : Int32) ≤ 312) (s1 := (72, [(2, .int 312), (1, .int 312), (0, .ref 1)], [], wP (wCp ov un 316 dp fa cu st fi se th db cn) F, 0)) (s2 := (52, [(2, .int 312), (1, .int 312), (0, .ref 1)], [], wP (wCp ov un 316 dp fa cu st fi se th db cn) F, 0)) rfl (fun h => absurd h (by decide)) (fun _ => ?_)
  refine mm_skip (mm_call_mono _ _) 4 (st' := (58, [(2, .int 312), (1, .int 312), (0, .ref 1)], [.int 0, .int 312, .ref 8], wP (wCp ov un 316 dp fa cu st fi se th db cn) F, 0)) rfl ?_
  refine mm_need (mm_call_mono _ _) (c := vp_in 312 1332) (s' := (59, [(2, .int 312), (1, .int 312), (0, .ref 1)], [], wP (wCp (upd ov 312 0) un 316 dp fa cu st fi se th db cn) F, 0)) rfl (by unfold vp_in; decide) ?_
  refine mm_skip (mm_call_mono _ _) 4 (st' := (65, [(2, .int 312), (1, .int 312), (0, .ref 1)], [.int 1, .int 312, .ref 9], wP (wCp (upd ov 312 0) un 316 dp fa cu st fi se th db cn) F, 0)) rfl ?_
  refine mm_need (mm_call_mono _ _) (c := vp_in 312 1332) (s' := (66, [(2, .int 312), (1, .int 312), (0, .ref 1)], [], wP (wCp (upd ov 312 0) (upd un 312 1) 316 dp fa cu st fi se th db cn) F, 0)) rfl (by unfold vp_in; decide) ?_
  refine mm_skip (mm_call_mono _ _) 5 (st' := (49, [(2, .int 313), (1, .int 312), (0, .ref 1)], [.int 316, .int 313], wP (wCp (upd ov 312 0) (upd un 312 1) 316 dp fa cu st fi se th db cn) F, 0)) rfl ?_
  refine mm_branch (mm_call_mono _ _) (c := (316 : Int32) ≤ 313) (s1 := (72, [(2, .int 313), (1, .int 312), (0, .ref 1)], [], wP (wCp (upd ov 312 0) (upd un 312 1) 316 dp fa cu st fi se th db cn) F, 0)) (s2 := (52, [(2, .int 313), (1, .int 312), (0, .ref 1)], [], wP (wCp (upd ov 312 0) (upd un 312 1) 316 dp fa cu st fi se th db cn) F, 0)) rfl (fun h => absurd h (by decide)) (fun _ => ?_)
  refine mm_skip (mm_call_mono _ _) 4 (st' := (58, [(2, .int 313), (1, .int 312), (0, .ref 1)], [.int 0, .int 313, .ref 8], wP (wCp (upd ov 312 0) (upd un 312 1) 316 dp fa cu st fi se th db cn) F, 0)) rfl ?_
  refine mm_need (mm_call_mono _ _) (c := vp_in 313 1332) (s' := (59, [(2, .int 313), (1, .int 312), (0, .ref 1)], [], wP (wCp (upd (upd ov 312 0) 313 0) (upd un 312 1) 316 dp fa cu st fi se th db cn) F, 0)) rfl (by unfold vp_in; decide) ?_
  refine mm_skip (mm_call_mono _ _) 4 (st' := (65, [(2, .int 313), (1, .int 312), (0, .ref 1)], [.int 1, .int 313, .ref 9], wP (wCp (upd (upd ov 312 0) 313 0) (upd un 312 1) 316 dp fa cu st fi se th db cn) F, 0)) rfl ?_
  refine mm_need (mm_call_mono _ _) (c := vp_in 313 1332) (s' := (66, [(2, .int 313), (1, .int 312), (0, .ref 1)], [], wP (wCp (upd (upd ov 312 0) 313 0) (upd (upd un 312 1) 313 1) 316 dp fa cu st fi se th db cn) F, 0)) rfl (by unfold vp_in; decide) ?_
  refine mm_skip (mm_call_mono _ _) 5 (st' := (49, [(2, .int 314), (1, .int 312), (0, .ref 1)], [.int 316, .int 314], wP (wCp (upd (upd ov 312 0) 313 0) (upd (upd un 312 1) 313 1) 316 dp fa cu st fi se th db cn) F, 0)) rfl ?_
  refine mm_branch (mm_call_mono _ _) (c := (316 : Int32) ≤ 314) (s1 := (72, [(2, .int 314), (1, .int 312), (0, .ref 1)], [], wP (wCp (upd (upd ov 312 0) 313 0) (upd (upd un 312 1) 313 1) 316 dp fa cu st fi se th db cn) F, 0)) (s2 := (52, [(2, .int 314), (1, .int 312), (0, .ref 1)], [], wP (wCp (upd (upd ov 312 0) 313 0) (upd (upd un 312 1) 313 1) 316 dp fa cu st fi se th db cn) F, 0)) rfl (fun h => absurd h (by decide)) (fun _ => ?_)
  refine mm_skip (mm_call_mono _ _) 4 (st' := (58, [(2, .int 314), (1, .int 312), (0, .ref 1)], [.int 0, .int 314, .ref 8], wP (wCp (upd (upd ov 312 0) 313 0) (upd (upd un 312 1) 313 1) 316 dp fa cu st fi se th db cn) F, 0)) rfl ?_
  refine mm_need (mm_call_mono _ _) (c := vp_in 314 1332) (s' := (59, [(2, .int 314), (1, .int 312), (0, .ref 1)], [], wP (wCp (upd (upd (upd ov 312 0) 313 0) 314 0) (upd (upd un 312 1) 313 1) 316 dp fa cu st fi se th db cn) F, 0)) rfl (by unfold vp_in; decide) ?_
  refine mm_skip (mm_call_mono _ _) 4 (st' := (65, [(2, .int 314), (1, .int 312), (0, .ref 1)], [.int 1, .int 314, .ref 9], wP (wCp (upd (upd (upd ov 312 0) 313 0) 314 0) (upd (upd un 312 1) 313 1) 316 dp fa cu st fi se th db cn) F, 0)) rfl ?_
  refine mm_need (mm_call_mono _ _) (c := vp_in 314 1332) (s' := (66, [(2, .int 314), (1, .int 312), (0, .ref 1)], [], wP (wCp (upd (upd (upd ov 312 0) 313 0) 314 0) (upd (upd (upd un 312 1) 313 1) 314 1) 316 dp fa cu st fi se th db cn) F, 0)) rfl (by unfold vp_in; decide) ?_
  refine mm_skip (mm_call_mono _ _) 5 (st' := (49, [(2, .int 315), (1, .int 312), (0, .ref 1)], [.int 316, .int 315], wP (wCp (upd (upd (upd ov 312 0) 313 0) 314 0) (upd (upd (upd un 312 1) 313 1) 314 1) 316 dp fa cu st fi se th db cn) F, 0)) rfl ?_
  refine mm_branch (mm_call_mono _ _) (c := (316 : Int32) ≤ 315) (s1 := (72, [(2, .int 315), (1, .int 312), (0, .ref 1)], [], wP (wCp (upd (upd (upd ov 312 0) 313 0) 314 0) (upd (upd (upd un 312 1) 313 1) 314 1) 316 dp fa cu st fi se th db cn) F, 0)) (s2 := (52, [(2, .int 315), (1, .int 312), (0, .ref 1)], [], wP (wCp (upd (upd (upd ov 312 0) 313 0) 314 0) (upd (upd (upd un 312 1) 313 1) 314 1) 316 dp fa cu st fi se th db cn) F, 0)) rfl (fun h => absurd h (by decide)) (fun _ => ?_)
  refine mm_skip (mm_call_mono _ _) 4 (st' := (58, [(2, .int 315), (1, .int 312), (0, .ref 1)], [.int 0, .int 315, .ref 8], wP (wCp (upd (upd (upd ov 312 0) 313 0) 314 0) (upd (upd (upd un 312 1) 313 1) 314 1) 316 dp fa cu st fi se th db cn) F, 0)) rfl ?_
  refine mm_need (mm_call_mono _ _) (c := vp_in 315 1332) (s' := (59, [(2, .int 315), (1, .int 312), (0, .ref 1)], [], wP (wCp (upd (upd (upd (upd ov 312 0) 313 0) 314 0) 315 0) (upd (upd (upd un 312 1) 313 1) 314 1) 316 dp fa cu st fi se th db cn) F, 0)) rfl (by unfold vp_in; decide) ?_
  refine mm_skip (mm_call_mono _ _) 4 (st' := (65, [(2, .int 315), (1, .int 312), (0, .ref 1)], [.int 1, .int 315, .ref 9], wP (wCp (upd (upd (upd (upd ov 312 0) 313 0) 314 0) 315 0) (upd (upd (upd un 312 1) 313 1) 314 1) 316 dp fa cu st fi se th db cn) F, 0)) rfl ?_
  refine mm_need (mm_call_mono _ _) (c := vp_in 315 1332) (s' := (66, [(2, .int 315), (1, .int 312), (0, .ref 1)], [], wP (wCp (upd (upd (upd (upd ov 312 0) 313 0) 314 0) 315 0) (upd (upd (upd (upd un 312 1) 313 1) 314 1) 315 1) 316 dp fa cu st fi se th db cn) F, 0)) rfl (by unfold vp_in; decide) ?_
  refine mm_skip (mm_call_mono _ _) 5 (st' := (49, [(2, .int 316), (1, .int 312), (0, .ref 1)], [.int 316, .int 316], wP (wCp (upd (upd (upd (upd ov 312 0) 313 0) 314 0) 315 0) (upd (upd (upd (upd un 312 1) 313 1) 314 1) 315 1) 316 dp fa cu st fi se th db cn) F, 0)) rfl ?_
  refine mm_branch (mm_call_mono _ _) (c := (316 : Int32) ≤ 316) (s1 := (72, [(2, .int 316), (1, .int 312), (0, .ref 1)], [], wP (wCp (upd (upd (upd (upd ov 312 0) 313 0) 314 0) 315 0) (upd (upd (upd (upd un 312 1) 313 1) 314 1) 315 1) 316 dp fa cu st fi se th db cn) F, 0)) (s2 := (52, [(2, .int 316), (1, .int 312), (0, .ref 1)], [], wP (wCp (upd (upd (upd (upd ov 312 0) 313 0) 314 0) 315 0) (upd (upd (upd (upd un 312 1) 313 1) 314 1) 315 1) 316 dp fa cu st fi se th db cn) F, 0)) rfl (fun _ => ?_) (fun h => absurd (by decide) h)
  refine mm_skip (mm_call_mono _ _) 1 (st' := (73, [(2, .int 316), (1, .int 312), (0, .ref 1)], [.int 312], wP (wCp (upd (upd (upd (upd ov 312 0) 313 0) 314 0) 315 0) (upd (upd (upd (upd un 312 1) 313 1) 314 1) 315 1) 316 dp fa cu st fi se th db cn) F, 0)) rfl ?_
  exact mm_ret (mm_call_mono _ _) (c := True) (r := .inl (some (.int 312))) (M := wP (wCp (upd (upd (upd (upd ov 312 0) 313 0) 314 0) 315 0) (upd (upd (upd (upd un 312 1) 313 1) 314 1) 315 1) 316 dp fa cu st fi se th db cn) F) (u := 0) rfl trivial (by decide) (hQ _ _)

set_option maxRecDepth 100000 in
theorem ct_N_quotient312 {d : Nat} {ov un : Nat → Int32} {dp : Int32} {cu : mm_cu} {st fi se th db : Nat → Int32} {cn : Int32} {F : mm_M} {a b : Int32} {Q : mm_R → mm_M → Prop} (hi : isin a b) (hQ : ∀ ov1 un1 : Nat → Int32, Q (.inl (some (.int 312))) (wP (wCp ov1 un1 316 dp 0 cu st fi se th db cn) F)) : mm_call mm_Tb (d + 2) 128 [.ref 1, .int a, .int b] (wP (wCp ov un 312 dp 0 cu st fi se th db cn) F) Q := by
  refine mm_in mt_128 (Nat.le_of_ble_eq_true rfl) ?_
  show mm_W _ _ _ _ _ _ _ (0, [(0, .ref 1), (1, .int a), (2, .int b)], [], wP (wCp ov un 312 dp 0 cu st fi se th db cn) F, 0)
  refine mm_skip (mm_call_mono _ _) 1 (st' := (1, [(0, .ref 1), (1, .int a), (2, .int b)], [.ref 1], wP (wCp ov un 312 dp 0 cu st fi se th db cn) F, 0)) rfl ?_
  refine mm_inv (mm_call_mono _ _) (j := 138) (a := [.ref 1]) (M := wP (wCp ov un 312 dp 0 cu st fi se th db cn) F) (u := 0) rfl (by decide) (ct_N_reserve312 (fun ov1 un1 => ?_))
  show mm_W _ _ _ _ _ _ _ (4, [(0, .ref 1), (1, .int a), (2, .int b)], [.int 312], wP (wCp ov1 un1 316 dp 0 cu st fi se th db cn) F, 0)
  refine mm_skip (mm_call_mono _ _) 7 (st' := (11, [(3, .int 312), (0, .ref 1), (1, .int a), (2, .int b)], [.long (Int32.toInt64 b), .long (Int32.toInt64 a), .int 312, .ref 1], wP (wCp ov1 un1 316 dp 0 cu st fi se th db cn) F, 0)) rfl ?_
  refine mm_inv (mm_call_mono _ _) (j := 139) (a := [.ref 1, .int 312, .long (Int32.toInt64 a), .long (Int32.toInt64 b)]) (M := wP (wCp ov1 un1 316 dp 0 cu st fi se th db cn) F) (u := 0) rfl (by decide) (ct_N_put0 (isin_sm hi).1 (isin_sm hi).2.1 (isin_sm hi).2.2 (by unfold vp_in; decide) (fun ov2 un2 => ?_))
  show mm_W _ _ _ _ _ _ _ (14, [(3, .int 312), (0, .ref 1), (1, .int a), (2, .int b)], [], wP (wCp ov2 un2 316 dp 0 cu st fi se th db cn) F, 0)
  refine mm_skip (mm_call_mono _ _) 1 (st' := (15, [(3, .int 312), (0, .ref 1), (1, .int a), (2, .int b)], [.int 312], wP (wCp ov2 un2 316 dp 0 cu st fi se th db cn) F, 0)) rfl ?_
  exact mm_ret (mm_call_mono _ _) (c := True) (r := .inl (some (.int 312))) (M := wP (wCp ov2 un2 316 dp 0 cu st fi se th db cn) F) (u := 0) rfl trivial (by decide) (hQ _ _)

set_option maxRecDepth 100000 in
theorem ct_N_home {d : Nat} {ov un : Nat → Int32} {nx dp fa : Int32} {cu : mm_cu} {st fi se th db : Nat → Int32} {cn : Int32} {F : mm_M} {i : Int32} {Q : mm_R → mm_M → Prop} (hQ : Q (.inl (some (.int ((2 + i) * 4)))) (wP (wCp ov un nx dp fa cu st fi se th db cn) F)) : mm_call mm_Tb (d + 1) 121 [.int i] (wP (wCp ov un nx dp fa cu st fi se th db cn) F) Q := by
  refine mm_in mt_121 (Nat.le_of_ble_eq_true rfl) ?_
  show mm_W _ _ _ _ _ _ _ (0, [(0, .int i)], [], wP (wCp ov un nx dp fa cu st fi se th db cn) F, 0)
  refine mm_skip (mm_call_mono _ _) 5 (st' := (5, [(0, .int i)], [.int ((2 + i) * 4)], wP (wCp ov un nx dp fa cu st fi se th db cn) F, 0)) rfl ?_
  exact mm_ret (mm_call_mono _ _) (c := True) (r := .inl (some (.int ((2 + i) * 4)))) (M := wP (wCp ov un nx dp fa cu st fi se th db cn) F) (u := 0) rfl trivial (by decide) hQ

set_option maxRecDepth 100000 in
theorem ct_C_xOf00 {d : Nat} {ov un : Nat → Int32} {nx dp fa : Int32} {cu : mm_cu} {st fi se th db : Nat → Int32} {cn : Int32} {F : mm_M} {Q : mm_R → mm_M → Prop} (hQ : Q (.inl (some (.int 8))) (wP (wCp ov un nx dp fa cu st fi se th db cn) F)) : mm_call mm_Tb (d + 2) 41 [.int 0] (wP (wCp ov un nx dp fa cu st fi se th db cn) F) Q := by
  refine mm_in mt_41 (Nat.le_of_ble_eq_true rfl) ?_
  show mm_W _ _ _ _ _ _ _ (0, [(0, .int 0)], [], wP (wCp ov un nx dp fa cu st fi se th db cn) F, 0)
  refine mm_skip (mm_call_mono _ _) 3 (st' := (3, [(0, .int 0)], [.int 0], wP (wCp ov un nx dp fa cu st fi se th db cn) F, 0)) rfl ?_
  refine mm_inv (mm_call_mono _ _) (j := 121) (a := [.int 0]) (M := wP (wCp ov un nx dp fa cu st fi se th db cn) F) (u := 0) rfl (by decide) (ct_N_home ?_)
  show mm_W _ _ _ _ _ _ _ (6, [(0, .int 0)], [.int 8], wP (wCp ov un nx dp fa cu st fi se th db cn) F, 0)
  exact mm_ret (mm_call_mono _ _) (c := True) (r := .inl (some (.int 8))) (M := wP (wCp ov un nx dp fa cu st fi se th db cn) F) (u := 0) rfl trivial (by decide) hQ

set_option maxRecDepth 100000 in
theorem ct_C_yOf00 {d : Nat} {ov un : Nat → Int32} {nx dp fa : Int32} {cu : mm_cu} {st fi se th db : Nat → Int32} {cn : Int32} {F : mm_M} {Q : mm_R → mm_M → Prop} (hQ : Q (.inl (some (.int 12))) (wP (wCp ov un nx dp fa cu st fi se th db cn) F)) : mm_call mm_Tb (d + 2) 42 [.int 0] (wP (wCp ov un nx dp fa cu st fi se th db cn) F) Q := by
  refine mm_in mt_42 (Nat.le_of_ble_eq_true rfl) ?_
  show mm_W _ _ _ _ _ _ _ (0, [(0, .int 0)], [], wP (wCp ov un nx dp fa cu st fi se th db cn) F, 0)
  refine mm_skip (mm_call_mono _ _) 5 (st' := (5, [(0, .int 0)], [.int 1], wP (wCp ov un nx dp fa cu st fi se th db cn) F, 0)) rfl ?_
  refine mm_inv (mm_call_mono _ _) (j := 121) (a := [.int 1]) (M := wP (wCp ov un nx dp fa cu st fi se th db cn) F) (u := 0) rfl (by decide) (ct_N_home ?_)
  show mm_W _ _ _ _ _ _ _ (8, [(0, .int 0)], [.int 12], wP (wCp ov un nx dp fa cu st fi se th db cn) F, 0)
  exact mm_ret (mm_call_mono _ _) (c := True) (r := .inl (some (.int 12))) (M := wP (wCp ov un nx dp fa cu st fi se th db cn) F) (u := 0) rfl trivial (by decide) hQ

set_option maxRecDepth 100000 in
theorem ct_N_copy0 {d : Nat} {ov un : Nat → Int32} {nx dp fa : Int32} {cu : mm_cu} {st fi se th db : Nat → Int32} {cn : Int32} {F : mm_M} {x y : Int32} {Q : mm_R → mm_M → Prop} (hc : ¬ x < 0 ∧ ¬ y < 0 ∧ ¬ (4 : Int32) < 0 ∧ Int32.toNatClampNeg x + 4 ≤ 1332 ∧ Int32.toNatClampNeg y + 4 ≤ 1332) (hQ : ∀ ov1 un1 : Nat → Int32, Q (.inl none) (wP (wCp ov1 un1 nx dp fa cu st fi se th db cn) F)) : mm_call mm_Tb (d + 1) 124 [.ref 1, .int x, .int y] (wP (wCp ov un nx dp fa cu st fi se th db cn) F) Q := by
  refine mm_in mt_124 (Nat.le_of_ble_eq_true rfl) ?_
  show mm_W _ _ _ _ _ _ _ (0, [(0, .ref 1), (1, .int x), (2, .int y)], [], wP (wCp ov un nx dp fa cu st fi se th db cn) F, 0)
  refine mm_skip (mm_call_mono _ _) 7 (st' := (11, [(0, .ref 1), (1, .int x), (2, .int y)], [.int 4, .int y, .ref 8, .int x, .ref 8], wP (wCp ov un nx dp fa cu st fi se th db cn) F, 0)) rfl ?_
  refine mm_need (mm_call_mono _ _) (c := ¬ x < 0 ∧ ¬ y < 0 ∧ ¬ (4 : Int32) < 0 ∧ (Int32.toNatClampNeg x) + 4 ≤ 1332 ∧ (Int32.toNatClampNeg y) + 4 ≤ 1332) (s' := (14, [(0, .ref 1), (1, .int x), (2, .int y)], [], wP (wCp (va_cpy ov ov (Int32.toNatClampNeg x) (Int32.toNatClampNeg y) 4) un nx dp fa cu st fi se th db cn) F, 0)) rfl hc ?_
  refine mm_skip (mm_call_mono _ _) 7 (st' := (25, [(0, .ref 1), (1, .int x), (2, .int y)], [.int 4, .int y, .ref 9, .int x, .ref 9], wP (wCp (va_cpy ov ov (Int32.toNatClampNeg x) (Int32.toNatClampNeg y) 4) un nx dp fa cu st fi se th db cn) F, 0)) rfl ?_
  refine mm_need (mm_call_mono _ _) (c := ¬ x < 0 ∧ ¬ y < 0 ∧ ¬ (4 : Int32) < 0 ∧ (Int32.toNatClampNeg x) + 4 ≤ 1332 ∧ (Int32.toNatClampNeg y) + 4 ≤ 1332) (s' := (28, [(0, .ref 1), (1, .int x), (2, .int y)], [], wP (wCp (va_cpy ov ov (Int32.toNatClampNeg x) (Int32.toNatClampNeg y) 4) (va_cpy un un (Int32.toNatClampNeg x) (Int32.toNatClampNeg y) 4) nx dp fa cu st fi se th db cn) F, 0)) rfl hc ?_
  exact mm_ret (mm_call_mono _ _) (c := True) (r := .inl none) (M := wP (wCp (va_cpy ov ov (Int32.toNatClampNeg x) (Int32.toNatClampNeg y) 4) (va_cpy un un (Int32.toNatClampNeg x) (Int32.toNatClampNeg y) 4) nx dp fa cu st fi se th db cn) F) (u := 0) rfl trivial (by decide) (hQ _ _)

set_option maxRecDepth 100000 in
theorem ct_C_place0 {d : Nat} {ov un : Nat → Int32} {nx dp fa : Int32} {cu : mm_cu} {st fi se th db : Nat → Int32} {cn : Int32} {F : mm_M} {a b c e : Int32} {Q : mm_R → mm_M → Prop} (hi : isin a b ∧ isin c e) (hQ : ∀ (ov1 un1 : Nat → Int32), Q (.inl none) (wP (wCp ov1 un1 316 dp 0 cu st fi se th db cn) F)) : mm_call mm_Tb (d + 3) 39 [.ref 0, .int 0, .int a, .int b, .int c, .int e] (wP (wCp ov un nx dp fa cu st fi se th db cn) F) Q := by
  refine mm_in mt_39 (Nat.le_of_ble_eq_true rfl) ?_
  show mm_W _ _ _ _ _ _ _ (0, [(0, .ref 0), (1, .int 0), (2, .int a), (3, .int b), (4, .int c), (5, .int e)], [], wP (wCp ov un nx dp fa cu st fi se th db cn) F, 0)
  refine mm_skip (mm_call_mono _ _) 2 (st' := (4, [(0, .ref 0), (1, .int 0), (2, .int a), (3, .int b), (4, .int c), (5, .int e)], [.ref 1], wP (wCp ov un nx dp fa cu st fi se th db cn) F, 0)) rfl ?_
  refine mm_inv (mm_call_mono _ _) (j := 122) (a := [.ref 1]) (M := wP (wCp ov un nx dp fa cu st fi se th db cn) F) (u := 0) rfl (by decide) (ct_N_begin ?_)
  show mm_W _ _ _ _ _ _ _ (7, [(0, .ref 0), (1, .int 0), (2, .int a), (3, .int b), (4, .int c), (5, .int e)], [], wP (wCp ov un 308 dp 0 cu st fi se th db cn) F, 0)
  refine mm_skip (mm_call_mono _ _) 6 (st' := (17, [(0, .ref 0), (1, .int 0), (2, .int a), (3, .int b), (4, .int c), (5, .int e)], [.int b, .int a, .ref 1, .ref 1], wP (wCp ov un 308 dp 0 cu st fi se th db cn) F, 0)) rfl ?_
  refine mm_inv (mm_call_mono _ _) (j := 128) (a := [.ref 1, .int a, .int b]) (M := wP (wCp ov un 308 dp 0 cu st fi se th db cn) F) (u := 0) rfl (by decide) (ct_N_quotient308 hi.1 (fun ov1 un1 => ?_))
  show mm_W _ _ _ _ _ _ _ (20, [(0, .ref 0), (1, .int 0), (2, .int a), (3, .int b), (4, .int c), (5, .int e)], [.int 308, .ref 1], wP (wCp ov1 un1 312 dp 0 cu st fi se th db cn) F, 0)
  refine mm_skip (mm_call_mono _ _) 1 (st' := (21, [(0, .ref 0), (1, .int 0), (2, .int a), (3, .int b), (4, .int c), (5, .int e)], [.int 0, .int 308, .ref 1], wP (wCp ov1 un1 312 dp 0 cu st fi se th db cn) F, 0)) rfl ?_
  refine mm_inv (mm_call_mono _ _) (j := 41) (a := [.int 0]) (M := wP (wCp ov1 un1 312 dp 0 cu st fi se th db cn) F) (u := 0) rfl (by decide) (ct_C_xOf00 ?_)
  show mm_W _ _ _ _ _ _ _ (24, [(0, .ref 0), (1, .int 0), (2, .int a), (3, .int b), (4, .int c), (5, .int e)], [.int 8, .int 308, .ref 1], wP (wCp ov1 un1 312 dp 0 cu st fi se th db cn) F, 0)
  refine mm_inv (mm_call_mono _ _) (j := 124) (a := [.ref 1, .int 308, .int 8]) (M := wP (wCp ov1 un1 312 dp 0 cu st fi se th db cn) F) (u := 0) rfl (by decide) (ct_N_copy0 (by decide) (fun ov2 un2 => ?_))
  show mm_W _ _ _ _ _ _ _ (27, [(0, .ref 0), (1, .int 0), (2, .int a), (3, .int b), (4, .int c), (5, .int e)], [], wP (wCp ov2 un2 312 dp 0 cu st fi se th db cn) F, 0)
  refine mm_skip (mm_call_mono _ _) 6 (st' := (39, [(0, .ref 0), (1, .int 0), (2, .int a), (3, .int b), (4, .int c), (5, .int e)], [.int e, .int c, .ref 1, .ref 1], wP (wCp ov2 un2 312 dp 0 cu st fi se th db cn) F, 0)) rfl ?_
  refine mm_inv (mm_call_mono _ _) (j := 128) (a := [.ref 1, .int c, .int e]) (M := wP (wCp ov2 un2 312 dp 0 cu st fi se th db cn) F) (u := 0) rfl (by decide) (ct_N_quotient312 hi.2 (fun ov3 un3 => ?_))
  show mm_W _ _ _ _ _ _ _ (42, [(0, .ref 0), (1, .int 0), (2, .int a), (3, .int b), (4, .int c), (5, .int e)], [.int 312, .ref 1], wP (wCp ov3 un3 316 dp 0 cu st fi se th db cn) F, 0)
  refine mm_skip (mm_call_mono _ _) 1 (st' := (43, [(0, .ref 0), (1, .int 0), (2, .int a), (3, .int b), (4, .int c), (5, .int e)], [.int 0, .int 312, .ref 1], wP (wCp ov3 un3 316 dp 0 cu st fi se th db cn) F, 0)) rfl ?_
  refine mm_inv (mm_call_mono _ _) (j := 42) (a := [.int 0]) (M := wP (wCp ov3 un3 316 dp 0 cu st fi se th db cn) F) (u := 0) rfl (by decide) (ct_C_yOf00 ?_)
  show mm_W _ _ _ _ _ _ _ (46, [(0, .ref 0), (1, .int 0), (2, .int a), (3, .int b), (4, .int c), (5, .int e)], [.int 12, .int 312, .ref 1], wP (wCp ov3 un3 316 dp 0 cu st fi se th db cn) F, 0)
  refine mm_inv (mm_call_mono _ _) (j := 124) (a := [.ref 1, .int 312, .int 12]) (M := wP (wCp ov3 un3 316 dp 0 cu st fi se th db cn) F) (u := 0) rfl (by decide) (ct_N_copy0 (by decide) (fun ov4 un4 => ?_))
  show mm_W _ _ _ _ _ _ _ (49, [(0, .ref 0), (1, .int 0), (2, .int a), (3, .int b), (4, .int c), (5, .int e)], [], wP (wCp ov4 un4 316 dp 0 cu st fi se th db cn) F, 0)
  exact mm_ret (mm_call_mono _ _) (c := True) (r := .inl none) (M := wP (wCp ov4 un4 316 dp 0 cu st fi se th db cn) F) (u := 0) rfl trivial (by decide) (hQ _ _)

set_option maxRecDepth 100000 in
theorem ct_C_addStep0 {d : Nat} {ov un : Nat → Int32} {nx dp fa : Int32} {cu : mm_cu} {st fi se th db : Nat → Int32} {F : mm_M} {Q : mm_R → mm_M → Prop} (hQ : Q (.inl (some (.int 0))) (wP (wCp ov un nx dp fa cu (upd st 0 0) (upd fi 0 0) (upd se 0 0) (upd th 0 0) db 1) F)) : mm_call mm_Tb (d + 1) 24 [.ref 0, .int 0, .int 0, .int 0, .int 0] (wP (wCp ov un nx dp fa cu st fi se th db 0) F) Q := by
  refine mm_in mt_24 (Nat.le_of_ble_eq_true rfl) ?_
  show mm_W _ _ _ _ _ _ _ (0, [(0, .ref 0), (1, .int 0), (2, .int 0), (3, .int 0), (4, .int 0)], [], wP (wCp ov un nx dp fa cu st fi se th db 0) F, 0)
  refine mm_skip (mm_call_mono _ _) 3 (st' := (6, [(0, .ref 0), (1, .int 0), (2, .int 0), (3, .int 0), (4, .int 0)], [.int 24, .int 0], wP (wCp ov un nx dp fa cu st fi se th db 0) F, 0)) rfl ?_
  refine mm_branch (mm_call_mono _ _) (c := (0 : Int32) < 24) (s1 := (19, [(0, .ref 0), (1, .int 0), (2, .int 0), (3, .int 0), (4, .int 0)], [], wP (wCp ov un nx dp fa cu st fi se th db 0) F, 0)) (s2 := (9, [(0, .ref 0), (1, .int 0), (2, .int 0), (3, .int 0), (4, .int 0)], [], wP (wCp ov un nx dp fa cu st fi se th db 0) F, 0)) rfl (fun _ => ?_) (fun h => absurd (by decide) h)
  refine mm_skip (mm_call_mono _ _) 5 (st' := (28, [(0, .ref 0), (1, .int 0), (2, .int 0), (3, .int 0), (4, .int 0)], [.int 0, .int 0, .ref 3], wP (wCp ov un nx dp fa cu st fi se th db 0) F, 0)) rfl ?_
  refine mm_need (mm_call_mono _ _) (c := vp_in 0 24) (s' := (29, [(0, .ref 0), (1, .int 0), (2, .int 0), (3, .int 0), (4, .int 0)], [], wP (wCp ov un nx dp fa cu (upd st 0 0) fi se th db 0) F, 0)) rfl (by unfold vp_in; decide) ?_
  refine mm_skip (mm_call_mono _ _) 5 (st' := (38, [(0, .ref 0), (1, .int 0), (2, .int 0), (3, .int 0), (4, .int 0)], [.int 0, .int 0, .ref 4], wP (wCp ov un nx dp fa cu (upd st 0 0) fi se th db 0) F, 0)) rfl ?_
  refine mm_need (mm_call_mono _ _) (c := vp_in 0 24) (s' := (39, [(0, .ref 0), (1, .int 0), (2, .int 0), (3, .int 0), (4, .int 0)], [], wP (wCp ov un nx dp fa cu (upd st 0 0) (upd fi 0 0) se th db 0) F, 0)) rfl (by unfold vp_in; decide) ?_
  refine mm_skip (mm_call_mono _ _) 5 (st' := (48, [(0, .ref 0), (1, .int 0), (2, .int 0), (3, .int 0), (4, .int 0)], [.int 0, .int 0, .ref 5], wP (wCp ov un nx dp fa cu (upd st 0 0) (upd fi 0 0) se th db 0) F, 0)) rfl ?_
  refine mm_need (mm_call_mono _ _) (c := vp_in 0 24) (s' := (49, [(0, .ref 0), (1, .int 0), (2, .int 0), (3, .int 0), (4, .int 0)], [], wP (wCp ov un nx dp fa cu (upd st 0 0) (upd fi 0 0) (upd se 0 0) th db 0) F, 0)) rfl (by unfold vp_in; decide) ?_
  refine mm_skip (mm_call_mono _ _) 5 (st' := (59, [(0, .ref 0), (1, .int 0), (2, .int 0), (3, .int 0), (4, .int 0)], [.int 0, .int 0, .ref 6], wP (wCp ov un nx dp fa cu (upd st 0 0) (upd fi 0 0) (upd se 0 0) th db 0) F, 0)) rfl ?_
  refine mm_need (mm_call_mono _ _) (c := vp_in 0 24) (s' := (60, [(0, .ref 0), (1, .int 0), (2, .int 0), (3, .int 0), (4, .int 0)], [], wP (wCp ov un nx dp fa cu (upd st 0 0) (upd fi 0 0) (upd se 0 0) (upd th 0 0) db 0) F, 0)) rfl (by unfold vp_in; decide) ?_
  refine mm_skip (mm_call_mono _ _) 10 (st' := (76, [(0, .ref 0), (1, .int 0), (2, .int 0), (3, .int 0), (4, .int 0)], [.int 0], wP (wCp ov un nx dp fa cu (upd st 0 0) (upd fi 0 0) (upd se 0 0) (upd th 0 0) db 1) F, 0)) rfl ?_
  exact mm_ret (mm_call_mono _ _) (c := True) (r := .inl (some (.int 0))) (M := wP (wCp ov un nx dp fa cu (upd st 0 0) (upd fi 0 0) (upd se 0 0) (upd th 0 0) db 1) F) (u := 0) rfl trivial (by decide) hQ

set_option maxRecDepth 100000 in
theorem ct_C_redraw0 {d : Nat} {ov un : Nat → Int32} {nx dp fa : Int32} {cu : mm_cu} {st fi se th db : Nat → Int32} {F : mm_M} {Q : mm_R → mm_M → Prop} (hQ : Q (.inl (some (.int (-1)))) (wP (wCp ov un 308 (db 0) 0 cu (upd st 0 0) fi se th (upd db 1 (db 0)) 1) F)) : mm_call mm_Tb (d + 2) 27 [.ref 0, .int 0] (wP (wCp ov un nx dp fa cu (upd st 0 0) fi se th db 1) F) Q := by
  refine mm_in mt_27 (Nat.le_of_ble_eq_true rfl) ?_
  show mm_W _ _ _ _ _ _ _ (0, [(0, .ref 0), (1, .int 0)], [], wP (wCp ov un nx dp fa cu (upd st 0 0) fi se th db 1) F, 0)
  refine mm_skip (mm_call_mono _ _) 5 (st' := (9, [(0, .ref 0), (1, .int 0)], [.int 0, .ref 7, .ref 1], wP (wCp ov un nx dp fa cu (upd st 0 0) fi se th db 1) F, 0)) rfl ?_
  refine mm_need (mm_call_mono _ _) (c := vp_in 0 25) (s' := (10, [(0, .ref 0), (1, .int 0)], [.int (db 0), .ref 1], wP (wCp ov un nx dp fa cu (upd st 0 0) fi se th db 1) F, 0)) rfl (by unfold vp_in; decide) ?_
  refine mm_skip (mm_call_mono _ _) 6 (st' := (20, [(2, .int 0), (0, .ref 0), (1, .int 0)], [.int 1, .int 0], wP (wCp ov un nx (db 0) fa cu (upd st 0 0) fi se th db 1) F, 0)) rfl ?_
  refine mm_branch (mm_call_mono _ _) (c := (1 : Int32) ≤ 0) (s1 := (217, [(2, .int 0), (0, .ref 0), (1, .int 0)], [], wP (wCp ov un nx (db 0) fa cu (upd st 0 0) fi se th db 1) F, 0)) (s2 := (23, [(2, .int 0), (0, .ref 0), (1, .int 0)], [], wP (wCp ov un nx (db 0) fa cu (upd st 0 0) fi se th db 1) F, 0)) rfl (fun h => absurd h (by decide)) (fun _ => ?_)
  refine mm_skip (mm_call_mono _ _) 2 (st' := (27, [(2, .int 0), (0, .ref 0), (1, .int 0)], [.ref 1], wP (wCp ov un nx (db 0) fa cu (upd st 0 0) fi se th db 1) F, 0)) rfl ?_
  refine mm_inv (mm_call_mono _ _) (j := 122) (a := [.ref 1]) (M := wP (wCp ov un nx (db 0) fa cu (upd st 0 0) fi se th db 1) F) (u := 0) rfl (by decide) (ct_N_begin ?_)
  show mm_W _ _ _ _ _ _ _ (30, [(2, .int 0), (0, .ref 0), (1, .int 0)], [], wP (wCp ov un 308 (db 0) 0 cu (upd st 0 0) fi se th db 1) F, 0)
  refine mm_skip (mm_call_mono _ _) 3 (st' := (35, [(2, .int 0), (0, .ref 0), (1, .int 0)], [.int 0, .ref 3], wP (wCp ov un 308 (db 0) 0 cu (upd st 0 0) fi se th db 1) F, 0)) rfl ?_
  refine mm_need (mm_call_mono _ _) (c := vp_in 0 24) (s' := (36, [(2, .int 0), (0, .ref 0), (1, .int 0)], [.int 0], wP (wCp ov un 308 (db 0) 0 cu (upd st 0 0) fi se th db 1) F, 0)) rfl (by unfold vp_in; decide) ?_
  refine mm_switch (mm_call_mono _ _) (w := [(Int32.toInt 0 = 1, (76, [(2, .int 0), (0, .ref 0), (1, .int 0)], [], wP (wCp ov un 308 (db 0) 0 cu (upd st 0 0) fi se th db 1) F, 0)), (Int32.toInt 0 = 2, (84, [(2, .int 0), (0, .ref 0), (1, .int 0)], [], wP (wCp ov un 308 (db 0) 0 cu (upd st 0 0) fi se th db 1) F, 0)), (Int32.toInt 0 = 3, (92, [(2, .int 0), (0, .ref 0), (1, .int 0)], [], wP (wCp ov un 308 (db 0) 0 cu (upd st 0 0) fi se th db 1) F, 0)), (Int32.toInt 0 = 4, (100, [(2, .int 0), (0, .ref 0), (1, .int 0)], [], wP (wCp ov un 308 (db 0) 0 cu (upd st 0 0) fi se th db 1) F, 0)), (Int32.toInt 0 = 5, (108, [(2, .int 0), (0, .ref 0), (1, .int 0)], [], wP (wCp ov un 308 (db 0) 0 cu (upd st 0 0) fi se th db 1) F, 0)), (Int32.toInt 0 = 6, (143, [(2, .int 0), (0, .ref 0), (1, .int 0)], [], wP (wCp ov un 308 (db 0) 0 cu (upd st 0 0) fi se th db 1) F, 0)), ((Int32.toInt 0 < 1 ∨ 6 < Int32.toInt 0), (184, [(2, .int 0), (0, .ref 0), (1, .int 0)], [], wP (wCp ov un 308 (db 0) 0 cu (upd st 0 0) fi se th db 1) F, 0))]) rfl ⟨fun hs => absurd (show Int32.toInt 0 = 1 from hs) (by decide), fun hs => absurd (show Int32.toInt 0 = 2 from hs) (by decide), fun hs => absurd (show Int32.toInt 0 = 3 from hs) (by decide), fun hs => absurd (show Int32.toInt 0 = 4 from hs) (by decide), fun hs => absurd (show Int32.toInt 0 = 5 from hs) (by decide), fun hs => absurd (show Int32.toInt 0 = 6 from hs) (by decide), fun hs => ?_, trivial⟩
  · skip
    refine mm_skip (mm_call_mono _ _) 3 (st' := (191, [(2, .int 0), (0, .ref 0), (1, .int 0)], [.int 0], wP (wCp ov un 308 (db 0) 0 cu (upd st 0 0) fi se th db 1) F, 0)) rfl ?_
    refine mm_branch (mm_call_mono _ _) (c := (0 : Int32) = 0) (s1 := (196, [(2, .int 0), (0, .ref 0), (1, .int 0)], [], wP (wCp ov un 308 (db 0) 0 cu (upd st 0 0) fi se th db 1) F, 0)) (s2 := (194, [(2, .int 0), (0, .ref 0), (1, .int 0)], [], wP (wCp ov un 308 (db 0) 0 cu (upd st 0 0) fi se th db 1) F, 0)) rfl (fun _ => ?_) (fun h => absurd (by decide) h)
    refine mm_skip (mm_call_mono _ _) 8 (st' := (210, [(2, .int 0), (0, .ref 0), (1, .int 0)], [.int (db 0), .int 1, .ref 7], wP (wCp ov un 308 (db 0) 0 cu (upd st 0 0) fi se th db 1) F, 0)) rfl ?_
    refine mm_need (mm_call_mono _ _) (c := vp_in 1 25) (s' := (211, [(2, .int 0), (0, .ref 0), (1, .int 0)], [], wP (wCp ov un 308 (db 0) 0 cu (upd st 0 0) fi se th (upd db 1 (db 0)) 1) F, 0)) rfl (by unfold vp_in; decide) ?_
    refine mm_skip (mm_call_mono _ _) 5 (st' := (20, [(2, .int 1), (0, .ref 0), (1, .int 0)], [.int 1, .int 1], wP (wCp ov un 308 (db 0) 0 cu (upd st 0 0) fi se th (upd db 1 (db 0)) 1) F, 0)) rfl ?_
    refine mm_branch (mm_call_mono _ _) (c := (1 : Int32) ≤ 1) (s1 := (217, [(2, .int 1), (0, .ref 0), (1, .int 0)], [], wP (wCp ov un 308 (db 0) 0 cu (upd st 0 0) fi se th (upd db 1 (db 0)) 1) F, 0)) (s2 := (23, [(2, .int 1), (0, .ref 0), (1, .int 0)], [], wP (wCp ov un 308 (db 0) 0 cu (upd st 0 0) fi se th (upd db 1 (db 0)) 1) F, 0)) rfl (fun _ => ?_) (fun h => absurd (by decide) h)
    refine mm_skip (mm_call_mono _ _) 1 (st' := (218, [(2, .int 1), (0, .ref 0), (1, .int 0)], [.int (-1)], wP (wCp ov un 308 (db 0) 0 cu (upd st 0 0) fi se th (upd db 1 (db 0)) 1) F, 0)) rfl ?_
    exact mm_ret (mm_call_mono _ _) (c := True) (r := .inl (some (.int (-1)))) (M := wP (wCp ov un 308 (db 0) 0 cu (upd st 0 0) fi se th (upd db 1 (db 0)) 1) F) (u := 0) rfl trivial (by decide) hQ

set_option maxRecDepth 100000 in
theorem ct_C_settle0 {d : Nat} {ov un : Nat → Int32} {nx dp fa : Int32} {cu : mm_cu} {st fi se th db : Nat → Int32} {F : mm_M} {Q : mm_R → mm_M → Prop} (hQ : Q (.inl (some (.int 0))) (wP (wCp ov un nx dp fa cu st fi se th db 1) F)) : mm_call mm_Tb (d + 1) 25 [.ref 0, .int (-1)] (wP (wCp ov un nx dp fa cu st fi se th db 1) F) Q := by
  refine mm_in mt_25 (Nat.le_of_ble_eq_true rfl) ?_
  show mm_W _ _ _ _ _ _ _ (0, [(0, .ref 0), (1, .int (-1))], [], wP (wCp ov un nx dp fa cu st fi se th db 1) F, 0)
  refine mm_skip (mm_call_mono _ _) 2 (st' := (2, [(0, .ref 0), (1, .int (-1))], [.int (-1), .int (-1)], wP (wCp ov un nx dp fa cu st fi se th db 1) F, 0)) rfl ?_
  refine mm_branch (mm_call_mono _ _) (c := ((-1) : Int32) = (-1)) (s1 := (20, [(0, .ref 0), (1, .int (-1))], [], wP (wCp ov un nx dp fa cu st fi se th db 1) F, 0)) (s2 := (5, [(0, .ref 0), (1, .int (-1))], [], wP (wCp ov un nx dp fa cu st fi se th db 1) F, 0)) rfl (fun _ => ?_) (fun h => absurd (by decide) h)
  refine mm_skip (mm_call_mono _ _) 4 (st' := (26, [(0, .ref 0), (1, .int (-1))], [.int 0], wP (wCp ov un nx dp fa cu st fi se th db 1) F, 0)) rfl ?_
  exact mm_ret (mm_call_mono _ _) (c := True) (r := .inl (some (.int 0))) (M := wP (wCp ov un nx dp fa cu st fi se th db 1) F) (u := 0) rfl trivial (by decide) hQ

set_option maxRecDepth 100000 in
theorem ct_C_free0 {d : Nat} {ov un : Nat → Int32} {nx dp fa : Int32} {cu : mm_cu} {st fi se th db : Nat → Int32} {F : mm_M} {a b c e : Int32} {Q : mm_R → mm_M → Prop} (h1 : ¬ (isin a b ∧ isin c e) → Q (.inr "java/lang/IllegalArgumentException") (wP (wCp ov un nx dp fa cu st fi se th db 0) F)) (h2 : isin a b ∧ isin c e → ∀ x : mm_pre, Q (.inl (some (.int 0))) (wP x F)) : mm_call mm_Tb (d + 4) 0 [.ref 0, .int a, .int b, .int c, .int e] (wP (wCp ov un nx dp fa cu st fi se th db 0) F) Q := by
  refine mm_in mt_0 (Nat.le_of_ble_eq_true rfl) ?_
  show mm_W _ _ _ _ _ _ _ (0, [(0, .ref 0), (1, .int a), (2, .int b), (3, .int c), (4, .int e)], [], wP (wCp ov un nx dp fa cu st fi se th db 0) F, 0)
  refine mm_skip (mm_call_mono _ _) 4 (st' := (5, [(0, .ref 0), (1, .int a), (2, .int b), (3, .int c), (4, .int e)], [.int e, .int c, .int b, .int a], wP (wCp ov un nx dp fa cu st fi se th db 0) F, 0)) rfl ?_
  refine mm_inv (mm_call_mono _ _) (j := 22) (a := [.int a, .int b, .int c, .int e]) (M := wP (wCp ov un nx dp fa cu st fi se th db 0) F) (u := 0) rfl (by decide) (ct_C_isPlace ?_)
  show mm_W _ _ _ _ _ _ _ (8, [(0, .ref 0), (1, .int a), (2, .int b), (3, .int c), (4, .int e)], [.int (bz (isin a b ∧ isin c e))], wP (wCp ov un nx dp fa cu st fi se th db 0) F, 0)
  refine mm_branch (mm_call_mono _ _) (c := (bz (isin a b ∧ isin c e)) = 0) (s1 := (11, [(0, .ref 0), (1, .int a), (2, .int b), (3, .int c), (4, .int e)], [], wP (wCp ov un nx dp fa cu st fi se th db 0) F, 0)) (s2 := (21, [(0, .ref 0), (1, .int a), (2, .int b), (3, .int c), (4, .int e)], [], wP (wCp ov un nx dp fa cu st fi se th db 0) F, 0)) rfl (fun h3 => ?_) (fun h3 => ?_)
  · skip
    exact mm_ret (mm_call_mono _ _) (c := True) (r := .inr "java/lang/IllegalArgumentException") (M := wP (wCp ov un nx dp fa cu st fi se th db 0) F) (u := 1) rfl trivial (by decide) (h1 (bz_0 h3))
  · skip
    refine mm_skip (mm_call_mono _ _) 5 (st' := (26, [(0, .ref 0), (1, .int a), (2, .int b), (3, .int c), (4, .int e)], [.int 0, .int 0, .int 0, .int 0, .ref 0], wP (wCp ov un nx dp fa cu st fi se th db 0) F, 0)) rfl ?_
    refine mm_inv (mm_call_mono _ _) (j := 24) (a := [.ref 0, .int 0, .int 0, .int 0, .int 0]) (M := wP (wCp ov un nx dp fa cu st fi se th db 0) F) (u := 1) rfl (by decide) (ct_C_addStep0 ?_)
    show mm_W _ _ _ _ _ _ _ (29, [(0, .ref 0), (1, .int a), (2, .int b), (3, .int c), (4, .int e)], [.int 0], wP (wCp ov un nx dp fa cu (upd st 0 0) (upd fi 0 0) (upd se 0 0) (upd th 0 0) db 1) F, 1)
    refine mm_skip (mm_call_mono _ _) 7 (st' := (39, [(5, .int 0), (0, .ref 0), (1, .int a), (2, .int b), (3, .int c), (4, .int e)], [.int e, .int c, .int b, .int a, .int 0, .ref 0], wP (wCp ov un nx dp fa cu (upd st 0 0) (upd fi 0 0) (upd se 0 0) (upd th 0 0) db 1) F, 1)) rfl ?_
    refine mm_inv (mm_call_mono _ _) (j := 39) (a := [.ref 0, .int 0, .int a, .int b, .int c, .int e]) (M := wP (wCp ov un nx dp fa cu (upd st 0 0) (upd fi 0 0) (upd se 0 0) (upd th 0 0) db 1) F) (u := 1) rfl (by decide) (ct_C_place0 (bz_1 h3) (fun ov1 un1 => ?_))
    show mm_W _ _ _ _ _ _ _ (42, [(5, .int 0), (0, .ref 0), (1, .int a), (2, .int b), (3, .int c), (4, .int e)], [], wP (wCp ov1 un1 316 dp 0 cu (upd st 0 0) (upd fi 0 0) (upd se 0 0) (upd th 0 0) db 1) F, 1)
    refine mm_skip (mm_call_mono _ _) 3 (st' := (46, [(5, .int 0), (0, .ref 0), (1, .int a), (2, .int b), (3, .int c), (4, .int e)], [.int 0, .ref 0, .ref 0], wP (wCp ov1 un1 316 dp 0 cu (upd st 0 0) (upd fi 0 0) (upd se 0 0) (upd th 0 0) db 1) F, 1)) rfl ?_
    refine mm_inv (mm_call_mono _ _) (j := 27) (a := [.ref 0, .int 0]) (M := wP (wCp ov1 un1 316 dp 0 cu (upd st 0 0) (upd fi 0 0) (upd se 0 0) (upd th 0 0) db 1) F) (u := 1) rfl (by decide) (ct_C_redraw0 ?_)
    show mm_W _ _ _ _ _ _ _ (49, [(5, .int 0), (0, .ref 0), (1, .int a), (2, .int b), (3, .int c), (4, .int e)], [.int (-1), .ref 0], wP (wCp ov1 un1 308 (db 0) 0 cu (upd st 0 0) (upd fi 0 0) (upd se 0 0) (upd th 0 0) (upd db 1 (db 0)) 1) F, 1)
    refine mm_inv (mm_call_mono _ _) (j := 25) (a := [.ref 0, .int (-1)]) (M := wP (wCp ov1 un1 308 (db 0) 0 cu (upd st 0 0) (upd fi 0 0) (upd se 0 0) (upd th 0 0) (upd db 1 (db 0)) 1) F) (u := 2) rfl (by decide) (ct_C_settle0 ?_)
    show mm_W _ _ _ _ _ _ _ (52, [(5, .int 0), (0, .ref 0), (1, .int a), (2, .int b), (3, .int c), (4, .int e)], [.int 0], wP (wCp ov1 un1 308 (db 0) 0 cu (upd st 0 0) (upd fi 0 0) (upd se 0 0) (upd th 0 0) (upd db 1 (db 0)) 1) F, 2)
    exact mm_ret (mm_call_mono _ _) (c := True) (r := .inl (some (.int 0))) (M := wP (wCp ov1 un1 308 (db 0) 0 cu (upd st 0 0) (upd fi 0 0) (upd se 0 0) (upd th 0 0) (upd db 1 (db 0)) 1) F) (u := 2) rfl trivial (by decide) (h2 (bz_1 h3) _)

