/-- the rest of a division -/
theorem rem64 {x y : Int64} (hx : x.toInt.natAbs < 2 ^ 63) (hy : ¬ y = 0) : (x - x / y * y).toInt = x.toInt.tmod y.toInt := by
  have hm : x ≠ Int64.minValue := by
    intro e
    rw [e] at hx
    revert hx
    decide
  have h5 : (x.toInt.tdiv y.toInt * y.toInt).natAbs ≤ x.toInt.natAbs := by
    rw [Int.natAbs_mul, Int.natAbs_tdiv]
    exact Nat.div_mul_le_self _ _
  have h4 := Int.tmod_def x.toInt y.toInt
  rw [Int.mul_comm] at h4
  have h6 : (x.toInt.tmod y.toInt).natAbs ≤ x.toInt.natAbs := by
    rw [Int.natAbs_tmod]
    exact Nat.mod_le _ _
  rw [Int64.toInt_sub, Int64.toInt_mul, Int64.toInt_div_of_ne_left _ _ hm]
  have e2 : (x.toInt.tdiv y.toInt * y.toInt).bmod (2 ^ 64) = x.toInt.tdiv y.toInt * y.toInt := Int.bmod_eq_of_le (by omega) (by omega)
  rw [e2, ← h4]
  exact Int.bmod_eq_of_le (by omega) (by omega)
theorem ne0_64 {q : Int64} (h : q.toInt ≠ 0) : ¬ q = 0 := by
  intro e
  rw [e] at h
  exact h (by decide)
theorem ne0_int {q : Int64} (h : ¬ q = 0) : q.toInt ≠ 0 := fun e => h (Int64.toInt_inj.mp (by rw [e]; decide))
theorem lt63 (x : Int64) : x.toInt.natAbs ≤ 2 ^ 63 := by
  have h1 := x.le_toInt
  have h2 := x.toInt_lt
  omega
/-- what put does -/
def putR (ov un : Nat → Int32) (fa : Int32) (c : Nat) (P Q : Int) (ov1 un1 : Nat → Int32) (fa1 : Int32) : Prop :=
  mm_z fa1 ∧ (∀ k, k ≠ c → ov1 k = ov k ∧ un1 k = un k) ∧ (fa = 1 → fa1 = 1) ∧ (fa = 0 → (fa1 = 0 ∧ fmk P Q = some (rf ov1 un1 c)) ∨ (fa1 = 1 ∧ fmk P Q = none))
theorem fmk_0 {q : Int} (hq : 0 < q) : fmk 0 q = some (0, 1) := by
  unfold fmk
  have hg : (Int.gcd 0 q : Int) = q := by rw [Int.gcd_zero_left]; omega
  rw [hg, Int.zero_ediv, Int.ediv_self (by omega), if_pos (by decide)]
theorem i32_of {x : Int64} (h1 : x.toInt ≤ 2147483647) (h2 : -2147483647 ≤ x.toInt) : x.toInt32.toInt = x.toInt := by
  rw [Int64.toInt_toInt32]
  exact Int.bmod_eq_of_le (by omega) (by omega)
theorem W64 : (2147483647 : Int64).toInt = 2147483647 ∧ (-2147483647 : Int64).toInt = -2147483647 := by decide
/-- division by the greatest divisor -/
theorem dv64 {p g : Int64} {q : Int} (hp : p.toInt.natAbs < 2 ^ 63) (hg : g.toInt = (Int.gcd p.toInt q : Int)) : (p / g).toInt = p.toInt / (Int.gcd p.toInt q : Int) := by
  have hm : p ≠ Int64.minValue := by
    intro e
    rw [e] at hp
    revert hp
    decide
  rw [Int64.toInt_div_of_ne_left _ _ hm, hg]
  exact Int.tdiv_eq_ediv_of_dvd (Int.gcd_dvd_left _ _)
theorem dv64r {q g : Int64} {p : Int} (hq : q.toInt.natAbs < 2 ^ 63) (hg : g.toInt = (Int.gcd p q.toInt : Int)) : (q / g).toInt = q.toInt / (Int.gcd p q.toInt : Int) := by
  have hm : q ≠ Int64.minValue := by
    intro e
    rw [e] at hq
    revert hq
    decide
  rw [Int64.toInt_div_of_ne_left _ _ hm, hg]
  exact Int.tdiv_eq_ediv_of_dvd (Int.gcd_dvd_right _ _)
theorem put_none {p q g : Int64} (hp : p.toInt.natAbs < 2 ^ 63) (hq : 0 < q.toInt) (hg : g.toInt = (Int.gcd p.toInt q.toInt : Int)) (h : 2147483647 < p / g ∨ p / g < -2147483647 ∨ 2147483647 < q / g) : fmk p.toInt q.toInt = none := by
  have hq2 : q.toInt.natAbs < 2 ^ 63 := by have := q.toInt_lt; omega
  rw [Int64.lt_iff_toInt_lt, Int64.lt_iff_toInt_lt, Int64.lt_iff_toInt_lt, W64.1, W64.2, dv64 hp hg, dv64r hq2 hg] at h
  unfold fmk
  rw [if_neg]
  unfold ffit
  rw [Bool.and_eq_true, Bool.and_eq_true, decide_eq_true_eq, decide_eq_true_eq, decide_eq_true_eq]
  omega
theorem put_some {p q g : Int64} (hp : p.toInt.natAbs < 2 ^ 63) (hq : 0 < q.toInt) (hg : g.toInt = (Int.gcd p.toInt q.toInt : Int)) (h1 : ¬ 2147483647 < p / g) (h2 : ¬ p / g < -2147483647) (h3 : ¬ 2147483647 < q / g) : fmk p.toInt q.toInt = some ((p / g).toInt32.toInt, (q / g).toInt32.toInt) := by
  have hq2 : q.toInt.natAbs < 2 ^ 63 := by have := q.toInt_lt; omega
  have hgp := gcd_pos (p := p.toInt) hq
  have hb : 0 < q.toInt / (Int.gcd p.toInt q.toInt : Int) := Int.ediv_pos_of_pos_of_dvd hq (Int.le_of_lt hgp) (Int.gcd_dvd_right _ _)
  have e1 := dv64 hp hg
  have e2 := dv64r hq2 hg
  rw [Int64.lt_iff_toInt_lt, W64.1] at h1 h3
  rw [Int64.lt_iff_toInt_lt, W64.2] at h2
  rw [i32_of (by omega) (by omega), i32_of (by omega) (by omega), e1, e2]
  rw [e1] at h1 h2
  rw [e2] at h3
  unfold fmk
  rw [if_pos]
  unfold ffit
  rw [Bool.and_eq_true, Bool.and_eq_true, decide_eq_true_eq, decide_eq_true_eq, decide_eq_true_eq]
  omega
set_option maxRecDepth 100000 in
theorem put_end {d : Nat} {ov un : Nat → Int32} {nx dp : Int32} {cu : mm_cu} {st fi se th db : Nat → Int32} {cn : Int32} {F : mm_M} {c : Nat} {p q : Int64} {Q : mm_R → mm_M → Prop} (hp : p.toInt.natAbs < 2 ^ 63) (hq : 0 < q.toInt) (hc : c < 1332) (hQ : ∀ (ov1 un1 : Nat → Int32) (fa1 : Int32), putR ov un 0 c p.toInt q.toInt ov1 un1 fa1 → Q (.inl none) (wC ov1 un1 nx dp fa1 cu st fi se th db cn F)) {g : Int64} (hg : g.toInt = (Int.gcd p.toInt q.toInt : Int)) (rs lf : Int64) (i : Int32) : mm_W (mm_call mm_Tb d) mp_N_put (mm_bt mm_Tb) 0 none 14 Q (70, [(10, .int i), (8, .long rs), (6, .long g), (11, .long lf), (0, .ref 1), (1, .int (nI c)), (2, .long p), (4, .long q)], [], wC ov un nx dp 0 cu st fi se th db cn F, 0) := by
  have hg0 : ¬ g = 0 := ne0_64 (by have := gcd_pos (p := p.toInt) hq; omega)
  refine mm_skip (mm_call_mono _ _) 3 (st' := (74, [(10, .int i), (8, .long rs), (6, .long g), (11, .long lf), (0, .ref 1), (1, .int (nI c)), (2, .long p), (4, .long q)], [.int (lg_cmp g 0)], wC ov un nx dp 0 cu st fi se th db cn F, 0)) rfl ?_
  refine mm_branch (mm_call_mono _ _) (c := (lg_cmp g 0) = 0) (s1 := (77, [(10, .int i), (8, .long rs), (6, .long g), (11, .long lf), (0, .ref 1), (1, .int (nI c)), (2, .long p), (4, .long q)], [], wC ov un nx dp 0 cu st fi se th db cn F, 0)) (s2 := (78, [(10, .int i), (8, .long rs), (6, .long g), (11, .long lf), (0, .ref 1), (1, .int (nI c)), (2, .long p), (4, .long q)], [], wC ov un nx dp 0 cu st fi se th db cn F, 0)) rfl (fun h => absurd h (fun e => hg0 ((lg_cmp_eq _ _).mp e))) (fun _ => ?_)
  refine mm_skip (mm_call_mono _ _) 2 (st' := (81, [(10, .int i), (8, .long rs), (6, .long g), (11, .long lf), (0, .ref 1), (1, .int (nI c)), (2, .long p), (4, .long q)], [.long g, .long p], wC ov un nx dp 0 cu st fi se th db cn F, 0)) rfl ?_
  refine mm_need (mm_call_mono _ _) (c := ¬ g = 0) (s' := (82, [(10, .int i), (8, .long rs), (6, .long g), (11, .long lf), (0, .ref 1), (1, .int (nI c)), (2, .long p), (4, .long q)], [.long (p / g)], wC ov un nx dp 0 cu st fi se th db cn F, 0)) rfl hg0 ?_
  refine mm_skip (mm_call_mono _ _) 3 (st' := (88, [(10, .long (p / g)), (8, .long rs), (6, .long g), (0, .ref 1), (1, .int (nI c)), (2, .long p), (4, .long q)], [.long g, .long q], wC ov un nx dp 0 cu st fi se th db cn F, 0)) rfl ?_
  refine mm_need (mm_call_mono _ _) (c := ¬ g = 0) (s' := (89, [(10, .long (p / g)), (8, .long rs), (6, .long g), (0, .ref 1), (1, .int (nI c)), (2, .long p), (4, .long q)], [.long (q / g)], wC ov un nx dp 0 cu st fi se th db cn F, 0)) rfl hg0 ?_
  refine mm_skip (mm_call_mono _ _) 4 (st' := (97, [(12, .long (q / g)), (10, .long (p / g)), (8, .long rs), (6, .long g), (0, .ref 1), (1, .int (nI c)), (2, .long p), (4, .long q)], [.int (lg_cmp (p / g) 2147483647)], wC ov un nx dp 0 cu st fi se th db cn F, 0)) rfl ?_
  refine mm_branch (mm_call_mono _ _) (c := 0 < (lg_cmp (p / g) 2147483647)) (s1 := (118, [(12, .long (q / g)), (10, .long (p / g)), (8, .long rs), (6, .long g), (0, .ref 1), (1, .int (nI c)), (2, .long p), (4, .long q)], [], wC ov un nx dp 0 cu st fi se th db cn F, 0)) (s2 := (100, [(12, .long (q / g)), (10, .long (p / g)), (8, .long rs), (6, .long g), (0, .ref 1), (1, .int (nI c)), (2, .long p), (4, .long q)], [], wC ov un nx dp 0 cu st fi se th db cn F, 0)) rfl (fun h1 => ?_) (fun h1 => ?_)
  · skip
    refine mm_skip (mm_call_mono _ _) 2 (st' := (120, [(12, .long (q / g)), (10, .long (p / g)), (8, .long rs), (6, .long g), (0, .ref 1), (1, .int (nI c)), (2, .long p), (4, .long q)], [.int 1, .ref 1], wC ov un nx dp 0 cu st fi se th db cn F, 0)) rfl ?_
    refine mm_need (mm_call_mono _ _) (c := mm_z 1) (s' := (123, [(12, .long (q / g)), (10, .long (p / g)), (8, .long rs), (6, .long g), (0, .ref 1), (1, .int (nI c)), (2, .long p), (4, .long q)], [], wC ov un nx dp 1 cu st fi se th db cn F, 0)) rfl (by unfold mm_z; decide) ?_
    exact mm_ret (mm_call_mono _ _) (c := True) (r := .inl none) (M := wC ov un nx dp 1 cu st fi se th db cn F) (u := 0) rfl trivial (by decide) (hQ _ _ _ ⟨Or.inr rfl, fun _ _ => ⟨rfl, rfl⟩, fun h => absurd h (by decide), fun _ => Or.inr ⟨rfl, put_none hp hq hg (Or.inl ((lg_cmp_gt _ _).mp h1))⟩⟩)
  · skip
    refine mm_skip (mm_call_mono _ _) 3 (st' := (106, [(12, .long (q / g)), (10, .long (p / g)), (8, .long rs), (6, .long g), (0, .ref 1), (1, .int (nI c)), (2, .long p), (4, .long q)], [.int (lg_cmp (p / g) (-2147483647))], wC ov un nx dp 0 cu st fi se th db cn F, 0)) rfl ?_
    refine mm_branch (mm_call_mono _ _) (c := (lg_cmp (p / g) (-2147483647)) < 0) (s1 := (118, [(12, .long (q / g)), (10, .long (p / g)), (8, .long rs), (6, .long g), (0, .ref 1), (1, .int (nI c)), (2, .long p), (4, .long q)], [], wC ov un nx dp 0 cu st fi se th db cn F, 0)) (s2 := (109, [(12, .long (q / g)), (10, .long (p / g)), (8, .long rs), (6, .long g), (0, .ref 1), (1, .int (nI c)), (2, .long p), (4, .long q)], [], wC ov un nx dp 0 cu st fi se th db cn F, 0)) rfl (fun h2 => ?_) (fun h2 => ?_)
    · skip
      refine mm_skip (mm_call_mono _ _) 2 (st' := (120, [(12, .long (q / g)), (10, .long (p / g)), (8, .long rs), (6, .long g), (0, .ref 1), (1, .int (nI c)), (2, .long p), (4, .long q)], [.int 1, .ref 1], wC ov un nx dp 0 cu st fi se th db cn F, 0)) rfl ?_
      refine mm_need (mm_call_mono _ _) (c := mm_z 1) (s' := (123, [(12, .long (q / g)), (10, .long (p / g)), (8, .long rs), (6, .long g), (0, .ref 1), (1, .int (nI c)), (2, .long p), (4, .long q)], [], wC ov un nx dp 1 cu st fi se th db cn F, 0)) rfl (by unfold mm_z; decide) ?_
      exact mm_ret (mm_call_mono _ _) (c := True) (r := .inl none) (M := wC ov un nx dp 1 cu st fi se th db cn F) (u := 0) rfl trivial (by decide) (hQ _ _ _ ⟨Or.inr rfl, fun _ _ => ⟨rfl, rfl⟩, fun h => absurd h (by decide), fun _ => Or.inr ⟨rfl, put_none hp hq hg (Or.inr (Or.inl ((lg_cmp_lt _ _).mp h2)))⟩⟩)
    · skip
      refine mm_skip (mm_call_mono _ _) 3 (st' := (115, [(12, .long (q / g)), (10, .long (p / g)), (8, .long rs), (6, .long g), (0, .ref 1), (1, .int (nI c)), (2, .long p), (4, .long q)], [.int (lg_cmp (q / g) 2147483647)], wC ov un nx dp 0 cu st fi se th db cn F, 0)) rfl ?_
      refine mm_branch (mm_call_mono _ _) (c := (lg_cmp (q / g) 2147483647) ≤ 0) (s1 := (124, [(12, .long (q / g)), (10, .long (p / g)), (8, .long rs), (6, .long g), (0, .ref 1), (1, .int (nI c)), (2, .long p), (4, .long q)], [], wC ov un nx dp 0 cu st fi se th db cn F, 0)) (s2 := (118, [(12, .long (q / g)), (10, .long (p / g)), (8, .long rs), (6, .long g), (0, .ref 1), (1, .int (nI c)), (2, .long p), (4, .long q)], [], wC ov un nx dp 0 cu st fi se th db cn F, 0)) rfl (fun h3 => ?_) (fun h3 => ?_)
      · skip
        refine mm_skip (mm_call_mono _ _) 5 (st' := (132, [(12, .long (q / g)), (10, .long (p / g)), (8, .long rs), (6, .long g), (0, .ref 1), (1, .int (nI c)), (2, .long p), (4, .long q)], [.int (Int64.toInt32 (p / g)), .int (nI c), .ref 8], wC ov un nx dp 0 cu st fi se th db cn F, 0)) rfl ?_
        refine mm_need (mm_call_mono _ _) (c := vp_in (nI c) 1332) (s' := (133, [(12, .long (q / g)), (10, .long (p / g)), (8, .long rs), (6, .long g), (0, .ref 1), (1, .int (nI c)), (2, .long p), (4, .long q)], [], wC (upd ov (Int32.toNatClampNeg (nI c)) (Int64.toInt32 (p / g))) un nx dp 0 cu st fi se th db cn F, 0)) rfl (vp_in_nI (show c < 1332 by omega) (by decide)) ?_
        rw [nI_clamp (show c < 2 ^ 31 by omega)]
        show mm_W _ _ _ _ _ _ _ (133, [(12, .long (q / g)), (10, .long (p / g)), (8, .long rs), (6, .long g), (0, .ref 1), (1, .int (nI c)), (2, .long p), (4, .long q)], [], wC (upd ov c (Int64.toInt32 (p / g))) un nx dp 0 cu st fi se th db cn F, 0)
        refine mm_skip (mm_call_mono _ _) 5 (st' := (141, [(12, .long (q / g)), (10, .long (p / g)), (8, .long rs), (6, .long g), (0, .ref 1), (1, .int (nI c)), (2, .long p), (4, .long q)], [.int (Int64.toInt32 (q / g)), .int (nI c), .ref 9], wC (upd ov c (Int64.toInt32 (p / g))) un nx dp 0 cu st fi se th db cn F, 0)) rfl ?_
        refine mm_need (mm_call_mono _ _) (c := vp_in (nI c) 1332) (s' := (142, [(12, .long (q / g)), (10, .long (p / g)), (8, .long rs), (6, .long g), (0, .ref 1), (1, .int (nI c)), (2, .long p), (4, .long q)], [], wC (upd ov c (Int64.toInt32 (p / g))) (upd un (Int32.toNatClampNeg (nI c)) (Int64.toInt32 (q / g))) nx dp 0 cu st fi se th db cn F, 0)) rfl (vp_in_nI (show c < 1332 by omega) (by decide)) ?_
        rw [nI_clamp (show c < 2 ^ 31 by omega)]
        show mm_W _ _ _ _ _ _ _ (142, [(12, .long (q / g)), (10, .long (p / g)), (8, .long rs), (6, .long g), (0, .ref 1), (1, .int (nI c)), (2, .long p), (4, .long q)], [], wC (upd ov c (Int64.toInt32 (p / g))) (upd un c (Int64.toInt32 (q / g))) nx dp 0 cu st fi se th db cn F, 0)
        exact mm_ret (mm_call_mono _ _) (c := True) (r := .inl none) (M := wC (upd ov c (Int64.toInt32 (p / g))) (upd un c (Int64.toInt32 (q / g))) nx dp 0 cu st fi se th db cn F) (u := 0) rfl trivial (by decide) (hQ _ _ _ ⟨Or.inl rfl, fun k hk => ⟨pk_un hk, pk_un hk⟩, fun h => absurd h (by decide), fun _ => Or.inl ⟨rfl, by rw [put_some hp hq hg (fun e => h1 ((lg_cmp_gt _ _).mpr e)) (fun e => h2 ((lg_cmp_lt _ _).mpr e)) (Int64.not_lt.mpr ((lg_cmp_le _ _).mp h3))]; unfold rf; rw [pk_us, pk_us]⟩⟩)
      · skip
        refine mm_skip (mm_call_mono _ _) 2 (st' := (120, [(12, .long (q / g)), (10, .long (p / g)), (8, .long rs), (6, .long g), (0, .ref 1), (1, .int (nI c)), (2, .long p), (4, .long q)], [.int 1, .ref 1], wC ov un nx dp 0 cu st fi se th db cn F, 0)) rfl ?_
        refine mm_need (mm_call_mono _ _) (c := mm_z 1) (s' := (123, [(12, .long (q / g)), (10, .long (p / g)), (8, .long rs), (6, .long g), (0, .ref 1), (1, .int (nI c)), (2, .long p), (4, .long q)], [], wC ov un nx dp 1 cu st fi se th db cn F, 0)) rfl (by unfold mm_z; decide) ?_
        exact mm_ret (mm_call_mono _ _) (c := True) (r := .inl none) (M := wC ov un nx dp 1 cu st fi se th db cn F) (u := 0) rfl trivial (by decide) (hQ _ _ _ ⟨Or.inr rfl, fun _ _ => ⟨rfl, rfl⟩, fun h => absurd h (by decide), fun _ => Or.inr ⟨rfl, put_none hp hq hg (Or.inr (Or.inr (Int64.not_le.mp (fun e => h3 ((lg_cmp_le _ _).mpr e)))))⟩⟩)

theorem put_loop {d : Nat} {ov un : Nat → Int32} {nx dp : Int32} {cu : mm_cu} {st fi se th db : Nat → Int32} {cn : Int32} {F : mm_M} {c : Nat} {p q : Int64} {Q : mm_R → mm_M → Prop} : ∀ (n i : Nat) (dv rs0 lf0 : Int64), i + n = 100 → 0 ≤ dv.toInt → 0 ≤ rs0.toInt → (∀ (g rs lf : Int64) (i : Int32), 0 ≤ g.toInt → g.toInt.natAbs = eu n dv.toInt.natAbs rs0.toInt.natAbs → mm_W (mm_call mm_Tb d) mp_N_put (mm_bt mm_Tb) 0 none 14 Q (70, [(10, .int i), (8, .long rs), (6, .long g), (11, .long lf), (0, .ref 1), (1, .int (nI c)), (2, .long p), (4, .long q)], [], wC ov un nx dp 0 cu st fi se th db cn F, 0)) → mm_W (mm_call mm_Tb d) mp_N_put (mm_bt mm_Tb) 0 none 14 Q (35, [(10, .int (nI i)), (8, .long rs0), (6, .long dv), (11, .long lf0), (0, .ref 1), (1, .int (nI c)), (2, .long p), (4, .long q)], [], wC ov un nx dp 0 cu st fi se th db cn F, 0)
  | 0, i, dv, rs0, lf0, hi, hd, hr, kk => by
    have e : i = 100 := by omega
    subst e
    refine mm_skip (mm_call_mono _ _) 2 (st' := (39, [(10, .int (nI 100)), (8, .long rs0), (6, .long dv), (11, .long lf0), (0, .ref 1), (1, .int (nI c)), (2, .long p), (4, .long q)], [.int 100, .int (nI 100)], wC ov un nx dp 0 cu st fi se th db cn F, 0)) rfl ?_
    refine mm_branch (mm_call_mono _ _) (c := 100 ≤ (nI 100)) (s1 := (70, [(10, .int (nI 100)), (8, .long rs0), (6, .long dv), (11, .long lf0), (0, .ref 1), (1, .int (nI c)), (2, .long p), (4, .long q)], [], wC ov un nx dp 0 cu st fi se th db cn F, 0)) (s2 := (42, [(10, .int (nI 100)), (8, .long rs0), (6, .long dv), (11, .long lf0), (0, .ref 1), (1, .int (nI c)), (2, .long p), (4, .long q)], [], wC ov un nx dp 0 cu st fi se th db cn F, 0)) rfl (fun _ => ?_) (fun h => absurd (nI_le (show 100 ≤ 100 by omega) (by omega)) h)
    exact kk _ _ _ _ hd rfl

  | n + 1, i, dv, rs0, lf0, hi, hd, hr, kk => by
    refine mm_skip (mm_call_mono _ _) 2 (st' := (39, [(10, .int (nI i)), (8, .long rs0), (6, .long dv), (11, .long lf0), (0, .ref 1), (1, .int (nI c)), (2, .long p), (4, .long q)], [.int 100, .int (nI i)], wC ov un nx dp 0 cu st fi se th db cn F, 0)) rfl ?_
    refine mm_branch (mm_call_mono _ _) (c := 100 ≤ (nI i)) (s1 := (70, [(10, .int (nI i)), (8, .long rs0), (6, .long dv), (11, .long lf0), (0, .ref 1), (1, .int (nI c)), (2, .long p), (4, .long q)], [], wC ov un nx dp 0 cu st fi se th db cn F, 0)) (s2 := (42, [(10, .int (nI i)), (8, .long rs0), (6, .long dv), (11, .long lf0), (0, .ref 1), (1, .int (nI c)), (2, .long p), (4, .long q)], [], wC ov un nx dp 0 cu st fi se th db cn F, 0)) rfl (fun h => absurd h (nI_ge (show i < 100 by omega) (by decide))) (fun _ => ?_)
    refine mm_skip (mm_call_mono _ _) 3 (st' := (46, [(10, .int (nI i)), (8, .long rs0), (6, .long dv), (11, .long lf0), (0, .ref 1), (1, .int (nI c)), (2, .long p), (4, .long q)], [.int (lg_cmp rs0 0)], wC ov un nx dp 0 cu st fi se th db cn F, 0)) rfl ?_
    refine mm_branch (mm_call_mono _ _) (c := (lg_cmp rs0 0) = 0) (s1 := (70, [(10, .int (nI i)), (8, .long rs0), (6, .long dv), (11, .long lf0), (0, .ref 1), (1, .int (nI c)), (2, .long p), (4, .long q)], [], wC ov un nx dp 0 cu st fi se th db cn F, 0)) (s2 := (49, [(10, .int (nI i)), (8, .long rs0), (6, .long dv), (11, .long lf0), (0, .ref 1), (1, .int (nI c)), (2, .long p), (4, .long q)], [], wC ov un nx dp 0 cu st fi se th db cn F, 0)) rfl (fun h1 => ?_) (fun h1 => ?_)
    · skip
      exact kk _ _ _ _ hd (by rw [(lg_cmp_eq _ _).mp h1]; rfl)
    · skip
      refine mm_skip (mm_call_mono _ _) 2 (st' := (53, [(10, .int (nI i)), (8, .long rs0), (6, .long dv), (11, .long lf0), (0, .ref 1), (1, .int (nI c)), (2, .long p), (4, .long q)], [.long rs0, .long dv], wC ov un nx dp 0 cu st fi se th db cn F, 0)) rfl ?_
      refine mm_need (mm_call_mono _ _) (c := ¬ rs0 = 0) (s' := (54, [(10, .int (nI i)), (8, .long rs0), (6, .long dv), (11, .long lf0), (0, .ref 1), (1, .int (nI c)), (2, .long p), (4, .long q)], [.long (dv - dv / rs0 * rs0)], wC ov un nx dp 0 cu st fi se th db cn F, 0)) rfl (fun e => h1 ((lg_cmp_eq _ _).mpr e)) ?_
      refine mm_skip (mm_call_mono _ _) 7 (st' := (35, [(10, .int ((nI i) + 1)), (8, .long (dv - dv / rs0 * rs0)), (6, .long rs0), (11, .long (dv - dv / rs0 * rs0)), (0, .ref 1), (1, .int (nI c)), (2, .long p), (4, .long q)], [], wC ov un nx dp 0 cu st fi se th db cn F, 0)) rfl ?_
      rw [nI_p1 (i)]
      show mm_W _ _ _ _ _ _ _ (35, [(10, .int (nI (i + 1))), (8, .long (dv - dv / rs0 * rs0)), (6, .long rs0), (11, .long (dv - dv / rs0 * rs0)), (0, .ref 1), (1, .int (nI c)), (2, .long p), (4, .long q)], [], wC ov un nx dp 0 cu st fi se th db cn F, 0)
      have h2 : ¬ rs0 = 0 := fun e => h1 ((lg_cmp_eq _ _).mpr e)
      have h3 := ne0_int h2
      have h4 : dv.toInt.natAbs < 2 ^ 63 := by have := dv.toInt_lt; omega
      have h5 := rem64 h4 h2
      refine put_loop n (i + 1) _ _ _ (by omega) hr (by rw [h5]; exact Int.tmod_nonneg _ hd) (fun g rs lf j hg0 hg => kk g rs lf j hg0 ?_)
      rw [hg, h5, Int.natAbs_tmod]
      show _ = if rs0.toInt.natAbs = 0 then dv.toInt.natAbs else eu n rs0.toInt.natAbs (dv.toInt.natAbs % rs0.toInt.natAbs)
      rw [if_neg (by omega)]

set_option maxRecDepth 100000 in
theorem put_ok {d : Nat} {ov un : Nat → Int32} {nx dp : Int32} {cu : mm_cu} {st fi se th db : Nat → Int32} {cn : Int32} {F : mm_M} {c : Nat} {p q : Int64} {Q : mm_R → mm_M → Prop} (hp : p.toInt.natAbs < 2 ^ 63) (hq : 0 < q.toInt) (hc : c < 1332) (hz : rf ov un c = (0, 1)) (hQ : ∀ (ov1 un1 : Nat → Int32) (fa1 : Int32), putR ov un 0 c p.toInt q.toInt ov1 un1 fa1 → Q (.inl none) (wC ov1 un1 nx dp fa1 cu st fi se th db cn F)) : mm_call mm_Tb (d + 1) 139 [.ref 1, .int (nI c), .long p, .long q] (wC ov un nx dp 0 cu st fi se th db cn F) Q := by
  refine mm_in mt_139 (Nat.le_of_ble_eq_true rfl) ?_
  show mm_W _ _ _ _ _ _ _ (0, [(0, .ref 1), (1, .int (nI c)), (2, .long p), (4, .long q)], [], wC ov un nx dp 0 cu st fi se th db cn F, 0)
  refine mm_skip (mm_call_mono _ _) 3 (st' := (3, [(0, .ref 1), (1, .int (nI c)), (2, .long p), (4, .long q)], [.int (lg_cmp p 0)], wC ov un nx dp 0 cu st fi se th db cn F, 0)) rfl ?_
  refine mm_branch (mm_call_mono _ _) (c := (lg_cmp p 0) = 0) (s1 := (13, [(0, .ref 1), (1, .int (nI c)), (2, .long p), (4, .long q)], [], wC ov un nx dp 0 cu st fi se th db cn F, 0)) (s2 := (6, [(0, .ref 1), (1, .int (nI c)), (2, .long p), (4, .long q)], [], wC ov un nx dp 0 cu st fi se th db cn F, 0)) rfl (fun h1 => ?_) (fun h1 => ?_)
  · skip
    exact mm_ret (mm_call_mono _ _) (c := True) (r := .inl none) (M := wC ov un nx dp 0 cu st fi se th db cn F) (u := 0) rfl trivial (by decide) (hQ _ _ _ ⟨Or.inl rfl, fun _ _ => ⟨rfl, rfl⟩, fun h => absurd h (by decide), fun _ => Or.inl ⟨rfl, by rw [hz, (lg_cmp_eq _ _).mp h1]; exact fmk_0 hq⟩⟩)
  · skip
    refine mm_skip (mm_call_mono _ _) 2 (st' := (10, [(0, .ref 1), (1, .int (nI c)), (2, .long p), (4, .long q)], [.int 0], wC ov un nx dp 0 cu st fi se th db cn F, 0)) rfl ?_
    refine mm_branch (mm_call_mono _ _) (c := (0 : Int32) = 0) (s1 := (14, [(0, .ref 1), (1, .int (nI c)), (2, .long p), (4, .long q)], [], wC ov un nx dp 0 cu st fi se th db cn F, 0)) (s2 := (13, [(0, .ref 1), (1, .int (nI c)), (2, .long p), (4, .long q)], [], wC ov un nx dp 0 cu st fi se th db cn F, 0)) rfl (fun _ => ?_) (fun h => absurd (by decide) h)
    refine mm_skip (mm_call_mono _ _) 3 (st' := (17, [(0, .ref 1), (1, .int (nI c)), (2, .long p), (4, .long q)], [.int (lg_cmp p 0)], wC ov un nx dp 0 cu st fi se th db cn F, 0)) rfl ?_
    refine mm_branch (mm_call_mono _ _) (c := 0 ≤ (lg_cmp p 0)) (s1 := (25, [(0, .ref 1), (1, .int (nI c)), (2, .long p), (4, .long q)], [], wC ov un nx dp 0 cu st fi se th db cn F, 0)) (s2 := (20, [(0, .ref 1), (1, .int (nI c)), (2, .long p), (4, .long q)], [], wC ov un nx dp 0 cu st fi se th db cn F, 0)) rfl (fun h2 => ?_) (fun h2 => ?_)
    · skip
      refine mm_skip (mm_call_mono _ _) 8 (st' := (39, [(10, .int 0), (8, .long q), (6, .long p), (0, .ref 1), (1, .int (nI c)), (2, .long p), (4, .long q)], [.int 100, .int 0], wC ov un nx dp 0 cu st fi se th db cn F, 0)) rfl ?_
      refine mm_branch (mm_call_mono _ _) (c := (100 : Int32) ≤ 0) (s1 := (70, [(10, .int 0), (8, .long q), (6, .long p), (0, .ref 1), (1, .int (nI c)), (2, .long p), (4, .long q)], [], wC ov un nx dp 0 cu st fi se th db cn F, 0)) (s2 := (42, [(10, .int 0), (8, .long q), (6, .long p), (0, .ref 1), (1, .int (nI c)), (2, .long p), (4, .long q)], [], wC ov un nx dp 0 cu st fi se th db cn F, 0)) rfl (fun h => absurd h (by decide)) (fun _ => ?_)
      refine mm_skip (mm_call_mono _ _) 3 (st' := (46, [(10, .int 0), (8, .long q), (6, .long p), (0, .ref 1), (1, .int (nI c)), (2, .long p), (4, .long q)], [.int (lg_cmp q 0)], wC ov un nx dp 0 cu st fi se th db cn F, 0)) rfl ?_
      refine mm_branch (mm_call_mono _ _) (c := (lg_cmp q 0) = 0) (s1 := (70, [(10, .int 0), (8, .long q), (6, .long p), (0, .ref 1), (1, .int (nI c)), (2, .long p), (4, .long q)], [], wC ov un nx dp 0 cu st fi se th db cn F, 0)) (s2 := (49, [(10, .int 0), (8, .long q), (6, .long p), (0, .ref 1), (1, .int (nI c)), (2, .long p), (4, .long q)], [], wC ov un nx dp 0 cu st fi se th db cn F, 0)) rfl (fun h => absurd h (fun e => ne0_64 (q := q) (by omega) ((lg_cmp_eq _ _).mp e))) (fun _ => ?_)
      refine mm_skip (mm_call_mono _ _) 2 (st' := (53, [(10, .int 0), (8, .long q), (6, .long p), (0, .ref 1), (1, .int (nI c)), (2, .long p), (4, .long q)], [.long q, .long p], wC ov un nx dp 0 cu st fi se th db cn F, 0)) rfl ?_
      refine mm_need (mm_call_mono _ _) (c := ¬ q = 0) (s' := (54, [(10, .int 0), (8, .long q), (6, .long p), (0, .ref 1), (1, .int (nI c)), (2, .long p), (4, .long q)], [.long (p - p / q * q)], wC ov un nx dp 0 cu st fi se th db cn F, 0)) rfl (ne0_64 (q := q) (by omega)) ?_
      refine mm_skip (mm_call_mono _ _) 7 (st' := (35, [(10, .int 1), (8, .long (p - p / q * q)), (6, .long q), (11, .long (p - p / q * q)), (0, .ref 1), (1, .int (nI c)), (2, .long p), (4, .long q)], [], wC ov un nx dp 0 cu st fi se th db cn F, 0)) rfl ?_
      first
      | (have h4 : 1 ≤ 1 := Nat.le_refl 1
         have hab : (p).toInt = (p.toInt.natAbs : Int) := by have := Int64.le_iff_toInt_le.mp ((lg_cmp_ge _ _).mp h2); rw [show (0 : Int64).toInt = 0 by decide] at this; omega
         have h5 := rem64 (x := p) (by omega) (y := q) (ne0_64 (by omega))
         refine put_loop 99 1 q _ _ (by omega) (by omega) (by rw [h5]; exact Int.tmod_nonneg _ (by omega)) (fun g rs lf j hg0 hg => put_end hp hq hc hQ (g := g) ?_ rs lf j)
         rw [h5, Int.natAbs_tmod, hab, Int.natAbs_natCast] at hg
         have h6 : eu 100 p.toInt.natAbs q.toInt.natAbs = Nat.gcd p.toInt.natAbs q.toInt.natAbs := eu_100 (by have := q.toInt_lt; omega)
         have h7 : eu 100 p.toInt.natAbs q.toInt.natAbs = eu 99 q.toInt.natAbs (p.toInt.natAbs % q.toInt.natAbs) := by
           show (if q.toInt.natAbs = 0 then p.toInt.natAbs else eu 99 q.toInt.natAbs (p.toInt.natAbs % q.toInt.natAbs)) = _
           rw [if_neg (by omega)]
         have h8 : g.toInt.natAbs = Int.gcd p.toInt q.toInt := by rw [hg, ← h7, h6]; rfl
         omega)
      | (have h4 : 1 ≤ 1 := Nat.le_refl 1
         have hab : (-p).toInt = (p.toInt.natAbs : Int) := by have h9 := Int64.lt_iff_toInt_lt.mp (Int64.not_le.mp (fun e => h2 ((lg_cmp_ge _ _).mpr e))); rw [show (0 : Int64).toInt = 0 by decide] at h9; rw [Int64.toInt_neg, Int.bmod_eq_of_le (by omega) (by omega)]; omega
         have h5 := rem64 (x := -p) (by omega) (y := q) (ne0_64 (by omega))
         refine put_loop 99 1 q _ _ (by omega) (by omega) (by rw [h5]; exact Int.tmod_nonneg _ (by omega)) (fun g rs lf j hg0 hg => put_end hp hq hc hQ (g := g) ?_ rs lf j)
         rw [h5, Int.natAbs_tmod, hab, Int.natAbs_natCast] at hg
         have h6 : eu 100 p.toInt.natAbs q.toInt.natAbs = Nat.gcd p.toInt.natAbs q.toInt.natAbs := eu_100 (by have := q.toInt_lt; omega)
         have h7 : eu 100 p.toInt.natAbs q.toInt.natAbs = eu 99 q.toInt.natAbs (p.toInt.natAbs % q.toInt.natAbs) := by
           show (if q.toInt.natAbs = 0 then p.toInt.natAbs else eu 99 q.toInt.natAbs (p.toInt.natAbs % q.toInt.natAbs)) = _
           rw [if_neg (by omega)]
         have h8 : g.toInt.natAbs = Int.gcd p.toInt q.toInt := by rw [hg, ← h7, h6]; rfl
         omega)
    · skip
      refine mm_skip (mm_call_mono _ _) 10 (st' := (39, [(10, .int 0), (8, .long q), (6, .long (-p)), (0, .ref 1), (1, .int (nI c)), (2, .long p), (4, .long q)], [.int 100, .int 0], wC ov un nx dp 0 cu st fi se th db cn F, 0)) rfl ?_
      refine mm_branch (mm_call_mono _ _) (c := (100 : Int32) ≤ 0) (s1 := (70, [(10, .int 0), (8, .long q), (6, .long (-p)), (0, .ref 1), (1, .int (nI c)), (2, .long p), (4, .long q)], [], wC ov un nx dp 0 cu st fi se th db cn F, 0)) (s2 := (42, [(10, .int 0), (8, .long q), (6, .long (-p)), (0, .ref 1), (1, .int (nI c)), (2, .long p), (4, .long q)], [], wC ov un nx dp 0 cu st fi se th db cn F, 0)) rfl (fun h => absurd h (by decide)) (fun _ => ?_)
      refine mm_skip (mm_call_mono _ _) 3 (st' := (46, [(10, .int 0), (8, .long q), (6, .long (-p)), (0, .ref 1), (1, .int (nI c)), (2, .long p), (4, .long q)], [.int (lg_cmp q 0)], wC ov un nx dp 0 cu st fi se th db cn F, 0)) rfl ?_
      refine mm_branch (mm_call_mono _ _) (c := (lg_cmp q 0) = 0) (s1 := (70, [(10, .int 0), (8, .long q), (6, .long (-p)), (0, .ref 1), (1, .int (nI c)), (2, .long p), (4, .long q)], [], wC ov un nx dp 0 cu st fi se th db cn F, 0)) (s2 := (49, [(10, .int 0), (8, .long q), (6, .long (-p)), (0, .ref 1), (1, .int (nI c)), (2, .long p), (4, .long q)], [], wC ov un nx dp 0 cu st fi se th db cn F, 0)) rfl (fun h => absurd h (fun e => ne0_64 (q := q) (by omega) ((lg_cmp_eq _ _).mp e))) (fun _ => ?_)
      refine mm_skip (mm_call_mono _ _) 2 (st' := (53, [(10, .int 0), (8, .long q), (6, .long (-p)), (0, .ref 1), (1, .int (nI c)), (2, .long p), (4, .long q)], [.long q, .long (-p)], wC ov un nx dp 0 cu st fi se th db cn F, 0)) rfl ?_
      refine mm_need (mm_call_mono _ _) (c := ¬ q = 0) (s' := (54, [(10, .int 0), (8, .long q), (6, .long (-p)), (0, .ref 1), (1, .int (nI c)), (2, .long p), (4, .long q)], [.long ((-p) - (-p) / q * q)], wC ov un nx dp 0 cu st fi se th db cn F, 0)) rfl (ne0_64 (q := q) (by omega)) ?_
      refine mm_skip (mm_call_mono _ _) 7 (st' := (35, [(10, .int 1), (8, .long ((-p) - (-p) / q * q)), (6, .long q), (11, .long ((-p) - (-p) / q * q)), (0, .ref 1), (1, .int (nI c)), (2, .long p), (4, .long q)], [], wC ov un nx dp 0 cu st fi se th db cn F, 0)) rfl ?_
      first
      | (have h4 : 1 ≤ 1 := Nat.le_refl 1
         have hab : (p).toInt = (p.toInt.natAbs : Int) := by have := Int64.le_iff_toInt_le.mp ((lg_cmp_ge _ _).mp h2); rw [show (0 : Int64).toInt = 0 by decide] at this; omega
         have h5 := rem64 (x := p) (by omega) (y := q) (ne0_64 (by omega))
         refine put_loop 99 1 q _ _ (by omega) (by omega) (by rw [h5]; exact Int.tmod_nonneg _ (by omega)) (fun g rs lf j hg0 hg => put_end hp hq hc hQ (g := g) ?_ rs lf j)
         rw [h5, Int.natAbs_tmod, hab, Int.natAbs_natCast] at hg
         have h6 : eu 100 p.toInt.natAbs q.toInt.natAbs = Nat.gcd p.toInt.natAbs q.toInt.natAbs := eu_100 (by have := q.toInt_lt; omega)
         have h7 : eu 100 p.toInt.natAbs q.toInt.natAbs = eu 99 q.toInt.natAbs (p.toInt.natAbs % q.toInt.natAbs) := by
           show (if q.toInt.natAbs = 0 then p.toInt.natAbs else eu 99 q.toInt.natAbs (p.toInt.natAbs % q.toInt.natAbs)) = _
           rw [if_neg (by omega)]
         have h8 : g.toInt.natAbs = Int.gcd p.toInt q.toInt := by rw [hg, ← h7, h6]; rfl
         omega)
      | (have h4 : 1 ≤ 1 := Nat.le_refl 1
         have hab : (-p).toInt = (p.toInt.natAbs : Int) := by have h9 := Int64.lt_iff_toInt_lt.mp (Int64.not_le.mp (fun e => h2 ((lg_cmp_ge _ _).mpr e))); rw [show (0 : Int64).toInt = 0 by decide] at h9; rw [Int64.toInt_neg, Int.bmod_eq_of_le (by omega) (by omega)]; omega
         have h5 := rem64 (x := -p) (by omega) (y := q) (ne0_64 (by omega))
         refine put_loop 99 1 q _ _ (by omega) (by omega) (by rw [h5]; exact Int.tmod_nonneg _ (by omega)) (fun g rs lf j hg0 hg => put_end hp hq hc hQ (g := g) ?_ rs lf j)
         rw [h5, Int.natAbs_tmod, hab, Int.natAbs_natCast] at hg
         have h6 : eu 100 p.toInt.natAbs q.toInt.natAbs = Nat.gcd p.toInt.natAbs q.toInt.natAbs := eu_100 (by have := q.toInt_lt; omega)
         have h7 : eu 100 p.toInt.natAbs q.toInt.natAbs = eu 99 q.toInt.natAbs (p.toInt.natAbs % q.toInt.natAbs) := by
           show (if q.toInt.natAbs = 0 then p.toInt.natAbs else eu 99 q.toInt.natAbs (p.toInt.natAbs % q.toInt.natAbs)) = _
           rw [if_neg (by omega)]
         have h8 : g.toInt.natAbs = Int.gcd p.toInt q.toInt := by rw [hg, ← h7, h6]; rfl
         omega)

set_option maxRecDepth 100000 in
theorem put_f {d : Nat} {ov un : Nat → Int32} {nx dp : Int32} {cu : mm_cu} {st fi se th db : Nat → Int32} {cn : Int32} {F : mm_M} {c : Nat} {p q : Int64} {Q : mm_R → mm_M → Prop} (hQ : Q (.inl none) (wC ov un nx dp 1 cu st fi se th db cn F)) : mm_call mm_Tb (d + 1) 139 [.ref 1, .int (nI c), .long p, .long q] (wC ov un nx dp 1 cu st fi se th db cn F) Q := by
  refine mm_in mt_139 (Nat.le_of_ble_eq_true rfl) ?_
  show mm_W _ _ _ _ _ _ _ (0, [(0, .ref 1), (1, .int (nI c)), (2, .long p), (4, .long q)], [], wC ov un nx dp 1 cu st fi se th db cn F, 0)
  refine mm_skip (mm_call_mono _ _) 3 (st' := (3, [(0, .ref 1), (1, .int (nI c)), (2, .long p), (4, .long q)], [.int (lg_cmp p 0)], wC ov un nx dp 1 cu st fi se th db cn F, 0)) rfl ?_
  refine mm_branch (mm_call_mono _ _) (c := (lg_cmp p 0) = 0) (s1 := (13, [(0, .ref 1), (1, .int (nI c)), (2, .long p), (4, .long q)], [], wC ov un nx dp 1 cu st fi se th db cn F, 0)) (s2 := (6, [(0, .ref 1), (1, .int (nI c)), (2, .long p), (4, .long q)], [], wC ov un nx dp 1 cu st fi se th db cn F, 0)) rfl (fun h1 => ?_) (fun h1 => ?_)
  · skip
    exact mm_ret (mm_call_mono _ _) (c := True) (r := .inl none) (M := wC ov un nx dp 1 cu st fi se th db cn F) (u := 0) rfl trivial (by decide) hQ
  · skip
    refine mm_skip (mm_call_mono _ _) 2 (st' := (10, [(0, .ref 1), (1, .int (nI c)), (2, .long p), (4, .long q)], [.int 1], wC ov un nx dp 1 cu st fi se th db cn F, 0)) rfl ?_
    refine mm_branch (mm_call_mono _ _) (c := (1 : Int32) = 0) (s1 := (14, [(0, .ref 1), (1, .int (nI c)), (2, .long p), (4, .long q)], [], wC ov un nx dp 1 cu st fi se th db cn F, 0)) (s2 := (13, [(0, .ref 1), (1, .int (nI c)), (2, .long p), (4, .long q)], [], wC ov un nx dp 1 cu st fi se th db cn F, 0)) rfl (fun h => absurd h (by decide)) (fun _ => ?_)
    exact mm_ret (mm_call_mono _ _) (c := True) (r := .inl none) (M := wC ov un nx dp 1 cu st fi se th db cn F) (u := 0) rfl trivial (by decide) hQ

theorem ct_N_put {d : Nat} {ov un : Nat → Int32} {nx dp fa : Int32} {cu : mm_cu} {st fi se th db : Nat → Int32} {cn : Int32} {F : mm_M} {c : Nat} {p q : Int64} {Q : mm_R → mm_M → Prop} (hfa : mm_z fa) (hc : c < 1332) (hv : fa = 0 → p.toInt.natAbs < 2 ^ 63 ∧ 0 < q.toInt ∧ rf ov un c = (0, 1)) (hQ : ∀ (ov1 un1 : Nat → Int32) (fa1 : Int32), putR ov un fa c p.toInt q.toInt ov1 un1 fa1 → Q (.inl none) (wC ov1 un1 nx dp fa1 cu st fi se th db cn F)) : mm_call mm_Tb (d + 1) 139 [.ref 1, .int (nI c), .long p, .long q] (wC ov un nx dp fa cu st fi se th db cn F) Q := by
  rcases hfa with rfl | rfl
  · obtain ⟨h1, h2, h3⟩ := hv rfl
    exact put_ok h1 h2 hc h3 hQ
  · exact put_f (hQ _ _ _ ⟨Or.inr rfl, fun _ _ => ⟨rfl, rfl⟩, fun _ => rfl, fun h => absurd h (by decide)⟩)
