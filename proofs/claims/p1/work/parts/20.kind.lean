/-- the kind of object o -/
def kd (st : Nat → Int32) (cn o : Int32) : Int32 := if o < 0 then -1 else if o < cn then (if st o.toNatClampNeg = 1 then 1 else if st o.toNatClampNeg = 2 then 2 else 0) else -1
def bz (p : Prop) [Decidable p] : Int32 := if p then 1 else 0
theorem bz_z (p : Prop) [Decidable p] : mm_z (bz p) := by unfold bz; split <;> first | exact Or.inr rfl | exact Or.inl rfl
theorem bz_t {p : Prop} [Decidable p] (h : p) : bz p = 1 := if_pos h
theorem bz_f {p : Prop} [Decidable p] (h : ¬ p) : bz p = 0 := if_neg h
theorem kd_in {cn o : Int32} (h : cn.toInt ≤ 24) (h1 : ¬ o < 0) (h2 : o < cn) : vp_in o 24 := by
  rw [vp_in_iff]
  rw [Int32.lt_iff_toInt_lt] at h1 h2
  have h0 : (0 : Int32).toInt = 0 := by decide
  omega
theorem kd_0 (st : Nat → Int32) (o : Int32) : kd st 0 o = -1 := by
  unfold kd
  split
  · rfl
  · rfl
set_option maxRecDepth 100000 in
theorem ct_C_kind {d : Nat} {ov un : Nat → Int32} {nx dp fa : Int32} {cu : mm_cu} {st fi se th db : Nat → Int32} {cn : Int32} {F : mm_M} {o : Int32} {Q : mm_R → mm_M → Prop} (hcn : cn.toInt ≤ 24) (hQ : Q (.inl (some (.int (kd st cn o)))) (wP (wCp ov un nx dp fa cu st fi se th db cn) F)) : mm_call mm_Tb (d + 1) 15 [.ref 0, .int o] (wP (wCp ov un nx dp fa cu st fi se th db cn) F) Q := by
  refine mm_in mt_15 (Nat.le_of_ble_eq_true rfl) ?_
  show mm_W _ _ _ _ _ _ _ (0, [(0, .ref 0), (1, .int o)], [], wP (wCp ov un nx dp fa cu st fi se th db cn) F, 0)
  refine mm_skip (mm_call_mono _ _) 1 (st' := (1, [(0, .ref 0), (1, .int o)], [.int o], wP (wCp ov un nx dp fa cu st fi se th db cn) F, 0)) rfl ?_
  refine mm_branch (mm_call_mono _ _) (c := o < 0) (s1 := (12, [(0, .ref 0), (1, .int o)], [], wP (wCp ov un nx dp fa cu st fi se th db cn) F, 0)) (s2 := (4, [(0, .ref 0), (1, .int o)], [], wP (wCp ov un nx dp fa cu st fi se th db cn) F, 0)) rfl (fun h1 => ?_) (fun h1 => ?_)
  · skip
    refine mm_skip (mm_call_mono _ _) 1 (st' := (13, [(0, .ref 0), (1, .int o)], [.int (-1)], wP (wCp ov un nx dp fa cu st fi se th db cn) F, 0)) rfl ?_
    exact mm_ret (mm_call_mono _ _) (c := True) (r := .inl (some (.int (-1)))) (M := wP (wCp ov un nx dp fa cu st fi se th db cn) F) (u := 0) rfl trivial (by decide) (by rw [kd, if_pos h1] at hQ; exact hQ)
  · skip
    refine mm_skip (mm_call_mono _ _) 3 (st' := (9, [(0, .ref 0), (1, .int o)], [.int cn, .int o], wP (wCp ov un nx dp fa cu st fi se th db cn) F, 0)) rfl ?_
    refine mm_branch (mm_call_mono _ _) (c := o < cn) (s1 := (14, [(0, .ref 0), (1, .int o)], [], wP (wCp ov un nx dp fa cu st fi se th db cn) F, 0)) (s2 := (12, [(0, .ref 0), (1, .int o)], [], wP (wCp ov un nx dp fa cu st fi se th db cn) F, 0)) rfl (fun h2 => ?_) (fun h2 => ?_)
    · skip
      refine mm_skip (mm_call_mono _ _) 3 (st' := (19, [(0, .ref 0), (1, .int o)], [.int o, .ref 3], wP (wCp ov un nx dp fa cu st fi se th db cn) F, 0)) rfl ?_
      refine mm_need (mm_call_mono _ _) (c := vp_in o 24) (s' := (20, [(0, .ref 0), (1, .int o)], [.int (st (Int32.toNatClampNeg o))], wP (wCp ov un nx dp fa cu st fi se th db cn) F, 0)) rfl (kd_in hcn h1 h2) ?_
      refine mm_skip (mm_call_mono _ _) 1 (st' := (21, [(0, .ref 0), (1, .int o)], [.int 1, .int (st (Int32.toNatClampNeg o))], wP (wCp ov un nx dp fa cu st fi se th db cn) F, 0)) rfl ?_
      refine mm_branch (mm_call_mono _ _) (c := (st (Int32.toNatClampNeg o)) = 1) (s1 := (24, [(0, .ref 0), (1, .int o)], [], wP (wCp ov un nx dp fa cu st fi se th db cn) F, 0)) (s2 := (28, [(0, .ref 0), (1, .int o)], [], wP (wCp ov un nx dp fa cu st fi se th db cn) F, 0)) rfl (fun h3 => ?_) (fun h3 => ?_)
      · skip
        refine mm_skip (mm_call_mono _ _) 2 (st' := (43, [(0, .ref 0), (1, .int o)], [.int 1], wP (wCp ov un nx dp fa cu st fi se th db cn) F, 0)) rfl ?_
        exact mm_ret (mm_call_mono _ _) (c := True) (r := .inl (some (.int 1))) (M := wP (wCp ov un nx dp fa cu st fi se th db cn) F) (u := 0) rfl trivial (by decide) (by rw [kd, if_neg h1, if_pos h2, if_pos h3] at hQ; exact hQ)
      · skip
        refine mm_skip (mm_call_mono _ _) 3 (st' := (33, [(0, .ref 0), (1, .int o)], [.int o, .ref 3], wP (wCp ov un nx dp fa cu st fi se th db cn) F, 0)) rfl ?_
        refine mm_need (mm_call_mono _ _) (c := vp_in o 24) (s' := (34, [(0, .ref 0), (1, .int o)], [.int (st (Int32.toNatClampNeg o))], wP (wCp ov un nx dp fa cu st fi se th db cn) F, 0)) rfl (kd_in hcn h1 h2) ?_
        refine mm_skip (mm_call_mono _ _) 1 (st' := (35, [(0, .ref 0), (1, .int o)], [.int 2, .int (st (Int32.toNatClampNeg o))], wP (wCp ov un nx dp fa cu st fi se th db cn) F, 0)) rfl ?_
        refine mm_branch (mm_call_mono _ _) (c := (st (Int32.toNatClampNeg o)) = 2) (s1 := (38, [(0, .ref 0), (1, .int o)], [], wP (wCp ov un nx dp fa cu st fi se th db cn) F, 0)) (s2 := (42, [(0, .ref 0), (1, .int o)], [], wP (wCp ov un nx dp fa cu st fi se th db cn) F, 0)) rfl (fun h4 => ?_) (fun h4 => ?_)
        · skip
          refine mm_skip (mm_call_mono _ _) 2 (st' := (43, [(0, .ref 0), (1, .int o)], [.int 2], wP (wCp ov un nx dp fa cu st fi se th db cn) F, 0)) rfl ?_
          exact mm_ret (mm_call_mono _ _) (c := True) (r := .inl (some (.int 2))) (M := wP (wCp ov un nx dp fa cu st fi se th db cn) F) (u := 0) rfl trivial (by decide) (by rw [kd, if_neg h1, if_pos h2, if_neg h3, if_pos h4] at hQ; exact hQ)
        · skip
          refine mm_skip (mm_call_mono _ _) 1 (st' := (43, [(0, .ref 0), (1, .int o)], [.int 0], wP (wCp ov un nx dp fa cu st fi se th db cn) F, 0)) rfl ?_
          exact mm_ret (mm_call_mono _ _) (c := True) (r := .inl (some (.int 0))) (M := wP (wCp ov un nx dp fa cu st fi se th db cn) F) (u := 0) rfl trivial (by decide) (by rw [kd, if_neg h1, if_pos h2, if_neg h3, if_neg h4] at hQ; exact hQ)
    · skip
      refine mm_skip (mm_call_mono _ _) 1 (st' := (13, [(0, .ref 0), (1, .int o)], [.int (-1)], wP (wCp ov un nx dp fa cu st fi se th db cn) F, 0)) rfl ?_
      exact mm_ret (mm_call_mono _ _) (c := True) (r := .inl (some (.int (-1)))) (M := wP (wCp ov un nx dp fa cu st fi se th db cn) F) (u := 0) rfl trivial (by decide) (by rw [kd, if_neg h1, if_neg h2] at hQ; exact hQ)

set_option maxRecDepth 100000 in
theorem ct_C_isPoint {d : Nat} {ov un : Nat → Int32} {nx dp fa : Int32} {cu : mm_cu} {st fi se th db : Nat → Int32} {cn : Int32} {F : mm_M} {o : Int32} {Q : mm_R → mm_M → Prop} (hcn : cn.toInt ≤ 24) (hQ : Q (.inl (some (.int (bz (kd st cn o = 0))))) (wP (wCp ov un nx dp fa cu st fi se th db cn) F)) : mm_call mm_Tb (d + 2) 18 [.ref 0, .int o] (wP (wCp ov un nx dp fa cu st fi se th db cn) F) Q := by
  refine mm_in mt_18 (Nat.le_of_ble_eq_true rfl) ?_
  show mm_W _ _ _ _ _ _ _ (0, [(0, .ref 0), (1, .int o)], [], wP (wCp ov un nx dp fa cu st fi se th db cn) F, 0)
  refine mm_skip (mm_call_mono _ _) 2 (st' := (2, [(0, .ref 0), (1, .int o)], [.int o, .ref 0], wP (wCp ov un nx dp fa cu st fi se th db cn) F, 0)) rfl ?_
  refine mm_inv (mm_call_mono _ _) (j := 15) (a := [.ref 0, .int o]) (M := wP (wCp ov un nx dp fa cu st fi se th db cn) F) (u := 0) rfl (by decide) (ct_C_kind hcn ?_)
  show mm_W _ _ _ _ _ _ _ (5, [(0, .ref 0), (1, .int o)], [.int (kd st cn o)], wP (wCp ov un nx dp fa cu st fi se th db cn) F, 0)
  refine mm_branch (mm_call_mono _ _) (c := (kd st cn o) = 0) (s1 := (8, [(0, .ref 0), (1, .int o)], [], wP (wCp ov un nx dp fa cu st fi se th db cn) F, 0)) (s2 := (12, [(0, .ref 0), (1, .int o)], [], wP (wCp ov un nx dp fa cu st fi se th db cn) F, 0)) rfl (fun h1 => ?_) (fun h1 => ?_)
  · skip
    refine mm_skip (mm_call_mono _ _) 2 (st' := (13, [(0, .ref 0), (1, .int o)], [.int 1], wP (wCp ov un nx dp fa cu st fi se th db cn) F, 0)) rfl ?_
    exact mm_ret (mm_call_mono _ _) (c := mm_z 1) (r := .inl (some (.int 1))) (M := wP (wCp ov un nx dp fa cu st fi se th db cn) F) (u := 0) rfl (by unfold mm_z; decide) (by decide) (by rw [bz_t h1] at hQ; exact hQ)
  · skip
    refine mm_skip (mm_call_mono _ _) 1 (st' := (13, [(0, .ref 0), (1, .int o)], [.int 0], wP (wCp ov un nx dp fa cu st fi se th db cn) F, 0)) rfl ?_
    exact mm_ret (mm_call_mono _ _) (c := mm_z 0) (r := .inl (some (.int 0))) (M := wP (wCp ov un nx dp fa cu st fi se th db cn) F) (u := 0) rfl (by unfold mm_z; decide) (by decide) (by rw [bz_f h1] at hQ; exact hQ)

set_option maxRecDepth 100000 in
theorem ct_C_isLine {d : Nat} {ov un : Nat → Int32} {nx dp fa : Int32} {cu : mm_cu} {st fi se th db : Nat → Int32} {cn : Int32} {F : mm_M} {o : Int32} {Q : mm_R → mm_M → Prop} (hcn : cn.toInt ≤ 24) (hQ : Q (.inl (some (.int (bz (kd st cn o = 1))))) (wP (wCp ov un nx dp fa cu st fi se th db cn) F)) : mm_call mm_Tb (d + 2) 19 [.ref 0, .int o] (wP (wCp ov un nx dp fa cu st fi se th db cn) F) Q := by
  refine mm_in mt_19 (Nat.le_of_ble_eq_true rfl) ?_
  show mm_W _ _ _ _ _ _ _ (0, [(0, .ref 0), (1, .int o)], [], wP (wCp ov un nx dp fa cu st fi se th db cn) F, 0)
  refine mm_skip (mm_call_mono _ _) 2 (st' := (2, [(0, .ref 0), (1, .int o)], [.int o, .ref 0], wP (wCp ov un nx dp fa cu st fi se th db cn) F, 0)) rfl ?_
  refine mm_inv (mm_call_mono _ _) (j := 15) (a := [.ref 0, .int o]) (M := wP (wCp ov un nx dp fa cu st fi se th db cn) F) (u := 0) rfl (by decide) (ct_C_kind hcn ?_)
  show mm_W _ _ _ _ _ _ _ (5, [(0, .ref 0), (1, .int o)], [.int (kd st cn o)], wP (wCp ov un nx dp fa cu st fi se th db cn) F, 0)
  refine mm_skip (mm_call_mono _ _) 1 (st' := (6, [(0, .ref 0), (1, .int o)], [.int 1, .int (kd st cn o)], wP (wCp ov un nx dp fa cu st fi se th db cn) F, 0)) rfl ?_
  refine mm_branch (mm_call_mono _ _) (c := (kd st cn o) = 1) (s1 := (9, [(0, .ref 0), (1, .int o)], [], wP (wCp ov un nx dp fa cu st fi se th db cn) F, 0)) (s2 := (13, [(0, .ref 0), (1, .int o)], [], wP (wCp ov un nx dp fa cu st fi se th db cn) F, 0)) rfl (fun h1 => ?_) (fun h1 => ?_)
  · skip
    refine mm_skip (mm_call_mono _ _) 2 (st' := (14, [(0, .ref 0), (1, .int o)], [.int 1], wP (wCp ov un nx dp fa cu st fi se th db cn) F, 0)) rfl ?_
    exact mm_ret (mm_call_mono _ _) (c := mm_z 1) (r := .inl (some (.int 1))) (M := wP (wCp ov un nx dp fa cu st fi se th db cn) F) (u := 0) rfl (by unfold mm_z; decide) (by decide) (by rw [bz_t h1] at hQ; exact hQ)
  · skip
    refine mm_skip (mm_call_mono _ _) 1 (st' := (14, [(0, .ref 0), (1, .int o)], [.int 0], wP (wCp ov un nx dp fa cu st fi se th db cn) F, 0)) rfl ?_
    exact mm_ret (mm_call_mono _ _) (c := mm_z 0) (r := .inl (some (.int 0))) (M := wP (wCp ov un nx dp fa cu st fi se th db cn) F) (u := 0) rfl (by unfold mm_z; decide) (by decide) (by rw [bz_f h1] at hQ; exact hQ)

set_option maxRecDepth 100000 in
theorem ct_C_isCircle {d : Nat} {ov un : Nat → Int32} {nx dp fa : Int32} {cu : mm_cu} {st fi se th db : Nat → Int32} {cn : Int32} {F : mm_M} {o : Int32} {Q : mm_R → mm_M → Prop} (hcn : cn.toInt ≤ 24) (hQ : Q (.inl (some (.int (bz (kd st cn o = 2))))) (wP (wCp ov un nx dp fa cu st fi se th db cn) F)) : mm_call mm_Tb (d + 2) 20 [.ref 0, .int o] (wP (wCp ov un nx dp fa cu st fi se th db cn) F) Q := by
  refine mm_in mt_20 (Nat.le_of_ble_eq_true rfl) ?_
  show mm_W _ _ _ _ _ _ _ (0, [(0, .ref 0), (1, .int o)], [], wP (wCp ov un nx dp fa cu st fi se th db cn) F, 0)
  refine mm_skip (mm_call_mono _ _) 2 (st' := (2, [(0, .ref 0), (1, .int o)], [.int o, .ref 0], wP (wCp ov un nx dp fa cu st fi se th db cn) F, 0)) rfl ?_
  refine mm_inv (mm_call_mono _ _) (j := 15) (a := [.ref 0, .int o]) (M := wP (wCp ov un nx dp fa cu st fi se th db cn) F) (u := 0) rfl (by decide) (ct_C_kind hcn ?_)
  show mm_W _ _ _ _ _ _ _ (5, [(0, .ref 0), (1, .int o)], [.int (kd st cn o)], wP (wCp ov un nx dp fa cu st fi se th db cn) F, 0)
  refine mm_skip (mm_call_mono _ _) 1 (st' := (6, [(0, .ref 0), (1, .int o)], [.int 2, .int (kd st cn o)], wP (wCp ov un nx dp fa cu st fi se th db cn) F, 0)) rfl ?_
  refine mm_branch (mm_call_mono _ _) (c := (kd st cn o) = 2) (s1 := (9, [(0, .ref 0), (1, .int o)], [], wP (wCp ov un nx dp fa cu st fi se th db cn) F, 0)) (s2 := (13, [(0, .ref 0), (1, .int o)], [], wP (wCp ov un nx dp fa cu st fi se th db cn) F, 0)) rfl (fun h1 => ?_) (fun h1 => ?_)
  · skip
    refine mm_skip (mm_call_mono _ _) 2 (st' := (14, [(0, .ref 0), (1, .int o)], [.int 1], wP (wCp ov un nx dp fa cu st fi se th db cn) F, 0)) rfl ?_
    exact mm_ret (mm_call_mono _ _) (c := mm_z 1) (r := .inl (some (.int 1))) (M := wP (wCp ov un nx dp fa cu st fi se th db cn) F) (u := 0) rfl (by unfold mm_z; decide) (by decide) (by rw [bz_t h1] at hQ; exact hQ)
  · skip
    refine mm_skip (mm_call_mono _ _) 1 (st' := (14, [(0, .ref 0), (1, .int o)], [.int 0], wP (wCp ov un nx dp fa cu st fi se th db cn) F, 0)) rfl ?_
    exact mm_ret (mm_call_mono _ _) (c := mm_z 0) (r := .inl (some (.int 0))) (M := wP (wCp ov un nx dp fa cu st fi se th db cn) F) (u := 0) rfl (by unfold mm_z; decide) (by decide) (by rw [bz_f h1] at hQ; exact hQ)

