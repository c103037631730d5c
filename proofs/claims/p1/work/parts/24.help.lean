set_option maxRecDepth 100000 in
theorem ct_L_line0 {d : Nat} {ov un : Nat → Int32} {nx dp fa : Int32} {cu : mm_cu} {st fi se th db : Nat → Int32} {post : mm_pst} {o : Nat → Int64} {a b : Int32} {Q : mm_R → mm_M → Prop} (hQ : Q (.inl (some (.int 1))) (wP (wCp ov un nx dp fa cu st fi se th db 0) (wQ post (wO o)))) : mm_call mm_Tb (d + 5) 152 [.ref 0, .int a, .int b, .ref 17] (wP (wCp ov un nx dp fa cu st fi se th db 0) (wQ post (wO o))) Q := by
  refine mm_in mt_152 (Nat.le_of_ble_eq_true rfl) ?_
  show mm_W _ _ _ _ _ _ _ (0, [(0, .ref 0), (1, .int a), (2, .int b), (3, .ref 17)], [], wP (wCp ov un nx dp fa cu st fi se th db 0) (wQ post (wO o)), 0)
  refine mm_skip (mm_call_mono _ _) 5 (st' := (5, [(0, .ref 0), (1, .int a), (2, .int b), (3, .ref 17)], [.int b, .int a, .ref 0, .int 0, .ref 17], wP (wCp ov un nx dp fa cu st fi se th db 0) (wQ post (wO o)), 0)) rfl ?_
  refine mm_inv (mm_call_mono _ _) (j := 1) (a := [.ref 0, .int a, .int b]) (M := wP (wCp ov un nx dp fa cu st fi se th db 0) (wQ post (wO o))) (u := 4) rfl (by decide) (ct_C_line0 ?_)
  show mm_W _ _ _ _ _ _ _ (15, [(0, .ref 0), (1, .int a), (2, .int b), (3, .ref 17)], [], wP (wCp ov un nx dp fa cu st fi se th db 0) (wQ post (wO o)), 4)
  refine mm_skip (mm_call_mono _ _) 1 (st' := (16, [(0, .ref 0), (1, .int a), (2, .int b), (3, .ref 17)], [.int 1], wP (wCp ov un nx dp fa cu st fi se th db 0) (wQ post (wO o)), 4)) rfl ?_
  exact mm_ret (mm_call_mono _ _) (c := True) (r := .inl (some (.int 1))) (M := wP (wCp ov un nx dp fa cu st fi se th db 0) (wQ post (wO o))) (u := 4) rfl trivial (by decide) hQ

set_option maxRecDepth 100000 in
theorem ct_L_circle0 {d : Nat} {ov un : Nat → Int32} {nx dp fa : Int32} {cu : mm_cu} {st fi se th db : Nat → Int32} {post : mm_pst} {o : Nat → Int64} {a b c : Int32} {Q : mm_R → mm_M → Prop} (hQ : Q (.inl (some (.int 1))) (wP (wCp ov un nx dp fa cu st fi se th db 0) (wQ post (wO o)))) : mm_call mm_Tb (d + 5) 153 [.ref 0, .int a, .int b, .int c, .ref 17] (wP (wCp ov un nx dp fa cu st fi se th db 0) (wQ post (wO o))) Q := by
  refine mm_in mt_153 (Nat.le_of_ble_eq_true rfl) ?_
  show mm_W _ _ _ _ _ _ _ (0, [(0, .ref 0), (1, .int a), (2, .int b), (3, .int c), (4, .ref 17)], [], wP (wCp ov un nx dp fa cu st fi se th db 0) (wQ post (wO o)), 0)
  refine mm_skip (mm_call_mono _ _) 6 (st' := (7, [(0, .ref 0), (1, .int a), (2, .int b), (3, .int c), (4, .ref 17)], [.int c, .int b, .int a, .ref 0, .int 0, .ref 17], wP (wCp ov un nx dp fa cu st fi se th db 0) (wQ post (wO o)), 0)) rfl ?_
  refine mm_inv (mm_call_mono _ _) (j := 2) (a := [.ref 0, .int a, .int b, .int c]) (M := wP (wCp ov un nx dp fa cu st fi se th db 0) (wQ post (wO o))) (u := 4) rfl (by decide) (ct_C_circle0 ?_)
  show mm_W _ _ _ _ _ _ _ (17, [(0, .ref 0), (1, .int a), (2, .int b), (3, .int c), (4, .ref 17)], [], wP (wCp ov un nx dp fa cu st fi se th db 0) (wQ post (wO o)), 4)
  refine mm_skip (mm_call_mono _ _) 1 (st' := (18, [(0, .ref 0), (1, .int a), (2, .int b), (3, .int c), (4, .ref 17)], [.int 1], wP (wCp ov un nx dp fa cu st fi se th db 0) (wQ post (wO o)), 4)) rfl ?_
  exact mm_ret (mm_call_mono _ _) (c := True) (r := .inl (some (.int 1))) (M := wP (wCp ov un nx dp fa cu st fi se th db 0) (wQ post (wO o))) (u := 4) rfl trivial (by decide) hQ

set_option maxRecDepth 100000 in
theorem ct_L_middle0 {d : Nat} {ov un : Nat → Int32} {nx dp fa : Int32} {cu : mm_cu} {st fi se th db : Nat → Int32} {post : mm_pst} {o : Nat → Int64} {a b : Int32} {Q : mm_R → mm_M → Prop} (hQ : Q (.inl (some (.int 1))) (wP (wCp ov un nx dp fa cu st fi se th db 0) (wQ post (wO o)))) : mm_call mm_Tb (d + 5) 154 [.ref 0, .int a, .int b, .ref 17] (wP (wCp ov un nx dp fa cu st fi se th db 0) (wQ post (wO o))) Q := by
  refine mm_in mt_154 (Nat.le_of_ble_eq_true rfl) ?_
  show mm_W _ _ _ _ _ _ _ (0, [(0, .ref 0), (1, .int a), (2, .int b), (3, .ref 17)], [], wP (wCp ov un nx dp fa cu st fi se th db 0) (wQ post (wO o)), 0)
  refine mm_skip (mm_call_mono _ _) 5 (st' := (5, [(0, .ref 0), (1, .int a), (2, .int b), (3, .ref 17)], [.int b, .int a, .ref 0, .int 0, .ref 17], wP (wCp ov un nx dp fa cu st fi se th db 0) (wQ post (wO o)), 0)) rfl ?_
  refine mm_inv (mm_call_mono _ _) (j := 3) (a := [.ref 0, .int a, .int b]) (M := wP (wCp ov un nx dp fa cu st fi se th db 0) (wQ post (wO o))) (u := 4) rfl (by decide) (ct_C_middle0 ?_)
  show mm_W _ _ _ _ _ _ _ (15, [(0, .ref 0), (1, .int a), (2, .int b), (3, .ref 17)], [], wP (wCp ov un nx dp fa cu st fi se th db 0) (wQ post (wO o)), 4)
  refine mm_skip (mm_call_mono _ _) 1 (st' := (16, [(0, .ref 0), (1, .int a), (2, .int b), (3, .ref 17)], [.int 1], wP (wCp ov un nx dp fa cu st fi se th db 0) (wQ post (wO o)), 4)) rfl ?_
  exact mm_ret (mm_call_mono _ _) (c := True) (r := .inl (some (.int 1))) (M := wP (wCp ov un nx dp fa cu st fi se th db 0) (wQ post (wO o))) (u := 4) rfl trivial (by decide) hQ

set_option maxRecDepth 100000 in
theorem ct_L_meet0 {d : Nat} {ov un : Nat → Int32} {nx dp fa : Int32} {cu : mm_cu} {st fi se th db : Nat → Int32} {post : mm_pst} {o : Nat → Int64} {a b c : Int32} {Q : mm_R → mm_M → Prop} (hQ : Q (.inl (some (.int 1))) (wP (wCp ov un nx dp fa cu st fi se th db 0) (wQ post (wO o)))) : mm_call mm_Tb (d + 5) 155 [.ref 0, .int a, .int b, .int c, .ref 17] (wP (wCp ov un nx dp fa cu st fi se th db 0) (wQ post (wO o))) Q := by
  refine mm_in mt_155 (Nat.le_of_ble_eq_true rfl) ?_
  show mm_W _ _ _ _ _ _ _ (0, [(0, .ref 0), (1, .int a), (2, .int b), (3, .int c), (4, .ref 17)], [], wP (wCp ov un nx dp fa cu st fi se th db 0) (wQ post (wO o)), 0)
  refine mm_skip (mm_call_mono _ _) 6 (st' := (7, [(0, .ref 0), (1, .int a), (2, .int b), (3, .int c), (4, .ref 17)], [.int c, .int b, .int a, .ref 0, .int 0, .ref 17], wP (wCp ov un nx dp fa cu st fi se th db 0) (wQ post (wO o)), 0)) rfl ?_
  refine mm_inv (mm_call_mono _ _) (j := 4) (a := [.ref 0, .int a, .int b, .int c]) (M := wP (wCp ov un nx dp fa cu st fi se th db 0) (wQ post (wO o))) (u := 4) rfl (by decide) (ct_C_meet0 ?_)
  show mm_W _ _ _ _ _ _ _ (17, [(0, .ref 0), (1, .int a), (2, .int b), (3, .int c), (4, .ref 17)], [], wP (wCp ov un nx dp fa cu st fi se th db 0) (wQ post (wO o)), 4)
  refine mm_skip (mm_call_mono _ _) 1 (st' := (18, [(0, .ref 0), (1, .int a), (2, .int b), (3, .int c), (4, .ref 17)], [.int 1], wP (wCp ov un nx dp fa cu st fi se th db 0) (wQ post (wO o)), 4)) rfl ?_
  exact mm_ret (mm_call_mono _ _) (c := True) (r := .inl (some (.int 1))) (M := wP (wCp ov un nx dp fa cu st fi se th db 0) (wQ post (wO o))) (u := 4) rfl trivial (by decide) hQ

set_option maxRecDepth 100000 in
theorem ct_L_move0 {d : Nat} {ov un : Nat → Int32} {nx dp fa : Int32} {cu : mm_cu} {st fi se th db : Nat → Int32} {post : mm_pst} {o : Nat → Int64} {a b c e g : Int32} {Q : mm_R → mm_M → Prop} (hQ : Q (.inl (some (.int 1))) (wP (wCp ov un nx dp fa cu st fi se th db 0) (wQ post (wO o)))) : mm_call mm_Tb (d + 5) 156 [.ref 0, .int a, .int b, .int c, .int e, .int g, .ref 17] (wP (wCp ov un nx dp fa cu st fi se th db 0) (wQ post (wO o))) Q := by
  refine mm_in mt_156 (Nat.le_of_ble_eq_true rfl) ?_
  show mm_W _ _ _ _ _ _ _ (0, [(0, .ref 0), (1, .int a), (2, .int b), (3, .int c), (4, .int e), (5, .int g), (6, .ref 17)], [], wP (wCp ov un nx dp fa cu st fi se th db 0) (wQ post (wO o)), 0)
  refine mm_skip (mm_call_mono _ _) 8 (st' := (11, [(0, .ref 0), (1, .int a), (2, .int b), (3, .int c), (4, .int e), (5, .int g), (6, .ref 17)], [.int g, .int e, .int c, .int b, .int a, .ref 0, .int 0, .ref 17], wP (wCp ov un nx dp fa cu st fi se th db 0) (wQ post (wO o)), 0)) rfl ?_
  refine mm_inv (mm_call_mono _ _) (j := 5) (a := [.ref 0, .int a, .int b, .int c, .int e, .int g]) (M := wP (wCp ov un nx dp fa cu st fi se th db 0) (wQ post (wO o))) (u := 4) rfl (by decide) (ct_C_move0 ?_)
  show mm_W _ _ _ _ _ _ _ (21, [(0, .ref 0), (1, .int a), (2, .int b), (3, .int c), (4, .int e), (5, .int g), (6, .ref 17)], [], wP (wCp ov un nx dp fa cu st fi se th db 0) (wQ post (wO o)), 4)
  refine mm_skip (mm_call_mono _ _) 1 (st' := (22, [(0, .ref 0), (1, .int a), (2, .int b), (3, .int c), (4, .int e), (5, .int g), (6, .ref 17)], [.int 1], wP (wCp ov un nx dp fa cu st fi se th db 0) (wQ post (wO o)), 4)) rfl ?_
  exact mm_ret (mm_call_mono _ _) (c := True) (r := .inl (some (.int 1))) (M := wP (wCp ov un nx dp fa cu st fi se th db 0) (wQ post (wO o))) (u := 4) rfl trivial (by decide) hQ

set_option maxRecDepth 100000 in
theorem ct_L_on0 {d : Nat} {ov un : Nat → Int32} {nx dp fa : Int32} {cu : mm_cu} {st fi se th db : Nat → Int32} {post : mm_pst} {o : Nat → Int64} {a b : Int32} {Q : mm_R → mm_M → Prop} (hQ : Q (.inl (some (.int 1))) (wP (wCp ov un nx dp fa cu st fi se th db 0) (wQ post (wO o)))) : mm_call mm_Tb (d + 5) 157 [.ref 0, .int a, .int b, .ref 17] (wP (wCp ov un nx dp fa cu st fi se th db 0) (wQ post (wO o))) Q := by
  refine mm_in mt_157 (Nat.le_of_ble_eq_true rfl) ?_
  show mm_W _ _ _ _ _ _ _ (0, [(0, .ref 0), (1, .int a), (2, .int b), (3, .ref 17)], [], wP (wCp ov un nx dp fa cu st fi se th db 0) (wQ post (wO o)), 0)
  refine mm_skip (mm_call_mono _ _) 5 (st' := (5, [(0, .ref 0), (1, .int a), (2, .int b), (3, .ref 17)], [.int b, .int a, .ref 0, .int 0, .ref 17], wP (wCp ov un nx dp fa cu st fi se th db 0) (wQ post (wO o)), 0)) rfl ?_
  refine mm_inv (mm_call_mono _ _) (j := 7) (a := [.ref 0, .int a, .int b]) (M := wP (wCp ov un nx dp fa cu st fi se th db 0) (wQ post (wO o))) (u := 4) rfl (by decide) (ct_C_on0 ?_)
  show mm_W _ _ _ _ _ _ _ (22, [(0, .ref 0), (1, .int a), (2, .int b), (3, .ref 17)], [], wP (wCp ov un nx dp fa cu st fi se th db 0) (wQ post (wO o)), 4)
  refine mm_skip (mm_call_mono _ _) 1 (st' := (23, [(0, .ref 0), (1, .int a), (2, .int b), (3, .ref 17)], [.int 1], wP (wCp ov un nx dp fa cu st fi se th db 0) (wQ post (wO o)), 4)) rfl ?_
  exact mm_ret (mm_call_mono _ _) (c := True) (r := .inl (some (.int 1))) (M := wP (wCp ov un nx dp fa cu st fi se th db 0) (wQ post (wO o))) (u := 4) rfl trivial (by decide) hQ

set_option maxRecDepth 100000 in
theorem ct_L_same0 {d : Nat} {ov un : Nat → Int32} {nx dp fa : Int32} {cu : mm_cu} {st fi se th db : Nat → Int32} {post : mm_pst} {o : Nat → Int64} {a b : Int32} {Q : mm_R → mm_M → Prop} (hQ : Q (.inl (some (.int 1))) (wP (wCp ov un nx dp fa cu st fi se th db 0) (wQ post (wO o)))) : mm_call mm_Tb (d + 5) 158 [.ref 0, .int a, .int b, .ref 17] (wP (wCp ov un nx dp fa cu st fi se th db 0) (wQ post (wO o))) Q := by
  refine mm_in mt_158 (Nat.le_of_ble_eq_true rfl) ?_
  show mm_W _ _ _ _ _ _ _ (0, [(0, .ref 0), (1, .int a), (2, .int b), (3, .ref 17)], [], wP (wCp ov un nx dp fa cu st fi se th db 0) (wQ post (wO o)), 0)
  refine mm_skip (mm_call_mono _ _) 5 (st' := (5, [(0, .ref 0), (1, .int a), (2, .int b), (3, .ref 17)], [.int b, .int a, .ref 0, .int 0, .ref 17], wP (wCp ov un nx dp fa cu st fi se th db 0) (wQ post (wO o)), 0)) rfl ?_
  refine mm_inv (mm_call_mono _ _) (j := 8) (a := [.ref 0, .int a, .int b]) (M := wP (wCp ov un nx dp fa cu st fi se th db 0) (wQ post (wO o))) (u := 4) rfl (by decide) (ct_C_same0 ?_)
  show mm_W _ _ _ _ _ _ _ (22, [(0, .ref 0), (1, .int a), (2, .int b), (3, .ref 17)], [], wP (wCp ov un nx dp fa cu st fi se th db 0) (wQ post (wO o)), 4)
  refine mm_skip (mm_call_mono _ _) 1 (st' := (23, [(0, .ref 0), (1, .int a), (2, .int b), (3, .ref 17)], [.int 1], wP (wCp ov un nx dp fa cu st fi se th db 0) (wQ post (wO o)), 4)) rfl ?_
  exact mm_ret (mm_call_mono _ _) (c := True) (r := .inl (some (.int 1))) (M := wP (wCp ov un nx dp fa cu st fi se th db 0) (wQ post (wO o))) (u := 4) rfl trivial (by decide) hQ

set_option maxRecDepth 100000 in
theorem ct_L_equal0 {d : Nat} {ov un : Nat → Int32} {nx dp fa : Int32} {cu : mm_cu} {st fi se th db : Nat → Int32} {post : mm_pst} {o : Nat → Int64} {a b c e : Int32} {Q : mm_R → mm_M → Prop} (hQ : Q (.inl (some (.int 1))) (wP (wCp ov un nx dp fa cu st fi se th db 0) (wQ post (wO o)))) : mm_call mm_Tb (d + 5) 159 [.ref 0, .int a, .int b, .int c, .int e, .ref 17] (wP (wCp ov un nx dp fa cu st fi se th db 0) (wQ post (wO o))) Q := by
  refine mm_in mt_159 (Nat.le_of_ble_eq_true rfl) ?_
  show mm_W _ _ _ _ _ _ _ (0, [(0, .ref 0), (1, .int a), (2, .int b), (3, .int c), (4, .int e), (5, .ref 17)], [], wP (wCp ov un nx dp fa cu st fi se th db 0) (wQ post (wO o)), 0)
  refine mm_skip (mm_call_mono _ _) 7 (st' := (9, [(0, .ref 0), (1, .int a), (2, .int b), (3, .int c), (4, .int e), (5, .ref 17)], [.int e, .int c, .int b, .int a, .ref 0, .int 0, .ref 17], wP (wCp ov un nx dp fa cu st fi se th db 0) (wQ post (wO o)), 0)) rfl ?_
  refine mm_inv (mm_call_mono _ _) (j := 9) (a := [.ref 0, .int a, .int b, .int c, .int e]) (M := wP (wCp ov un nx dp fa cu st fi se th db 0) (wQ post (wO o))) (u := 4) rfl (by decide) (ct_C_equal0 ?_)
  show mm_W _ _ _ _ _ _ _ (26, [(0, .ref 0), (1, .int a), (2, .int b), (3, .int c), (4, .int e), (5, .ref 17)], [], wP (wCp ov un nx dp fa cu st fi se th db 0) (wQ post (wO o)), 4)
  refine mm_skip (mm_call_mono _ _) 1 (st' := (27, [(0, .ref 0), (1, .int a), (2, .int b), (3, .int c), (4, .int e), (5, .ref 17)], [.int 1], wP (wCp ov un nx dp fa cu st fi se th db 0) (wQ post (wO o)), 4)) rfl ?_
  exact mm_ret (mm_call_mono _ _) (c := True) (r := .inl (some (.int 1))) (M := wP (wCp ov un nx dp fa cu st fi se th db 0) (wQ post (wO o))) (u := 4) rfl trivial (by decide) hQ

set_option maxRecDepth 100000 in
theorem ct_L_angle0 {d : Nat} {ov un : Nat → Int32} {nx dp fa : Int32} {cu : mm_cu} {st fi se th db : Nat → Int32} {post : mm_pst} {o : Nat → Int64} {a b : Int32} {Q : mm_R → mm_M → Prop} (hQ : Q (.inl (some (.int 1))) (wP (wCp ov un nx dp fa cu st fi se th db 0) (wQ post (wO o)))) : mm_call mm_Tb (d + 5) 160 [.ref 0, .int a, .int b, .ref 17] (wP (wCp ov un nx dp fa cu st fi se th db 0) (wQ post (wO o))) Q := by
  refine mm_in mt_160 (Nat.le_of_ble_eq_true rfl) ?_
  show mm_W _ _ _ _ _ _ _ (0, [(0, .ref 0), (1, .int a), (2, .int b), (3, .ref 17)], [], wP (wCp ov un nx dp fa cu st fi se th db 0) (wQ post (wO o)), 0)
  refine mm_skip (mm_call_mono _ _) 5 (st' := (5, [(0, .ref 0), (1, .int a), (2, .int b), (3, .ref 17)], [.int b, .int a, .ref 0, .int 0, .ref 17], wP (wCp ov un nx dp fa cu st fi se th db 0) (wQ post (wO o)), 0)) rfl ?_
  refine mm_inv (mm_call_mono _ _) (j := 10) (a := [.ref 0, .int a, .int b]) (M := wP (wCp ov un nx dp fa cu st fi se th db 0) (wQ post (wO o))) (u := 4) rfl (by decide) (ct_C_angle0 ?_)
  show mm_W _ _ _ _ _ _ _ (15, [(0, .ref 0), (1, .int a), (2, .int b), (3, .ref 17)], [], wP (wCp ov un nx dp fa cu st fi se th db 0) (wQ post (wO o)), 4)
  refine mm_skip (mm_call_mono _ _) 1 (st' := (16, [(0, .ref 0), (1, .int a), (2, .int b), (3, .ref 17)], [.int 1], wP (wCp ov un nx dp fa cu st fi se th db 0) (wQ post (wO o)), 4)) rfl ?_
  exact mm_ret (mm_call_mono _ _) (c := True) (r := .inl (some (.int 1))) (M := wP (wCp ov un nx dp fa cu st fi se th db 0) (wQ post (wO o))) (u := 4) rfl trivial (by decide) hQ

set_option maxRecDepth 100000 in
theorem ct_L_side0 {d : Nat} {ov un : Nat → Int32} {nx dp fa : Int32} {cu : mm_cu} {st fi se th db : Nat → Int32} {post : mm_pst} {o : Nat → Int64} {a b c : Int32} {Q : mm_R → mm_M → Prop} (hQ : Q (.inl (some (.int 1))) (wP (wCp ov un nx dp fa cu st fi se th db 0) (wQ post (wO o)))) : mm_call mm_Tb (d + 5) 161 [.ref 0, .int a, .int b, .int c, .ref 17] (wP (wCp ov un nx dp fa cu st fi se th db 0) (wQ post (wO o))) Q := by
  refine mm_in mt_161 (Nat.le_of_ble_eq_true rfl) ?_
  show mm_W _ _ _ _ _ _ _ (0, [(0, .ref 0), (1, .int a), (2, .int b), (3, .int c), (4, .ref 17)], [], wP (wCp ov un nx dp fa cu st fi se th db 0) (wQ post (wO o)), 0)
  refine mm_skip (mm_call_mono _ _) 6 (st' := (7, [(0, .ref 0), (1, .int a), (2, .int b), (3, .int c), (4, .ref 17)], [.int c, .int b, .int a, .ref 0, .int 0, .ref 17], wP (wCp ov un nx dp fa cu st fi se th db 0) (wQ post (wO o)), 0)) rfl ?_
  refine mm_inv (mm_call_mono _ _) (j := 11) (a := [.ref 0, .int a, .int b, .int c]) (M := wP (wCp ov un nx dp fa cu st fi se th db 0) (wQ post (wO o))) (u := 4) rfl (by decide) (ct_C_side0 ?_)
  show mm_W _ _ _ _ _ _ _ (17, [(0, .ref 0), (1, .int a), (2, .int b), (3, .int c), (4, .ref 17)], [], wP (wCp ov un nx dp fa cu st fi se th db 0) (wQ post (wO o)), 4)
  refine mm_skip (mm_call_mono _ _) 1 (st' := (18, [(0, .ref 0), (1, .int a), (2, .int b), (3, .int c), (4, .ref 17)], [.int 1], wP (wCp ov un nx dp fa cu st fi se th db 0) (wQ post (wO o)), 4)) rfl ?_
  exact mm_ret (mm_call_mono _ _) (c := True) (r := .inl (some (.int 1))) (M := wP (wCp ov un nx dp fa cu st fi se th db 0) (wQ post (wO o))) (u := 4) rfl trivial (by decide) hQ

set_option maxRecDepth 100000 in
theorem ct_L_sign0 {d : Nat} {ov un : Nat → Int32} {nx dp fa : Int32} {cu : mm_cu} {st fi se th db : Nat → Int32} {post : mm_pst} {o : Nat → Int64} {a b c : Int32} {Q : mm_R → mm_M → Prop} (hQ : Q (.inl (some (.int 1))) (wP (wCp ov un nx dp fa cu st fi se th db 0) (wQ post (wO o)))) : mm_call mm_Tb (d + 5) 162 [.ref 0, .int a, .int b, .int c, .ref 17] (wP (wCp ov un nx dp fa cu st fi se th db 0) (wQ post (wO o))) Q := by
  refine mm_in mt_162 (Nat.le_of_ble_eq_true rfl) ?_
  show mm_W _ _ _ _ _ _ _ (0, [(0, .ref 0), (1, .int a), (2, .int b), (3, .int c), (4, .ref 17)], [], wP (wCp ov un nx dp fa cu st fi se th db 0) (wQ post (wO o)), 0)
  refine mm_skip (mm_call_mono _ _) 6 (st' := (7, [(0, .ref 0), (1, .int a), (2, .int b), (3, .int c), (4, .ref 17)], [.int c, .int b, .int a, .ref 0, .int 0, .ref 17], wP (wCp ov un nx dp fa cu st fi se th db 0) (wQ post (wO o)), 0)) rfl ?_
  refine mm_inv (mm_call_mono _ _) (j := 12) (a := [.ref 0, .int a, .int b, .int c]) (M := wP (wCp ov un nx dp fa cu st fi se th db 0) (wQ post (wO o))) (u := 4) rfl (by decide) (ct_C_sign0 ?_)
  show mm_W _ _ _ _ _ _ _ (17, [(0, .ref 0), (1, .int a), (2, .int b), (3, .int c), (4, .ref 17)], [], wP (wCp ov un nx dp fa cu st fi se th db 0) (wQ post (wO o)), 4)
  refine mm_skip (mm_call_mono _ _) 1 (st' := (18, [(0, .ref 0), (1, .int a), (2, .int b), (3, .int c), (4, .ref 17)], [.int 1], wP (wCp ov un nx dp fa cu st fi se th db 0) (wQ post (wO o)), 4)) rfl ?_
  exact mm_ret (mm_call_mono _ _) (c := True) (r := .inl (some (.int 1))) (M := wP (wCp ov un nx dp fa cu st fi se th db 0) (wQ post (wO o))) (u := 4) rfl trivial (by decide) hQ

set_option maxRecDepth 100000 in
theorem ct_L_part0 {d : Nat} {ov un : Nat → Int32} {nx dp fa : Int32} {cu : mm_cu} {st fi se th db : Nat → Int32} {post : mm_pst} {o : Nat → Int64} {a b c e : Int32} {Q : mm_R → mm_M → Prop} (hQ : Q (.inl (some (.int 1))) (wP (wCp ov un nx dp fa cu st fi se th db 0) (wQ post (wO o)))) : mm_call mm_Tb (d + 5) 163 [.ref 0, .int a, .int b, .int c, .int e, .ref 17] (wP (wCp ov un nx dp fa cu st fi se th db 0) (wQ post (wO o))) Q := by
  refine mm_in mt_163 (Nat.le_of_ble_eq_true rfl) ?_
  show mm_W _ _ _ _ _ _ _ (0, [(0, .ref 0), (1, .int a), (2, .int b), (3, .int c), (4, .int e), (5, .ref 17)], [], wP (wCp ov un nx dp fa cu st fi se th db 0) (wQ post (wO o)), 0)
  refine mm_skip (mm_call_mono _ _) 7 (st' := (9, [(0, .ref 0), (1, .int a), (2, .int b), (3, .int c), (4, .int e), (5, .ref 17)], [.int e, .int c, .int b, .int a, .ref 0, .int 0, .ref 17], wP (wCp ov un nx dp fa cu st fi se th db 0) (wQ post (wO o)), 0)) rfl ?_
  refine mm_inv (mm_call_mono _ _) (j := 13) (a := [.ref 0, .int a, .int b, .int c, .int e]) (M := wP (wCp ov un nx dp fa cu st fi se th db 0) (wQ post (wO o))) (u := 4) rfl (by decide) (ct_C_part0 ?_)
  show mm_W _ _ _ _ _ _ _ (19, [(0, .ref 0), (1, .int a), (2, .int b), (3, .int c), (4, .int e), (5, .ref 17)], [], wP (wCp ov un nx dp fa cu st fi se th db 0) (wQ post (wO o)), 4)
  refine mm_skip (mm_call_mono _ _) 1 (st' := (20, [(0, .ref 0), (1, .int a), (2, .int b), (3, .int c), (4, .int e), (5, .ref 17)], [.int 1], wP (wCp ov un nx dp fa cu st fi se th db 0) (wQ post (wO o)), 4)) rfl ?_
  exact mm_ret (mm_call_mono _ _) (c := True) (r := .inl (some (.int 1))) (M := wP (wCp ov un nx dp fa cu st fi se th db 0) (wQ post (wO o))) (u := 4) rfl trivial (by decide) hQ

set_option maxRecDepth 100000 in
theorem ct_L_radicand0 {d : Nat} {ov un : Nat → Int32} {nx fa : Int32} {cu : mm_cu} {st fi se th db : Nat → Int32} {post : mm_pst} {o : Nat → Int64} {a b c : Int32} {Q : mm_R → mm_M → Prop} (hQ : Q (.inl (some (.int 1))) (wP (wCp ov un nx 0 fa cu st fi se th db 0) (wQ post (wO o)))) : mm_call mm_Tb (d + 5) 164 [.ref 0, .int a, .int b, .int c, .ref 17] (wP (wCp ov un nx 0 fa cu st fi se th db 0) (wQ post (wO o))) Q := by
  refine mm_in mt_164 (Nat.le_of_ble_eq_true rfl) ?_
  show mm_W _ _ _ _ _ _ _ (0, [(0, .ref 0), (1, .int a), (2, .int b), (3, .int c), (4, .ref 17)], [], wP (wCp ov un nx 0 fa cu st fi se th db 0) (wQ post (wO o)), 0)
  refine mm_skip (mm_call_mono _ _) 6 (st' := (7, [(0, .ref 0), (1, .int a), (2, .int b), (3, .int c), (4, .ref 17)], [.int c, .int b, .int a, .ref 0, .int 0, .ref 17], wP (wCp ov un nx 0 fa cu st fi se th db 0) (wQ post (wO o)), 0)) rfl ?_
  refine mm_inv (mm_call_mono _ _) (j := 14) (a := [.ref 0, .int a, .int b, .int c]) (M := wP (wCp ov un nx 0 fa cu st fi se th db 0) (wQ post (wO o))) (u := 4) rfl (by decide) (ct_C_radicand0 ?_)
  show mm_W _ _ _ _ _ _ _ (17, [(0, .ref 0), (1, .int a), (2, .int b), (3, .int c), (4, .ref 17)], [], wP (wCp ov un nx 0 fa cu st fi se th db 0) (wQ post (wO o)), 4)
  refine mm_skip (mm_call_mono _ _) 1 (st' := (18, [(0, .ref 0), (1, .int a), (2, .int b), (3, .int c), (4, .ref 17)], [.int 1], wP (wCp ov un nx 0 fa cu st fi se th db 0) (wQ post (wO o)), 4)) rfl ?_
  exact mm_ret (mm_call_mono _ _) (c := True) (r := .inl (some (.int 1))) (M := wP (wCp ov un nx 0 fa cu st fi se th db 0) (wQ post (wO o))) (u := 4) rfl trivial (by decide) hQ

theorem ct_C_free0_bad {d : Nat} {ov un : Nat → Int32} {nx dp fa : Int32} {cu : mm_cu} {st fi se th db : Nat → Int32} {F : mm_M} {a b c e : Int32} {Q : mm_R → mm_M → Prop} (hi : ¬ (isin a b ∧ isin c e)) (hQ : Q (.inr "java/lang/IllegalArgumentException") (wP (wCp ov un nx dp fa cu st fi se th db 0) F)) : mm_call mm_Tb (d + 4) 0 [.ref 0, .int a, .int b, .int c, .int e] (wP (wCp ov un nx dp fa cu st fi se th db 0) F) Q := ct_C_free0 (fun _ => hQ) (fun h => absurd h hi)
theorem ct_C_free0_ok {d : Nat} {ov un : Nat → Int32} {nx dp fa : Int32} {cu : mm_cu} {st fi se th db : Nat → Int32} {F : mm_M} {a b c e : Int32} {Q : mm_R → mm_M → Prop} (hi : isin a b ∧ isin c e) (hQ : ∀ x : mm_pre, Q (.inl (some (.int 0))) (wP x F)) : mm_call mm_Tb (d + 4) 0 [.ref 0, .int a, .int b, .int c, .int e] (wP (wCp ov un nx dp fa cu st fi se th db 0) F) Q := ct_C_free0 (fun h => absurd hi h) (fun _ => hQ)
set_option maxRecDepth 100000 in
theorem ct_L_free0_bad {d : Nat} {ov un : Nat → Int32} {nx dp fa : Int32} {cu : mm_cu} {st fi se th db : Nat → Int32} {post : mm_pst} {o : Nat → Int64} {a b c e : Int32} {Q : mm_R → mm_M → Prop} (hi : ¬ (isin a b ∧ isin c e)) (hQ : Q (.inl (some (.int 1))) (wP (wCp ov un nx dp fa cu st fi se th db 0) (wQ post (wO o)))) : mm_call mm_Tb (d + 5) 151 [.ref 0, .int a, .int b, .int c, .int e, .ref 17] (wP (wCp ov un nx dp fa cu st fi se th db 0) (wQ post (wO o))) Q := by
  refine mm_in mt_151 (Nat.le_of_ble_eq_true rfl) ?_
  show mm_W _ _ _ _ _ _ _ (0, [(0, .ref 0), (1, .int a), (2, .int b), (3, .int c), (4, .int e), (5, .ref 17)], [], wP (wCp ov un nx dp fa cu st fi se th db 0) (wQ post (wO o)), 0)
  refine mm_skip (mm_call_mono _ _) 7 (st' := (9, [(0, .ref 0), (1, .int a), (2, .int b), (3, .int c), (4, .int e), (5, .ref 17)], [.int e, .int c, .int b, .int a, .ref 0, .int 0, .ref 17], wP (wCp ov un nx dp fa cu st fi se th db 0) (wQ post (wO o)), 0)) rfl ?_
  refine mm_inv (mm_call_mono _ _) (j := 0) (a := [.ref 0, .int a, .int b, .int c, .int e]) (M := wP (wCp ov un nx dp fa cu st fi se th db 0) (wQ post (wO o))) (u := 4) rfl (by decide) (ct_C_free0_bad hi ?_)
  show mm_W _ _ _ _ _ _ _ (19, [(0, .ref 0), (1, .int a), (2, .int b), (3, .int c), (4, .int e), (5, .ref 17)], [], wP (wCp ov un nx dp fa cu st fi se th db 0) (wQ post (wO o)), 4)
  refine mm_skip (mm_call_mono _ _) 1 (st' := (20, [(0, .ref 0), (1, .int a), (2, .int b), (3, .int c), (4, .int e), (5, .ref 17)], [.int 1], wP (wCp ov un nx dp fa cu st fi se th db 0) (wQ post (wO o)), 4)) rfl ?_
  exact mm_ret (mm_call_mono _ _) (c := True) (r := .inl (some (.int 1))) (M := wP (wCp ov un nx dp fa cu st fi se th db 0) (wQ post (wO o))) (u := 4) rfl trivial (by decide) hQ

set_option maxRecDepth 100000 in
theorem ct_L_free0_ok {d : Nat} {ov un : Nat → Int32} {nx dp fa : Int32} {cu : mm_cu} {st fi se th db : Nat → Int32} {post : mm_pst} {o : Nat → Int64} {a b c e : Int32} {Q : mm_R → mm_M → Prop} (hi : isin a b ∧ isin c e) (hQ : ∀ x : mm_pre, Q (.inl (some (.int 0))) (wP x (wQ post (wO (vp_updL o 0 (Int32.toInt64 0)))))) : mm_call mm_Tb (d + 5) 151 [.ref 0, .int a, .int b, .int c, .int e, .ref 17] (wP (wCp ov un nx dp fa cu st fi se th db 0) (wQ post (wO o))) Q := by
  refine mm_in mt_151 (Nat.le_of_ble_eq_true rfl) ?_
  show mm_W _ _ _ _ _ _ _ (0, [(0, .ref 0), (1, .int a), (2, .int b), (3, .int c), (4, .int e), (5, .ref 17)], [], wP (wCp ov un nx dp fa cu st fi se th db 0) (wQ post (wO o)), 0)
  refine mm_skip (mm_call_mono _ _) 7 (st' := (9, [(0, .ref 0), (1, .int a), (2, .int b), (3, .int c), (4, .int e), (5, .ref 17)], [.int e, .int c, .int b, .int a, .ref 0, .int 0, .ref 17], wP (wCp ov un nx dp fa cu st fi se th db 0) (wQ post (wO o)), 0)) rfl ?_
  refine mm_inv (mm_call_mono _ _) (j := 0) (a := [.ref 0, .int a, .int b, .int c, .int e]) (M := wP (wCp ov un nx dp fa cu st fi se th db 0) (wQ post (wO o))) (u := 4) rfl (by decide) (ct_C_free0_ok hi (fun x => ?_))
  show mm_W _ _ _ _ _ _ _ (12, [(0, .ref 0), (1, .int a), (2, .int b), (3, .int c), (4, .int e), (5, .ref 17)], [.int 0, .int 0, .ref 17], wP x (wQ post (wO o)), 4)
  refine mm_skip (mm_call_mono _ _) 1 (st' := (13, [(0, .ref 0), (1, .int a), (2, .int b), (3, .int c), (4, .int e), (5, .ref 17)], [.long (Int32.toInt64 0), .int 0, .ref 17], wP x (wQ post (wO o)), 4)) rfl ?_
  refine mm_need (mm_call_mono _ _) (c := vp_in 0 1) (s' := (14, [(0, .ref 0), (1, .int a), (2, .int b), (3, .int c), (4, .int e), (5, .ref 17)], [], wP x (wQ post (wO (vp_updL o 0 (Int32.toInt64 0)))), 4)) rfl (by unfold vp_in; decide) ?_
  refine mm_skip (mm_call_mono _ _) 2 (st' := (26, [(0, .ref 0), (1, .int a), (2, .int b), (3, .int c), (4, .int e), (5, .ref 17)], [.int 0], wP x (wQ post (wO (vp_updL o 0 (Int32.toInt64 0)))), 4)) rfl ?_
  exact mm_ret (mm_call_mono _ _) (c := True) (r := .inl (some (.int 0))) (M := wP x (wQ post (wO (vp_updL o 0 (Int32.toInt64 0))))) (u := 4) rfl trivial (by decide) (hQ _)

theorem ct_M_free0_bad {d : Nat} {pre : mm_pre} {p q op oq : Nat → Int64} {tr dp wi fa : Int32} {st of : Nat → Int32} {F : mm_M} {a b c e : Int32} {Q : mm_R → mm_M → Prop} (hi : ¬ (isin a b ∧ isin c e)) (hQ : Q (.inl (some (.int 0))) (wP pre (wQ (wNp p q op oq 1 dp wi fa 0 st of) F))) : mm_call mm_Tb (d + 5) 101 [.ref 10, .int a, .int b, .int c, .int e] (wP pre (wQ (wNp p q op oq tr dp wi fa 0 st of) F)) Q := ct_M_free0 (fun _ => hQ) (fun h => absurd h hi)
theorem ct_M_free0_ok {d : Nat} {pre : mm_pre} {p q op oq : Nat → Int64} {tr dp wi fa : Int32} {st of : Nat → Int32} {F : mm_M} {a b c e : Int32} {Q : mm_R → mm_M → Prop} (hi : isin a b ∧ isin c e) (hQ : ∀ p1 q1 : Nat → Int64, Q (.inl (some (.int 0))) (wP pre (wQ (wNp p1 q1 op oq 0 dp 0 0 1 (upd st 0 0) (upd (upd (upd (upd of 0 a) 1 b) 2 c) 3 e)) F))) : mm_call mm_Tb (d + 5) 101 [.ref 10, .int a, .int b, .int c, .int e] (wP pre (wQ (wNp p q op oq tr dp wi fa 0 st of) F)) Q := ct_M_free0 (fun h => absurd hi h) (fun _ => hQ)
