/-- three numbers, worked out -/
def o3R (ov un : Nat → Int32) (n : Nat) (fa : Int32) (w C : Nat) (T : Option o3) (ov1 un1 : Nat → Int32) (n1 : Nat) (fa1 : Int32) (r1 r2 r3 : Nat) (v1 v2 v3 : n4) : Prop :=
  stl ov un n fa w ov1 un1 n1 fa1 ∧ (fa1 = 0 → T = some (v1, v2, v3)) ∧ (fa1 = 1 → fa = 0 → n + C ≤ 1332 → T = none) ∧ isAt ov1 un1 n1 fa1 4 r1 (g4 v1) ∧ isAt ov1 un1 n1 fa1 4 r2 (g4 v2) ∧ isAt ov1 un1 n1 fa1 4 r3 (g4 v3) ∧ 308 ≤ r1 ∧ 308 ≤ r2 ∧ 308 ≤ r3
set_option maxRecDepth 100000 in
theorem gd_takeLine {d : Nat} {ov un : Nat → Int32} {nx dp fa : Int32} {cu : mm_cu} {st fi se th db : Nat → Int32} {cn : Int32} {F : mm_M} {k : Nat} {Q : mm_R → mm_M → Prop} (hQ : Q (.inl none) (wC ov un nx dp fa ((nI (8 + 12 * k)), (nI (12 + 12 * k)), (nI (16 + 12 * k)), cu.2.2.2.1, cu.2.2.2.2.1, cu.2.2.2.2.2.1, cu.2.2.2.2.2.2) st fi se th db cn F)) : mm_call mm_Tb (d + 3) 32 [.ref 0, .int (nI k)] (wC ov un nx dp fa cu st fi se th db cn F) Q := by
  refine mm_in mt_32 (Nat.le_of_ble_eq_true rfl) ?_
  show mm_W _ _ _ _ _ _ _ (0, [(0, .ref 0), (1, .int (nI k))], [], wC ov un nx dp fa cu st fi se th db cn F, 0)
  refine mm_skip (mm_call_mono _ _) 3 (st' := (5, [(0, .ref 0), (1, .int (nI k))], [.int (nI k), .ref 2], wC ov un nx dp fa cu st fi se th db cn F, 0)) rfl ?_
  refine mm_inv (mm_call_mono _ _) (j := 43) (a := [.int (nI k)]) (M := wC ov un nx dp fa cu st fi se th db cn F) (u := 0) rfl (by decide) (ct_C_lineA ?_)
  show mm_W _ _ _ _ _ _ _ (8, [(0, .ref 0), (1, .int (nI k))], [.int (nI (8 + 12 * k)), .ref 2], wC ov un nx dp fa cu st fi se th db cn F, 0)
  refine mm_skip (mm_call_mono _ _) 4 (st' := (16, [(0, .ref 0), (1, .int (nI k))], [.int (nI k), .ref 2], wC ov un nx dp fa ((nI (8 + 12 * k)), cu.2.1, cu.2.2.1, cu.2.2.2.1, cu.2.2.2.2.1, cu.2.2.2.2.2.1, cu.2.2.2.2.2.2) st fi se th db cn F, 0)) rfl ?_
  refine mm_inv (mm_call_mono _ _) (j := 44) (a := [.int (nI k)]) (M := wC ov un nx dp fa ((nI (8 + 12 * k)), cu.2.1, cu.2.2.1, cu.2.2.2.1, cu.2.2.2.2.1, cu.2.2.2.2.2.1, cu.2.2.2.2.2.2) st fi se th db cn F) (u := 0) rfl (by decide) (ct_C_lineB ?_)
  show mm_W _ _ _ _ _ _ _ (19, [(0, .ref 0), (1, .int (nI k))], [.int (nI (12 + 12 * k)), .ref 2], wC ov un nx dp fa ((nI (8 + 12 * k)), cu.2.1, cu.2.2.1, cu.2.2.2.1, cu.2.2.2.2.1, cu.2.2.2.2.2.1, cu.2.2.2.2.2.2) st fi se th db cn F, 0)
  refine mm_skip (mm_call_mono _ _) 4 (st' := (27, [(0, .ref 0), (1, .int (nI k))], [.int (nI k), .ref 2], wC ov un nx dp fa ((nI (8 + 12 * k)), (nI (12 + 12 * k)), cu.2.2.1, cu.2.2.2.1, cu.2.2.2.2.1, cu.2.2.2.2.2.1, cu.2.2.2.2.2.2) st fi se th db cn F, 0)) rfl ?_
  refine mm_inv (mm_call_mono _ _) (j := 45) (a := [.int (nI k)]) (M := wC ov un nx dp fa ((nI (8 + 12 * k)), (nI (12 + 12 * k)), cu.2.2.1, cu.2.2.2.1, cu.2.2.2.2.1, cu.2.2.2.2.2.1, cu.2.2.2.2.2.2) st fi se th db cn F) (u := 0) rfl (by decide) (ct_C_lineC ?_)
  show mm_W _ _ _ _ _ _ _ (30, [(0, .ref 0), (1, .int (nI k))], [.int (nI (16 + 12 * k)), .ref 2], wC ov un nx dp fa ((nI (8 + 12 * k)), (nI (12 + 12 * k)), cu.2.2.1, cu.2.2.2.1, cu.2.2.2.2.1, cu.2.2.2.2.2.1, cu.2.2.2.2.2.2) st fi se th db cn F, 0)
  refine mm_skip (mm_call_mono _ _) 1 (st' := (33, [(0, .ref 0), (1, .int (nI k))], [], wC ov un nx dp fa ((nI (8 + 12 * k)), (nI (12 + 12 * k)), (nI (16 + 12 * k)), cu.2.2.2.1, cu.2.2.2.2.1, cu.2.2.2.2.2.1, cu.2.2.2.2.2.2) st fi se th db cn F, 0)) rfl ?_
  exact mm_ret (mm_call_mono _ _) (c := True) (r := .inl none) (M := wC ov un nx dp fa ((nI (8 + 12 * k)), (nI (12 + 12 * k)), (nI (16 + 12 * k)), cu.2.2.2.1, cu.2.2.2.2.1, cu.2.2.2.2.2.1, cu.2.2.2.2.2.2) st fi se th db cn F) (u := 0) rfl trivial (by decide) hQ

set_option maxRecDepth 100000 in
theorem gd_takeCommon {d : Nat} {ov un : Nat → Int32} {fa : Int32} {cu : mm_cu} {st fi se th db : Nat → Int32} {cn : Int32} {F : mm_M} {n p q c e : Nat} {xp yp s1 xq yq s2 : n4} {L : lvR} {Q : mm_R → mm_M → Prop} (hl : L.1 ≤ 2) (hp : p < 24) (hq : q < 24) (hfp : fi p = nI c) (hfq : fi q = nI e) (hfa : mm_z fa) (hn : 308 ≤ n ∧ n ≤ 1332) (R : rdA ov un n fa L) (A : isAt ov un n fa 4 (8 + 12 * c) (g4 xp)) (B : isAt ov un n fa 4 (12 + 12 * c) (g4 yp)) (C : isAt ov un n fa 4 (8 + 12 * e) (g4 xq)) (D : isAt ov un n fa 4 (12 + 12 * e) (g4 yq)) (G : isAt ov un n fa 4 (8 + 12 * p) (g4 s1)) (H : isAt ov un n fa 4 (8 + 12 * q) (g4 s2)) (hQ : ∀ (ov1 un1 : Nat → Int32) (n1 : Nat) (fa1 : Int32) (ra rb rc : Nat) (v1 v2 v3 : n4), o3R ov un n fa 72 100 (mCom L xp yp s1 xq yq s2) ov1 un1 n1 fa1 ra rb rc v1 v2 v3 → Q (.inl none) (wC ov1 un1 (nI n1) (nI L.1) fa1 (nI ra, nI rb, nI rc, cu.2.2.2.1, cu.2.2.2.2.1, cu.2.2.2.2.2.1, cu.2.2.2.2.2.2) st fi se th db cn F)) : mm_call mm_Tb (d + 7) 33 [.ref 0, .int (nI p), .int (nI q)] (wC ov un (nI n) (nI L.1) fa cu st fi se th db cn F) Q := by
  have s0 := stl_0 (ov := ov) (un := un) hfa hn
  have E0 : fa = 0 → mCom L xp yp s1 xq yq s2 = Option.bind (xsub L.1 xq xp) _ := fun _ => rfl
  have F0 : fa = 1 → fa = 0 → n + 100 ≤ 1332 → mCom L xp yp s1 xq yq s2 = none := f_0
  refine mm_in mt_33 (Nat.le_of_ble_eq_true rfl) ?_
  show mm_W _ _ _ _ _ _ _ (0, [(0, .ref 0), (1, .int (nI p)), (2, .int (nI q))], [], wC ov un (nI n) (nI L.1) fa cu st fi se th db cn F, 0)
  refine mm_skip (mm_call_mono _ _) 3 (st' := (5, [(0, .ref 0), (1, .int (nI p)), (2, .int (nI q))], [.int (nI p), .ref 4], wC ov un (nI n) (nI L.1) fa cu st fi se th db cn F, 0)) rfl ?_
  refine mm_need (mm_call_mono _ _) (c := vp_in (nI p) 24) (s' := (6, [(0, .ref 0), (1, .int (nI p)), (2, .int (nI q))], [.int (fi (Int32.toNatClampNeg (nI p)))], wC ov un (nI n) (nI L.1) fa cu st fi se th db cn F, 0)) rfl (vp_in_nI (show p < 24 by omega) (by decide)) ?_
  rw [nI_clamp (show p < 2 ^ 31 by omega)]
  show mm_W _ _ _ _ _ _ _ (6, [(0, .ref 0), (1, .int (nI p)), (2, .int (nI q))], [.int (fi p)], wC ov un (nI n) (nI L.1) fa cu st fi se th db cn F, 0)
  rw [hfp]
  show mm_W _ _ _ _ _ _ _ (6, [(0, .ref 0), (1, .int (nI p)), (2, .int (nI q))], [.int (nI c)], wC ov un (nI n) (nI L.1) fa cu st fi se th db cn F, 0)
  refine mm_skip (mm_call_mono _ _) 4 (st' := (12, [(3, .int (nI c)), (0, .ref 0), (1, .int (nI p)), (2, .int (nI q))], [.int (nI q), .ref 4], wC ov un (nI n) (nI L.1) fa cu st fi se th db cn F, 0)) rfl ?_
  refine mm_need (mm_call_mono _ _) (c := vp_in (nI q) 24) (s' := (13, [(3, .int (nI c)), (0, .ref 0), (1, .int (nI p)), (2, .int (nI q))], [.int (fi (Int32.toNatClampNeg (nI q)))], wC ov un (nI n) (nI L.1) fa cu st fi se th db cn F, 0)) rfl (vp_in_nI (show q < 24 by omega) (by decide)) ?_
  rw [nI_clamp (show q < 2 ^ 31 by omega)]
  show mm_W _ _ _ _ _ _ _ (13, [(3, .int (nI c)), (0, .ref 0), (1, .int (nI p)), (2, .int (nI q))], [.int (fi q)], wC ov un (nI n) (nI L.1) fa cu st fi se th db cn F, 0)
  rw [hfq]
  show mm_W _ _ _ _ _ _ _ (13, [(3, .int (nI c)), (0, .ref 0), (1, .int (nI p)), (2, .int (nI q))], [.int (nI e)], wC ov un (nI n) (nI L.1) fa cu st fi se th db cn F, 0)
  refine mm_skip (mm_call_mono _ _) 4 (st' := (21, [(4, .int (nI e)), (3, .int (nI c)), (0, .ref 0), (1, .int (nI p)), (2, .int (nI q))], [.int (nI e), .ref 1], wC ov un (nI n) (nI L.1) fa cu st fi se th db cn F, 0)) rfl ?_
  refine mm_inv (mm_call_mono _ _) (j := 41) (a := [.int (nI e)]) (M := wC ov un (nI n) (nI L.1) fa cu st fi se th db cn F) (u := 0) rfl (by decide) (ct_C_xOf ?_)
  show mm_W _ _ _ _ _ _ _ (24, [(4, .int (nI e)), (3, .int (nI c)), (0, .ref 0), (1, .int (nI p)), (2, .int (nI q))], [.int (nI (8 + 12 * e)), .ref 1], wC ov un (nI n) (nI L.1) fa cu st fi se th db cn F, 0)
  refine mm_skip (mm_call_mono _ _) 1 (st' := (25, [(4, .int (nI e)), (3, .int (nI c)), (0, .ref 0), (1, .int (nI p)), (2, .int (nI q))], [.int (nI c), .int (nI (8 + 12 * e)), .ref 1], wC ov un (nI n) (nI L.1) fa cu st fi se th db cn F, 0)) rfl ?_
  refine mm_inv (mm_call_mono _ _) (j := 41) (a := [.int (nI c)]) (M := wC ov un (nI n) (nI L.1) fa cu st fi se th db cn F) (u := 0) rfl (by decide) (ct_C_xOf ?_)
  show mm_W _ _ _ _ _ _ _ (28, [(4, .int (nI e)), (3, .int (nI c)), (0, .ref 0), (1, .int (nI p)), (2, .int (nI q))], [.int (nI (8 + 12 * c)), .int (nI (8 + 12 * e)), .ref 1], wC ov un (nI n) (nI L.1) fa cu st fi se th db cn F, 0)
  refine mm_inv (mm_call_mono _ _) (j := 130) (a := [.ref 1, .int (nI (8 + 12 * e)), .int (nI (8 + 12 * c))]) (M := wC ov un (nI n) (nI L.1) fa cu st fi se th db cn F) (u := 0) rfl (by decide) (gw_minus hl s0.2.1 s0.1 C A (fun ov1 un1 n1 fa1 y1 h1 => ?_))
  show mm_W _ _ _ _ _ _ _ (31, [(4, .int (nI e)), (3, .int (nI c)), (0, .ref 0), (1, .int (nI p)), (2, .int (nI q))], [.int (nI y1)], wC ov1 un1 (nI n1) (nI L.1) fa1 cu st fi se th db cn F, 0)
  have s1 := stl_L s0 h1
  have F1 := sqL_f s0 F0 E0 h1 (by omega)
  have E1 := sqL_e E0 h1
  have g1 := h1.1.1
  have A_1 := at_keep A (opL_k h1)
  have B_1 := at_keep B (opL_k h1)
  have C_1 := at_keep C (opL_k h1)
  have D_1 := at_keep D (opL_k h1)
  have G_1 := at_keep G (opL_k h1)
  have H_1 := at_keep H (opL_k h1)
  have R_1 := rd_keep R (opL_k h1)
  have W1_1 := at_newL h1
  refine mm_skip (mm_call_mono _ _) 4 (st' := (39, [(5, .int (nI y1)), (4, .int (nI e)), (3, .int (nI c)), (0, .ref 0), (1, .int (nI p)), (2, .int (nI q))], [.int (nI e), .ref 1], wC ov1 un1 (nI n1) (nI L.1) fa1 cu st fi se th db cn F, 0)) rfl ?_
  refine mm_inv (mm_call_mono _ _) (j := 42) (a := [.int (nI e)]) (M := wC ov1 un1 (nI n1) (nI L.1) fa1 cu st fi se th db cn F) (u := 0) rfl (by decide) (ct_C_yOf ?_)
  show mm_W _ _ _ _ _ _ _ (42, [(5, .int (nI y1)), (4, .int (nI e)), (3, .int (nI c)), (0, .ref 0), (1, .int (nI p)), (2, .int (nI q))], [.int (nI (12 + 12 * e)), .ref 1], wC ov1 un1 (nI n1) (nI L.1) fa1 cu st fi se th db cn F, 0)
  refine mm_skip (mm_call_mono _ _) 1 (st' := (43, [(5, .int (nI y1)), (4, .int (nI e)), (3, .int (nI c)), (0, .ref 0), (1, .int (nI p)), (2, .int (nI q))], [.int (nI c), .int (nI (12 + 12 * e)), .ref 1], wC ov1 un1 (nI n1) (nI L.1) fa1 cu st fi se th db cn F, 0)) rfl ?_
  refine mm_inv (mm_call_mono _ _) (j := 42) (a := [.int (nI c)]) (M := wC ov1 un1 (nI n1) (nI L.1) fa1 cu st fi se th db cn F) (u := 0) rfl (by decide) (ct_C_yOf ?_)
  show mm_W _ _ _ _ _ _ _ (46, [(5, .int (nI y1)), (4, .int (nI e)), (3, .int (nI c)), (0, .ref 0), (1, .int (nI p)), (2, .int (nI q))], [.int (nI (12 + 12 * c)), .int (nI (12 + 12 * e)), .ref 1], wC ov1 un1 (nI n1) (nI L.1) fa1 cu st fi se th db cn F, 0)
  refine mm_inv (mm_call_mono _ _) (j := 130) (a := [.ref 1, .int (nI (12 + 12 * e)), .int (nI (12 + 12 * c))]) (M := wC ov1 un1 (nI n1) (nI L.1) fa1 cu st fi se th db cn F) (u := 0) rfl (by decide) (gw_minus hl s1.2.1 s1.1 D_1 B_1 (fun ov2 un2 n2 fa2 y2 h2 => ?_))
  show mm_W _ _ _ _ _ _ _ (49, [(5, .int (nI y1)), (4, .int (nI e)), (3, .int (nI c)), (0, .ref 0), (1, .int (nI p)), (2, .int (nI q))], [.int (nI y2)], wC ov2 un2 (nI n2) (nI L.1) fa2 cu st fi se th db cn F, 0)
  have s2 := stl_L s1 h2
  have F2 := sqL_f s1 F1 E1 h2 (by omega)
  have E2 := sqL_e E1 h2
  have g2 := h2.1.1
  have A_2 := at_keep A_1 (opL_k h2)
  have B_2 := at_keep B_1 (opL_k h2)
  have C_2 := at_keep C_1 (opL_k h2)
  have D_2 := at_keep D_1 (opL_k h2)
  have G_2 := at_keep G_1 (opL_k h2)
  have H_2 := at_keep H_1 (opL_k h2)
  have W1_2 := at_keep W1_1 (opL_k h2)
  have R_2 := rd_keep R_1 (opL_k h2)
  have W2_2 := at_newL h2
  refine mm_skip (mm_call_mono _ _) 7 (st' := (63, [(6, .int (nI y2)), (5, .int (nI y1)), (4, .int (nI e)), (3, .int (nI c)), (0, .ref 0), (1, .int (nI p)), (2, .int (nI q))], [.int (nI y1), .int (nI y1), .ref 1, .ref 2], wC ov2 un2 (nI n2) (nI L.1) fa2 cu st fi se th db cn F, 0)) rfl ?_
  refine mm_inv (mm_call_mono _ _) (j := 129) (a := [.ref 1, .int (nI y1), .int (nI y1)]) (M := wC ov2 un2 (nI n2) (nI L.1) fa2 cu st fi se th db cn F) (u := 0) rfl (by decide) (gw_plus hl s2.2.1 s2.1 W1_2 W1_2 (fun ov3 un3 n3 fa3 y3 h3 => ?_))
  show mm_W _ _ _ _ _ _ _ (66, [(6, .int (nI y2)), (5, .int (nI y1)), (4, .int (nI e)), (3, .int (nI c)), (0, .ref 0), (1, .int (nI p)), (2, .int (nI q))], [.int (nI y3), .ref 2], wC ov3 un3 (nI n3) (nI L.1) fa3 cu st fi se th db cn F, 0)
  have s3 := stl_L s2 h3
  have F3 := sqL_f s2 F2 E2 h3 (by omega)
  have E3 := sqL_e E2 h3
  have g3 := h3.1.1
  have A_3 := at_keep A_2 (opL_k h3)
  have B_3 := at_keep B_2 (opL_k h3)
  have C_3 := at_keep C_2 (opL_k h3)
  have D_3 := at_keep D_2 (opL_k h3)
  have G_3 := at_keep G_2 (opL_k h3)
  have H_3 := at_keep H_2 (opL_k h3)
  have W1_3 := at_keep W1_2 (opL_k h3)
  have W2_3 := at_keep W2_2 (opL_k h3)
  have R_3 := rd_keep R_2 (opL_k h3)
  have W3_3 := at_newL h3
  refine mm_skip (mm_call_mono _ _) 7 (st' := (81, [(6, .int (nI y2)), (5, .int (nI y1)), (4, .int (nI e)), (3, .int (nI c)), (0, .ref 0), (1, .int (nI p)), (2, .int (nI q))], [.int (nI y2), .int (nI y2), .ref 1, .ref 2], wC ov3 un3 (nI n3) (nI L.1) fa3 ((nI y3), cu.2.1, cu.2.2.1, cu.2.2.2.1, cu.2.2.2.2.1, cu.2.2.2.2.2.1, cu.2.2.2.2.2.2) st fi se th db cn F, 0)) rfl ?_
  refine mm_inv (mm_call_mono _ _) (j := 129) (a := [.ref 1, .int (nI y2), .int (nI y2)]) (M := wC ov3 un3 (nI n3) (nI L.1) fa3 ((nI y3), cu.2.1, cu.2.2.1, cu.2.2.2.1, cu.2.2.2.2.1, cu.2.2.2.2.2.1, cu.2.2.2.2.2.2) st fi se th db cn F) (u := 0) rfl (by decide) (gw_plus hl s3.2.1 s3.1 W2_3 W2_3 (fun ov4 un4 n4 fa4 y4 h4 => ?_))
  show mm_W _ _ _ _ _ _ _ (84, [(6, .int (nI y2)), (5, .int (nI y1)), (4, .int (nI e)), (3, .int (nI c)), (0, .ref 0), (1, .int (nI p)), (2, .int (nI q))], [.int (nI y4), .ref 2], wC ov4 un4 (nI n4) (nI L.1) fa4 ((nI y3), cu.2.1, cu.2.2.1, cu.2.2.2.1, cu.2.2.2.2.1, cu.2.2.2.2.2.1, cu.2.2.2.2.2.2) st fi se th db cn F, 0)
  have s4 := stl_L s3 h4
  have F4 := sqL_f s3 F3 E3 h4 (by omega)
  have E4 := sqL_e E3 h4
  have g4 := h4.1.1
  have A_4 := at_keep A_3 (opL_k h4)
  have B_4 := at_keep B_3 (opL_k h4)
  have C_4 := at_keep C_3 (opL_k h4)
  have D_4 := at_keep D_3 (opL_k h4)
  have G_4 := at_keep G_3 (opL_k h4)
  have H_4 := at_keep H_3 (opL_k h4)
  have W1_4 := at_keep W1_3 (opL_k h4)
  have W2_4 := at_keep W2_3 (opL_k h4)
  have W3_4 := at_keep W3_3 (opL_k h4)
  have R_4 := rd_keep R_3 (opL_k h4)
  have W4_4 := at_newL h4
  refine mm_skip (mm_call_mono _ _) 6 (st' := (97, [(6, .int (nI y2)), (5, .int (nI y1)), (4, .int (nI e)), (3, .int (nI c)), (0, .ref 0), (1, .int (nI p)), (2, .int (nI q))], [.int (nI e), .ref 1, .ref 1], wC ov4 un4 (nI n4) (nI L.1) fa4 ((nI y3), (nI y4), cu.2.2.1, cu.2.2.2.1, cu.2.2.2.2.1, cu.2.2.2.2.2.1, cu.2.2.2.2.2.2) st fi se th db cn F, 0)) rfl ?_
  refine mm_inv (mm_call_mono _ _) (j := 41) (a := [.int (nI e)]) (M := wC ov4 un4 (nI n4) (nI L.1) fa4 ((nI y3), (nI y4), cu.2.2.1, cu.2.2.2.1, cu.2.2.2.2.1, cu.2.2.2.2.2.1, cu.2.2.2.2.2.2) st fi se th db cn F) (u := 0) rfl (by decide) (ct_C_xOf ?_)
  show mm_W _ _ _ _ _ _ _ (100, [(6, .int (nI y2)), (5, .int (nI y1)), (4, .int (nI e)), (3, .int (nI c)), (0, .ref 0), (1, .int (nI p)), (2, .int (nI q))], [.int (nI (8 + 12 * e)), .ref 1, .ref 1], wC ov4 un4 (nI n4) (nI L.1) fa4 ((nI y3), (nI y4), cu.2.2.1, cu.2.2.2.1, cu.2.2.2.2.1, cu.2.2.2.2.2.1, cu.2.2.2.2.2.2) st fi se th db cn F, 0)
  refine mm_skip (mm_call_mono _ _) 1 (st' := (102, [(6, .int (nI y2)), (5, .int (nI y1)), (4, .int (nI e)), (3, .int (nI c)), (0, .ref 0), (1, .int (nI p)), (2, .int (nI q))], [.int (nI e), .int (nI (8 + 12 * e)), .ref 1, .ref 1], wC ov4 un4 (nI n4) (nI L.1) fa4 ((nI y3), (nI y4), cu.2.2.1, cu.2.2.2.1, cu.2.2.2.2.1, cu.2.2.2.2.2.1, cu.2.2.2.2.2.2) st fi se th db cn F, 0)) rfl ?_
  refine mm_inv (mm_call_mono _ _) (j := 41) (a := [.int (nI e)]) (M := wC ov4 un4 (nI n4) (nI L.1) fa4 ((nI y3), (nI y4), cu.2.2.1, cu.2.2.2.1, cu.2.2.2.2.1, cu.2.2.2.2.2.1, cu.2.2.2.2.2.2) st fi se th db cn F) (u := 0) rfl (by decide) (ct_C_xOf ?_)
  show mm_W _ _ _ _ _ _ _ (105, [(6, .int (nI y2)), (5, .int (nI y1)), (4, .int (nI e)), (3, .int (nI c)), (0, .ref 0), (1, .int (nI p)), (2, .int (nI q))], [.int (nI (8 + 12 * e)), .int (nI (8 + 12 * e)), .ref 1, .ref 1], wC ov4 un4 (nI n4) (nI L.1) fa4 ((nI y3), (nI y4), cu.2.2.1, cu.2.2.2.1, cu.2.2.2.2.1, cu.2.2.2.2.2.1, cu.2.2.2.2.2.2) st fi se th db cn F, 0)
  refine mm_inv (mm_call_mono _ _) (j := 131) (a := [.ref 1, .int (nI (8 + 12 * e)), .int (nI (8 + 12 * e))]) (M := wC ov4 un4 (nI n4) (nI L.1) fa4 ((nI y3), (nI y4), cu.2.2.1, cu.2.2.2.1, cu.2.2.2.2.1, cu.2.2.2.2.2.1, cu.2.2.2.2.2.2) st fi se th db cn F) (u := 0) rfl (by decide) (gw_times hl s4.2.1 s4.1 R_4 C_4 C_4 (fun ov5 un5 n5 fa5 y5 h5 => ?_))
  show mm_W _ _ _ _ _ _ _ (108, [(6, .int (nI y2)), (5, .int (nI y1)), (4, .int (nI e)), (3, .int (nI c)), (0, .ref 0), (1, .int (nI p)), (2, .int (nI q))], [.int (nI y5), .ref 1], wC ov5 un5 (nI n5) (nI L.1) fa5 ((nI y3), (nI y4), cu.2.2.1, cu.2.2.2.1, cu.2.2.2.2.1, cu.2.2.2.2.2.1, cu.2.2.2.2.2.2) st fi se th db cn F, 0)
  have s5 := stl_L s4 h5
  have F5 := sqL_f s4 F4 E4 h5 (by omega)
  have E5 := sqL_e E4 h5
  have g5 := h5.1.1
  have A_5 := at_keep A_4 (opL_k h5)
  have B_5 := at_keep B_4 (opL_k h5)
  have C_5 := at_keep C_4 (opL_k h5)
  have D_5 := at_keep D_4 (opL_k h5)
  have G_5 := at_keep G_4 (opL_k h5)
  have H_5 := at_keep H_4 (opL_k h5)
  have W1_5 := at_keep W1_4 (opL_k h5)
  have W2_5 := at_keep W2_4 (opL_k h5)
  have W3_5 := at_keep W3_4 (opL_k h5)
  have W4_5 := at_keep W4_4 (opL_k h5)
  have R_5 := rd_keep R_4 (opL_k h5)
  have W5_5 := at_newL h5
  refine mm_skip (mm_call_mono _ _) 3 (st' := (113, [(6, .int (nI y2)), (5, .int (nI y1)), (4, .int (nI e)), (3, .int (nI c)), (0, .ref 0), (1, .int (nI p)), (2, .int (nI q))], [.int (nI c), .ref 1, .int (nI y5), .ref 1], wC ov5 un5 (nI n5) (nI L.1) fa5 ((nI y3), (nI y4), cu.2.2.1, cu.2.2.2.1, cu.2.2.2.2.1, cu.2.2.2.2.2.1, cu.2.2.2.2.2.2) st fi se th db cn F, 0)) rfl ?_
  refine mm_inv (mm_call_mono _ _) (j := 41) (a := [.int (nI c)]) (M := wC ov5 un5 (nI n5) (nI L.1) fa5 ((nI y3), (nI y4), cu.2.2.1, cu.2.2.2.1, cu.2.2.2.2.1, cu.2.2.2.2.2.1, cu.2.2.2.2.2.2) st fi se th db cn F) (u := 0) rfl (by decide) (ct_C_xOf ?_)
  show mm_W _ _ _ _ _ _ _ (116, [(6, .int (nI y2)), (5, .int (nI y1)), (4, .int (nI e)), (3, .int (nI c)), (0, .ref 0), (1, .int (nI p)), (2, .int (nI q))], [.int (nI (8 + 12 * c)), .ref 1, .int (nI y5), .ref 1], wC ov5 un5 (nI n5) (nI L.1) fa5 ((nI y3), (nI y4), cu.2.2.1, cu.2.2.2.1, cu.2.2.2.2.1, cu.2.2.2.2.2.1, cu.2.2.2.2.2.2) st fi se th db cn F, 0)
  refine mm_skip (mm_call_mono _ _) 1 (st' := (117, [(6, .int (nI y2)), (5, .int (nI y1)), (4, .int (nI e)), (3, .int (nI c)), (0, .ref 0), (1, .int (nI p)), (2, .int (nI q))], [.int (nI c), .int (nI (8 + 12 * c)), .ref 1, .int (nI y5), .ref 1], wC ov5 un5 (nI n5) (nI L.1) fa5 ((nI y3), (nI y4), cu.2.2.1, cu.2.2.2.1, cu.2.2.2.2.1, cu.2.2.2.2.2.1, cu.2.2.2.2.2.2) st fi se th db cn F, 0)) rfl ?_
  refine mm_inv (mm_call_mono _ _) (j := 41) (a := [.int (nI c)]) (M := wC ov5 un5 (nI n5) (nI L.1) fa5 ((nI y3), (nI y4), cu.2.2.1, cu.2.2.2.1, cu.2.2.2.2.1, cu.2.2.2.2.2.1, cu.2.2.2.2.2.2) st fi se th db cn F) (u := 0) rfl (by decide) (ct_C_xOf ?_)
  show mm_W _ _ _ _ _ _ _ (120, [(6, .int (nI y2)), (5, .int (nI y1)), (4, .int (nI e)), (3, .int (nI c)), (0, .ref 0), (1, .int (nI p)), (2, .int (nI q))], [.int (nI (8 + 12 * c)), .int (nI (8 + 12 * c)), .ref 1, .int (nI y5), .ref 1], wC ov5 un5 (nI n5) (nI L.1) fa5 ((nI y3), (nI y4), cu.2.2.1, cu.2.2.2.1, cu.2.2.2.2.1, cu.2.2.2.2.2.1, cu.2.2.2.2.2.2) st fi se th db cn F, 0)
  refine mm_inv (mm_call_mono _ _) (j := 131) (a := [.ref 1, .int (nI (8 + 12 * c)), .int (nI (8 + 12 * c))]) (M := wC ov5 un5 (nI n5) (nI L.1) fa5 ((nI y3), (nI y4), cu.2.2.1, cu.2.2.2.1, cu.2.2.2.2.1, cu.2.2.2.2.2.1, cu.2.2.2.2.2.2) st fi se th db cn F) (u := 0) rfl (by decide) (gw_times hl s5.2.1 s5.1 R_5 A_5 A_5 (fun ov6 un6 n6 fa6 y6 h6 => ?_))
  show mm_W _ _ _ _ _ _ _ (123, [(6, .int (nI y2)), (5, .int (nI y1)), (4, .int (nI e)), (3, .int (nI c)), (0, .ref 0), (1, .int (nI p)), (2, .int (nI q))], [.int (nI y6), .int (nI y5), .ref 1], wC ov6 un6 (nI n6) (nI L.1) fa6 ((nI y3), (nI y4), cu.2.2.1, cu.2.2.2.1, cu.2.2.2.2.1, cu.2.2.2.2.2.1, cu.2.2.2.2.2.2) st fi se th db cn F, 0)
  have s6 := stl_L s5 h6
  have F6 := sqL_f s5 F5 E5 h6 (by omega)
  have E6 := sqL_e E5 h6
  have g6 := h6.1.1
  have A_6 := at_keep A_5 (opL_k h6)
  have B_6 := at_keep B_5 (opL_k h6)
  have C_6 := at_keep C_5 (opL_k h6)
  have D_6 := at_keep D_5 (opL_k h6)
  have G_6 := at_keep G_5 (opL_k h6)
  have H_6 := at_keep H_5 (opL_k h6)
  have W1_6 := at_keep W1_5 (opL_k h6)
  have W2_6 := at_keep W2_5 (opL_k h6)
  have W3_6 := at_keep W3_5 (opL_k h6)
  have W4_6 := at_keep W4_5 (opL_k h6)
  have W5_6 := at_keep W5_5 (opL_k h6)
  have R_6 := rd_keep R_5 (opL_k h6)
  have W6_6 := at_newL h6
  refine mm_inv (mm_call_mono _ _) (j := 130) (a := [.ref 1, .int (nI y5), .int (nI y6)]) (M := wC ov6 un6 (nI n6) (nI L.1) fa6 ((nI y3), (nI y4), cu.2.2.1, cu.2.2.2.1, cu.2.2.2.2.1, cu.2.2.2.2.2.1, cu.2.2.2.2.2.2) st fi se th db cn F) (u := 0) rfl (by decide) (gw_minus hl s6.2.1 s6.1 W5_6 W6_6 (fun ov7 un7 n7 fa7 y7 h7 => ?_))
  show mm_W _ _ _ _ _ _ _ (126, [(6, .int (nI y2)), (5, .int (nI y1)), (4, .int (nI e)), (3, .int (nI c)), (0, .ref 0), (1, .int (nI p)), (2, .int (nI q))], [.int (nI y7)], wC ov7 un7 (nI n7) (nI L.1) fa7 ((nI y3), (nI y4), cu.2.2.1, cu.2.2.2.1, cu.2.2.2.2.1, cu.2.2.2.2.2.1, cu.2.2.2.2.2.2) st fi se th db cn F, 0)
  have s7 := stl_L s6 h7
  have F7 := sqL_f s6 F6 E6 h7 (by omega)
  have E7 := sqL_e E6 h7
  have g7 := h7.1.1
  have A_7 := at_keep A_6 (opL_k h7)
  have B_7 := at_keep B_6 (opL_k h7)
  have C_7 := at_keep C_6 (opL_k h7)
  have D_7 := at_keep D_6 (opL_k h7)
  have G_7 := at_keep G_6 (opL_k h7)
  have H_7 := at_keep H_6 (opL_k h7)
  have W1_7 := at_keep W1_6 (opL_k h7)
  have W2_7 := at_keep W2_6 (opL_k h7)
  have W3_7 := at_keep W3_6 (opL_k h7)
  have W4_7 := at_keep W4_6 (opL_k h7)
  have W5_7 := at_keep W5_6 (opL_k h7)
  have W6_7 := at_keep W6_6 (opL_k h7)
  have R_7 := rd_keep R_6 (opL_k h7)
  have W7_7 := at_newL h7
  refine mm_skip (mm_call_mono _ _) 6 (st' := (138, [(7, .int (nI y7)), (6, .int (nI y2)), (5, .int (nI y1)), (4, .int (nI e)), (3, .int (nI c)), (0, .ref 0), (1, .int (nI p)), (2, .int (nI q))], [.int (nI e), .ref 1, .ref 1], wC ov7 un7 (nI n7) (nI L.1) fa7 ((nI y3), (nI y4), cu.2.2.1, cu.2.2.2.1, cu.2.2.2.2.1, cu.2.2.2.2.2.1, cu.2.2.2.2.2.2) st fi se th db cn F, 0)) rfl ?_
  refine mm_inv (mm_call_mono _ _) (j := 42) (a := [.int (nI e)]) (M := wC ov7 un7 (nI n7) (nI L.1) fa7 ((nI y3), (nI y4), cu.2.2.1, cu.2.2.2.1, cu.2.2.2.2.1, cu.2.2.2.2.2.1, cu.2.2.2.2.2.2) st fi se th db cn F) (u := 0) rfl (by decide) (ct_C_yOf ?_)
  show mm_W _ _ _ _ _ _ _ (141, [(7, .int (nI y7)), (6, .int (nI y2)), (5, .int (nI y1)), (4, .int (nI e)), (3, .int (nI c)), (0, .ref 0), (1, .int (nI p)), (2, .int (nI q))], [.int (nI (12 + 12 * e)), .ref 1, .ref 1], wC ov7 un7 (nI n7) (nI L.1) fa7 ((nI y3), (nI y4), cu.2.2.1, cu.2.2.2.1, cu.2.2.2.2.1, cu.2.2.2.2.2.1, cu.2.2.2.2.2.2) st fi se th db cn F, 0)
  refine mm_skip (mm_call_mono _ _) 1 (st' := (143, [(7, .int (nI y7)), (6, .int (nI y2)), (5, .int (nI y1)), (4, .int (nI e)), (3, .int (nI c)), (0, .ref 0), (1, .int (nI p)), (2, .int (nI q))], [.int (nI e), .int (nI (12 + 12 * e)), .ref 1, .ref 1], wC ov7 un7 (nI n7) (nI L.1) fa7 ((nI y3), (nI y4), cu.2.2.1, cu.2.2.2.1, cu.2.2.2.2.1, cu.2.2.2.2.2.1, cu.2.2.2.2.2.2) st fi se th db cn F, 0)) rfl ?_
  refine mm_inv (mm_call_mono _ _) (j := 42) (a := [.int (nI e)]) (M := wC ov7 un7 (nI n7) (nI L.1) fa7 ((nI y3), (nI y4), cu.2.2.1, cu.2.2.2.1, cu.2.2.2.2.1, cu.2.2.2.2.2.1, cu.2.2.2.2.2.2) st fi se th db cn F) (u := 0) rfl (by decide) (ct_C_yOf ?_)
  show mm_W _ _ _ _ _ _ _ (146, [(7, .int (nI y7)), (6, .int (nI y2)), (5, .int (nI y1)), (4, .int (nI e)), (3, .int (nI c)), (0, .ref 0), (1, .int (nI p)), (2, .int (nI q))], [.int (nI (12 + 12 * e)), .int (nI (12 + 12 * e)), .ref 1, .ref 1], wC ov7 un7 (nI n7) (nI L.1) fa7 ((nI y3), (nI y4), cu.2.2.1, cu.2.2.2.1, cu.2.2.2.2.1, cu.2.2.2.2.2.1, cu.2.2.2.2.2.2) st fi se th db cn F, 0)
  refine mm_inv (mm_call_mono _ _) (j := 131) (a := [.ref 1, .int (nI (12 + 12 * e)), .int (nI (12 + 12 * e))]) (M := wC ov7 un7 (nI n7) (nI L.1) fa7 ((nI y3), (nI y4), cu.2.2.1, cu.2.2.2.1, cu.2.2.2.2.1, cu.2.2.2.2.2.1, cu.2.2.2.2.2.2) st fi se th db cn F) (u := 0) rfl (by decide) (gw_times hl s7.2.1 s7.1 R_7 D_7 D_7 (fun ov8 un8 n8 fa8 y8 h8 => ?_))
  show mm_W _ _ _ _ _ _ _ (149, [(7, .int (nI y7)), (6, .int (nI y2)), (5, .int (nI y1)), (4, .int (nI e)), (3, .int (nI c)), (0, .ref 0), (1, .int (nI p)), (2, .int (nI q))], [.int (nI y8), .ref 1], wC ov8 un8 (nI n8) (nI L.1) fa8 ((nI y3), (nI y4), cu.2.2.1, cu.2.2.2.1, cu.2.2.2.2.1, cu.2.2.2.2.2.1, cu.2.2.2.2.2.2) st fi se th db cn F, 0)
  have s8 := stl_L s7 h8
  have F8 := sqL_f s7 F7 E7 h8 (by omega)
  have E8 := sqL_e E7 h8
  have g8 := h8.1.1
  have A_8 := at_keep A_7 (opL_k h8)
  have B_8 := at_keep B_7 (opL_k h8)
  have C_8 := at_keep C_7 (opL_k h8)
  have D_8 := at_keep D_7 (opL_k h8)
  have G_8 := at_keep G_7 (opL_k h8)
  have H_8 := at_keep H_7 (opL_k h8)
  have W1_8 := at_keep W1_7 (opL_k h8)
  have W2_8 := at_keep W2_7 (opL_k h8)
  have W3_8 := at_keep W3_7 (opL_k h8)
  have W4_8 := at_keep W4_7 (opL_k h8)
  have W5_8 := at_keep W5_7 (opL_k h8)
  have W6_8 := at_keep W6_7 (opL_k h8)
  have W7_8 := at_keep W7_7 (opL_k h8)
  have R_8 := rd_keep R_7 (opL_k h8)
  have W8_8 := at_newL h8
  refine mm_skip (mm_call_mono _ _) 3 (st' := (154, [(7, .int (nI y7)), (6, .int (nI y2)), (5, .int (nI y1)), (4, .int (nI e)), (3, .int (nI c)), (0, .ref 0), (1, .int (nI p)), (2, .int (nI q))], [.int (nI c), .ref 1, .int (nI y8), .ref 1], wC ov8 un8 (nI n8) (nI L.1) fa8 ((nI y3), (nI y4), cu.2.2.1, cu.2.2.2.1, cu.2.2.2.2.1, cu.2.2.2.2.2.1, cu.2.2.2.2.2.2) st fi se th db cn F, 0)) rfl ?_
  refine mm_inv (mm_call_mono _ _) (j := 42) (a := [.int (nI c)]) (M := wC ov8 un8 (nI n8) (nI L.1) fa8 ((nI y3), (nI y4), cu.2.2.1, cu.2.2.2.1, cu.2.2.2.2.1, cu.2.2.2.2.2.1, cu.2.2.2.2.2.2) st fi se th db cn F) (u := 0) rfl (by decide) (ct_C_yOf ?_)
  show mm_W _ _ _ _ _ _ _ (157, [(7, .int (nI y7)), (6, .int (nI y2)), (5, .int (nI y1)), (4, .int (nI e)), (3, .int (nI c)), (0, .ref 0), (1, .int (nI p)), (2, .int (nI q))], [.int (nI (12 + 12 * c)), .ref 1, .int (nI y8), .ref 1], wC ov8 un8 (nI n8) (nI L.1) fa8 ((nI y3), (nI y4), cu.2.2.1, cu.2.2.2.1, cu.2.2.2.2.1, cu.2.2.2.2.2.1, cu.2.2.2.2.2.2) st fi se th db cn F, 0)
  refine mm_skip (mm_call_mono _ _) 1 (st' := (158, [(7, .int (nI y7)), (6, .int (nI y2)), (5, .int (nI y1)), (4, .int (nI e)), (3, .int (nI c)), (0, .ref 0), (1, .int (nI p)), (2, .int (nI q))], [.int (nI c), .int (nI (12 + 12 * c)), .ref 1, .int (nI y8), .ref 1], wC ov8 un8 (nI n8) (nI L.1) fa8 ((nI y3), (nI y4), cu.2.2.1, cu.2.2.2.1, cu.2.2.2.2.1, cu.2.2.2.2.2.1, cu.2.2.2.2.2.2) st fi se th db cn F, 0)) rfl ?_
  refine mm_inv (mm_call_mono _ _) (j := 42) (a := [.int (nI c)]) (M := wC ov8 un8 (nI n8) (nI L.1) fa8 ((nI y3), (nI y4), cu.2.2.1, cu.2.2.2.1, cu.2.2.2.2.1, cu.2.2.2.2.2.1, cu.2.2.2.2.2.2) st fi se th db cn F) (u := 0) rfl (by decide) (ct_C_yOf ?_)
  show mm_W _ _ _ _ _ _ _ (161, [(7, .int (nI y7)), (6, .int (nI y2)), (5, .int (nI y1)), (4, .int (nI e)), (3, .int (nI c)), (0, .ref 0), (1, .int (nI p)), (2, .int (nI q))], [.int (nI (12 + 12 * c)), .int (nI (12 + 12 * c)), .ref 1, .int (nI y8), .ref 1], wC ov8 un8 (nI n8) (nI L.1) fa8 ((nI y3), (nI y4), cu.2.2.1, cu.2.2.2.1, cu.2.2.2.2.1, cu.2.2.2.2.2.1, cu.2.2.2.2.2.2) st fi se th db cn F, 0)
  refine mm_inv (mm_call_mono _ _) (j := 131) (a := [.ref 1, .int (nI (12 + 12 * c)), .int (nI (12 + 12 * c))]) (M := wC ov8 un8 (nI n8) (nI L.1) fa8 ((nI y3), (nI y4), cu.2.2.1, cu.2.2.2.1, cu.2.2.2.2.1, cu.2.2.2.2.2.1, cu.2.2.2.2.2.2) st fi se th db cn F) (u := 0) rfl (by decide) (gw_times hl s8.2.1 s8.1 R_8 B_8 B_8 (fun ov9 un9 n9 fa9 y9 h9 => ?_))
  show mm_W _ _ _ _ _ _ _ (164, [(7, .int (nI y7)), (6, .int (nI y2)), (5, .int (nI y1)), (4, .int (nI e)), (3, .int (nI c)), (0, .ref 0), (1, .int (nI p)), (2, .int (nI q))], [.int (nI y9), .int (nI y8), .ref 1], wC ov9 un9 (nI n9) (nI L.1) fa9 ((nI y3), (nI y4), cu.2.2.1, cu.2.2.2.1, cu.2.2.2.2.1, cu.2.2.2.2.2.1, cu.2.2.2.2.2.2) st fi se th db cn F, 0)
  have s9 := stl_L s8 h9
  have F9 := sqL_f s8 F8 E8 h9 (by omega)
  have E9 := sqL_e E8 h9
  have g9 := h9.1.1
  have A_9 := at_keep A_8 (opL_k h9)
  have B_9 := at_keep B_8 (opL_k h9)
  have C_9 := at_keep C_8 (opL_k h9)
  have D_9 := at_keep D_8 (opL_k h9)
  have G_9 := at_keep G_8 (opL_k h9)
  have H_9 := at_keep H_8 (opL_k h9)
  have W1_9 := at_keep W1_8 (opL_k h9)
  have W2_9 := at_keep W2_8 (opL_k h9)
  have W3_9 := at_keep W3_8 (opL_k h9)
  have W4_9 := at_keep W4_8 (opL_k h9)
  have W5_9 := at_keep W5_8 (opL_k h9)
  have W6_9 := at_keep W6_8 (opL_k h9)
  have W7_9 := at_keep W7_8 (opL_k h9)
  have W8_9 := at_keep W8_8 (opL_k h9)
  have R_9 := rd_keep R_8 (opL_k h9)
  have W9_9 := at_newL h9
  refine mm_inv (mm_call_mono _ _) (j := 130) (a := [.ref 1, .int (nI y8), .int (nI y9)]) (M := wC ov9 un9 (nI n9) (nI L.1) fa9 ((nI y3), (nI y4), cu.2.2.1, cu.2.2.2.1, cu.2.2.2.2.1, cu.2.2.2.2.2.1, cu.2.2.2.2.2.2) st fi se th db cn F) (u := 0) rfl (by decide) (gw_minus hl s9.2.1 s9.1 W8_9 W9_9 (fun ov10 un10 n10 fa10 y10 h10 => ?_))
  show mm_W _ _ _ _ _ _ _ (167, [(7, .int (nI y7)), (6, .int (nI y2)), (5, .int (nI y1)), (4, .int (nI e)), (3, .int (nI c)), (0, .ref 0), (1, .int (nI p)), (2, .int (nI q))], [.int (nI y10)], wC ov10 un10 (nI n10) (nI L.1) fa10 ((nI y3), (nI y4), cu.2.2.1, cu.2.2.2.1, cu.2.2.2.2.1, cu.2.2.2.2.2.1, cu.2.2.2.2.2.2) st fi se th db cn F, 0)
  have s10 := stl_L s9 h10
  have F10 := sqL_f s9 F9 E9 h10 (by omega)
  have E10 := sqL_e E9 h10
  have g10 := h10.1.1
  have A_10 := at_keep A_9 (opL_k h10)
  have B_10 := at_keep B_9 (opL_k h10)
  have C_10 := at_keep C_9 (opL_k h10)
  have D_10 := at_keep D_9 (opL_k h10)
  have G_10 := at_keep G_9 (opL_k h10)
  have H_10 := at_keep H_9 (opL_k h10)
  have W1_10 := at_keep W1_9 (opL_k h10)
  have W2_10 := at_keep W2_9 (opL_k h10)
  have W3_10 := at_keep W3_9 (opL_k h10)
  have W4_10 := at_keep W4_9 (opL_k h10)
  have W5_10 := at_keep W5_9 (opL_k h10)
  have W6_10 := at_keep W6_9 (opL_k h10)
  have W7_10 := at_keep W7_9 (opL_k h10)
  have W8_10 := at_keep W8_9 (opL_k h10)
  have W9_10 := at_keep W9_9 (opL_k h10)
  have R_10 := rd_keep R_9 (opL_k h10)
  have W10_10 := at_newL h10
  refine mm_skip (mm_call_mono _ _) 8 (st' := (182, [(8, .int (nI y10)), (7, .int (nI y7)), (6, .int (nI y2)), (5, .int (nI y1)), (4, .int (nI e)), (3, .int (nI c)), (0, .ref 0), (1, .int (nI p)), (2, .int (nI q))], [.int (nI p), .ref 1, .ref 1, .ref 2], wC ov10 un10 (nI n10) (nI L.1) fa10 ((nI y3), (nI y4), cu.2.2.1, cu.2.2.2.1, cu.2.2.2.2.1, cu.2.2.2.2.2.1, cu.2.2.2.2.2.2) st fi se th db cn F, 0)) rfl ?_
  refine mm_inv (mm_call_mono _ _) (j := 46) (a := [.int (nI p)]) (M := wC ov10 un10 (nI n10) (nI L.1) fa10 ((nI y3), (nI y4), cu.2.2.1, cu.2.2.2.1, cu.2.2.2.2.1, cu.2.2.2.2.2.1, cu.2.2.2.2.2.2) st fi se th db cn F) (u := 0) rfl (by decide) (ct_C_squareOf ?_)
  show mm_W _ _ _ _ _ _ _ (185, [(8, .int (nI y10)), (7, .int (nI y7)), (6, .int (nI y2)), (5, .int (nI y1)), (4, .int (nI e)), (3, .int (nI c)), (0, .ref 0), (1, .int (nI p)), (2, .int (nI q))], [.int (nI (8 + 12 * p)), .ref 1, .ref 1, .ref 2], wC ov10 un10 (nI n10) (nI L.1) fa10 ((nI y3), (nI y4), cu.2.2.1, cu.2.2.2.1, cu.2.2.2.2.1, cu.2.2.2.2.2.1, cu.2.2.2.2.2.2) st fi se th db cn F, 0)
  refine mm_skip (mm_call_mono _ _) 1 (st' := (186, [(8, .int (nI y10)), (7, .int (nI y7)), (6, .int (nI y2)), (5, .int (nI y1)), (4, .int (nI e)), (3, .int (nI c)), (0, .ref 0), (1, .int (nI p)), (2, .int (nI q))], [.int (nI q), .int (nI (8 + 12 * p)), .ref 1, .ref 1, .ref 2], wC ov10 un10 (nI n10) (nI L.1) fa10 ((nI y3), (nI y4), cu.2.2.1, cu.2.2.2.1, cu.2.2.2.2.1, cu.2.2.2.2.2.1, cu.2.2.2.2.2.2) st fi se th db cn F, 0)) rfl ?_
  refine mm_inv (mm_call_mono _ _) (j := 46) (a := [.int (nI q)]) (M := wC ov10 un10 (nI n10) (nI L.1) fa10 ((nI y3), (nI y4), cu.2.2.1, cu.2.2.2.1, cu.2.2.2.2.1, cu.2.2.2.2.2.1, cu.2.2.2.2.2.2) st fi se th db cn F) (u := 0) rfl (by decide) (ct_C_squareOf ?_)
  show mm_W _ _ _ _ _ _ _ (189, [(8, .int (nI y10)), (7, .int (nI y7)), (6, .int (nI y2)), (5, .int (nI y1)), (4, .int (nI e)), (3, .int (nI c)), (0, .ref 0), (1, .int (nI p)), (2, .int (nI q))], [.int (nI (8 + 12 * q)), .int (nI (8 + 12 * p)), .ref 1, .ref 1, .ref 2], wC ov10 un10 (nI n10) (nI L.1) fa10 ((nI y3), (nI y4), cu.2.2.1, cu.2.2.2.1, cu.2.2.2.2.1, cu.2.2.2.2.2.1, cu.2.2.2.2.2.2) st fi se th db cn F, 0)
  refine mm_inv (mm_call_mono _ _) (j := 130) (a := [.ref 1, .int (nI (8 + 12 * p)), .int (nI (8 + 12 * q))]) (M := wC ov10 un10 (nI n10) (nI L.1) fa10 ((nI y3), (nI y4), cu.2.2.1, cu.2.2.2.1, cu.2.2.2.2.1, cu.2.2.2.2.2.1, cu.2.2.2.2.2.2) st fi se th db cn F) (u := 0) rfl (by decide) (gw_minus hl s10.2.1 s10.1 G_10 H_10 (fun ov11 un11 n11 fa11 y11 h11 => ?_))
  show mm_W _ _ _ _ _ _ _ (192, [(8, .int (nI y10)), (7, .int (nI y7)), (6, .int (nI y2)), (5, .int (nI y1)), (4, .int (nI e)), (3, .int (nI c)), (0, .ref 0), (1, .int (nI p)), (2, .int (nI q))], [.int (nI y11), .ref 1, .ref 2], wC ov11 un11 (nI n11) (nI L.1) fa11 ((nI y3), (nI y4), cu.2.2.1, cu.2.2.2.1, cu.2.2.2.2.1, cu.2.2.2.2.2.1, cu.2.2.2.2.2.2) st fi se th db cn F, 0)
  have s11 := stl_L s10 h11
  have F11 := sqL_f s10 F10 E10 h11 (by omega)
  have E11 := sqL_e E10 h11
  have g11 := h11.1.1
  have A_11 := at_keep A_10 (opL_k h11)
  have B_11 := at_keep B_10 (opL_k h11)
  have C_11 := at_keep C_10 (opL_k h11)
  have D_11 := at_keep D_10 (opL_k h11)
  have G_11 := at_keep G_10 (opL_k h11)
  have H_11 := at_keep H_10 (opL_k h11)
  have W1_11 := at_keep W1_10 (opL_k h11)
  have W2_11 := at_keep W2_10 (opL_k h11)
  have W3_11 := at_keep W3_10 (opL_k h11)
  have W4_11 := at_keep W4_10 (opL_k h11)
  have W5_11 := at_keep W5_10 (opL_k h11)
  have W6_11 := at_keep W6_10 (opL_k h11)
  have W7_11 := at_keep W7_10 (opL_k h11)
  have W8_11 := at_keep W8_10 (opL_k h11)
  have W9_11 := at_keep W9_10 (opL_k h11)
  have W10_11 := at_keep W10_10 (opL_k h11)
  have R_11 := rd_keep R_10 (opL_k h11)
  have W11_11 := at_newL h11
  refine mm_skip (mm_call_mono _ _) 4 (st' := (200, [(8, .int (nI y10)), (7, .int (nI y7)), (6, .int (nI y2)), (5, .int (nI y1)), (4, .int (nI e)), (3, .int (nI c)), (0, .ref 0), (1, .int (nI p)), (2, .int (nI q))], [.int (nI y10), .int (nI y7), .ref 1, .int (nI y11), .ref 1, .ref 2], wC ov11 un11 (nI n11) (nI L.1) fa11 ((nI y3), (nI y4), cu.2.2.1, cu.2.2.2.1, cu.2.2.2.2.1, cu.2.2.2.2.2.1, cu.2.2.2.2.2.2) st fi se th db cn F, 0)) rfl ?_
  refine mm_inv (mm_call_mono _ _) (j := 129) (a := [.ref 1, .int (nI y7), .int (nI y10)]) (M := wC ov11 un11 (nI n11) (nI L.1) fa11 ((nI y3), (nI y4), cu.2.2.1, cu.2.2.2.1, cu.2.2.2.2.1, cu.2.2.2.2.2.1, cu.2.2.2.2.2.2) st fi se th db cn F) (u := 0) rfl (by decide) (gw_plus hl s11.2.1 s11.1 W7_11 W10_11 (fun ov12 un12 n12 fa12 y12 h12 => ?_))
  show mm_W _ _ _ _ _ _ _ (203, [(8, .int (nI y10)), (7, .int (nI y7)), (6, .int (nI y2)), (5, .int (nI y1)), (4, .int (nI e)), (3, .int (nI c)), (0, .ref 0), (1, .int (nI p)), (2, .int (nI q))], [.int (nI y12), .int (nI y11), .ref 1, .ref 2], wC ov12 un12 (nI n12) (nI L.1) fa12 ((nI y3), (nI y4), cu.2.2.1, cu.2.2.2.1, cu.2.2.2.2.1, cu.2.2.2.2.2.1, cu.2.2.2.2.2.2) st fi se th db cn F, 0)
  have s12 := stl_L s11 h12
  have F12 := sqL_f s11 F11 E11 h12 (by omega)
  have E12 := sqL_e E11 h12
  have g12 := h12.1.1
  have A_12 := at_keep A_11 (opL_k h12)
  have B_12 := at_keep B_11 (opL_k h12)
  have C_12 := at_keep C_11 (opL_k h12)
  have D_12 := at_keep D_11 (opL_k h12)
  have G_12 := at_keep G_11 (opL_k h12)
  have H_12 := at_keep H_11 (opL_k h12)
  have W1_12 := at_keep W1_11 (opL_k h12)
  have W2_12 := at_keep W2_11 (opL_k h12)
  have W3_12 := at_keep W3_11 (opL_k h12)
  have W4_12 := at_keep W4_11 (opL_k h12)
  have W5_12 := at_keep W5_11 (opL_k h12)
  have W6_12 := at_keep W6_11 (opL_k h12)
  have W7_12 := at_keep W7_11 (opL_k h12)
  have W8_12 := at_keep W8_11 (opL_k h12)
  have W9_12 := at_keep W9_11 (opL_k h12)
  have W10_12 := at_keep W10_11 (opL_k h12)
  have W11_12 := at_keep W11_11 (opL_k h12)
  have R_12 := rd_keep R_11 (opL_k h12)
  have W12_12 := at_newL h12
  refine mm_inv (mm_call_mono _ _) (j := 129) (a := [.ref 1, .int (nI y11), .int (nI y12)]) (M := wC ov12 un12 (nI n12) (nI L.1) fa12 ((nI y3), (nI y4), cu.2.2.1, cu.2.2.2.1, cu.2.2.2.2.1, cu.2.2.2.2.2.1, cu.2.2.2.2.2.2) st fi se th db cn F) (u := 0) rfl (by decide) (gw_plus hl s12.2.1 s12.1 W11_12 W12_12 (fun ov13 un13 n13 fa13 y13 h13 => ?_))
  show mm_W _ _ _ _ _ _ _ (206, [(8, .int (nI y10)), (7, .int (nI y7)), (6, .int (nI y2)), (5, .int (nI y1)), (4, .int (nI e)), (3, .int (nI c)), (0, .ref 0), (1, .int (nI p)), (2, .int (nI q))], [.int (nI y13), .ref 2], wC ov13 un13 (nI n13) (nI L.1) fa13 ((nI y3), (nI y4), cu.2.2.1, cu.2.2.2.1, cu.2.2.2.2.1, cu.2.2.2.2.2.1, cu.2.2.2.2.2.2) st fi se th db cn F, 0)
  have s13 := stl_L s12 h13
  have F13 := sqL_f s12 F12 E12 h13 (by omega)
  have E13 := sqL_e E12 h13
  have g13 := h13.1.1
  have A_13 := at_keep A_12 (opL_k h13)
  have B_13 := at_keep B_12 (opL_k h13)
  have C_13 := at_keep C_12 (opL_k h13)
  have D_13 := at_keep D_12 (opL_k h13)
  have G_13 := at_keep G_12 (opL_k h13)
  have H_13 := at_keep H_12 (opL_k h13)
  have W1_13 := at_keep W1_12 (opL_k h13)
  have W2_13 := at_keep W2_12 (opL_k h13)
  have W3_13 := at_keep W3_12 (opL_k h13)
  have W4_13 := at_keep W4_12 (opL_k h13)
  have W5_13 := at_keep W5_12 (opL_k h13)
  have W6_13 := at_keep W6_12 (opL_k h13)
  have W7_13 := at_keep W7_12 (opL_k h13)
  have W8_13 := at_keep W8_12 (opL_k h13)
  have W9_13 := at_keep W9_12 (opL_k h13)
  have W10_13 := at_keep W10_12 (opL_k h13)
  have W11_13 := at_keep W11_12 (opL_k h13)
  have W12_13 := at_keep W12_12 (opL_k h13)
  have R_13 := rd_keep R_12 (opL_k h13)
  have W13_13 := at_newL h13
  refine mm_skip (mm_call_mono _ _) 1 (st' := (209, [(8, .int (nI y10)), (7, .int (nI y7)), (6, .int (nI y2)), (5, .int (nI y1)), (4, .int (nI e)), (3, .int (nI c)), (0, .ref 0), (1, .int (nI p)), (2, .int (nI q))], [], wC ov13 un13 (nI n13) (nI L.1) fa13 ((nI y3), (nI y4), (nI y13), cu.2.2.2.1, cu.2.2.2.2.1, cu.2.2.2.2.2.1, cu.2.2.2.2.2.2) st fi se th db cn F, 0)) rfl ?_
  exact mm_ret (mm_call_mono _ _) (c := True) (r := .inl none) (M := wC ov13 un13 (nI n13) (nI L.1) fa13 ((nI y3), (nI y4), (nI y13), cu.2.2.2.1, cu.2.2.2.2.1, cu.2.2.2.2.2.1, cu.2.2.2.2.2.2) st fi se th db cn F) (u := 0) rfl trivial (by decide) (hQ _ _ _ _ _ _ _ _ _ _ ⟨s13, E13, F13, W3_13, W4_13, W13_13, g3, g4, g13⟩)

set_option maxRecDepth 100000 in
theorem gd_measure {d : Nat} {ov un : Nat → Int32} {fa : Int32} {c3 c4 c5 c6 : Int32} {st fi se th db : Nat → Int32} {cn : Int32} {F : mm_M} {n k c ra rb rc : Nat} {va vb vc x y s : n4} {L : lvR} {Q : mm_R → mm_M → Prop} (hl : L.1 ≤ 2) (hk : k < 24) (hf : fi k = nI c) (hfa : mm_z fa) (hn : 308 ≤ n ∧ n ≤ 1332) (R : rdA ov un n fa L) (A : isAt ov un n fa 4 (ra) (g4 va)) (B : isAt ov un n fa 4 (rb) (g4 vb)) (C : isAt ov un n fa 4 (rc) (g4 vc)) (D : isAt ov un n fa 4 (8 + 12 * c) (g4 x)) (G : isAt ov un n fa 4 (12 + 12 * c) (g4 y)) (H : isAt ov un n fa 4 (8 + 12 * k) (g4 s)) (hQ : ∀ (ov1 un1 : Nat → Int32) (n1 : Nat) (fa1 : Int32) (re rm rv : Nat) (v1 v2 v3 : n4), o3R ov un n fa 52 100 (mMea L va vb vc x y s) ov1 un1 n1 fa1 re rm rv v1 v2 v3 → Q (.inl (some (.int (nI rv)))) (wC ov1 un1 (nI n1) (nI L.1) fa1 ((nI ra), (nI rb), (nI rc), (nI (8 + 12 * c)), (nI (12 + 12 * c)), (nI re), (nI rm)) st fi se th db cn F)) : mm_call mm_Tb (d + 7) 34 [.ref 0, .int (nI k)] (wC ov un (nI n) (nI L.1) fa ((nI ra), (nI rb), (nI rc), c3, c4, c5, c6) st fi se th db cn F) Q := by
  have s0 := stl_0 (ov := ov) (un := un) hfa hn
  have E0 : fa = 0 → mMea L va vb vc x y s = Option.bind (xmul L va va) _ := fun _ => rfl
  have F0 : fa = 1 → fa = 0 → n + 100 ≤ 1332 → mMea L va vb vc x y s = none := f_0
  refine mm_in mt_34 (Nat.le_of_ble_eq_true rfl) ?_
  show mm_W _ _ _ _ _ _ _ (0, [(0, .ref 0), (1, .int (nI k))], [], wC ov un (nI n) (nI L.1) fa ((nI ra), (nI rb), (nI rc), c3, c4, c5, c6) st fi se th db cn F, 0)
  refine mm_skip (mm_call_mono _ _) 3 (st' := (5, [(0, .ref 0), (1, .int (nI k))], [.int (nI k), .ref 4], wC ov un (nI n) (nI L.1) fa ((nI ra), (nI rb), (nI rc), c3, c4, c5, c6) st fi se th db cn F, 0)) rfl ?_
  refine mm_need (mm_call_mono _ _) (c := vp_in (nI k) 24) (s' := (6, [(0, .ref 0), (1, .int (nI k))], [.int (fi (Int32.toNatClampNeg (nI k)))], wC ov un (nI n) (nI L.1) fa ((nI ra), (nI rb), (nI rc), c3, c4, c5, c6) st fi se th db cn F, 0)) rfl (vp_in_nI (show k < 24 by omega) (by decide)) ?_
  rw [nI_clamp (show k < 2 ^ 31 by omega)]
  show mm_W _ _ _ _ _ _ _ (6, [(0, .ref 0), (1, .int (nI k))], [.int (fi k)], wC ov un (nI n) (nI L.1) fa ((nI ra), (nI rb), (nI rc), c3, c4, c5, c6) st fi se th db cn F, 0)
  rw [hf]
  show mm_W _ _ _ _ _ _ _ (6, [(0, .ref 0), (1, .int (nI k))], [.int (nI c)], wC ov un (nI n) (nI L.1) fa ((nI ra), (nI rb), (nI rc), c3, c4, c5, c6) st fi se th db cn F, 0)
  refine mm_inv (mm_call_mono _ _) (j := 41) (a := [.int (nI c)]) (M := wC ov un (nI n) (nI L.1) fa ((nI ra), (nI rb), (nI rc), c3, c4, c5, c6) st fi se th db cn F) (u := 0) rfl (by decide) (ct_C_xOf ?_)
  show mm_W _ _ _ _ _ _ _ (9, [(0, .ref 0), (1, .int (nI k))], [.int (nI (8 + 12 * c))], wC ov un (nI n) (nI L.1) fa ((nI ra), (nI rb), (nI rc), c3, c4, c5, c6) st fi se th db cn F, 0)
  refine mm_skip (mm_call_mono _ _) 4 (st' := (15, [(2, .int (nI (8 + 12 * c))), (0, .ref 0), (1, .int (nI k))], [.int (nI k), .ref 4], wC ov un (nI n) (nI L.1) fa ((nI ra), (nI rb), (nI rc), c3, c4, c5, c6) st fi se th db cn F, 0)) rfl ?_
  refine mm_need (mm_call_mono _ _) (c := vp_in (nI k) 24) (s' := (16, [(2, .int (nI (8 + 12 * c))), (0, .ref 0), (1, .int (nI k))], [.int (fi (Int32.toNatClampNeg (nI k)))], wC ov un (nI n) (nI L.1) fa ((nI ra), (nI rb), (nI rc), c3, c4, c5, c6) st fi se th db cn F, 0)) rfl (vp_in_nI (show k < 24 by omega) (by decide)) ?_
  rw [nI_clamp (show k < 2 ^ 31 by omega)]
  show mm_W _ _ _ _ _ _ _ (16, [(2, .int (nI (8 + 12 * c))), (0, .ref 0), (1, .int (nI k))], [.int (fi k)], wC ov un (nI n) (nI L.1) fa ((nI ra), (nI rb), (nI rc), c3, c4, c5, c6) st fi se th db cn F, 0)
  rw [hf]
  show mm_W _ _ _ _ _ _ _ (16, [(2, .int (nI (8 + 12 * c))), (0, .ref 0), (1, .int (nI k))], [.int (nI c)], wC ov un (nI n) (nI L.1) fa ((nI ra), (nI rb), (nI rc), c3, c4, c5, c6) st fi se th db cn F, 0)
  refine mm_inv (mm_call_mono _ _) (j := 42) (a := [.int (nI c)]) (M := wC ov un (nI n) (nI L.1) fa ((nI ra), (nI rb), (nI rc), c3, c4, c5, c6) st fi se th db cn F) (u := 0) rfl (by decide) (ct_C_yOf ?_)
  show mm_W _ _ _ _ _ _ _ (19, [(2, .int (nI (8 + 12 * c))), (0, .ref 0), (1, .int (nI k))], [.int (nI (12 + 12 * c))], wC ov un (nI n) (nI L.1) fa ((nI ra), (nI rb), (nI rc), c3, c4, c5, c6) st fi se th db cn F, 0)
  refine mm_skip (mm_call_mono _ _) 11 (st' := (42, [(3, .int (nI (12 + 12 * c))), (2, .int (nI (8 + 12 * c))), (0, .ref 0), (1, .int (nI k))], [.int (nI ra), .int (nI ra), .ref 1, .ref 1], wC ov un (nI n) (nI L.1) fa ((nI ra), (nI rb), (nI rc), c3, c4, c5, c6) st fi se th db cn F, 0)) rfl ?_
  refine mm_inv (mm_call_mono _ _) (j := 131) (a := [.ref 1, .int (nI ra), .int (nI ra)]) (M := wC ov un (nI n) (nI L.1) fa ((nI ra), (nI rb), (nI rc), c3, c4, c5, c6) st fi se th db cn F) (u := 0) rfl (by decide) (gw_times hl s0.2.1 s0.1 R A A (fun ov1 un1 n1 fa1 y1 h1 => ?_))
  show mm_W _ _ _ _ _ _ _ (45, [(3, .int (nI (12 + 12 * c))), (2, .int (nI (8 + 12 * c))), (0, .ref 0), (1, .int (nI k))], [.int (nI y1), .ref 1], wC ov1 un1 (nI n1) (nI L.1) fa1 ((nI ra), (nI rb), (nI rc), c3, c4, c5, c6) st fi se th db cn F, 0)
  have s1 := stl_L s0 h1
  have F1 := sqL_f s0 F0 E0 h1 (by omega)
  have E1 := sqL_e E0 h1
  have g1 := h1.1.1
  have A_1 := at_keep A (opL_k h1)
  have B_1 := at_keep B (opL_k h1)
  have C_1 := at_keep C (opL_k h1)
  have D_1 := at_keep D (opL_k h1)
  have G_1 := at_keep G (opL_k h1)
  have H_1 := at_keep H (opL_k h1)
  have R_1 := rd_keep R (opL_k h1)
  have W1_1 := at_newL h1
  refine mm_skip (mm_call_mono _ _) 8 (st' := (63, [(3, .int (nI (12 + 12 * c))), (2, .int (nI (8 + 12 * c))), (0, .ref 0), (1, .int (nI k))], [.int (nI rb), .int (nI rb), .ref 1, .int (nI y1), .ref 1], wC ov1 un1 (nI n1) (nI L.1) fa1 ((nI ra), (nI rb), (nI rc), c3, c4, c5, c6) st fi se th db cn F, 0)) rfl ?_
  refine mm_inv (mm_call_mono _ _) (j := 131) (a := [.ref 1, .int (nI rb), .int (nI rb)]) (M := wC ov1 un1 (nI n1) (nI L.1) fa1 ((nI ra), (nI rb), (nI rc), c3, c4, c5, c6) st fi se th db cn F) (u := 0) rfl (by decide) (gw_times hl s1.2.1 s1.1 R_1 B_1 B_1 (fun ov2 un2 n2 fa2 y2 h2 => ?_))
  show mm_W _ _ _ _ _ _ _ (66, [(3, .int (nI (12 + 12 * c))), (2, .int (nI (8 + 12 * c))), (0, .ref 0), (1, .int (nI k))], [.int (nI y2), .int (nI y1), .ref 1], wC ov2 un2 (nI n2) (nI L.1) fa2 ((nI ra), (nI rb), (nI rc), c3, c4, c5, c6) st fi se th db cn F, 0)
  have s2 := stl_L s1 h2
  have F2 := sqL_f s1 F1 E1 h2 (by omega)
  have E2 := sqL_e E1 h2
  have g2 := h2.1.1
  have A_2 := at_keep A_1 (opL_k h2)
  have B_2 := at_keep B_1 (opL_k h2)
  have C_2 := at_keep C_1 (opL_k h2)
  have D_2 := at_keep D_1 (opL_k h2)
  have G_2 := at_keep G_1 (opL_k h2)
  have H_2 := at_keep H_1 (opL_k h2)
  have W1_2 := at_keep W1_1 (opL_k h2)
  have R_2 := rd_keep R_1 (opL_k h2)
  have W2_2 := at_newL h2
  refine mm_inv (mm_call_mono _ _) (j := 129) (a := [.ref 1, .int (nI y1), .int (nI y2)]) (M := wC ov2 un2 (nI n2) (nI L.1) fa2 ((nI ra), (nI rb), (nI rc), c3, c4, c5, c6) st fi se th db cn F) (u := 0) rfl (by decide) (gw_plus hl s2.2.1 s2.1 W1_2 W2_2 (fun ov3 un3 n3 fa3 y3 h3 => ?_))
  show mm_W _ _ _ _ _ _ _ (69, [(3, .int (nI (12 + 12 * c))), (2, .int (nI (8 + 12 * c))), (0, .ref 0), (1, .int (nI k))], [.int (nI y3)], wC ov3 un3 (nI n3) (nI L.1) fa3 ((nI ra), (nI rb), (nI rc), c3, c4, c5, c6) st fi se th db cn F, 0)
  have s3 := stl_L s2 h3
  have F3 := sqL_f s2 F2 E2 h3 (by omega)
  have E3 := sqL_e E2 h3
  have g3 := h3.1.1
  have A_3 := at_keep A_2 (opL_k h3)
  have B_3 := at_keep B_2 (opL_k h3)
  have C_3 := at_keep C_2 (opL_k h3)
  have D_3 := at_keep D_2 (opL_k h3)
  have G_3 := at_keep G_2 (opL_k h3)
  have H_3 := at_keep H_2 (opL_k h3)
  have W1_3 := at_keep W1_2 (opL_k h3)
  have W2_3 := at_keep W2_2 (opL_k h3)
  have R_3 := rd_keep R_2 (opL_k h3)
  have W3_3 := at_newL h3
  refine mm_skip (mm_call_mono _ _) 14 (st' := (98, [(4, .int (nI y3)), (3, .int (nI (12 + 12 * c))), (2, .int (nI (8 + 12 * c))), (0, .ref 0), (1, .int (nI k))], [.int (nI (8 + 12 * c)), .int (nI ra), .ref 1, .ref 1, .int (nI rc), .ref 1], wC ov3 un3 (nI n3) (nI L.1) fa3 ((nI ra), (nI rb), (nI rc), c3, c4, c5, c6) st fi se th db cn F, 0)) rfl ?_
  refine mm_inv (mm_call_mono _ _) (j := 131) (a := [.ref 1, .int (nI ra), .int (nI (8 + 12 * c))]) (M := wC ov3 un3 (nI n3) (nI L.1) fa3 ((nI ra), (nI rb), (nI rc), c3, c4, c5, c6) st fi se th db cn F) (u := 0) rfl (by decide) (gw_times hl s3.2.1 s3.1 R_3 A_3 D_3 (fun ov4 un4 n4 fa4 y4 h4 => ?_))
  show mm_W _ _ _ _ _ _ _ (101, [(4, .int (nI y3)), (3, .int (nI (12 + 12 * c))), (2, .int (nI (8 + 12 * c))), (0, .ref 0), (1, .int (nI k))], [.int (nI y4), .ref 1, .int (nI rc), .ref 1], wC ov4 un4 (nI n4) (nI L.1) fa4 ((nI ra), (nI rb), (nI rc), c3, c4, c5, c6) st fi se th db cn F, 0)
  have s4 := stl_L s3 h4
  have F4 := sqL_f s3 F3 E3 h4 (by omega)
  have E4 := sqL_e E3 h4
  have g4 := h4.1.1
  have A_4 := at_keep A_3 (opL_k h4)
  have B_4 := at_keep B_3 (opL_k h4)
  have C_4 := at_keep C_3 (opL_k h4)
  have D_4 := at_keep D_3 (opL_k h4)
  have G_4 := at_keep G_3 (opL_k h4)
  have H_4 := at_keep H_3 (opL_k h4)
  have W1_4 := at_keep W1_3 (opL_k h4)
  have W2_4 := at_keep W2_3 (opL_k h4)
  have W3_4 := at_keep W3_3 (opL_k h4)
  have R_4 := rd_keep R_3 (opL_k h4)
  have W4_4 := at_newL h4
  refine mm_skip (mm_call_mono _ _) 6 (st' := (113, [(4, .int (nI y3)), (3, .int (nI (12 + 12 * c))), (2, .int (nI (8 + 12 * c))), (0, .ref 0), (1, .int (nI k))], [.int (nI (12 + 12 * c)), .int (nI rb), .ref 1, .int (nI y4), .ref 1, .int (nI rc), .ref 1], wC ov4 un4 (nI n4) (nI L.1) fa4 ((nI ra), (nI rb), (nI rc), c3, c4, c5, c6) st fi se th db cn F, 0)) rfl ?_
  refine mm_inv (mm_call_mono _ _) (j := 131) (a := [.ref 1, .int (nI rb), .int (nI (12 + 12 * c))]) (M := wC ov4 un4 (nI n4) (nI L.1) fa4 ((nI ra), (nI rb), (nI rc), c3, c4, c5, c6) st fi se th db cn F) (u := 0) rfl (by decide) (gw_times hl s4.2.1 s4.1 R_4 B_4 G_4 (fun ov5 un5 n5 fa5 y5 h5 => ?_))
  show mm_W _ _ _ _ _ _ _ (116, [(4, .int (nI y3)), (3, .int (nI (12 + 12 * c))), (2, .int (nI (8 + 12 * c))), (0, .ref 0), (1, .int (nI k))], [.int (nI y5), .int (nI y4), .ref 1, .int (nI rc), .ref 1], wC ov5 un5 (nI n5) (nI L.1) fa5 ((nI ra), (nI rb), (nI rc), c3, c4, c5, c6) st fi se th db cn F, 0)
  have s5 := stl_L s4 h5
  have F5 := sqL_f s4 F4 E4 h5 (by omega)
  have E5 := sqL_e E4 h5
  have g5 := h5.1.1
  have A_5 := at_keep A_4 (opL_k h5)
  have B_5 := at_keep B_4 (opL_k h5)
  have C_5 := at_keep C_4 (opL_k h5)
  have D_5 := at_keep D_4 (opL_k h5)
  have G_5 := at_keep G_4 (opL_k h5)
  have H_5 := at_keep H_4 (opL_k h5)
  have W1_5 := at_keep W1_4 (opL_k h5)
  have W2_5 := at_keep W2_4 (opL_k h5)
  have W3_5 := at_keep W3_4 (opL_k h5)
  have W4_5 := at_keep W4_4 (opL_k h5)
  have R_5 := rd_keep R_4 (opL_k h5)
  have W5_5 := at_newL h5
  refine mm_inv (mm_call_mono _ _) (j := 129) (a := [.ref 1, .int (nI y4), .int (nI y5)]) (M := wC ov5 un5 (nI n5) (nI L.1) fa5 ((nI ra), (nI rb), (nI rc), c3, c4, c5, c6) st fi se th db cn F) (u := 0) rfl (by decide) (gw_plus hl s5.2.1 s5.1 W4_5 W5_5 (fun ov6 un6 n6 fa6 y6 h6 => ?_))
  show mm_W _ _ _ _ _ _ _ (119, [(4, .int (nI y3)), (3, .int (nI (12 + 12 * c))), (2, .int (nI (8 + 12 * c))), (0, .ref 0), (1, .int (nI k))], [.int (nI y6), .int (nI rc), .ref 1], wC ov6 un6 (nI n6) (nI L.1) fa6 ((nI ra), (nI rb), (nI rc), c3, c4, c5, c6) st fi se th db cn F, 0)
  have s6 := stl_L s5 h6
  have F6 := sqL_f s5 F5 E5 h6 (by omega)
  have E6 := sqL_e E5 h6
  have g6 := h6.1.1
  have A_6 := at_keep A_5 (opL_k h6)
  have B_6 := at_keep B_5 (opL_k h6)
  have C_6 := at_keep C_5 (opL_k h6)
  have D_6 := at_keep D_5 (opL_k h6)
  have G_6 := at_keep G_5 (opL_k h6)
  have H_6 := at_keep H_5 (opL_k h6)
  have W1_6 := at_keep W1_5 (opL_k h6)
  have W2_6 := at_keep W2_5 (opL_k h6)
  have W3_6 := at_keep W3_5 (opL_k h6)
  have W4_6 := at_keep W4_5 (opL_k h6)
  have W5_6 := at_keep W5_5 (opL_k h6)
  have R_6 := rd_keep R_5 (opL_k h6)
  have W6_6 := at_newL h6
  refine mm_inv (mm_call_mono _ _) (j := 130) (a := [.ref 1, .int (nI rc), .int (nI y6)]) (M := wC ov6 un6 (nI n6) (nI L.1) fa6 ((nI ra), (nI rb), (nI rc), c3, c4, c5, c6) st fi se th db cn F) (u := 0) rfl (by decide) (gw_minus hl s6.2.1 s6.1 C_6 W6_6 (fun ov7 un7 n7 fa7 y7 h7 => ?_))
  show mm_W _ _ _ _ _ _ _ (122, [(4, .int (nI y3)), (3, .int (nI (12 + 12 * c))), (2, .int (nI (8 + 12 * c))), (0, .ref 0), (1, .int (nI k))], [.int (nI y7)], wC ov7 un7 (nI n7) (nI L.1) fa7 ((nI ra), (nI rb), (nI rc), c3, c4, c5, c6) st fi se th db cn F, 0)
  have s7 := stl_L s6 h7
  have F7 := sqL_f s6 F6 E6 h7 (by omega)
  have E7 := sqL_e E6 h7
  have g7 := h7.1.1
  have A_7 := at_keep A_6 (opL_k h7)
  have B_7 := at_keep B_6 (opL_k h7)
  have C_7 := at_keep C_6 (opL_k h7)
  have D_7 := at_keep D_6 (opL_k h7)
  have G_7 := at_keep G_6 (opL_k h7)
  have H_7 := at_keep H_6 (opL_k h7)
  have W1_7 := at_keep W1_6 (opL_k h7)
  have W2_7 := at_keep W2_6 (opL_k h7)
  have W3_7 := at_keep W3_6 (opL_k h7)
  have W4_7 := at_keep W4_6 (opL_k h7)
  have W5_7 := at_keep W5_6 (opL_k h7)
  have W6_7 := at_keep W6_6 (opL_k h7)
  have R_7 := rd_keep R_6 (opL_k h7)
  have W7_7 := at_newL h7
  refine mm_skip (mm_call_mono _ _) 18 (st' := (159, [(5, .int (nI y7)), (4, .int (nI y3)), (3, .int (nI (12 + 12 * c))), (2, .int (nI (8 + 12 * c))), (0, .ref 0), (1, .int (nI k))], [.int (nI y3), .ref 1, .ref 2], wC ov7 un7 (nI n7) (nI L.1) fa7 ((nI ra), (nI rb), (nI rc), (nI (8 + 12 * c)), (nI (12 + 12 * c)), (nI y7), c6) st fi se th db cn F, 0)) rfl ?_
  refine mm_inv (mm_call_mono _ _) (j := 134) (a := [.ref 1, .int (nI y3)]) (M := wC ov7 un7 (nI n7) (nI L.1) fa7 ((nI ra), (nI rb), (nI rc), (nI (8 + 12 * c)), (nI (12 + 12 * c)), (nI y7), c6) st fi se th db cn F) (u := 0) rfl (by decide) (gw_inverted hl s7.2.1 s7.1 R_7 W3_7 (fun ov8 un8 n8 fa8 y8 h8 => ?_))
  show mm_W _ _ _ _ _ _ _ (162, [(5, .int (nI y7)), (4, .int (nI y3)), (3, .int (nI (12 + 12 * c))), (2, .int (nI (8 + 12 * c))), (0, .ref 0), (1, .int (nI k))], [.int (nI y8), .ref 2], wC ov8 un8 (nI n8) (nI L.1) fa8 ((nI ra), (nI rb), (nI rc), (nI (8 + 12 * c)), (nI (12 + 12 * c)), (nI y7), c6) st fi se th db cn F, 0)
  have s8 := stl_L s7 h8
  have F8 := sqL_f s7 F7 E7 h8 (by omega)
  have E8 := sqL_e E7 h8
  have g8 := h8.1.1
  have A_8 := at_keep A_7 (opL_k h8)
  have B_8 := at_keep B_7 (opL_k h8)
  have C_8 := at_keep C_7 (opL_k h8)
  have D_8 := at_keep D_7 (opL_k h8)
  have G_8 := at_keep G_7 (opL_k h8)
  have H_8 := at_keep H_7 (opL_k h8)
  have W1_8 := at_keep W1_7 (opL_k h8)
  have W2_8 := at_keep W2_7 (opL_k h8)
  have W3_8 := at_keep W3_7 (opL_k h8)
  have W4_8 := at_keep W4_7 (opL_k h8)
  have W5_8 := at_keep W5_7 (opL_k h8)
  have W6_8 := at_keep W6_7 (opL_k h8)
  have W7_8 := at_keep W7_7 (opL_k h8)
  have R_8 := rd_keep R_7 (opL_k h8)
  have W8_8 := at_newL h8
  refine mm_skip (mm_call_mono _ _) 6 (st' := (174, [(5, .int (nI y7)), (4, .int (nI y3)), (3, .int (nI (12 + 12 * c))), (2, .int (nI (8 + 12 * c))), (0, .ref 0), (1, .int (nI k))], [.int (nI k), .ref 1, .ref 1], wC ov8 un8 (nI n8) (nI L.1) fa8 ((nI ra), (nI rb), (nI rc), (nI (8 + 12 * c)), (nI (12 + 12 * c)), (nI y7), (nI y8)) st fi se th db cn F, 0)) rfl ?_
  refine mm_inv (mm_call_mono _ _) (j := 46) (a := [.int (nI k)]) (M := wC ov8 un8 (nI n8) (nI L.1) fa8 ((nI ra), (nI rb), (nI rc), (nI (8 + 12 * c)), (nI (12 + 12 * c)), (nI y7), (nI y8)) st fi se th db cn F) (u := 0) rfl (by decide) (ct_C_squareOf ?_)
  show mm_W _ _ _ _ _ _ _ (177, [(5, .int (nI y7)), (4, .int (nI y3)), (3, .int (nI (12 + 12 * c))), (2, .int (nI (8 + 12 * c))), (0, .ref 0), (1, .int (nI k))], [.int (nI (8 + 12 * k)), .ref 1, .ref 1], wC ov8 un8 (nI n8) (nI L.1) fa8 ((nI ra), (nI rb), (nI rc), (nI (8 + 12 * c)), (nI (12 + 12 * c)), (nI y7), (nI y8)) st fi se th db cn F, 0)
  refine mm_skip (mm_call_mono _ _) 1 (st' := (179, [(5, .int (nI y7)), (4, .int (nI y3)), (3, .int (nI (12 + 12 * c))), (2, .int (nI (8 + 12 * c))), (0, .ref 0), (1, .int (nI k))], [.int (nI y3), .int (nI (8 + 12 * k)), .ref 1, .ref 1], wC ov8 un8 (nI n8) (nI L.1) fa8 ((nI ra), (nI rb), (nI rc), (nI (8 + 12 * c)), (nI (12 + 12 * c)), (nI y7), (nI y8)) st fi se th db cn F, 0)) rfl ?_
  refine mm_inv (mm_call_mono _ _) (j := 131) (a := [.ref 1, .int (nI (8 + 12 * k)), .int (nI y3)]) (M := wC ov8 un8 (nI n8) (nI L.1) fa8 ((nI ra), (nI rb), (nI rc), (nI (8 + 12 * c)), (nI (12 + 12 * c)), (nI y7), (nI y8)) st fi se th db cn F) (u := 0) rfl (by decide) (gw_times hl s8.2.1 s8.1 R_8 H_8 W3_8 (fun ov9 un9 n9 fa9 y9 h9 => ?_))
  show mm_W _ _ _ _ _ _ _ (182, [(5, .int (nI y7)), (4, .int (nI y3)), (3, .int (nI (12 + 12 * c))), (2, .int (nI (8 + 12 * c))), (0, .ref 0), (1, .int (nI k))], [.int (nI y9), .ref 1], wC ov9 un9 (nI n9) (nI L.1) fa9 ((nI ra), (nI rb), (nI rc), (nI (8 + 12 * c)), (nI (12 + 12 * c)), (nI y7), (nI y8)) st fi se th db cn F, 0)
  have s9 := stl_L s8 h9
  have F9 := sqL_f s8 F8 E8 h9 (by omega)
  have E9 := sqL_e E8 h9
  have g9 := h9.1.1
  have A_9 := at_keep A_8 (opL_k h9)
  have B_9 := at_keep B_8 (opL_k h9)
  have C_9 := at_keep C_8 (opL_k h9)
  have D_9 := at_keep D_8 (opL_k h9)
  have G_9 := at_keep G_8 (opL_k h9)
  have H_9 := at_keep H_8 (opL_k h9)
  have W1_9 := at_keep W1_8 (opL_k h9)
  have W2_9 := at_keep W2_8 (opL_k h9)
  have W3_9 := at_keep W3_8 (opL_k h9)
  have W4_9 := at_keep W4_8 (opL_k h9)
  have W5_9 := at_keep W5_8 (opL_k h9)
  have W6_9 := at_keep W6_8 (opL_k h9)
  have W7_9 := at_keep W7_8 (opL_k h9)
  have W8_9 := at_keep W8_8 (opL_k h9)
  have R_9 := rd_keep R_8 (opL_k h9)
  have W9_9 := at_newL h9
  refine mm_skip (mm_call_mono _ _) 4 (st' := (190, [(5, .int (nI y7)), (4, .int (nI y3)), (3, .int (nI (12 + 12 * c))), (2, .int (nI (8 + 12 * c))), (0, .ref 0), (1, .int (nI k))], [.int (nI y7), .int (nI y7), .ref 1, .int (nI y9), .ref 1], wC ov9 un9 (nI n9) (nI L.1) fa9 ((nI ra), (nI rb), (nI rc), (nI (8 + 12 * c)), (nI (12 + 12 * c)), (nI y7), (nI y8)) st fi se th db cn F, 0)) rfl ?_
  refine mm_inv (mm_call_mono _ _) (j := 131) (a := [.ref 1, .int (nI y7), .int (nI y7)]) (M := wC ov9 un9 (nI n9) (nI L.1) fa9 ((nI ra), (nI rb), (nI rc), (nI (8 + 12 * c)), (nI (12 + 12 * c)), (nI y7), (nI y8)) st fi se th db cn F) (u := 0) rfl (by decide) (gw_times hl s9.2.1 s9.1 R_9 W7_9 W7_9 (fun ov10 un10 n10 fa10 y10 h10 => ?_))
  show mm_W _ _ _ _ _ _ _ (193, [(5, .int (nI y7)), (4, .int (nI y3)), (3, .int (nI (12 + 12 * c))), (2, .int (nI (8 + 12 * c))), (0, .ref 0), (1, .int (nI k))], [.int (nI y10), .int (nI y9), .ref 1], wC ov10 un10 (nI n10) (nI L.1) fa10 ((nI ra), (nI rb), (nI rc), (nI (8 + 12 * c)), (nI (12 + 12 * c)), (nI y7), (nI y8)) st fi se th db cn F, 0)
  have s10 := stl_L s9 h10
  have F10 := sqL_f s9 F9 E9 h10 (by omega)
  have E10 := sqL_e E9 h10
  have g10 := h10.1.1
  have A_10 := at_keep A_9 (opL_k h10)
  have B_10 := at_keep B_9 (opL_k h10)
  have C_10 := at_keep C_9 (opL_k h10)
  have D_10 := at_keep D_9 (opL_k h10)
  have G_10 := at_keep G_9 (opL_k h10)
  have H_10 := at_keep H_9 (opL_k h10)
  have W1_10 := at_keep W1_9 (opL_k h10)
  have W2_10 := at_keep W2_9 (opL_k h10)
  have W3_10 := at_keep W3_9 (opL_k h10)
  have W4_10 := at_keep W4_9 (opL_k h10)
  have W5_10 := at_keep W5_9 (opL_k h10)
  have W6_10 := at_keep W6_9 (opL_k h10)
  have W7_10 := at_keep W7_9 (opL_k h10)
  have W8_10 := at_keep W8_9 (opL_k h10)
  have W9_10 := at_keep W9_9 (opL_k h10)
  have R_10 := rd_keep R_9 (opL_k h10)
  have W10_10 := at_newL h10
  refine mm_inv (mm_call_mono _ _) (j := 130) (a := [.ref 1, .int (nI y9), .int (nI y10)]) (M := wC ov10 un10 (nI n10) (nI L.1) fa10 ((nI ra), (nI rb), (nI rc), (nI (8 + 12 * c)), (nI (12 + 12 * c)), (nI y7), (nI y8)) st fi se th db cn F) (u := 0) rfl (by decide) (gw_minus hl s10.2.1 s10.1 W9_10 W10_10 (fun ov11 un11 n11 fa11 y11 h11 => ?_))
  show mm_W _ _ _ _ _ _ _ (196, [(5, .int (nI y7)), (4, .int (nI y3)), (3, .int (nI (12 + 12 * c))), (2, .int (nI (8 + 12 * c))), (0, .ref 0), (1, .int (nI k))], [.int (nI y11)], wC ov11 un11 (nI n11) (nI L.1) fa11 ((nI ra), (nI rb), (nI rc), (nI (8 + 12 * c)), (nI (12 + 12 * c)), (nI y7), (nI y8)) st fi se th db cn F, 0)
  have s11 := stl_L s10 h11
  have F11 := sqL_f s10 F10 E10 h11 (by omega)
  have E11 := sqL_e E10 h11
  have g11 := h11.1.1
  have A_11 := at_keep A_10 (opL_k h11)
  have B_11 := at_keep B_10 (opL_k h11)
  have C_11 := at_keep C_10 (opL_k h11)
  have D_11 := at_keep D_10 (opL_k h11)
  have G_11 := at_keep G_10 (opL_k h11)
  have H_11 := at_keep H_10 (opL_k h11)
  have W1_11 := at_keep W1_10 (opL_k h11)
  have W2_11 := at_keep W2_10 (opL_k h11)
  have W3_11 := at_keep W3_10 (opL_k h11)
  have W4_11 := at_keep W4_10 (opL_k h11)
  have W5_11 := at_keep W5_10 (opL_k h11)
  have W6_11 := at_keep W6_10 (opL_k h11)
  have W7_11 := at_keep W7_10 (opL_k h11)
  have W8_11 := at_keep W8_10 (opL_k h11)
  have W9_11 := at_keep W9_10 (opL_k h11)
  have W10_11 := at_keep W10_10 (opL_k h11)
  have R_11 := rd_keep R_10 (opL_k h11)
  have W11_11 := at_newL h11
  exact mm_ret (mm_call_mono _ _) (c := True) (r := .inl (some (.int (nI y11)))) (M := wC ov11 un11 (nI n11) (nI L.1) fa11 ((nI ra), (nI rb), (nI rc), (nI (8 + 12 * c)), (nI (12 + 12 * c)), (nI y7), (nI y8)) st fi se th db cn F) (u := 0) rfl trivial (by decide) (hQ _ _ _ _ _ _ _ _ _ _ ⟨s11, E11, F11, W7_11, W8_11, W11_11, g7, g8, g11⟩)

set_option maxRecDepth 100000 in
theorem gd_drawCut_0 {d : Nat} {ov un : Nat → Int32} {fa : Int32} {c2 : Int32} {st fi se th db : Nat → Int32} {cn : Int32} {F : mm_M} {ov0 un0 : Nat → Int32} {n w l c o ra rb re rm rr : Nat} {va vb x y ve vm vr : n4} {T : Option (o3 × lvR)} {L : lvR} {Q : mm_R → mm_M → Prop} (hl : L.1 ≤ 2) (ho : o < 24) (hc : c < o) (hra : ra + 4 ≤ 8 + 12 * o ∨ 308 ≤ ra) (hrb : rb + 4 ≤ 8 + 12 * o ∨ 308 ≤ rb) (hre : 308 ≤ re) (hrm : 308 ≤ rm) (hrr : 308 ≤ rr) (hth : th o = 0) (s0 : sto (zd l o) ov0 un0 w ov un n fa) (hw : w ≤ 900) (E0 : fa = 0 → T = mDraw L va vb x y ve vm vr true) (F0 : fa = 1 → T = none) (R : rdA ov un n fa L) (A : isAt ov un n fa 4 (ra) (g4 va)) (B : isAt ov un n fa 4 (rb) (g4 vb)) (C : isAt ov un n fa 4 (8 + 12 * c) (g4 x)) (D : isAt ov un n fa 4 (12 + 12 * c) (g4 y)) (G : isAt ov un n fa 4 (re) (g4 ve)) (H : isAt ov un n fa 4 (rm) (g4 vm)) (I : isAt ov un n fa 4 (rr) (g4 vr)) (hQ : ∀ (ov1 un1 : Nat → Int32) (n1 : Nat) (fa1 : Int32), drR ov0 un0 l o 2 T ov1 un1 n1 fa1 L → Q (.inl none) (wC ov1 un1 (nI n1) (nI L.1) fa1 ((nI ra), (nI rb), c2, (nI (8 + 12 * c)), (nI (12 + 12 * c)), (nI re), (nI rm)) st fi se th db cn F)) : mm_call mm_Tb (d + 7) 35 [.ref 0, .int (nI o), .int (nI rr)] (wC ov un (nI n) (nI L.1) fa ((nI ra), (nI rb), c2, (nI (8 + 12 * c)), (nI (12 + 12 * c)), (nI re), (nI rm)) st fi se th db cn F) Q := by
  have hZ : ∀ k, 8 + 12 * o ≤ k → k < 20 + 12 * o → zd l o k := fun k h1 h2 => Or.inr ⟨h1, h2⟩
  refine mm_in mt_35 (Nat.le_of_ble_eq_true rfl) ?_
  show mm_W _ _ _ _ _ _ _ (0, [(0, .ref 0), (1, .int (nI o)), (2, .int (nI rr))], [], wC ov un (nI n) (nI L.1) fa ((nI ra), (nI rb), c2, (nI (8 + 12 * c)), (nI (12 + 12 * c)), (nI re), (nI rm)) st fi se th db cn F, 0)
  refine mm_skip (mm_call_mono _ _) 8 (st' := (18, [(0, .ref 0), (1, .int (nI o)), (2, .int (nI rr))], [.int (nI rm), .int (nI re), .ref 1], wC ov un (nI n) (nI L.1) fa ((nI ra), (nI rb), c2, (nI (8 + 12 * c)), (nI (12 + 12 * c)), (nI re), (nI rm)) st fi se th db cn F, 0)) rfl ?_
  refine mm_inv (mm_call_mono _ _) (j := 131) (a := [.ref 1, .int (nI re), .int (nI rm)]) (M := wC ov un (nI n) (nI L.1) fa ((nI ra), (nI rb), c2, (nI (8 + 12 * c)), (nI (12 + 12 * c)), (nI re), (nI rm)) st fi se th db cn F) (u := 0) rfl (by decide) (gw_times hl s0.2.1 s0.1 R G H (fun ov1 un1 n1 fa1 y1 h1 => ?_))
  show mm_W _ _ _ _ _ _ _ (21, [(0, .ref 0), (1, .int (nI o)), (2, .int (nI rr))], [.int (nI y1)], wC ov1 un1 (nI n1) (nI L.1) fa1 ((nI ra), (nI rb), c2, (nI (8 + 12 * c)), (nI (12 + 12 * c)), (nI re), (nI rm)) st fi se th db cn F, 0)
  have s1 := sto_L s0 h1
  have F1 := sto_f s0 F0 E0 h1 (by omega)
  have E1 := sqL_e E0 h1
  have g1 := h1.1.1
  have A_1 := at_keep A (opL_k h1)
  have B_1 := at_keep B (opL_k h1)
  have C_1 := at_keep C (opL_k h1)
  have D_1 := at_keep D (opL_k h1)
  have G_1 := at_keep G (opL_k h1)
  have H_1 := at_keep H (opL_k h1)
  have I_1 := at_keep I (opL_k h1)
  have R_1 := rd_keep R (opL_k h1)
  have W1_1 := at_newL h1
  refine mm_skip (mm_call_mono _ _) 7 (st' := (34, [(3, .int (nI y1)), (0, .ref 0), (1, .int (nI o)), (2, .int (nI rr))], [.int (nI rm), .int (nI rr), .ref 1], wC ov1 un1 (nI n1) (nI L.1) fa1 ((nI ra), (nI rb), c2, (nI (8 + 12 * c)), (nI (12 + 12 * c)), (nI re), (nI rm)) st fi se th db cn F, 0)) rfl ?_
  refine mm_inv (mm_call_mono _ _) (j := 131) (a := [.ref 1, .int (nI rr), .int (nI rm)]) (M := wC ov1 un1 (nI n1) (nI L.1) fa1 ((nI ra), (nI rb), c2, (nI (8 + 12 * c)), (nI (12 + 12 * c)), (nI re), (nI rm)) st fi se th db cn F) (u := 0) rfl (by decide) (gw_times hl s1.2.1 s1.1 R_1 I_1 H_1 (fun ov2 un2 n2 fa2 y2 h2 => ?_))
  show mm_W _ _ _ _ _ _ _ (37, [(3, .int (nI y1)), (0, .ref 0), (1, .int (nI o)), (2, .int (nI rr))], [.int (nI y2)], wC ov2 un2 (nI n2) (nI L.1) fa2 ((nI ra), (nI rb), c2, (nI (8 + 12 * c)), (nI (12 + 12 * c)), (nI re), (nI rm)) st fi se th db cn F, 0)
  have s2 := sto_L s1 h2
  have F2 := sto_f s1 F1 E1 h2 (by omega)
  have E2 := sqL_e E1 h2
  have g2 := h2.1.1
  have A_2 := at_keep A_1 (opL_k h2)
  have B_2 := at_keep B_1 (opL_k h2)
  have C_2 := at_keep C_1 (opL_k h2)
  have D_2 := at_keep D_1 (opL_k h2)
  have G_2 := at_keep G_1 (opL_k h2)
  have H_2 := at_keep H_1 (opL_k h2)
  have I_2 := at_keep I_1 (opL_k h2)
  have W1_2 := at_keep W1_1 (opL_k h2)
  have R_2 := rd_keep R_1 (opL_k h2)
  have W2_2 := at_newL h2
  refine mm_skip (mm_call_mono _ _) 12 (st' := (62, [(4, .int (nI y2)), (3, .int (nI y1)), (0, .ref 0), (1, .int (nI o)), (2, .int (nI rr))], [.int (nI y1), .int (nI ra), .ref 1, .int (nI (8 + 12 * c)), .ref 1], wC ov2 un2 (nI n2) (nI L.1) fa2 ((nI ra), (nI rb), c2, (nI (8 + 12 * c)), (nI (12 + 12 * c)), (nI re), (nI rm)) st fi se th db cn F, 0)) rfl ?_
  refine mm_inv (mm_call_mono _ _) (j := 131) (a := [.ref 1, .int (nI ra), .int (nI y1)]) (M := wC ov2 un2 (nI n2) (nI L.1) fa2 ((nI ra), (nI rb), c2, (nI (8 + 12 * c)), (nI (12 + 12 * c)), (nI re), (nI rm)) st fi se th db cn F) (u := 0) rfl (by decide) (gw_times hl s2.2.1 s2.1 R_2 A_2 W1_2 (fun ov3 un3 n3 fa3 y3 h3 => ?_))
  show mm_W _ _ _ _ _ _ _ (65, [(4, .int (nI y2)), (3, .int (nI y1)), (0, .ref 0), (1, .int (nI o)), (2, .int (nI rr))], [.int (nI y3), .int (nI (8 + 12 * c)), .ref 1], wC ov3 un3 (nI n3) (nI L.1) fa3 ((nI ra), (nI rb), c2, (nI (8 + 12 * c)), (nI (12 + 12 * c)), (nI re), (nI rm)) st fi se th db cn F, 0)
  have s3 := sto_L s2 h3
  have F3 := sto_f s2 F2 E2 h3 (by omega)
  have E3 := sqL_e E2 h3
  have g3 := h3.1.1
  have A_3 := at_keep A_2 (opL_k h3)
  have B_3 := at_keep B_2 (opL_k h3)
  have C_3 := at_keep C_2 (opL_k h3)
  have D_3 := at_keep D_2 (opL_k h3)
  have G_3 := at_keep G_2 (opL_k h3)
  have H_3 := at_keep H_2 (opL_k h3)
  have I_3 := at_keep I_2 (opL_k h3)
  have W1_3 := at_keep W1_2 (opL_k h3)
  have W2_3 := at_keep W2_2 (opL_k h3)
  have R_3 := rd_keep R_2 (opL_k h3)
  have W3_3 := at_newL h3
  refine mm_inv (mm_call_mono _ _) (j := 129) (a := [.ref 1, .int (nI (8 + 12 * c)), .int (nI y3)]) (M := wC ov3 un3 (nI n3) (nI L.1) fa3 ((nI ra), (nI rb), c2, (nI (8 + 12 * c)), (nI (12 + 12 * c)), (nI re), (nI rm)) st fi se th db cn F) (u := 0) rfl (by decide) (gw_plus hl s3.2.1 s3.1 C_3 W3_3 (fun ov4 un4 n4 fa4 y4 h4 => ?_))
  show mm_W _ _ _ _ _ _ _ (68, [(4, .int (nI y2)), (3, .int (nI y1)), (0, .ref 0), (1, .int (nI o)), (2, .int (nI rr))], [.int (nI y4)], wC ov4 un4 (nI n4) (nI L.1) fa4 ((nI ra), (nI rb), c2, (nI (8 + 12 * c)), (nI (12 + 12 * c)), (nI re), (nI rm)) st fi se th db cn F, 0)
  have s4 := sto_L s3 h4
  have F4 := sto_f s3 F3 E3 h4 (by omega)
  have E4 := sqL_e E3 h4
  have g4 := h4.1.1
  have A_4 := at_keep A_3 (opL_k h4)
  have B_4 := at_keep B_3 (opL_k h4)
  have C_4 := at_keep C_3 (opL_k h4)
  have D_4 := at_keep D_3 (opL_k h4)
  have G_4 := at_keep G_3 (opL_k h4)
  have H_4 := at_keep H_3 (opL_k h4)
  have I_4 := at_keep I_3 (opL_k h4)
  have W1_4 := at_keep W1_3 (opL_k h4)
  have W2_4 := at_keep W2_3 (opL_k h4)
  have W3_4 := at_keep W3_3 (opL_k h4)
  have R_4 := rd_keep R_3 (opL_k h4)
  have W4_4 := at_newL h4
  refine mm_skip (mm_call_mono _ _) 12 (st' := (93, [(5, .int (nI y4)), (4, .int (nI y2)), (3, .int (nI y1)), (0, .ref 0), (1, .int (nI o)), (2, .int (nI rr))], [.int (nI y1), .int (nI rb), .ref 1, .int (nI (12 + 12 * c)), .ref 1], wC ov4 un4 (nI n4) (nI L.1) fa4 ((nI ra), (nI rb), c2, (nI (8 + 12 * c)), (nI (12 + 12 * c)), (nI re), (nI rm)) st fi se th db cn F, 0)) rfl ?_
  refine mm_inv (mm_call_mono _ _) (j := 131) (a := [.ref 1, .int (nI rb), .int (nI y1)]) (M := wC ov4 un4 (nI n4) (nI L.1) fa4 ((nI ra), (nI rb), c2, (nI (8 + 12 * c)), (nI (12 + 12 * c)), (nI re), (nI rm)) st fi se th db cn F) (u := 0) rfl (by decide) (gw_times hl s4.2.1 s4.1 R_4 B_4 W1_4 (fun ov5 un5 n5 fa5 y5 h5 => ?_))
  show mm_W _ _ _ _ _ _ _ (96, [(5, .int (nI y4)), (4, .int (nI y2)), (3, .int (nI y1)), (0, .ref 0), (1, .int (nI o)), (2, .int (nI rr))], [.int (nI y5), .int (nI (12 + 12 * c)), .ref 1], wC ov5 un5 (nI n5) (nI L.1) fa5 ((nI ra), (nI rb), c2, (nI (8 + 12 * c)), (nI (12 + 12 * c)), (nI re), (nI rm)) st fi se th db cn F, 0)
  have s5 := sto_L s4 h5
  have F5 := sto_f s4 F4 E4 h5 (by omega)
  have E5 := sqL_e E4 h5
  have g5 := h5.1.1
  have A_5 := at_keep A_4 (opL_k h5)
  have B_5 := at_keep B_4 (opL_k h5)
  have C_5 := at_keep C_4 (opL_k h5)
  have D_5 := at_keep D_4 (opL_k h5)
  have G_5 := at_keep G_4 (opL_k h5)
  have H_5 := at_keep H_4 (opL_k h5)
  have I_5 := at_keep I_4 (opL_k h5)
  have W1_5 := at_keep W1_4 (opL_k h5)
  have W2_5 := at_keep W2_4 (opL_k h5)
  have W3_5 := at_keep W3_4 (opL_k h5)
  have W4_5 := at_keep W4_4 (opL_k h5)
  have R_5 := rd_keep R_4 (opL_k h5)
  have W5_5 := at_newL h5
  refine mm_inv (mm_call_mono _ _) (j := 129) (a := [.ref 1, .int (nI (12 + 12 * c)), .int (nI y5)]) (M := wC ov5 un5 (nI n5) (nI L.1) fa5 ((nI ra), (nI rb), c2, (nI (8 + 12 * c)), (nI (12 + 12 * c)), (nI re), (nI rm)) st fi se th db cn F) (u := 0) rfl (by decide) (gw_plus hl s5.2.1 s5.1 D_5 W5_5 (fun ov6 un6 n6 fa6 y6 h6 => ?_))
  show mm_W _ _ _ _ _ _ _ (99, [(5, .int (nI y4)), (4, .int (nI y2)), (3, .int (nI y1)), (0, .ref 0), (1, .int (nI o)), (2, .int (nI rr))], [.int (nI y6)], wC ov6 un6 (nI n6) (nI L.1) fa6 ((nI ra), (nI rb), c2, (nI (8 + 12 * c)), (nI (12 + 12 * c)), (nI re), (nI rm)) st fi se th db cn F, 0)
  have s6 := sto_L s5 h6
  have F6 := sto_f s5 F5 E5 h6 (by omega)
  have E6 := sqL_e E5 h6
  have g6 := h6.1.1
  have A_6 := at_keep A_5 (opL_k h6)
  have B_6 := at_keep B_5 (opL_k h6)
  have C_6 := at_keep C_5 (opL_k h6)
  have D_6 := at_keep D_5 (opL_k h6)
  have G_6 := at_keep G_5 (opL_k h6)
  have H_6 := at_keep H_5 (opL_k h6)
  have I_6 := at_keep I_5 (opL_k h6)
  have W1_6 := at_keep W1_5 (opL_k h6)
  have W2_6 := at_keep W2_5 (opL_k h6)
  have W3_6 := at_keep W3_5 (opL_k h6)
  have W4_6 := at_keep W4_5 (opL_k h6)
  have W5_6 := at_keep W5_5 (opL_k h6)
  have R_6 := rd_keep R_5 (opL_k h6)
  have W6_6 := at_newL h6
  refine mm_skip (mm_call_mono _ _) 8 (st' := (116, [(6, .int (nI y6)), (5, .int (nI y4)), (4, .int (nI y2)), (3, .int (nI y1)), (0, .ref 0), (1, .int (nI o)), (2, .int (nI rr))], [.int (nI rb), .ref 1, .ref 1], wC ov6 un6 (nI n6) (nI L.1) fa6 ((nI ra), (nI rb), c2, (nI (8 + 12 * c)), (nI (12 + 12 * c)), (nI re), (nI rm)) st fi se th db cn F, 0)) rfl ?_
  refine mm_inv (mm_call_mono _ _) (j := 132) (a := [.ref 1, .int (nI rb)]) (M := wC ov6 un6 (nI n6) (nI L.1) fa6 ((nI ra), (nI rb), c2, (nI (8 + 12 * c)), (nI (12 + 12 * c)), (nI re), (nI rm)) st fi se th db cn F) (u := 0) rfl (by decide) (gw_negated hl s6.2.1 s6.1 B_6 (fun ov7 un7 n7 fa7 y7 h7 => ?_))
  show mm_W _ _ _ _ _ _ _ (119, [(6, .int (nI y6)), (5, .int (nI y4)), (4, .int (nI y2)), (3, .int (nI y1)), (0, .ref 0), (1, .int (nI o)), (2, .int (nI rr))], [.int (nI y7), .ref 1], wC ov7 un7 (nI n7) (nI L.1) fa7 ((nI ra), (nI rb), c2, (nI (8 + 12 * c)), (nI (12 + 12 * c)), (nI re), (nI rm)) st fi se th db cn F, 0)
  have s7 := sto_L s6 h7
  have F7 := sto_f s6 F6 E6 h7 (by omega)
  have E7 := sqL_e E6 h7
  have g7 := h7.1.1
  have A_7 := at_keep A_6 (opL_k h7)
  have B_7 := at_keep B_6 (opL_k h7)
  have C_7 := at_keep C_6 (opL_k h7)
  have D_7 := at_keep D_6 (opL_k h7)
  have G_7 := at_keep G_6 (opL_k h7)
  have H_7 := at_keep H_6 (opL_k h7)
  have I_7 := at_keep I_6 (opL_k h7)
  have W1_7 := at_keep W1_6 (opL_k h7)
  have W2_7 := at_keep W2_6 (opL_k h7)
  have W3_7 := at_keep W3_6 (opL_k h7)
  have W4_7 := at_keep W4_6 (opL_k h7)
  have W5_7 := at_keep W5_6 (opL_k h7)
  have W6_7 := at_keep W6_6 (opL_k h7)
  have R_7 := rd_keep R_6 (opL_k h7)
  have W7_7 := at_newL h7
  refine mm_skip (mm_call_mono _ _) 1 (st' := (121, [(6, .int (nI y6)), (5, .int (nI y4)), (4, .int (nI y2)), (3, .int (nI y1)), (0, .ref 0), (1, .int (nI o)), (2, .int (nI rr))], [.int (nI y2), .int (nI y7), .ref 1], wC ov7 un7 (nI n7) (nI L.1) fa7 ((nI ra), (nI rb), c2, (nI (8 + 12 * c)), (nI (12 + 12 * c)), (nI re), (nI rm)) st fi se th db cn F, 0)) rfl ?_
  refine mm_inv (mm_call_mono _ _) (j := 131) (a := [.ref 1, .int (nI y7), .int (nI y2)]) (M := wC ov7 un7 (nI n7) (nI L.1) fa7 ((nI ra), (nI rb), c2, (nI (8 + 12 * c)), (nI (12 + 12 * c)), (nI re), (nI rm)) st fi se th db cn F) (u := 0) rfl (by decide) (gw_times hl s7.2.1 s7.1 R_7 W7_7 W2_7 (fun ov8 un8 n8 fa8 y8 h8 => ?_))
  show mm_W _ _ _ _ _ _ _ (124, [(6, .int (nI y6)), (5, .int (nI y4)), (4, .int (nI y2)), (3, .int (nI y1)), (0, .ref 0), (1, .int (nI o)), (2, .int (nI rr))], [.int (nI y8)], wC ov8 un8 (nI n8) (nI L.1) fa8 ((nI ra), (nI rb), c2, (nI (8 + 12 * c)), (nI (12 + 12 * c)), (nI re), (nI rm)) st fi se th db cn F, 0)
  have s8 := sto_L s7 h8
  have F8 := sto_f s7 F7 E7 h8 (by omega)
  have E8 := sqL_e E7 h8
  have g8 := h8.1.1
  have A_8 := at_keep A_7 (opL_k h8)
  have B_8 := at_keep B_7 (opL_k h8)
  have C_8 := at_keep C_7 (opL_k h8)
  have D_8 := at_keep D_7 (opL_k h8)
  have G_8 := at_keep G_7 (opL_k h8)
  have H_8 := at_keep H_7 (opL_k h8)
  have I_8 := at_keep I_7 (opL_k h8)
  have W1_8 := at_keep W1_7 (opL_k h8)
  have W2_8 := at_keep W2_7 (opL_k h8)
  have W3_8 := at_keep W3_7 (opL_k h8)
  have W4_8 := at_keep W4_7 (opL_k h8)
  have W5_8 := at_keep W5_7 (opL_k h8)
  have W6_8 := at_keep W6_7 (opL_k h8)
  have W7_8 := at_keep W7_7 (opL_k h8)
  have R_8 := rd_keep R_7 (opL_k h8)
  have W8_8 := at_newL h8
  refine mm_skip (mm_call_mono _ _) 7 (st' := (139, [(7, .int (nI y8)), (6, .int (nI y6)), (5, .int (nI y4)), (4, .int (nI y2)), (3, .int (nI y1)), (0, .ref 0), (1, .int (nI o)), (2, .int (nI rr))], [.int (nI y2), .int (nI ra), .ref 1], wC ov8 un8 (nI n8) (nI L.1) fa8 ((nI ra), (nI rb), c2, (nI (8 + 12 * c)), (nI (12 + 12 * c)), (nI re), (nI rm)) st fi se th db cn F, 0)) rfl ?_
  refine mm_inv (mm_call_mono _ _) (j := 131) (a := [.ref 1, .int (nI ra), .int (nI y2)]) (M := wC ov8 un8 (nI n8) (nI L.1) fa8 ((nI ra), (nI rb), c2, (nI (8 + 12 * c)), (nI (12 + 12 * c)), (nI re), (nI rm)) st fi se th db cn F) (u := 0) rfl (by decide) (gw_times hl s8.2.1 s8.1 R_8 A_8 W2_8 (fun ov9 un9 n9 fa9 y9 h9 => ?_))
  show mm_W _ _ _ _ _ _ _ (142, [(7, .int (nI y8)), (6, .int (nI y6)), (5, .int (nI y4)), (4, .int (nI y2)), (3, .int (nI y1)), (0, .ref 0), (1, .int (nI o)), (2, .int (nI rr))], [.int (nI y9)], wC ov9 un9 (nI n9) (nI L.1) fa9 ((nI ra), (nI rb), c2, (nI (8 + 12 * c)), (nI (12 + 12 * c)), (nI re), (nI rm)) st fi se th db cn F, 0)
  have s9 := sto_L s8 h9
  have F9 := sto_f s8 F8 E8 h9 (by omega)
  have E9 := sqL_e E8 h9
  have g9 := h9.1.1
  have A_9 := at_keep A_8 (opL_k h9)
  have B_9 := at_keep B_8 (opL_k h9)
  have C_9 := at_keep C_8 (opL_k h9)
  have D_9 := at_keep D_8 (opL_k h9)
  have G_9 := at_keep G_8 (opL_k h9)
  have H_9 := at_keep H_8 (opL_k h9)
  have I_9 := at_keep I_8 (opL_k h9)
  have W1_9 := at_keep W1_8 (opL_k h9)
  have W2_9 := at_keep W2_8 (opL_k h9)
  have W3_9 := at_keep W3_8 (opL_k h9)
  have W4_9 := at_keep W4_8 (opL_k h9)
  have W5_9 := at_keep W5_8 (opL_k h9)
  have W6_9 := at_keep W6_8 (opL_k h9)
  have W7_9 := at_keep W7_8 (opL_k h9)
  have W8_9 := at_keep W8_8 (opL_k h9)
  have R_9 := rd_keep R_8 (opL_k h9)
  have W9_9 := at_newL h9
  refine mm_skip (mm_call_mono _ _) 4 (st' := (149, [(8, .int (nI y9)), (7, .int (nI y8)), (6, .int (nI y6)), (5, .int (nI y4)), (4, .int (nI y2)), (3, .int (nI y1)), (0, .ref 0), (1, .int (nI o)), (2, .int (nI rr))], [.int (nI o), .ref 6], wC ov9 un9 (nI n9) (nI L.1) fa9 ((nI ra), (nI rb), c2, (nI (8 + 12 * c)), (nI (12 + 12 * c)), (nI re), (nI rm)) st fi se th db cn F, 0)) rfl ?_
  refine mm_need (mm_call_mono _ _) (c := vp_in (nI o) 24) (s' := (150, [(8, .int (nI y9)), (7, .int (nI y8)), (6, .int (nI y6)), (5, .int (nI y4)), (4, .int (nI y2)), (3, .int (nI y1)), (0, .ref 0), (1, .int (nI o)), (2, .int (nI rr))], [.int (th (Int32.toNatClampNeg (nI o)))], wC ov9 un9 (nI n9) (nI L.1) fa9 ((nI ra), (nI rb), c2, (nI (8 + 12 * c)), (nI (12 + 12 * c)), (nI re), (nI rm)) st fi se th db cn F, 0)) rfl (vp_in_nI (show o < 24 by omega) (by decide)) ?_
  rw [nI_clamp (show o < 2 ^ 31 by omega)]
  show mm_W _ _ _ _ _ _ _ (150, [(8, .int (nI y9)), (7, .int (nI y8)), (6, .int (nI y6)), (5, .int (nI y4)), (4, .int (nI y2)), (3, .int (nI y1)), (0, .ref 0), (1, .int (nI o)), (2, .int (nI rr))], [.int (th o)], wC ov9 un9 (nI n9) (nI L.1) fa9 ((nI ra), (nI rb), c2, (nI (8 + 12 * c)), (nI (12 + 12 * c)), (nI re), (nI rm)) st fi se th db cn F, 0)
  refine mm_branch (mm_call_mono _ _) (c := (th o) = 0) (s1 := (153, [(8, .int (nI y9)), (7, .int (nI y8)), (6, .int (nI y6)), (5, .int (nI y4)), (4, .int (nI y2)), (3, .int (nI y1)), (0, .ref 0), (1, .int (nI o)), (2, .int (nI rr))], [], wC ov9 un9 (nI n9) (nI L.1) fa9 ((nI ra), (nI rb), c2, (nI (8 + 12 * c)), (nI (12 + 12 * c)), (nI re), (nI rm)) st fi se th db cn F, 0)) (s2 := (157, [(8, .int (nI y9)), (7, .int (nI y8)), (6, .int (nI y6)), (5, .int (nI y4)), (4, .int (nI y2)), (3, .int (nI y1)), (0, .ref 0), (1, .int (nI o)), (2, .int (nI rr))], [], wC ov9 un9 (nI n9) (nI L.1) fa9 ((nI ra), (nI rb), c2, (nI (8 + 12 * c)), (nI (12 + 12 * c)), (nI re), (nI rm)) st fi se th db cn F, 0)) rfl (fun _ => ?_) (fun h => absurd hth h)
  refine mm_skip (mm_call_mono _ _) 6 (st' := (166, [(9, .int 1), (8, .int (nI y9)), (7, .int (nI y8)), (6, .int (nI y6)), (5, .int (nI y4)), (4, .int (nI y2)), (3, .int (nI y1)), (0, .ref 0), (1, .int (nI o)), (2, .int (nI rr))], [.int 1, .ref 1], wC ov9 un9 (nI n9) (nI L.1) fa9 ((nI ra), (nI rb), c2, (nI (8 + 12 * c)), (nI (12 + 12 * c)), (nI re), (nI rm)) st fi se th db cn F, 0)) rfl ?_
  refine mm_branch (mm_call_mono _ _) (c := (1 : Int32) = 0) (s1 := (183, [(9, .int 1), (8, .int (nI y9)), (7, .int (nI y8)), (6, .int (nI y6)), (5, .int (nI y4)), (4, .int (nI y2)), (3, .int (nI y1)), (0, .ref 0), (1, .int (nI o)), (2, .int (nI rr))], [.ref 1], wC ov9 un9 (nI n9) (nI L.1) fa9 ((nI ra), (nI rb), c2, (nI (8 + 12 * c)), (nI (12 + 12 * c)), (nI re), (nI rm)) st fi se th db cn F, 0)) (s2 := (169, [(9, .int 1), (8, .int (nI y9)), (7, .int (nI y8)), (6, .int (nI y6)), (5, .int (nI y4)), (4, .int (nI y2)), (3, .int (nI y1)), (0, .ref 0), (1, .int (nI o)), (2, .int (nI rr))], [.ref 1], wC ov9 un9 (nI n9) (nI L.1) fa9 ((nI ra), (nI rb), c2, (nI (8 + 12 * c)), (nI (12 + 12 * c)), (nI re), (nI rm)) st fi se th db cn F, 0)) rfl (fun h => absurd h (by decide)) (fun _ => ?_)
  refine mm_skip (mm_call_mono _ _) 4 (st' := (177, [(9, .int 1), (8, .int (nI y9)), (7, .int (nI y8)), (6, .int (nI y6)), (5, .int (nI y4)), (4, .int (nI y2)), (3, .int (nI y1)), (0, .ref 0), (1, .int (nI o)), (2, .int (nI rr))], [.int (nI y8), .int (nI y4), .ref 1, .ref 1], wC ov9 un9 (nI n9) (nI L.1) fa9 ((nI ra), (nI rb), c2, (nI (8 + 12 * c)), (nI (12 + 12 * c)), (nI re), (nI rm)) st fi se th db cn F, 0)) rfl ?_
  refine mm_inv (mm_call_mono _ _) (j := 130) (a := [.ref 1, .int (nI y4), .int (nI y8)]) (M := wC ov9 un9 (nI n9) (nI L.1) fa9 ((nI ra), (nI rb), c2, (nI (8 + 12 * c)), (nI (12 + 12 * c)), (nI re), (nI rm)) st fi se th db cn F) (u := 0) rfl (by decide) (gw_minus hl s9.2.1 s9.1 W4_9 W8_9 (fun ov10 un10 n10 fa10 y10 h10 => ?_))
  show mm_W _ _ _ _ _ _ _ (180, [(9, .int 1), (8, .int (nI y9)), (7, .int (nI y8)), (6, .int (nI y6)), (5, .int (nI y4)), (4, .int (nI y2)), (3, .int (nI y1)), (0, .ref 0), (1, .int (nI o)), (2, .int (nI rr))], [.int (nI y10), .ref 1], wC ov10 un10 (nI n10) (nI L.1) fa10 ((nI ra), (nI rb), c2, (nI (8 + 12 * c)), (nI (12 + 12 * c)), (nI re), (nI rm)) st fi se th db cn F, 0)
  have s10 := sto_L s9 h10
  have F10 := sto_f s9 F9 E9 h10 (by omega)
  have E10 := sqL_e E9 h10
  have g10 := h10.1.1
  have A_10 := at_keep A_9 (opL_k h10)
  have B_10 := at_keep B_9 (opL_k h10)
  have C_10 := at_keep C_9 (opL_k h10)
  have D_10 := at_keep D_9 (opL_k h10)
  have G_10 := at_keep G_9 (opL_k h10)
  have H_10 := at_keep H_9 (opL_k h10)
  have I_10 := at_keep I_9 (opL_k h10)
  have W1_10 := at_keep W1_9 (opL_k h10)
  have W2_10 := at_keep W2_9 (opL_k h10)
  have W3_10 := at_keep W3_9 (opL_k h10)
  have W4_10 := at_keep W4_9 (opL_k h10)
  have W5_10 := at_keep W5_9 (opL_k h10)
  have W6_10 := at_keep W6_9 (opL_k h10)
  have W7_10 := at_keep W7_9 (opL_k h10)
  have W8_10 := at_keep W8_9 (opL_k h10)
  have W9_10 := at_keep W9_9 (opL_k h10)
  have R_10 := rd_keep R_9 (opL_k h10)
  have W10_10 := at_newL h10
  refine mm_skip (mm_call_mono _ _) 2 (st' := (195, [(9, .int 1), (8, .int (nI y9)), (7, .int (nI y8)), (6, .int (nI y6)), (5, .int (nI y4)), (4, .int (nI y2)), (3, .int (nI y1)), (0, .ref 0), (1, .int (nI o)), (2, .int (nI rr))], [.int (nI o), .int (nI y10), .ref 1], wC ov10 un10 (nI n10) (nI L.1) fa10 ((nI ra), (nI rb), c2, (nI (8 + 12 * c)), (nI (12 + 12 * c)), (nI re), (nI rm)) st fi se th db cn F, 0)) rfl ?_
  refine mm_inv (mm_call_mono _ _) (j := 41) (a := [.int (nI o)]) (M := wC ov10 un10 (nI n10) (nI L.1) fa10 ((nI ra), (nI rb), c2, (nI (8 + 12 * c)), (nI (12 + 12 * c)), (nI re), (nI rm)) st fi se th db cn F) (u := 0) rfl (by decide) (ct_C_xOf ?_)
  show mm_W _ _ _ _ _ _ _ (198, [(9, .int 1), (8, .int (nI y9)), (7, .int (nI y8)), (6, .int (nI y6)), (5, .int (nI y4)), (4, .int (nI y2)), (3, .int (nI y1)), (0, .ref 0), (1, .int (nI o)), (2, .int (nI rr))], [.int (nI (8 + 12 * o)), .int (nI y10), .ref 1], wC ov10 un10 (nI n10) (nI L.1) fa10 ((nI ra), (nI rb), c2, (nI (8 + 12 * c)), (nI (12 + 12 * c)), (nI re), (nI rm)) st fi se th db cn F, 0)
  refine mm_inv (mm_call_mono _ _) (j := 124) (a := [.ref 1, .int (nI y10), .int (nI (8 + 12 * o))]) (M := wC ov10 un10 (nI n10) (nI L.1) fa10 ((nI ra), (nI rb), c2, (nI (8 + 12 * c)), (nI (12 + 12 * c)), (nI re), (nI rm)) st fi se th db cn F) (u := 0) rfl (by decide) (gw_copy (x := y10) (y := 8 + 12 * o) W10_10.1.1 (by omega) (fun ov11 un11 c11 => ?_))
  show mm_W _ _ _ _ _ _ _ (201, [(9, .int 1), (8, .int (nI y9)), (7, .int (nI y8)), (6, .int (nI y6)), (5, .int (nI y4)), (4, .int (nI y2)), (3, .int (nI y1)), (0, .ref 0), (1, .int (nI o)), (2, .int (nI rr))], [], wC ov11 un11 (nI n10) (nI L.1) fa10 ((nI ra), (nI rb), c2, (nI (8 + 12 * c)), (nI (12 + 12 * c)), (nI re), (nI rm)) st fi se th db cn F, 0)
  have s11 := sto_cp s10 c11 (fun k q1 q2 => hZ k (by omega) (by omega))
  have F11 := F10
  have E11 := E10
  have A_11 := at_cp A_10 c11 (by omega)
  have B_11 := at_cp B_10 c11 (by omega)
  have C_11 := at_cp C_10 c11 (by omega)
  have D_11 := at_cp D_10 c11 (by omega)
  have G_11 := at_cp G_10 c11 (by omega)
  have H_11 := at_cp H_10 c11 (by omega)
  have I_11 := at_cp I_10 c11 (by omega)
  have W1_11 := at_cp W1_10 c11 (by omega)
  have W2_11 := at_cp W2_10 c11 (by omega)
  have W3_11 := at_cp W3_10 c11 (by omega)
  have W4_11 := at_cp W4_10 c11 (by omega)
  have W5_11 := at_cp W5_10 c11 (by omega)
  have W6_11 := at_cp W6_10 c11 (by omega)
  have W7_11 := at_cp W7_10 c11 (by omega)
  have W8_11 := at_cp W8_10 c11 (by omega)
  have W9_11 := at_cp W9_10 c11 (by omega)
  have W10_11 := at_cp W10_10 c11 (by omega)
  have R_11 := rd_cp R_10 c11 (by omega)
  have K11_11 := at_cn W10_10 c11 (by omega) s10.1.1
  refine mm_skip (mm_call_mono _ _) 3 (st' := (207, [(9, .int 1), (8, .int (nI y9)), (7, .int (nI y8)), (6, .int (nI y6)), (5, .int (nI y4)), (4, .int (nI y2)), (3, .int (nI y1)), (0, .ref 0), (1, .int (nI o)), (2, .int (nI rr))], [.int 1, .ref 1], wC ov11 un11 (nI n10) (nI L.1) fa10 ((nI ra), (nI rb), c2, (nI (8 + 12 * c)), (nI (12 + 12 * c)), (nI re), (nI rm)) st fi se th db cn F, 0)) rfl ?_
  refine mm_branch (mm_call_mono _ _) (c := (1 : Int32) = 0) (s1 := (224, [(9, .int 1), (8, .int (nI y9)), (7, .int (nI y8)), (6, .int (nI y6)), (5, .int (nI y4)), (4, .int (nI y2)), (3, .int (nI y1)), (0, .ref 0), (1, .int (nI o)), (2, .int (nI rr))], [.ref 1], wC ov11 un11 (nI n10) (nI L.1) fa10 ((nI ra), (nI rb), c2, (nI (8 + 12 * c)), (nI (12 + 12 * c)), (nI re), (nI rm)) st fi se th db cn F, 0)) (s2 := (210, [(9, .int 1), (8, .int (nI y9)), (7, .int (nI y8)), (6, .int (nI y6)), (5, .int (nI y4)), (4, .int (nI y2)), (3, .int (nI y1)), (0, .ref 0), (1, .int (nI o)), (2, .int (nI rr))], [.ref 1], wC ov11 un11 (nI n10) (nI L.1) fa10 ((nI ra), (nI rb), c2, (nI (8 + 12 * c)), (nI (12 + 12 * c)), (nI re), (nI rm)) st fi se th db cn F, 0)) rfl (fun h => absurd h (by decide)) (fun _ => ?_)
  refine mm_skip (mm_call_mono _ _) 4 (st' := (218, [(9, .int 1), (8, .int (nI y9)), (7, .int (nI y8)), (6, .int (nI y6)), (5, .int (nI y4)), (4, .int (nI y2)), (3, .int (nI y1)), (0, .ref 0), (1, .int (nI o)), (2, .int (nI rr))], [.int (nI y9), .int (nI y6), .ref 1, .ref 1], wC ov11 un11 (nI n10) (nI L.1) fa10 ((nI ra), (nI rb), c2, (nI (8 + 12 * c)), (nI (12 + 12 * c)), (nI re), (nI rm)) st fi se th db cn F, 0)) rfl ?_
  refine mm_inv (mm_call_mono _ _) (j := 130) (a := [.ref 1, .int (nI y6), .int (nI y9)]) (M := wC ov11 un11 (nI n10) (nI L.1) fa10 ((nI ra), (nI rb), c2, (nI (8 + 12 * c)), (nI (12 + 12 * c)), (nI re), (nI rm)) st fi se th db cn F) (u := 0) rfl (by decide) (gw_minus hl s11.2.1 s11.1 W6_11 W9_11 (fun ov12 un12 n12 fa12 y12 h12 => ?_))
  show mm_W _ _ _ _ _ _ _ (221, [(9, .int 1), (8, .int (nI y9)), (7, .int (nI y8)), (6, .int (nI y6)), (5, .int (nI y4)), (4, .int (nI y2)), (3, .int (nI y1)), (0, .ref 0), (1, .int (nI o)), (2, .int (nI rr))], [.int (nI y12), .ref 1], wC ov12 un12 (nI n12) (nI L.1) fa12 ((nI ra), (nI rb), c2, (nI (8 + 12 * c)), (nI (12 + 12 * c)), (nI re), (nI rm)) st fi se th db cn F, 0)
  have s12 := sto_L s11 h12
  have F12 := sto_f s11 F11 E11 h12 (by omega)
  have E12 := sqL_e E11 h12
  have g12 := h12.1.1
  have A_12 := at_keep A_11 (opL_k h12)
  have B_12 := at_keep B_11 (opL_k h12)
  have C_12 := at_keep C_11 (opL_k h12)
  have D_12 := at_keep D_11 (opL_k h12)
  have G_12 := at_keep G_11 (opL_k h12)
  have H_12 := at_keep H_11 (opL_k h12)
  have I_12 := at_keep I_11 (opL_k h12)
  have W1_12 := at_keep W1_11 (opL_k h12)
  have W2_12 := at_keep W2_11 (opL_k h12)
  have W3_12 := at_keep W3_11 (opL_k h12)
  have W4_12 := at_keep W4_11 (opL_k h12)
  have W5_12 := at_keep W5_11 (opL_k h12)
  have W6_12 := at_keep W6_11 (opL_k h12)
  have W7_12 := at_keep W7_11 (opL_k h12)
  have W8_12 := at_keep W8_11 (opL_k h12)
  have W9_12 := at_keep W9_11 (opL_k h12)
  have W10_12 := at_keep W10_11 (opL_k h12)
  have K11_12 := at_keep K11_11 (opL_k h12)
  have R_12 := rd_keep R_11 (opL_k h12)
  have W12_12 := at_newL h12
  refine mm_skip (mm_call_mono _ _) 2 (st' := (236, [(9, .int 1), (8, .int (nI y9)), (7, .int (nI y8)), (6, .int (nI y6)), (5, .int (nI y4)), (4, .int (nI y2)), (3, .int (nI y1)), (0, .ref 0), (1, .int (nI o)), (2, .int (nI rr))], [.int (nI o), .int (nI y12), .ref 1], wC ov12 un12 (nI n12) (nI L.1) fa12 ((nI ra), (nI rb), c2, (nI (8 + 12 * c)), (nI (12 + 12 * c)), (nI re), (nI rm)) st fi se th db cn F, 0)) rfl ?_
  refine mm_inv (mm_call_mono _ _) (j := 42) (a := [.int (nI o)]) (M := wC ov12 un12 (nI n12) (nI L.1) fa12 ((nI ra), (nI rb), c2, (nI (8 + 12 * c)), (nI (12 + 12 * c)), (nI re), (nI rm)) st fi se th db cn F) (u := 0) rfl (by decide) (ct_C_yOf ?_)
  show mm_W _ _ _ _ _ _ _ (239, [(9, .int 1), (8, .int (nI y9)), (7, .int (nI y8)), (6, .int (nI y6)), (5, .int (nI y4)), (4, .int (nI y2)), (3, .int (nI y1)), (0, .ref 0), (1, .int (nI o)), (2, .int (nI rr))], [.int (nI (12 + 12 * o)), .int (nI y12), .ref 1], wC ov12 un12 (nI n12) (nI L.1) fa12 ((nI ra), (nI rb), c2, (nI (8 + 12 * c)), (nI (12 + 12 * c)), (nI re), (nI rm)) st fi se th db cn F, 0)
  refine mm_inv (mm_call_mono _ _) (j := 124) (a := [.ref 1, .int (nI y12), .int (nI (12 + 12 * o))]) (M := wC ov12 un12 (nI n12) (nI L.1) fa12 ((nI ra), (nI rb), c2, (nI (8 + 12 * c)), (nI (12 + 12 * c)), (nI re), (nI rm)) st fi se th db cn F) (u := 0) rfl (by decide) (gw_copy (x := y12) (y := 12 + 12 * o) W12_12.1.1 (by omega) (fun ov13 un13 c13 => ?_))
  show mm_W _ _ _ _ _ _ _ (242, [(9, .int 1), (8, .int (nI y9)), (7, .int (nI y8)), (6, .int (nI y6)), (5, .int (nI y4)), (4, .int (nI y2)), (3, .int (nI y1)), (0, .ref 0), (1, .int (nI o)), (2, .int (nI rr))], [], wC ov13 un13 (nI n12) (nI L.1) fa12 ((nI ra), (nI rb), c2, (nI (8 + 12 * c)), (nI (12 + 12 * c)), (nI re), (nI rm)) st fi se th db cn F, 0)
  have s13 := sto_cp s12 c13 (fun k q1 q2 => hZ k (by omega) (by omega))
  have F13 := F12
  have E13 := E12
  have A_13 := at_cp A_12 c13 (by omega)
  have B_13 := at_cp B_12 c13 (by omega)
  have C_13 := at_cp C_12 c13 (by omega)
  have D_13 := at_cp D_12 c13 (by omega)
  have G_13 := at_cp G_12 c13 (by omega)
  have H_13 := at_cp H_12 c13 (by omega)
  have I_13 := at_cp I_12 c13 (by omega)
  have W1_13 := at_cp W1_12 c13 (by omega)
  have W2_13 := at_cp W2_12 c13 (by omega)
  have W3_13 := at_cp W3_12 c13 (by omega)
  have W4_13 := at_cp W4_12 c13 (by omega)
  have W5_13 := at_cp W5_12 c13 (by omega)
  have W6_13 := at_cp W6_12 c13 (by omega)
  have W7_13 := at_cp W7_12 c13 (by omega)
  have W8_13 := at_cp W8_12 c13 (by omega)
  have W9_13 := at_cp W9_12 c13 (by omega)
  have W10_13 := at_cp W10_12 c13 (by omega)
  have K11_13 := at_cp K11_12 c13 (by omega)
  have W12_13 := at_cp W12_12 c13 (by omega)
  have R_13 := rd_cp R_12 c13 (by omega)
  have K13_13 := at_cn W12_12 c13 (by omega) s12.1.1
  exact mm_ret (mm_call_mono _ _) (c := True) (r := .inl none) (M := wC ov13 un13 (nI n12) (nI L.1) fa12 ((nI ra), (nI rb), c2, (nI (8 + 12 * c)), (nI (12 + 12 * c)), (nI re), (nI rm)) st fi se th db cn F) (u := 0) rfl trivial (by decide) (hQ _ _ _ _ (dr_of s13 hl R_13 E13 F13 (fun h0 => ⟨kp_at K11_13 h0, fun _ => kp_at K13_13 h0, fun q => absurd q (by decide)⟩)))

set_option maxRecDepth 100000 in
theorem gd_drawCut_1 {d : Nat} {ov un : Nat → Int32} {fa : Int32} {c2 : Int32} {st fi se th db : Nat → Int32} {cn : Int32} {F : mm_M} {ov0 un0 : Nat → Int32} {n w l c o ra rb re rm rr : Nat} {va vb x y ve vm vr : n4} {T : Option (o3 × lvR)} {L : lvR} {Q : mm_R → mm_M → Prop} (hl : L.1 ≤ 2) (ho : o < 24) (hc : c < o) (hra : ra + 4 ≤ 8 + 12 * o ∨ 308 ≤ ra) (hrb : rb + 4 ≤ 8 + 12 * o ∨ 308 ≤ rb) (hre : 308 ≤ re) (hrm : 308 ≤ rm) (hrr : 308 ≤ rr) (hth : ¬ th o = 0) (s0 : sto (zd l o) ov0 un0 w ov un n fa) (hw : w ≤ 900) (E0 : fa = 0 → T = mDraw L va vb x y ve vm vr false) (F0 : fa = 1 → T = none) (R : rdA ov un n fa L) (A : isAt ov un n fa 4 (ra) (g4 va)) (B : isAt ov un n fa 4 (rb) (g4 vb)) (C : isAt ov un n fa 4 (8 + 12 * c) (g4 x)) (D : isAt ov un n fa 4 (12 + 12 * c) (g4 y)) (G : isAt ov un n fa 4 (re) (g4 ve)) (H : isAt ov un n fa 4 (rm) (g4 vm)) (I : isAt ov un n fa 4 (rr) (g4 vr)) (hQ : ∀ (ov1 un1 : Nat → Int32) (n1 : Nat) (fa1 : Int32), drR ov0 un0 l o 2 T ov1 un1 n1 fa1 L → Q (.inl none) (wC ov1 un1 (nI n1) (nI L.1) fa1 ((nI ra), (nI rb), c2, (nI (8 + 12 * c)), (nI (12 + 12 * c)), (nI re), (nI rm)) st fi se th db cn F)) : mm_call mm_Tb (d + 7) 35 [.ref 0, .int (nI o), .int (nI rr)] (wC ov un (nI n) (nI L.1) fa ((nI ra), (nI rb), c2, (nI (8 + 12 * c)), (nI (12 + 12 * c)), (nI re), (nI rm)) st fi se th db cn F) Q := by
  have hZ : ∀ k, 8 + 12 * o ≤ k → k < 20 + 12 * o → zd l o k := fun k h1 h2 => Or.inr ⟨h1, h2⟩
  refine mm_in mt_35 (Nat.le_of_ble_eq_true rfl) ?_
  show mm_W _ _ _ _ _ _ _ (0, [(0, .ref 0), (1, .int (nI o)), (2, .int (nI rr))], [], wC ov un (nI n) (nI L.1) fa ((nI ra), (nI rb), c2, (nI (8 + 12 * c)), (nI (12 + 12 * c)), (nI re), (nI rm)) st fi se th db cn F, 0)
  refine mm_skip (mm_call_mono _ _) 8 (st' := (18, [(0, .ref 0), (1, .int (nI o)), (2, .int (nI rr))], [.int (nI rm), .int (nI re), .ref 1], wC ov un (nI n) (nI L.1) fa ((nI ra), (nI rb), c2, (nI (8 + 12 * c)), (nI (12 + 12 * c)), (nI re), (nI rm)) st fi se th db cn F, 0)) rfl ?_
  refine mm_inv (mm_call_mono _ _) (j := 131) (a := [.ref 1, .int (nI re), .int (nI rm)]) (M := wC ov un (nI n) (nI L.1) fa ((nI ra), (nI rb), c2, (nI (8 + 12 * c)), (nI (12 + 12 * c)), (nI re), (nI rm)) st fi se th db cn F) (u := 0) rfl (by decide) (gw_times hl s0.2.1 s0.1 R G H (fun ov1 un1 n1 fa1 y1 h1 => ?_))
  show mm_W _ _ _ _ _ _ _ (21, [(0, .ref 0), (1, .int (nI o)), (2, .int (nI rr))], [.int (nI y1)], wC ov1 un1 (nI n1) (nI L.1) fa1 ((nI ra), (nI rb), c2, (nI (8 + 12 * c)), (nI (12 + 12 * c)), (nI re), (nI rm)) st fi se th db cn F, 0)
  have s1 := sto_L s0 h1
  have F1 := sto_f s0 F0 E0 h1 (by omega)
  have E1 := sqL_e E0 h1
  have g1 := h1.1.1
  have A_1 := at_keep A (opL_k h1)
  have B_1 := at_keep B (opL_k h1)
  have C_1 := at_keep C (opL_k h1)
  have D_1 := at_keep D (opL_k h1)
  have G_1 := at_keep G (opL_k h1)
  have H_1 := at_keep H (opL_k h1)
  have I_1 := at_keep I (opL_k h1)
  have R_1 := rd_keep R (opL_k h1)
  have W1_1 := at_newL h1
  refine mm_skip (mm_call_mono _ _) 7 (st' := (34, [(3, .int (nI y1)), (0, .ref 0), (1, .int (nI o)), (2, .int (nI rr))], [.int (nI rm), .int (nI rr), .ref 1], wC ov1 un1 (nI n1) (nI L.1) fa1 ((nI ra), (nI rb), c2, (nI (8 + 12 * c)), (nI (12 + 12 * c)), (nI re), (nI rm)) st fi se th db cn F, 0)) rfl ?_
  refine mm_inv (mm_call_mono _ _) (j := 131) (a := [.ref 1, .int (nI rr), .int (nI rm)]) (M := wC ov1 un1 (nI n1) (nI L.1) fa1 ((nI ra), (nI rb), c2, (nI (8 + 12 * c)), (nI (12 + 12 * c)), (nI re), (nI rm)) st fi se th db cn F) (u := 0) rfl (by decide) (gw_times hl s1.2.1 s1.1 R_1 I_1 H_1 (fun ov2 un2 n2 fa2 y2 h2 => ?_))
  show mm_W _ _ _ _ _ _ _ (37, [(3, .int (nI y1)), (0, .ref 0), (1, .int (nI o)), (2, .int (nI rr))], [.int (nI y2)], wC ov2 un2 (nI n2) (nI L.1) fa2 ((nI ra), (nI rb), c2, (nI (8 + 12 * c)), (nI (12 + 12 * c)), (nI re), (nI rm)) st fi se th db cn F, 0)
  have s2 := sto_L s1 h2
  have F2 := sto_f s1 F1 E1 h2 (by omega)
  have E2 := sqL_e E1 h2
  have g2 := h2.1.1
  have A_2 := at_keep A_1 (opL_k h2)
  have B_2 := at_keep B_1 (opL_k h2)
  have C_2 := at_keep C_1 (opL_k h2)
  have D_2 := at_keep D_1 (opL_k h2)
  have G_2 := at_keep G_1 (opL_k h2)
  have H_2 := at_keep H_1 (opL_k h2)
  have I_2 := at_keep I_1 (opL_k h2)
  have W1_2 := at_keep W1_1 (opL_k h2)
  have R_2 := rd_keep R_1 (opL_k h2)
  have W2_2 := at_newL h2
  refine mm_skip (mm_call_mono _ _) 12 (st' := (62, [(4, .int (nI y2)), (3, .int (nI y1)), (0, .ref 0), (1, .int (nI o)), (2, .int (nI rr))], [.int (nI y1), .int (nI ra), .ref 1, .int (nI (8 + 12 * c)), .ref 1], wC ov2 un2 (nI n2) (nI L.1) fa2 ((nI ra), (nI rb), c2, (nI (8 + 12 * c)), (nI (12 + 12 * c)), (nI re), (nI rm)) st fi se th db cn F, 0)) rfl ?_
  refine mm_inv (mm_call_mono _ _) (j := 131) (a := [.ref 1, .int (nI ra), .int (nI y1)]) (M := wC ov2 un2 (nI n2) (nI L.1) fa2 ((nI ra), (nI rb), c2, (nI (8 + 12 * c)), (nI (12 + 12 * c)), (nI re), (nI rm)) st fi se th db cn F) (u := 0) rfl (by decide) (gw_times hl s2.2.1 s2.1 R_2 A_2 W1_2 (fun ov3 un3 n3 fa3 y3 h3 => ?_))
  show mm_W _ _ _ _ _ _ _ (65, [(4, .int (nI y2)), (3, .int (nI y1)), (0, .ref 0), (1, .int (nI o)), (2, .int (nI rr))], [.int (nI y3), .int (nI (8 + 12 * c)), .ref 1], wC ov3 un3 (nI n3) (nI L.1) fa3 ((nI ra), (nI rb), c2, (nI (8 + 12 * c)), (nI (12 + 12 * c)), (nI re), (nI rm)) st fi se th db cn F, 0)
  have s3 := sto_L s2 h3
  have F3 := sto_f s2 F2 E2 h3 (by omega)
  have E3 := sqL_e E2 h3
  have g3 := h3.1.1
  have A_3 := at_keep A_2 (opL_k h3)
  have B_3 := at_keep B_2 (opL_k h3)
  have C_3 := at_keep C_2 (opL_k h3)
  have D_3 := at_keep D_2 (opL_k h3)
  have G_3 := at_keep G_2 (opL_k h3)
  have H_3 := at_keep H_2 (opL_k h3)
  have I_3 := at_keep I_2 (opL_k h3)
  have W1_3 := at_keep W1_2 (opL_k h3)
  have W2_3 := at_keep W2_2 (opL_k h3)
  have R_3 := rd_keep R_2 (opL_k h3)
  have W3_3 := at_newL h3
  refine mm_inv (mm_call_mono _ _) (j := 129) (a := [.ref 1, .int (nI (8 + 12 * c)), .int (nI y3)]) (M := wC ov3 un3 (nI n3) (nI L.1) fa3 ((nI ra), (nI rb), c2, (nI (8 + 12 * c)), (nI (12 + 12 * c)), (nI re), (nI rm)) st fi se th db cn F) (u := 0) rfl (by decide) (gw_plus hl s3.2.1 s3.1 C_3 W3_3 (fun ov4 un4 n4 fa4 y4 h4 => ?_))
  show mm_W _ _ _ _ _ _ _ (68, [(4, .int (nI y2)), (3, .int (nI y1)), (0, .ref 0), (1, .int (nI o)), (2, .int (nI rr))], [.int (nI y4)], wC ov4 un4 (nI n4) (nI L.1) fa4 ((nI ra), (nI rb), c2, (nI (8 + 12 * c)), (nI (12 + 12 * c)), (nI re), (nI rm)) st fi se th db cn F, 0)
  have s4 := sto_L s3 h4
  have F4 := sto_f s3 F3 E3 h4 (by omega)
  have E4 := sqL_e E3 h4
  have g4 := h4.1.1
  have A_4 := at_keep A_3 (opL_k h4)
  have B_4 := at_keep B_3 (opL_k h4)
  have C_4 := at_keep C_3 (opL_k h4)
  have D_4 := at_keep D_3 (opL_k h4)
  have G_4 := at_keep G_3 (opL_k h4)
  have H_4 := at_keep H_3 (opL_k h4)
  have I_4 := at_keep I_3 (opL_k h4)
  have W1_4 := at_keep W1_3 (opL_k h4)
  have W2_4 := at_keep W2_3 (opL_k h4)
  have W3_4 := at_keep W3_3 (opL_k h4)
  have R_4 := rd_keep R_3 (opL_k h4)
  have W4_4 := at_newL h4
  refine mm_skip (mm_call_mono _ _) 12 (st' := (93, [(5, .int (nI y4)), (4, .int (nI y2)), (3, .int (nI y1)), (0, .ref 0), (1, .int (nI o)), (2, .int (nI rr))], [.int (nI y1), .int (nI rb), .ref 1, .int (nI (12 + 12 * c)), .ref 1], wC ov4 un4 (nI n4) (nI L.1) fa4 ((nI ra), (nI rb), c2, (nI (8 + 12 * c)), (nI (12 + 12 * c)), (nI re), (nI rm)) st fi se th db cn F, 0)) rfl ?_
  refine mm_inv (mm_call_mono _ _) (j := 131) (a := [.ref 1, .int (nI rb), .int (nI y1)]) (M := wC ov4 un4 (nI n4) (nI L.1) fa4 ((nI ra), (nI rb), c2, (nI (8 + 12 * c)), (nI (12 + 12 * c)), (nI re), (nI rm)) st fi se th db cn F) (u := 0) rfl (by decide) (gw_times hl s4.2.1 s4.1 R_4 B_4 W1_4 (fun ov5 un5 n5 fa5 y5 h5 => ?_))
  show mm_W _ _ _ _ _ _ _ (96, [(5, .int (nI y4)), (4, .int (nI y2)), (3, .int (nI y1)), (0, .ref 0), (1, .int (nI o)), (2, .int (nI rr))], [.int (nI y5), .int (nI (12 + 12 * c)), .ref 1], wC ov5 un5 (nI n5) (nI L.1) fa5 ((nI ra), (nI rb), c2, (nI (8 + 12 * c)), (nI (12 + 12 * c)), (nI re), (nI rm)) st fi se th db cn F, 0)
  have s5 := sto_L s4 h5
  have F5 := sto_f s4 F4 E4 h5 (by omega)
  have E5 := sqL_e E4 h5
  have g5 := h5.1.1
  have A_5 := at_keep A_4 (opL_k h5)
  have B_5 := at_keep B_4 (opL_k h5)
  have C_5 := at_keep C_4 (opL_k h5)
  have D_5 := at_keep D_4 (opL_k h5)
  have G_5 := at_keep G_4 (opL_k h5)
  have H_5 := at_keep H_4 (opL_k h5)
  have I_5 := at_keep I_4 (opL_k h5)
  have W1_5 := at_keep W1_4 (opL_k h5)
  have W2_5 := at_keep W2_4 (opL_k h5)
  have W3_5 := at_keep W3_4 (opL_k h5)
  have W4_5 := at_keep W4_4 (opL_k h5)
  have R_5 := rd_keep R_4 (opL_k h5)
  have W5_5 := at_newL h5
  refine mm_inv (mm_call_mono _ _) (j := 129) (a := [.ref 1, .int (nI (12 + 12 * c)), .int (nI y5)]) (M := wC ov5 un5 (nI n5) (nI L.1) fa5 ((nI ra), (nI rb), c2, (nI (8 + 12 * c)), (nI (12 + 12 * c)), (nI re), (nI rm)) st fi se th db cn F) (u := 0) rfl (by decide) (gw_plus hl s5.2.1 s5.1 D_5 W5_5 (fun ov6 un6 n6 fa6 y6 h6 => ?_))
  show mm_W _ _ _ _ _ _ _ (99, [(5, .int (nI y4)), (4, .int (nI y2)), (3, .int (nI y1)), (0, .ref 0), (1, .int (nI o)), (2, .int (nI rr))], [.int (nI y6)], wC ov6 un6 (nI n6) (nI L.1) fa6 ((nI ra), (nI rb), c2, (nI (8 + 12 * c)), (nI (12 + 12 * c)), (nI re), (nI rm)) st fi se th db cn F, 0)
  have s6 := sto_L s5 h6
  have F6 := sto_f s5 F5 E5 h6 (by omega)
  have E6 := sqL_e E5 h6
  have g6 := h6.1.1
  have A_6 := at_keep A_5 (opL_k h6)
  have B_6 := at_keep B_5 (opL_k h6)
  have C_6 := at_keep C_5 (opL_k h6)
  have D_6 := at_keep D_5 (opL_k h6)
  have G_6 := at_keep G_5 (opL_k h6)
  have H_6 := at_keep H_5 (opL_k h6)
  have I_6 := at_keep I_5 (opL_k h6)
  have W1_6 := at_keep W1_5 (opL_k h6)
  have W2_6 := at_keep W2_5 (opL_k h6)
  have W3_6 := at_keep W3_5 (opL_k h6)
  have W4_6 := at_keep W4_5 (opL_k h6)
  have W5_6 := at_keep W5_5 (opL_k h6)
  have R_6 := rd_keep R_5 (opL_k h6)
  have W6_6 := at_newL h6
  refine mm_skip (mm_call_mono _ _) 8 (st' := (116, [(6, .int (nI y6)), (5, .int (nI y4)), (4, .int (nI y2)), (3, .int (nI y1)), (0, .ref 0), (1, .int (nI o)), (2, .int (nI rr))], [.int (nI rb), .ref 1, .ref 1], wC ov6 un6 (nI n6) (nI L.1) fa6 ((nI ra), (nI rb), c2, (nI (8 + 12 * c)), (nI (12 + 12 * c)), (nI re), (nI rm)) st fi se th db cn F, 0)) rfl ?_
  refine mm_inv (mm_call_mono _ _) (j := 132) (a := [.ref 1, .int (nI rb)]) (M := wC ov6 un6 (nI n6) (nI L.1) fa6 ((nI ra), (nI rb), c2, (nI (8 + 12 * c)), (nI (12 + 12 * c)), (nI re), (nI rm)) st fi se th db cn F) (u := 0) rfl (by decide) (gw_negated hl s6.2.1 s6.1 B_6 (fun ov7 un7 n7 fa7 y7 h7 => ?_))
  show mm_W _ _ _ _ _ _ _ (119, [(6, .int (nI y6)), (5, .int (nI y4)), (4, .int (nI y2)), (3, .int (nI y1)), (0, .ref 0), (1, .int (nI o)), (2, .int (nI rr))], [.int (nI y7), .ref 1], wC ov7 un7 (nI n7) (nI L.1) fa7 ((nI ra), (nI rb), c2, (nI (8 + 12 * c)), (nI (12 + 12 * c)), (nI re), (nI rm)) st fi se th db cn F, 0)
  have s7 := sto_L s6 h7
  have F7 := sto_f s6 F6 E6 h7 (by omega)
  have E7 := sqL_e E6 h7
  have g7 := h7.1.1
  have A_7 := at_keep A_6 (opL_k h7)
  have B_7 := at_keep B_6 (opL_k h7)
  have C_7 := at_keep C_6 (opL_k h7)
  have D_7 := at_keep D_6 (opL_k h7)
  have G_7 := at_keep G_6 (opL_k h7)
  have H_7 := at_keep H_6 (opL_k h7)
  have I_7 := at_keep I_6 (opL_k h7)
  have W1_7 := at_keep W1_6 (opL_k h7)
  have W2_7 := at_keep W2_6 (opL_k h7)
  have W3_7 := at_keep W3_6 (opL_k h7)
  have W4_7 := at_keep W4_6 (opL_k h7)
  have W5_7 := at_keep W5_6 (opL_k h7)
  have W6_7 := at_keep W6_6 (opL_k h7)
  have R_7 := rd_keep R_6 (opL_k h7)
  have W7_7 := at_newL h7
  refine mm_skip (mm_call_mono _ _) 1 (st' := (121, [(6, .int (nI y6)), (5, .int (nI y4)), (4, .int (nI y2)), (3, .int (nI y1)), (0, .ref 0), (1, .int (nI o)), (2, .int (nI rr))], [.int (nI y2), .int (nI y7), .ref 1], wC ov7 un7 (nI n7) (nI L.1) fa7 ((nI ra), (nI rb), c2, (nI (8 + 12 * c)), (nI (12 + 12 * c)), (nI re), (nI rm)) st fi se th db cn F, 0)) rfl ?_
  refine mm_inv (mm_call_mono _ _) (j := 131) (a := [.ref 1, .int (nI y7), .int (nI y2)]) (M := wC ov7 un7 (nI n7) (nI L.1) fa7 ((nI ra), (nI rb), c2, (nI (8 + 12 * c)), (nI (12 + 12 * c)), (nI re), (nI rm)) st fi se th db cn F) (u := 0) rfl (by decide) (gw_times hl s7.2.1 s7.1 R_7 W7_7 W2_7 (fun ov8 un8 n8 fa8 y8 h8 => ?_))
  show mm_W _ _ _ _ _ _ _ (124, [(6, .int (nI y6)), (5, .int (nI y4)), (4, .int (nI y2)), (3, .int (nI y1)), (0, .ref 0), (1, .int (nI o)), (2, .int (nI rr))], [.int (nI y8)], wC ov8 un8 (nI n8) (nI L.1) fa8 ((nI ra), (nI rb), c2, (nI (8 + 12 * c)), (nI (12 + 12 * c)), (nI re), (nI rm)) st fi se th db cn F, 0)
  have s8 := sto_L s7 h8
  have F8 := sto_f s7 F7 E7 h8 (by omega)
  have E8 := sqL_e E7 h8
  have g8 := h8.1.1
  have A_8 := at_keep A_7 (opL_k h8)
  have B_8 := at_keep B_7 (opL_k h8)
  have C_8 := at_keep C_7 (opL_k h8)
  have D_8 := at_keep D_7 (opL_k h8)
  have G_8 := at_keep G_7 (opL_k h8)
  have H_8 := at_keep H_7 (opL_k h8)
  have I_8 := at_keep I_7 (opL_k h8)
  have W1_8 := at_keep W1_7 (opL_k h8)
  have W2_8 := at_keep W2_7 (opL_k h8)
  have W3_8 := at_keep W3_7 (opL_k h8)
  have W4_8 := at_keep W4_7 (opL_k h8)
  have W5_8 := at_keep W5_7 (opL_k h8)
  have W6_8 := at_keep W6_7 (opL_k h8)
  have W7_8 := at_keep W7_7 (opL_k h8)
  have R_8 := rd_keep R_7 (opL_k h8)
  have W8_8 := at_newL h8
  refine mm_skip (mm_call_mono _ _) 7 (st' := (139, [(7, .int (nI y8)), (6, .int (nI y6)), (5, .int (nI y4)), (4, .int (nI y2)), (3, .int (nI y1)), (0, .ref 0), (1, .int (nI o)), (2, .int (nI rr))], [.int (nI y2), .int (nI ra), .ref 1], wC ov8 un8 (nI n8) (nI L.1) fa8 ((nI ra), (nI rb), c2, (nI (8 + 12 * c)), (nI (12 + 12 * c)), (nI re), (nI rm)) st fi se th db cn F, 0)) rfl ?_
  refine mm_inv (mm_call_mono _ _) (j := 131) (a := [.ref 1, .int (nI ra), .int (nI y2)]) (M := wC ov8 un8 (nI n8) (nI L.1) fa8 ((nI ra), (nI rb), c2, (nI (8 + 12 * c)), (nI (12 + 12 * c)), (nI re), (nI rm)) st fi se th db cn F) (u := 0) rfl (by decide) (gw_times hl s8.2.1 s8.1 R_8 A_8 W2_8 (fun ov9 un9 n9 fa9 y9 h9 => ?_))
  show mm_W _ _ _ _ _ _ _ (142, [(7, .int (nI y8)), (6, .int (nI y6)), (5, .int (nI y4)), (4, .int (nI y2)), (3, .int (nI y1)), (0, .ref 0), (1, .int (nI o)), (2, .int (nI rr))], [.int (nI y9)], wC ov9 un9 (nI n9) (nI L.1) fa9 ((nI ra), (nI rb), c2, (nI (8 + 12 * c)), (nI (12 + 12 * c)), (nI re), (nI rm)) st fi se th db cn F, 0)
  have s9 := sto_L s8 h9
  have F9 := sto_f s8 F8 E8 h9 (by omega)
  have E9 := sqL_e E8 h9
  have g9 := h9.1.1
  have A_9 := at_keep A_8 (opL_k h9)
  have B_9 := at_keep B_8 (opL_k h9)
  have C_9 := at_keep C_8 (opL_k h9)
  have D_9 := at_keep D_8 (opL_k h9)
  have G_9 := at_keep G_8 (opL_k h9)
  have H_9 := at_keep H_8 (opL_k h9)
  have I_9 := at_keep I_8 (opL_k h9)
  have W1_9 := at_keep W1_8 (opL_k h9)
  have W2_9 := at_keep W2_8 (opL_k h9)
  have W3_9 := at_keep W3_8 (opL_k h9)
  have W4_9 := at_keep W4_8 (opL_k h9)
  have W5_9 := at_keep W5_8 (opL_k h9)
  have W6_9 := at_keep W6_8 (opL_k h9)
  have W7_9 := at_keep W7_8 (opL_k h9)
  have W8_9 := at_keep W8_8 (opL_k h9)
  have R_9 := rd_keep R_8 (opL_k h9)
  have W9_9 := at_newL h9
  refine mm_skip (mm_call_mono _ _) 4 (st' := (149, [(8, .int (nI y9)), (7, .int (nI y8)), (6, .int (nI y6)), (5, .int (nI y4)), (4, .int (nI y2)), (3, .int (nI y1)), (0, .ref 0), (1, .int (nI o)), (2, .int (nI rr))], [.int (nI o), .ref 6], wC ov9 un9 (nI n9) (nI L.1) fa9 ((nI ra), (nI rb), c2, (nI (8 + 12 * c)), (nI (12 + 12 * c)), (nI re), (nI rm)) st fi se th db cn F, 0)) rfl ?_
  refine mm_need (mm_call_mono _ _) (c := vp_in (nI o) 24) (s' := (150, [(8, .int (nI y9)), (7, .int (nI y8)), (6, .int (nI y6)), (5, .int (nI y4)), (4, .int (nI y2)), (3, .int (nI y1)), (0, .ref 0), (1, .int (nI o)), (2, .int (nI rr))], [.int (th (Int32.toNatClampNeg (nI o)))], wC ov9 un9 (nI n9) (nI L.1) fa9 ((nI ra), (nI rb), c2, (nI (8 + 12 * c)), (nI (12 + 12 * c)), (nI re), (nI rm)) st fi se th db cn F, 0)) rfl (vp_in_nI (show o < 24 by omega) (by decide)) ?_
  rw [nI_clamp (show o < 2 ^ 31 by omega)]
  show mm_W _ _ _ _ _ _ _ (150, [(8, .int (nI y9)), (7, .int (nI y8)), (6, .int (nI y6)), (5, .int (nI y4)), (4, .int (nI y2)), (3, .int (nI y1)), (0, .ref 0), (1, .int (nI o)), (2, .int (nI rr))], [.int (th o)], wC ov9 un9 (nI n9) (nI L.1) fa9 ((nI ra), (nI rb), c2, (nI (8 + 12 * c)), (nI (12 + 12 * c)), (nI re), (nI rm)) st fi se th db cn F, 0)
  refine mm_branch (mm_call_mono _ _) (c := (th o) = 0) (s1 := (153, [(8, .int (nI y9)), (7, .int (nI y8)), (6, .int (nI y6)), (5, .int (nI y4)), (4, .int (nI y2)), (3, .int (nI y1)), (0, .ref 0), (1, .int (nI o)), (2, .int (nI rr))], [], wC ov9 un9 (nI n9) (nI L.1) fa9 ((nI ra), (nI rb), c2, (nI (8 + 12 * c)), (nI (12 + 12 * c)), (nI re), (nI rm)) st fi se th db cn F, 0)) (s2 := (157, [(8, .int (nI y9)), (7, .int (nI y8)), (6, .int (nI y6)), (5, .int (nI y4)), (4, .int (nI y2)), (3, .int (nI y1)), (0, .ref 0), (1, .int (nI o)), (2, .int (nI rr))], [], wC ov9 un9 (nI n9) (nI L.1) fa9 ((nI ra), (nI rb), c2, (nI (8 + 12 * c)), (nI (12 + 12 * c)), (nI re), (nI rm)) st fi se th db cn F, 0)) rfl (fun h => absurd h hth) (fun _ => ?_)
  refine mm_skip (mm_call_mono _ _) 5 (st' := (166, [(9, .int 0), (8, .int (nI y9)), (7, .int (nI y8)), (6, .int (nI y6)), (5, .int (nI y4)), (4, .int (nI y2)), (3, .int (nI y1)), (0, .ref 0), (1, .int (nI o)), (2, .int (nI rr))], [.int 0, .ref 1], wC ov9 un9 (nI n9) (nI L.1) fa9 ((nI ra), (nI rb), c2, (nI (8 + 12 * c)), (nI (12 + 12 * c)), (nI re), (nI rm)) st fi se th db cn F, 0)) rfl ?_
  refine mm_branch (mm_call_mono _ _) (c := (0 : Int32) = 0) (s1 := (183, [(9, .int 0), (8, .int (nI y9)), (7, .int (nI y8)), (6, .int (nI y6)), (5, .int (nI y4)), (4, .int (nI y2)), (3, .int (nI y1)), (0, .ref 0), (1, .int (nI o)), (2, .int (nI rr))], [.ref 1], wC ov9 un9 (nI n9) (nI L.1) fa9 ((nI ra), (nI rb), c2, (nI (8 + 12 * c)), (nI (12 + 12 * c)), (nI re), (nI rm)) st fi se th db cn F, 0)) (s2 := (169, [(9, .int 0), (8, .int (nI y9)), (7, .int (nI y8)), (6, .int (nI y6)), (5, .int (nI y4)), (4, .int (nI y2)), (3, .int (nI y1)), (0, .ref 0), (1, .int (nI o)), (2, .int (nI rr))], [.ref 1], wC ov9 un9 (nI n9) (nI L.1) fa9 ((nI ra), (nI rb), c2, (nI (8 + 12 * c)), (nI (12 + 12 * c)), (nI re), (nI rm)) st fi se th db cn F, 0)) rfl (fun _ => ?_) (fun h => absurd (by decide) h)
  refine mm_skip (mm_call_mono _ _) 4 (st' := (191, [(9, .int 0), (8, .int (nI y9)), (7, .int (nI y8)), (6, .int (nI y6)), (5, .int (nI y4)), (4, .int (nI y2)), (3, .int (nI y1)), (0, .ref 0), (1, .int (nI o)), (2, .int (nI rr))], [.int (nI y8), .int (nI y4), .ref 1, .ref 1], wC ov9 un9 (nI n9) (nI L.1) fa9 ((nI ra), (nI rb), c2, (nI (8 + 12 * c)), (nI (12 + 12 * c)), (nI re), (nI rm)) st fi se th db cn F, 0)) rfl ?_
  refine mm_inv (mm_call_mono _ _) (j := 129) (a := [.ref 1, .int (nI y4), .int (nI y8)]) (M := wC ov9 un9 (nI n9) (nI L.1) fa9 ((nI ra), (nI rb), c2, (nI (8 + 12 * c)), (nI (12 + 12 * c)), (nI re), (nI rm)) st fi se th db cn F) (u := 0) rfl (by decide) (gw_plus hl s9.2.1 s9.1 W4_9 W8_9 (fun ov10 un10 n10 fa10 y10 h10 => ?_))
  show mm_W _ _ _ _ _ _ _ (194, [(9, .int 0), (8, .int (nI y9)), (7, .int (nI y8)), (6, .int (nI y6)), (5, .int (nI y4)), (4, .int (nI y2)), (3, .int (nI y1)), (0, .ref 0), (1, .int (nI o)), (2, .int (nI rr))], [.int (nI y10), .ref 1], wC ov10 un10 (nI n10) (nI L.1) fa10 ((nI ra), (nI rb), c2, (nI (8 + 12 * c)), (nI (12 + 12 * c)), (nI re), (nI rm)) st fi se th db cn F, 0)
  have s10 := sto_L s9 h10
  have F10 := sto_f s9 F9 E9 h10 (by omega)
  have E10 := sqL_e E9 h10
  have g10 := h10.1.1
  have A_10 := at_keep A_9 (opL_k h10)
  have B_10 := at_keep B_9 (opL_k h10)
  have C_10 := at_keep C_9 (opL_k h10)
  have D_10 := at_keep D_9 (opL_k h10)
  have G_10 := at_keep G_9 (opL_k h10)
  have H_10 := at_keep H_9 (opL_k h10)
  have I_10 := at_keep I_9 (opL_k h10)
  have W1_10 := at_keep W1_9 (opL_k h10)
  have W2_10 := at_keep W2_9 (opL_k h10)
  have W3_10 := at_keep W3_9 (opL_k h10)
  have W4_10 := at_keep W4_9 (opL_k h10)
  have W5_10 := at_keep W5_9 (opL_k h10)
  have W6_10 := at_keep W6_9 (opL_k h10)
  have W7_10 := at_keep W7_9 (opL_k h10)
  have W8_10 := at_keep W8_9 (opL_k h10)
  have W9_10 := at_keep W9_9 (opL_k h10)
  have R_10 := rd_keep R_9 (opL_k h10)
  have W10_10 := at_newL h10
  refine mm_skip (mm_call_mono _ _) 1 (st' := (195, [(9, .int 0), (8, .int (nI y9)), (7, .int (nI y8)), (6, .int (nI y6)), (5, .int (nI y4)), (4, .int (nI y2)), (3, .int (nI y1)), (0, .ref 0), (1, .int (nI o)), (2, .int (nI rr))], [.int (nI o), .int (nI y10), .ref 1], wC ov10 un10 (nI n10) (nI L.1) fa10 ((nI ra), (nI rb), c2, (nI (8 + 12 * c)), (nI (12 + 12 * c)), (nI re), (nI rm)) st fi se th db cn F, 0)) rfl ?_
  refine mm_inv (mm_call_mono _ _) (j := 41) (a := [.int (nI o)]) (M := wC ov10 un10 (nI n10) (nI L.1) fa10 ((nI ra), (nI rb), c2, (nI (8 + 12 * c)), (nI (12 + 12 * c)), (nI re), (nI rm)) st fi se th db cn F) (u := 0) rfl (by decide) (ct_C_xOf ?_)
  show mm_W _ _ _ _ _ _ _ (198, [(9, .int 0), (8, .int (nI y9)), (7, .int (nI y8)), (6, .int (nI y6)), (5, .int (nI y4)), (4, .int (nI y2)), (3, .int (nI y1)), (0, .ref 0), (1, .int (nI o)), (2, .int (nI rr))], [.int (nI (8 + 12 * o)), .int (nI y10), .ref 1], wC ov10 un10 (nI n10) (nI L.1) fa10 ((nI ra), (nI rb), c2, (nI (8 + 12 * c)), (nI (12 + 12 * c)), (nI re), (nI rm)) st fi se th db cn F, 0)
  refine mm_inv (mm_call_mono _ _) (j := 124) (a := [.ref 1, .int (nI y10), .int (nI (8 + 12 * o))]) (M := wC ov10 un10 (nI n10) (nI L.1) fa10 ((nI ra), (nI rb), c2, (nI (8 + 12 * c)), (nI (12 + 12 * c)), (nI re), (nI rm)) st fi se th db cn F) (u := 0) rfl (by decide) (gw_copy (x := y10) (y := 8 + 12 * o) W10_10.1.1 (by omega) (fun ov11 un11 c11 => ?_))
  show mm_W _ _ _ _ _ _ _ (201, [(9, .int 0), (8, .int (nI y9)), (7, .int (nI y8)), (6, .int (nI y6)), (5, .int (nI y4)), (4, .int (nI y2)), (3, .int (nI y1)), (0, .ref 0), (1, .int (nI o)), (2, .int (nI rr))], [], wC ov11 un11 (nI n10) (nI L.1) fa10 ((nI ra), (nI rb), c2, (nI (8 + 12 * c)), (nI (12 + 12 * c)), (nI re), (nI rm)) st fi se th db cn F, 0)
  have s11 := sto_cp s10 c11 (fun k q1 q2 => hZ k (by omega) (by omega))
  have F11 := F10
  have E11 := E10
  have A_11 := at_cp A_10 c11 (by omega)
  have B_11 := at_cp B_10 c11 (by omega)
  have C_11 := at_cp C_10 c11 (by omega)
  have D_11 := at_cp D_10 c11 (by omega)
  have G_11 := at_cp G_10 c11 (by omega)
  have H_11 := at_cp H_10 c11 (by omega)
  have I_11 := at_cp I_10 c11 (by omega)
  have W1_11 := at_cp W1_10 c11 (by omega)
  have W2_11 := at_cp W2_10 c11 (by omega)
  have W3_11 := at_cp W3_10 c11 (by omega)
  have W4_11 := at_cp W4_10 c11 (by omega)
  have W5_11 := at_cp W5_10 c11 (by omega)
  have W6_11 := at_cp W6_10 c11 (by omega)
  have W7_11 := at_cp W7_10 c11 (by omega)
  have W8_11 := at_cp W8_10 c11 (by omega)
  have W9_11 := at_cp W9_10 c11 (by omega)
  have W10_11 := at_cp W10_10 c11 (by omega)
  have R_11 := rd_cp R_10 c11 (by omega)
  have K11_11 := at_cn W10_10 c11 (by omega) s10.1.1
  refine mm_skip (mm_call_mono _ _) 3 (st' := (207, [(9, .int 0), (8, .int (nI y9)), (7, .int (nI y8)), (6, .int (nI y6)), (5, .int (nI y4)), (4, .int (nI y2)), (3, .int (nI y1)), (0, .ref 0), (1, .int (nI o)), (2, .int (nI rr))], [.int 0, .ref 1], wC ov11 un11 (nI n10) (nI L.1) fa10 ((nI ra), (nI rb), c2, (nI (8 + 12 * c)), (nI (12 + 12 * c)), (nI re), (nI rm)) st fi se th db cn F, 0)) rfl ?_
  refine mm_branch (mm_call_mono _ _) (c := (0 : Int32) = 0) (s1 := (224, [(9, .int 0), (8, .int (nI y9)), (7, .int (nI y8)), (6, .int (nI y6)), (5, .int (nI y4)), (4, .int (nI y2)), (3, .int (nI y1)), (0, .ref 0), (1, .int (nI o)), (2, .int (nI rr))], [.ref 1], wC ov11 un11 (nI n10) (nI L.1) fa10 ((nI ra), (nI rb), c2, (nI (8 + 12 * c)), (nI (12 + 12 * c)), (nI re), (nI rm)) st fi se th db cn F, 0)) (s2 := (210, [(9, .int 0), (8, .int (nI y9)), (7, .int (nI y8)), (6, .int (nI y6)), (5, .int (nI y4)), (4, .int (nI y2)), (3, .int (nI y1)), (0, .ref 0), (1, .int (nI o)), (2, .int (nI rr))], [.ref 1], wC ov11 un11 (nI n10) (nI L.1) fa10 ((nI ra), (nI rb), c2, (nI (8 + 12 * c)), (nI (12 + 12 * c)), (nI re), (nI rm)) st fi se th db cn F, 0)) rfl (fun _ => ?_) (fun h => absurd (by decide) h)
  refine mm_skip (mm_call_mono _ _) 4 (st' := (232, [(9, .int 0), (8, .int (nI y9)), (7, .int (nI y8)), (6, .int (nI y6)), (5, .int (nI y4)), (4, .int (nI y2)), (3, .int (nI y1)), (0, .ref 0), (1, .int (nI o)), (2, .int (nI rr))], [.int (nI y9), .int (nI y6), .ref 1, .ref 1], wC ov11 un11 (nI n10) (nI L.1) fa10 ((nI ra), (nI rb), c2, (nI (8 + 12 * c)), (nI (12 + 12 * c)), (nI re), (nI rm)) st fi se th db cn F, 0)) rfl ?_
  refine mm_inv (mm_call_mono _ _) (j := 129) (a := [.ref 1, .int (nI y6), .int (nI y9)]) (M := wC ov11 un11 (nI n10) (nI L.1) fa10 ((nI ra), (nI rb), c2, (nI (8 + 12 * c)), (nI (12 + 12 * c)), (nI re), (nI rm)) st fi se th db cn F) (u := 0) rfl (by decide) (gw_plus hl s11.2.1 s11.1 W6_11 W9_11 (fun ov12 un12 n12 fa12 y12 h12 => ?_))
  show mm_W _ _ _ _ _ _ _ (235, [(9, .int 0), (8, .int (nI y9)), (7, .int (nI y8)), (6, .int (nI y6)), (5, .int (nI y4)), (4, .int (nI y2)), (3, .int (nI y1)), (0, .ref 0), (1, .int (nI o)), (2, .int (nI rr))], [.int (nI y12), .ref 1], wC ov12 un12 (nI n12) (nI L.1) fa12 ((nI ra), (nI rb), c2, (nI (8 + 12 * c)), (nI (12 + 12 * c)), (nI re), (nI rm)) st fi se th db cn F, 0)
  have s12 := sto_L s11 h12
  have F12 := sto_f s11 F11 E11 h12 (by omega)
  have E12 := sqL_e E11 h12
  have g12 := h12.1.1
  have A_12 := at_keep A_11 (opL_k h12)
  have B_12 := at_keep B_11 (opL_k h12)
  have C_12 := at_keep C_11 (opL_k h12)
  have D_12 := at_keep D_11 (opL_k h12)
  have G_12 := at_keep G_11 (opL_k h12)
  have H_12 := at_keep H_11 (opL_k h12)
  have I_12 := at_keep I_11 (opL_k h12)
  have W1_12 := at_keep W1_11 (opL_k h12)
  have W2_12 := at_keep W2_11 (opL_k h12)
  have W3_12 := at_keep W3_11 (opL_k h12)
  have W4_12 := at_keep W4_11 (opL_k h12)
  have W5_12 := at_keep W5_11 (opL_k h12)
  have W6_12 := at_keep W6_11 (opL_k h12)
  have W7_12 := at_keep W7_11 (opL_k h12)
  have W8_12 := at_keep W8_11 (opL_k h12)
  have W9_12 := at_keep W9_11 (opL_k h12)
  have W10_12 := at_keep W10_11 (opL_k h12)
  have K11_12 := at_keep K11_11 (opL_k h12)
  have R_12 := rd_keep R_11 (opL_k h12)
  have W12_12 := at_newL h12
  refine mm_skip (mm_call_mono _ _) 1 (st' := (236, [(9, .int 0), (8, .int (nI y9)), (7, .int (nI y8)), (6, .int (nI y6)), (5, .int (nI y4)), (4, .int (nI y2)), (3, .int (nI y1)), (0, .ref 0), (1, .int (nI o)), (2, .int (nI rr))], [.int (nI o), .int (nI y12), .ref 1], wC ov12 un12 (nI n12) (nI L.1) fa12 ((nI ra), (nI rb), c2, (nI (8 + 12 * c)), (nI (12 + 12 * c)), (nI re), (nI rm)) st fi se th db cn F, 0)) rfl ?_
  refine mm_inv (mm_call_mono _ _) (j := 42) (a := [.int (nI o)]) (M := wC ov12 un12 (nI n12) (nI L.1) fa12 ((nI ra), (nI rb), c2, (nI (8 + 12 * c)), (nI (12 + 12 * c)), (nI re), (nI rm)) st fi se th db cn F) (u := 0) rfl (by decide) (ct_C_yOf ?_)
  show mm_W _ _ _ _ _ _ _ (239, [(9, .int 0), (8, .int (nI y9)), (7, .int (nI y8)), (6, .int (nI y6)), (5, .int (nI y4)), (4, .int (nI y2)), (3, .int (nI y1)), (0, .ref 0), (1, .int (nI o)), (2, .int (nI rr))], [.int (nI (12 + 12 * o)), .int (nI y12), .ref 1], wC ov12 un12 (nI n12) (nI L.1) fa12 ((nI ra), (nI rb), c2, (nI (8 + 12 * c)), (nI (12 + 12 * c)), (nI re), (nI rm)) st fi se th db cn F, 0)
  refine mm_inv (mm_call_mono _ _) (j := 124) (a := [.ref 1, .int (nI y12), .int (nI (12 + 12 * o))]) (M := wC ov12 un12 (nI n12) (nI L.1) fa12 ((nI ra), (nI rb), c2, (nI (8 + 12 * c)), (nI (12 + 12 * c)), (nI re), (nI rm)) st fi se th db cn F) (u := 0) rfl (by decide) (gw_copy (x := y12) (y := 12 + 12 * o) W12_12.1.1 (by omega) (fun ov13 un13 c13 => ?_))
  show mm_W _ _ _ _ _ _ _ (242, [(9, .int 0), (8, .int (nI y9)), (7, .int (nI y8)), (6, .int (nI y6)), (5, .int (nI y4)), (4, .int (nI y2)), (3, .int (nI y1)), (0, .ref 0), (1, .int (nI o)), (2, .int (nI rr))], [], wC ov13 un13 (nI n12) (nI L.1) fa12 ((nI ra), (nI rb), c2, (nI (8 + 12 * c)), (nI (12 + 12 * c)), (nI re), (nI rm)) st fi se th db cn F, 0)
  have s13 := sto_cp s12 c13 (fun k q1 q2 => hZ k (by omega) (by omega))
  have F13 := F12
  have E13 := E12
  have A_13 := at_cp A_12 c13 (by omega)
  have B_13 := at_cp B_12 c13 (by omega)
  have C_13 := at_cp C_12 c13 (by omega)
  have D_13 := at_cp D_12 c13 (by omega)
  have G_13 := at_cp G_12 c13 (by omega)
  have H_13 := at_cp H_12 c13 (by omega)
  have I_13 := at_cp I_12 c13 (by omega)
  have W1_13 := at_cp W1_12 c13 (by omega)
  have W2_13 := at_cp W2_12 c13 (by omega)
  have W3_13 := at_cp W3_12 c13 (by omega)
  have W4_13 := at_cp W4_12 c13 (by omega)
  have W5_13 := at_cp W5_12 c13 (by omega)
  have W6_13 := at_cp W6_12 c13 (by omega)
  have W7_13 := at_cp W7_12 c13 (by omega)
  have W8_13 := at_cp W8_12 c13 (by omega)
  have W9_13 := at_cp W9_12 c13 (by omega)
  have W10_13 := at_cp W10_12 c13 (by omega)
  have K11_13 := at_cp K11_12 c13 (by omega)
  have W12_13 := at_cp W12_12 c13 (by omega)
  have R_13 := rd_cp R_12 c13 (by omega)
  have K13_13 := at_cn W12_12 c13 (by omega) s12.1.1
  exact mm_ret (mm_call_mono _ _) (c := True) (r := .inl none) (M := wC ov13 un13 (nI n12) (nI L.1) fa12 ((nI ra), (nI rb), c2, (nI (8 + 12 * c)), (nI (12 + 12 * c)), (nI re), (nI rm)) st fi se th db cn F) (u := 0) rfl trivial (by decide) (hQ _ _ _ _ (dr_of s13 hl R_13 E13 F13 (fun h0 => ⟨kp_at K11_13 h0, fun _ => kp_at K13_13 h0, fun q => absurd q (by decide)⟩)))

