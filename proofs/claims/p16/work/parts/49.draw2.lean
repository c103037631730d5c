set_option maxRecDepth 100000 in
theorem gd_drawLine {d : Nat} {ov un : Nat → Int32}  {cu : mm_cu} {st fi se th db : Nat → Int32} {cn : Int32} {F : mm_M} {o p q : Nat} {xp yp xq yq : n4} {L : lvR} {Q : mm_R → mm_M → Prop} (hl : L.1 ≤ 2) (ho : o < 24) (hp : p < o) (hq : q < o) (hfi : fi o = nI p) (hse : se o = nI q) (R : rdA ov un 308 0 L) (A : kp ov un (8 + 12 * p) xp) (B : kp ov un (12 + 12 * p) yp) (C : kp ov un (8 + 12 * q) xq) (D : kp ov un (12 + 12 * q) yq) (hQ : ∀ (ov1 un1 : Nat → Int32) (n1 : Nat) (fa1 : Int32), drR ov un L.1 o 3 (mLine L xp yp xq yq) ov1 un1 n1 fa1 L → Q (.inl none) (wC ov1 un1 (nI n1) (nI L.1) fa1 cu st fi se th db cn F)) : mm_call mm_Tb (d + 7) 28 [.ref 0, .int (nI o)] (wC ov un (nI 308) (nI L.1) 0 cu st fi se th db cn F) Q := by
  have hZ : ∀ k, 8 + 12 * o ≤ k → k < 20 + 12 * o → zd L.1 o k := fun k h1 h2 => Or.inr ⟨h1, h2⟩
  have s0 := sto_0 (Z := zd L.1 o) (ov := ov) (un := un)
  have A0 := at_kp (n := 308) (fa := 0) A (by omega) (Nat.le_refl _)
  have B0 := at_kp (n := 308) (fa := 0) B (by omega) (Nat.le_refl _)
  have C0 := at_kp (n := 308) (fa := 0) C (by omega) (Nat.le_refl _)
  have D0 := at_kp (n := 308) (fa := 0) D (by omega) (Nat.le_refl _)
  have F0 : (0 : Int32) = 1 → mLine L xp yp xq yq = none := fun h => absurd h.symm z10
  refine mm_in mt_28 (Nat.le_of_ble_eq_true rfl) ?_
  show mm_W _ _ _ _ _ _ _ (0, [(0, .ref 0), (1, .int (nI o))], [], wC ov un (nI 308) (nI L.1) 0 cu st fi se th db cn F, 0)
  refine mm_skip (mm_call_mono _ _) 3 (st' := (5, [(0, .ref 0), (1, .int (nI o))], [.int (nI o), .ref 4], wC ov un (nI 308) (nI L.1) 0 cu st fi se th db cn F, 0)) rfl ?_
  refine mm_need (mm_call_mono _ _) (c := vp_in (nI o) 24) (s' := (6, [(0, .ref 0), (1, .int (nI o))], [.int (fi (Int32.toNatClampNeg (nI o)))], wC ov un (nI 308) (nI L.1) 0 cu st fi se th db cn F, 0)) rfl (vp_in_nI (show o < 24 by omega) (by decide)) ?_
  rw [nI_clamp (show o < 2 ^ 31 by omega)]
  show mm_W _ _ _ _ _ _ _ (6, [(0, .ref 0), (1, .int (nI o))], [.int (fi o)], wC ov un (nI 308) (nI L.1) 0 cu st fi se th db cn F, 0)
  rw [hfi]
  show mm_W _ _ _ _ _ _ _ (6, [(0, .ref 0), (1, .int (nI o))], [.int (nI p)], wC ov un (nI 308) (nI L.1) 0 cu st fi se th db cn F, 0)
  refine mm_skip (mm_call_mono _ _) 4 (st' := (12, [(2, .int (nI p)), (0, .ref 0), (1, .int (nI o))], [.int (nI o), .ref 5], wC ov un (nI 308) (nI L.1) 0 cu st fi se th db cn F, 0)) rfl ?_
  refine mm_need (mm_call_mono _ _) (c := vp_in (nI o) 24) (s' := (13, [(2, .int (nI p)), (0, .ref 0), (1, .int (nI o))], [.int (se (Int32.toNatClampNeg (nI o)))], wC ov un (nI 308) (nI L.1) 0 cu st fi se th db cn F, 0)) rfl (vp_in_nI (show o < 24 by omega) (by decide)) ?_
  rw [nI_clamp (show o < 2 ^ 31 by omega)]
  show mm_W _ _ _ _ _ _ _ (13, [(2, .int (nI p)), (0, .ref 0), (1, .int (nI o))], [.int (se o)], wC ov un (nI 308) (nI L.1) 0 cu st fi se th db cn F, 0)
  rw [hse]
  show mm_W _ _ _ _ _ _ _ (13, [(2, .int (nI p)), (0, .ref 0), (1, .int (nI o))], [.int (nI q)], wC ov un (nI 308) (nI L.1) 0 cu st fi se th db cn F, 0)
  refine mm_skip (mm_call_mono _ _) 4 (st' := (17, [(3, .int (nI q)), (2, .int (nI p)), (0, .ref 0), (1, .int (nI o))], [.int (nI q), .int (nI p), .ref 0], wC ov un (nI 308) (nI L.1) 0 cu st fi se th db cn F, 0)) rfl ?_
  refine mm_inv (mm_call_mono _ _) (j := 37) (a := [.ref 0, .int (nI p), .int (nI q)]) (M := wC ov un (nI 308) (nI L.1) 0 cu st fi se th db cn F) (u := 0) rfl (by decide) (gd_coincide (by omega) (by omega) A B C D ?_)
  show mm_W _ _ _ _ _ _ _ (20, [(3, .int (nI q)), (2, .int (nI p)), (0, .ref 0), (1, .int (nI o))], [.int (bz (xp = xq ∧ yp = yq))], wC ov un (nI 308) (nI L.1) 0 cu st fi se th db cn F, 0)
  refine mm_branch (mm_call_mono _ _) (c := (bz (xp = xq ∧ yp = yq)) = 0) (s1 := (32, [(3, .int (nI q)), (2, .int (nI p)), (0, .ref 0), (1, .int (nI o))], [], wC ov un (nI 308) (nI L.1) 0 cu st fi se th db cn F, 0)) (s2 := (23, [(3, .int (nI q)), (2, .int (nI p)), (0, .ref 0), (1, .int (nI o))], [], wC ov un (nI 308) (nI L.1) 0 cu st fi se th db cn F, 0)) rfl (fun z1 => ?_) (fun z1 => ?_)
  · have E0 : (0 : Int32) = 0 → mLine L xp yp xq yq = Option.bind (xsub L.1 yq yp) _ := fun _ => if_neg (bz_0 z1)
    refine mm_skip (mm_call_mono _ _) 3 (st' := (37, [(3, .int (nI q)), (2, .int (nI p)), (0, .ref 0), (1, .int (nI o))], [.int (nI q), .ref 1], wC ov un (nI 308) (nI L.1) 0 cu st fi se th db cn F, 0)) rfl ?_
    refine mm_inv (mm_call_mono _ _) (j := 42) (a := [.int (nI q)]) (M := wC ov un (nI 308) (nI L.1) 0 cu st fi se th db cn F) (u := 0) rfl (by decide) (ct_C_yOf ?_)
    show mm_W _ _ _ _ _ _ _ (40, [(3, .int (nI q)), (2, .int (nI p)), (0, .ref 0), (1, .int (nI o))], [.int (nI (12 + 12 * q)), .ref 1], wC ov un (nI 308) (nI L.1) 0 cu st fi se th db cn F, 0)
    refine mm_skip (mm_call_mono _ _) 1 (st' := (41, [(3, .int (nI q)), (2, .int (nI p)), (0, .ref 0), (1, .int (nI o))], [.int (nI p), .int (nI (12 + 12 * q)), .ref 1], wC ov un (nI 308) (nI L.1) 0 cu st fi se th db cn F, 0)) rfl ?_
    refine mm_inv (mm_call_mono _ _) (j := 42) (a := [.int (nI p)]) (M := wC ov un (nI 308) (nI L.1) 0 cu st fi se th db cn F) (u := 0) rfl (by decide) (ct_C_yOf ?_)
    show mm_W _ _ _ _ _ _ _ (44, [(3, .int (nI q)), (2, .int (nI p)), (0, .ref 0), (1, .int (nI o))], [.int (nI (12 + 12 * p)), .int (nI (12 + 12 * q)), .ref 1], wC ov un (nI 308) (nI L.1) 0 cu st fi se th db cn F, 0)
    refine mm_inv (mm_call_mono _ _) (j := 130) (a := [.ref 1, .int (nI (12 + 12 * q)), .int (nI (12 + 12 * p))]) (M := wC ov un (nI 308) (nI L.1) 0 cu st fi se th db cn F) (u := 0) rfl (by decide) (gw_minus hl s0.2.1 s0.1 D0 B0 (fun ov1 un1 n1 fa1 y1 h1 => ?_))
    show mm_W _ _ _ _ _ _ _ (47, [(3, .int (nI q)), (2, .int (nI p)), (0, .ref 0), (1, .int (nI o))], [.int (nI y1)], wC ov1 un1 (nI n1) (nI L.1) fa1 cu st fi se th db cn F, 0)
    have s1 := sto_L s0 h1
    have F1 := sto_f s0 F0 E0 h1 (by omega)
    have E1 := sqL_e E0 h1
    have g1 := h1.1.1
    have A0_1 := at_keep A0 (opL_k h1)
    have B0_1 := at_keep B0 (opL_k h1)
    have C0_1 := at_keep C0 (opL_k h1)
    have D0_1 := at_keep D0 (opL_k h1)
    have R_1 := rd_keep R (opL_k h1)
    have W1_1 := at_newL h1
    refine mm_skip (mm_call_mono _ _) 4 (st' := (54, [(4, .int (nI y1)), (3, .int (nI q)), (2, .int (nI p)), (0, .ref 0), (1, .int (nI o))], [.int (nI p), .ref 1], wC ov1 un1 (nI n1) (nI L.1) fa1 cu st fi se th db cn F, 0)) rfl ?_
    refine mm_inv (mm_call_mono _ _) (j := 41) (a := [.int (nI p)]) (M := wC ov1 un1 (nI n1) (nI L.1) fa1 cu st fi se th db cn F) (u := 0) rfl (by decide) (ct_C_xOf ?_)
    show mm_W _ _ _ _ _ _ _ (57, [(4, .int (nI y1)), (3, .int (nI q)), (2, .int (nI p)), (0, .ref 0), (1, .int (nI o))], [.int (nI (8 + 12 * p)), .ref 1], wC ov1 un1 (nI n1) (nI L.1) fa1 cu st fi se th db cn F, 0)
    refine mm_skip (mm_call_mono _ _) 1 (st' := (58, [(4, .int (nI y1)), (3, .int (nI q)), (2, .int (nI p)), (0, .ref 0), (1, .int (nI o))], [.int (nI q), .int (nI (8 + 12 * p)), .ref 1], wC ov1 un1 (nI n1) (nI L.1) fa1 cu st fi se th db cn F, 0)) rfl ?_
    refine mm_inv (mm_call_mono _ _) (j := 41) (a := [.int (nI q)]) (M := wC ov1 un1 (nI n1) (nI L.1) fa1 cu st fi se th db cn F) (u := 0) rfl (by decide) (ct_C_xOf ?_)
    show mm_W _ _ _ _ _ _ _ (61, [(4, .int (nI y1)), (3, .int (nI q)), (2, .int (nI p)), (0, .ref 0), (1, .int (nI o))], [.int (nI (8 + 12 * q)), .int (nI (8 + 12 * p)), .ref 1], wC ov1 un1 (nI n1) (nI L.1) fa1 cu st fi se th db cn F, 0)
    refine mm_inv (mm_call_mono _ _) (j := 130) (a := [.ref 1, .int (nI (8 + 12 * p)), .int (nI (8 + 12 * q))]) (M := wC ov1 un1 (nI n1) (nI L.1) fa1 cu st fi se th db cn F) (u := 0) rfl (by decide) (gw_minus hl s1.2.1 s1.1 A0_1 C0_1 (fun ov2 un2 n2 fa2 y2 h2 => ?_))
    show mm_W _ _ _ _ _ _ _ (64, [(4, .int (nI y1)), (3, .int (nI q)), (2, .int (nI p)), (0, .ref 0), (1, .int (nI o))], [.int (nI y2)], wC ov2 un2 (nI n2) (nI L.1) fa2 cu st fi se th db cn F, 0)
    have s2 := sto_L s1 h2
    have F2 := sto_f s1 F1 E1 h2 (by omega)
    have E2 := sqL_e E1 h2
    have g2 := h2.1.1
    have A0_2 := at_keep A0_1 (opL_k h2)
    have B0_2 := at_keep B0_1 (opL_k h2)
    have C0_2 := at_keep C0_1 (opL_k h2)
    have D0_2 := at_keep D0_1 (opL_k h2)
    have W1_2 := at_keep W1_1 (opL_k h2)
    have R_2 := rd_keep R_1 (opL_k h2)
    have W2_2 := at_newL h2
    refine mm_skip (mm_call_mono _ _) 5 (st' := (73, [(5, .int (nI y2)), (4, .int (nI y1)), (3, .int (nI q)), (2, .int (nI p)), (0, .ref 0), (1, .int (nI o))], [.int (nI o), .int (nI y1), .ref 1], wC ov2 un2 (nI n2) (nI L.1) fa2 cu st fi se th db cn F, 0)) rfl ?_
    refine mm_inv (mm_call_mono _ _) (j := 43) (a := [.int (nI o)]) (M := wC ov2 un2 (nI n2) (nI L.1) fa2 cu st fi se th db cn F) (u := 0) rfl (by decide) (ct_C_lineA ?_)
    show mm_W _ _ _ _ _ _ _ (76, [(5, .int (nI y2)), (4, .int (nI y1)), (3, .int (nI q)), (2, .int (nI p)), (0, .ref 0), (1, .int (nI o))], [.int (nI (8 + 12 * o)), .int (nI y1), .ref 1], wC ov2 un2 (nI n2) (nI L.1) fa2 cu st fi se th db cn F, 0)
    refine mm_inv (mm_call_mono _ _) (j := 124) (a := [.ref 1, .int (nI y1), .int (nI (8 + 12 * o))]) (M := wC ov2 un2 (nI n2) (nI L.1) fa2 cu st fi se th db cn F) (u := 0) rfl (by decide) (gw_copy (x := y1) (y := 8 + 12 * o) W1_2.1.1 (by omega) (fun ov3 un3 c3 => ?_))
    show mm_W _ _ _ _ _ _ _ (79, [(5, .int (nI y2)), (4, .int (nI y1)), (3, .int (nI q)), (2, .int (nI p)), (0, .ref 0), (1, .int (nI o))], [], wC ov3 un3 (nI n2) (nI L.1) fa2 cu st fi se th db cn F, 0)
    have s3 := sto_cp s2 c3 (fun k q1 q2 => hZ k (by omega) (by omega))
    have F3 := F2
    have E3 := E2
    have A0_3 := at_cp A0_2 c3 (by omega)
    have B0_3 := at_cp B0_2 c3 (by omega)
    have C0_3 := at_cp C0_2 c3 (by omega)
    have D0_3 := at_cp D0_2 c3 (by omega)
    have W1_3 := at_cp W1_2 c3 (by omega)
    have W2_3 := at_cp W2_2 c3 (by omega)
    have R_3 := rd_cp R_2 c3 (by omega)
    have K3_3 := at_cn W1_2 c3 (by omega) s2.1.1
    refine mm_skip (mm_call_mono _ _) 4 (st' := (86, [(5, .int (nI y2)), (4, .int (nI y1)), (3, .int (nI q)), (2, .int (nI p)), (0, .ref 0), (1, .int (nI o))], [.int (nI o), .int (nI y2), .ref 1], wC ov3 un3 (nI n2) (nI L.1) fa2 cu st fi se th db cn F, 0)) rfl ?_
    refine mm_inv (mm_call_mono _ _) (j := 44) (a := [.int (nI o)]) (M := wC ov3 un3 (nI n2) (nI L.1) fa2 cu st fi se th db cn F) (u := 0) rfl (by decide) (ct_C_lineB ?_)
    show mm_W _ _ _ _ _ _ _ (89, [(5, .int (nI y2)), (4, .int (nI y1)), (3, .int (nI q)), (2, .int (nI p)), (0, .ref 0), (1, .int (nI o))], [.int (nI (12 + 12 * o)), .int (nI y2), .ref 1], wC ov3 un3 (nI n2) (nI L.1) fa2 cu st fi se th db cn F, 0)
    refine mm_inv (mm_call_mono _ _) (j := 124) (a := [.ref 1, .int (nI y2), .int (nI (12 + 12 * o))]) (M := wC ov3 un3 (nI n2) (nI L.1) fa2 cu st fi se th db cn F) (u := 0) rfl (by decide) (gw_copy (x := y2) (y := 12 + 12 * o) W2_3.1.1 (by omega) (fun ov4 un4 c4 => ?_))
    show mm_W _ _ _ _ _ _ _ (92, [(5, .int (nI y2)), (4, .int (nI y1)), (3, .int (nI q)), (2, .int (nI p)), (0, .ref 0), (1, .int (nI o))], [], wC ov4 un4 (nI n2) (nI L.1) fa2 cu st fi se th db cn F, 0)
    have s4 := sto_cp s3 c4 (fun k q1 q2 => hZ k (by omega) (by omega))
    have F4 := F3
    have E4 := E3
    have A0_4 := at_cp A0_3 c4 (by omega)
    have B0_4 := at_cp B0_3 c4 (by omega)
    have C0_4 := at_cp C0_3 c4 (by omega)
    have D0_4 := at_cp D0_3 c4 (by omega)
    have W1_4 := at_cp W1_3 c4 (by omega)
    have W2_4 := at_cp W2_3 c4 (by omega)
    have K3_4 := at_cp K3_3 c4 (by omega)
    have R_4 := rd_cp R_3 c4 (by omega)
    have K4_4 := at_cn W2_3 c4 (by omega) s3.1.1
    refine mm_skip (mm_call_mono _ _) 8 (st' := (107, [(5, .int (nI y2)), (4, .int (nI y1)), (3, .int (nI q)), (2, .int (nI p)), (0, .ref 0), (1, .int (nI o))], [.int (nI p), .int (nI y1), .ref 1, .ref 1, .ref 1], wC ov4 un4 (nI n2) (nI L.1) fa2 cu st fi se th db cn F, 0)) rfl ?_
    refine mm_inv (mm_call_mono _ _) (j := 41) (a := [.int (nI p)]) (M := wC ov4 un4 (nI n2) (nI L.1) fa2 cu st fi se th db cn F) (u := 0) rfl (by decide) (ct_C_xOf ?_)
    show mm_W _ _ _ _ _ _ _ (110, [(5, .int (nI y2)), (4, .int (nI y1)), (3, .int (nI q)), (2, .int (nI p)), (0, .ref 0), (1, .int (nI o))], [.int (nI (8 + 12 * p)), .int (nI y1), .ref 1, .ref 1, .ref 1], wC ov4 un4 (nI n2) (nI L.1) fa2 cu st fi se th db cn F, 0)
    refine mm_inv (mm_call_mono _ _) (j := 131) (a := [.ref 1, .int (nI y1), .int (nI (8 + 12 * p))]) (M := wC ov4 un4 (nI n2) (nI L.1) fa2 cu st fi se th db cn F) (u := 0) rfl (by decide) (gw_times hl s4.2.1 s4.1 R_4 W1_4 A0_4 (fun ov5 un5 n5 fa5 y5 h5 => ?_))
    show mm_W _ _ _ _ _ _ _ (113, [(5, .int (nI y2)), (4, .int (nI y1)), (3, .int (nI q)), (2, .int (nI p)), (0, .ref 0), (1, .int (nI o))], [.int (nI y5), .ref 1, .ref 1], wC ov5 un5 (nI n5) (nI L.1) fa5 cu st fi se th db cn F, 0)
    have s5 := sto_L s4 h5
    have F5 := sto_f s4 F4 E4 h5 (by omega)
    have E5 := sqL_e E4 h5
    have g5 := h5.1.1
    have A0_5 := at_keep A0_4 (opL_k h5)
    have B0_5 := at_keep B0_4 (opL_k h5)
    have C0_5 := at_keep C0_4 (opL_k h5)
    have D0_5 := at_keep D0_4 (opL_k h5)
    have W1_5 := at_keep W1_4 (opL_k h5)
    have W2_5 := at_keep W2_4 (opL_k h5)
    have K3_5 := at_keep K3_4 (opL_k h5)
    have K4_5 := at_keep K4_4 (opL_k h5)
    have R_5 := rd_keep R_4 (opL_k h5)
    have W5_5 := at_newL h5
    refine mm_skip (mm_call_mono _ _) 4 (st' := (120, [(5, .int (nI y2)), (4, .int (nI y1)), (3, .int (nI q)), (2, .int (nI p)), (0, .ref 0), (1, .int (nI o))], [.int (nI p), .int (nI y2), .ref 1, .int (nI y5), .ref 1, .ref 1], wC ov5 un5 (nI n5) (nI L.1) fa5 cu st fi se th db cn F, 0)) rfl ?_
    refine mm_inv (mm_call_mono _ _) (j := 42) (a := [.int (nI p)]) (M := wC ov5 un5 (nI n5) (nI L.1) fa5 cu st fi se th db cn F) (u := 0) rfl (by decide) (ct_C_yOf ?_)
    show mm_W _ _ _ _ _ _ _ (123, [(5, .int (nI y2)), (4, .int (nI y1)), (3, .int (nI q)), (2, .int (nI p)), (0, .ref 0), (1, .int (nI o))], [.int (nI (12 + 12 * p)), .int (nI y2), .ref 1, .int (nI y5), .ref 1, .ref 1], wC ov5 un5 (nI n5) (nI L.1) fa5 cu st fi se th db cn F, 0)
    refine mm_inv (mm_call_mono _ _) (j := 131) (a := [.ref 1, .int (nI y2), .int (nI (12 + 12 * p))]) (M := wC ov5 un5 (nI n5) (nI L.1) fa5 cu st fi se th db cn F) (u := 0) rfl (by decide) (gw_times hl s5.2.1 s5.1 R_5 W2_5 B0_5 (fun ov6 un6 n6 fa6 y6 h6 => ?_))
    show mm_W _ _ _ _ _ _ _ (126, [(5, .int (nI y2)), (4, .int (nI y1)), (3, .int (nI q)), (2, .int (nI p)), (0, .ref 0), (1, .int (nI o))], [.int (nI y6), .int (nI y5), .ref 1, .ref 1], wC ov6 un6 (nI n6) (nI L.1) fa6 cu st fi se th db cn F, 0)
    have s6 := sto_L s5 h6
    have F6 := sto_f s5 F5 E5 h6 (by omega)
    have E6 := sqL_e E5 h6
    have g6 := h6.1.1
    have A0_6 := at_keep A0_5 (opL_k h6)
    have B0_6 := at_keep B0_5 (opL_k h6)
    have C0_6 := at_keep C0_5 (opL_k h6)
    have D0_6 := at_keep D0_5 (opL_k h6)
    have W1_6 := at_keep W1_5 (opL_k h6)
    have W2_6 := at_keep W2_5 (opL_k h6)
    have K3_6 := at_keep K3_5 (opL_k h6)
    have K4_6 := at_keep K4_5 (opL_k h6)
    have W5_6 := at_keep W5_5 (opL_k h6)
    have R_6 := rd_keep R_5 (opL_k h6)
    have W6_6 := at_newL h6
    refine mm_inv (mm_call_mono _ _) (j := 129) (a := [.ref 1, .int (nI y5), .int (nI y6)]) (M := wC ov6 un6 (nI n6) (nI L.1) fa6 cu st fi se th db cn F) (u := 0) rfl (by decide) (gw_plus hl s6.2.1 s6.1 W5_6 W6_6 (fun ov7 un7 n7 fa7 y7 h7 => ?_))
    show mm_W _ _ _ _ _ _ _ (129, [(5, .int (nI y2)), (4, .int (nI y1)), (3, .int (nI q)), (2, .int (nI p)), (0, .ref 0), (1, .int (nI o))], [.int (nI y7), .ref 1], wC ov7 un7 (nI n7) (nI L.1) fa7 cu st fi se th db cn F, 0)
    have s7 := sto_L s6 h7
    have F7 := sto_f s6 F6 E6 h7 (by omega)
    have E7 := sqL_e E6 h7
    have g7 := h7.1.1
    have A0_7 := at_keep A0_6 (opL_k h7)
    have B0_7 := at_keep B0_6 (opL_k h7)
    have C0_7 := at_keep C0_6 (opL_k h7)
    have D0_7 := at_keep D0_6 (opL_k h7)
    have W1_7 := at_keep W1_6 (opL_k h7)
    have W2_7 := at_keep W2_6 (opL_k h7)
    have K3_7 := at_keep K3_6 (opL_k h7)
    have K4_7 := at_keep K4_6 (opL_k h7)
    have W5_7 := at_keep W5_6 (opL_k h7)
    have W6_7 := at_keep W6_6 (opL_k h7)
    have R_7 := rd_keep R_6 (opL_k h7)
    have W7_7 := at_newL h7
    refine mm_skip (mm_call_mono _ _) 1 (st' := (130, [(5, .int (nI y2)), (4, .int (nI y1)), (3, .int (nI q)), (2, .int (nI p)), (0, .ref 0), (1, .int (nI o))], [.int (nI o), .int (nI y7), .ref 1], wC ov7 un7 (nI n7) (nI L.1) fa7 cu st fi se th db cn F, 0)) rfl ?_
    refine mm_inv (mm_call_mono _ _) (j := 45) (a := [.int (nI o)]) (M := wC ov7 un7 (nI n7) (nI L.1) fa7 cu st fi se th db cn F) (u := 0) rfl (by decide) (ct_C_lineC ?_)
    show mm_W _ _ _ _ _ _ _ (133, [(5, .int (nI y2)), (4, .int (nI y1)), (3, .int (nI q)), (2, .int (nI p)), (0, .ref 0), (1, .int (nI o))], [.int (nI (16 + 12 * o)), .int (nI y7), .ref 1], wC ov7 un7 (nI n7) (nI L.1) fa7 cu st fi se th db cn F, 0)
    refine mm_inv (mm_call_mono _ _) (j := 124) (a := [.ref 1, .int (nI y7), .int (nI (16 + 12 * o))]) (M := wC ov7 un7 (nI n7) (nI L.1) fa7 cu st fi se th db cn F) (u := 0) rfl (by decide) (gw_copy (x := y7) (y := 16 + 12 * o) W7_7.1.1 (by omega) (fun ov8 un8 c8 => ?_))
    show mm_W _ _ _ _ _ _ _ (136, [(5, .int (nI y2)), (4, .int (nI y1)), (3, .int (nI q)), (2, .int (nI p)), (0, .ref 0), (1, .int (nI o))], [], wC ov8 un8 (nI n7) (nI L.1) fa7 cu st fi se th db cn F, 0)
    have s8 := sto_cp s7 c8 (fun k q1 q2 => hZ k (by omega) (by omega))
    have F8 := F7
    have E8 := E7
    have A0_8 := at_cp A0_7 c8 (by omega)
    have B0_8 := at_cp B0_7 c8 (by omega)
    have C0_8 := at_cp C0_7 c8 (by omega)
    have D0_8 := at_cp D0_7 c8 (by omega)
    have W1_8 := at_cp W1_7 c8 (by omega)
    have W2_8 := at_cp W2_7 c8 (by omega)
    have K3_8 := at_cp K3_7 c8 (by omega)
    have K4_8 := at_cp K4_7 c8 (by omega)
    have W5_8 := at_cp W5_7 c8 (by omega)
    have W6_8 := at_cp W6_7 c8 (by omega)
    have W7_8 := at_cp W7_7 c8 (by omega)
    have R_8 := rd_cp R_7 c8 (by omega)
    have K8_8 := at_cn W7_7 c8 (by omega) s7.1.1
    exact mm_ret (mm_call_mono _ _) (c := True) (r := .inl none) (M := wC ov8 un8 (nI n7) (nI L.1) fa7 cu st fi se th db cn F) (u := 0) rfl trivial (by decide) (hQ _ _ _ _ (dr_of s8 hl R_8 E8 F8 (fun h0 => ⟨kp_at K3_8 h0, fun _ => kp_at K4_8 h0, fun _ => kp_at K8_8 h0⟩)))
  · skip
    refine mm_skip (mm_call_mono _ _) 3 (st' := (28, [(3, .int (nI q)), (2, .int (nI p)), (0, .ref 0), (1, .int (nI o))], [.int 1, .ref 1], wC ov un (nI 308) (nI L.1) 0 cu st fi se th db cn F, 0)) rfl ?_
    refine mm_need (mm_call_mono _ _) (c := mm_z 1) (s' := (31, [(3, .int (nI q)), (2, .int (nI p)), (0, .ref 0), (1, .int (nI o))], [], wC ov un (nI 308) (nI L.1) 1 cu st fi se th db cn F, 0)) rfl (by unfold mm_z; decide) ?_
    exact mm_ret (mm_call_mono _ _) (c := True) (r := .inl none) (M := wC ov un (nI 308) (nI L.1) 1 cu st fi se th db cn F) (u := 0) rfl trivial (by decide) (hQ _ _ _ _ (dr_f (if_pos (bz_1 z1))))

set_option maxRecDepth 100000 in
theorem gd_drawCircle {d : Nat} {ov un : Nat → Int32}  {cu : mm_cu} {st fi se th db : Nat → Int32} {cn : Int32} {F : mm_M} {o p q : Nat} {xp yp xq yq : n4} {L : lvR} {Q : mm_R → mm_M → Prop} (hl : L.1 ≤ 2) (ho : o < 24) (hp : p < o) (hq : q < o) (hse : se o = nI p) (hth : th o = nI q) (R : rdA ov un 308 0 L) (A : kp ov un (8 + 12 * p) xp) (B : kp ov un (12 + 12 * p) yp) (C : kp ov un (8 + 12 * q) xq) (D : kp ov un (12 + 12 * q) yq) (hQ : ∀ (ov1 un1 : Nat → Int32) (n1 : Nat) (fa1 : Int32), drR ov un L.1 o 1 (mCirc L xp yp xq yq) ov1 un1 n1 fa1 L → Q (.inl none) (wC ov1 un1 (nI n1) (nI L.1) fa1 cu st fi se th db cn F)) : mm_call mm_Tb (d + 8) 29 [.ref 0, .int (nI o)] (wC ov un (nI 308) (nI L.1) 0 cu st fi se th db cn F) Q := by
  have hZ : ∀ k, 8 + 12 * o ≤ k → k < 20 + 12 * o → zd L.1 o k := fun k h1 h2 => Or.inr ⟨h1, h2⟩
  have s0 := sto_0 (Z := zd L.1 o) (ov := ov) (un := un)
  have A0 := at_kp (n := 308) (fa := 0) A (by omega) (Nat.le_refl _)
  have B0 := at_kp (n := 308) (fa := 0) B (by omega) (Nat.le_refl _)
  have C0 := at_kp (n := 308) (fa := 0) C (by omega) (Nat.le_refl _)
  have D0 := at_kp (n := 308) (fa := 0) D (by omega) (Nat.le_refl _)
  have F0 : (0 : Int32) = 1 → mCirc L xp yp xq yq = none := fun h => absurd h.symm z10
  have E0 : (0 : Int32) = 0 → mCirc L xp yp xq yq = Option.bind (xdist L xp yp xq yq) _ := fun _ => rfl
  refine mm_in mt_29 (Nat.le_of_ble_eq_true rfl) ?_
  show mm_W _ _ _ _ _ _ _ (0, [(0, .ref 0), (1, .int (nI o))], [], wC ov un (nI 308) (nI L.1) 0 cu st fi se th db cn F, 0)
  refine mm_skip (mm_call_mono _ _) 4 (st' := (6, [(0, .ref 0), (1, .int (nI o))], [.int (nI o), .ref 5, .ref 0], wC ov un (nI 308) (nI L.1) 0 cu st fi se th db cn F, 0)) rfl ?_
  refine mm_need (mm_call_mono _ _) (c := vp_in (nI o) 24) (s' := (7, [(0, .ref 0), (1, .int (nI o))], [.int (se (Int32.toNatClampNeg (nI o))), .ref 0], wC ov un (nI 308) (nI L.1) 0 cu st fi se th db cn F, 0)) rfl (vp_in_nI (show o < 24 by omega) (by decide)) ?_
  rw [nI_clamp (show o < 2 ^ 31 by omega)]
  show mm_W _ _ _ _ _ _ _ (7, [(0, .ref 0), (1, .int (nI o))], [.int (se o), .ref 0], wC ov un (nI 308) (nI L.1) 0 cu st fi se th db cn F, 0)
  rw [hse]
  show mm_W _ _ _ _ _ _ _ (7, [(0, .ref 0), (1, .int (nI o))], [.int (nI p), .ref 0], wC ov un (nI 308) (nI L.1) 0 cu st fi se th db cn F, 0)
  refine mm_skip (mm_call_mono _ _) 3 (st' := (12, [(0, .ref 0), (1, .int (nI o))], [.int (nI o), .ref 6, .int (nI p), .ref 0], wC ov un (nI 308) (nI L.1) 0 cu st fi se th db cn F, 0)) rfl ?_
  refine mm_need (mm_call_mono _ _) (c := vp_in (nI o) 24) (s' := (13, [(0, .ref 0), (1, .int (nI o))], [.int (th (Int32.toNatClampNeg (nI o))), .int (nI p), .ref 0], wC ov un (nI 308) (nI L.1) 0 cu st fi se th db cn F, 0)) rfl (vp_in_nI (show o < 24 by omega) (by decide)) ?_
  rw [nI_clamp (show o < 2 ^ 31 by omega)]
  show mm_W _ _ _ _ _ _ _ (13, [(0, .ref 0), (1, .int (nI o))], [.int (th o), .int (nI p), .ref 0], wC ov un (nI 308) (nI L.1) 0 cu st fi se th db cn F, 0)
  rw [hth]
  show mm_W _ _ _ _ _ _ _ (13, [(0, .ref 0), (1, .int (nI o))], [.int (nI q), .int (nI p), .ref 0], wC ov un (nI 308) (nI L.1) 0 cu st fi se th db cn F, 0)
  refine mm_inv (mm_call_mono _ _) (j := 38) (a := [.ref 0, .int (nI p), .int (nI q)]) (M := wC ov un (nI 308) (nI L.1) 0 cu st fi se th db cn F) (u := 0) rfl (by decide) (gd_sqd hl s0.2.1 s0.1 R A0 B0 C0 D0 (fun ov1 un1 n1 fa1 y1 h1 => ?_))
  show mm_W _ _ _ _ _ _ _ (16, [(0, .ref 0), (1, .int (nI o))], [.int (nI y1)], wC ov1 un1 (nI n1) (nI L.1) fa1 cu st fi se th db cn F, 0)
  have s1 := sto_L s0 h1
  have F1 := sto_f s0 F0 E0 h1 (by omega)
  have E1 := sqL_e E0 h1
  have g1 := h1.1.1
  have A0_1 := at_keep A0 (opL_k h1)
  have B0_1 := at_keep B0 (opL_k h1)
  have C0_1 := at_keep C0 (opL_k h1)
  have D0_1 := at_keep D0 (opL_k h1)
  have R_1 := rd_keep R (opL_k h1)
  have W1_1 := at_newL h1
  refine mm_skip (mm_call_mono _ _) 4 (st' := (22, [(2, .int (nI y1)), (0, .ref 0), (1, .int (nI o))], [.int (nI y1), .ref 1], wC ov1 un1 (nI n1) (nI L.1) fa1 cu st fi se th db cn F, 0)) rfl ?_
  refine mm_inv (mm_call_mono _ _) (j := 126) (a := [.ref 1, .int (nI y1)]) (M := wC ov1 un1 (nI n1) (nI L.1) fa1 cu st fi se th db cn F) (u := 0) rfl (by decide) (ct_N_isNought (x := y1) W1_1.1.1 ?_)
  show mm_W _ _ _ _ _ _ _ (25, [(2, .int (nI y1)), (0, .ref 0), (1, .int (nI o))], [.int (bz (isz 4 ov1 y1))], wC ov1 un1 (nI n1) (nI L.1) fa1 cu st fi se th db cn F, 0)
  refine mm_branch (mm_call_mono _ _) (c := (bz (isz 4 ov1 y1)) = 0) (s1 := (37, [(2, .int (nI y1)), (0, .ref 0), (1, .int (nI o))], [], wC ov1 un1 (nI n1) (nI L.1) fa1 cu st fi se th db cn F, 0)) (s2 := (28, [(2, .int (nI y1)), (0, .ref 0), (1, .int (nI o))], [], wC ov1 un1 (nI n1) (nI L.1) fa1 cu st fi se th db cn F, 0)) rfl (fun z1 => ?_) (fun z1 => ?_)
  · skip
    refine mm_skip (mm_call_mono _ _) 4 (st' := (43, [(2, .int (nI y1)), (0, .ref 0), (1, .int (nI o))], [.int (nI o), .int (nI y1), .ref 1], wC ov1 un1 (nI n1) (nI L.1) fa1 cu st fi se th db cn F, 0)) rfl ?_
    refine mm_inv (mm_call_mono _ _) (j := 46) (a := [.int (nI o)]) (M := wC ov1 un1 (nI n1) (nI L.1) fa1 cu st fi se th db cn F) (u := 0) rfl (by decide) (ct_C_squareOf ?_)
    show mm_W _ _ _ _ _ _ _ (46, [(2, .int (nI y1)), (0, .ref 0), (1, .int (nI o))], [.int (nI (8 + 12 * o)), .int (nI y1), .ref 1], wC ov1 un1 (nI n1) (nI L.1) fa1 cu st fi se th db cn F, 0)
    refine mm_inv (mm_call_mono _ _) (j := 124) (a := [.ref 1, .int (nI y1), .int (nI (8 + 12 * o))]) (M := wC ov1 un1 (nI n1) (nI L.1) fa1 cu st fi se th db cn F) (u := 0) rfl (by decide) (gw_copy (x := y1) (y := 8 + 12 * o) W1_1.1.1 (by omega) (fun ov2 un2 c2 => ?_))
    show mm_W _ _ _ _ _ _ _ (49, [(2, .int (nI y1)), (0, .ref 0), (1, .int (nI o))], [], wC ov2 un2 (nI n1) (nI L.1) fa1 cu st fi se th db cn F, 0)
    have s2 := sto_cp s1 c2 (fun k q1 q2 => hZ k (by omega) (by omega))
    have F2 := F1
    have E2 := E1
    have A0_2 := at_cp A0_1 c2 (by omega)
    have B0_2 := at_cp B0_1 c2 (by omega)
    have C0_2 := at_cp C0_1 c2 (by omega)
    have D0_2 := at_cp D0_1 c2 (by omega)
    have W1_2 := at_cp W1_1 c2 (by omega)
    have R_2 := rd_cp R_1 c2 (by omega)
    have K2_2 := at_cn W1_1 c2 (by omega) s1.1.1
    have E2 : fa1 = 0 → mCirc L xp yp xq yq = some ((r4 ov1 un1 y1, zz, zz), L) := fun h0 => (E1 h0).trans (if_neg (fun z => bz_0 z1 (isz_r4.mpr z)))
    exact mm_ret (mm_call_mono _ _) (c := True) (r := .inl none) (M := wC ov2 un2 (nI n1) (nI L.1) fa1 cu st fi se th db cn F) (u := 0) rfl trivial (by decide) (hQ _ _ _ _ (dr_of s2 hl R_2 E2 F2 (fun h0 => ⟨kp_at K2_2 h0, fun q => absurd q (by decide), fun q => absurd q (by decide)⟩)))
  · skip
    refine mm_skip (mm_call_mono _ _) 3 (st' := (33, [(2, .int (nI y1)), (0, .ref 0), (1, .int (nI o))], [.int 1, .ref 1], wC ov1 un1 (nI n1) (nI L.1) fa1 cu st fi se th db cn F, 0)) rfl ?_
    refine mm_need (mm_call_mono _ _) (c := mm_z 1) (s' := (36, [(2, .int (nI y1)), (0, .ref 0), (1, .int (nI o))], [], wC ov1 un1 (nI n1) (nI L.1) 1 cu st fi se th db cn F, 0)) rfl (by unfold mm_z; decide) ?_
    exact mm_ret (mm_call_mono _ _) (c := True) (r := .inl none) (M := wC ov1 un1 (nI n1) (nI L.1) 1 cu st fi se th db cn F) (u := 0) rfl trivial (by decide) (hQ _ _ _ _ ⟨s1.1, Or.inr rfl, s1.2.2.1, fun h => absurd h z10, fun _ => s1.2.1.elim (fun h0 => (E1 h0).trans (if_pos (isz_r4.mp (bz_1 z1)))) F1⟩)

set_option maxRecDepth 100000 in
theorem gd_drawMiddle {d : Nat} {ov un : Nat → Int32}  {cu : mm_cu} {st fi se th db : Nat → Int32} {cn : Int32} {F : mm_M} {o p q : Nat} {xp yp xq yq : n4} {L : lvR} {Q : mm_R → mm_M → Prop} (hl : L.1 ≤ 2) (ho : o < 24) (hp : p < o) (hq : q < o) (hfi : fi o = nI p) (hse : se o = nI q) (R : rdA ov un 308 0 L) (A : kp ov un (8 + 12 * p) xp) (B : kp ov un (12 + 12 * p) yp) (C : kp ov un (8 + 12 * q) xq) (D : kp ov un (12 + 12 * q) yq) (hQ : ∀ (ov1 un1 : Nat → Int32) (n1 : Nat) (fa1 : Int32), drR ov un L.1 o 2 (mMid L xp yp xq yq) ov1 un1 n1 fa1 L → Q (.inl none) (wC ov1 un1 (nI n1) (nI L.1) fa1 cu st fi se th db cn F)) : mm_call mm_Tb (d + 7) 30 [.ref 0, .int (nI o)] (wC ov un (nI 308) (nI L.1) 0 cu st fi se th db cn F) Q := by
  have hZ : ∀ k, 8 + 12 * o ≤ k → k < 20 + 12 * o → zd L.1 o k := fun k h1 h2 => Or.inr ⟨h1, h2⟩
  have s0 := sto_0 (Z := zd L.1 o) (ov := ov) (un := un)
  have A0 := at_kp (n := 308) (fa := 0) A (by omega) (Nat.le_refl _)
  have B0 := at_kp (n := 308) (fa := 0) B (by omega) (Nat.le_refl _)
  have C0 := at_kp (n := 308) (fa := 0) C (by omega) (Nat.le_refl _)
  have D0 := at_kp (n := 308) (fa := 0) D (by omega) (Nat.le_refl _)
  have F0 : (0 : Int32) = 1 → mMid L xp yp xq yq = none := fun h => absurd h.symm z10
  have E0 : (0 : Int32) = 0 → mMid L xp yp xq yq = Option.bind (xadd L.1 xp xq) _ := fun _ => rfl
  refine mm_in mt_30 (Nat.le_of_ble_eq_true rfl) ?_
  show mm_W _ _ _ _ _ _ _ (0, [(0, .ref 0), (1, .int (nI o))], [], wC ov un (nI 308) (nI L.1) 0 cu st fi se th db cn F, 0)
  refine mm_skip (mm_call_mono _ _) 3 (st' := (5, [(0, .ref 0), (1, .int (nI o))], [.int (nI o), .ref 4], wC ov un (nI 308) (nI L.1) 0 cu st fi se th db cn F, 0)) rfl ?_
  refine mm_need (mm_call_mono _ _) (c := vp_in (nI o) 24) (s' := (6, [(0, .ref 0), (1, .int (nI o))], [.int (fi (Int32.toNatClampNeg (nI o)))], wC ov un (nI 308) (nI L.1) 0 cu st fi se th db cn F, 0)) rfl (vp_in_nI (show o < 24 by omega) (by decide)) ?_
  rw [nI_clamp (show o < 2 ^ 31 by omega)]
  show mm_W _ _ _ _ _ _ _ (6, [(0, .ref 0), (1, .int (nI o))], [.int (fi o)], wC ov un (nI 308) (nI L.1) 0 cu st fi se th db cn F, 0)
  rw [hfi]
  show mm_W _ _ _ _ _ _ _ (6, [(0, .ref 0), (1, .int (nI o))], [.int (nI p)], wC ov un (nI 308) (nI L.1) 0 cu st fi se th db cn F, 0)
  refine mm_skip (mm_call_mono _ _) 4 (st' := (12, [(2, .int (nI p)), (0, .ref 0), (1, .int (nI o))], [.int (nI o), .ref 5], wC ov un (nI 308) (nI L.1) 0 cu st fi se th db cn F, 0)) rfl ?_
  refine mm_need (mm_call_mono _ _) (c := vp_in (nI o) 24) (s' := (13, [(2, .int (nI p)), (0, .ref 0), (1, .int (nI o))], [.int (se (Int32.toNatClampNeg (nI o)))], wC ov un (nI 308) (nI L.1) 0 cu st fi se th db cn F, 0)) rfl (vp_in_nI (show o < 24 by omega) (by decide)) ?_
  rw [nI_clamp (show o < 2 ^ 31 by omega)]
  show mm_W _ _ _ _ _ _ _ (13, [(2, .int (nI p)), (0, .ref 0), (1, .int (nI o))], [.int (se o)], wC ov un (nI 308) (nI L.1) 0 cu st fi se th db cn F, 0)
  rw [hse]
  show mm_W _ _ _ _ _ _ _ (13, [(2, .int (nI p)), (0, .ref 0), (1, .int (nI o))], [.int (nI q)], wC ov un (nI 308) (nI L.1) 0 cu st fi se th db cn F, 0)
  refine mm_skip (mm_call_mono _ _) 8 (st' := (27, [(3, .int (nI q)), (2, .int (nI p)), (0, .ref 0), (1, .int (nI o))], [.int (nI p), .ref 1, .ref 1, .ref 1], wC ov un (nI 308) (nI L.1) 0 cu st fi se th db cn F, 0)) rfl ?_
  refine mm_inv (mm_call_mono _ _) (j := 41) (a := [.int (nI p)]) (M := wC ov un (nI 308) (nI L.1) 0 cu st fi se th db cn F) (u := 0) rfl (by decide) (ct_C_xOf ?_)
  show mm_W _ _ _ _ _ _ _ (30, [(3, .int (nI q)), (2, .int (nI p)), (0, .ref 0), (1, .int (nI o))], [.int (nI (8 + 12 * p)), .ref 1, .ref 1, .ref 1], wC ov un (nI 308) (nI L.1) 0 cu st fi se th db cn F, 0)
  refine mm_skip (mm_call_mono _ _) 1 (st' := (31, [(3, .int (nI q)), (2, .int (nI p)), (0, .ref 0), (1, .int (nI o))], [.int (nI q), .int (nI (8 + 12 * p)), .ref 1, .ref 1, .ref 1], wC ov un (nI 308) (nI L.1) 0 cu st fi se th db cn F, 0)) rfl ?_
  refine mm_inv (mm_call_mono _ _) (j := 41) (a := [.int (nI q)]) (M := wC ov un (nI 308) (nI L.1) 0 cu st fi se th db cn F) (u := 0) rfl (by decide) (ct_C_xOf ?_)
  show mm_W _ _ _ _ _ _ _ (34, [(3, .int (nI q)), (2, .int (nI p)), (0, .ref 0), (1, .int (nI o))], [.int (nI (8 + 12 * q)), .int (nI (8 + 12 * p)), .ref 1, .ref 1, .ref 1], wC ov un (nI 308) (nI L.1) 0 cu st fi se th db cn F, 0)
  refine mm_inv (mm_call_mono _ _) (j := 129) (a := [.ref 1, .int (nI (8 + 12 * p)), .int (nI (8 + 12 * q))]) (M := wC ov un (nI 308) (nI L.1) 0 cu st fi se th db cn F) (u := 0) rfl (by decide) (gw_plus hl s0.2.1 s0.1 A0 C0 (fun ov1 un1 n1 fa1 y1 h1 => ?_))
  show mm_W _ _ _ _ _ _ _ (37, [(3, .int (nI q)), (2, .int (nI p)), (0, .ref 0), (1, .int (nI o))], [.int (nI y1), .ref 1, .ref 1], wC ov1 un1 (nI n1) (nI L.1) fa1 cu st fi se th db cn F, 0)
  have s1 := sto_L s0 h1
  have F1 := sto_f s0 F0 E0 h1 (by omega)
  have E1 := sqL_e E0 h1
  have g1 := h1.1.1
  have A0_1 := at_keep A0 (opL_k h1)
  have B0_1 := at_keep B0 (opL_k h1)
  have C0_1 := at_keep C0 (opL_k h1)
  have D0_1 := at_keep D0 (opL_k h1)
  have R_1 := rd_keep R (opL_k h1)
  have W1_1 := at_newL h1
  refine mm_inv (mm_call_mono _ _) (j := 133) (a := [.ref 1, .int (nI y1)]) (M := wC ov1 un1 (nI n1) (nI L.1) fa1 cu st fi se th db cn F) (u := 0) rfl (by decide) (gw_halved hl s1.2.1 s1.1 W1_1 (fun ov2 un2 n2 fa2 y2 h2 => ?_))
  show mm_W _ _ _ _ _ _ _ (40, [(3, .int (nI q)), (2, .int (nI p)), (0, .ref 0), (1, .int (nI o))], [.int (nI y2), .ref 1], wC ov2 un2 (nI n2) (nI L.1) fa2 cu st fi se th db cn F, 0)
  have s2 := sto_L s1 h2
  have F2 := sto_f s1 F1 E1 h2 (by omega)
  have E2 := sqL_e E1 h2
  have g2 := h2.1.1
  have A0_2 := at_keep A0_1 (opL_k h2)
  have B0_2 := at_keep B0_1 (opL_k h2)
  have C0_2 := at_keep C0_1 (opL_k h2)
  have D0_2 := at_keep D0_1 (opL_k h2)
  have W1_2 := at_keep W1_1 (opL_k h2)
  have R_2 := rd_keep R_1 (opL_k h2)
  have W2_2 := at_newL h2
  refine mm_skip (mm_call_mono _ _) 1 (st' := (41, [(3, .int (nI q)), (2, .int (nI p)), (0, .ref 0), (1, .int (nI o))], [.int (nI o), .int (nI y2), .ref 1], wC ov2 un2 (nI n2) (nI L.1) fa2 cu st fi se th db cn F, 0)) rfl ?_
  refine mm_inv (mm_call_mono _ _) (j := 41) (a := [.int (nI o)]) (M := wC ov2 un2 (nI n2) (nI L.1) fa2 cu st fi se th db cn F) (u := 0) rfl (by decide) (ct_C_xOf ?_)
  show mm_W _ _ _ _ _ _ _ (44, [(3, .int (nI q)), (2, .int (nI p)), (0, .ref 0), (1, .int (nI o))], [.int (nI (8 + 12 * o)), .int (nI y2), .ref 1], wC ov2 un2 (nI n2) (nI L.1) fa2 cu st fi se th db cn F, 0)
  refine mm_inv (mm_call_mono _ _) (j := 124) (a := [.ref 1, .int (nI y2), .int (nI (8 + 12 * o))]) (M := wC ov2 un2 (nI n2) (nI L.1) fa2 cu st fi se th db cn F) (u := 0) rfl (by decide) (gw_copy (x := y2) (y := 8 + 12 * o) W2_2.1.1 (by omega) (fun ov3 un3 c3 => ?_))
  show mm_W _ _ _ _ _ _ _ (47, [(3, .int (nI q)), (2, .int (nI p)), (0, .ref 0), (1, .int (nI o))], [], wC ov3 un3 (nI n2) (nI L.1) fa2 cu st fi se th db cn F, 0)
  have s3 := sto_cp s2 c3 (fun k q1 q2 => hZ k (by omega) (by omega))
  have F3 := F2
  have E3 := E2
  have A0_3 := at_cp A0_2 c3 (by omega)
  have B0_3 := at_cp B0_2 c3 (by omega)
  have C0_3 := at_cp C0_2 c3 (by omega)
  have D0_3 := at_cp D0_2 c3 (by omega)
  have W1_3 := at_cp W1_2 c3 (by omega)
  have W2_3 := at_cp W2_2 c3 (by omega)
  have R_3 := rd_cp R_2 c3 (by omega)
  have K3_3 := at_cn W2_2 c3 (by omega) s2.1.1
  refine mm_skip (mm_call_mono _ _) 7 (st' := (60, [(3, .int (nI q)), (2, .int (nI p)), (0, .ref 0), (1, .int (nI o))], [.int (nI p), .ref 1, .ref 1, .ref 1], wC ov3 un3 (nI n2) (nI L.1) fa2 cu st fi se th db cn F, 0)) rfl ?_
  refine mm_inv (mm_call_mono _ _) (j := 42) (a := [.int (nI p)]) (M := wC ov3 un3 (nI n2) (nI L.1) fa2 cu st fi se th db cn F) (u := 0) rfl (by decide) (ct_C_yOf ?_)
  show mm_W _ _ _ _ _ _ _ (63, [(3, .int (nI q)), (2, .int (nI p)), (0, .ref 0), (1, .int (nI o))], [.int (nI (12 + 12 * p)), .ref 1, .ref 1, .ref 1], wC ov3 un3 (nI n2) (nI L.1) fa2 cu st fi se th db cn F, 0)
  refine mm_skip (mm_call_mono _ _) 1 (st' := (64, [(3, .int (nI q)), (2, .int (nI p)), (0, .ref 0), (1, .int (nI o))], [.int (nI q), .int (nI (12 + 12 * p)), .ref 1, .ref 1, .ref 1], wC ov3 un3 (nI n2) (nI L.1) fa2 cu st fi se th db cn F, 0)) rfl ?_
  refine mm_inv (mm_call_mono _ _) (j := 42) (a := [.int (nI q)]) (M := wC ov3 un3 (nI n2) (nI L.1) fa2 cu st fi se th db cn F) (u := 0) rfl (by decide) (ct_C_yOf ?_)
  show mm_W _ _ _ _ _ _ _ (67, [(3, .int (nI q)), (2, .int (nI p)), (0, .ref 0), (1, .int (nI o))], [.int (nI (12 + 12 * q)), .int (nI (12 + 12 * p)), .ref 1, .ref 1, .ref 1], wC ov3 un3 (nI n2) (nI L.1) fa2 cu st fi se th db cn F, 0)
  refine mm_inv (mm_call_mono _ _) (j := 129) (a := [.ref 1, .int (nI (12 + 12 * p)), .int (nI (12 + 12 * q))]) (M := wC ov3 un3 (nI n2) (nI L.1) fa2 cu st fi se th db cn F) (u := 0) rfl (by decide) (gw_plus hl s3.2.1 s3.1 B0_3 D0_3 (fun ov4 un4 n4 fa4 y4 h4 => ?_))
  show mm_W _ _ _ _ _ _ _ (70, [(3, .int (nI q)), (2, .int (nI p)), (0, .ref 0), (1, .int (nI o))], [.int (nI y4), .ref 1, .ref 1], wC ov4 un4 (nI n4) (nI L.1) fa4 cu st fi se th db cn F, 0)
  have s4 := sto_L s3 h4
  have F4 := sto_f s3 F3 E3 h4 (by omega)
  have E4 := sqL_e E3 h4
  have g4 := h4.1.1
  have A0_4 := at_keep A0_3 (opL_k h4)
  have B0_4 := at_keep B0_3 (opL_k h4)
  have C0_4 := at_keep C0_3 (opL_k h4)
  have D0_4 := at_keep D0_3 (opL_k h4)
  have W1_4 := at_keep W1_3 (opL_k h4)
  have W2_4 := at_keep W2_3 (opL_k h4)
  have K3_4 := at_keep K3_3 (opL_k h4)
  have R_4 := rd_keep R_3 (opL_k h4)
  have W4_4 := at_newL h4
  refine mm_inv (mm_call_mono _ _) (j := 133) (a := [.ref 1, .int (nI y4)]) (M := wC ov4 un4 (nI n4) (nI L.1) fa4 cu st fi se th db cn F) (u := 0) rfl (by decide) (gw_halved hl s4.2.1 s4.1 W4_4 (fun ov5 un5 n5 fa5 y5 h5 => ?_))
  show mm_W _ _ _ _ _ _ _ (73, [(3, .int (nI q)), (2, .int (nI p)), (0, .ref 0), (1, .int (nI o))], [.int (nI y5), .ref 1], wC ov5 un5 (nI n5) (nI L.1) fa5 cu st fi se th db cn F, 0)
  have s5 := sto_L s4 h5
  have F5 := sto_f s4 F4 E4 h5 (by omega)
  have E5 := sqL_e E4 h5
  have g5 := h5.1.1
  have A0_5 := at_keep A0_4 (opL_k h5)
  have B0_5 := at_keep B0_4 (opL_k h5)
  have C0_5 := at_keep C0_4 (opL_k h5)
  have D0_5 := at_keep D0_4 (opL_k h5)
  have W1_5 := at_keep W1_4 (opL_k h5)
  have W2_5 := at_keep W2_4 (opL_k h5)
  have K3_5 := at_keep K3_4 (opL_k h5)
  have W4_5 := at_keep W4_4 (opL_k h5)
  have R_5 := rd_keep R_4 (opL_k h5)
  have W5_5 := at_newL h5
  refine mm_skip (mm_call_mono _ _) 1 (st' := (74, [(3, .int (nI q)), (2, .int (nI p)), (0, .ref 0), (1, .int (nI o))], [.int (nI o), .int (nI y5), .ref 1], wC ov5 un5 (nI n5) (nI L.1) fa5 cu st fi se th db cn F, 0)) rfl ?_
  refine mm_inv (mm_call_mono _ _) (j := 42) (a := [.int (nI o)]) (M := wC ov5 un5 (nI n5) (nI L.1) fa5 cu st fi se th db cn F) (u := 0) rfl (by decide) (ct_C_yOf ?_)
  show mm_W _ _ _ _ _ _ _ (77, [(3, .int (nI q)), (2, .int (nI p)), (0, .ref 0), (1, .int (nI o))], [.int (nI (12 + 12 * o)), .int (nI y5), .ref 1], wC ov5 un5 (nI n5) (nI L.1) fa5 cu st fi se th db cn F, 0)
  refine mm_inv (mm_call_mono _ _) (j := 124) (a := [.ref 1, .int (nI y5), .int (nI (12 + 12 * o))]) (M := wC ov5 un5 (nI n5) (nI L.1) fa5 cu st fi se th db cn F) (u := 0) rfl (by decide) (gw_copy (x := y5) (y := 12 + 12 * o) W5_5.1.1 (by omega) (fun ov6 un6 c6 => ?_))
  show mm_W _ _ _ _ _ _ _ (80, [(3, .int (nI q)), (2, .int (nI p)), (0, .ref 0), (1, .int (nI o))], [], wC ov6 un6 (nI n5) (nI L.1) fa5 cu st fi se th db cn F, 0)
  have s6 := sto_cp s5 c6 (fun k q1 q2 => hZ k (by omega) (by omega))
  have F6 := F5
  have E6 := E5
  have A0_6 := at_cp A0_5 c6 (by omega)
  have B0_6 := at_cp B0_5 c6 (by omega)
  have C0_6 := at_cp C0_5 c6 (by omega)
  have D0_6 := at_cp D0_5 c6 (by omega)
  have W1_6 := at_cp W1_5 c6 (by omega)
  have W2_6 := at_cp W2_5 c6 (by omega)
  have K3_6 := at_cp K3_5 c6 (by omega)
  have W4_6 := at_cp W4_5 c6 (by omega)
  have W5_6 := at_cp W5_5 c6 (by omega)
  have R_6 := rd_cp R_5 c6 (by omega)
  have K6_6 := at_cn W5_5 c6 (by omega) s5.1.1
  exact mm_ret (mm_call_mono _ _) (c := True) (r := .inl none) (M := wC ov6 un6 (nI n5) (nI L.1) fa5 cu st fi se th db cn F) (u := 0) rfl trivial (by decide) (hQ _ _ _ _ (dr_of s6 hl R_6 E6 F6 (fun h0 => ⟨kp_at K3_6 h0, fun _ => kp_at K6_6 h0, fun q => absurd q (by decide)⟩)))

set_option maxRecDepth 100000 in
theorem gd_drawMeet {d : Nat} {ov un : Nat → Int32}  {cu : mm_cu} {st fi se th db : Nat → Int32} {cn : Int32} {F : mm_M} {o p q : Nat} {a1 b1 c1 a2 b2 c2 : n4} {L : lvR} {Q : mm_R → mm_M → Prop} (hl : L.1 ≤ 2) (ho : o < 24) (hp : p < o) (hq : q < o) (hfi : fi o = nI p) (hse : se o = nI q) (R : rdA ov un 308 0 L) (A : kp ov un (8 + 12 * p) a1) (B : kp ov un (12 + 12 * p) b1) (C : kp ov un (16 + 12 * p) c1) (D : kp ov un (8 + 12 * q) a2) (G : kp ov un (12 + 12 * q) b2) (H : kp ov un (16 + 12 * q) c2) (hQ : ∀ (ov1 un1 : Nat → Int32) (n1 : Nat) (fa1 : Int32), drR ov un L.1 o 2 (mMeet L a1 b1 c1 a2 b2 c2) ov1 un1 n1 fa1 L → Q (.inl none) (wC ov1 un1 (nI n1) (nI L.1) fa1 cu st fi se th db cn F)) : mm_call mm_Tb (d + 7) 31 [.ref 0, .int (nI o)] (wC ov un (nI 308) (nI L.1) 0 cu st fi se th db cn F) Q := by
  have hZ : ∀ k, 8 + 12 * o ≤ k → k < 20 + 12 * o → zd L.1 o k := fun k h1 h2 => Or.inr ⟨h1, h2⟩
  have s0 := sto_0 (Z := zd L.1 o) (ov := ov) (un := un)
  have A0 := at_kp (n := 308) (fa := 0) A (by omega) (Nat.le_refl _)
  have B0 := at_kp (n := 308) (fa := 0) B (by omega) (Nat.le_refl _)
  have C0 := at_kp (n := 308) (fa := 0) C (by omega) (Nat.le_refl _)
  have D0 := at_kp (n := 308) (fa := 0) D (by omega) (Nat.le_refl _)
  have G0 := at_kp (n := 308) (fa := 0) G (by omega) (Nat.le_refl _)
  have H0 := at_kp (n := 308) (fa := 0) H (by omega) (Nat.le_refl _)
  have F0 : (0 : Int32) = 1 → mMeet L a1 b1 c1 a2 b2 c2 = none := fun h => absurd h.symm z10
  have E0 : (0 : Int32) = 0 → mMeet L a1 b1 c1 a2 b2 c2 = Option.bind (xmul L a1 b2) _ := fun _ => rfl
  refine mm_in mt_31 (Nat.le_of_ble_eq_true rfl) ?_
  show mm_W _ _ _ _ _ _ _ (0, [(0, .ref 0), (1, .int (nI o))], [], wC ov un (nI 308) (nI L.1) 0 cu st fi se th db cn F, 0)
  refine mm_skip (mm_call_mono _ _) 3 (st' := (5, [(0, .ref 0), (1, .int (nI o))], [.int (nI o), .ref 4], wC ov un (nI 308) (nI L.1) 0 cu st fi se th db cn F, 0)) rfl ?_
  refine mm_need (mm_call_mono _ _) (c := vp_in (nI o) 24) (s' := (6, [(0, .ref 0), (1, .int (nI o))], [.int (fi (Int32.toNatClampNeg (nI o)))], wC ov un (nI 308) (nI L.1) 0 cu st fi se th db cn F, 0)) rfl (vp_in_nI (show o < 24 by omega) (by decide)) ?_
  rw [nI_clamp (show o < 2 ^ 31 by omega)]
  show mm_W _ _ _ _ _ _ _ (6, [(0, .ref 0), (1, .int (nI o))], [.int (fi o)], wC ov un (nI 308) (nI L.1) 0 cu st fi se th db cn F, 0)
  rw [hfi]
  show mm_W _ _ _ _ _ _ _ (6, [(0, .ref 0), (1, .int (nI o))], [.int (nI p)], wC ov un (nI 308) (nI L.1) 0 cu st fi se th db cn F, 0)
  refine mm_skip (mm_call_mono _ _) 4 (st' := (12, [(2, .int (nI p)), (0, .ref 0), (1, .int (nI o))], [.int (nI o), .ref 5], wC ov un (nI 308) (nI L.1) 0 cu st fi se th db cn F, 0)) rfl ?_
  refine mm_need (mm_call_mono _ _) (c := vp_in (nI o) 24) (s' := (13, [(2, .int (nI p)), (0, .ref 0), (1, .int (nI o))], [.int (se (Int32.toNatClampNeg (nI o)))], wC ov un (nI 308) (nI L.1) 0 cu st fi se th db cn F, 0)) rfl (vp_in_nI (show o < 24 by omega) (by decide)) ?_
  rw [nI_clamp (show o < 2 ^ 31 by omega)]
  show mm_W _ _ _ _ _ _ _ (13, [(2, .int (nI p)), (0, .ref 0), (1, .int (nI o))], [.int (se o)], wC ov un (nI 308) (nI L.1) 0 cu st fi se th db cn F, 0)
  rw [hse]
  show mm_W _ _ _ _ _ _ _ (13, [(2, .int (nI p)), (0, .ref 0), (1, .int (nI o))], [.int (nI q)], wC ov un (nI 308) (nI L.1) 0 cu st fi se th db cn F, 0)
  refine mm_skip (mm_call_mono _ _) 6 (st' := (23, [(3, .int (nI q)), (2, .int (nI p)), (0, .ref 0), (1, .int (nI o))], [.int (nI p), .ref 1, .ref 1], wC ov un (nI 308) (nI L.1) 0 cu st fi se th db cn F, 0)) rfl ?_
  refine mm_inv (mm_call_mono _ _) (j := 43) (a := [.int (nI p)]) (M := wC ov un (nI 308) (nI L.1) 0 cu st fi se th db cn F) (u := 0) rfl (by decide) (ct_C_lineA ?_)
  show mm_W _ _ _ _ _ _ _ (26, [(3, .int (nI q)), (2, .int (nI p)), (0, .ref 0), (1, .int (nI o))], [.int (nI (8 + 12 * p)), .ref 1, .ref 1], wC ov un (nI 308) (nI L.1) 0 cu st fi se th db cn F, 0)
  refine mm_skip (mm_call_mono _ _) 1 (st' := (27, [(3, .int (nI q)), (2, .int (nI p)), (0, .ref 0), (1, .int (nI o))], [.int (nI q), .int (nI (8 + 12 * p)), .ref 1, .ref 1], wC ov un (nI 308) (nI L.1) 0 cu st fi se th db cn F, 0)) rfl ?_
  refine mm_inv (mm_call_mono _ _) (j := 44) (a := [.int (nI q)]) (M := wC ov un (nI 308) (nI L.1) 0 cu st fi se th db cn F) (u := 0) rfl (by decide) (ct_C_lineB ?_)
  show mm_W _ _ _ _ _ _ _ (30, [(3, .int (nI q)), (2, .int (nI p)), (0, .ref 0), (1, .int (nI o))], [.int (nI (12 + 12 * q)), .int (nI (8 + 12 * p)), .ref 1, .ref 1], wC ov un (nI 308) (nI L.1) 0 cu st fi se th db cn F, 0)
  refine mm_inv (mm_call_mono _ _) (j := 131) (a := [.ref 1, .int (nI (8 + 12 * p)), .int (nI (12 + 12 * q))]) (M := wC ov un (nI 308) (nI L.1) 0 cu st fi se th db cn F) (u := 0) rfl (by decide) (gw_times hl s0.2.1 s0.1 R A0 G0 (fun ov1 un1 n1 fa1 y1 h1 => ?_))
  show mm_W _ _ _ _ _ _ _ (33, [(3, .int (nI q)), (2, .int (nI p)), (0, .ref 0), (1, .int (nI o))], [.int (nI y1), .ref 1], wC ov1 un1 (nI n1) (nI L.1) fa1 cu st fi se th db cn F, 0)
  have s1 := sto_L s0 h1
  have F1 := sto_f s0 F0 E0 h1 (by omega)
  have E1 := sqL_e E0 h1
  have g1 := h1.1.1
  have A0_1 := at_keep A0 (opL_k h1)
  have B0_1 := at_keep B0 (opL_k h1)
  have C0_1 := at_keep C0 (opL_k h1)
  have D0_1 := at_keep D0 (opL_k h1)
  have G0_1 := at_keep G0 (opL_k h1)
  have H0_1 := at_keep H0 (opL_k h1)
  have R_1 := rd_keep R (opL_k h1)
  have W1_1 := at_newL h1
  refine mm_skip (mm_call_mono _ _) 3 (st' := (38, [(3, .int (nI q)), (2, .int (nI p)), (0, .ref 0), (1, .int (nI o))], [.int (nI q), .ref 1, .int (nI y1), .ref 1], wC ov1 un1 (nI n1) (nI L.1) fa1 cu st fi se th db cn F, 0)) rfl ?_
  refine mm_inv (mm_call_mono _ _) (j := 43) (a := [.int (nI q)]) (M := wC ov1 un1 (nI n1) (nI L.1) fa1 cu st fi se th db cn F) (u := 0) rfl (by decide) (ct_C_lineA ?_)
  show mm_W _ _ _ _ _ _ _ (41, [(3, .int (nI q)), (2, .int (nI p)), (0, .ref 0), (1, .int (nI o))], [.int (nI (8 + 12 * q)), .ref 1, .int (nI y1), .ref 1], wC ov1 un1 (nI n1) (nI L.1) fa1 cu st fi se th db cn F, 0)
  refine mm_skip (mm_call_mono _ _) 1 (st' := (42, [(3, .int (nI q)), (2, .int (nI p)), (0, .ref 0), (1, .int (nI o))], [.int (nI p), .int (nI (8 + 12 * q)), .ref 1, .int (nI y1), .ref 1], wC ov1 un1 (nI n1) (nI L.1) fa1 cu st fi se th db cn F, 0)) rfl ?_
  refine mm_inv (mm_call_mono _ _) (j := 44) (a := [.int (nI p)]) (M := wC ov1 un1 (nI n1) (nI L.1) fa1 cu st fi se th db cn F) (u := 0) rfl (by decide) (ct_C_lineB ?_)
  show mm_W _ _ _ _ _ _ _ (45, [(3, .int (nI q)), (2, .int (nI p)), (0, .ref 0), (1, .int (nI o))], [.int (nI (12 + 12 * p)), .int (nI (8 + 12 * q)), .ref 1, .int (nI y1), .ref 1], wC ov1 un1 (nI n1) (nI L.1) fa1 cu st fi se th db cn F, 0)
  refine mm_inv (mm_call_mono _ _) (j := 131) (a := [.ref 1, .int (nI (8 + 12 * q)), .int (nI (12 + 12 * p))]) (M := wC ov1 un1 (nI n1) (nI L.1) fa1 cu st fi se th db cn F) (u := 0) rfl (by decide) (gw_times hl s1.2.1 s1.1 R_1 D0_1 B0_1 (fun ov2 un2 n2 fa2 y2 h2 => ?_))
  show mm_W _ _ _ _ _ _ _ (48, [(3, .int (nI q)), (2, .int (nI p)), (0, .ref 0), (1, .int (nI o))], [.int (nI y2), .int (nI y1), .ref 1], wC ov2 un2 (nI n2) (nI L.1) fa2 cu st fi se th db cn F, 0)
  have s2 := sto_L s1 h2
  have F2 := sto_f s1 F1 E1 h2 (by omega)
  have E2 := sqL_e E1 h2
  have g2 := h2.1.1
  have A0_2 := at_keep A0_1 (opL_k h2)
  have B0_2 := at_keep B0_1 (opL_k h2)
  have C0_2 := at_keep C0_1 (opL_k h2)
  have D0_2 := at_keep D0_1 (opL_k h2)
  have G0_2 := at_keep G0_1 (opL_k h2)
  have H0_2 := at_keep H0_1 (opL_k h2)
  have W1_2 := at_keep W1_1 (opL_k h2)
  have R_2 := rd_keep R_1 (opL_k h2)
  have W2_2 := at_newL h2
  refine mm_inv (mm_call_mono _ _) (j := 130) (a := [.ref 1, .int (nI y1), .int (nI y2)]) (M := wC ov2 un2 (nI n2) (nI L.1) fa2 cu st fi se th db cn F) (u := 0) rfl (by decide) (gw_minus hl s2.2.1 s2.1 W1_2 W2_2 (fun ov3 un3 n3 fa3 y3 h3 => ?_))
  show mm_W _ _ _ _ _ _ _ (51, [(3, .int (nI q)), (2, .int (nI p)), (0, .ref 0), (1, .int (nI o))], [.int (nI y3)], wC ov3 un3 (nI n3) (nI L.1) fa3 cu st fi se th db cn F, 0)
  have s3 := sto_L s2 h3
  have F3 := sto_f s2 F2 E2 h3 (by omega)
  have E3 := sqL_e E2 h3
  have g3 := h3.1.1
  have A0_3 := at_keep A0_2 (opL_k h3)
  have B0_3 := at_keep B0_2 (opL_k h3)
  have C0_3 := at_keep C0_2 (opL_k h3)
  have D0_3 := at_keep D0_2 (opL_k h3)
  have G0_3 := at_keep G0_2 (opL_k h3)
  have H0_3 := at_keep H0_2 (opL_k h3)
  have W1_3 := at_keep W1_2 (opL_k h3)
  have W2_3 := at_keep W2_2 (opL_k h3)
  have R_3 := rd_keep R_2 (opL_k h3)
  have W3_3 := at_newL h3
  refine mm_skip (mm_call_mono _ _) 4 (st' := (59, [(4, .int (nI y3)), (3, .int (nI q)), (2, .int (nI p)), (0, .ref 0), (1, .int (nI o))], [.int (nI y3), .ref 1], wC ov3 un3 (nI n3) (nI L.1) fa3 cu st fi se th db cn F, 0)) rfl ?_
  refine mm_inv (mm_call_mono _ _) (j := 134) (a := [.ref 1, .int (nI y3)]) (M := wC ov3 un3 (nI n3) (nI L.1) fa3 cu st fi se th db cn F) (u := 0) rfl (by decide) (gw_inverted hl s3.2.1 s3.1 R_3 W3_3 (fun ov4 un4 n4 fa4 y4 h4 => ?_))
  show mm_W _ _ _ _ _ _ _ (62, [(4, .int (nI y3)), (3, .int (nI q)), (2, .int (nI p)), (0, .ref 0), (1, .int (nI o))], [.int (nI y4)], wC ov4 un4 (nI n4) (nI L.1) fa4 cu st fi se th db cn F, 0)
  have s4 := sto_L s3 h4
  have F4 := sto_f s3 F3 E3 h4 (by omega)
  have E4 := sqL_e E3 h4
  have g4 := h4.1.1
  have A0_4 := at_keep A0_3 (opL_k h4)
  have B0_4 := at_keep B0_3 (opL_k h4)
  have C0_4 := at_keep C0_3 (opL_k h4)
  have D0_4 := at_keep D0_3 (opL_k h4)
  have G0_4 := at_keep G0_3 (opL_k h4)
  have H0_4 := at_keep H0_3 (opL_k h4)
  have W1_4 := at_keep W1_3 (opL_k h4)
  have W2_4 := at_keep W2_3 (opL_k h4)
  have W3_4 := at_keep W3_3 (opL_k h4)
  have R_4 := rd_keep R_3 (opL_k h4)
  have W4_4 := at_newL h4
  refine mm_skip (mm_call_mono _ _) 6 (st' := (73, [(5, .int (nI y4)), (4, .int (nI y3)), (3, .int (nI q)), (2, .int (nI p)), (0, .ref 0), (1, .int (nI o))], [.int (nI p), .ref 1, .ref 1], wC ov4 un4 (nI n4) (nI L.1) fa4 cu st fi se th db cn F, 0)) rfl ?_
  refine mm_inv (mm_call_mono _ _) (j := 45) (a := [.int (nI p)]) (M := wC ov4 un4 (nI n4) (nI L.1) fa4 cu st fi se th db cn F) (u := 0) rfl (by decide) (ct_C_lineC ?_)
  show mm_W _ _ _ _ _ _ _ (76, [(5, .int (nI y4)), (4, .int (nI y3)), (3, .int (nI q)), (2, .int (nI p)), (0, .ref 0), (1, .int (nI o))], [.int (nI (16 + 12 * p)), .ref 1, .ref 1], wC ov4 un4 (nI n4) (nI L.1) fa4 cu st fi se th db cn F, 0)
  refine mm_skip (mm_call_mono _ _) 1 (st' := (77, [(5, .int (nI y4)), (4, .int (nI y3)), (3, .int (nI q)), (2, .int (nI p)), (0, .ref 0), (1, .int (nI o))], [.int (nI q), .int (nI (16 + 12 * p)), .ref 1, .ref 1], wC ov4 un4 (nI n4) (nI L.1) fa4 cu st fi se th db cn F, 0)) rfl ?_
  refine mm_inv (mm_call_mono _ _) (j := 44) (a := [.int (nI q)]) (M := wC ov4 un4 (nI n4) (nI L.1) fa4 cu st fi se th db cn F) (u := 0) rfl (by decide) (ct_C_lineB ?_)
  show mm_W _ _ _ _ _ _ _ (80, [(5, .int (nI y4)), (4, .int (nI y3)), (3, .int (nI q)), (2, .int (nI p)), (0, .ref 0), (1, .int (nI o))], [.int (nI (12 + 12 * q)), .int (nI (16 + 12 * p)), .ref 1, .ref 1], wC ov4 un4 (nI n4) (nI L.1) fa4 cu st fi se th db cn F, 0)
  refine mm_inv (mm_call_mono _ _) (j := 131) (a := [.ref 1, .int (nI (16 + 12 * p)), .int (nI (12 + 12 * q))]) (M := wC ov4 un4 (nI n4) (nI L.1) fa4 cu st fi se th db cn F) (u := 0) rfl (by decide) (gw_times hl s4.2.1 s4.1 R_4 C0_4 G0_4 (fun ov5 un5 n5 fa5 y5 h5 => ?_))
  show mm_W _ _ _ _ _ _ _ (83, [(5, .int (nI y4)), (4, .int (nI y3)), (3, .int (nI q)), (2, .int (nI p)), (0, .ref 0), (1, .int (nI o))], [.int (nI y5), .ref 1], wC ov5 un5 (nI n5) (nI L.1) fa5 cu st fi se th db cn F, 0)
  have s5 := sto_L s4 h5
  have F5 := sto_f s4 F4 E4 h5 (by omega)
  have E5 := sqL_e E4 h5
  have g5 := h5.1.1
  have A0_5 := at_keep A0_4 (opL_k h5)
  have B0_5 := at_keep B0_4 (opL_k h5)
  have C0_5 := at_keep C0_4 (opL_k h5)
  have D0_5 := at_keep D0_4 (opL_k h5)
  have G0_5 := at_keep G0_4 (opL_k h5)
  have H0_5 := at_keep H0_4 (opL_k h5)
  have W1_5 := at_keep W1_4 (opL_k h5)
  have W2_5 := at_keep W2_4 (opL_k h5)
  have W3_5 := at_keep W3_4 (opL_k h5)
  have W4_5 := at_keep W4_4 (opL_k h5)
  have R_5 := rd_keep R_4 (opL_k h5)
  have W5_5 := at_newL h5
  refine mm_skip (mm_call_mono _ _) 3 (st' := (88, [(5, .int (nI y4)), (4, .int (nI y3)), (3, .int (nI q)), (2, .int (nI p)), (0, .ref 0), (1, .int (nI o))], [.int (nI q), .ref 1, .int (nI y5), .ref 1], wC ov5 un5 (nI n5) (nI L.1) fa5 cu st fi se th db cn F, 0)) rfl ?_
  refine mm_inv (mm_call_mono _ _) (j := 45) (a := [.int (nI q)]) (M := wC ov5 un5 (nI n5) (nI L.1) fa5 cu st fi se th db cn F) (u := 0) rfl (by decide) (ct_C_lineC ?_)
  show mm_W _ _ _ _ _ _ _ (91, [(5, .int (nI y4)), (4, .int (nI y3)), (3, .int (nI q)), (2, .int (nI p)), (0, .ref 0), (1, .int (nI o))], [.int (nI (16 + 12 * q)), .ref 1, .int (nI y5), .ref 1], wC ov5 un5 (nI n5) (nI L.1) fa5 cu st fi se th db cn F, 0)
  refine mm_skip (mm_call_mono _ _) 1 (st' := (92, [(5, .int (nI y4)), (4, .int (nI y3)), (3, .int (nI q)), (2, .int (nI p)), (0, .ref 0), (1, .int (nI o))], [.int (nI p), .int (nI (16 + 12 * q)), .ref 1, .int (nI y5), .ref 1], wC ov5 un5 (nI n5) (nI L.1) fa5 cu st fi se th db cn F, 0)) rfl ?_
  refine mm_inv (mm_call_mono _ _) (j := 44) (a := [.int (nI p)]) (M := wC ov5 un5 (nI n5) (nI L.1) fa5 cu st fi se th db cn F) (u := 0) rfl (by decide) (ct_C_lineB ?_)
  show mm_W _ _ _ _ _ _ _ (95, [(5, .int (nI y4)), (4, .int (nI y3)), (3, .int (nI q)), (2, .int (nI p)), (0, .ref 0), (1, .int (nI o))], [.int (nI (12 + 12 * p)), .int (nI (16 + 12 * q)), .ref 1, .int (nI y5), .ref 1], wC ov5 un5 (nI n5) (nI L.1) fa5 cu st fi se th db cn F, 0)
  refine mm_inv (mm_call_mono _ _) (j := 131) (a := [.ref 1, .int (nI (16 + 12 * q)), .int (nI (12 + 12 * p))]) (M := wC ov5 un5 (nI n5) (nI L.1) fa5 cu st fi se th db cn F) (u := 0) rfl (by decide) (gw_times hl s5.2.1 s5.1 R_5 H0_5 B0_5 (fun ov6 un6 n6 fa6 y6 h6 => ?_))
  show mm_W _ _ _ _ _ _ _ (98, [(5, .int (nI y4)), (4, .int (nI y3)), (3, .int (nI q)), (2, .int (nI p)), (0, .ref 0), (1, .int (nI o))], [.int (nI y6), .int (nI y5), .ref 1], wC ov6 un6 (nI n6) (nI L.1) fa6 cu st fi se th db cn F, 0)
  have s6 := sto_L s5 h6
  have F6 := sto_f s5 F5 E5 h6 (by omega)
  have E6 := sqL_e E5 h6
  have g6 := h6.1.1
  have A0_6 := at_keep A0_5 (opL_k h6)
  have B0_6 := at_keep B0_5 (opL_k h6)
  have C0_6 := at_keep C0_5 (opL_k h6)
  have D0_6 := at_keep D0_5 (opL_k h6)
  have G0_6 := at_keep G0_5 (opL_k h6)
  have H0_6 := at_keep H0_5 (opL_k h6)
  have W1_6 := at_keep W1_5 (opL_k h6)
  have W2_6 := at_keep W2_5 (opL_k h6)
  have W3_6 := at_keep W3_5 (opL_k h6)
  have W4_6 := at_keep W4_5 (opL_k h6)
  have W5_6 := at_keep W5_5 (opL_k h6)
  have R_6 := rd_keep R_5 (opL_k h6)
  have W6_6 := at_newL h6
  refine mm_inv (mm_call_mono _ _) (j := 130) (a := [.ref 1, .int (nI y5), .int (nI y6)]) (M := wC ov6 un6 (nI n6) (nI L.1) fa6 cu st fi se th db cn F) (u := 0) rfl (by decide) (gw_minus hl s6.2.1 s6.1 W5_6 W6_6 (fun ov7 un7 n7 fa7 y7 h7 => ?_))
  show mm_W _ _ _ _ _ _ _ (101, [(5, .int (nI y4)), (4, .int (nI y3)), (3, .int (nI q)), (2, .int (nI p)), (0, .ref 0), (1, .int (nI o))], [.int (nI y7)], wC ov7 un7 (nI n7) (nI L.1) fa7 cu st fi se th db cn F, 0)
  have s7 := sto_L s6 h7
  have F7 := sto_f s6 F6 E6 h7 (by omega)
  have E7 := sqL_e E6 h7
  have g7 := h7.1.1
  have A0_7 := at_keep A0_6 (opL_k h7)
  have B0_7 := at_keep B0_6 (opL_k h7)
  have C0_7 := at_keep C0_6 (opL_k h7)
  have D0_7 := at_keep D0_6 (opL_k h7)
  have G0_7 := at_keep G0_6 (opL_k h7)
  have H0_7 := at_keep H0_6 (opL_k h7)
  have W1_7 := at_keep W1_6 (opL_k h7)
  have W2_7 := at_keep W2_6 (opL_k h7)
  have W3_7 := at_keep W3_6 (opL_k h7)
  have W4_7 := at_keep W4_6 (opL_k h7)
  have W5_7 := at_keep W5_6 (opL_k h7)
  have W6_7 := at_keep W6_6 (opL_k h7)
  have R_7 := rd_keep R_6 (opL_k h7)
  have W7_7 := at_newL h7
  refine mm_skip (mm_call_mono _ _) 6 (st' := (112, [(6, .int (nI y7)), (5, .int (nI y4)), (4, .int (nI y3)), (3, .int (nI q)), (2, .int (nI p)), (0, .ref 0), (1, .int (nI o))], [.int (nI p), .ref 1, .ref 1], wC ov7 un7 (nI n7) (nI L.1) fa7 cu st fi se th db cn F, 0)) rfl ?_
  refine mm_inv (mm_call_mono _ _) (j := 43) (a := [.int (nI p)]) (M := wC ov7 un7 (nI n7) (nI L.1) fa7 cu st fi se th db cn F) (u := 0) rfl (by decide) (ct_C_lineA ?_)
  show mm_W _ _ _ _ _ _ _ (115, [(6, .int (nI y7)), (5, .int (nI y4)), (4, .int (nI y3)), (3, .int (nI q)), (2, .int (nI p)), (0, .ref 0), (1, .int (nI o))], [.int (nI (8 + 12 * p)), .ref 1, .ref 1], wC ov7 un7 (nI n7) (nI L.1) fa7 cu st fi se th db cn F, 0)
  refine mm_skip (mm_call_mono _ _) 1 (st' := (116, [(6, .int (nI y7)), (5, .int (nI y4)), (4, .int (nI y3)), (3, .int (nI q)), (2, .int (nI p)), (0, .ref 0), (1, .int (nI o))], [.int (nI q), .int (nI (8 + 12 * p)), .ref 1, .ref 1], wC ov7 un7 (nI n7) (nI L.1) fa7 cu st fi se th db cn F, 0)) rfl ?_
  refine mm_inv (mm_call_mono _ _) (j := 45) (a := [.int (nI q)]) (M := wC ov7 un7 (nI n7) (nI L.1) fa7 cu st fi se th db cn F) (u := 0) rfl (by decide) (ct_C_lineC ?_)
  show mm_W _ _ _ _ _ _ _ (119, [(6, .int (nI y7)), (5, .int (nI y4)), (4, .int (nI y3)), (3, .int (nI q)), (2, .int (nI p)), (0, .ref 0), (1, .int (nI o))], [.int (nI (16 + 12 * q)), .int (nI (8 + 12 * p)), .ref 1, .ref 1], wC ov7 un7 (nI n7) (nI L.1) fa7 cu st fi se th db cn F, 0)
  refine mm_inv (mm_call_mono _ _) (j := 131) (a := [.ref 1, .int (nI (8 + 12 * p)), .int (nI (16 + 12 * q))]) (M := wC ov7 un7 (nI n7) (nI L.1) fa7 cu st fi se th db cn F) (u := 0) rfl (by decide) (gw_times hl s7.2.1 s7.1 R_7 A0_7 H0_7 (fun ov8 un8 n8 fa8 y8 h8 => ?_))
  show mm_W _ _ _ _ _ _ _ (122, [(6, .int (nI y7)), (5, .int (nI y4)), (4, .int (nI y3)), (3, .int (nI q)), (2, .int (nI p)), (0, .ref 0), (1, .int (nI o))], [.int (nI y8), .ref 1], wC ov8 un8 (nI n8) (nI L.1) fa8 cu st fi se th db cn F, 0)
  have s8 := sto_L s7 h8
  have F8 := sto_f s7 F7 E7 h8 (by omega)
  have E8 := sqL_e E7 h8
  have g8 := h8.1.1
  have A0_8 := at_keep A0_7 (opL_k h8)
  have B0_8 := at_keep B0_7 (opL_k h8)
  have C0_8 := at_keep C0_7 (opL_k h8)
  have D0_8 := at_keep D0_7 (opL_k h8)
  have G0_8 := at_keep G0_7 (opL_k h8)
  have H0_8 := at_keep H0_7 (opL_k h8)
  have W1_8 := at_keep W1_7 (opL_k h8)
  have W2_8 := at_keep W2_7 (opL_k h8)
  have W3_8 := at_keep W3_7 (opL_k h8)
  have W4_8 := at_keep W4_7 (opL_k h8)
  have W5_8 := at_keep W5_7 (opL_k h8)
  have W6_8 := at_keep W6_7 (opL_k h8)
  have W7_8 := at_keep W7_7 (opL_k h8)
  have R_8 := rd_keep R_7 (opL_k h8)
  have W8_8 := at_newL h8
  refine mm_skip (mm_call_mono _ _) 3 (st' := (127, [(6, .int (nI y7)), (5, .int (nI y4)), (4, .int (nI y3)), (3, .int (nI q)), (2, .int (nI p)), (0, .ref 0), (1, .int (nI o))], [.int (nI q), .ref 1, .int (nI y8), .ref 1], wC ov8 un8 (nI n8) (nI L.1) fa8 cu st fi se th db cn F, 0)) rfl ?_
  refine mm_inv (mm_call_mono _ _) (j := 43) (a := [.int (nI q)]) (M := wC ov8 un8 (nI n8) (nI L.1) fa8 cu st fi se th db cn F) (u := 0) rfl (by decide) (ct_C_lineA ?_)
  show mm_W _ _ _ _ _ _ _ (130, [(6, .int (nI y7)), (5, .int (nI y4)), (4, .int (nI y3)), (3, .int (nI q)), (2, .int (nI p)), (0, .ref 0), (1, .int (nI o))], [.int (nI (8 + 12 * q)), .ref 1, .int (nI y8), .ref 1], wC ov8 un8 (nI n8) (nI L.1) fa8 cu st fi se th db cn F, 0)
  refine mm_skip (mm_call_mono _ _) 1 (st' := (131, [(6, .int (nI y7)), (5, .int (nI y4)), (4, .int (nI y3)), (3, .int (nI q)), (2, .int (nI p)), (0, .ref 0), (1, .int (nI o))], [.int (nI p), .int (nI (8 + 12 * q)), .ref 1, .int (nI y8), .ref 1], wC ov8 un8 (nI n8) (nI L.1) fa8 cu st fi se th db cn F, 0)) rfl ?_
  refine mm_inv (mm_call_mono _ _) (j := 45) (a := [.int (nI p)]) (M := wC ov8 un8 (nI n8) (nI L.1) fa8 cu st fi se th db cn F) (u := 0) rfl (by decide) (ct_C_lineC ?_)
  show mm_W _ _ _ _ _ _ _ (134, [(6, .int (nI y7)), (5, .int (nI y4)), (4, .int (nI y3)), (3, .int (nI q)), (2, .int (nI p)), (0, .ref 0), (1, .int (nI o))], [.int (nI (16 + 12 * p)), .int (nI (8 + 12 * q)), .ref 1, .int (nI y8), .ref 1], wC ov8 un8 (nI n8) (nI L.1) fa8 cu st fi se th db cn F, 0)
  refine mm_inv (mm_call_mono _ _) (j := 131) (a := [.ref 1, .int (nI (8 + 12 * q)), .int (nI (16 + 12 * p))]) (M := wC ov8 un8 (nI n8) (nI L.1) fa8 cu st fi se th db cn F) (u := 0) rfl (by decide) (gw_times hl s8.2.1 s8.1 R_8 D0_8 C0_8 (fun ov9 un9 n9 fa9 y9 h9 => ?_))
  show mm_W _ _ _ _ _ _ _ (137, [(6, .int (nI y7)), (5, .int (nI y4)), (4, .int (nI y3)), (3, .int (nI q)), (2, .int (nI p)), (0, .ref 0), (1, .int (nI o))], [.int (nI y9), .int (nI y8), .ref 1], wC ov9 un9 (nI n9) (nI L.1) fa9 cu st fi se th db cn F, 0)
  have s9 := sto_L s8 h9
  have F9 := sto_f s8 F8 E8 h9 (by omega)
  have E9 := sqL_e E8 h9
  have g9 := h9.1.1
  have A0_9 := at_keep A0_8 (opL_k h9)
  have B0_9 := at_keep B0_8 (opL_k h9)
  have C0_9 := at_keep C0_8 (opL_k h9)
  have D0_9 := at_keep D0_8 (opL_k h9)
  have G0_9 := at_keep G0_8 (opL_k h9)
  have H0_9 := at_keep H0_8 (opL_k h9)
  have W1_9 := at_keep W1_8 (opL_k h9)
  have W2_9 := at_keep W2_8 (opL_k h9)
  have W3_9 := at_keep W3_8 (opL_k h9)
  have W4_9 := at_keep W4_8 (opL_k h9)
  have W5_9 := at_keep W5_8 (opL_k h9)
  have W6_9 := at_keep W6_8 (opL_k h9)
  have W7_9 := at_keep W7_8 (opL_k h9)
  have W8_9 := at_keep W8_8 (opL_k h9)
  have R_9 := rd_keep R_8 (opL_k h9)
  have W9_9 := at_newL h9
  refine mm_inv (mm_call_mono _ _) (j := 130) (a := [.ref 1, .int (nI y8), .int (nI y9)]) (M := wC ov9 un9 (nI n9) (nI L.1) fa9 cu st fi se th db cn F) (u := 0) rfl (by decide) (gw_minus hl s9.2.1 s9.1 W8_9 W9_9 (fun ov10 un10 n10 fa10 y10 h10 => ?_))
  show mm_W _ _ _ _ _ _ _ (140, [(6, .int (nI y7)), (5, .int (nI y4)), (4, .int (nI y3)), (3, .int (nI q)), (2, .int (nI p)), (0, .ref 0), (1, .int (nI o))], [.int (nI y10)], wC ov10 un10 (nI n10) (nI L.1) fa10 cu st fi se th db cn F, 0)
  have s10 := sto_L s9 h10
  have F10 := sto_f s9 F9 E9 h10 (by omega)
  have E10 := sqL_e E9 h10
  have g10 := h10.1.1
  have A0_10 := at_keep A0_9 (opL_k h10)
  have B0_10 := at_keep B0_9 (opL_k h10)
  have C0_10 := at_keep C0_9 (opL_k h10)
  have D0_10 := at_keep D0_9 (opL_k h10)
  have G0_10 := at_keep G0_9 (opL_k h10)
  have H0_10 := at_keep H0_9 (opL_k h10)
  have W1_10 := at_keep W1_9 (opL_k h10)
  have W2_10 := at_keep W2_9 (opL_k h10)
  have W3_10 := at_keep W3_9 (opL_k h10)
  have W4_10 := at_keep W4_9 (opL_k h10)
  have W5_10 := at_keep W5_9 (opL_k h10)
  have W6_10 := at_keep W6_9 (opL_k h10)
  have W7_10 := at_keep W7_9 (opL_k h10)
  have W8_10 := at_keep W8_9 (opL_k h10)
  have W9_10 := at_keep W9_9 (opL_k h10)
  have R_10 := rd_keep R_9 (opL_k h10)
  have W10_10 := at_newL h10
  refine mm_skip (mm_call_mono _ _) 7 (st' := (154, [(7, .int (nI y10)), (6, .int (nI y7)), (5, .int (nI y4)), (4, .int (nI y3)), (3, .int (nI q)), (2, .int (nI p)), (0, .ref 0), (1, .int (nI o))], [.int (nI y4), .int (nI y7), .ref 1, .ref 1], wC ov10 un10 (nI n10) (nI L.1) fa10 cu st fi se th db cn F, 0)) rfl ?_
  refine mm_inv (mm_call_mono _ _) (j := 131) (a := [.ref 1, .int (nI y7), .int (nI y4)]) (M := wC ov10 un10 (nI n10) (nI L.1) fa10 cu st fi se th db cn F) (u := 0) rfl (by decide) (gw_times hl s10.2.1 s10.1 R_10 W7_10 W4_10 (fun ov11 un11 n11 fa11 y11 h11 => ?_))
  show mm_W _ _ _ _ _ _ _ (157, [(7, .int (nI y10)), (6, .int (nI y7)), (5, .int (nI y4)), (4, .int (nI y3)), (3, .int (nI q)), (2, .int (nI p)), (0, .ref 0), (1, .int (nI o))], [.int (nI y11), .ref 1], wC ov11 un11 (nI n11) (nI L.1) fa11 cu st fi se th db cn F, 0)
  have s11 := sto_L s10 h11
  have F11 := sto_f s10 F10 E10 h11 (by omega)
  have E11 := sqL_e E10 h11
  have g11 := h11.1.1
  have A0_11 := at_keep A0_10 (opL_k h11)
  have B0_11 := at_keep B0_10 (opL_k h11)
  have C0_11 := at_keep C0_10 (opL_k h11)
  have D0_11 := at_keep D0_10 (opL_k h11)
  have G0_11 := at_keep G0_10 (opL_k h11)
  have H0_11 := at_keep H0_10 (opL_k h11)
  have W1_11 := at_keep W1_10 (opL_k h11)
  have W2_11 := at_keep W2_10 (opL_k h11)
  have W3_11 := at_keep W3_10 (opL_k h11)
  have W4_11 := at_keep W4_10 (opL_k h11)
  have W5_11 := at_keep W5_10 (opL_k h11)
  have W6_11 := at_keep W6_10 (opL_k h11)
  have W7_11 := at_keep W7_10 (opL_k h11)
  have W8_11 := at_keep W8_10 (opL_k h11)
  have W9_11 := at_keep W9_10 (opL_k h11)
  have W10_11 := at_keep W10_10 (opL_k h11)
  have R_11 := rd_keep R_10 (opL_k h11)
  have W11_11 := at_newL h11
  refine mm_skip (mm_call_mono _ _) 1 (st' := (158, [(7, .int (nI y10)), (6, .int (nI y7)), (5, .int (nI y4)), (4, .int (nI y3)), (3, .int (nI q)), (2, .int (nI p)), (0, .ref 0), (1, .int (nI o))], [.int (nI o), .int (nI y11), .ref 1], wC ov11 un11 (nI n11) (nI L.1) fa11 cu st fi se th db cn F, 0)) rfl ?_
  refine mm_inv (mm_call_mono _ _) (j := 41) (a := [.int (nI o)]) (M := wC ov11 un11 (nI n11) (nI L.1) fa11 cu st fi se th db cn F) (u := 0) rfl (by decide) (ct_C_xOf ?_)
  show mm_W _ _ _ _ _ _ _ (161, [(7, .int (nI y10)), (6, .int (nI y7)), (5, .int (nI y4)), (4, .int (nI y3)), (3, .int (nI q)), (2, .int (nI p)), (0, .ref 0), (1, .int (nI o))], [.int (nI (8 + 12 * o)), .int (nI y11), .ref 1], wC ov11 un11 (nI n11) (nI L.1) fa11 cu st fi se th db cn F, 0)
  refine mm_inv (mm_call_mono _ _) (j := 124) (a := [.ref 1, .int (nI y11), .int (nI (8 + 12 * o))]) (M := wC ov11 un11 (nI n11) (nI L.1) fa11 cu st fi se th db cn F) (u := 0) rfl (by decide) (gw_copy (x := y11) (y := 8 + 12 * o) W11_11.1.1 (by omega) (fun ov12 un12 c12 => ?_))
  show mm_W _ _ _ _ _ _ _ (164, [(7, .int (nI y10)), (6, .int (nI y7)), (5, .int (nI y4)), (4, .int (nI y3)), (3, .int (nI q)), (2, .int (nI p)), (0, .ref 0), (1, .int (nI o))], [], wC ov12 un12 (nI n11) (nI L.1) fa11 cu st fi se th db cn F, 0)
  have s12 := sto_cp s11 c12 (fun k q1 q2 => hZ k (by omega) (by omega))
  have F12 := F11
  have E12 := E11
  have A0_12 := at_cp A0_11 c12 (by omega)
  have B0_12 := at_cp B0_11 c12 (by omega)
  have C0_12 := at_cp C0_11 c12 (by omega)
  have D0_12 := at_cp D0_11 c12 (by omega)
  have G0_12 := at_cp G0_11 c12 (by omega)
  have H0_12 := at_cp H0_11 c12 (by omega)
  have W1_12 := at_cp W1_11 c12 (by omega)
  have W2_12 := at_cp W2_11 c12 (by omega)
  have W3_12 := at_cp W3_11 c12 (by omega)
  have W4_12 := at_cp W4_11 c12 (by omega)
  have W5_12 := at_cp W5_11 c12 (by omega)
  have W6_12 := at_cp W6_11 c12 (by omega)
  have W7_12 := at_cp W7_11 c12 (by omega)
  have W8_12 := at_cp W8_11 c12 (by omega)
  have W9_12 := at_cp W9_11 c12 (by omega)
  have W10_12 := at_cp W10_11 c12 (by omega)
  have W11_12 := at_cp W11_11 c12 (by omega)
  have R_12 := rd_cp R_11 c12 (by omega)
  have K12_12 := at_cn W11_11 c12 (by omega) s11.1.1
  refine mm_skip (mm_call_mono _ _) 6 (st' := (176, [(7, .int (nI y10)), (6, .int (nI y7)), (5, .int (nI y4)), (4, .int (nI y3)), (3, .int (nI q)), (2, .int (nI p)), (0, .ref 0), (1, .int (nI o))], [.int (nI y4), .int (nI y10), .ref 1, .ref 1], wC ov12 un12 (nI n11) (nI L.1) fa11 cu st fi se th db cn F, 0)) rfl ?_
  refine mm_inv (mm_call_mono _ _) (j := 131) (a := [.ref 1, .int (nI y10), .int (nI y4)]) (M := wC ov12 un12 (nI n11) (nI L.1) fa11 cu st fi se th db cn F) (u := 0) rfl (by decide) (gw_times hl s12.2.1 s12.1 R_12 W10_12 W4_12 (fun ov13 un13 n13 fa13 y13 h13 => ?_))
  show mm_W _ _ _ _ _ _ _ (179, [(7, .int (nI y10)), (6, .int (nI y7)), (5, .int (nI y4)), (4, .int (nI y3)), (3, .int (nI q)), (2, .int (nI p)), (0, .ref 0), (1, .int (nI o))], [.int (nI y13), .ref 1], wC ov13 un13 (nI n13) (nI L.1) fa13 cu st fi se th db cn F, 0)
  have s13 := sto_L s12 h13
  have F13 := sto_f s12 F12 E12 h13 (by omega)
  have E13 := sqL_e E12 h13
  have g13 := h13.1.1
  have A0_13 := at_keep A0_12 (opL_k h13)
  have B0_13 := at_keep B0_12 (opL_k h13)
  have C0_13 := at_keep C0_12 (opL_k h13)
  have D0_13 := at_keep D0_12 (opL_k h13)
  have G0_13 := at_keep G0_12 (opL_k h13)
  have H0_13 := at_keep H0_12 (opL_k h13)
  have W1_13 := at_keep W1_12 (opL_k h13)
  have W2_13 := at_keep W2_12 (opL_k h13)
  have W3_13 := at_keep W3_12 (opL_k h13)
  have W4_13 := at_keep W4_12 (opL_k h13)
  have W5_13 := at_keep W5_12 (opL_k h13)
  have W6_13 := at_keep W6_12 (opL_k h13)
  have W7_13 := at_keep W7_12 (opL_k h13)
  have W8_13 := at_keep W8_12 (opL_k h13)
  have W9_13 := at_keep W9_12 (opL_k h13)
  have W10_13 := at_keep W10_12 (opL_k h13)
  have W11_13 := at_keep W11_12 (opL_k h13)
  have K12_13 := at_keep K12_12 (opL_k h13)
  have R_13 := rd_keep R_12 (opL_k h13)
  have W13_13 := at_newL h13
  refine mm_skip (mm_call_mono _ _) 1 (st' := (180, [(7, .int (nI y10)), (6, .int (nI y7)), (5, .int (nI y4)), (4, .int (nI y3)), (3, .int (nI q)), (2, .int (nI p)), (0, .ref 0), (1, .int (nI o))], [.int (nI o), .int (nI y13), .ref 1], wC ov13 un13 (nI n13) (nI L.1) fa13 cu st fi se th db cn F, 0)) rfl ?_
  refine mm_inv (mm_call_mono _ _) (j := 42) (a := [.int (nI o)]) (M := wC ov13 un13 (nI n13) (nI L.1) fa13 cu st fi se th db cn F) (u := 0) rfl (by decide) (ct_C_yOf ?_)
  show mm_W _ _ _ _ _ _ _ (183, [(7, .int (nI y10)), (6, .int (nI y7)), (5, .int (nI y4)), (4, .int (nI y3)), (3, .int (nI q)), (2, .int (nI p)), (0, .ref 0), (1, .int (nI o))], [.int (nI (12 + 12 * o)), .int (nI y13), .ref 1], wC ov13 un13 (nI n13) (nI L.1) fa13 cu st fi se th db cn F, 0)
  refine mm_inv (mm_call_mono _ _) (j := 124) (a := [.ref 1, .int (nI y13), .int (nI (12 + 12 * o))]) (M := wC ov13 un13 (nI n13) (nI L.1) fa13 cu st fi se th db cn F) (u := 0) rfl (by decide) (gw_copy (x := y13) (y := 12 + 12 * o) W13_13.1.1 (by omega) (fun ov14 un14 c14 => ?_))
  show mm_W _ _ _ _ _ _ _ (186, [(7, .int (nI y10)), (6, .int (nI y7)), (5, .int (nI y4)), (4, .int (nI y3)), (3, .int (nI q)), (2, .int (nI p)), (0, .ref 0), (1, .int (nI o))], [], wC ov14 un14 (nI n13) (nI L.1) fa13 cu st fi se th db cn F, 0)
  have s14 := sto_cp s13 c14 (fun k q1 q2 => hZ k (by omega) (by omega))
  have F14 := F13
  have E14 := E13
  have A0_14 := at_cp A0_13 c14 (by omega)
  have B0_14 := at_cp B0_13 c14 (by omega)
  have C0_14 := at_cp C0_13 c14 (by omega)
  have D0_14 := at_cp D0_13 c14 (by omega)
  have G0_14 := at_cp G0_13 c14 (by omega)
  have H0_14 := at_cp H0_13 c14 (by omega)
  have W1_14 := at_cp W1_13 c14 (by omega)
  have W2_14 := at_cp W2_13 c14 (by omega)
  have W3_14 := at_cp W3_13 c14 (by omega)
  have W4_14 := at_cp W4_13 c14 (by omega)
  have W5_14 := at_cp W5_13 c14 (by omega)
  have W6_14 := at_cp W6_13 c14 (by omega)
  have W7_14 := at_cp W7_13 c14 (by omega)
  have W8_14 := at_cp W8_13 c14 (by omega)
  have W9_14 := at_cp W9_13 c14 (by omega)
  have W10_14 := at_cp W10_13 c14 (by omega)
  have W11_14 := at_cp W11_13 c14 (by omega)
  have K12_14 := at_cp K12_13 c14 (by omega)
  have W13_14 := at_cp W13_13 c14 (by omega)
  have R_14 := rd_cp R_13 c14 (by omega)
  have K14_14 := at_cn W13_13 c14 (by omega) s13.1.1
  exact mm_ret (mm_call_mono _ _) (c := True) (r := .inl none) (M := wC ov14 un14 (nI n13) (nI L.1) fa13 cu st fi se th db cn F) (u := 0) rfl trivial (by decide) (hQ _ _ _ _ (dr_of s14 hl R_14 E14 F14 (fun h0 => ⟨kp_at K12_14 h0, fun _ => kp_at K14_14 h0, fun q => absurd q (by decide)⟩)))

