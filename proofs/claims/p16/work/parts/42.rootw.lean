theorem stl_w {ov un ov1 un1 : Nat → Int32} {n n1 w v : Nat} {fa fa1 : Int32} (h : stl ov un n fa w ov1 un1 n1 fa1) (hw : w ≤ v) : stl ov un n fa v ov1 un1 n1 fa1 := by
  obtain ⟨a1, a2, a3, a4, a5⟩ := h
  exact ⟨a1, a2, a3, a4, fun h0 => ⟨(a5 h0).1, (a5 h0).2.1, by have := (a5 h0).2.2.1; omega, (a5 h0).2.2.2⟩⟩
set_option maxHeartbeats 1000000 in
set_option maxRecDepth 100000 in
theorem at_N_root_1 {d : Nat} {ov un : Nat → Int32} {dp fa : Int32} {cu : mm_cu} {st fi se th db : Nat → Int32} {cn : Int32} {F : mm_M} {n a : Nat} {x R1 : Nat → fr} {Q : mm_R → mm_M → Prop} (hfa : mm_z fa) (hn : 308 ≤ n ∧ n ≤ 1332) (P : isAt ov un n fa 1 0 R1) (A : isAt ov un n fa 2 a x) (hQ : ∀ (ov1 un1 : Nat → Int32) (n1 : Nat) (fa1 v : Int32), rtR ov un n fa 120 (nrt1 R1 x) ov1 un1 n1 fa1 v → Q (.inl (some (.int v))) (wC ov1 un1 (nI n1) dp fa1 cu st fi se th db cn F)) : mm_call mm_Tb (d + 5) 148 [.ref 1, .int 1, .int (nI a)] (wC ov un (nI n) dp fa cu st fi se th db cn F) Q := by
  have ha1 := A.1.1
  have s0 := stl_0 (ov := ov) (un := un) hfa hn
  have F0 : fa = 1 → fa = 0 → n + 120 ≤ 1332 → nrt1 R1 x = none := f_0
  refine mm_in mt_148 (Nat.le_of_ble_eq_true rfl) ?_
  show mm_W _ _ _ _ _ _ _ (0, [(0, .ref 1), (1, .int 1), (2, .int (nI a))], [], wC ov un (nI n) dp fa cu st fi se th db cn F, 0)
  refine mm_skip (mm_call_mono _ _) 1 (st' := (1, [(0, .ref 1), (1, .int 1), (2, .int (nI a))], [.int 1], wC ov un (nI n) dp fa cu st fi se th db cn F, 0)) rfl ?_
  refine mm_branch (mm_call_mono _ _) (c := (0 : Int32) < 1) (s1 := (10, [(0, .ref 1), (1, .int 1), (2, .int (nI a))], [], wC ov un (nI n) dp fa cu st fi se th db cn F, 0)) (s2 := (4, [(0, .ref 1), (1, .int 1), (2, .int (nI a))], [], wC ov un (nI n) dp fa cu st fi se th db cn F, 0)) rfl (fun _ => ?_) (fun h => absurd (by decide) h)
  refine mm_skip (mm_call_mono _ _) 13 (st' := (25, [(4, .int ((nI a) + 1)), (3, .int 0), (0, .ref 1), (1, .int 1), (2, .int (nI a))], [.int ((nI a) + 1), .int 0, .ref 1], wC ov un (nI n) dp fa cu st fi se th db cn F, 0)) rfl ?_
  rw [nI_p1 (a)]
  show mm_W _ _ _ _ _ _ _ (25, [(4, .int (nI (a + 1))), (3, .int 0), (0, .ref 1), (1, .int 1), (2, .int (nI a))], [.int (nI (a + 1)), .int 0, .ref 1], wC ov un (nI n) dp fa cu st fi se th db cn F, 0)
  refine mm_inv (mm_call_mono _ _) (j := 141) (a := [.ref 1, .int 0, .int (nI (a + 1))]) (M := wC ov un (nI n) dp fa cu st fi se th db cn F) (u := 0) rfl (by decide) (ct_N_isZero_0 (a := a + 1) (by omega) ?_)
  show mm_W _ _ _ _ _ _ _ (28, [(4, .int (nI (a + 1))), (3, .int 0), (0, .ref 1), (1, .int 1), (2, .int (nI a))], [.int (bz (isz 1 ov (a + 1)))], wC ov un (nI n) dp fa cu st fi se th db cn F, 0)
  refine mm_branch (mm_call_mono _ _) (c := (bz (isz 1 ov (a + 1))) = 0) (s1 := (109, [(4, .int (nI (a + 1))), (3, .int 0), (0, .ref 1), (1, .int 1), (2, .int (nI a))], [], wC ov un (nI n) dp fa cu st fi se th db cn F, 0)) (s2 := (31, [(4, .int (nI (a + 1))), (3, .int 0), (0, .ref 1), (1, .int 1), (2, .int (nI a))], [], wC ov un (nI n) dp fa cu st fi se th db cn F, 0)) rfl (fun zb => ?_) (fun zb => ?_)
  · skip
    have E0 : fa = 0 → nrt1 R1 x = _ := fun q0 => nrtS_n (fun z => bz_0 zb ((isz_at (h := 1) A q0).mpr z))
    refine mm_skip (mm_call_mono _ _) 6 (st' := (117, [(4, .int (nI (a + 1))), (3, .int 0), (0, .ref 1), (1, .int 1), (2, .int (nI a))], [.int (nI (a + 1)), .int (nI (a + 1)), .int 0, .ref 1, .int 0, .ref 1], wC ov un (nI n) dp fa cu st fi se th db cn F, 0)) rfl ?_
    refine mm_inv (mm_call_mono _ _) (j := 145) (a := [.ref 1, .int 0, .int (nI (a + 1)), .int (nI (a + 1))]) (M := wC ov un (nI n) dp fa cu st fi se th db cn F) (u := 0) rfl (by decide) (at_N_product_0 s0.2.1 s0.1 (at_hi A 1 (by omega)) (at_hi A 1 (by omega)) (fun ov1 un1 n1 fa1 ibb h1 => ?_))
    show mm_W _ _ _ _ _ _ _ (120, [(4, .int (nI (a + 1))), (3, .int 0), (0, .ref 1), (1, .int 1), (2, .int (nI a))], [.int (nI ibb), .int 0, .ref 1], wC ov1 un1 (nI n1) dp fa1 cu st fi se th db cn F, 0)
    have s1 := stl_s s0 h1
    have F1 := sq_f s0 F0 E0 h1 (by omega)
    have E1 := seq_e E0 h1
    have A_1 := at_keep A (op_k h1)
    have P_1 := at_keep P (op_k h1)
    have bb_1 := at_new h1
    refine mm_skip (mm_call_mono _ _) 1 (st' := (121, [(4, .int (nI (a + 1))), (3, .int 0), (0, .ref 1), (1, .int 1), (2, .int (nI a))], [.int 1, .int (nI ibb), .int 0, .ref 1], wC ov1 un1 (nI n1) dp fa1 cu st fi se th db cn F, 0)) rfl ?_
    refine mm_inv (mm_call_mono _ _) (j := 120) (a := [.int 1]) (M := wC ov1 un1 (nI n1) dp fa1 cu st fi se th db cn F) (u := 0) rfl (by decide) (ct_N_radicandOf_1 ?_)
    show mm_W _ _ _ _ _ _ _ (124, [(4, .int (nI (a + 1))), (3, .int 0), (0, .ref 1), (1, .int 1), (2, .int (nI a))], [.int (nI 0), .int (nI ibb), .int 0, .ref 1], wC ov1 un1 (nI n1) dp fa1 cu st fi se th db cn F, 0)
    refine mm_inv (mm_call_mono _ _) (j := 145) (a := [.ref 1, .int 0, .int (nI ibb), .int (nI 0)]) (M := wC ov1 un1 (nI n1) dp fa1 cu st fi se th db cn F) (u := 0) rfl (by decide) (at_N_product_0 s1.2.1 s1.1 (at_lo bb_1 (by omega)) P_1 (fun ov2 un2 n2 fa2 ibbr h2 => ?_))
    show mm_W _ _ _ _ _ _ _ (127, [(4, .int (nI (a + 1))), (3, .int 0), (0, .ref 1), (1, .int 1), (2, .int (nI a))], [.int (nI ibbr)], wC ov2 un2 (nI n2) dp fa2 cu st fi se th db cn F, 0)
    have s2 := stl_s s1 h2
    have F2 := sq_f s1 F1 E1 h2 (by omega)
    have E2 := seq_e E1 h2
    have A_2 := at_keep A_1 (op_k h2)
    have P_2 := at_keep P_1 (op_k h2)
    have bb_2 := at_keep bb_1 (op_k h2)
    have bbr_2 := at_new h2
    refine mm_skip (mm_call_mono _ _) 7 (st' := (135, [(5, .int (nI ibbr)), (4, .int (nI (a + 1))), (3, .int 0), (0, .ref 1), (1, .int 1), (2, .int (nI a))], [.int (nI a), .int (nI a), .int 0, .ref 1, .int 0, .ref 1], wC ov2 un2 (nI n2) dp fa2 cu st fi se th db cn F, 0)) rfl ?_
    refine mm_inv (mm_call_mono _ _) (j := 145) (a := [.ref 1, .int 0, .int (nI a), .int (nI a)]) (M := wC ov2 un2 (nI n2) dp fa2 cu st fi se th db cn F) (u := 0) rfl (by decide) (at_N_product_0 s2.2.1 s2.1 (at_lo A_2 (by omega)) (at_lo A_2 (by omega)) (fun ov3 un3 n3 fa3 iaa h3 => ?_))
    show mm_W _ _ _ _ _ _ _ (138, [(5, .int (nI ibbr)), (4, .int (nI (a + 1))), (3, .int 0), (0, .ref 1), (1, .int 1), (2, .int (nI a))], [.int (nI iaa), .int 0, .ref 1], wC ov3 un3 (nI n3) dp fa3 cu st fi se th db cn F, 0)
    have s3 := stl_s s2 h3
    have F3 := sq_f s2 F2 E2 h3 (by omega)
    have E3 := seq_e E2 h3
    have A_3 := at_keep A_2 (op_k h3)
    have P_3 := at_keep P_2 (op_k h3)
    have bb_3 := at_keep bb_2 (op_k h3)
    have bbr_3 := at_keep bbr_2 (op_k h3)
    have aa_3 := at_new h3
    refine mm_skip (mm_call_mono _ _) 3 (st' := (142, [(5, .int (nI ibbr)), (4, .int (nI (a + 1))), (3, .int 0), (0, .ref 1), (1, .int 1), (2, .int (nI a))], [.int (nI ibbr), .int 0, .ref 1, .int (nI iaa), .int 0, .ref 1], wC ov3 un3 (nI n3) dp fa3 cu st fi se th db cn F, 0)) rfl ?_
    refine mm_inv (mm_call_mono _ _) (j := 143) (a := [.ref 1, .int 0, .int (nI ibbr)]) (M := wC ov3 un3 (nI n3) dp fa3 cu st fi se th db cn F) (u := 0) rfl (by decide) (at_N_negative_0 s3.2.1 s3.1 (at_lo bbr_3 (by omega)) (fun ov4 un4 n4 fa4 inb h4 => ?_))
    show mm_W _ _ _ _ _ _ _ (145, [(5, .int (nI ibbr)), (4, .int (nI (a + 1))), (3, .int 0), (0, .ref 1), (1, .int 1), (2, .int (nI a))], [.int (nI inb), .int (nI iaa), .int 0, .ref 1], wC ov4 un4 (nI n4) dp fa4 cu st fi se th db cn F, 0)
    have s4 := stl_s s3 h4
    have F4 := sq_f s3 F3 E3 h4 (by omega)
    have E4 := seq_e E3 h4
    have A_4 := at_keep A_3 (op_k h4)
    have P_4 := at_keep P_3 (op_k h4)
    have bb_4 := at_keep bb_3 (op_k h4)
    have bbr_4 := at_keep bbr_3 (op_k h4)
    have aa_4 := at_keep aa_3 (op_k h4)
    have nb_4 := at_new h4
    refine mm_inv (mm_call_mono _ _) (j := 142) (a := [.ref 1, .int 0, .int (nI iaa), .int (nI inb)]) (M := wC ov4 un4 (nI n4) dp fa4 cu st fi se th db cn F) (u := 0) rfl (by decide) (at_N_sum_0 s4.2.1 s4.1 (at_lo aa_4 (by omega)) (at_lo nb_4 (by omega)) (fun ov5 un5 n5 fa5 isq h5 => ?_))
    show mm_W _ _ _ _ _ _ _ (148, [(5, .int (nI ibbr)), (4, .int (nI (a + 1))), (3, .int 0), (0, .ref 1), (1, .int 1), (2, .int (nI a))], [.int (nI isq)], wC ov5 un5 (nI n5) dp fa5 cu st fi se th db cn F, 0)
    have s5 := stl_s s4 h5
    have F5 := sq_f s4 F4 E4 h5 (by omega)
    have E5 := seq_e E4 h5
    have A_5 := at_keep A_4 (op_k h5)
    have P_5 := at_keep P_4 (op_k h5)
    have bb_5 := at_keep bb_4 (op_k h5)
    have bbr_5 := at_keep bbr_4 (op_k h5)
    have aa_5 := at_keep aa_4 (op_k h5)
    have nb_5 := at_keep nb_4 (op_k h5)
    have sq_5 := at_new h5
    refine mm_skip (mm_call_mono _ _) 4 (st' := (154, [(6, .int (nI isq)), (5, .int (nI ibbr)), (4, .int (nI (a + 1))), (3, .int 0), (0, .ref 1), (1, .int 1), (2, .int (nI a))], [.int (nI isq), .int 0, .ref 1], wC ov5 un5 (nI n5) dp fa5 cu st fi se th db cn F, 0)) rfl ?_
    refine mm_inv (mm_call_mono _ _) (j := 147) (a := [.ref 1, .int 0, .int (nI isq)]) (M := wC ov5 un5 (nI n5) dp fa5 cu st fi se th db cn F) (u := 0) rfl (by decide) (at_N_signOf_0 s5.2.1 s5.1 (at_lo sq_5 (by omega)) (fun ov6 un6 n6 fa6 vs h6 => ?_))
    show mm_W _ _ _ _ _ _ _ (157, [(6, .int (nI isq)), (5, .int (nI ibbr)), (4, .int (nI (a + 1))), (3, .int 0), (0, .ref 1), (1, .int 1), (2, .int (nI a))], [.int vs], wC ov6 un6 (nI n6) dp fa6 cu st fi se th db cn F, 0)
    have s6 := stl_g s5 h6
    have F6 := sg_f s5 F5 E5 h6 (by omega)
    have E6 := sg_e E5 h6
    have A_6 := at_keep A_5 (sg_k h6)
    have P_6 := at_keep P_5 (sg_k h6)
    have bb_6 := at_keep bb_5 (sg_k h6)
    have bbr_6 := at_keep bbr_5 (sg_k h6)
    have aa_6 := at_keep aa_5 (sg_k h6)
    have nb_6 := at_keep nb_5 (sg_k h6)
    have sq_6 := at_keep sq_5 (sg_k h6)
    refine mm_branch (mm_call_mono _ _) (c := 0 ≤ vs) (s1 := (164, [(6, .int (nI isq)), (5, .int (nI ibbr)), (4, .int (nI (a + 1))), (3, .int 0), (0, .ref 1), (1, .int 1), (2, .int (nI a))], [], wC ov6 un6 (nI n6) dp fa6 cu st fi se th db cn F, 0)) (s2 := (160, [(6, .int (nI isq)), (5, .int (nI ibbr)), (4, .int (nI (a + 1))), (3, .int 0), (0, .ref 1), (1, .int 1), (2, .int (nI a))], [], wC ov6 un6 (nI n6) dp fa6 cu st fi se th db cn F, 0)) rfl (fun gs => ?_) (fun gs => ?_)
    · skip
      have E6 := fun q0 => (E6 q0).trans (if_neg (i32_ge gs))
      refine mm_skip (mm_call_mono _ _) 3 (st' := (168, [(6, .int (nI isq)), (5, .int (nI ibbr)), (4, .int (nI (a + 1))), (3, .int 0), (0, .ref 1), (1, .int 1), (2, .int (nI a))], [.int (nI isq), .int 0, .ref 1], wC ov6 un6 (nI n6) dp fa6 cu st fi se th db cn F, 0)) rfl ?_
      refine mm_inv (mm_call_mono _ _) (j := 148) (a := [.ref 1, .int 0, .int (nI isq)]) (M := wC ov6 un6 (nI n6) dp fa6 cu st fi se th db cn F) (u := 0) rfl (by decide) (at_N_root_0 s6.2.1 s6.1 (at_lo sq_6 (by omega)) (fun ov7 un7 n7 fa7 vn h7 => ?_))
      show mm_W _ _ _ _ _ _ _ (171, [(6, .int (nI isq)), (5, .int (nI ibbr)), (4, .int (nI (a + 1))), (3, .int 0), (0, .ref 1), (1, .int 1), (2, .int (nI a))], [.int vn], wC ov7 un7 (nI n7) dp fa7 cu st fi se th db cn F, 0)
      have s7 := stl_r s6 h7
      have F7 := rt_f s6 F6 E6 h7 (by omega)
      have A_7 := at_keep A_6 (rt_k h7)
      have P_7 := at_keep P_6 (rt_k h7)
      have bb_7 := at_keep bb_6 (rt_k h7)
      have bbr_7 := at_keep bbr_6 (rt_k h7)
      have aa_7 := at_keep aa_6 (rt_k h7)
      have nb_7 := at_keep nb_6 (rt_k h7)
      have sq_7 := at_keep sq_6 (rt_k h7)
      refine mm_skip (mm_call_mono _ _) 3 (st' := (176, [(7, .int vn), (6, .int (nI isq)), (5, .int (nI ibbr)), (4, .int (nI (a + 1))), (3, .int 0), (0, .ref 1), (1, .int 1), (2, .int (nI a))], [.int (-1), .int vn], wC ov7 un7 (nI n7) dp fa7 cu st fi se th db cn F, 0)) rfl ?_
      refine mm_branch (mm_call_mono _ _) (c := vn = (-1)) (s1 := (179, [(7, .int vn), (6, .int (nI isq)), (5, .int (nI ibbr)), (4, .int (nI (a + 1))), (3, .int 0), (0, .ref 1), (1, .int 1), (2, .int (nI a))], [], wC ov7 un7 (nI n7) dp fa7 cu st fi se th db cn F, 0)) (s2 := (181, [(7, .int vn), (6, .int (nI isq)), (5, .int (nI ibbr)), (4, .int (nI (a + 1))), (3, .int 0), (0, .ref 1), (1, .int 1), (2, .int (nI a))], [], wC ov7 un7 (nI n7) dp fa7 cu st fi se th db cn F, 0)) rfl (fun en => ?_) (fun en => ?_)
      · skip
        have E7 := rt_e0 E6 h7 en
        refine mm_skip (mm_call_mono _ _) 1 (st' := (180, [(7, .int vn), (6, .int (nI isq)), (5, .int (nI ibbr)), (4, .int (nI (a + 1))), (3, .int 0), (0, .ref 1), (1, .int 1), (2, .int (nI a))], [.int (-1)], wC ov7 un7 (nI n7) dp fa7 cu st fi se th db cn F, 0)) rfl ?_
        exact mm_ret (mm_call_mono _ _) (c := True) (r := .inl (some (.int (-1)))) (M := wC ov7 un7 (nI n7) dp fa7 cu st fi se th db cn F) (u := 0) rfl trivial (by decide) (hQ _ _ _ _ _ (rt_no s7 (by omega) E7 F7))
      · skip
        obtain ⟨irn, rfl, jrn, krn⟩ := rt_ix h7 en
        have E7 := rt_e1 E6 h7 krn
        have rn_7 := at_rt h7 krn
        refine mm_skip (mm_call_mono _ _) 4 (st' := (187, [(8, .int 0), (7, .int (nI irn)), (6, .int (nI isq)), (5, .int (nI ibbr)), (4, .int (nI (a + 1))), (3, .int 0), (0, .ref 1), (1, .int 1), (2, .int (nI a))], [.int 2, .int 0], wC ov7 un7 (nI n7) dp fa7 cu st fi se th db cn F, 0)) rfl ?_
        refine mm_branch (mm_call_mono _ _) (c := (2 : Int32) ≤ 0) (s1 := (316, [(8, .int 0), (7, .int (nI irn)), (6, .int (nI isq)), (5, .int (nI ibbr)), (4, .int (nI (a + 1))), (3, .int 0), (0, .ref 1), (1, .int 1), (2, .int (nI a))], [], wC ov7 un7 (nI n7) dp fa7 cu st fi se th db cn F, 0)) (s2 := (190, [(8, .int 0), (7, .int (nI irn)), (6, .int (nI isq)), (5, .int (nI ibbr)), (4, .int (nI (a + 1))), (3, .int 0), (0, .ref 1), (1, .int 1), (2, .int (nI a))], [], wC ov7 un7 (nI n7) dp fa7 cu st fi se th db cn F, 0)) rfl (fun h => absurd h (by decide)) (fun _ => ?_)
        refine mm_skip (mm_call_mono _ _) 6 (st' := (197, [(8, .int 0), (7, .int (nI irn)), (6, .int (nI isq)), (5, .int (nI ibbr)), (4, .int (nI (a + 1))), (3, .int 0), (0, .ref 1), (1, .int 1), (2, .int (nI a))], [.int 0, .int (nI a), .int 0, .ref 1, .int 0, .ref 1], wC ov7 un7 (nI n7) dp fa7 cu st fi se th db cn F, 0)) rfl ?_
        refine mm_branch (mm_call_mono _ _) (c := (0 : Int32) = 0) (s1 := (200, [(8, .int 0), (7, .int (nI irn)), (6, .int (nI isq)), (5, .int (nI ibbr)), (4, .int (nI (a + 1))), (3, .int 0), (0, .ref 1), (1, .int 1), (2, .int (nI a))], [.int (nI a), .int 0, .ref 1, .int 0, .ref 1], wC ov7 un7 (nI n7) dp fa7 cu st fi se th db cn F, 0)) (s2 := (205, [(8, .int 0), (7, .int (nI irn)), (6, .int (nI isq)), (5, .int (nI ibbr)), (4, .int (nI (a + 1))), (3, .int 0), (0, .ref 1), (1, .int 1), (2, .int (nI a))], [.int (nI a), .int 0, .ref 1, .int 0, .ref 1], wC ov7 un7 (nI n7) dp fa7 cu st fi se th db cn F, 0)) rfl (fun _ => ?_) (fun h => absurd (by decide) h)
        refine mm_skip (mm_call_mono _ _) 2 (st' := (212, [(8, .int 0), (7, .int (nI irn)), (6, .int (nI isq)), (5, .int (nI ibbr)), (4, .int (nI (a + 1))), (3, .int 0), (0, .ref 1), (1, .int 1), (2, .int (nI a))], [.int (nI irn), .int (nI a), .int 0, .ref 1, .int 0, .ref 1], wC ov7 un7 (nI n7) dp fa7 cu st fi se th db cn F, 0)) rfl ?_
        refine mm_inv (mm_call_mono _ _) (j := 142) (a := [.ref 1, .int 0, .int (nI a), .int (nI irn)]) (M := wC ov7 un7 (nI n7) dp fa7 cu st fi se th db cn F) (u := 0) rfl (by decide) (at_N_sum_0 s7.2.1 s7.1 (at_lo A_7 (by omega)) (at_lo rn_7 (by omega)) (fun ov8 un8 n8 fa8 isu h8 => ?_))
        show mm_W _ _ _ _ _ _ _ (215, [(8, .int 0), (7, .int (nI irn)), (6, .int (nI isq)), (5, .int (nI ibbr)), (4, .int (nI (a + 1))), (3, .int 0), (0, .ref 1), (1, .int 1), (2, .int (nI a))], [.int (nI isu), .int 0, .ref 1], wC ov8 un8 (nI n8) dp fa8 cu st fi se th db cn F, 0)
        have E7 : fa7 = 0 → nrt1 R1 x = Option.bind (nadd 1 x (g4 _)) _ := E7
        have s8 := stl_s s7 h8
        have F8 := sq_f s7 F7 E7 h8 (by omega)
        have E8 := seq_e E7 h8
        have A_8 := at_keep A_7 (op_k h8)
        have P_8 := at_keep P_7 (op_k h8)
        have bb_8 := at_keep bb_7 (op_k h8)
        have bbr_8 := at_keep bbr_7 (op_k h8)
        have aa_8 := at_keep aa_7 (op_k h8)
        have nb_8 := at_keep nb_7 (op_k h8)
        have sq_8 := at_keep sq_7 (op_k h8)
        have rn_8 := at_keep rn_7 (op_k h8)
        have su_8 := at_new h8
        refine mm_inv (mm_call_mono _ _) (j := 144) (a := [.ref 1, .int 0, .int (nI isu)]) (M := wC ov8 un8 (nI n8) dp fa8 cu st fi se th db cn F) (u := 0) rfl (by decide) (at_N_half_0 s8.2.1 s8.1 (at_lo su_8 (by omega)) (fun ov9 un9 n9 fa9 ihha h9 => ?_))
        show mm_W _ _ _ _ _ _ _ (218, [(8, .int 0), (7, .int (nI irn)), (6, .int (nI isq)), (5, .int (nI ibbr)), (4, .int (nI (a + 1))), (3, .int 0), (0, .ref 1), (1, .int 1), (2, .int (nI a))], [.int (nI ihha)], wC ov9 un9 (nI n9) dp fa9 cu st fi se th db cn F, 0)
        have E8 : fa8 = 0 → nrt1 R1 x = Option.bind (nhalf 1 (g4 _)) _ := E8
        have s9 := stl_s s8 h9
        have F9 := sq_f s8 F8 E8 h9 (by omega)
        have E9 := seq_e E8 h9
        have A_9 := at_keep A_8 (op_k h9)
        have P_9 := at_keep P_8 (op_k h9)
        have bb_9 := at_keep bb_8 (op_k h9)
        have bbr_9 := at_keep bbr_8 (op_k h9)
        have aa_9 := at_keep aa_8 (op_k h9)
        have nb_9 := at_keep nb_8 (op_k h9)
        have sq_9 := at_keep sq_8 (op_k h9)
        have rn_9 := at_keep rn_8 (op_k h9)
        have su_9 := at_keep su_8 (op_k h9)
        have hha_9 := at_new h9
        refine mm_skip (mm_call_mono _ _) 4 (st' := (224, [(9, .int (nI ihha)), (8, .int 0), (7, .int (nI irn)), (6, .int (nI isq)), (5, .int (nI ibbr)), (4, .int (nI (a + 1))), (3, .int 0), (0, .ref 1), (1, .int 1), (2, .int (nI a))], [.int (nI ihha), .int 0, .ref 1], wC ov9 un9 (nI n9) dp fa9 cu st fi se th db cn F, 0)) rfl ?_
        refine mm_inv (mm_call_mono _ _) (j := 147) (a := [.ref 1, .int 0, .int (nI ihha)]) (M := wC ov9 un9 (nI n9) dp fa9 cu st fi se th db cn F) (u := 0) rfl (by decide) (at_N_signOf_0 s9.2.1 s9.1 (at_lo hha_9 (by omega)) (fun ov10 un10 n10 fa10 va h10 => ?_))
        show mm_W _ _ _ _ _ _ _ (227, [(9, .int (nI ihha)), (8, .int 0), (7, .int (nI irn)), (6, .int (nI isq)), (5, .int (nI ibbr)), (4, .int (nI (a + 1))), (3, .int 0), (0, .ref 1), (1, .int 1), (2, .int (nI a))], [.int va], wC ov10 un10 (nI n10) dp fa10 cu st fi se th db cn F, 0)
        have s10 := stl_g s9 h10
        have F10 := sg_f s9 F9 E9 h10 (by omega)
        have E10 := sg_e E9 h10
        have A_10 := at_keep A_9 (sg_k h10)
        have P_10 := at_keep P_9 (sg_k h10)
        have bb_10 := at_keep bb_9 (sg_k h10)
        have bbr_10 := at_keep bbr_9 (sg_k h10)
        have aa_10 := at_keep aa_9 (sg_k h10)
        have nb_10 := at_keep nb_9 (sg_k h10)
        have sq_10 := at_keep sq_9 (sg_k h10)
        have rn_10 := at_keep rn_9 (sg_k h10)
        have su_10 := at_keep su_9 (sg_k h10)
        have hha_10 := at_keep hha_9 (sg_k h10)
        refine mm_branch (mm_call_mono _ _) (c := va ≤ 0) (s1 := (240, [(9, .int (nI ihha)), (8, .int 0), (7, .int (nI irn)), (6, .int (nI isq)), (5, .int (nI ibbr)), (4, .int (nI (a + 1))), (3, .int 0), (0, .ref 1), (1, .int 1), (2, .int (nI a))], [], wC ov10 un10 (nI n10) dp fa10 cu st fi se th db cn F, 0)) (s2 := (230, [(9, .int (nI ihha)), (8, .int 0), (7, .int (nI irn)), (6, .int (nI isq)), (5, .int (nI ibbr)), (4, .int (nI (a + 1))), (3, .int 0), (0, .ref 1), (1, .int 1), (2, .int (nI a))], [], wC ov10 un10 (nI n10) dp fa10 cu st fi se th db cn F, 0)) rfl (fun ga => ?_) (fun ga => ?_)
        · skip
          have E10 := fun q0 => (E10 q0).trans (if_neg (i32_le ga))
          refine mm_skip (mm_call_mono _ _) 4 (st' := (246, [(10, .int (-1)), (9, .int (nI ihha)), (8, .int 0), (7, .int (nI irn)), (6, .int (nI isq)), (5, .int (nI ibbr)), (4, .int (nI (a + 1))), (3, .int 0), (0, .ref 1), (1, .int 1), (2, .int (nI a))], [.int (-1), .int (-1)], wC ov10 un10 (nI n10) dp fa10 cu st fi se th db cn F, 0)) rfl ?_
          refine mm_branch (mm_call_mono _ _) (c := ((-1) : Int32) = (-1)) (s1 := (310, [(10, .int (-1)), (9, .int (nI ihha)), (8, .int 0), (7, .int (nI irn)), (6, .int (nI isq)), (5, .int (nI ibbr)), (4, .int (nI (a + 1))), (3, .int 0), (0, .ref 1), (1, .int 1), (2, .int (nI a))], [], wC ov10 un10 (nI n10) dp fa10 cu st fi se th db cn F, 0)) (s2 := (249, [(10, .int (-1)), (9, .int (nI ihha)), (8, .int 0), (7, .int (nI irn)), (6, .int (nI isq)), (5, .int (nI ibbr)), (4, .int (nI (a + 1))), (3, .int 0), (0, .ref 1), (1, .int 1), (2, .int (nI a))], [], wC ov10 un10 (nI n10) dp fa10 cu st fi se th db cn F, 0)) rfl (fun _ => ?_) (fun h => absurd (by decide) h)
          refine mm_skip (mm_call_mono _ _) 4 (st' := (187, [(8, .int 1), (10, .int (-1)), (9, .int (nI ihha)), (7, .int (nI irn)), (6, .int (nI isq)), (5, .int (nI ibbr)), (4, .int (nI (a + 1))), (3, .int 0), (0, .ref 1), (1, .int 1), (2, .int (nI a))], [.int 2, .int 1], wC ov10 un10 (nI n10) dp fa10 cu st fi se th db cn F, 0)) rfl ?_
          refine mm_branch (mm_call_mono _ _) (c := (2 : Int32) ≤ 1) (s1 := (316, [(8, .int 1), (10, .int (-1)), (9, .int (nI ihha)), (7, .int (nI irn)), (6, .int (nI isq)), (5, .int (nI ibbr)), (4, .int (nI (a + 1))), (3, .int 0), (0, .ref 1), (1, .int 1), (2, .int (nI a))], [], wC ov10 un10 (nI n10) dp fa10 cu st fi se th db cn F, 0)) (s2 := (190, [(8, .int 1), (10, .int (-1)), (9, .int (nI ihha)), (7, .int (nI irn)), (6, .int (nI isq)), (5, .int (nI ibbr)), (4, .int (nI (a + 1))), (3, .int 0), (0, .ref 1), (1, .int 1), (2, .int (nI a))], [], wC ov10 un10 (nI n10) dp fa10 cu st fi se th db cn F, 0)) rfl (fun h => absurd h (by decide)) (fun _ => ?_)
          refine mm_skip (mm_call_mono _ _) 6 (st' := (197, [(8, .int 1), (10, .int (-1)), (9, .int (nI ihha)), (7, .int (nI irn)), (6, .int (nI isq)), (5, .int (nI ibbr)), (4, .int (nI (a + 1))), (3, .int 0), (0, .ref 1), (1, .int 1), (2, .int (nI a))], [.int 1, .int (nI a), .int 0, .ref 1, .int 0, .ref 1], wC ov10 un10 (nI n10) dp fa10 cu st fi se th db cn F, 0)) rfl ?_
          refine mm_branch (mm_call_mono _ _) (c := (1 : Int32) = 0) (s1 := (200, [(8, .int 1), (10, .int (-1)), (9, .int (nI ihha)), (7, .int (nI irn)), (6, .int (nI isq)), (5, .int (nI ibbr)), (4, .int (nI (a + 1))), (3, .int 0), (0, .ref 1), (1, .int 1), (2, .int (nI a))], [.int (nI a), .int 0, .ref 1, .int 0, .ref 1], wC ov10 un10 (nI n10) dp fa10 cu st fi se th db cn F, 0)) (s2 := (205, [(8, .int 1), (10, .int (-1)), (9, .int (nI ihha)), (7, .int (nI irn)), (6, .int (nI isq)), (5, .int (nI ibbr)), (4, .int (nI (a + 1))), (3, .int 0), (0, .ref 1), (1, .int 1), (2, .int (nI a))], [.int (nI a), .int 0, .ref 1, .int 0, .ref 1], wC ov10 un10 (nI n10) dp fa10 cu st fi se th db cn F, 0)) rfl (fun h => absurd h (by decide)) (fun _ => ?_)
          refine mm_skip (mm_call_mono _ _) 3 (st' := (209, [(8, .int 1), (10, .int (-1)), (9, .int (nI ihha)), (7, .int (nI irn)), (6, .int (nI isq)), (5, .int (nI ibbr)), (4, .int (nI (a + 1))), (3, .int 0), (0, .ref 1), (1, .int 1), (2, .int (nI a))], [.int (nI irn), .int 0, .ref 1, .int (nI a), .int 0, .ref 1, .int 0, .ref 1], wC ov10 un10 (nI n10) dp fa10 cu st fi se th db cn F, 0)) rfl ?_
          refine mm_inv (mm_call_mono _ _) (j := 143) (a := [.ref 1, .int 0, .int (nI irn)]) (M := wC ov10 un10 (nI n10) dp fa10 cu st fi se th db cn F) (u := 0) rfl (by decide) (at_N_negative_0 s10.2.1 s10.1 (at_lo rn_10 (by omega)) (fun ov11 un11 n11 fa11 imn h11 => ?_))
          show mm_W _ _ _ _ _ _ _ (212, [(8, .int 1), (10, .int (-1)), (9, .int (nI ihha)), (7, .int (nI irn)), (6, .int (nI isq)), (5, .int (nI ibbr)), (4, .int (nI (a + 1))), (3, .int 0), (0, .ref 1), (1, .int 1), (2, .int (nI a))], [.int (nI imn), .int (nI a), .int 0, .ref 1, .int 0, .ref 1], wC ov11 un11 (nI n11) dp fa11 cu st fi se th db cn F, 0)
          have E10 : fa10 = 0 → nrt1 R1 x = rtT1 1 nmul0 ninv0 nsg0 (nsg1 R1) nrt0 x _ := E10
          have E10 : fa10 = 0 → nrt1 R1 x = Option.bind (nneg 1 (g4 _)) _ := E10
          have s11 := stl_s s10 h11
          have F11 := sq_f s10 F10 E10 h11 (by omega)
          have E11 := seq_e E10 h11
          have A_11 := at_keep A_10 (op_k h11)
          have P_11 := at_keep P_10 (op_k h11)
          have bb_11 := at_keep bb_10 (op_k h11)
          have bbr_11 := at_keep bbr_10 (op_k h11)
          have aa_11 := at_keep aa_10 (op_k h11)
          have nb_11 := at_keep nb_10 (op_k h11)
          have sq_11 := at_keep sq_10 (op_k h11)
          have rn_11 := at_keep rn_10 (op_k h11)
          have su_11 := at_keep su_10 (op_k h11)
          have hha_11 := at_keep hha_10 (op_k h11)
          have mn_11 := at_new h11
          refine mm_inv (mm_call_mono _ _) (j := 142) (a := [.ref 1, .int 0, .int (nI a), .int (nI imn)]) (M := wC ov11 un11 (nI n11) dp fa11 cu st fi se th db cn F) (u := 0) rfl (by decide) (at_N_sum_0 s11.2.1 s11.1 (at_lo A_11 (by omega)) (at_lo mn_11 (by omega)) (fun ov12 un12 n12 fa12 isv h12 => ?_))
          show mm_W _ _ _ _ _ _ _ (215, [(8, .int 1), (10, .int (-1)), (9, .int (nI ihha)), (7, .int (nI irn)), (6, .int (nI isq)), (5, .int (nI ibbr)), (4, .int (nI (a + 1))), (3, .int 0), (0, .ref 1), (1, .int 1), (2, .int (nI a))], [.int (nI isv), .int 0, .ref 1], wC ov12 un12 (nI n12) dp fa12 cu st fi se th db cn F, 0)
          have s12 := stl_s s11 h12
          have F12 := sq_f s11 F11 E11 h12 (by omega)
          have E12 := seq_e E11 h12
          have A_12 := at_keep A_11 (op_k h12)
          have P_12 := at_keep P_11 (op_k h12)
          have bb_12 := at_keep bb_11 (op_k h12)
          have bbr_12 := at_keep bbr_11 (op_k h12)
          have aa_12 := at_keep aa_11 (op_k h12)
          have nb_12 := at_keep nb_11 (op_k h12)
          have sq_12 := at_keep sq_11 (op_k h12)
          have rn_12 := at_keep rn_11 (op_k h12)
          have su_12 := at_keep su_11 (op_k h12)
          have hha_12 := at_keep hha_11 (op_k h12)
          have mn_12 := at_keep mn_11 (op_k h12)
          have sv_12 := at_new h12
          refine mm_inv (mm_call_mono _ _) (j := 144) (a := [.ref 1, .int 0, .int (nI isv)]) (M := wC ov12 un12 (nI n12) dp fa12 cu st fi se th db cn F) (u := 0) rfl (by decide) (at_N_half_0 s12.2.1 s12.1 (at_lo sv_12 (by omega)) (fun ov13 un13 n13 fa13 ihhb h13 => ?_))
          show mm_W _ _ _ _ _ _ _ (218, [(8, .int 1), (10, .int (-1)), (9, .int (nI ihha)), (7, .int (nI irn)), (6, .int (nI isq)), (5, .int (nI ibbr)), (4, .int (nI (a + 1))), (3, .int 0), (0, .ref 1), (1, .int 1), (2, .int (nI a))], [.int (nI ihhb)], wC ov13 un13 (nI n13) dp fa13 cu st fi se th db cn F, 0)
          have E12 : fa12 = 0 → nrt1 R1 x = Option.bind (nhalf 1 (g4 _)) _ := E12
          have s13 := stl_s s12 h13
          have F13 := sq_f s12 F12 E12 h13 (by omega)
          have E13 := seq_e E12 h13
          have A_13 := at_keep A_12 (op_k h13)
          have P_13 := at_keep P_12 (op_k h13)
          have bb_13 := at_keep bb_12 (op_k h13)
          have bbr_13 := at_keep bbr_12 (op_k h13)
          have aa_13 := at_keep aa_12 (op_k h13)
          have nb_13 := at_keep nb_12 (op_k h13)
          have sq_13 := at_keep sq_12 (op_k h13)
          have rn_13 := at_keep rn_12 (op_k h13)
          have su_13 := at_keep su_12 (op_k h13)
          have hha_13 := at_keep hha_12 (op_k h13)
          have mn_13 := at_keep mn_12 (op_k h13)
          have sv_13 := at_keep sv_12 (op_k h13)
          have hhb_13 := at_new h13
          refine mm_skip (mm_call_mono _ _) 4 (st' := (224, [(9, .int (nI ihhb)), (8, .int 1), (10, .int (-1)), (7, .int (nI irn)), (6, .int (nI isq)), (5, .int (nI ibbr)), (4, .int (nI (a + 1))), (3, .int 0), (0, .ref 1), (1, .int 1), (2, .int (nI a))], [.int (nI ihhb), .int 0, .ref 1], wC ov13 un13 (nI n13) dp fa13 cu st fi se th db cn F, 0)) rfl ?_
          refine mm_inv (mm_call_mono _ _) (j := 147) (a := [.ref 1, .int 0, .int (nI ihhb)]) (M := wC ov13 un13 (nI n13) dp fa13 cu st fi se th db cn F) (u := 0) rfl (by decide) (at_N_signOf_0 s13.2.1 s13.1 (at_lo hhb_13 (by omega)) (fun ov14 un14 n14 fa14 vb h14 => ?_))
          show mm_W _ _ _ _ _ _ _ (227, [(9, .int (nI ihhb)), (8, .int 1), (10, .int (-1)), (7, .int (nI irn)), (6, .int (nI isq)), (5, .int (nI ibbr)), (4, .int (nI (a + 1))), (3, .int 0), (0, .ref 1), (1, .int 1), (2, .int (nI a))], [.int vb], wC ov14 un14 (nI n14) dp fa14 cu st fi se th db cn F, 0)
          have s14 := stl_g s13 h14
          have F14 := sg_f s13 F13 E13 h14 (by omega)
          have E14 := sg_e E13 h14
          have A_14 := at_keep A_13 (sg_k h14)
          have P_14 := at_keep P_13 (sg_k h14)
          have bb_14 := at_keep bb_13 (sg_k h14)
          have bbr_14 := at_keep bbr_13 (sg_k h14)
          have aa_14 := at_keep aa_13 (sg_k h14)
          have nb_14 := at_keep nb_13 (sg_k h14)
          have sq_14 := at_keep sq_13 (sg_k h14)
          have rn_14 := at_keep rn_13 (sg_k h14)
          have su_14 := at_keep su_13 (sg_k h14)
          have hha_14 := at_keep hha_13 (sg_k h14)
          have mn_14 := at_keep mn_13 (sg_k h14)
          have sv_14 := at_keep sv_13 (sg_k h14)
          have hhb_14 := at_keep hhb_13 (sg_k h14)
          refine mm_branch (mm_call_mono _ _) (c := vb ≤ 0) (s1 := (240, [(9, .int (nI ihhb)), (8, .int 1), (10, .int (-1)), (7, .int (nI irn)), (6, .int (nI isq)), (5, .int (nI ibbr)), (4, .int (nI (a + 1))), (3, .int 0), (0, .ref 1), (1, .int 1), (2, .int (nI a))], [], wC ov14 un14 (nI n14) dp fa14 cu st fi se th db cn F, 0)) (s2 := (230, [(9, .int (nI ihhb)), (8, .int 1), (10, .int (-1)), (7, .int (nI irn)), (6, .int (nI isq)), (5, .int (nI ibbr)), (4, .int (nI (a + 1))), (3, .int 0), (0, .ref 1), (1, .int 1), (2, .int (nI a))], [], wC ov14 un14 (nI n14) dp fa14 cu st fi se th db cn F, 0)) rfl (fun gb => ?_) (fun gb => ?_)
          · skip
            have E14 := fun q0 => (E14 q0).trans (if_neg (i32_le gb))
            refine mm_skip (mm_call_mono _ _) 4 (st' := (246, [(10, .int (-1)), (9, .int (nI ihhb)), (8, .int 1), (7, .int (nI irn)), (6, .int (nI isq)), (5, .int (nI ibbr)), (4, .int (nI (a + 1))), (3, .int 0), (0, .ref 1), (1, .int 1), (2, .int (nI a))], [.int (-1), .int (-1)], wC ov14 un14 (nI n14) dp fa14 cu st fi se th db cn F, 0)) rfl ?_
            refine mm_branch (mm_call_mono _ _) (c := ((-1) : Int32) = (-1)) (s1 := (310, [(10, .int (-1)), (9, .int (nI ihhb)), (8, .int 1), (7, .int (nI irn)), (6, .int (nI isq)), (5, .int (nI ibbr)), (4, .int (nI (a + 1))), (3, .int 0), (0, .ref 1), (1, .int 1), (2, .int (nI a))], [], wC ov14 un14 (nI n14) dp fa14 cu st fi se th db cn F, 0)) (s2 := (249, [(10, .int (-1)), (9, .int (nI ihhb)), (8, .int 1), (7, .int (nI irn)), (6, .int (nI isq)), (5, .int (nI ibbr)), (4, .int (nI (a + 1))), (3, .int 0), (0, .ref 1), (1, .int 1), (2, .int (nI a))], [], wC ov14 un14 (nI n14) dp fa14 cu st fi se th db cn F, 0)) rfl (fun _ => ?_) (fun h => absurd (by decide) h)
            refine mm_skip (mm_call_mono _ _) 4 (st' := (187, [(8, .int 2), (10, .int (-1)), (9, .int (nI ihhb)), (7, .int (nI irn)), (6, .int (nI isq)), (5, .int (nI ibbr)), (4, .int (nI (a + 1))), (3, .int 0), (0, .ref 1), (1, .int 1), (2, .int (nI a))], [.int 2, .int 2], wC ov14 un14 (nI n14) dp fa14 cu st fi se th db cn F, 0)) rfl ?_
            refine mm_branch (mm_call_mono _ _) (c := (2 : Int32) ≤ 2) (s1 := (316, [(8, .int 2), (10, .int (-1)), (9, .int (nI ihhb)), (7, .int (nI irn)), (6, .int (nI isq)), (5, .int (nI ibbr)), (4, .int (nI (a + 1))), (3, .int 0), (0, .ref 1), (1, .int 1), (2, .int (nI a))], [], wC ov14 un14 (nI n14) dp fa14 cu st fi se th db cn F, 0)) (s2 := (190, [(8, .int 2), (10, .int (-1)), (9, .int (nI ihhb)), (7, .int (nI irn)), (6, .int (nI isq)), (5, .int (nI ibbr)), (4, .int (nI (a + 1))), (3, .int 0), (0, .ref 1), (1, .int 1), (2, .int (nI a))], [], wC ov14 un14 (nI n14) dp fa14 cu st fi se th db cn F, 0)) rfl (fun _ => ?_) (fun h => absurd (by decide) h)
            refine mm_skip (mm_call_mono _ _) 1 (st' := (317, [(8, .int 2), (10, .int (-1)), (9, .int (nI ihhb)), (7, .int (nI irn)), (6, .int (nI isq)), (5, .int (nI ibbr)), (4, .int (nI (a + 1))), (3, .int 0), (0, .ref 1), (1, .int 1), (2, .int (nI a))], [.int (-1)], wC ov14 un14 (nI n14) dp fa14 cu st fi se th db cn F, 0)) rfl ?_
            exact mm_ret (mm_call_mono _ _) (c := True) (r := .inl (some (.int (-1)))) (M := wC ov14 un14 (nI n14) dp fa14 cu st fi se th db cn F) (u := 0) rfl trivial (by decide) (hQ _ _ _ _ _ (rt_no s14 (by omega) E14 F14))
          · skip
            have E14 := fun q0 => (E14 q0).trans (if_pos (i32_gt gb))
            refine mm_skip (mm_call_mono _ _) 3 (st' := (234, [(9, .int (nI ihhb)), (8, .int 1), (10, .int (-1)), (7, .int (nI irn)), (6, .int (nI isq)), (5, .int (nI ibbr)), (4, .int (nI (a + 1))), (3, .int 0), (0, .ref 1), (1, .int 1), (2, .int (nI a))], [.int (nI ihhb), .int 0, .ref 1], wC ov14 un14 (nI n14) dp fa14 cu st fi se th db cn F, 0)) rfl ?_
            refine mm_inv (mm_call_mono _ _) (j := 148) (a := [.ref 1, .int 0, .int (nI ihhb)]) (M := wC ov14 un14 (nI n14) dp fa14 cu st fi se th db cn F) (u := 0) rfl (by decide) (at_N_root_0 s14.2.1 s14.1 (at_lo hhb_14 (by omega)) (fun ov15 un15 n15 fa15 wb h15 => ?_))
            show mm_W _ _ _ _ _ _ _ (237, [(9, .int (nI ihhb)), (8, .int 1), (10, .int (-1)), (7, .int (nI irn)), (6, .int (nI isq)), (5, .int (nI ibbr)), (4, .int (nI (a + 1))), (3, .int 0), (0, .ref 1), (1, .int 1), (2, .int (nI a))], [.int wb], wC ov15 un15 (nI n15) dp fa15 cu st fi se th db cn F, 0)
            have s15 := stl_r s14 h15
            have F15 := rt_f s14 F14 E14 h15 (by omega)
            have A_15 := at_keep A_14 (rt_k h15)
            have P_15 := at_keep P_14 (rt_k h15)
            have bb_15 := at_keep bb_14 (rt_k h15)
            have bbr_15 := at_keep bbr_14 (rt_k h15)
            have aa_15 := at_keep aa_14 (rt_k h15)
            have nb_15 := at_keep nb_14 (rt_k h15)
            have sq_15 := at_keep sq_14 (rt_k h15)
            have rn_15 := at_keep rn_14 (rt_k h15)
            have su_15 := at_keep su_14 (rt_k h15)
            have hha_15 := at_keep hha_14 (rt_k h15)
            have mn_15 := at_keep mn_14 (rt_k h15)
            have sv_15 := at_keep sv_14 (rt_k h15)
            have hhb_15 := at_keep hhb_14 (rt_k h15)
            refine mm_skip (mm_call_mono _ _) 4 (st' := (246, [(10, .int wb), (9, .int (nI ihhb)), (8, .int 1), (7, .int (nI irn)), (6, .int (nI isq)), (5, .int (nI ibbr)), (4, .int (nI (a + 1))), (3, .int 0), (0, .ref 1), (1, .int 1), (2, .int (nI a))], [.int (-1), .int wb], wC ov15 un15 (nI n15) dp fa15 cu st fi se th db cn F, 0)) rfl ?_
            refine mm_branch (mm_call_mono _ _) (c := wb = (-1)) (s1 := (310, [(10, .int wb), (9, .int (nI ihhb)), (8, .int 1), (7, .int (nI irn)), (6, .int (nI isq)), (5, .int (nI ibbr)), (4, .int (nI (a + 1))), (3, .int 0), (0, .ref 1), (1, .int 1), (2, .int (nI a))], [], wC ov15 un15 (nI n15) dp fa15 cu st fi se th db cn F, 0)) (s2 := (249, [(10, .int wb), (9, .int (nI ihhb)), (8, .int 1), (7, .int (nI irn)), (6, .int (nI isq)), (5, .int (nI ibbr)), (4, .int (nI (a + 1))), (3, .int 0), (0, .ref 1), (1, .int 1), (2, .int (nI a))], [], wC ov15 un15 (nI n15) dp fa15 cu st fi se th db cn F, 0)) rfl (fun eb => ?_) (fun eb => ?_)
            · skip
              have E15 := rt_e0 E14 h15 eb
              refine mm_skip (mm_call_mono _ _) 4 (st' := (187, [(8, .int 2), (10, .int wb), (9, .int (nI ihhb)), (7, .int (nI irn)), (6, .int (nI isq)), (5, .int (nI ibbr)), (4, .int (nI (a + 1))), (3, .int 0), (0, .ref 1), (1, .int 1), (2, .int (nI a))], [.int 2, .int 2], wC ov15 un15 (nI n15) dp fa15 cu st fi se th db cn F, 0)) rfl ?_
              refine mm_branch (mm_call_mono _ _) (c := (2 : Int32) ≤ 2) (s1 := (316, [(8, .int 2), (10, .int wb), (9, .int (nI ihhb)), (7, .int (nI irn)), (6, .int (nI isq)), (5, .int (nI ibbr)), (4, .int (nI (a + 1))), (3, .int 0), (0, .ref 1), (1, .int 1), (2, .int (nI a))], [], wC ov15 un15 (nI n15) dp fa15 cu st fi se th db cn F, 0)) (s2 := (190, [(8, .int 2), (10, .int wb), (9, .int (nI ihhb)), (7, .int (nI irn)), (6, .int (nI isq)), (5, .int (nI ibbr)), (4, .int (nI (a + 1))), (3, .int 0), (0, .ref 1), (1, .int 1), (2, .int (nI a))], [], wC ov15 un15 (nI n15) dp fa15 cu st fi se th db cn F, 0)) rfl (fun _ => ?_) (fun h => absurd (by decide) h)
              refine mm_skip (mm_call_mono _ _) 1 (st' := (317, [(8, .int 2), (10, .int wb), (9, .int (nI ihhb)), (7, .int (nI irn)), (6, .int (nI isq)), (5, .int (nI ibbr)), (4, .int (nI (a + 1))), (3, .int 0), (0, .ref 1), (1, .int 1), (2, .int (nI a))], [.int (-1)], wC ov15 un15 (nI n15) dp fa15 cu st fi se th db cn F, 0)) rfl ?_
              exact mm_ret (mm_call_mono _ _) (c := True) (r := .inl (some (.int (-1)))) (M := wC ov15 un15 (nI n15) dp fa15 cu st fi se th db cn F) (u := 0) rfl trivial (by decide) (hQ _ _ _ _ _ (rt_no s15 (by omega) E15 F15))
            · skip
              obtain ⟨iwrb, rfl, jwrb, kwrb⟩ := rt_ix h15 eb
              have E15 := rt_e1 E14 h15 kwrb
              have wrb_15 := at_rt h15 kwrb
              refine mm_skip (mm_call_mono _ _) 9 (st' := (261, [(10, .int (nI iwrb)), (9, .int (nI ihhb)), (8, .int 1), (7, .int (nI irn)), (6, .int (nI isq)), (5, .int (nI ibbr)), (4, .int (nI (a + 1))), (3, .int 0), (0, .ref 1), (1, .int 1), (2, .int (nI a))], [.int (nI iwrb), .int (nI iwrb), .int 0, .ref 1, .int 0, .ref 1, .int (nI (a + 1)), .int 0, .ref 1], wC ov15 un15 (nI n15) dp fa15 cu st fi se th db cn F, 0)) rfl ?_
              refine mm_inv (mm_call_mono _ _) (j := 142) (a := [.ref 1, .int 0, .int (nI iwrb), .int (nI iwrb)]) (M := wC ov15 un15 (nI n15) dp fa15 cu st fi se th db cn F) (u := 0) rfl (by decide) (at_N_sum_0 s15.2.1 s15.1 (at_lo wrb_15 (by omega)) (at_lo wrb_15 (by omega)) (fun ov16 un16 n16 fa16 iww h16 => ?_))
              show mm_W _ _ _ _ _ _ _ (264, [(10, .int (nI iwrb)), (9, .int (nI ihhb)), (8, .int 1), (7, .int (nI irn)), (6, .int (nI isq)), (5, .int (nI ibbr)), (4, .int (nI (a + 1))), (3, .int 0), (0, .ref 1), (1, .int 1), (2, .int (nI a))], [.int (nI iww), .int 0, .ref 1, .int (nI (a + 1)), .int 0, .ref 1], wC ov16 un16 (nI n16) dp fa16 cu st fi se th db cn F, 0)
              have E15 : fa15 = 0 → nrt1 R1 x = Option.bind (nadd 1 (g4 _) (g4 _)) _ := E15
              have s16 := stl_s s15 h16
              have F16 := sq_f s15 F15 E15 h16 (by omega)
              have E16 := seq_e E15 h16
              have A_16 := at_keep A_15 (op_k h16)
              have P_16 := at_keep P_15 (op_k h16)
              have bb_16 := at_keep bb_15 (op_k h16)
              have bbr_16 := at_keep bbr_15 (op_k h16)
              have aa_16 := at_keep aa_15 (op_k h16)
              have nb_16 := at_keep nb_15 (op_k h16)
              have sq_16 := at_keep sq_15 (op_k h16)
              have rn_16 := at_keep rn_15 (op_k h16)
              have su_16 := at_keep su_15 (op_k h16)
              have hha_16 := at_keep hha_15 (op_k h16)
              have mn_16 := at_keep mn_15 (op_k h16)
              have sv_16 := at_keep sv_15 (op_k h16)
              have hhb_16 := at_keep hhb_15 (op_k h16)
              have wrb_16 := at_keep wrb_15 (op_k h16)
              have ww_16 := at_new h16
              refine mm_inv (mm_call_mono _ _) (j := 146) (a := [.ref 1, .int 0, .int (nI iww)]) (M := wC ov16 un16 (nI n16) dp fa16 cu st fi se th db cn F) (u := 0) rfl (by decide) (at_N_inverse_0 s16.2.1 s16.1 (at_lo ww_16 (by omega)) (fun ov17 un17 n17 fa17 iiw h17 => ?_))
              show mm_W _ _ _ _ _ _ _ (267, [(10, .int (nI iwrb)), (9, .int (nI ihhb)), (8, .int 1), (7, .int (nI irn)), (6, .int (nI isq)), (5, .int (nI ibbr)), (4, .int (nI (a + 1))), (3, .int 0), (0, .ref 1), (1, .int 1), (2, .int (nI a))], [.int (nI iiw), .int (nI (a + 1)), .int 0, .ref 1], wC ov17 un17 (nI n17) dp fa17 cu st fi se th db cn F, 0)
              have s17 := stl_s s16 h17
              have F17 := sq_f s16 F16 E16 h17 (by omega)
              have E17 := seq_e E16 h17
              have A_17 := at_keep A_16 (op_k h17)
              have P_17 := at_keep P_16 (op_k h17)
              have bb_17 := at_keep bb_16 (op_k h17)
              have bbr_17 := at_keep bbr_16 (op_k h17)
              have aa_17 := at_keep aa_16 (op_k h17)
              have nb_17 := at_keep nb_16 (op_k h17)
              have sq_17 := at_keep sq_16 (op_k h17)
              have rn_17 := at_keep rn_16 (op_k h17)
              have su_17 := at_keep su_16 (op_k h17)
              have hha_17 := at_keep hha_16 (op_k h17)
              have mn_17 := at_keep mn_16 (op_k h17)
              have sv_17 := at_keep sv_16 (op_k h17)
              have hhb_17 := at_keep hhb_16 (op_k h17)
              have wrb_17 := at_keep wrb_16 (op_k h17)
              have ww_17 := at_keep ww_16 (op_k h17)
              have iw_17 := at_new h17
              refine mm_inv (mm_call_mono _ _) (j := 145) (a := [.ref 1, .int 0, .int (nI (a + 1)), .int (nI iiw)]) (M := wC ov17 un17 (nI n17) dp fa17 cu st fi se th db cn F) (u := 0) rfl (by decide) (at_N_product_0 s17.2.1 s17.1 (at_hi A_17 1 (by omega)) (at_lo iw_17 (by omega)) (fun ov18 un18 n18 fa18 ivv h18 => ?_))
              show mm_W _ _ _ _ _ _ _ (270, [(10, .int (nI iwrb)), (9, .int (nI ihhb)), (8, .int 1), (7, .int (nI irn)), (6, .int (nI isq)), (5, .int (nI ibbr)), (4, .int (nI (a + 1))), (3, .int 0), (0, .ref 1), (1, .int 1), (2, .int (nI a))], [.int (nI ivv)], wC ov18 un18 (nI n18) dp fa18 cu st fi se th db cn F, 0)
              have s18 := stl_s s17 h18
              have F18 := sq_f s17 F17 E17 h18 (by omega)
              have E18 := seq_e E17 h18
              have A_18 := at_keep A_17 (op_k h18)
              have P_18 := at_keep P_17 (op_k h18)
              have bb_18 := at_keep bb_17 (op_k h18)
              have bbr_18 := at_keep bbr_17 (op_k h18)
              have aa_18 := at_keep aa_17 (op_k h18)
              have nb_18 := at_keep nb_17 (op_k h18)
              have sq_18 := at_keep sq_17 (op_k h18)
              have rn_18 := at_keep rn_17 (op_k h18)
              have su_18 := at_keep su_17 (op_k h18)
              have hha_18 := at_keep hha_17 (op_k h18)
              have mn_18 := at_keep mn_17 (op_k h18)
              have sv_18 := at_keep sv_17 (op_k h18)
              have hhb_18 := at_keep hhb_17 (op_k h18)
              have wrb_18 := at_keep wrb_17 (op_k h18)
              have ww_18 := at_keep ww_17 (op_k h18)
              have iw_18 := at_keep iw_17 (op_k h18)
              have vv_18 := at_new h18
              refine mm_skip (mm_call_mono _ _) 4 (st' := (275, [(11, .int (nI ivv)), (10, .int (nI iwrb)), (9, .int (nI ihhb)), (8, .int 1), (7, .int (nI irn)), (6, .int (nI isq)), (5, .int (nI ibbr)), (4, .int (nI (a + 1))), (3, .int 0), (0, .ref 1), (1, .int 1), (2, .int (nI a))], [.ref 1, .int 0, .ref 1], wC ov18 un18 (nI n18) dp fa18 cu st fi se th db cn F, 0)) rfl ?_
              refine mm_inv (mm_call_mono _ _) (j := 138) (a := [.ref 1]) (M := wC ov18 un18 (nI n18) dp fa18 cu st fi se th db cn F) (u := 0) rfl (by decide) (ct_N_reserve s18.1 (fun ov19 un19 n19 fa19 irr h19 => ?_))
              show mm_W _ _ _ _ _ _ _ (278, [(11, .int (nI ivv)), (10, .int (nI iwrb)), (9, .int (nI ihhb)), (8, .int 1), (7, .int (nI irn)), (6, .int (nI isq)), (5, .int (nI ibbr)), (4, .int (nI (a + 1))), (3, .int 0), (0, .ref 1), (1, .int 1), (2, .int (nI a))], [.int (nI irr), .int 0, .ref 1], wC ov19 un19 (nI n19) dp fa19 cu st fi se th db cn F, 0)
              have rrr := res_r h19 s18.1.1
              have s19 := stl_res s18 h19
              have t19 := stl_res (stl_0 s18.2.1 s18.1) h19
              have A_19 := at_keep A_18 (res_k h19 s18.1.1)
              have P_19 := at_keep P_18 (res_k h19 s18.1.1)
              have bb_19 := at_keep bb_18 (res_k h19 s18.1.1)
              have bbr_19 := at_keep bbr_18 (res_k h19 s18.1.1)
              have aa_19 := at_keep aa_18 (res_k h19 s18.1.1)
              have nb_19 := at_keep nb_18 (res_k h19 s18.1.1)
              have sq_19 := at_keep sq_18 (res_k h19 s18.1.1)
              have rn_19 := at_keep rn_18 (res_k h19 s18.1.1)
              have su_19 := at_keep su_18 (res_k h19 s18.1.1)
              have hha_19 := at_keep hha_18 (res_k h19 s18.1.1)
              have mn_19 := at_keep mn_18 (res_k h19 s18.1.1)
              have sv_19 := at_keep sv_18 (res_k h19 s18.1.1)
              have hhb_19 := at_keep hhb_18 (res_k h19 s18.1.1)
              have wrb_19 := at_keep wrb_18 (res_k h19 s18.1.1)
              have ww_19 := at_keep ww_18 (res_k h19 s18.1.1)
              have iw_19 := at_keep iw_18 (res_k h19 s18.1.1)
              have vv_19 := at_keep vv_18 (res_k h19 s18.1.1)
              have rr_19 := at_res h19 s18.1.1
              refine mm_skip (mm_call_mono _ _) 2 (st' := (282, [(11, .int (nI ivv)), (10, .int (nI iwrb)), (9, .int (nI ihhb)), (8, .int 1), (7, .int (nI irn)), (6, .int (nI isq)), (5, .int (nI ibbr)), (4, .int (nI (a + 1))), (3, .int 0), (0, .ref 1), (1, .int 1), (2, .int (nI a))], [.int (nI ivv), .int (nI iwrb), .int (nI irr), .int 0, .ref 1], wC ov19 un19 (nI n19) dp fa19 cu st fi se th db cn F, 0)) rfl ?_
              refine mm_inv (mm_call_mono _ _) (j := 140) (a := [.ref 1, .int 0, .int (nI irr), .int (nI iwrb), .int (nI ivv)]) (M := wC ov19 un19 (nI n19) dp fa19 cu st fi se th db cn F) (u := 0) rfl (by decide) (ct_N_pair_0 (r := irr) (a := iwrb) (b := ivv) (by omega) (by have := wrb_19.1.1; omega) (by have := vv_19.1.1; omega) ?_)
              show mm_W _ _ _ _ _ _ _ (285, [(11, .int (nI ivv)), (10, .int (nI iwrb)), (9, .int (nI ihhb)), (8, .int 1), (7, .int (nI irn)), (6, .int (nI isq)), (5, .int (nI ibbr)), (4, .int (nI (a + 1))), (3, .int 0), (0, .ref 1), (1, .int 1), (2, .int (nI a))], [.int (nI irr)], wC (prow ov19 1 irr iwrb ivv) (prow un19 1 irr iwrb ivv) (nI (irr + 4)) dp fa19 cu st fi se th db cn F, 0)
              have h20 := pair_op (h := 1) (by omega) s18.1.1 h19 (stl_w t19 (by omega)) (fun q0 => q0) rr_19 wrb_19 vv_19 (fun q0 => Or.inl (by have e1 := (h18.2.2.2.2.2.1 ((res_k h19 s18.1.1 q0).1)); have e2 := res_n h19 q0; omega)) (fun q9 q0 hroom => absurd (q9.symm.trans (res_ok h19 q0 (by omega)).1) z10)
              generalize prow ov19 1 irr iwrb ivv = ov20 at h20 ⊢
              generalize prow un19 1 irr iwrb ivv = un20 at h20 ⊢
              obtain ⟨n20, en20⟩ : ∃ z, z = irr + 4 := ⟨_, rfl⟩
              rw [← en20] at h20 ⊢
              have s20 := stl_s s18 h20
              have F20 := sq_f s18 F18 E18 h20 (by omega)
              have E20 := seq_e E18 h20
              have A_20 := at_keep A_18 (op_k h20)
              have P_20 := at_keep P_18 (op_k h20)
              have bb_20 := at_keep bb_18 (op_k h20)
              have bbr_20 := at_keep bbr_18 (op_k h20)
              have aa_20 := at_keep aa_18 (op_k h20)
              have nb_20 := at_keep nb_18 (op_k h20)
              have sq_20 := at_keep sq_18 (op_k h20)
              have rn_20 := at_keep rn_18 (op_k h20)
              have su_20 := at_keep su_18 (op_k h20)
              have hha_20 := at_keep hha_18 (op_k h20)
              have mn_20 := at_keep mn_18 (op_k h20)
              have sv_20 := at_keep sv_18 (op_k h20)
              have hhb_20 := at_keep hhb_18 (op_k h20)
              have wrb_20 := at_keep wrb_18 (op_k h20)
              have ww_20 := at_keep ww_18 (op_k h20)
              have iw_20 := at_keep iw_18 (op_k h20)
              have vv_20 := at_keep vv_18 (op_k h20)
              have pr_20 := at_new h20
              refine mm_skip (mm_call_mono _ _) 4 (st' := (291, [(12, .int (nI irr)), (11, .int (nI ivv)), (10, .int (nI iwrb)), (9, .int (nI ihhb)), (8, .int 1), (7, .int (nI irn)), (6, .int (nI isq)), (5, .int (nI ibbr)), (4, .int (nI (a + 1))), (3, .int 0), (0, .ref 1), (1, .int 1), (2, .int (nI a))], [.int (nI irr), .int 1, .ref 1], wC ov20 un20 (nI n20) dp fa19 cu st fi se th db cn F, 0)) rfl ?_
              refine mm_inv (mm_call_mono _ _) (j := 147) (a := [.ref 1, .int 1, .int (nI irr)]) (M := wC ov20 un20 (nI n20) dp fa19 cu st fi se th db cn F) (u := 0) rfl (by decide) (at_N_signOf_1 s20.2.1 s20.1 P_20 (at_lo pr_20 (by omega)) (fun ov21 un21 n21 fa21 v3 h21 => ?_))
              show mm_W _ _ _ _ _ _ _ (294, [(12, .int (nI irr)), (11, .int (nI ivv)), (10, .int (nI iwrb)), (9, .int (nI ihhb)), (8, .int 1), (7, .int (nI irn)), (6, .int (nI isq)), (5, .int (nI ibbr)), (4, .int (nI (a + 1))), (3, .int 0), (0, .ref 1), (1, .int 1), (2, .int (nI a))], [.int v3], wC ov21 un21 (nI n21) dp fa21 cu st fi se th db cn F, 0)
              have s21 := stl_g s20 h21
              have F21 := sg_f s20 F20 E20 h21 (by omega)
              have E21 := sg_e E20 h21
              have A_21 := at_keep A_20 (sg_k h21)
              have P_21 := at_keep P_20 (sg_k h21)
              have bb_21 := at_keep bb_20 (sg_k h21)
              have bbr_21 := at_keep bbr_20 (sg_k h21)
              have aa_21 := at_keep aa_20 (sg_k h21)
              have nb_21 := at_keep nb_20 (sg_k h21)
              have sq_21 := at_keep sq_20 (sg_k h21)
              have rn_21 := at_keep rn_20 (sg_k h21)
              have su_21 := at_keep su_20 (sg_k h21)
              have hha_21 := at_keep hha_20 (sg_k h21)
              have mn_21 := at_keep mn_20 (sg_k h21)
              have sv_21 := at_keep sv_20 (sg_k h21)
              have hhb_21 := at_keep hhb_20 (sg_k h21)
              have wrb_21 := at_keep wrb_20 (sg_k h21)
              have ww_21 := at_keep ww_20 (sg_k h21)
              have iw_21 := at_keep iw_20 (sg_k h21)
              have vv_21 := at_keep vv_20 (sg_k h21)
              have pr_21 := at_keep pr_20 (sg_k h21)
              refine mm_branch (mm_call_mono _ _) (c := 0 ≤ v3) (s1 := (307, [(12, .int (nI irr)), (11, .int (nI ivv)), (10, .int (nI iwrb)), (9, .int (nI ihhb)), (8, .int 1), (7, .int (nI irn)), (6, .int (nI isq)), (5, .int (nI ibbr)), (4, .int (nI (a + 1))), (3, .int 0), (0, .ref 1), (1, .int 1), (2, .int (nI a))], [], wC ov21 un21 (nI n21) dp fa21 cu st fi se th db cn F, 0)) (s2 := (297, [(12, .int (nI irr)), (11, .int (nI ivv)), (10, .int (nI iwrb)), (9, .int (nI ihhb)), (8, .int 1), (7, .int (nI irn)), (6, .int (nI isq)), (5, .int (nI ibbr)), (4, .int (nI (a + 1))), (3, .int 0), (0, .ref 1), (1, .int 1), (2, .int (nI a))], [], wC ov21 un21 (nI n21) dp fa21 cu st fi se th db cn F, 0)) rfl (fun g3 => ?_) (fun g3 => ?_)
              · skip
                have E21 := fun q0 => (E21 q0).trans (if_neg (i32_ge g3))
                refine mm_skip (mm_call_mono _ _) 1 (st' := (309, [(12, .int (nI irr)), (11, .int (nI ivv)), (10, .int (nI iwrb)), (9, .int (nI ihhb)), (8, .int 1), (7, .int (nI irn)), (6, .int (nI isq)), (5, .int (nI ibbr)), (4, .int (nI (a + 1))), (3, .int 0), (0, .ref 1), (1, .int 1), (2, .int (nI a))], [.int (nI irr)], wC ov21 un21 (nI n21) dp fa21 cu st fi se th db cn F, 0)) rfl ?_
                exact mm_ret (mm_call_mono _ _) (c := True) (r := .inl (some (.int (nI irr)))) (M := wC ov21 un21 (nI n21) dp fa21 cu st fi se th db cn F) (u := 0) rfl trivial (by decide) (hQ _ _ _ _ _ (rt_yes s21 (by omega) E21 F21 pr_21 (by omega) (fun q0 => by have e1 := (sg_k h21 q0).1; have e2 := (h20.2.2.2.2.2.1 e1).2.1; have e3 := (s18.2.2.2.2 (h20.2.2.2.2.2.1 e1).1).2.1; omega)))
              · skip
                have E21 := fun q0 => (E21 q0).trans (if_pos (i32_lt g3))
                refine mm_skip (mm_call_mono _ _) 3 (st' := (301, [(12, .int (nI irr)), (11, .int (nI ivv)), (10, .int (nI iwrb)), (9, .int (nI ihhb)), (8, .int 1), (7, .int (nI irn)), (6, .int (nI isq)), (5, .int (nI ibbr)), (4, .int (nI (a + 1))), (3, .int 0), (0, .ref 1), (1, .int 1), (2, .int (nI a))], [.int (nI irr), .int 1, .ref 1], wC ov21 un21 (nI n21) dp fa21 cu st fi se th db cn F, 0)) rfl ?_
                refine mm_inv (mm_call_mono _ _) (j := 143) (a := [.ref 1, .int 1, .int (nI irr)]) (M := wC ov21 un21 (nI n21) dp fa21 cu st fi se th db cn F) (u := 0) rfl (by decide) (at_N_negative_1 s21.2.1 s21.1 (at_lo pr_21 (by omega)) (fun ov22 un22 n22 fa22 ing h22 => ?_))
                show mm_W _ _ _ _ _ _ _ (304, [(12, .int (nI irr)), (11, .int (nI ivv)), (10, .int (nI iwrb)), (9, .int (nI ihhb)), (8, .int 1), (7, .int (nI irn)), (6, .int (nI isq)), (5, .int (nI ibbr)), (4, .int (nI (a + 1))), (3, .int 0), (0, .ref 1), (1, .int 1), (2, .int (nI a))], [.int (nI ing)], wC ov22 un22 (nI n22) dp fa22 cu st fi se th db cn F, 0)
                have s22 := stl_s s21 h22
                have F22 := sq_f s21 F21 E21 h22 (by omega)
                have E22 := seq_e E21 h22
                have A_22 := at_keep A_21 (op_k h22)
                have P_22 := at_keep P_21 (op_k h22)
                have bb_22 := at_keep bb_21 (op_k h22)
                have bbr_22 := at_keep bbr_21 (op_k h22)
                have aa_22 := at_keep aa_21 (op_k h22)
                have nb_22 := at_keep nb_21 (op_k h22)
                have sq_22 := at_keep sq_21 (op_k h22)
                have rn_22 := at_keep rn_21 (op_k h22)
                have su_22 := at_keep su_21 (op_k h22)
                have hha_22 := at_keep hha_21 (op_k h22)
                have mn_22 := at_keep mn_21 (op_k h22)
                have sv_22 := at_keep sv_21 (op_k h22)
                have hhb_22 := at_keep hhb_21 (op_k h22)
                have wrb_22 := at_keep wrb_21 (op_k h22)
                have ww_22 := at_keep ww_21 (op_k h22)
                have iw_22 := at_keep iw_21 (op_k h22)
                have vv_22 := at_keep vv_21 (op_k h22)
                have pr_22 := at_keep pr_21 (op_k h22)
                have ng_22 := at_new h22
                refine mm_skip (mm_call_mono _ _) 1 (st' := (309, [(12, .int (nI irr)), (11, .int (nI ivv)), (10, .int (nI iwrb)), (9, .int (nI ihhb)), (8, .int 1), (7, .int (nI irn)), (6, .int (nI isq)), (5, .int (nI ibbr)), (4, .int (nI (a + 1))), (3, .int 0), (0, .ref 1), (1, .int 1), (2, .int (nI a))], [.int (nI ing)], wC ov22 un22 (nI n22) dp fa22 cu st fi se th db cn F, 0)) rfl ?_
                exact mm_ret (mm_call_mono _ _) (c := True) (r := .inl (some (.int (nI ing)))) (M := wC ov22 un22 (nI n22) dp fa22 cu st fi se th db cn F) (u := 0) rfl trivial (by decide) (hQ _ _ _ _ _ (rt_yes s22 (by omega) E22 F22 ng_22 (by have := h22.1; omega) (fun q0 => by have e1 := (h22.2.2.2.2.2.1 q0); have e2 := (s21.2.2.2.2 e1.1).2.1; omega)))
        · skip
          have E10 := fun q0 => (E10 q0).trans (if_pos (i32_gt ga))
          refine mm_skip (mm_call_mono _ _) 3 (st' := (234, [(9, .int (nI ihha)), (8, .int 0), (7, .int (nI irn)), (6, .int (nI isq)), (5, .int (nI ibbr)), (4, .int (nI (a + 1))), (3, .int 0), (0, .ref 1), (1, .int 1), (2, .int (nI a))], [.int (nI ihha), .int 0, .ref 1], wC ov10 un10 (nI n10) dp fa10 cu st fi se th db cn F, 0)) rfl ?_
          refine mm_inv (mm_call_mono _ _) (j := 148) (a := [.ref 1, .int 0, .int (nI ihha)]) (M := wC ov10 un10 (nI n10) dp fa10 cu st fi se th db cn F) (u := 0) rfl (by decide) (at_N_root_0 s10.2.1 s10.1 (at_lo hha_10 (by omega)) (fun ov11 un11 n11 fa11 wa h11 => ?_))
          show mm_W _ _ _ _ _ _ _ (237, [(9, .int (nI ihha)), (8, .int 0), (7, .int (nI irn)), (6, .int (nI isq)), (5, .int (nI ibbr)), (4, .int (nI (a + 1))), (3, .int 0), (0, .ref 1), (1, .int 1), (2, .int (nI a))], [.int wa], wC ov11 un11 (nI n11) dp fa11 cu st fi se th db cn F, 0)
          have s11 := stl_r s10 h11
          have F11 := rt_f s10 F10 E10 h11 (by omega)
          have A_11 := at_keep A_10 (rt_k h11)
          have P_11 := at_keep P_10 (rt_k h11)
          have bb_11 := at_keep bb_10 (rt_k h11)
          have bbr_11 := at_keep bbr_10 (rt_k h11)
          have aa_11 := at_keep aa_10 (rt_k h11)
          have nb_11 := at_keep nb_10 (rt_k h11)
          have sq_11 := at_keep sq_10 (rt_k h11)
          have rn_11 := at_keep rn_10 (rt_k h11)
          have su_11 := at_keep su_10 (rt_k h11)
          have hha_11 := at_keep hha_10 (rt_k h11)
          refine mm_skip (mm_call_mono _ _) 4 (st' := (246, [(10, .int wa), (9, .int (nI ihha)), (8, .int 0), (7, .int (nI irn)), (6, .int (nI isq)), (5, .int (nI ibbr)), (4, .int (nI (a + 1))), (3, .int 0), (0, .ref 1), (1, .int 1), (2, .int (nI a))], [.int (-1), .int wa], wC ov11 un11 (nI n11) dp fa11 cu st fi se th db cn F, 0)) rfl ?_
          refine mm_branch (mm_call_mono _ _) (c := wa = (-1)) (s1 := (310, [(10, .int wa), (9, .int (nI ihha)), (8, .int 0), (7, .int (nI irn)), (6, .int (nI isq)), (5, .int (nI ibbr)), (4, .int (nI (a + 1))), (3, .int 0), (0, .ref 1), (1, .int 1), (2, .int (nI a))], [], wC ov11 un11 (nI n11) dp fa11 cu st fi se th db cn F, 0)) (s2 := (249, [(10, .int wa), (9, .int (nI ihha)), (8, .int 0), (7, .int (nI irn)), (6, .int (nI isq)), (5, .int (nI ibbr)), (4, .int (nI (a + 1))), (3, .int 0), (0, .ref 1), (1, .int 1), (2, .int (nI a))], [], wC ov11 un11 (nI n11) dp fa11 cu st fi se th db cn F, 0)) rfl (fun ea => ?_) (fun ea => ?_)
          · skip
            have E11 := rt_e0 E10 h11 ea
            refine mm_skip (mm_call_mono _ _) 4 (st' := (187, [(8, .int 1), (10, .int wa), (9, .int (nI ihha)), (7, .int (nI irn)), (6, .int (nI isq)), (5, .int (nI ibbr)), (4, .int (nI (a + 1))), (3, .int 0), (0, .ref 1), (1, .int 1), (2, .int (nI a))], [.int 2, .int 1], wC ov11 un11 (nI n11) dp fa11 cu st fi se th db cn F, 0)) rfl ?_
            refine mm_branch (mm_call_mono _ _) (c := (2 : Int32) ≤ 1) (s1 := (316, [(8, .int 1), (10, .int wa), (9, .int (nI ihha)), (7, .int (nI irn)), (6, .int (nI isq)), (5, .int (nI ibbr)), (4, .int (nI (a + 1))), (3, .int 0), (0, .ref 1), (1, .int 1), (2, .int (nI a))], [], wC ov11 un11 (nI n11) dp fa11 cu st fi se th db cn F, 0)) (s2 := (190, [(8, .int 1), (10, .int wa), (9, .int (nI ihha)), (7, .int (nI irn)), (6, .int (nI isq)), (5, .int (nI ibbr)), (4, .int (nI (a + 1))), (3, .int 0), (0, .ref 1), (1, .int 1), (2, .int (nI a))], [], wC ov11 un11 (nI n11) dp fa11 cu st fi se th db cn F, 0)) rfl (fun h => absurd h (by decide)) (fun _ => ?_)
            refine mm_skip (mm_call_mono _ _) 6 (st' := (197, [(8, .int 1), (10, .int wa), (9, .int (nI ihha)), (7, .int (nI irn)), (6, .int (nI isq)), (5, .int (nI ibbr)), (4, .int (nI (a + 1))), (3, .int 0), (0, .ref 1), (1, .int 1), (2, .int (nI a))], [.int 1, .int (nI a), .int 0, .ref 1, .int 0, .ref 1], wC ov11 un11 (nI n11) dp fa11 cu st fi se th db cn F, 0)) rfl ?_
            refine mm_branch (mm_call_mono _ _) (c := (1 : Int32) = 0) (s1 := (200, [(8, .int 1), (10, .int wa), (9, .int (nI ihha)), (7, .int (nI irn)), (6, .int (nI isq)), (5, .int (nI ibbr)), (4, .int (nI (a + 1))), (3, .int 0), (0, .ref 1), (1, .int 1), (2, .int (nI a))], [.int (nI a), .int 0, .ref 1, .int 0, .ref 1], wC ov11 un11 (nI n11) dp fa11 cu st fi se th db cn F, 0)) (s2 := (205, [(8, .int 1), (10, .int wa), (9, .int (nI ihha)), (7, .int (nI irn)), (6, .int (nI isq)), (5, .int (nI ibbr)), (4, .int (nI (a + 1))), (3, .int 0), (0, .ref 1), (1, .int 1), (2, .int (nI a))], [.int (nI a), .int 0, .ref 1, .int 0, .ref 1], wC ov11 un11 (nI n11) dp fa11 cu st fi se th db cn F, 0)) rfl (fun h => absurd h (by decide)) (fun _ => ?_)
            refine mm_skip (mm_call_mono _ _) 3 (st' := (209, [(8, .int 1), (10, .int wa), (9, .int (nI ihha)), (7, .int (nI irn)), (6, .int (nI isq)), (5, .int (nI ibbr)), (4, .int (nI (a + 1))), (3, .int 0), (0, .ref 1), (1, .int 1), (2, .int (nI a))], [.int (nI irn), .int 0, .ref 1, .int (nI a), .int 0, .ref 1, .int 0, .ref 1], wC ov11 un11 (nI n11) dp fa11 cu st fi se th db cn F, 0)) rfl ?_
            refine mm_inv (mm_call_mono _ _) (j := 143) (a := [.ref 1, .int 0, .int (nI irn)]) (M := wC ov11 un11 (nI n11) dp fa11 cu st fi se th db cn F) (u := 0) rfl (by decide) (at_N_negative_0 s11.2.1 s11.1 (at_lo rn_11 (by omega)) (fun ov12 un12 n12 fa12 imn h12 => ?_))
            show mm_W _ _ _ _ _ _ _ (212, [(8, .int 1), (10, .int wa), (9, .int (nI ihha)), (7, .int (nI irn)), (6, .int (nI isq)), (5, .int (nI ibbr)), (4, .int (nI (a + 1))), (3, .int 0), (0, .ref 1), (1, .int 1), (2, .int (nI a))], [.int (nI imn), .int (nI a), .int 0, .ref 1, .int 0, .ref 1], wC ov12 un12 (nI n12) dp fa12 cu st fi se th db cn F, 0)
            have E11 : fa11 = 0 → nrt1 R1 x = rtT1 1 nmul0 ninv0 nsg0 (nsg1 R1) nrt0 x _ := E11
            have E11 : fa11 = 0 → nrt1 R1 x = Option.bind (nneg 1 (g4 _)) _ := E11
            have s12 := stl_s s11 h12
            have F12 := sq_f s11 F11 E11 h12 (by omega)
            have E12 := seq_e E11 h12
            have A_12 := at_keep A_11 (op_k h12)
            have P_12 := at_keep P_11 (op_k h12)
            have bb_12 := at_keep bb_11 (op_k h12)
            have bbr_12 := at_keep bbr_11 (op_k h12)
            have aa_12 := at_keep aa_11 (op_k h12)
            have nb_12 := at_keep nb_11 (op_k h12)
            have sq_12 := at_keep sq_11 (op_k h12)
            have rn_12 := at_keep rn_11 (op_k h12)
            have su_12 := at_keep su_11 (op_k h12)
            have hha_12 := at_keep hha_11 (op_k h12)
            have mn_12 := at_new h12
            refine mm_inv (mm_call_mono _ _) (j := 142) (a := [.ref 1, .int 0, .int (nI a), .int (nI imn)]) (M := wC ov12 un12 (nI n12) dp fa12 cu st fi se th db cn F) (u := 0) rfl (by decide) (at_N_sum_0 s12.2.1 s12.1 (at_lo A_12 (by omega)) (at_lo mn_12 (by omega)) (fun ov13 un13 n13 fa13 isv h13 => ?_))
            show mm_W _ _ _ _ _ _ _ (215, [(8, .int 1), (10, .int wa), (9, .int (nI ihha)), (7, .int (nI irn)), (6, .int (nI isq)), (5, .int (nI ibbr)), (4, .int (nI (a + 1))), (3, .int 0), (0, .ref 1), (1, .int 1), (2, .int (nI a))], [.int (nI isv), .int 0, .ref 1], wC ov13 un13 (nI n13) dp fa13 cu st fi se th db cn F, 0)
            have s13 := stl_s s12 h13
            have F13 := sq_f s12 F12 E12 h13 (by omega)
            have E13 := seq_e E12 h13
            have A_13 := at_keep A_12 (op_k h13)
            have P_13 := at_keep P_12 (op_k h13)
            have bb_13 := at_keep bb_12 (op_k h13)
            have bbr_13 := at_keep bbr_12 (op_k h13)
            have aa_13 := at_keep aa_12 (op_k h13)
            have nb_13 := at_keep nb_12 (op_k h13)
            have sq_13 := at_keep sq_12 (op_k h13)
            have rn_13 := at_keep rn_12 (op_k h13)
            have su_13 := at_keep su_12 (op_k h13)
            have hha_13 := at_keep hha_12 (op_k h13)
            have mn_13 := at_keep mn_12 (op_k h13)
            have sv_13 := at_new h13
            refine mm_inv (mm_call_mono _ _) (j := 144) (a := [.ref 1, .int 0, .int (nI isv)]) (M := wC ov13 un13 (nI n13) dp fa13 cu st fi se th db cn F) (u := 0) rfl (by decide) (at_N_half_0 s13.2.1 s13.1 (at_lo sv_13 (by omega)) (fun ov14 un14 n14 fa14 ihhb h14 => ?_))
            show mm_W _ _ _ _ _ _ _ (218, [(8, .int 1), (10, .int wa), (9, .int (nI ihha)), (7, .int (nI irn)), (6, .int (nI isq)), (5, .int (nI ibbr)), (4, .int (nI (a + 1))), (3, .int 0), (0, .ref 1), (1, .int 1), (2, .int (nI a))], [.int (nI ihhb)], wC ov14 un14 (nI n14) dp fa14 cu st fi se th db cn F, 0)
            have E13 : fa13 = 0 → nrt1 R1 x = Option.bind (nhalf 1 (g4 _)) _ := E13
            have s14 := stl_s s13 h14
            have F14 := sq_f s13 F13 E13 h14 (by omega)
            have E14 := seq_e E13 h14
            have A_14 := at_keep A_13 (op_k h14)
            have P_14 := at_keep P_13 (op_k h14)
            have bb_14 := at_keep bb_13 (op_k h14)
            have bbr_14 := at_keep bbr_13 (op_k h14)
            have aa_14 := at_keep aa_13 (op_k h14)
            have nb_14 := at_keep nb_13 (op_k h14)
            have sq_14 := at_keep sq_13 (op_k h14)
            have rn_14 := at_keep rn_13 (op_k h14)
            have su_14 := at_keep su_13 (op_k h14)
            have hha_14 := at_keep hha_13 (op_k h14)
            have mn_14 := at_keep mn_13 (op_k h14)
            have sv_14 := at_keep sv_13 (op_k h14)
            have hhb_14 := at_new h14
            refine mm_skip (mm_call_mono _ _) 4 (st' := (224, [(9, .int (nI ihhb)), (8, .int 1), (10, .int wa), (7, .int (nI irn)), (6, .int (nI isq)), (5, .int (nI ibbr)), (4, .int (nI (a + 1))), (3, .int 0), (0, .ref 1), (1, .int 1), (2, .int (nI a))], [.int (nI ihhb), .int 0, .ref 1], wC ov14 un14 (nI n14) dp fa14 cu st fi se th db cn F, 0)) rfl ?_
            refine mm_inv (mm_call_mono _ _) (j := 147) (a := [.ref 1, .int 0, .int (nI ihhb)]) (M := wC ov14 un14 (nI n14) dp fa14 cu st fi se th db cn F) (u := 0) rfl (by decide) (at_N_signOf_0 s14.2.1 s14.1 (at_lo hhb_14 (by omega)) (fun ov15 un15 n15 fa15 vb h15 => ?_))
            show mm_W _ _ _ _ _ _ _ (227, [(9, .int (nI ihhb)), (8, .int 1), (10, .int wa), (7, .int (nI irn)), (6, .int (nI isq)), (5, .int (nI ibbr)), (4, .int (nI (a + 1))), (3, .int 0), (0, .ref 1), (1, .int 1), (2, .int (nI a))], [.int vb], wC ov15 un15 (nI n15) dp fa15 cu st fi se th db cn F, 0)
            have s15 := stl_g s14 h15
            have F15 := sg_f s14 F14 E14 h15 (by omega)
            have E15 := sg_e E14 h15
            have A_15 := at_keep A_14 (sg_k h15)
            have P_15 := at_keep P_14 (sg_k h15)
            have bb_15 := at_keep bb_14 (sg_k h15)
            have bbr_15 := at_keep bbr_14 (sg_k h15)
            have aa_15 := at_keep aa_14 (sg_k h15)
            have nb_15 := at_keep nb_14 (sg_k h15)
            have sq_15 := at_keep sq_14 (sg_k h15)
            have rn_15 := at_keep rn_14 (sg_k h15)
            have su_15 := at_keep su_14 (sg_k h15)
            have hha_15 := at_keep hha_14 (sg_k h15)
            have mn_15 := at_keep mn_14 (sg_k h15)
            have sv_15 := at_keep sv_14 (sg_k h15)
            have hhb_15 := at_keep hhb_14 (sg_k h15)
            refine mm_branch (mm_call_mono _ _) (c := vb ≤ 0) (s1 := (240, [(9, .int (nI ihhb)), (8, .int 1), (10, .int wa), (7, .int (nI irn)), (6, .int (nI isq)), (5, .int (nI ibbr)), (4, .int (nI (a + 1))), (3, .int 0), (0, .ref 1), (1, .int 1), (2, .int (nI a))], [], wC ov15 un15 (nI n15) dp fa15 cu st fi se th db cn F, 0)) (s2 := (230, [(9, .int (nI ihhb)), (8, .int 1), (10, .int wa), (7, .int (nI irn)), (6, .int (nI isq)), (5, .int (nI ibbr)), (4, .int (nI (a + 1))), (3, .int 0), (0, .ref 1), (1, .int 1), (2, .int (nI a))], [], wC ov15 un15 (nI n15) dp fa15 cu st fi se th db cn F, 0)) rfl (fun gb => ?_) (fun gb => ?_)
            · skip
              have E15 := fun q0 => (E15 q0).trans (if_neg (i32_le gb))
              refine mm_skip (mm_call_mono _ _) 4 (st' := (246, [(10, .int (-1)), (9, .int (nI ihhb)), (8, .int 1), (7, .int (nI irn)), (6, .int (nI isq)), (5, .int (nI ibbr)), (4, .int (nI (a + 1))), (3, .int 0), (0, .ref 1), (1, .int 1), (2, .int (nI a))], [.int (-1), .int (-1)], wC ov15 un15 (nI n15) dp fa15 cu st fi se th db cn F, 0)) rfl ?_
              refine mm_branch (mm_call_mono _ _) (c := ((-1) : Int32) = (-1)) (s1 := (310, [(10, .int (-1)), (9, .int (nI ihhb)), (8, .int 1), (7, .int (nI irn)), (6, .int (nI isq)), (5, .int (nI ibbr)), (4, .int (nI (a + 1))), (3, .int 0), (0, .ref 1), (1, .int 1), (2, .int (nI a))], [], wC ov15 un15 (nI n15) dp fa15 cu st fi se th db cn F, 0)) (s2 := (249, [(10, .int (-1)), (9, .int (nI ihhb)), (8, .int 1), (7, .int (nI irn)), (6, .int (nI isq)), (5, .int (nI ibbr)), (4, .int (nI (a + 1))), (3, .int 0), (0, .ref 1), (1, .int 1), (2, .int (nI a))], [], wC ov15 un15 (nI n15) dp fa15 cu st fi se th db cn F, 0)) rfl (fun _ => ?_) (fun h => absurd (by decide) h)
              refine mm_skip (mm_call_mono _ _) 4 (st' := (187, [(8, .int 2), (10, .int (-1)), (9, .int (nI ihhb)), (7, .int (nI irn)), (6, .int (nI isq)), (5, .int (nI ibbr)), (4, .int (nI (a + 1))), (3, .int 0), (0, .ref 1), (1, .int 1), (2, .int (nI a))], [.int 2, .int 2], wC ov15 un15 (nI n15) dp fa15 cu st fi se th db cn F, 0)) rfl ?_
              refine mm_branch (mm_call_mono _ _) (c := (2 : Int32) ≤ 2) (s1 := (316, [(8, .int 2), (10, .int (-1)), (9, .int (nI ihhb)), (7, .int (nI irn)), (6, .int (nI isq)), (5, .int (nI ibbr)), (4, .int (nI (a + 1))), (3, .int 0), (0, .ref 1), (1, .int 1), (2, .int (nI a))], [], wC ov15 un15 (nI n15) dp fa15 cu st fi se th db cn F, 0)) (s2 := (190, [(8, .int 2), (10, .int (-1)), (9, .int (nI ihhb)), (7, .int (nI irn)), (6, .int (nI isq)), (5, .int (nI ibbr)), (4, .int (nI (a + 1))), (3, .int 0), (0, .ref 1), (1, .int 1), (2, .int (nI a))], [], wC ov15 un15 (nI n15) dp fa15 cu st fi se th db cn F, 0)) rfl (fun _ => ?_) (fun h => absurd (by decide) h)
              refine mm_skip (mm_call_mono _ _) 1 (st' := (317, [(8, .int 2), (10, .int (-1)), (9, .int (nI ihhb)), (7, .int (nI irn)), (6, .int (nI isq)), (5, .int (nI ibbr)), (4, .int (nI (a + 1))), (3, .int 0), (0, .ref 1), (1, .int 1), (2, .int (nI a))], [.int (-1)], wC ov15 un15 (nI n15) dp fa15 cu st fi se th db cn F, 0)) rfl ?_
              exact mm_ret (mm_call_mono _ _) (c := True) (r := .inl (some (.int (-1)))) (M := wC ov15 un15 (nI n15) dp fa15 cu st fi se th db cn F) (u := 0) rfl trivial (by decide) (hQ _ _ _ _ _ (rt_no s15 (by omega) E15 F15))
            · skip
              have E15 := fun q0 => (E15 q0).trans (if_pos (i32_gt gb))
              refine mm_skip (mm_call_mono _ _) 3 (st' := (234, [(9, .int (nI ihhb)), (8, .int 1), (10, .int wa), (7, .int (nI irn)), (6, .int (nI isq)), (5, .int (nI ibbr)), (4, .int (nI (a + 1))), (3, .int 0), (0, .ref 1), (1, .int 1), (2, .int (nI a))], [.int (nI ihhb), .int 0, .ref 1], wC ov15 un15 (nI n15) dp fa15 cu st fi se th db cn F, 0)) rfl ?_
              refine mm_inv (mm_call_mono _ _) (j := 148) (a := [.ref 1, .int 0, .int (nI ihhb)]) (M := wC ov15 un15 (nI n15) dp fa15 cu st fi se th db cn F) (u := 0) rfl (by decide) (at_N_root_0 s15.2.1 s15.1 (at_lo hhb_15 (by omega)) (fun ov16 un16 n16 fa16 wb h16 => ?_))
              show mm_W _ _ _ _ _ _ _ (237, [(9, .int (nI ihhb)), (8, .int 1), (10, .int wa), (7, .int (nI irn)), (6, .int (nI isq)), (5, .int (nI ibbr)), (4, .int (nI (a + 1))), (3, .int 0), (0, .ref 1), (1, .int 1), (2, .int (nI a))], [.int wb], wC ov16 un16 (nI n16) dp fa16 cu st fi se th db cn F, 0)
              have s16 := stl_r s15 h16
              have F16 := rt_f s15 F15 E15 h16 (by omega)
              have A_16 := at_keep A_15 (rt_k h16)
              have P_16 := at_keep P_15 (rt_k h16)
              have bb_16 := at_keep bb_15 (rt_k h16)
              have bbr_16 := at_keep bbr_15 (rt_k h16)
              have aa_16 := at_keep aa_15 (rt_k h16)
              have nb_16 := at_keep nb_15 (rt_k h16)
              have sq_16 := at_keep sq_15 (rt_k h16)
              have rn_16 := at_keep rn_15 (rt_k h16)
              have su_16 := at_keep su_15 (rt_k h16)
              have hha_16 := at_keep hha_15 (rt_k h16)
              have mn_16 := at_keep mn_15 (rt_k h16)
              have sv_16 := at_keep sv_15 (rt_k h16)
              have hhb_16 := at_keep hhb_15 (rt_k h16)
              refine mm_skip (mm_call_mono _ _) 4 (st' := (246, [(10, .int wb), (9, .int (nI ihhb)), (8, .int 1), (7, .int (nI irn)), (6, .int (nI isq)), (5, .int (nI ibbr)), (4, .int (nI (a + 1))), (3, .int 0), (0, .ref 1), (1, .int 1), (2, .int (nI a))], [.int (-1), .int wb], wC ov16 un16 (nI n16) dp fa16 cu st fi se th db cn F, 0)) rfl ?_
              refine mm_branch (mm_call_mono _ _) (c := wb = (-1)) (s1 := (310, [(10, .int wb), (9, .int (nI ihhb)), (8, .int 1), (7, .int (nI irn)), (6, .int (nI isq)), (5, .int (nI ibbr)), (4, .int (nI (a + 1))), (3, .int 0), (0, .ref 1), (1, .int 1), (2, .int (nI a))], [], wC ov16 un16 (nI n16) dp fa16 cu st fi se th db cn F, 0)) (s2 := (249, [(10, .int wb), (9, .int (nI ihhb)), (8, .int 1), (7, .int (nI irn)), (6, .int (nI isq)), (5, .int (nI ibbr)), (4, .int (nI (a + 1))), (3, .int 0), (0, .ref 1), (1, .int 1), (2, .int (nI a))], [], wC ov16 un16 (nI n16) dp fa16 cu st fi se th db cn F, 0)) rfl (fun eb => ?_) (fun eb => ?_)
              · skip
                have E16 := rt_e0 E15 h16 eb
                refine mm_skip (mm_call_mono _ _) 4 (st' := (187, [(8, .int 2), (10, .int wb), (9, .int (nI ihhb)), (7, .int (nI irn)), (6, .int (nI isq)), (5, .int (nI ibbr)), (4, .int (nI (a + 1))), (3, .int 0), (0, .ref 1), (1, .int 1), (2, .int (nI a))], [.int 2, .int 2], wC ov16 un16 (nI n16) dp fa16 cu st fi se th db cn F, 0)) rfl ?_
                refine mm_branch (mm_call_mono _ _) (c := (2 : Int32) ≤ 2) (s1 := (316, [(8, .int 2), (10, .int wb), (9, .int (nI ihhb)), (7, .int (nI irn)), (6, .int (nI isq)), (5, .int (nI ibbr)), (4, .int (nI (a + 1))), (3, .int 0), (0, .ref 1), (1, .int 1), (2, .int (nI a))], [], wC ov16 un16 (nI n16) dp fa16 cu st fi se th db cn F, 0)) (s2 := (190, [(8, .int 2), (10, .int wb), (9, .int (nI ihhb)), (7, .int (nI irn)), (6, .int (nI isq)), (5, .int (nI ibbr)), (4, .int (nI (a + 1))), (3, .int 0), (0, .ref 1), (1, .int 1), (2, .int (nI a))], [], wC ov16 un16 (nI n16) dp fa16 cu st fi se th db cn F, 0)) rfl (fun _ => ?_) (fun h => absurd (by decide) h)
                refine mm_skip (mm_call_mono _ _) 1 (st' := (317, [(8, .int 2), (10, .int wb), (9, .int (nI ihhb)), (7, .int (nI irn)), (6, .int (nI isq)), (5, .int (nI ibbr)), (4, .int (nI (a + 1))), (3, .int 0), (0, .ref 1), (1, .int 1), (2, .int (nI a))], [.int (-1)], wC ov16 un16 (nI n16) dp fa16 cu st fi se th db cn F, 0)) rfl ?_
                exact mm_ret (mm_call_mono _ _) (c := True) (r := .inl (some (.int (-1)))) (M := wC ov16 un16 (nI n16) dp fa16 cu st fi se th db cn F) (u := 0) rfl trivial (by decide) (hQ _ _ _ _ _ (rt_no s16 (by omega) E16 F16))
              · skip
                obtain ⟨iwrb, rfl, jwrb, kwrb⟩ := rt_ix h16 eb
                have E16 := rt_e1 E15 h16 kwrb
                have wrb_16 := at_rt h16 kwrb
                refine mm_skip (mm_call_mono _ _) 9 (st' := (261, [(10, .int (nI iwrb)), (9, .int (nI ihhb)), (8, .int 1), (7, .int (nI irn)), (6, .int (nI isq)), (5, .int (nI ibbr)), (4, .int (nI (a + 1))), (3, .int 0), (0, .ref 1), (1, .int 1), (2, .int (nI a))], [.int (nI iwrb), .int (nI iwrb), .int 0, .ref 1, .int 0, .ref 1, .int (nI (a + 1)), .int 0, .ref 1], wC ov16 un16 (nI n16) dp fa16 cu st fi se th db cn F, 0)) rfl ?_
                refine mm_inv (mm_call_mono _ _) (j := 142) (a := [.ref 1, .int 0, .int (nI iwrb), .int (nI iwrb)]) (M := wC ov16 un16 (nI n16) dp fa16 cu st fi se th db cn F) (u := 0) rfl (by decide) (at_N_sum_0 s16.2.1 s16.1 (at_lo wrb_16 (by omega)) (at_lo wrb_16 (by omega)) (fun ov17 un17 n17 fa17 iww h17 => ?_))
                show mm_W _ _ _ _ _ _ _ (264, [(10, .int (nI iwrb)), (9, .int (nI ihhb)), (8, .int 1), (7, .int (nI irn)), (6, .int (nI isq)), (5, .int (nI ibbr)), (4, .int (nI (a + 1))), (3, .int 0), (0, .ref 1), (1, .int 1), (2, .int (nI a))], [.int (nI iww), .int 0, .ref 1, .int (nI (a + 1)), .int 0, .ref 1], wC ov17 un17 (nI n17) dp fa17 cu st fi se th db cn F, 0)
                have E16 : fa16 = 0 → nrt1 R1 x = Option.bind (nadd 1 (g4 _) (g4 _)) _ := E16
                have s17 := stl_s s16 h17
                have F17 := sq_f s16 F16 E16 h17 (by omega)
                have E17 := seq_e E16 h17
                have A_17 := at_keep A_16 (op_k h17)
                have P_17 := at_keep P_16 (op_k h17)
                have bb_17 := at_keep bb_16 (op_k h17)
                have bbr_17 := at_keep bbr_16 (op_k h17)
                have aa_17 := at_keep aa_16 (op_k h17)
                have nb_17 := at_keep nb_16 (op_k h17)
                have sq_17 := at_keep sq_16 (op_k h17)
                have rn_17 := at_keep rn_16 (op_k h17)
                have su_17 := at_keep su_16 (op_k h17)
                have hha_17 := at_keep hha_16 (op_k h17)
                have mn_17 := at_keep mn_16 (op_k h17)
                have sv_17 := at_keep sv_16 (op_k h17)
                have hhb_17 := at_keep hhb_16 (op_k h17)
                have wrb_17 := at_keep wrb_16 (op_k h17)
                have ww_17 := at_new h17
                refine mm_inv (mm_call_mono _ _) (j := 146) (a := [.ref 1, .int 0, .int (nI iww)]) (M := wC ov17 un17 (nI n17) dp fa17 cu st fi se th db cn F) (u := 0) rfl (by decide) (at_N_inverse_0 s17.2.1 s17.1 (at_lo ww_17 (by omega)) (fun ov18 un18 n18 fa18 iiw h18 => ?_))
                show mm_W _ _ _ _ _ _ _ (267, [(10, .int (nI iwrb)), (9, .int (nI ihhb)), (8, .int 1), (7, .int (nI irn)), (6, .int (nI isq)), (5, .int (nI ibbr)), (4, .int (nI (a + 1))), (3, .int 0), (0, .ref 1), (1, .int 1), (2, .int (nI a))], [.int (nI iiw), .int (nI (a + 1)), .int 0, .ref 1], wC ov18 un18 (nI n18) dp fa18 cu st fi se th db cn F, 0)
                have s18 := stl_s s17 h18
                have F18 := sq_f s17 F17 E17 h18 (by omega)
                have E18 := seq_e E17 h18
                have A_18 := at_keep A_17 (op_k h18)
                have P_18 := at_keep P_17 (op_k h18)
                have bb_18 := at_keep bb_17 (op_k h18)
                have bbr_18 := at_keep bbr_17 (op_k h18)
                have aa_18 := at_keep aa_17 (op_k h18)
                have nb_18 := at_keep nb_17 (op_k h18)
                have sq_18 := at_keep sq_17 (op_k h18)
                have rn_18 := at_keep rn_17 (op_k h18)
                have su_18 := at_keep su_17 (op_k h18)
                have hha_18 := at_keep hha_17 (op_k h18)
                have mn_18 := at_keep mn_17 (op_k h18)
                have sv_18 := at_keep sv_17 (op_k h18)
                have hhb_18 := at_keep hhb_17 (op_k h18)
                have wrb_18 := at_keep wrb_17 (op_k h18)
                have ww_18 := at_keep ww_17 (op_k h18)
                have iw_18 := at_new h18
                refine mm_inv (mm_call_mono _ _) (j := 145) (a := [.ref 1, .int 0, .int (nI (a + 1)), .int (nI iiw)]) (M := wC ov18 un18 (nI n18) dp fa18 cu st fi se th db cn F) (u := 0) rfl (by decide) (at_N_product_0 s18.2.1 s18.1 (at_hi A_18 1 (by omega)) (at_lo iw_18 (by omega)) (fun ov19 un19 n19 fa19 ivv h19 => ?_))
                show mm_W _ _ _ _ _ _ _ (270, [(10, .int (nI iwrb)), (9, .int (nI ihhb)), (8, .int 1), (7, .int (nI irn)), (6, .int (nI isq)), (5, .int (nI ibbr)), (4, .int (nI (a + 1))), (3, .int 0), (0, .ref 1), (1, .int 1), (2, .int (nI a))], [.int (nI ivv)], wC ov19 un19 (nI n19) dp fa19 cu st fi se th db cn F, 0)
                have s19 := stl_s s18 h19
                have F19 := sq_f s18 F18 E18 h19 (by omega)
                have E19 := seq_e E18 h19
                have A_19 := at_keep A_18 (op_k h19)
                have P_19 := at_keep P_18 (op_k h19)
                have bb_19 := at_keep bb_18 (op_k h19)
                have bbr_19 := at_keep bbr_18 (op_k h19)
                have aa_19 := at_keep aa_18 (op_k h19)
                have nb_19 := at_keep nb_18 (op_k h19)
                have sq_19 := at_keep sq_18 (op_k h19)
                have rn_19 := at_keep rn_18 (op_k h19)
                have su_19 := at_keep su_18 (op_k h19)
                have hha_19 := at_keep hha_18 (op_k h19)
                have mn_19 := at_keep mn_18 (op_k h19)
                have sv_19 := at_keep sv_18 (op_k h19)
                have hhb_19 := at_keep hhb_18 (op_k h19)
                have wrb_19 := at_keep wrb_18 (op_k h19)
                have ww_19 := at_keep ww_18 (op_k h19)
                have iw_19 := at_keep iw_18 (op_k h19)
                have vv_19 := at_new h19
                refine mm_skip (mm_call_mono _ _) 4 (st' := (275, [(11, .int (nI ivv)), (10, .int (nI iwrb)), (9, .int (nI ihhb)), (8, .int 1), (7, .int (nI irn)), (6, .int (nI isq)), (5, .int (nI ibbr)), (4, .int (nI (a + 1))), (3, .int 0), (0, .ref 1), (1, .int 1), (2, .int (nI a))], [.ref 1, .int 0, .ref 1], wC ov19 un19 (nI n19) dp fa19 cu st fi se th db cn F, 0)) rfl ?_
                refine mm_inv (mm_call_mono _ _) (j := 138) (a := [.ref 1]) (M := wC ov19 un19 (nI n19) dp fa19 cu st fi se th db cn F) (u := 0) rfl (by decide) (ct_N_reserve s19.1 (fun ov20 un20 n20 fa20 irr h20 => ?_))
                show mm_W _ _ _ _ _ _ _ (278, [(11, .int (nI ivv)), (10, .int (nI iwrb)), (9, .int (nI ihhb)), (8, .int 1), (7, .int (nI irn)), (6, .int (nI isq)), (5, .int (nI ibbr)), (4, .int (nI (a + 1))), (3, .int 0), (0, .ref 1), (1, .int 1), (2, .int (nI a))], [.int (nI irr), .int 0, .ref 1], wC ov20 un20 (nI n20) dp fa20 cu st fi se th db cn F, 0)
                have rrr := res_r h20 s19.1.1
                have s20 := stl_res s19 h20
                have t20 := stl_res (stl_0 s19.2.1 s19.1) h20
                have A_20 := at_keep A_19 (res_k h20 s19.1.1)
                have P_20 := at_keep P_19 (res_k h20 s19.1.1)
                have bb_20 := at_keep bb_19 (res_k h20 s19.1.1)
                have bbr_20 := at_keep bbr_19 (res_k h20 s19.1.1)
                have aa_20 := at_keep aa_19 (res_k h20 s19.1.1)
                have nb_20 := at_keep nb_19 (res_k h20 s19.1.1)
                have sq_20 := at_keep sq_19 (res_k h20 s19.1.1)
                have rn_20 := at_keep rn_19 (res_k h20 s19.1.1)
                have su_20 := at_keep su_19 (res_k h20 s19.1.1)
                have hha_20 := at_keep hha_19 (res_k h20 s19.1.1)
                have mn_20 := at_keep mn_19 (res_k h20 s19.1.1)
                have sv_20 := at_keep sv_19 (res_k h20 s19.1.1)
                have hhb_20 := at_keep hhb_19 (res_k h20 s19.1.1)
                have wrb_20 := at_keep wrb_19 (res_k h20 s19.1.1)
                have ww_20 := at_keep ww_19 (res_k h20 s19.1.1)
                have iw_20 := at_keep iw_19 (res_k h20 s19.1.1)
                have vv_20 := at_keep vv_19 (res_k h20 s19.1.1)
                have rr_20 := at_res h20 s19.1.1
                refine mm_skip (mm_call_mono _ _) 2 (st' := (282, [(11, .int (nI ivv)), (10, .int (nI iwrb)), (9, .int (nI ihhb)), (8, .int 1), (7, .int (nI irn)), (6, .int (nI isq)), (5, .int (nI ibbr)), (4, .int (nI (a + 1))), (3, .int 0), (0, .ref 1), (1, .int 1), (2, .int (nI a))], [.int (nI ivv), .int (nI iwrb), .int (nI irr), .int 0, .ref 1], wC ov20 un20 (nI n20) dp fa20 cu st fi se th db cn F, 0)) rfl ?_
                refine mm_inv (mm_call_mono _ _) (j := 140) (a := [.ref 1, .int 0, .int (nI irr), .int (nI iwrb), .int (nI ivv)]) (M := wC ov20 un20 (nI n20) dp fa20 cu st fi se th db cn F) (u := 0) rfl (by decide) (ct_N_pair_0 (r := irr) (a := iwrb) (b := ivv) (by omega) (by have := wrb_20.1.1; omega) (by have := vv_20.1.1; omega) ?_)
                show mm_W _ _ _ _ _ _ _ (285, [(11, .int (nI ivv)), (10, .int (nI iwrb)), (9, .int (nI ihhb)), (8, .int 1), (7, .int (nI irn)), (6, .int (nI isq)), (5, .int (nI ibbr)), (4, .int (nI (a + 1))), (3, .int 0), (0, .ref 1), (1, .int 1), (2, .int (nI a))], [.int (nI irr)], wC (prow ov20 1 irr iwrb ivv) (prow un20 1 irr iwrb ivv) (nI (irr + 4)) dp fa20 cu st fi se th db cn F, 0)
                have h21 := pair_op (h := 1) (by omega) s19.1.1 h20 (stl_w t20 (by omega)) (fun q0 => q0) rr_20 wrb_20 vv_20 (fun q0 => Or.inl (by have e1 := (h19.2.2.2.2.2.1 ((res_k h20 s19.1.1 q0).1)); have e2 := res_n h20 q0; omega)) (fun q9 q0 hroom => absurd (q9.symm.trans (res_ok h20 q0 (by omega)).1) z10)
                generalize prow ov20 1 irr iwrb ivv = ov21 at h21 ⊢
                generalize prow un20 1 irr iwrb ivv = un21 at h21 ⊢
                obtain ⟨n21, en21⟩ : ∃ z, z = irr + 4 := ⟨_, rfl⟩
                rw [← en21] at h21 ⊢
                have s21 := stl_s s19 h21
                have F21 := sq_f s19 F19 E19 h21 (by omega)
                have E21 := seq_e E19 h21
                have A_21 := at_keep A_19 (op_k h21)
                have P_21 := at_keep P_19 (op_k h21)
                have bb_21 := at_keep bb_19 (op_k h21)
                have bbr_21 := at_keep bbr_19 (op_k h21)
                have aa_21 := at_keep aa_19 (op_k h21)
                have nb_21 := at_keep nb_19 (op_k h21)
                have sq_21 := at_keep sq_19 (op_k h21)
                have rn_21 := at_keep rn_19 (op_k h21)
                have su_21 := at_keep su_19 (op_k h21)
                have hha_21 := at_keep hha_19 (op_k h21)
                have mn_21 := at_keep mn_19 (op_k h21)
                have sv_21 := at_keep sv_19 (op_k h21)
                have hhb_21 := at_keep hhb_19 (op_k h21)
                have wrb_21 := at_keep wrb_19 (op_k h21)
                have ww_21 := at_keep ww_19 (op_k h21)
                have iw_21 := at_keep iw_19 (op_k h21)
                have vv_21 := at_keep vv_19 (op_k h21)
                have pr_21 := at_new h21
                refine mm_skip (mm_call_mono _ _) 4 (st' := (291, [(12, .int (nI irr)), (11, .int (nI ivv)), (10, .int (nI iwrb)), (9, .int (nI ihhb)), (8, .int 1), (7, .int (nI irn)), (6, .int (nI isq)), (5, .int (nI ibbr)), (4, .int (nI (a + 1))), (3, .int 0), (0, .ref 1), (1, .int 1), (2, .int (nI a))], [.int (nI irr), .int 1, .ref 1], wC ov21 un21 (nI n21) dp fa20 cu st fi se th db cn F, 0)) rfl ?_
                refine mm_inv (mm_call_mono _ _) (j := 147) (a := [.ref 1, .int 1, .int (nI irr)]) (M := wC ov21 un21 (nI n21) dp fa20 cu st fi se th db cn F) (u := 0) rfl (by decide) (at_N_signOf_1 s21.2.1 s21.1 P_21 (at_lo pr_21 (by omega)) (fun ov22 un22 n22 fa22 v3 h22 => ?_))
                show mm_W _ _ _ _ _ _ _ (294, [(12, .int (nI irr)), (11, .int (nI ivv)), (10, .int (nI iwrb)), (9, .int (nI ihhb)), (8, .int 1), (7, .int (nI irn)), (6, .int (nI isq)), (5, .int (nI ibbr)), (4, .int (nI (a + 1))), (3, .int 0), (0, .ref 1), (1, .int 1), (2, .int (nI a))], [.int v3], wC ov22 un22 (nI n22) dp fa22 cu st fi se th db cn F, 0)
                have s22 := stl_g s21 h22
                have F22 := sg_f s21 F21 E21 h22 (by omega)
                have E22 := sg_e E21 h22
                have A_22 := at_keep A_21 (sg_k h22)
                have P_22 := at_keep P_21 (sg_k h22)
                have bb_22 := at_keep bb_21 (sg_k h22)
                have bbr_22 := at_keep bbr_21 (sg_k h22)
                have aa_22 := at_keep aa_21 (sg_k h22)
                have nb_22 := at_keep nb_21 (sg_k h22)
                have sq_22 := at_keep sq_21 (sg_k h22)
                have rn_22 := at_keep rn_21 (sg_k h22)
                have su_22 := at_keep su_21 (sg_k h22)
                have hha_22 := at_keep hha_21 (sg_k h22)
                have mn_22 := at_keep mn_21 (sg_k h22)
                have sv_22 := at_keep sv_21 (sg_k h22)
                have hhb_22 := at_keep hhb_21 (sg_k h22)
                have wrb_22 := at_keep wrb_21 (sg_k h22)
                have ww_22 := at_keep ww_21 (sg_k h22)
                have iw_22 := at_keep iw_21 (sg_k h22)
                have vv_22 := at_keep vv_21 (sg_k h22)
                have pr_22 := at_keep pr_21 (sg_k h22)
                refine mm_branch (mm_call_mono _ _) (c := 0 ≤ v3) (s1 := (307, [(12, .int (nI irr)), (11, .int (nI ivv)), (10, .int (nI iwrb)), (9, .int (nI ihhb)), (8, .int 1), (7, .int (nI irn)), (6, .int (nI isq)), (5, .int (nI ibbr)), (4, .int (nI (a + 1))), (3, .int 0), (0, .ref 1), (1, .int 1), (2, .int (nI a))], [], wC ov22 un22 (nI n22) dp fa22 cu st fi se th db cn F, 0)) (s2 := (297, [(12, .int (nI irr)), (11, .int (nI ivv)), (10, .int (nI iwrb)), (9, .int (nI ihhb)), (8, .int 1), (7, .int (nI irn)), (6, .int (nI isq)), (5, .int (nI ibbr)), (4, .int (nI (a + 1))), (3, .int 0), (0, .ref 1), (1, .int 1), (2, .int (nI a))], [], wC ov22 un22 (nI n22) dp fa22 cu st fi se th db cn F, 0)) rfl (fun g3 => ?_) (fun g3 => ?_)
                · skip
                  have E22 := fun q0 => (E22 q0).trans (if_neg (i32_ge g3))
                  refine mm_skip (mm_call_mono _ _) 1 (st' := (309, [(12, .int (nI irr)), (11, .int (nI ivv)), (10, .int (nI iwrb)), (9, .int (nI ihhb)), (8, .int 1), (7, .int (nI irn)), (6, .int (nI isq)), (5, .int (nI ibbr)), (4, .int (nI (a + 1))), (3, .int 0), (0, .ref 1), (1, .int 1), (2, .int (nI a))], [.int (nI irr)], wC ov22 un22 (nI n22) dp fa22 cu st fi se th db cn F, 0)) rfl ?_
                  exact mm_ret (mm_call_mono _ _) (c := True) (r := .inl (some (.int (nI irr)))) (M := wC ov22 un22 (nI n22) dp fa22 cu st fi se th db cn F) (u := 0) rfl trivial (by decide) (hQ _ _ _ _ _ (rt_yes s22 (by omega) E22 F22 pr_22 (by omega) (fun q0 => by have e1 := (sg_k h22 q0).1; have e2 := (h21.2.2.2.2.2.1 e1).2.1; have e3 := (s19.2.2.2.2 (h21.2.2.2.2.2.1 e1).1).2.1; omega)))
                · skip
                  have E22 := fun q0 => (E22 q0).trans (if_pos (i32_lt g3))
                  refine mm_skip (mm_call_mono _ _) 3 (st' := (301, [(12, .int (nI irr)), (11, .int (nI ivv)), (10, .int (nI iwrb)), (9, .int (nI ihhb)), (8, .int 1), (7, .int (nI irn)), (6, .int (nI isq)), (5, .int (nI ibbr)), (4, .int (nI (a + 1))), (3, .int 0), (0, .ref 1), (1, .int 1), (2, .int (nI a))], [.int (nI irr), .int 1, .ref 1], wC ov22 un22 (nI n22) dp fa22 cu st fi se th db cn F, 0)) rfl ?_
                  refine mm_inv (mm_call_mono _ _) (j := 143) (a := [.ref 1, .int 1, .int (nI irr)]) (M := wC ov22 un22 (nI n22) dp fa22 cu st fi se th db cn F) (u := 0) rfl (by decide) (at_N_negative_1 s22.2.1 s22.1 (at_lo pr_22 (by omega)) (fun ov23 un23 n23 fa23 ing h23 => ?_))
                  show mm_W _ _ _ _ _ _ _ (304, [(12, .int (nI irr)), (11, .int (nI ivv)), (10, .int (nI iwrb)), (9, .int (nI ihhb)), (8, .int 1), (7, .int (nI irn)), (6, .int (nI isq)), (5, .int (nI ibbr)), (4, .int (nI (a + 1))), (3, .int 0), (0, .ref 1), (1, .int 1), (2, .int (nI a))], [.int (nI ing)], wC ov23 un23 (nI n23) dp fa23 cu st fi se th db cn F, 0)
                  have s23 := stl_s s22 h23
                  have F23 := sq_f s22 F22 E22 h23 (by omega)
                  have E23 := seq_e E22 h23
                  have A_23 := at_keep A_22 (op_k h23)
                  have P_23 := at_keep P_22 (op_k h23)
                  have bb_23 := at_keep bb_22 (op_k h23)
                  have bbr_23 := at_keep bbr_22 (op_k h23)
                  have aa_23 := at_keep aa_22 (op_k h23)
                  have nb_23 := at_keep nb_22 (op_k h23)
                  have sq_23 := at_keep sq_22 (op_k h23)
                  have rn_23 := at_keep rn_22 (op_k h23)
                  have su_23 := at_keep su_22 (op_k h23)
                  have hha_23 := at_keep hha_22 (op_k h23)
                  have mn_23 := at_keep mn_22 (op_k h23)
                  have sv_23 := at_keep sv_22 (op_k h23)
                  have hhb_23 := at_keep hhb_22 (op_k h23)
                  have wrb_23 := at_keep wrb_22 (op_k h23)
                  have ww_23 := at_keep ww_22 (op_k h23)
                  have iw_23 := at_keep iw_22 (op_k h23)
                  have vv_23 := at_keep vv_22 (op_k h23)
                  have pr_23 := at_keep pr_22 (op_k h23)
                  have ng_23 := at_new h23
                  refine mm_skip (mm_call_mono _ _) 1 (st' := (309, [(12, .int (nI irr)), (11, .int (nI ivv)), (10, .int (nI iwrb)), (9, .int (nI ihhb)), (8, .int 1), (7, .int (nI irn)), (6, .int (nI isq)), (5, .int (nI ibbr)), (4, .int (nI (a + 1))), (3, .int 0), (0, .ref 1), (1, .int 1), (2, .int (nI a))], [.int (nI ing)], wC ov23 un23 (nI n23) dp fa23 cu st fi se th db cn F, 0)) rfl ?_
                  exact mm_ret (mm_call_mono _ _) (c := True) (r := .inl (some (.int (nI ing)))) (M := wC ov23 un23 (nI n23) dp fa23 cu st fi se th db cn F) (u := 0) rfl trivial (by decide) (hQ _ _ _ _ _ (rt_yes s23 (by omega) E23 F23 ng_23 (by have := h23.1; omega) (fun q0 => by have e1 := (h23.2.2.2.2.2.1 q0); have e2 := (s22.2.2.2.2 e1.1).2.1; omega)))
          · skip
            obtain ⟨iwra, rfl, jwra, kwra⟩ := rt_ix h11 ea
            have E11 := rt_e1 E10 h11 kwra
            have wra_11 := at_rt h11 kwra
            refine mm_skip (mm_call_mono _ _) 9 (st' := (261, [(10, .int (nI iwra)), (9, .int (nI ihha)), (8, .int 0), (7, .int (nI irn)), (6, .int (nI isq)), (5, .int (nI ibbr)), (4, .int (nI (a + 1))), (3, .int 0), (0, .ref 1), (1, .int 1), (2, .int (nI a))], [.int (nI iwra), .int (nI iwra), .int 0, .ref 1, .int 0, .ref 1, .int (nI (a + 1)), .int 0, .ref 1], wC ov11 un11 (nI n11) dp fa11 cu st fi se th db cn F, 0)) rfl ?_
            refine mm_inv (mm_call_mono _ _) (j := 142) (a := [.ref 1, .int 0, .int (nI iwra), .int (nI iwra)]) (M := wC ov11 un11 (nI n11) dp fa11 cu st fi se th db cn F) (u := 0) rfl (by decide) (at_N_sum_0 s11.2.1 s11.1 (at_lo wra_11 (by omega)) (at_lo wra_11 (by omega)) (fun ov12 un12 n12 fa12 iww h12 => ?_))
            show mm_W _ _ _ _ _ _ _ (264, [(10, .int (nI iwra)), (9, .int (nI ihha)), (8, .int 0), (7, .int (nI irn)), (6, .int (nI isq)), (5, .int (nI ibbr)), (4, .int (nI (a + 1))), (3, .int 0), (0, .ref 1), (1, .int 1), (2, .int (nI a))], [.int (nI iww), .int 0, .ref 1, .int (nI (a + 1)), .int 0, .ref 1], wC ov12 un12 (nI n12) dp fa12 cu st fi se th db cn F, 0)
            have E11 : fa11 = 0 → nrt1 R1 x = Option.bind (nadd 1 (g4 _) (g4 _)) _ := E11
            have s12 := stl_s s11 h12
            have F12 := sq_f s11 F11 E11 h12 (by omega)
            have E12 := seq_e E11 h12
            have A_12 := at_keep A_11 (op_k h12)
            have P_12 := at_keep P_11 (op_k h12)
            have bb_12 := at_keep bb_11 (op_k h12)
            have bbr_12 := at_keep bbr_11 (op_k h12)
            have aa_12 := at_keep aa_11 (op_k h12)
            have nb_12 := at_keep nb_11 (op_k h12)
            have sq_12 := at_keep sq_11 (op_k h12)
            have rn_12 := at_keep rn_11 (op_k h12)
            have su_12 := at_keep su_11 (op_k h12)
            have hha_12 := at_keep hha_11 (op_k h12)
            have wra_12 := at_keep wra_11 (op_k h12)
            have ww_12 := at_new h12
            refine mm_inv (mm_call_mono _ _) (j := 146) (a := [.ref 1, .int 0, .int (nI iww)]) (M := wC ov12 un12 (nI n12) dp fa12 cu st fi se th db cn F) (u := 0) rfl (by decide) (at_N_inverse_0 s12.2.1 s12.1 (at_lo ww_12 (by omega)) (fun ov13 un13 n13 fa13 iiw h13 => ?_))
            show mm_W _ _ _ _ _ _ _ (267, [(10, .int (nI iwra)), (9, .int (nI ihha)), (8, .int 0), (7, .int (nI irn)), (6, .int (nI isq)), (5, .int (nI ibbr)), (4, .int (nI (a + 1))), (3, .int 0), (0, .ref 1), (1, .int 1), (2, .int (nI a))], [.int (nI iiw), .int (nI (a + 1)), .int 0, .ref 1], wC ov13 un13 (nI n13) dp fa13 cu st fi se th db cn F, 0)
            have s13 := stl_s s12 h13
            have F13 := sq_f s12 F12 E12 h13 (by omega)
            have E13 := seq_e E12 h13
            have A_13 := at_keep A_12 (op_k h13)
            have P_13 := at_keep P_12 (op_k h13)
            have bb_13 := at_keep bb_12 (op_k h13)
            have bbr_13 := at_keep bbr_12 (op_k h13)
            have aa_13 := at_keep aa_12 (op_k h13)
            have nb_13 := at_keep nb_12 (op_k h13)
            have sq_13 := at_keep sq_12 (op_k h13)
            have rn_13 := at_keep rn_12 (op_k h13)
            have su_13 := at_keep su_12 (op_k h13)
            have hha_13 := at_keep hha_12 (op_k h13)
            have wra_13 := at_keep wra_12 (op_k h13)
            have ww_13 := at_keep ww_12 (op_k h13)
            have iw_13 := at_new h13
            refine mm_inv (mm_call_mono _ _) (j := 145) (a := [.ref 1, .int 0, .int (nI (a + 1)), .int (nI iiw)]) (M := wC ov13 un13 (nI n13) dp fa13 cu st fi se th db cn F) (u := 0) rfl (by decide) (at_N_product_0 s13.2.1 s13.1 (at_hi A_13 1 (by omega)) (at_lo iw_13 (by omega)) (fun ov14 un14 n14 fa14 ivv h14 => ?_))
            show mm_W _ _ _ _ _ _ _ (270, [(10, .int (nI iwra)), (9, .int (nI ihha)), (8, .int 0), (7, .int (nI irn)), (6, .int (nI isq)), (5, .int (nI ibbr)), (4, .int (nI (a + 1))), (3, .int 0), (0, .ref 1), (1, .int 1), (2, .int (nI a))], [.int (nI ivv)], wC ov14 un14 (nI n14) dp fa14 cu st fi se th db cn F, 0)
            have s14 := stl_s s13 h14
            have F14 := sq_f s13 F13 E13 h14 (by omega)
            have E14 := seq_e E13 h14
            have A_14 := at_keep A_13 (op_k h14)
            have P_14 := at_keep P_13 (op_k h14)
            have bb_14 := at_keep bb_13 (op_k h14)
            have bbr_14 := at_keep bbr_13 (op_k h14)
            have aa_14 := at_keep aa_13 (op_k h14)
            have nb_14 := at_keep nb_13 (op_k h14)
            have sq_14 := at_keep sq_13 (op_k h14)
            have rn_14 := at_keep rn_13 (op_k h14)
            have su_14 := at_keep su_13 (op_k h14)
            have hha_14 := at_keep hha_13 (op_k h14)
            have wra_14 := at_keep wra_13 (op_k h14)
            have ww_14 := at_keep ww_13 (op_k h14)
            have iw_14 := at_keep iw_13 (op_k h14)
            have vv_14 := at_new h14
            refine mm_skip (mm_call_mono _ _) 4 (st' := (275, [(11, .int (nI ivv)), (10, .int (nI iwra)), (9, .int (nI ihha)), (8, .int 0), (7, .int (nI irn)), (6, .int (nI isq)), (5, .int (nI ibbr)), (4, .int (nI (a + 1))), (3, .int 0), (0, .ref 1), (1, .int 1), (2, .int (nI a))], [.ref 1, .int 0, .ref 1], wC ov14 un14 (nI n14) dp fa14 cu st fi se th db cn F, 0)) rfl ?_
            refine mm_inv (mm_call_mono _ _) (j := 138) (a := [.ref 1]) (M := wC ov14 un14 (nI n14) dp fa14 cu st fi se th db cn F) (u := 0) rfl (by decide) (ct_N_reserve s14.1 (fun ov15 un15 n15 fa15 irr h15 => ?_))
            show mm_W _ _ _ _ _ _ _ (278, [(11, .int (nI ivv)), (10, .int (nI iwra)), (9, .int (nI ihha)), (8, .int 0), (7, .int (nI irn)), (6, .int (nI isq)), (5, .int (nI ibbr)), (4, .int (nI (a + 1))), (3, .int 0), (0, .ref 1), (1, .int 1), (2, .int (nI a))], [.int (nI irr), .int 0, .ref 1], wC ov15 un15 (nI n15) dp fa15 cu st fi se th db cn F, 0)
            have rrr := res_r h15 s14.1.1
            have s15 := stl_res s14 h15
            have t15 := stl_res (stl_0 s14.2.1 s14.1) h15
            have A_15 := at_keep A_14 (res_k h15 s14.1.1)
            have P_15 := at_keep P_14 (res_k h15 s14.1.1)
            have bb_15 := at_keep bb_14 (res_k h15 s14.1.1)
            have bbr_15 := at_keep bbr_14 (res_k h15 s14.1.1)
            have aa_15 := at_keep aa_14 (res_k h15 s14.1.1)
            have nb_15 := at_keep nb_14 (res_k h15 s14.1.1)
            have sq_15 := at_keep sq_14 (res_k h15 s14.1.1)
            have rn_15 := at_keep rn_14 (res_k h15 s14.1.1)
            have su_15 := at_keep su_14 (res_k h15 s14.1.1)
            have hha_15 := at_keep hha_14 (res_k h15 s14.1.1)
            have wra_15 := at_keep wra_14 (res_k h15 s14.1.1)
            have ww_15 := at_keep ww_14 (res_k h15 s14.1.1)
            have iw_15 := at_keep iw_14 (res_k h15 s14.1.1)
            have vv_15 := at_keep vv_14 (res_k h15 s14.1.1)
            have rr_15 := at_res h15 s14.1.1
            refine mm_skip (mm_call_mono _ _) 2 (st' := (282, [(11, .int (nI ivv)), (10, .int (nI iwra)), (9, .int (nI ihha)), (8, .int 0), (7, .int (nI irn)), (6, .int (nI isq)), (5, .int (nI ibbr)), (4, .int (nI (a + 1))), (3, .int 0), (0, .ref 1), (1, .int 1), (2, .int (nI a))], [.int (nI ivv), .int (nI iwra), .int (nI irr), .int 0, .ref 1], wC ov15 un15 (nI n15) dp fa15 cu st fi se th db cn F, 0)) rfl ?_
            refine mm_inv (mm_call_mono _ _) (j := 140) (a := [.ref 1, .int 0, .int (nI irr), .int (nI iwra), .int (nI ivv)]) (M := wC ov15 un15 (nI n15) dp fa15 cu st fi se th db cn F) (u := 0) rfl (by decide) (ct_N_pair_0 (r := irr) (a := iwra) (b := ivv) (by omega) (by have := wra_15.1.1; omega) (by have := vv_15.1.1; omega) ?_)
            show mm_W _ _ _ _ _ _ _ (285, [(11, .int (nI ivv)), (10, .int (nI iwra)), (9, .int (nI ihha)), (8, .int 0), (7, .int (nI irn)), (6, .int (nI isq)), (5, .int (nI ibbr)), (4, .int (nI (a + 1))), (3, .int 0), (0, .ref 1), (1, .int 1), (2, .int (nI a))], [.int (nI irr)], wC (prow ov15 1 irr iwra ivv) (prow un15 1 irr iwra ivv) (nI (irr + 4)) dp fa15 cu st fi se th db cn F, 0)
            have h16 := pair_op (h := 1) (by omega) s14.1.1 h15 (stl_w t15 (by omega)) (fun q0 => q0) rr_15 wra_15 vv_15 (fun q0 => Or.inl (by have e1 := (h14.2.2.2.2.2.1 ((res_k h15 s14.1.1 q0).1)); have e2 := res_n h15 q0; omega)) (fun q9 q0 hroom => absurd (q9.symm.trans (res_ok h15 q0 (by omega)).1) z10)
            generalize prow ov15 1 irr iwra ivv = ov16 at h16 ⊢
            generalize prow un15 1 irr iwra ivv = un16 at h16 ⊢
            obtain ⟨n16, en16⟩ : ∃ z, z = irr + 4 := ⟨_, rfl⟩
            rw [← en16] at h16 ⊢
            have s16 := stl_s s14 h16
            have F16 := sq_f s14 F14 E14 h16 (by omega)
            have E16 := seq_e E14 h16
            have A_16 := at_keep A_14 (op_k h16)
            have P_16 := at_keep P_14 (op_k h16)
            have bb_16 := at_keep bb_14 (op_k h16)
            have bbr_16 := at_keep bbr_14 (op_k h16)
            have aa_16 := at_keep aa_14 (op_k h16)
            have nb_16 := at_keep nb_14 (op_k h16)
            have sq_16 := at_keep sq_14 (op_k h16)
            have rn_16 := at_keep rn_14 (op_k h16)
            have su_16 := at_keep su_14 (op_k h16)
            have hha_16 := at_keep hha_14 (op_k h16)
            have wra_16 := at_keep wra_14 (op_k h16)
            have ww_16 := at_keep ww_14 (op_k h16)
            have iw_16 := at_keep iw_14 (op_k h16)
            have vv_16 := at_keep vv_14 (op_k h16)
            have pr_16 := at_new h16
            refine mm_skip (mm_call_mono _ _) 4 (st' := (291, [(12, .int (nI irr)), (11, .int (nI ivv)), (10, .int (nI iwra)), (9, .int (nI ihha)), (8, .int 0), (7, .int (nI irn)), (6, .int (nI isq)), (5, .int (nI ibbr)), (4, .int (nI (a + 1))), (3, .int 0), (0, .ref 1), (1, .int 1), (2, .int (nI a))], [.int (nI irr), .int 1, .ref 1], wC ov16 un16 (nI n16) dp fa15 cu st fi se th db cn F, 0)) rfl ?_
            refine mm_inv (mm_call_mono _ _) (j := 147) (a := [.ref 1, .int 1, .int (nI irr)]) (M := wC ov16 un16 (nI n16) dp fa15 cu st fi se th db cn F) (u := 0) rfl (by decide) (at_N_signOf_1 s16.2.1 s16.1 P_16 (at_lo pr_16 (by omega)) (fun ov17 un17 n17 fa17 v3 h17 => ?_))
            show mm_W _ _ _ _ _ _ _ (294, [(12, .int (nI irr)), (11, .int (nI ivv)), (10, .int (nI iwra)), (9, .int (nI ihha)), (8, .int 0), (7, .int (nI irn)), (6, .int (nI isq)), (5, .int (nI ibbr)), (4, .int (nI (a + 1))), (3, .int 0), (0, .ref 1), (1, .int 1), (2, .int (nI a))], [.int v3], wC ov17 un17 (nI n17) dp fa17 cu st fi se th db cn F, 0)
            have s17 := stl_g s16 h17
            have F17 := sg_f s16 F16 E16 h17 (by omega)
            have E17 := sg_e E16 h17
            have A_17 := at_keep A_16 (sg_k h17)
            have P_17 := at_keep P_16 (sg_k h17)
            have bb_17 := at_keep bb_16 (sg_k h17)
            have bbr_17 := at_keep bbr_16 (sg_k h17)
            have aa_17 := at_keep aa_16 (sg_k h17)
            have nb_17 := at_keep nb_16 (sg_k h17)
            have sq_17 := at_keep sq_16 (sg_k h17)
            have rn_17 := at_keep rn_16 (sg_k h17)
            have su_17 := at_keep su_16 (sg_k h17)
            have hha_17 := at_keep hha_16 (sg_k h17)
            have wra_17 := at_keep wra_16 (sg_k h17)
            have ww_17 := at_keep ww_16 (sg_k h17)
            have iw_17 := at_keep iw_16 (sg_k h17)
            have vv_17 := at_keep vv_16 (sg_k h17)
            have pr_17 := at_keep pr_16 (sg_k h17)
            refine mm_branch (mm_call_mono _ _) (c := 0 ≤ v3) (s1 := (307, [(12, .int (nI irr)), (11, .int (nI ivv)), (10, .int (nI iwra)), (9, .int (nI ihha)), (8, .int 0), (7, .int (nI irn)), (6, .int (nI isq)), (5, .int (nI ibbr)), (4, .int (nI (a + 1))), (3, .int 0), (0, .ref 1), (1, .int 1), (2, .int (nI a))], [], wC ov17 un17 (nI n17) dp fa17 cu st fi se th db cn F, 0)) (s2 := (297, [(12, .int (nI irr)), (11, .int (nI ivv)), (10, .int (nI iwra)), (9, .int (nI ihha)), (8, .int 0), (7, .int (nI irn)), (6, .int (nI isq)), (5, .int (nI ibbr)), (4, .int (nI (a + 1))), (3, .int 0), (0, .ref 1), (1, .int 1), (2, .int (nI a))], [], wC ov17 un17 (nI n17) dp fa17 cu st fi se th db cn F, 0)) rfl (fun g3 => ?_) (fun g3 => ?_)
            · skip
              have E17 := fun q0 => (E17 q0).trans (if_neg (i32_ge g3))
              refine mm_skip (mm_call_mono _ _) 1 (st' := (309, [(12, .int (nI irr)), (11, .int (nI ivv)), (10, .int (nI iwra)), (9, .int (nI ihha)), (8, .int 0), (7, .int (nI irn)), (6, .int (nI isq)), (5, .int (nI ibbr)), (4, .int (nI (a + 1))), (3, .int 0), (0, .ref 1), (1, .int 1), (2, .int (nI a))], [.int (nI irr)], wC ov17 un17 (nI n17) dp fa17 cu st fi se th db cn F, 0)) rfl ?_
              exact mm_ret (mm_call_mono _ _) (c := True) (r := .inl (some (.int (nI irr)))) (M := wC ov17 un17 (nI n17) dp fa17 cu st fi se th db cn F) (u := 0) rfl trivial (by decide) (hQ _ _ _ _ _ (rt_yes s17 (by omega) E17 F17 pr_17 (by omega) (fun q0 => by have e1 := (sg_k h17 q0).1; have e2 := (h16.2.2.2.2.2.1 e1).2.1; have e3 := (s14.2.2.2.2 (h16.2.2.2.2.2.1 e1).1).2.1; omega)))
            · skip
              have E17 := fun q0 => (E17 q0).trans (if_pos (i32_lt g3))
              refine mm_skip (mm_call_mono _ _) 3 (st' := (301, [(12, .int (nI irr)), (11, .int (nI ivv)), (10, .int (nI iwra)), (9, .int (nI ihha)), (8, .int 0), (7, .int (nI irn)), (6, .int (nI isq)), (5, .int (nI ibbr)), (4, .int (nI (a + 1))), (3, .int 0), (0, .ref 1), (1, .int 1), (2, .int (nI a))], [.int (nI irr), .int 1, .ref 1], wC ov17 un17 (nI n17) dp fa17 cu st fi se th db cn F, 0)) rfl ?_
              refine mm_inv (mm_call_mono _ _) (j := 143) (a := [.ref 1, .int 1, .int (nI irr)]) (M := wC ov17 un17 (nI n17) dp fa17 cu st fi se th db cn F) (u := 0) rfl (by decide) (at_N_negative_1 s17.2.1 s17.1 (at_lo pr_17 (by omega)) (fun ov18 un18 n18 fa18 ing h18 => ?_))
              show mm_W _ _ _ _ _ _ _ (304, [(12, .int (nI irr)), (11, .int (nI ivv)), (10, .int (nI iwra)), (9, .int (nI ihha)), (8, .int 0), (7, .int (nI irn)), (6, .int (nI isq)), (5, .int (nI ibbr)), (4, .int (nI (a + 1))), (3, .int 0), (0, .ref 1), (1, .int 1), (2, .int (nI a))], [.int (nI ing)], wC ov18 un18 (nI n18) dp fa18 cu st fi se th db cn F, 0)
              have s18 := stl_s s17 h18
              have F18 := sq_f s17 F17 E17 h18 (by omega)
              have E18 := seq_e E17 h18
              have A_18 := at_keep A_17 (op_k h18)
              have P_18 := at_keep P_17 (op_k h18)
              have bb_18 := at_keep bb_17 (op_k h18)
              have bbr_18 := at_keep bbr_17 (op_k h18)
              have aa_18 := at_keep aa_17 (op_k h18)
              have nb_18 := at_keep nb_17 (op_k h18)
              have sq_18 := at_keep sq_17 (op_k h18)
              have rn_18 := at_keep rn_17 (op_k h18)
              have su_18 := at_keep su_17 (op_k h18)
              have hha_18 := at_keep hha_17 (op_k h18)
              have wra_18 := at_keep wra_17 (op_k h18)
              have ww_18 := at_keep ww_17 (op_k h18)
              have iw_18 := at_keep iw_17 (op_k h18)
              have vv_18 := at_keep vv_17 (op_k h18)
              have pr_18 := at_keep pr_17 (op_k h18)
              have ng_18 := at_new h18
              refine mm_skip (mm_call_mono _ _) 1 (st' := (309, [(12, .int (nI irr)), (11, .int (nI ivv)), (10, .int (nI iwra)), (9, .int (nI ihha)), (8, .int 0), (7, .int (nI irn)), (6, .int (nI isq)), (5, .int (nI ibbr)), (4, .int (nI (a + 1))), (3, .int 0), (0, .ref 1), (1, .int 1), (2, .int (nI a))], [.int (nI ing)], wC ov18 un18 (nI n18) dp fa18 cu st fi se th db cn F, 0)) rfl ?_
              exact mm_ret (mm_call_mono _ _) (c := True) (r := .inl (some (.int (nI ing)))) (M := wC ov18 un18 (nI n18) dp fa18 cu st fi se th db cn F) (u := 0) rfl trivial (by decide) (hQ _ _ _ _ _ (rt_yes s18 (by omega) E18 F18 ng_18 (by have := h18.1; omega) (fun q0 => by have e1 := (h18.2.2.2.2.2.1 q0); have e2 := (s17.2.2.2.2 e1.1).2.1; omega)))
    · skip
      have E6 := fun q0 => (E6 q0).trans (if_pos (i32_lt gs))
      refine mm_skip (mm_call_mono _ _) 5 (st' := (176, [(7, .int (-1)), (6, .int (nI isq)), (5, .int (nI ibbr)), (4, .int (nI (a + 1))), (3, .int 0), (0, .ref 1), (1, .int 1), (2, .int (nI a))], [.int (-1), .int (-1)], wC ov6 un6 (nI n6) dp fa6 cu st fi se th db cn F, 0)) rfl ?_
      refine mm_branch (mm_call_mono _ _) (c := ((-1) : Int32) = (-1)) (s1 := (179, [(7, .int (-1)), (6, .int (nI isq)), (5, .int (nI ibbr)), (4, .int (nI (a + 1))), (3, .int 0), (0, .ref 1), (1, .int 1), (2, .int (nI a))], [], wC ov6 un6 (nI n6) dp fa6 cu st fi se th db cn F, 0)) (s2 := (181, [(7, .int (-1)), (6, .int (nI isq)), (5, .int (nI ibbr)), (4, .int (nI (a + 1))), (3, .int 0), (0, .ref 1), (1, .int 1), (2, .int (nI a))], [], wC ov6 un6 (nI n6) dp fa6 cu st fi se th db cn F, 0)) rfl (fun _ => ?_) (fun h => absurd (by decide) h)
      refine mm_skip (mm_call_mono _ _) 1 (st' := (180, [(7, .int (-1)), (6, .int (nI isq)), (5, .int (nI ibbr)), (4, .int (nI (a + 1))), (3, .int 0), (0, .ref 1), (1, .int 1), (2, .int (nI a))], [.int (-1)], wC ov6 un6 (nI n6) dp fa6 cu st fi se th db cn F, 0)) rfl ?_
      exact mm_ret (mm_call_mono _ _) (c := True) (r := .inl (some (.int (-1)))) (M := wC ov6 un6 (nI n6) dp fa6 cu st fi se th db cn F) (u := 0) rfl trivial (by decide) (hQ _ _ _ _ _ (rt_no s6 (by omega) E6 F6))
  · skip
    have E0 : fa = 0 → nrt1 R1 x = _ := fun q0 => nrtS_z ((isz_at (h := 1) A q0).mp (bz_1 zb))
    refine mm_skip (mm_call_mono _ _) 3 (st' := (34, [(4, .int (nI (a + 1))), (3, .int 0), (0, .ref 1), (1, .int 1), (2, .int (nI a))], [.int (nI a), .int 0, .ref 1], wC ov un (nI n) dp fa cu st fi se th db cn F, 0)) rfl ?_
    refine mm_inv (mm_call_mono _ _) (j := 148) (a := [.ref 1, .int 0, .int (nI a)]) (M := wC ov un (nI n) dp fa cu st fi se th db cn F) (u := 0) rfl (by decide) (at_N_root_0 s0.2.1 s0.1 (at_lo A (by omega)) (fun ov1 un1 n1 fa1 vp h1 => ?_))
    show mm_W _ _ _ _ _ _ _ (37, [(4, .int (nI (a + 1))), (3, .int 0), (0, .ref 1), (1, .int 1), (2, .int (nI a))], [.int vp], wC ov1 un1 (nI n1) dp fa1 cu st fi se th db cn F, 0)
    have s1 := stl_r s0 h1
    have F1 := rt_f s0 F0 E0 h1 (by omega)
    have A_1 := at_keep A (rt_k h1)
    have P_1 := at_keep P (rt_k h1)
    refine mm_skip (mm_call_mono _ _) 3 (st' := (42, [(5, .int vp), (4, .int (nI (a + 1))), (3, .int 0), (0, .ref 1), (1, .int 1), (2, .int (nI a))], [.int (-1), .int vp], wC ov1 un1 (nI n1) dp fa1 cu st fi se th db cn F, 0)) rfl ?_
    refine mm_branch (mm_call_mono _ _) (c := vp = (-1)) (s1 := (61, [(5, .int vp), (4, .int (nI (a + 1))), (3, .int 0), (0, .ref 1), (1, .int 1), (2, .int (nI a))], [], wC ov1 un1 (nI n1) dp fa1 cu st fi se th db cn F, 0)) (s2 := (45, [(5, .int vp), (4, .int (nI (a + 1))), (3, .int 0), (0, .ref 1), (1, .int 1), (2, .int (nI a))], [], wC ov1 un1 (nI n1) dp fa1 cu st fi se th db cn F, 0)) rfl (fun ep => ?_) (fun ep => ?_)
    · skip
      have E1 := rt_e0 E0 h1 ep
      refine mm_skip (mm_call_mono _ _) 8 (st' := (69, [(5, .int vp), (4, .int (nI (a + 1))), (3, .int 0), (0, .ref 1), (1, .int 1), (2, .int (nI a))], [.int 1, .int 0, .ref 1, .int (nI a), .int 0, .ref 1, .int 0, .ref 1], wC ov1 un1 (nI n1) dp fa1 cu st fi se th db cn F, 0)) rfl ?_
      refine mm_inv (mm_call_mono _ _) (j := 120) (a := [.int 1]) (M := wC ov1 un1 (nI n1) dp fa1 cu st fi se th db cn F) (u := 0) rfl (by decide) (ct_N_radicandOf_1 ?_)
      show mm_W _ _ _ _ _ _ _ (72, [(5, .int vp), (4, .int (nI (a + 1))), (3, .int 0), (0, .ref 1), (1, .int 1), (2, .int (nI a))], [.int (nI 0), .int 0, .ref 1, .int (nI a), .int 0, .ref 1, .int 0, .ref 1], wC ov1 un1 (nI n1) dp fa1 cu st fi se th db cn F, 0)
      refine mm_inv (mm_call_mono _ _) (j := 146) (a := [.ref 1, .int 0, .int (nI 0)]) (M := wC ov1 un1 (nI n1) dp fa1 cu st fi se th db cn F) (u := 0) rfl (by decide) (at_N_inverse_0 s1.2.1 s1.1 P_1 (fun ov2 un2 n2 fa2 iir h2 => ?_))
      show mm_W _ _ _ _ _ _ _ (75, [(5, .int vp), (4, .int (nI (a + 1))), (3, .int 0), (0, .ref 1), (1, .int 1), (2, .int (nI a))], [.int (nI iir), .int (nI a), .int 0, .ref 1, .int 0, .ref 1], wC ov2 un2 (nI n2) dp fa2 cu st fi se th db cn F, 0)
      have E1 : fa1 = 0 → nrt1 R1 x = Option.bind (ninv0 R1) _ := E1
      have s2 := stl_s s1 h2
      have F2 := sq_f s1 F1 E1 h2 (by omega)
      have E2 := seq_e E1 h2
      have A_2 := at_keep A_1 (op_k h2)
      have P_2 := at_keep P_1 (op_k h2)
      have ir_2 := at_new h2
      refine mm_inv (mm_call_mono _ _) (j := 145) (a := [.ref 1, .int 0, .int (nI a), .int (nI iir)]) (M := wC ov2 un2 (nI n2) dp fa2 cu st fi se th db cn F) (u := 0) rfl (by decide) (at_N_product_0 s2.2.1 s2.1 (at_lo A_2 (by omega)) (at_lo ir_2 (by omega)) (fun ov3 un3 n3 fa3 iqq h3 => ?_))
      show mm_W _ _ _ _ _ _ _ (78, [(5, .int vp), (4, .int (nI (a + 1))), (3, .int 0), (0, .ref 1), (1, .int 1), (2, .int (nI a))], [.int (nI iqq), .int 0, .ref 1], wC ov3 un3 (nI n3) dp fa3 cu st fi se th db cn F, 0)
      have s3 := stl_s s2 h3
      have F3 := sq_f s2 F2 E2 h3 (by omega)
      have E3 := seq_e E2 h3
      have A_3 := at_keep A_2 (op_k h3)
      have P_3 := at_keep P_2 (op_k h3)
      have ir_3 := at_keep ir_2 (op_k h3)
      have qq_3 := at_new h3
      refine mm_inv (mm_call_mono _ _) (j := 148) (a := [.ref 1, .int 0, .int (nI iqq)]) (M := wC ov3 un3 (nI n3) dp fa3 cu st fi se th db cn F) (u := 0) rfl (by decide) (at_N_root_0 s3.2.1 s3.1 (at_lo qq_3 (by omega)) (fun ov4 un4 n4 fa4 vq h4 => ?_))
      show mm_W _ _ _ _ _ _ _ (81, [(5, .int vp), (4, .int (nI (a + 1))), (3, .int 0), (0, .ref 1), (1, .int 1), (2, .int (nI a))], [.int vq], wC ov4 un4 (nI n4) dp fa4 cu st fi se th db cn F, 0)
      have s4 := stl_r s3 h4
      have F4 := rt_f s3 F3 E3 h4 (by omega)
      have A_4 := at_keep A_3 (rt_k h4)
      have P_4 := at_keep P_3 (rt_k h4)
      have ir_4 := at_keep ir_3 (rt_k h4)
      have qq_4 := at_keep qq_3 (rt_k h4)
      refine mm_skip (mm_call_mono _ _) 3 (st' := (86, [(6, .int vq), (5, .int vp), (4, .int (nI (a + 1))), (3, .int 0), (0, .ref 1), (1, .int 1), (2, .int (nI a))], [.int (-1), .int vq], wC ov4 un4 (nI n4) dp fa4 cu st fi se th db cn F, 0)) rfl ?_
      refine mm_branch (mm_call_mono _ _) (c := vq = (-1)) (s1 := (89, [(6, .int vq), (5, .int vp), (4, .int (nI (a + 1))), (3, .int 0), (0, .ref 1), (1, .int 1), (2, .int (nI a))], [], wC ov4 un4 (nI n4) dp fa4 cu st fi se th db cn F, 0)) (s2 := (93, [(6, .int vq), (5, .int vp), (4, .int (nI (a + 1))), (3, .int 0), (0, .ref 1), (1, .int 1), (2, .int (nI a))], [], wC ov4 un4 (nI n4) dp fa4 cu st fi se th db cn F, 0)) rfl (fun eq => ?_) (fun eq => ?_)
      · skip
        have E4 := rt_e0 E3 h4 eq
        refine mm_skip (mm_call_mono _ _) 2 (st' := (108, [(6, .int vq), (5, .int vp), (4, .int (nI (a + 1))), (3, .int 0), (0, .ref 1), (1, .int 1), (2, .int (nI a))], [.int (-1)], wC ov4 un4 (nI n4) dp fa4 cu st fi se th db cn F, 0)) rfl ?_
        exact mm_ret (mm_call_mono _ _) (c := True) (r := .inl (some (.int (-1)))) (M := wC ov4 un4 (nI n4) dp fa4 cu st fi se th db cn F) (u := 0) rfl trivial (by decide) (hQ _ _ _ _ _ (rt_no s4 (by omega) E4 F4))
      · skip
        obtain ⟨irq, rfl, jrq, krq⟩ := rt_ix h4 eq
        have E4 := rt_e1 E3 h4 krq
        have rq_4 := at_rt h4 krq
        refine mm_skip (mm_call_mono _ _) 3 (st' := (96, [(6, .int (nI irq)), (5, .int vp), (4, .int (nI (a + 1))), (3, .int 0), (0, .ref 1), (1, .int 1), (2, .int (nI a))], [.ref 1, .int 0, .ref 1], wC ov4 un4 (nI n4) dp fa4 cu st fi se th db cn F, 0)) rfl ?_
        refine mm_inv (mm_call_mono _ _) (j := 138) (a := [.ref 1]) (M := wC ov4 un4 (nI n4) dp fa4 cu st fi se th db cn F) (u := 0) rfl (by decide) (ct_N_reserve s4.1 (fun ov5 un5 n5 fa5 ira h5 => ?_))
        show mm_W _ _ _ _ _ _ _ (99, [(6, .int (nI irq)), (5, .int vp), (4, .int (nI (a + 1))), (3, .int 0), (0, .ref 1), (1, .int 1), (2, .int (nI a))], [.int (nI ira), .int 0, .ref 1], wC ov5 un5 (nI n5) dp fa5 cu st fi se th db cn F, 0)
        have rra := res_r h5 s4.1.1
        have s5 := stl_res s4 h5
        have t5 := stl_res (stl_0 s4.2.1 s4.1) h5
        have A_5 := at_keep A_4 (res_k h5 s4.1.1)
        have P_5 := at_keep P_4 (res_k h5 s4.1.1)
        have ir_5 := at_keep ir_4 (res_k h5 s4.1.1)
        have qq_5 := at_keep qq_4 (res_k h5 s4.1.1)
        have rq_5 := at_keep rq_4 (res_k h5 s4.1.1)
        have ra_5 := at_res h5 s4.1.1
        refine mm_skip (mm_call_mono _ _) 1 (st' := (100, [(6, .int (nI irq)), (5, .int vp), (4, .int (nI (a + 1))), (3, .int 0), (0, .ref 1), (1, .int 1), (2, .int (nI a))], [.ref 1, .int (nI ira), .int 0, .ref 1], wC ov5 un5 (nI n5) dp fa5 cu st fi se th db cn F, 0)) rfl ?_
        refine mm_inv (mm_call_mono _ _) (j := 138) (a := [.ref 1]) (M := wC ov5 un5 (nI n5) dp fa5 cu st fi se th db cn F) (u := 0) rfl (by decide) (ct_N_reserve s5.1 (fun ov6 un6 n6 fa6 irb h6 => ?_))
        show mm_W _ _ _ _ _ _ _ (103, [(6, .int (nI irq)), (5, .int vp), (4, .int (nI (a + 1))), (3, .int 0), (0, .ref 1), (1, .int 1), (2, .int (nI a))], [.int (nI irb), .int (nI ira), .int 0, .ref 1], wC ov6 un6 (nI n6) dp fa6 cu st fi se th db cn F, 0)
        have rrb := res_r h6 s5.1.1
        have s6 := stl_res s5 h6
        have t6 := stl_res t5 h6
        have A_6 := at_keep A_5 (res_k h6 s5.1.1)
        have P_6 := at_keep P_5 (res_k h6 s5.1.1)
        have ir_6 := at_keep ir_5 (res_k h6 s5.1.1)
        have qq_6 := at_keep qq_5 (res_k h6 s5.1.1)
        have rq_6 := at_keep rq_5 (res_k h6 s5.1.1)
        have ra_6 := at_keep ra_5 (res_k h6 s5.1.1)
        have rb_6 := at_res h6 s5.1.1
        refine mm_skip (mm_call_mono _ _) 1 (st' := (105, [(6, .int (nI irq)), (5, .int vp), (4, .int (nI (a + 1))), (3, .int 0), (0, .ref 1), (1, .int 1), (2, .int (nI a))], [.int (nI irq), .int (nI irb), .int (nI ira), .int 0, .ref 1], wC ov6 un6 (nI n6) dp fa6 cu st fi se th db cn F, 0)) rfl ?_
        refine mm_inv (mm_call_mono _ _) (j := 140) (a := [.ref 1, .int 0, .int (nI ira), .int (nI irb), .int (nI irq)]) (M := wC ov6 un6 (nI n6) dp fa6 cu st fi se th db cn F) (u := 0) rfl (by decide) (ct_N_pair_0 (r := ira) (a := irb) (b := irq) (by omega) (by have := rb_6.1.1; omega) (by have := rq_6.1.1; omega) ?_)
        show mm_W _ _ _ _ _ _ _ (108, [(6, .int (nI irq)), (5, .int vp), (4, .int (nI (a + 1))), (3, .int 0), (0, .ref 1), (1, .int 1), (2, .int (nI a))], [.int (nI ira)], wC (prow ov6 1 ira irb irq) (prow un6 1 ira irb irq) (nI (ira + 4)) dp fa6 cu st fi se th db cn F, 0)
        have h7 := pair_op (h := 1) (by omega) s4.1.1 h5 t6 (fun q0 => (res_k h6 s5.1.1 q0).1) ra_6 (at_zz rb_6) rq_6 (fun q0 => Or.inl (by have e1 := res_k h6 s5.1.1 q0; have e2 := res_n h5 e1.1; have e3 := res_k h5 s4.1.1 e1.1; have e4 := (rq_4.1.2 e3.1).1; omega)) (fun q9 q0 hroom => absurd (q9.symm.trans (res_ok h6 (res_ok h5 q0 (by omega)).1 (by have := (res_ok h5 q0 (by omega)).2; omega)).1) z10)
        have E4 : fa4 = 0 → nrt1 R1 x = Option.bind (some (jn 1 zz (r4 ov4 un4 irq))) (fun r => some (some r)) := E4
        generalize prow ov6 1 ira irb irq = ov7 at h7 ⊢
        generalize prow un6 1 ira irb irq = un7 at h7 ⊢
        obtain ⟨n7, en7⟩ : ∃ z, z = ira + 4 := ⟨_, rfl⟩
        rw [← en7] at h7 ⊢
        have s7 := stl_s s4 h7
        have F7 := sq_f s4 F4 E4 h7 (by omega)
        have E7 := seq_e E4 h7
        have A_7 := at_keep A_4 (op_k h7)
        have P_7 := at_keep P_4 (op_k h7)
        have ir_7 := at_keep ir_4 (op_k h7)
        have qq_7 := at_keep qq_4 (op_k h7)
        have rq_7 := at_keep rq_4 (op_k h7)
        have pr_7 := at_new h7
        exact mm_ret (mm_call_mono _ _) (c := True) (r := .inl (some (.int (nI ira)))) (M := wC ov7 un7 (nI n7) dp fa6 cu st fi se th db cn F) (u := 0) rfl trivial (by decide) (hQ _ _ _ _ _ (rt_yes s7 (by omega) E7 F7 pr_7 (by omega) (fun q0 => by have e1 := (h7.2.2.2.2.2.1 q0); have e2 := (s4.2.2.2.2 e1.1).2.1; omega)))
    · skip
      obtain ⟨irp, rfl, jrp, krp⟩ := rt_ix h1 ep
      have E1 := rt_e1 E0 h1 krp
      have rp_1 := at_rt h1 krp
      refine mm_skip (mm_call_mono _ _) 3 (st' := (48, [(5, .int (nI irp)), (4, .int (nI (a + 1))), (3, .int 0), (0, .ref 1), (1, .int 1), (2, .int (nI a))], [.ref 1, .int 0, .ref 1], wC ov1 un1 (nI n1) dp fa1 cu st fi se th db cn F, 0)) rfl ?_
      refine mm_inv (mm_call_mono _ _) (j := 138) (a := [.ref 1]) (M := wC ov1 un1 (nI n1) dp fa1 cu st fi se th db cn F) (u := 0) rfl (by decide) (ct_N_reserve s1.1 (fun ov2 un2 n2 fa2 ira h2 => ?_))
      show mm_W _ _ _ _ _ _ _ (51, [(5, .int (nI irp)), (4, .int (nI (a + 1))), (3, .int 0), (0, .ref 1), (1, .int 1), (2, .int (nI a))], [.int (nI ira), .int 0, .ref 1], wC ov2 un2 (nI n2) dp fa2 cu st fi se th db cn F, 0)
      have rra := res_r h2 s1.1.1
      have s2 := stl_res s1 h2
      have t2 := stl_res (stl_0 s1.2.1 s1.1) h2
      have A_2 := at_keep A_1 (res_k h2 s1.1.1)
      have P_2 := at_keep P_1 (res_k h2 s1.1.1)
      have rp_2 := at_keep rp_1 (res_k h2 s1.1.1)
      have ra_2 := at_res h2 s1.1.1
      refine mm_skip (mm_call_mono _ _) 2 (st' := (54, [(5, .int (nI irp)), (4, .int (nI (a + 1))), (3, .int 0), (0, .ref 1), (1, .int 1), (2, .int (nI a))], [.ref 1, .int (nI irp), .int (nI ira), .int 0, .ref 1], wC ov2 un2 (nI n2) dp fa2 cu st fi se th db cn F, 0)) rfl ?_
      refine mm_inv (mm_call_mono _ _) (j := 138) (a := [.ref 1]) (M := wC ov2 un2 (nI n2) dp fa2 cu st fi se th db cn F) (u := 0) rfl (by decide) (ct_N_reserve s2.1 (fun ov3 un3 n3 fa3 irb h3 => ?_))
      show mm_W _ _ _ _ _ _ _ (57, [(5, .int (nI irp)), (4, .int (nI (a + 1))), (3, .int 0), (0, .ref 1), (1, .int 1), (2, .int (nI a))], [.int (nI irb), .int (nI irp), .int (nI ira), .int 0, .ref 1], wC ov3 un3 (nI n3) dp fa3 cu st fi se th db cn F, 0)
      have rrb := res_r h3 s2.1.1
      have s3 := stl_res s2 h3
      have t3 := stl_res t2 h3
      have A_3 := at_keep A_2 (res_k h3 s2.1.1)
      have P_3 := at_keep P_2 (res_k h3 s2.1.1)
      have rp_3 := at_keep rp_2 (res_k h3 s2.1.1)
      have ra_3 := at_keep ra_2 (res_k h3 s2.1.1)
      have rb_3 := at_res h3 s2.1.1
      refine mm_inv (mm_call_mono _ _) (j := 140) (a := [.ref 1, .int 0, .int (nI ira), .int (nI irp), .int (nI irb)]) (M := wC ov3 un3 (nI n3) dp fa3 cu st fi se th db cn F) (u := 0) rfl (by decide) (ct_N_pair_0 (r := ira) (a := irp) (b := irb) (by omega) (by have := rp_3.1.1; omega) (by have := rb_3.1.1; omega) ?_)
      show mm_W _ _ _ _ _ _ _ (60, [(5, .int (nI irp)), (4, .int (nI (a + 1))), (3, .int 0), (0, .ref 1), (1, .int 1), (2, .int (nI a))], [.int (nI ira)], wC (prow ov3 1 ira irp irb) (prow un3 1 ira irp irb) (nI (ira + 4)) dp fa3 cu st fi se th db cn F, 0)
      have h4 := pair_op (h := 1) (by omega) s1.1.1 h2 t3 (fun q0 => (res_k h3 s2.1.1 q0).1) ra_3 rp_3 (at_zz rb_3) (fun q0 => Or.inr (by have e1 := res_k h3 s2.1.1 q0; have e2 := res_n h3 q0; have e3 := (res_r h2 s1.1.1).2.2; omega)) (fun q9 q0 hroom => absurd (q9.symm.trans (res_ok h3 (res_ok h2 q0 (by omega)).1 (by have := (res_ok h2 q0 (by omega)).2; omega)).1) z10)
      have E1 : fa1 = 0 → nrt1 R1 x = Option.bind (some (jn 1 (r4 ov1 un1 irp) zz)) (fun r => some (some r)) := E1
      generalize prow ov3 1 ira irp irb = ov4 at h4 ⊢
      generalize prow un3 1 ira irp irb = un4 at h4 ⊢
      obtain ⟨n4, en4⟩ : ∃ z, z = ira + 4 := ⟨_, rfl⟩
      rw [← en4] at h4 ⊢
      have s4 := stl_s s1 h4
      have F4 := sq_f s1 F1 E1 h4 (by omega)
      have E4 := seq_e E1 h4
      have A_4 := at_keep A_1 (op_k h4)
      have P_4 := at_keep P_1 (op_k h4)
      have rp_4 := at_keep rp_1 (op_k h4)
      have pr_4 := at_new h4
      exact mm_ret (mm_call_mono _ _) (c := True) (r := .inl (some (.int (nI ira)))) (M := wC ov4 un4 (nI n4) dp fa3 cu st fi se th db cn F) (u := 0) rfl trivial (by decide) (hQ _ _ _ _ _ (rt_yes s4 (by omega) E4 F4 pr_4 (by omega) (fun q0 => by have e1 := (h4.2.2.2.2.2.1 q0); have e2 := (s1.2.2.2.2 e1.1).2.1; omega)))

