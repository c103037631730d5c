def bz (p : Prop) [Decidable p] : Int32 := if p then 1 else 0
theorem bz_z (p : Prop) [Decidable p] : mm_z (bz p) := by unfold bz; split <;> first | exact Or.inr rfl | exact Or.inl rfl
theorem bz_t {p : Prop} [Decidable p] (h : p) : bz p = 1 := if_pos h
theorem bz_f {p : Prop} [Decidable p] (h : ¬ p) : bz p = 0 := if_neg h
theorem bz_0 {p : Prop} [Decidable p] (h : bz p = 0) : ¬ p := fun hp => by rw [bz_t hp] at h; revert h; decide
theorem bz_1 {p : Prop} [Decidable p] (h : ¬ bz p = 0) : p := by
  by_cases hp : p
  · exact hp
  · exact absurd (bz_f hp) h
def nneg (m : Nat) (x : Nat → fr) : Option n4 := nS m fun j => some (fneg (x j))
theorem neg32 {x : Int32} (h : -2147483647 ≤ x.toInt) : (-x).toInt = -x.toInt := by
  have h2 := x.toInt_lt
  rw [Int32.toInt_neg]
  exact Int.bmod_eq_of_le (by omega) (by omega)
theorem neg_p {ov un : Nat → Int32} {fa : Int32} {a c : Nat} (hfa : mm_z fa) (hv : fa = 0 → fv (rf ov un a)) : pR ov un fa c (some (fneg (rf ov un a))) (upd ov c (-(ov a))) (upd un c (un a)) fa := by
  refine ⟨hfa, fun k hk => ⟨pk_un hk, pk_un hk⟩, id, fun h0 => Or.inl ⟨h0, ?_⟩⟩
  have h1 := (hv h0).2.2.1
  unfold rf fneg at *
  dsimp only at h1 ⊢
  rw [pk_us, pk_us, neg32 h1]
set_option maxRecDepth 100000 in
theorem ct_N_negative_0 {d : Nat} {ov un : Nat → Int32} {dp fa : Int32} {cu : mm_cu} {st fi se th db : Nat → Int32} {cn : Int32} {F : mm_M} {n a : Nat} {Q : mm_R → mm_M → Prop} (hfa : mm_z fa) (hn : 308 ≤ n ∧ n ≤ 1332) (ha : arg ov un n fa 1 a) (hQ : ∀ (ov1 un1 : Nat → Int32) (n1 : Nat) (fa1 : Int32) (r : Nat), opR ov un n fa 4 (nneg 1 (rd ov un a)) ov1 un1 n1 fa1 r → Q (.inl (some (.int (nI r)))) (wC ov1 un1 (nI n1) dp fa1 cu st fi se th db cn F)) : mm_call mm_Tb (d + 2) 143 [.ref 1, .int 0, .int (nI a)] (wC ov un (nI n) dp fa cu st fi se th db cn F) Q := by
  have ha1 := ha.1
  refine mm_in mt_143 (Nat.le_of_ble_eq_true rfl) ?_
  show mm_W _ _ _ _ _ _ _ (0, [(0, .ref 1), (1, .int 0), (2, .int (nI a))], [], wC ov un (nI n) dp fa cu st fi se th db cn F, 0)
  refine mm_skip (mm_call_mono _ _) 1 (st' := (1, [(0, .ref 1), (1, .int 0), (2, .int (nI a))], [.ref 1], wC ov un (nI n) dp fa cu st fi se th db cn F, 0)) rfl ?_
  refine mm_inv (mm_call_mono _ _) (j := 138) (a := [.ref 1]) (M := wC ov un (nI n) dp fa cu st fi se th db cn F) (u := 0) rfl (by decide) (ct_N_reserve hn (fun ov1 un1 n1 fa1 r h0 => ?_))
  show mm_W _ _ _ _ _ _ _ (4, [(0, .ref 1), (1, .int 0), (2, .int (nI a))], [.int (nI r)], wC ov1 un1 (nI n1) dp fa1 cu st fi se th db cn F, 0)
  have hr := res_r h0 hn.1
  have k0 := pt_0 (fun j => some (fneg (rd ov un a j))) hfa hn.1 h0
  refine mm_skip (mm_call_mono _ _) 3 (st' := (8, [(4, .int 0), (3, .int (nI r)), (0, .ref 1), (1, .int 0), (2, .int (nI a))], [], wC ov1 un1 (nI n1) dp fa1 cu st fi se th db cn F, 0)) rfl ?_
  have hr := hr
  show mm_W _ _ _ _ _ _ _ (8, [(4, .int 0), (3, .int (nI r)), (0, .ref 1), (1, .int 0), (2, .int (nI a))], [], wC ov1 un1 (nI n1) dp fa1 cu st fi se th db cn F, 0)
  refine mm_skip (mm_call_mono _ _) 4 (st' := (13, [(4, .int 0), (3, .int (nI r)), (0, .ref 1), (1, .int 0), (2, .int (nI a))], [.int 1, .int 0], wC ov1 un1 (nI n1) dp fa1 cu st fi se th db cn F, 0)) rfl ?_
  refine mm_branch (mm_call_mono _ _) (c := (1 : Int32) ≤ 0) (s1 := (59, [(4, .int 0), (3, .int (nI r)), (0, .ref 1), (1, .int 0), (2, .int (nI a))], [], wC ov1 un1 (nI n1) dp fa1 cu st fi se th db cn F, 0)) (s2 := (16, [(4, .int 0), (3, .int (nI r)), (0, .ref 1), (1, .int 0), (2, .int (nI a))], [], wC ov1 un1 (nI n1) dp fa1 cu st fi se th db cn F, 0)) rfl (fun h => absurd h (by decide)) (fun _ => ?_)
  refine mm_skip (mm_call_mono _ _) 10 (st' := (32, [(4, .int 0), (3, .int (nI r)), (0, .ref 1), (1, .int 0), (2, .int (nI a))], [.int ((nI a) + 0), .ref 8, .int ((nI r) + 0), .ref 8], wC ov1 un1 (nI n1) dp fa1 cu st fi se th db cn F, 0)) rfl ?_
  rw [nI_p0 (a)]
  rw [nI_p0 (r)]
  show mm_W _ _ _ _ _ _ _ (32, [(4, .int 0), (3, .int (nI r)), (0, .ref 1), (1, .int 0), (2, .int (nI a))], [.int (nI a), .ref 8, .int (nI r), .ref 8], wC ov1 un1 (nI n1) dp fa1 cu st fi se th db cn F, 0)
  refine mm_need (mm_call_mono _ _) (c := vp_in (nI a) 1332) (s' := (33, [(4, .int 0), (3, .int (nI r)), (0, .ref 1), (1, .int 0), (2, .int (nI a))], [.int (ov1 (Int32.toNatClampNeg (nI a))), .int (nI r), .ref 8], wC ov1 un1 (nI n1) dp fa1 cu st fi se th db cn F, 0)) rfl (vp_in_nI (show a < 1332 by omega) (by decide)) ?_
  rw [nI_clamp (show a < 2 ^ 31 by omega)]
  show mm_W _ _ _ _ _ _ _ (33, [(4, .int 0), (3, .int (nI r)), (0, .ref 1), (1, .int 0), (2, .int (nI a))], [.int (ov1 a), .int (nI r), .ref 8], wC ov1 un1 (nI n1) dp fa1 cu st fi se th db cn F, 0)
  refine mm_skip (mm_call_mono _ _) 1 (st' := (34, [(4, .int 0), (3, .int (nI r)), (0, .ref 1), (1, .int 0), (2, .int (nI a))], [.int (-(ov1 a)), .int (nI r), .ref 8], wC ov1 un1 (nI n1) dp fa1 cu st fi se th db cn F, 0)) rfl ?_
  refine mm_need (mm_call_mono _ _) (c := vp_in (nI r) 1332) (s' := (35, [(4, .int 0), (3, .int (nI r)), (0, .ref 1), (1, .int 0), (2, .int (nI a))], [], wC (upd ov1 (Int32.toNatClampNeg (nI r)) (-(ov1 a))) un1 (nI n1) dp fa1 cu st fi se th db cn F, 0)) rfl (vp_in_nI (show r < 1332 by omega) (by decide)) ?_
  rw [nI_clamp (show r < 2 ^ 31 by omega)]
  show mm_W _ _ _ _ _ _ _ (35, [(4, .int 0), (3, .int (nI r)), (0, .ref 1), (1, .int 0), (2, .int (nI a))], [], wC (upd ov1 r (-(ov1 a))) un1 (nI n1) dp fa1 cu st fi se th db cn F, 0)
  refine mm_skip (mm_call_mono _ _) 10 (st' := (51, [(4, .int 0), (3, .int (nI r)), (0, .ref 1), (1, .int 0), (2, .int (nI a))], [.int ((nI a) + 0), .ref 9, .int ((nI r) + 0), .ref 9], wC (upd ov1 r (-(ov1 a))) un1 (nI n1) dp fa1 cu st fi se th db cn F, 0)) rfl ?_
  rw [nI_p0 (a)]
  rw [nI_p0 (r)]
  show mm_W _ _ _ _ _ _ _ (51, [(4, .int 0), (3, .int (nI r)), (0, .ref 1), (1, .int 0), (2, .int (nI a))], [.int (nI a), .ref 9, .int (nI r), .ref 9], wC (upd ov1 r (-(ov1 a))) un1 (nI n1) dp fa1 cu st fi se th db cn F, 0)
  refine mm_need (mm_call_mono _ _) (c := vp_in (nI a) 1332) (s' := (52, [(4, .int 0), (3, .int (nI r)), (0, .ref 1), (1, .int 0), (2, .int (nI a))], [.int (un1 (Int32.toNatClampNeg (nI a))), .int (nI r), .ref 9], wC (upd ov1 r (-(ov1 a))) un1 (nI n1) dp fa1 cu st fi se th db cn F, 0)) rfl (vp_in_nI (show a < 1332 by omega) (by decide)) ?_
  rw [nI_clamp (show a < 2 ^ 31 by omega)]
  show mm_W _ _ _ _ _ _ _ (52, [(4, .int 0), (3, .int (nI r)), (0, .ref 1), (1, .int 0), (2, .int (nI a))], [.int (un1 a), .int (nI r), .ref 9], wC (upd ov1 r (-(ov1 a))) un1 (nI n1) dp fa1 cu st fi se th db cn F, 0)
  refine mm_need (mm_call_mono _ _) (c := vp_in (nI r) 1332) (s' := (53, [(4, .int 0), (3, .int (nI r)), (0, .ref 1), (1, .int 0), (2, .int (nI a))], [], wC (upd ov1 r (-(ov1 a))) (upd un1 (Int32.toNatClampNeg (nI r)) (un1 a)) (nI n1) dp fa1 cu st fi se th db cn F, 0)) rfl (vp_in_nI (show r < 1332 by omega) (by decide)) ?_
  rw [nI_clamp (show r < 2 ^ 31 by omega)]
  show mm_W _ _ _ _ _ _ _ (53, [(4, .int 0), (3, .int (nI r)), (0, .ref 1), (1, .int 0), (2, .int (nI a))], [], wC (upd ov1 r (-(ov1 a))) (upd un1 r (un1 a)) (nI n1) dp fa1 cu st fi se th db cn F, 0)
  refine mm_skip (mm_call_mono _ _) 2 (st' := (8, [(4, .int 1), (3, .int (nI r)), (0, .ref 1), (1, .int 0), (2, .int (nI a))], [], wC (upd ov1 r (-(ov1 a))) (upd un1 r (un1 a)) (nI n1) dp fa1 cu st fi se th db cn F, 0)) rfl ?_
  have k1 := pt_s (i := 0) k0 (by omega) hr.1 (neg_p (ov := ov1) (un := un1) (fa := fa1) (a := a) (c := r) k0.1 (fun h => (arg_v ha k0 h (j := 0) (by omega)).1)) (fun h => by show some (fneg (rf ov1 un1 a)) = some (fneg (rd ov un a 0)); rw [← (arg_v ha k0 h (j := 0) (by omega)).2] <;> rfl)
  have k1 : ptI ov un n fa r (fun j => some (fneg (rd ov un a j))) 1 (upd ov1 r (-(ov1 a))) (upd un1 r (un1 a)) fa1 := k1
  generalize upd ov1 r (-(ov1 a)) = ov2 at k1 ⊢
  generalize upd un1 r (un1 a) = un2 at k1 ⊢
  show mm_W _ _ _ _ _ _ _ (8, [(4, .int 1), (3, .int (nI r)), (0, .ref 1), (1, .int 0), (2, .int (nI a))], [], wC ov2 un2 (nI n1) dp fa1 cu st fi se th db cn F, 0)
  refine mm_skip (mm_call_mono _ _) 4 (st' := (13, [(4, .int 1), (3, .int (nI r)), (0, .ref 1), (1, .int 0), (2, .int (nI a))], [.int 1, .int 1], wC ov2 un2 (nI n1) dp fa1 cu st fi se th db cn F, 0)) rfl ?_
  refine mm_branch (mm_call_mono _ _) (c := (1 : Int32) ≤ 1) (s1 := (59, [(4, .int 1), (3, .int (nI r)), (0, .ref 1), (1, .int 0), (2, .int (nI a))], [], wC ov2 un2 (nI n1) dp fa1 cu st fi se th db cn F, 0)) (s2 := (16, [(4, .int 1), (3, .int (nI r)), (0, .ref 1), (1, .int 0), (2, .int (nI a))], [], wC ov2 un2 (nI n1) dp fa1 cu st fi se th db cn F, 0)) rfl (fun _ => ?_) (fun h => absurd (by decide) h)
  refine mm_skip (mm_call_mono _ _) 1 (st' := (60, [(4, .int 1), (3, .int (nI r)), (0, .ref 1), (1, .int 0), (2, .int (nI a))], [.int (nI r)], wC ov2 un2 (nI n1) dp fa1 cu st fi se th db cn F, 0)) rfl ?_
  exact mm_ret (mm_call_mono _ _) (c := True) (r := .inl (some (.int (nI r)))) (M := wC ov2 un2 (nI n1) dp fa1 cu st fi se th db cn F) (u := 0) rfl trivial (by decide) (hQ _ _ _ _ _ (by have h9 := op_of (by first | exact Or.inl rfl | exact Or.inr (Or.inl rfl) | exact Or.inr (Or.inr rfl)) ⟨hr.1, hr.2.1⟩ (fun h0 j hj v e => by cases e; exact fneg_v ((ha.2 h0).2 j hj)) k1; rw [← hr.2.2] at h9; exact h9))

set_option maxRecDepth 100000 in
theorem ct_N_negative_1 {d : Nat} {ov un : Nat → Int32} {dp fa : Int32} {cu : mm_cu} {st fi se th db : Nat → Int32} {cn : Int32} {F : mm_M} {n a : Nat} {Q : mm_R → mm_M → Prop} (hfa : mm_z fa) (hn : 308 ≤ n ∧ n ≤ 1332) (ha : arg ov un n fa 2 a) (hQ : ∀ (ov1 un1 : Nat → Int32) (n1 : Nat) (fa1 : Int32) (r : Nat), opR ov un n fa 4 (nneg 2 (rd ov un a)) ov1 un1 n1 fa1 r → Q (.inl (some (.int (nI r)))) (wC ov1 un1 (nI n1) dp fa1 cu st fi se th db cn F)) : mm_call mm_Tb (d + 2) 143 [.ref 1, .int 1, .int (nI a)] (wC ov un (nI n) dp fa cu st fi se th db cn F) Q := by
  have ha1 := ha.1
  refine mm_in mt_143 (Nat.le_of_ble_eq_true rfl) ?_
  show mm_W _ _ _ _ _ _ _ (0, [(0, .ref 1), (1, .int 1), (2, .int (nI a))], [], wC ov un (nI n) dp fa cu st fi se th db cn F, 0)
  refine mm_skip (mm_call_mono _ _) 1 (st' := (1, [(0, .ref 1), (1, .int 1), (2, .int (nI a))], [.ref 1], wC ov un (nI n) dp fa cu st fi se th db cn F, 0)) rfl ?_
  refine mm_inv (mm_call_mono _ _) (j := 138) (a := [.ref 1]) (M := wC ov un (nI n) dp fa cu st fi se th db cn F) (u := 0) rfl (by decide) (ct_N_reserve hn (fun ov1 un1 n1 fa1 r h0 => ?_))
  show mm_W _ _ _ _ _ _ _ (4, [(0, .ref 1), (1, .int 1), (2, .int (nI a))], [.int (nI r)], wC ov1 un1 (nI n1) dp fa1 cu st fi se th db cn F, 0)
  have hr := res_r h0 hn.1
  have k0 := pt_0 (fun j => some (fneg (rd ov un a j))) hfa hn.1 h0
  refine mm_skip (mm_call_mono _ _) 3 (st' := (8, [(4, .int 0), (3, .int (nI r)), (0, .ref 1), (1, .int 1), (2, .int (nI a))], [], wC ov1 un1 (nI n1) dp fa1 cu st fi se th db cn F, 0)) rfl ?_
  have hr := hr
  show mm_W _ _ _ _ _ _ _ (8, [(4, .int 0), (3, .int (nI r)), (0, .ref 1), (1, .int 1), (2, .int (nI a))], [], wC ov1 un1 (nI n1) dp fa1 cu st fi se th db cn F, 0)
  refine mm_skip (mm_call_mono _ _) 4 (st' := (13, [(4, .int 0), (3, .int (nI r)), (0, .ref 1), (1, .int 1), (2, .int (nI a))], [.int 2, .int 0], wC ov1 un1 (nI n1) dp fa1 cu st fi se th db cn F, 0)) rfl ?_
  refine mm_branch (mm_call_mono _ _) (c := (2 : Int32) ≤ 0) (s1 := (59, [(4, .int 0), (3, .int (nI r)), (0, .ref 1), (1, .int 1), (2, .int (nI a))], [], wC ov1 un1 (nI n1) dp fa1 cu st fi se th db cn F, 0)) (s2 := (16, [(4, .int 0), (3, .int (nI r)), (0, .ref 1), (1, .int 1), (2, .int (nI a))], [], wC ov1 un1 (nI n1) dp fa1 cu st fi se th db cn F, 0)) rfl (fun h => absurd h (by decide)) (fun _ => ?_)
  refine mm_skip (mm_call_mono _ _) 10 (st' := (32, [(4, .int 0), (3, .int (nI r)), (0, .ref 1), (1, .int 1), (2, .int (nI a))], [.int ((nI a) + 0), .ref 8, .int ((nI r) + 0), .ref 8], wC ov1 un1 (nI n1) dp fa1 cu st fi se th db cn F, 0)) rfl ?_
  rw [nI_p0 (a)]
  rw [nI_p0 (r)]
  show mm_W _ _ _ _ _ _ _ (32, [(4, .int 0), (3, .int (nI r)), (0, .ref 1), (1, .int 1), (2, .int (nI a))], [.int (nI a), .ref 8, .int (nI r), .ref 8], wC ov1 un1 (nI n1) dp fa1 cu st fi se th db cn F, 0)
  refine mm_need (mm_call_mono _ _) (c := vp_in (nI a) 1332) (s' := (33, [(4, .int 0), (3, .int (nI r)), (0, .ref 1), (1, .int 1), (2, .int (nI a))], [.int (ov1 (Int32.toNatClampNeg (nI a))), .int (nI r), .ref 8], wC ov1 un1 (nI n1) dp fa1 cu st fi se th db cn F, 0)) rfl (vp_in_nI (show a < 1332 by omega) (by decide)) ?_
  rw [nI_clamp (show a < 2 ^ 31 by omega)]
  show mm_W _ _ _ _ _ _ _ (33, [(4, .int 0), (3, .int (nI r)), (0, .ref 1), (1, .int 1), (2, .int (nI a))], [.int (ov1 a), .int (nI r), .ref 8], wC ov1 un1 (nI n1) dp fa1 cu st fi se th db cn F, 0)
  refine mm_skip (mm_call_mono _ _) 1 (st' := (34, [(4, .int 0), (3, .int (nI r)), (0, .ref 1), (1, .int 1), (2, .int (nI a))], [.int (-(ov1 a)), .int (nI r), .ref 8], wC ov1 un1 (nI n1) dp fa1 cu st fi se th db cn F, 0)) rfl ?_
  refine mm_need (mm_call_mono _ _) (c := vp_in (nI r) 1332) (s' := (35, [(4, .int 0), (3, .int (nI r)), (0, .ref 1), (1, .int 1), (2, .int (nI a))], [], wC (upd ov1 (Int32.toNatClampNeg (nI r)) (-(ov1 a))) un1 (nI n1) dp fa1 cu st fi se th db cn F, 0)) rfl (vp_in_nI (show r < 1332 by omega) (by decide)) ?_
  rw [nI_clamp (show r < 2 ^ 31 by omega)]
  show mm_W _ _ _ _ _ _ _ (35, [(4, .int 0), (3, .int (nI r)), (0, .ref 1), (1, .int 1), (2, .int (nI a))], [], wC (upd ov1 r (-(ov1 a))) un1 (nI n1) dp fa1 cu st fi se th db cn F, 0)
  refine mm_skip (mm_call_mono _ _) 10 (st' := (51, [(4, .int 0), (3, .int (nI r)), (0, .ref 1), (1, .int 1), (2, .int (nI a))], [.int ((nI a) + 0), .ref 9, .int ((nI r) + 0), .ref 9], wC (upd ov1 r (-(ov1 a))) un1 (nI n1) dp fa1 cu st fi se th db cn F, 0)) rfl ?_
  rw [nI_p0 (a)]
  rw [nI_p0 (r)]
  show mm_W _ _ _ _ _ _ _ (51, [(4, .int 0), (3, .int (nI r)), (0, .ref 1), (1, .int 1), (2, .int (nI a))], [.int (nI a), .ref 9, .int (nI r), .ref 9], wC (upd ov1 r (-(ov1 a))) un1 (nI n1) dp fa1 cu st fi se th db cn F, 0)
  refine mm_need (mm_call_mono _ _) (c := vp_in (nI a) 1332) (s' := (52, [(4, .int 0), (3, .int (nI r)), (0, .ref 1), (1, .int 1), (2, .int (nI a))], [.int (un1 (Int32.toNatClampNeg (nI a))), .int (nI r), .ref 9], wC (upd ov1 r (-(ov1 a))) un1 (nI n1) dp fa1 cu st fi se th db cn F, 0)) rfl (vp_in_nI (show a < 1332 by omega) (by decide)) ?_
  rw [nI_clamp (show a < 2 ^ 31 by omega)]
  show mm_W _ _ _ _ _ _ _ (52, [(4, .int 0), (3, .int (nI r)), (0, .ref 1), (1, .int 1), (2, .int (nI a))], [.int (un1 a), .int (nI r), .ref 9], wC (upd ov1 r (-(ov1 a))) un1 (nI n1) dp fa1 cu st fi se th db cn F, 0)
  refine mm_need (mm_call_mono _ _) (c := vp_in (nI r) 1332) (s' := (53, [(4, .int 0), (3, .int (nI r)), (0, .ref 1), (1, .int 1), (2, .int (nI a))], [], wC (upd ov1 r (-(ov1 a))) (upd un1 (Int32.toNatClampNeg (nI r)) (un1 a)) (nI n1) dp fa1 cu st fi se th db cn F, 0)) rfl (vp_in_nI (show r < 1332 by omega) (by decide)) ?_
  rw [nI_clamp (show r < 2 ^ 31 by omega)]
  show mm_W _ _ _ _ _ _ _ (53, [(4, .int 0), (3, .int (nI r)), (0, .ref 1), (1, .int 1), (2, .int (nI a))], [], wC (upd ov1 r (-(ov1 a))) (upd un1 r (un1 a)) (nI n1) dp fa1 cu st fi se th db cn F, 0)
  refine mm_skip (mm_call_mono _ _) 2 (st' := (8, [(4, .int 1), (3, .int (nI r)), (0, .ref 1), (1, .int 1), (2, .int (nI a))], [], wC (upd ov1 r (-(ov1 a))) (upd un1 r (un1 a)) (nI n1) dp fa1 cu st fi se th db cn F, 0)) rfl ?_
  have k1 := pt_s (i := 0) k0 (by omega) hr.1 (neg_p (ov := ov1) (un := un1) (fa := fa1) (a := a) (c := r) k0.1 (fun h => (arg_v ha k0 h (j := 0) (by omega)).1)) (fun h => by show some (fneg (rf ov1 un1 a)) = some (fneg (rd ov un a 0)); rw [← (arg_v ha k0 h (j := 0) (by omega)).2] <;> rfl)
  have k1 : ptI ov un n fa r (fun j => some (fneg (rd ov un a j))) 1 (upd ov1 r (-(ov1 a))) (upd un1 r (un1 a)) fa1 := k1
  generalize upd ov1 r (-(ov1 a)) = ov2 at k1 ⊢
  generalize upd un1 r (un1 a) = un2 at k1 ⊢
  show mm_W _ _ _ _ _ _ _ (8, [(4, .int 1), (3, .int (nI r)), (0, .ref 1), (1, .int 1), (2, .int (nI a))], [], wC ov2 un2 (nI n1) dp fa1 cu st fi se th db cn F, 0)
  refine mm_skip (mm_call_mono _ _) 4 (st' := (13, [(4, .int 1), (3, .int (nI r)), (0, .ref 1), (1, .int 1), (2, .int (nI a))], [.int 2, .int 1], wC ov2 un2 (nI n1) dp fa1 cu st fi se th db cn F, 0)) rfl ?_
  refine mm_branch (mm_call_mono _ _) (c := (2 : Int32) ≤ 1) (s1 := (59, [(4, .int 1), (3, .int (nI r)), (0, .ref 1), (1, .int 1), (2, .int (nI a))], [], wC ov2 un2 (nI n1) dp fa1 cu st fi se th db cn F, 0)) (s2 := (16, [(4, .int 1), (3, .int (nI r)), (0, .ref 1), (1, .int 1), (2, .int (nI a))], [], wC ov2 un2 (nI n1) dp fa1 cu st fi se th db cn F, 0)) rfl (fun h => absurd h (by decide)) (fun _ => ?_)
  refine mm_skip (mm_call_mono _ _) 10 (st' := (32, [(4, .int 1), (3, .int (nI r)), (0, .ref 1), (1, .int 1), (2, .int (nI a))], [.int ((nI a) + 1), .ref 8, .int ((nI r) + 1), .ref 8], wC ov2 un2 (nI n1) dp fa1 cu st fi se th db cn F, 0)) rfl ?_
  rw [nI_p1 (a)]
  rw [nI_p1 (r)]
  show mm_W _ _ _ _ _ _ _ (32, [(4, .int 1), (3, .int (nI r)), (0, .ref 1), (1, .int 1), (2, .int (nI a))], [.int (nI (a + 1)), .ref 8, .int (nI (r + 1)), .ref 8], wC ov2 un2 (nI n1) dp fa1 cu st fi se th db cn F, 0)
  refine mm_need (mm_call_mono _ _) (c := vp_in (nI (a + 1)) 1332) (s' := (33, [(4, .int 1), (3, .int (nI r)), (0, .ref 1), (1, .int 1), (2, .int (nI a))], [.int (ov2 (Int32.toNatClampNeg (nI (a + 1)))), .int (nI (r + 1)), .ref 8], wC ov2 un2 (nI n1) dp fa1 cu st fi se th db cn F, 0)) rfl (vp_in_nI (show (a + 1) < 1332 by omega) (by decide)) ?_
  rw [nI_clamp (show (a + 1) < 2 ^ 31 by omega)]
  show mm_W _ _ _ _ _ _ _ (33, [(4, .int 1), (3, .int (nI r)), (0, .ref 1), (1, .int 1), (2, .int (nI a))], [.int (ov2 (a + 1)), .int (nI (r + 1)), .ref 8], wC ov2 un2 (nI n1) dp fa1 cu st fi se th db cn F, 0)
  refine mm_skip (mm_call_mono _ _) 1 (st' := (34, [(4, .int 1), (3, .int (nI r)), (0, .ref 1), (1, .int 1), (2, .int (nI a))], [.int (-(ov2 (a + 1))), .int (nI (r + 1)), .ref 8], wC ov2 un2 (nI n1) dp fa1 cu st fi se th db cn F, 0)) rfl ?_
  refine mm_need (mm_call_mono _ _) (c := vp_in (nI (r + 1)) 1332) (s' := (35, [(4, .int 1), (3, .int (nI r)), (0, .ref 1), (1, .int 1), (2, .int (nI a))], [], wC (upd ov2 (Int32.toNatClampNeg (nI (r + 1))) (-(ov2 (a + 1)))) un2 (nI n1) dp fa1 cu st fi se th db cn F, 0)) rfl (vp_in_nI (show (r + 1) < 1332 by omega) (by decide)) ?_
  rw [nI_clamp (show (r + 1) < 2 ^ 31 by omega)]
  show mm_W _ _ _ _ _ _ _ (35, [(4, .int 1), (3, .int (nI r)), (0, .ref 1), (1, .int 1), (2, .int (nI a))], [], wC (upd ov2 (r + 1) (-(ov2 (a + 1)))) un2 (nI n1) dp fa1 cu st fi se th db cn F, 0)
  refine mm_skip (mm_call_mono _ _) 10 (st' := (51, [(4, .int 1), (3, .int (nI r)), (0, .ref 1), (1, .int 1), (2, .int (nI a))], [.int ((nI a) + 1), .ref 9, .int ((nI r) + 1), .ref 9], wC (upd ov2 (r + 1) (-(ov2 (a + 1)))) un2 (nI n1) dp fa1 cu st fi se th db cn F, 0)) rfl ?_
  rw [nI_p1 (a)]
  rw [nI_p1 (r)]
  show mm_W _ _ _ _ _ _ _ (51, [(4, .int 1), (3, .int (nI r)), (0, .ref 1), (1, .int 1), (2, .int (nI a))], [.int (nI (a + 1)), .ref 9, .int (nI (r + 1)), .ref 9], wC (upd ov2 (r + 1) (-(ov2 (a + 1)))) un2 (nI n1) dp fa1 cu st fi se th db cn F, 0)
  refine mm_need (mm_call_mono _ _) (c := vp_in (nI (a + 1)) 1332) (s' := (52, [(4, .int 1), (3, .int (nI r)), (0, .ref 1), (1, .int 1), (2, .int (nI a))], [.int (un2 (Int32.toNatClampNeg (nI (a + 1)))), .int (nI (r + 1)), .ref 9], wC (upd ov2 (r + 1) (-(ov2 (a + 1)))) un2 (nI n1) dp fa1 cu st fi se th db cn F, 0)) rfl (vp_in_nI (show (a + 1) < 1332 by omega) (by decide)) ?_
  rw [nI_clamp (show (a + 1) < 2 ^ 31 by omega)]
  show mm_W _ _ _ _ _ _ _ (52, [(4, .int 1), (3, .int (nI r)), (0, .ref 1), (1, .int 1), (2, .int (nI a))], [.int (un2 (a + 1)), .int (nI (r + 1)), .ref 9], wC (upd ov2 (r + 1) (-(ov2 (a + 1)))) un2 (nI n1) dp fa1 cu st fi se th db cn F, 0)
  refine mm_need (mm_call_mono _ _) (c := vp_in (nI (r + 1)) 1332) (s' := (53, [(4, .int 1), (3, .int (nI r)), (0, .ref 1), (1, .int 1), (2, .int (nI a))], [], wC (upd ov2 (r + 1) (-(ov2 (a + 1)))) (upd un2 (Int32.toNatClampNeg (nI (r + 1))) (un2 (a + 1))) (nI n1) dp fa1 cu st fi se th db cn F, 0)) rfl (vp_in_nI (show (r + 1) < 1332 by omega) (by decide)) ?_
  rw [nI_clamp (show (r + 1) < 2 ^ 31 by omega)]
  show mm_W _ _ _ _ _ _ _ (53, [(4, .int 1), (3, .int (nI r)), (0, .ref 1), (1, .int 1), (2, .int (nI a))], [], wC (upd ov2 (r + 1) (-(ov2 (a + 1)))) (upd un2 (r + 1) (un2 (a + 1))) (nI n1) dp fa1 cu st fi se th db cn F, 0)
  refine mm_skip (mm_call_mono _ _) 2 (st' := (8, [(4, .int 2), (3, .int (nI r)), (0, .ref 1), (1, .int 1), (2, .int (nI a))], [], wC (upd ov2 (r + 1) (-(ov2 (a + 1)))) (upd un2 (r + 1) (un2 (a + 1))) (nI n1) dp fa1 cu st fi se th db cn F, 0)) rfl ?_
  have k2 := pt_s (i := 1) k1 (by omega) hr.1 (neg_p (ov := ov2) (un := un2) (fa := fa1) (a := (a + 1)) (c := (r + 1)) k1.1 (fun h => (arg_v ha k1 h (j := 1) (by omega)).1)) (fun h => by show some (fneg (rf ov2 un2 (a + 1))) = some (fneg (rd ov un a 1)); rw [← (arg_v ha k1 h (j := 1) (by omega)).2] <;> rfl)
  have k2 : ptI ov un n fa r (fun j => some (fneg (rd ov un a j))) 2 (upd ov2 (r + 1) (-(ov2 (a + 1)))) (upd un2 (r + 1) (un2 (a + 1))) fa1 := k2
  generalize upd ov2 (r + 1) (-(ov2 (a + 1))) = ov3 at k2 ⊢
  generalize upd un2 (r + 1) (un2 (a + 1)) = un3 at k2 ⊢
  show mm_W _ _ _ _ _ _ _ (8, [(4, .int 2), (3, .int (nI r)), (0, .ref 1), (1, .int 1), (2, .int (nI a))], [], wC ov3 un3 (nI n1) dp fa1 cu st fi se th db cn F, 0)
  refine mm_skip (mm_call_mono _ _) 4 (st' := (13, [(4, .int 2), (3, .int (nI r)), (0, .ref 1), (1, .int 1), (2, .int (nI a))], [.int 2, .int 2], wC ov3 un3 (nI n1) dp fa1 cu st fi se th db cn F, 0)) rfl ?_
  refine mm_branch (mm_call_mono _ _) (c := (2 : Int32) ≤ 2) (s1 := (59, [(4, .int 2), (3, .int (nI r)), (0, .ref 1), (1, .int 1), (2, .int (nI a))], [], wC ov3 un3 (nI n1) dp fa1 cu st fi se th db cn F, 0)) (s2 := (16, [(4, .int 2), (3, .int (nI r)), (0, .ref 1), (1, .int 1), (2, .int (nI a))], [], wC ov3 un3 (nI n1) dp fa1 cu st fi se th db cn F, 0)) rfl (fun _ => ?_) (fun h => absurd (by decide) h)
  refine mm_skip (mm_call_mono _ _) 1 (st' := (60, [(4, .int 2), (3, .int (nI r)), (0, .ref 1), (1, .int 1), (2, .int (nI a))], [.int (nI r)], wC ov3 un3 (nI n1) dp fa1 cu st fi se th db cn F, 0)) rfl ?_
  exact mm_ret (mm_call_mono _ _) (c := True) (r := .inl (some (.int (nI r)))) (M := wC ov3 un3 (nI n1) dp fa1 cu st fi se th db cn F) (u := 0) rfl trivial (by decide) (hQ _ _ _ _ _ (by have h9 := op_of (by first | exact Or.inl rfl | exact Or.inr (Or.inl rfl) | exact Or.inr (Or.inr rfl)) ⟨hr.1, hr.2.1⟩ (fun h0 j hj v e => by cases e; exact fneg_v ((ha.2 h0).2 j hj)) k2; rw [← hr.2.2] at h9; exact h9))

set_option maxRecDepth 100000 in
theorem ct_N_negative_2 {d : Nat} {ov un : Nat → Int32} {dp fa : Int32} {cu : mm_cu} {st fi se th db : Nat → Int32} {cn : Int32} {F : mm_M} {n a : Nat} {Q : mm_R → mm_M → Prop} (hfa : mm_z fa) (hn : 308 ≤ n ∧ n ≤ 1332) (ha : arg ov un n fa 4 a) (hQ : ∀ (ov1 un1 : Nat → Int32) (n1 : Nat) (fa1 : Int32) (r : Nat), opR ov un n fa 4 (nneg 4 (rd ov un a)) ov1 un1 n1 fa1 r → Q (.inl (some (.int (nI r)))) (wC ov1 un1 (nI n1) dp fa1 cu st fi se th db cn F)) : mm_call mm_Tb (d + 2) 143 [.ref 1, .int 2, .int (nI a)] (wC ov un (nI n) dp fa cu st fi se th db cn F) Q := by
  have ha1 := ha.1
  refine mm_in mt_143 (Nat.le_of_ble_eq_true rfl) ?_
  show mm_W _ _ _ _ _ _ _ (0, [(0, .ref 1), (1, .int 2), (2, .int (nI a))], [], wC ov un (nI n) dp fa cu st fi se th db cn F, 0)
  refine mm_skip (mm_call_mono _ _) 1 (st' := (1, [(0, .ref 1), (1, .int 2), (2, .int (nI a))], [.ref 1], wC ov un (nI n) dp fa cu st fi se th db cn F, 0)) rfl ?_
  refine mm_inv (mm_call_mono _ _) (j := 138) (a := [.ref 1]) (M := wC ov un (nI n) dp fa cu st fi se th db cn F) (u := 0) rfl (by decide) (ct_N_reserve hn (fun ov1 un1 n1 fa1 r h0 => ?_))
  show mm_W _ _ _ _ _ _ _ (4, [(0, .ref 1), (1, .int 2), (2, .int (nI a))], [.int (nI r)], wC ov1 un1 (nI n1) dp fa1 cu st fi se th db cn F, 0)
  have hr := res_r h0 hn.1
  have k0 := pt_0 (fun j => some (fneg (rd ov un a j))) hfa hn.1 h0
  refine mm_skip (mm_call_mono _ _) 3 (st' := (8, [(4, .int 0), (3, .int (nI r)), (0, .ref 1), (1, .int 2), (2, .int (nI a))], [], wC ov1 un1 (nI n1) dp fa1 cu st fi se th db cn F, 0)) rfl ?_
  have hr := hr
  show mm_W _ _ _ _ _ _ _ (8, [(4, .int 0), (3, .int (nI r)), (0, .ref 1), (1, .int 2), (2, .int (nI a))], [], wC ov1 un1 (nI n1) dp fa1 cu st fi se th db cn F, 0)
  refine mm_skip (mm_call_mono _ _) 4 (st' := (13, [(4, .int 0), (3, .int (nI r)), (0, .ref 1), (1, .int 2), (2, .int (nI a))], [.int 4, .int 0], wC ov1 un1 (nI n1) dp fa1 cu st fi se th db cn F, 0)) rfl ?_
  refine mm_branch (mm_call_mono _ _) (c := (4 : Int32) ≤ 0) (s1 := (59, [(4, .int 0), (3, .int (nI r)), (0, .ref 1), (1, .int 2), (2, .int (nI a))], [], wC ov1 un1 (nI n1) dp fa1 cu st fi se th db cn F, 0)) (s2 := (16, [(4, .int 0), (3, .int (nI r)), (0, .ref 1), (1, .int 2), (2, .int (nI a))], [], wC ov1 un1 (nI n1) dp fa1 cu st fi se th db cn F, 0)) rfl (fun h => absurd h (by decide)) (fun _ => ?_)
  refine mm_skip (mm_call_mono _ _) 10 (st' := (32, [(4, .int 0), (3, .int (nI r)), (0, .ref 1), (1, .int 2), (2, .int (nI a))], [.int ((nI a) + 0), .ref 8, .int ((nI r) + 0), .ref 8], wC ov1 un1 (nI n1) dp fa1 cu st fi se th db cn F, 0)) rfl ?_
  rw [nI_p0 (a)]
  rw [nI_p0 (r)]
  show mm_W _ _ _ _ _ _ _ (32, [(4, .int 0), (3, .int (nI r)), (0, .ref 1), (1, .int 2), (2, .int (nI a))], [.int (nI a), .ref 8, .int (nI r), .ref 8], wC ov1 un1 (nI n1) dp fa1 cu st fi se th db cn F, 0)
  refine mm_need (mm_call_mono _ _) (c := vp_in (nI a) 1332) (s' := (33, [(4, .int 0), (3, .int (nI r)), (0, .ref 1), (1, .int 2), (2, .int (nI a))], [.int (ov1 (Int32.toNatClampNeg (nI a))), .int (nI r), .ref 8], wC ov1 un1 (nI n1) dp fa1 cu st fi se th db cn F, 0)) rfl (vp_in_nI (show a < 1332 by omega) (by decide)) ?_
  rw [nI_clamp (show a < 2 ^ 31 by omega)]
  show mm_W _ _ _ _ _ _ _ (33, [(4, .int 0), (3, .int (nI r)), (0, .ref 1), (1, .int 2), (2, .int (nI a))], [.int (ov1 a), .int (nI r), .ref 8], wC ov1 un1 (nI n1) dp fa1 cu st fi se th db cn F, 0)
  refine mm_skip (mm_call_mono _ _) 1 (st' := (34, [(4, .int 0), (3, .int (nI r)), (0, .ref 1), (1, .int 2), (2, .int (nI a))], [.int (-(ov1 a)), .int (nI r), .ref 8], wC ov1 un1 (nI n1) dp fa1 cu st fi se th db cn F, 0)) rfl ?_
  refine mm_need (mm_call_mono _ _) (c := vp_in (nI r) 1332) (s' := (35, [(4, .int 0), (3, .int (nI r)), (0, .ref 1), (1, .int 2), (2, .int (nI a))], [], wC (upd ov1 (Int32.toNatClampNeg (nI r)) (-(ov1 a))) un1 (nI n1) dp fa1 cu st fi se th db cn F, 0)) rfl (vp_in_nI (show r < 1332 by omega) (by decide)) ?_
  rw [nI_clamp (show r < 2 ^ 31 by omega)]
  show mm_W _ _ _ _ _ _ _ (35, [(4, .int 0), (3, .int (nI r)), (0, .ref 1), (1, .int 2), (2, .int (nI a))], [], wC (upd ov1 r (-(ov1 a))) un1 (nI n1) dp fa1 cu st fi se th db cn F, 0)
  refine mm_skip (mm_call_mono _ _) 10 (st' := (51, [(4, .int 0), (3, .int (nI r)), (0, .ref 1), (1, .int 2), (2, .int (nI a))], [.int ((nI a) + 0), .ref 9, .int ((nI r) + 0), .ref 9], wC (upd ov1 r (-(ov1 a))) un1 (nI n1) dp fa1 cu st fi se th db cn F, 0)) rfl ?_
  rw [nI_p0 (a)]
  rw [nI_p0 (r)]
  show mm_W _ _ _ _ _ _ _ (51, [(4, .int 0), (3, .int (nI r)), (0, .ref 1), (1, .int 2), (2, .int (nI a))], [.int (nI a), .ref 9, .int (nI r), .ref 9], wC (upd ov1 r (-(ov1 a))) un1 (nI n1) dp fa1 cu st fi se th db cn F, 0)
  refine mm_need (mm_call_mono _ _) (c := vp_in (nI a) 1332) (s' := (52, [(4, .int 0), (3, .int (nI r)), (0, .ref 1), (1, .int 2), (2, .int (nI a))], [.int (un1 (Int32.toNatClampNeg (nI a))), .int (nI r), .ref 9], wC (upd ov1 r (-(ov1 a))) un1 (nI n1) dp fa1 cu st fi se th db cn F, 0)) rfl (vp_in_nI (show a < 1332 by omega) (by decide)) ?_
  rw [nI_clamp (show a < 2 ^ 31 by omega)]
  show mm_W _ _ _ _ _ _ _ (52, [(4, .int 0), (3, .int (nI r)), (0, .ref 1), (1, .int 2), (2, .int (nI a))], [.int (un1 a), .int (nI r), .ref 9], wC (upd ov1 r (-(ov1 a))) un1 (nI n1) dp fa1 cu st fi se th db cn F, 0)
  refine mm_need (mm_call_mono _ _) (c := vp_in (nI r) 1332) (s' := (53, [(4, .int 0), (3, .int (nI r)), (0, .ref 1), (1, .int 2), (2, .int (nI a))], [], wC (upd ov1 r (-(ov1 a))) (upd un1 (Int32.toNatClampNeg (nI r)) (un1 a)) (nI n1) dp fa1 cu st fi se th db cn F, 0)) rfl (vp_in_nI (show r < 1332 by omega) (by decide)) ?_
  rw [nI_clamp (show r < 2 ^ 31 by omega)]
  show mm_W _ _ _ _ _ _ _ (53, [(4, .int 0), (3, .int (nI r)), (0, .ref 1), (1, .int 2), (2, .int (nI a))], [], wC (upd ov1 r (-(ov1 a))) (upd un1 r (un1 a)) (nI n1) dp fa1 cu st fi se th db cn F, 0)
  refine mm_skip (mm_call_mono _ _) 2 (st' := (8, [(4, .int 1), (3, .int (nI r)), (0, .ref 1), (1, .int 2), (2, .int (nI a))], [], wC (upd ov1 r (-(ov1 a))) (upd un1 r (un1 a)) (nI n1) dp fa1 cu st fi se th db cn F, 0)) rfl ?_
  have k1 := pt_s (i := 0) k0 (by omega) hr.1 (neg_p (ov := ov1) (un := un1) (fa := fa1) (a := a) (c := r) k0.1 (fun h => (arg_v ha k0 h (j := 0) (by omega)).1)) (fun h => by show some (fneg (rf ov1 un1 a)) = some (fneg (rd ov un a 0)); rw [← (arg_v ha k0 h (j := 0) (by omega)).2] <;> rfl)
  have k1 : ptI ov un n fa r (fun j => some (fneg (rd ov un a j))) 1 (upd ov1 r (-(ov1 a))) (upd un1 r (un1 a)) fa1 := k1
  generalize upd ov1 r (-(ov1 a)) = ov2 at k1 ⊢
  generalize upd un1 r (un1 a) = un2 at k1 ⊢
  show mm_W _ _ _ _ _ _ _ (8, [(4, .int 1), (3, .int (nI r)), (0, .ref 1), (1, .int 2), (2, .int (nI a))], [], wC ov2 un2 (nI n1) dp fa1 cu st fi se th db cn F, 0)
  refine mm_skip (mm_call_mono _ _) 4 (st' := (13, [(4, .int 1), (3, .int (nI r)), (0, .ref 1), (1, .int 2), (2, .int (nI a))], [.int 4, .int 1], wC ov2 un2 (nI n1) dp fa1 cu st fi se th db cn F, 0)) rfl ?_
  refine mm_branch (mm_call_mono _ _) (c := (4 : Int32) ≤ 1) (s1 := (59, [(4, .int 1), (3, .int (nI r)), (0, .ref 1), (1, .int 2), (2, .int (nI a))], [], wC ov2 un2 (nI n1) dp fa1 cu st fi se th db cn F, 0)) (s2 := (16, [(4, .int 1), (3, .int (nI r)), (0, .ref 1), (1, .int 2), (2, .int (nI a))], [], wC ov2 un2 (nI n1) dp fa1 cu st fi se th db cn F, 0)) rfl (fun h => absurd h (by decide)) (fun _ => ?_)
  refine mm_skip (mm_call_mono _ _) 10 (st' := (32, [(4, .int 1), (3, .int (nI r)), (0, .ref 1), (1, .int 2), (2, .int (nI a))], [.int ((nI a) + 1), .ref 8, .int ((nI r) + 1), .ref 8], wC ov2 un2 (nI n1) dp fa1 cu st fi se th db cn F, 0)) rfl ?_
  rw [nI_p1 (a)]
  rw [nI_p1 (r)]
  show mm_W _ _ _ _ _ _ _ (32, [(4, .int 1), (3, .int (nI r)), (0, .ref 1), (1, .int 2), (2, .int (nI a))], [.int (nI (a + 1)), .ref 8, .int (nI (r + 1)), .ref 8], wC ov2 un2 (nI n1) dp fa1 cu st fi se th db cn F, 0)
  refine mm_need (mm_call_mono _ _) (c := vp_in (nI (a + 1)) 1332) (s' := (33, [(4, .int 1), (3, .int (nI r)), (0, .ref 1), (1, .int 2), (2, .int (nI a))], [.int (ov2 (Int32.toNatClampNeg (nI (a + 1)))), .int (nI (r + 1)), .ref 8], wC ov2 un2 (nI n1) dp fa1 cu st fi se th db cn F, 0)) rfl (vp_in_nI (show (a + 1) < 1332 by omega) (by decide)) ?_
  rw [nI_clamp (show (a + 1) < 2 ^ 31 by omega)]
  show mm_W _ _ _ _ _ _ _ (33, [(4, .int 1), (3, .int (nI r)), (0, .ref 1), (1, .int 2), (2, .int (nI a))], [.int (ov2 (a + 1)), .int (nI (r + 1)), .ref 8], wC ov2 un2 (nI n1) dp fa1 cu st fi se th db cn F, 0)
  refine mm_skip (mm_call_mono _ _) 1 (st' := (34, [(4, .int 1), (3, .int (nI r)), (0, .ref 1), (1, .int 2), (2, .int (nI a))], [.int (-(ov2 (a + 1))), .int (nI (r + 1)), .ref 8], wC ov2 un2 (nI n1) dp fa1 cu st fi se th db cn F, 0)) rfl ?_
  refine mm_need (mm_call_mono _ _) (c := vp_in (nI (r + 1)) 1332) (s' := (35, [(4, .int 1), (3, .int (nI r)), (0, .ref 1), (1, .int 2), (2, .int (nI a))], [], wC (upd ov2 (Int32.toNatClampNeg (nI (r + 1))) (-(ov2 (a + 1)))) un2 (nI n1) dp fa1 cu st fi se th db cn F, 0)) rfl (vp_in_nI (show (r + 1) < 1332 by omega) (by decide)) ?_
  rw [nI_clamp (show (r + 1) < 2 ^ 31 by omega)]
  show mm_W _ _ _ _ _ _ _ (35, [(4, .int 1), (3, .int (nI r)), (0, .ref 1), (1, .int 2), (2, .int (nI a))], [], wC (upd ov2 (r + 1) (-(ov2 (a + 1)))) un2 (nI n1) dp fa1 cu st fi se th db cn F, 0)
  refine mm_skip (mm_call_mono _ _) 10 (st' := (51, [(4, .int 1), (3, .int (nI r)), (0, .ref 1), (1, .int 2), (2, .int (nI a))], [.int ((nI a) + 1), .ref 9, .int ((nI r) + 1), .ref 9], wC (upd ov2 (r + 1) (-(ov2 (a + 1)))) un2 (nI n1) dp fa1 cu st fi se th db cn F, 0)) rfl ?_
  rw [nI_p1 (a)]
  rw [nI_p1 (r)]
  show mm_W _ _ _ _ _ _ _ (51, [(4, .int 1), (3, .int (nI r)), (0, .ref 1), (1, .int 2), (2, .int (nI a))], [.int (nI (a + 1)), .ref 9, .int (nI (r + 1)), .ref 9], wC (upd ov2 (r + 1) (-(ov2 (a + 1)))) un2 (nI n1) dp fa1 cu st fi se th db cn F, 0)
  refine mm_need (mm_call_mono _ _) (c := vp_in (nI (a + 1)) 1332) (s' := (52, [(4, .int 1), (3, .int (nI r)), (0, .ref 1), (1, .int 2), (2, .int (nI a))], [.int (un2 (Int32.toNatClampNeg (nI (a + 1)))), .int (nI (r + 1)), .ref 9], wC (upd ov2 (r + 1) (-(ov2 (a + 1)))) un2 (nI n1) dp fa1 cu st fi se th db cn F, 0)) rfl (vp_in_nI (show (a + 1) < 1332 by omega) (by decide)) ?_
  rw [nI_clamp (show (a + 1) < 2 ^ 31 by omega)]
  show mm_W _ _ _ _ _ _ _ (52, [(4, .int 1), (3, .int (nI r)), (0, .ref 1), (1, .int 2), (2, .int (nI a))], [.int (un2 (a + 1)), .int (nI (r + 1)), .ref 9], wC (upd ov2 (r + 1) (-(ov2 (a + 1)))) un2 (nI n1) dp fa1 cu st fi se th db cn F, 0)
  refine mm_need (mm_call_mono _ _) (c := vp_in (nI (r + 1)) 1332) (s' := (53, [(4, .int 1), (3, .int (nI r)), (0, .ref 1), (1, .int 2), (2, .int (nI a))], [], wC (upd ov2 (r + 1) (-(ov2 (a + 1)))) (upd un2 (Int32.toNatClampNeg (nI (r + 1))) (un2 (a + 1))) (nI n1) dp fa1 cu st fi se th db cn F, 0)) rfl (vp_in_nI (show (r + 1) < 1332 by omega) (by decide)) ?_
  rw [nI_clamp (show (r + 1) < 2 ^ 31 by omega)]
  show mm_W _ _ _ _ _ _ _ (53, [(4, .int 1), (3, .int (nI r)), (0, .ref 1), (1, .int 2), (2, .int (nI a))], [], wC (upd ov2 (r + 1) (-(ov2 (a + 1)))) (upd un2 (r + 1) (un2 (a + 1))) (nI n1) dp fa1 cu st fi se th db cn F, 0)
  refine mm_skip (mm_call_mono _ _) 2 (st' := (8, [(4, .int 2), (3, .int (nI r)), (0, .ref 1), (1, .int 2), (2, .int (nI a))], [], wC (upd ov2 (r + 1) (-(ov2 (a + 1)))) (upd un2 (r + 1) (un2 (a + 1))) (nI n1) dp fa1 cu st fi se th db cn F, 0)) rfl ?_
  have k2 := pt_s (i := 1) k1 (by omega) hr.1 (neg_p (ov := ov2) (un := un2) (fa := fa1) (a := (a + 1)) (c := (r + 1)) k1.1 (fun h => (arg_v ha k1 h (j := 1) (by omega)).1)) (fun h => by show some (fneg (rf ov2 un2 (a + 1))) = some (fneg (rd ov un a 1)); rw [← (arg_v ha k1 h (j := 1) (by omega)).2] <;> rfl)
  have k2 : ptI ov un n fa r (fun j => some (fneg (rd ov un a j))) 2 (upd ov2 (r + 1) (-(ov2 (a + 1)))) (upd un2 (r + 1) (un2 (a + 1))) fa1 := k2
  generalize upd ov2 (r + 1) (-(ov2 (a + 1))) = ov3 at k2 ⊢
  generalize upd un2 (r + 1) (un2 (a + 1)) = un3 at k2 ⊢
  show mm_W _ _ _ _ _ _ _ (8, [(4, .int 2), (3, .int (nI r)), (0, .ref 1), (1, .int 2), (2, .int (nI a))], [], wC ov3 un3 (nI n1) dp fa1 cu st fi se th db cn F, 0)
  refine mm_skip (mm_call_mono _ _) 4 (st' := (13, [(4, .int 2), (3, .int (nI r)), (0, .ref 1), (1, .int 2), (2, .int (nI a))], [.int 4, .int 2], wC ov3 un3 (nI n1) dp fa1 cu st fi se th db cn F, 0)) rfl ?_
  refine mm_branch (mm_call_mono _ _) (c := (4 : Int32) ≤ 2) (s1 := (59, [(4, .int 2), (3, .int (nI r)), (0, .ref 1), (1, .int 2), (2, .int (nI a))], [], wC ov3 un3 (nI n1) dp fa1 cu st fi se th db cn F, 0)) (s2 := (16, [(4, .int 2), (3, .int (nI r)), (0, .ref 1), (1, .int 2), (2, .int (nI a))], [], wC ov3 un3 (nI n1) dp fa1 cu st fi se th db cn F, 0)) rfl (fun h => absurd h (by decide)) (fun _ => ?_)
  refine mm_skip (mm_call_mono _ _) 10 (st' := (32, [(4, .int 2), (3, .int (nI r)), (0, .ref 1), (1, .int 2), (2, .int (nI a))], [.int ((nI a) + 2), .ref 8, .int ((nI r) + 2), .ref 8], wC ov3 un3 (nI n1) dp fa1 cu st fi se th db cn F, 0)) rfl ?_
  rw [nI_p2 (a)]
  rw [nI_p2 (r)]
  show mm_W _ _ _ _ _ _ _ (32, [(4, .int 2), (3, .int (nI r)), (0, .ref 1), (1, .int 2), (2, .int (nI a))], [.int (nI (a + 2)), .ref 8, .int (nI (r + 2)), .ref 8], wC ov3 un3 (nI n1) dp fa1 cu st fi se th db cn F, 0)
  refine mm_need (mm_call_mono _ _) (c := vp_in (nI (a + 2)) 1332) (s' := (33, [(4, .int 2), (3, .int (nI r)), (0, .ref 1), (1, .int 2), (2, .int (nI a))], [.int (ov3 (Int32.toNatClampNeg (nI (a + 2)))), .int (nI (r + 2)), .ref 8], wC ov3 un3 (nI n1) dp fa1 cu st fi se th db cn F, 0)) rfl (vp_in_nI (show (a + 2) < 1332 by omega) (by decide)) ?_
  rw [nI_clamp (show (a + 2) < 2 ^ 31 by omega)]
  show mm_W _ _ _ _ _ _ _ (33, [(4, .int 2), (3, .int (nI r)), (0, .ref 1), (1, .int 2), (2, .int (nI a))], [.int (ov3 (a + 2)), .int (nI (r + 2)), .ref 8], wC ov3 un3 (nI n1) dp fa1 cu st fi se th db cn F, 0)
  refine mm_skip (mm_call_mono _ _) 1 (st' := (34, [(4, .int 2), (3, .int (nI r)), (0, .ref 1), (1, .int 2), (2, .int (nI a))], [.int (-(ov3 (a + 2))), .int (nI (r + 2)), .ref 8], wC ov3 un3 (nI n1) dp fa1 cu st fi se th db cn F, 0)) rfl ?_
  refine mm_need (mm_call_mono _ _) (c := vp_in (nI (r + 2)) 1332) (s' := (35, [(4, .int 2), (3, .int (nI r)), (0, .ref 1), (1, .int 2), (2, .int (nI a))], [], wC (upd ov3 (Int32.toNatClampNeg (nI (r + 2))) (-(ov3 (a + 2)))) un3 (nI n1) dp fa1 cu st fi se th db cn F, 0)) rfl (vp_in_nI (show (r + 2) < 1332 by omega) (by decide)) ?_
  rw [nI_clamp (show (r + 2) < 2 ^ 31 by omega)]
  show mm_W _ _ _ _ _ _ _ (35, [(4, .int 2), (3, .int (nI r)), (0, .ref 1), (1, .int 2), (2, .int (nI a))], [], wC (upd ov3 (r + 2) (-(ov3 (a + 2)))) un3 (nI n1) dp fa1 cu st fi se th db cn F, 0)
  refine mm_skip (mm_call_mono _ _) 10 (st' := (51, [(4, .int 2), (3, .int (nI r)), (0, .ref 1), (1, .int 2), (2, .int (nI a))], [.int ((nI a) + 2), .ref 9, .int ((nI r) + 2), .ref 9], wC (upd ov3 (r + 2) (-(ov3 (a + 2)))) un3 (nI n1) dp fa1 cu st fi se th db cn F, 0)) rfl ?_
  rw [nI_p2 (a)]
  rw [nI_p2 (r)]
  show mm_W _ _ _ _ _ _ _ (51, [(4, .int 2), (3, .int (nI r)), (0, .ref 1), (1, .int 2), (2, .int (nI a))], [.int (nI (a + 2)), .ref 9, .int (nI (r + 2)), .ref 9], wC (upd ov3 (r + 2) (-(ov3 (a + 2)))) un3 (nI n1) dp fa1 cu st fi se th db cn F, 0)
  refine mm_need (mm_call_mono _ _) (c := vp_in (nI (a + 2)) 1332) (s' := (52, [(4, .int 2), (3, .int (nI r)), (0, .ref 1), (1, .int 2), (2, .int (nI a))], [.int (un3 (Int32.toNatClampNeg (nI (a + 2)))), .int (nI (r + 2)), .ref 9], wC (upd ov3 (r + 2) (-(ov3 (a + 2)))) un3 (nI n1) dp fa1 cu st fi se th db cn F, 0)) rfl (vp_in_nI (show (a + 2) < 1332 by omega) (by decide)) ?_
  rw [nI_clamp (show (a + 2) < 2 ^ 31 by omega)]
  show mm_W _ _ _ _ _ _ _ (52, [(4, .int 2), (3, .int (nI r)), (0, .ref 1), (1, .int 2), (2, .int (nI a))], [.int (un3 (a + 2)), .int (nI (r + 2)), .ref 9], wC (upd ov3 (r + 2) (-(ov3 (a + 2)))) un3 (nI n1) dp fa1 cu st fi se th db cn F, 0)
  refine mm_need (mm_call_mono _ _) (c := vp_in (nI (r + 2)) 1332) (s' := (53, [(4, .int 2), (3, .int (nI r)), (0, .ref 1), (1, .int 2), (2, .int (nI a))], [], wC (upd ov3 (r + 2) (-(ov3 (a + 2)))) (upd un3 (Int32.toNatClampNeg (nI (r + 2))) (un3 (a + 2))) (nI n1) dp fa1 cu st fi se th db cn F, 0)) rfl (vp_in_nI (show (r + 2) < 1332 by omega) (by decide)) ?_
  rw [nI_clamp (show (r + 2) < 2 ^ 31 by omega)]
  show mm_W _ _ _ _ _ _ _ (53, [(4, .int 2), (3, .int (nI r)), (0, .ref 1), (1, .int 2), (2, .int (nI a))], [], wC (upd ov3 (r + 2) (-(ov3 (a + 2)))) (upd un3 (r + 2) (un3 (a + 2))) (nI n1) dp fa1 cu st fi se th db cn F, 0)
  refine mm_skip (mm_call_mono _ _) 2 (st' := (8, [(4, .int 3), (3, .int (nI r)), (0, .ref 1), (1, .int 2), (2, .int (nI a))], [], wC (upd ov3 (r + 2) (-(ov3 (a + 2)))) (upd un3 (r + 2) (un3 (a + 2))) (nI n1) dp fa1 cu st fi se th db cn F, 0)) rfl ?_
  have k3 := pt_s (i := 2) k2 (by omega) hr.1 (neg_p (ov := ov3) (un := un3) (fa := fa1) (a := (a + 2)) (c := (r + 2)) k2.1 (fun h => (arg_v ha k2 h (j := 2) (by omega)).1)) (fun h => by show some (fneg (rf ov3 un3 (a + 2))) = some (fneg (rd ov un a 2)); rw [← (arg_v ha k2 h (j := 2) (by omega)).2] <;> rfl)
  have k3 : ptI ov un n fa r (fun j => some (fneg (rd ov un a j))) 3 (upd ov3 (r + 2) (-(ov3 (a + 2)))) (upd un3 (r + 2) (un3 (a + 2))) fa1 := k3
  generalize upd ov3 (r + 2) (-(ov3 (a + 2))) = ov4 at k3 ⊢
  generalize upd un3 (r + 2) (un3 (a + 2)) = un4 at k3 ⊢
  show mm_W _ _ _ _ _ _ _ (8, [(4, .int 3), (3, .int (nI r)), (0, .ref 1), (1, .int 2), (2, .int (nI a))], [], wC ov4 un4 (nI n1) dp fa1 cu st fi se th db cn F, 0)
  refine mm_skip (mm_call_mono _ _) 4 (st' := (13, [(4, .int 3), (3, .int (nI r)), (0, .ref 1), (1, .int 2), (2, .int (nI a))], [.int 4, .int 3], wC ov4 un4 (nI n1) dp fa1 cu st fi se th db cn F, 0)) rfl ?_
  refine mm_branch (mm_call_mono _ _) (c := (4 : Int32) ≤ 3) (s1 := (59, [(4, .int 3), (3, .int (nI r)), (0, .ref 1), (1, .int 2), (2, .int (nI a))], [], wC ov4 un4 (nI n1) dp fa1 cu st fi se th db cn F, 0)) (s2 := (16, [(4, .int 3), (3, .int (nI r)), (0, .ref 1), (1, .int 2), (2, .int (nI a))], [], wC ov4 un4 (nI n1) dp fa1 cu st fi se th db cn F, 0)) rfl (fun h => absurd h (by decide)) (fun _ => ?_)
  refine mm_skip (mm_call_mono _ _) 10 (st' := (32, [(4, .int 3), (3, .int (nI r)), (0, .ref 1), (1, .int 2), (2, .int (nI a))], [.int ((nI a) + 3), .ref 8, .int ((nI r) + 3), .ref 8], wC ov4 un4 (nI n1) dp fa1 cu st fi se th db cn F, 0)) rfl ?_
  rw [nI_p3 (a)]
  rw [nI_p3 (r)]
  show mm_W _ _ _ _ _ _ _ (32, [(4, .int 3), (3, .int (nI r)), (0, .ref 1), (1, .int 2), (2, .int (nI a))], [.int (nI (a + 3)), .ref 8, .int (nI (r + 3)), .ref 8], wC ov4 un4 (nI n1) dp fa1 cu st fi se th db cn F, 0)
  refine mm_need (mm_call_mono _ _) (c := vp_in (nI (a + 3)) 1332) (s' := (33, [(4, .int 3), (3, .int (nI r)), (0, .ref 1), (1, .int 2), (2, .int (nI a))], [.int (ov4 (Int32.toNatClampNeg (nI (a + 3)))), .int (nI (r + 3)), .ref 8], wC ov4 un4 (nI n1) dp fa1 cu st fi se th db cn F, 0)) rfl (vp_in_nI (show (a + 3) < 1332 by omega) (by decide)) ?_
  rw [nI_clamp (show (a + 3) < 2 ^ 31 by omega)]
  show mm_W _ _ _ _ _ _ _ (33, [(4, .int 3), (3, .int (nI r)), (0, .ref 1), (1, .int 2), (2, .int (nI a))], [.int (ov4 (a + 3)), .int (nI (r + 3)), .ref 8], wC ov4 un4 (nI n1) dp fa1 cu st fi se th db cn F, 0)
  refine mm_skip (mm_call_mono _ _) 1 (st' := (34, [(4, .int 3), (3, .int (nI r)), (0, .ref 1), (1, .int 2), (2, .int (nI a))], [.int (-(ov4 (a + 3))), .int (nI (r + 3)), .ref 8], wC ov4 un4 (nI n1) dp fa1 cu st fi se th db cn F, 0)) rfl ?_
  refine mm_need (mm_call_mono _ _) (c := vp_in (nI (r + 3)) 1332) (s' := (35, [(4, .int 3), (3, .int (nI r)), (0, .ref 1), (1, .int 2), (2, .int (nI a))], [], wC (upd ov4 (Int32.toNatClampNeg (nI (r + 3))) (-(ov4 (a + 3)))) un4 (nI n1) dp fa1 cu st fi se th db cn F, 0)) rfl (vp_in_nI (show (r + 3) < 1332 by omega) (by decide)) ?_
  rw [nI_clamp (show (r + 3) < 2 ^ 31 by omega)]
  show mm_W _ _ _ _ _ _ _ (35, [(4, .int 3), (3, .int (nI r)), (0, .ref 1), (1, .int 2), (2, .int (nI a))], [], wC (upd ov4 (r + 3) (-(ov4 (a + 3)))) un4 (nI n1) dp fa1 cu st fi se th db cn F, 0)
  refine mm_skip (mm_call_mono _ _) 10 (st' := (51, [(4, .int 3), (3, .int (nI r)), (0, .ref 1), (1, .int 2), (2, .int (nI a))], [.int ((nI a) + 3), .ref 9, .int ((nI r) + 3), .ref 9], wC (upd ov4 (r + 3) (-(ov4 (a + 3)))) un4 (nI n1) dp fa1 cu st fi se th db cn F, 0)) rfl ?_
  rw [nI_p3 (a)]
  rw [nI_p3 (r)]
  show mm_W _ _ _ _ _ _ _ (51, [(4, .int 3), (3, .int (nI r)), (0, .ref 1), (1, .int 2), (2, .int (nI a))], [.int (nI (a + 3)), .ref 9, .int (nI (r + 3)), .ref 9], wC (upd ov4 (r + 3) (-(ov4 (a + 3)))) un4 (nI n1) dp fa1 cu st fi se th db cn F, 0)
  refine mm_need (mm_call_mono _ _) (c := vp_in (nI (a + 3)) 1332) (s' := (52, [(4, .int 3), (3, .int (nI r)), (0, .ref 1), (1, .int 2), (2, .int (nI a))], [.int (un4 (Int32.toNatClampNeg (nI (a + 3)))), .int (nI (r + 3)), .ref 9], wC (upd ov4 (r + 3) (-(ov4 (a + 3)))) un4 (nI n1) dp fa1 cu st fi se th db cn F, 0)) rfl (vp_in_nI (show (a + 3) < 1332 by omega) (by decide)) ?_
  rw [nI_clamp (show (a + 3) < 2 ^ 31 by omega)]
  show mm_W _ _ _ _ _ _ _ (52, [(4, .int 3), (3, .int (nI r)), (0, .ref 1), (1, .int 2), (2, .int (nI a))], [.int (un4 (a + 3)), .int (nI (r + 3)), .ref 9], wC (upd ov4 (r + 3) (-(ov4 (a + 3)))) un4 (nI n1) dp fa1 cu st fi se th db cn F, 0)
  refine mm_need (mm_call_mono _ _) (c := vp_in (nI (r + 3)) 1332) (s' := (53, [(4, .int 3), (3, .int (nI r)), (0, .ref 1), (1, .int 2), (2, .int (nI a))], [], wC (upd ov4 (r + 3) (-(ov4 (a + 3)))) (upd un4 (Int32.toNatClampNeg (nI (r + 3))) (un4 (a + 3))) (nI n1) dp fa1 cu st fi se th db cn F, 0)) rfl (vp_in_nI (show (r + 3) < 1332 by omega) (by decide)) ?_
  rw [nI_clamp (show (r + 3) < 2 ^ 31 by omega)]
  show mm_W _ _ _ _ _ _ _ (53, [(4, .int 3), (3, .int (nI r)), (0, .ref 1), (1, .int 2), (2, .int (nI a))], [], wC (upd ov4 (r + 3) (-(ov4 (a + 3)))) (upd un4 (r + 3) (un4 (a + 3))) (nI n1) dp fa1 cu st fi se th db cn F, 0)
  refine mm_skip (mm_call_mono _ _) 2 (st' := (8, [(4, .int 4), (3, .int (nI r)), (0, .ref 1), (1, .int 2), (2, .int (nI a))], [], wC (upd ov4 (r + 3) (-(ov4 (a + 3)))) (upd un4 (r + 3) (un4 (a + 3))) (nI n1) dp fa1 cu st fi se th db cn F, 0)) rfl ?_
  have k4 := pt_s (i := 3) k3 (by omega) hr.1 (neg_p (ov := ov4) (un := un4) (fa := fa1) (a := (a + 3)) (c := (r + 3)) k3.1 (fun h => (arg_v ha k3 h (j := 3) (by omega)).1)) (fun h => by show some (fneg (rf ov4 un4 (a + 3))) = some (fneg (rd ov un a 3)); rw [← (arg_v ha k3 h (j := 3) (by omega)).2] <;> rfl)
  have k4 : ptI ov un n fa r (fun j => some (fneg (rd ov un a j))) 4 (upd ov4 (r + 3) (-(ov4 (a + 3)))) (upd un4 (r + 3) (un4 (a + 3))) fa1 := k4
  generalize upd ov4 (r + 3) (-(ov4 (a + 3))) = ov5 at k4 ⊢
  generalize upd un4 (r + 3) (un4 (a + 3)) = un5 at k4 ⊢
  show mm_W _ _ _ _ _ _ _ (8, [(4, .int 4), (3, .int (nI r)), (0, .ref 1), (1, .int 2), (2, .int (nI a))], [], wC ov5 un5 (nI n1) dp fa1 cu st fi se th db cn F, 0)
  refine mm_skip (mm_call_mono _ _) 4 (st' := (13, [(4, .int 4), (3, .int (nI r)), (0, .ref 1), (1, .int 2), (2, .int (nI a))], [.int 4, .int 4], wC ov5 un5 (nI n1) dp fa1 cu st fi se th db cn F, 0)) rfl ?_
  refine mm_branch (mm_call_mono _ _) (c := (4 : Int32) ≤ 4) (s1 := (59, [(4, .int 4), (3, .int (nI r)), (0, .ref 1), (1, .int 2), (2, .int (nI a))], [], wC ov5 un5 (nI n1) dp fa1 cu st fi se th db cn F, 0)) (s2 := (16, [(4, .int 4), (3, .int (nI r)), (0, .ref 1), (1, .int 2), (2, .int (nI a))], [], wC ov5 un5 (nI n1) dp fa1 cu st fi se th db cn F, 0)) rfl (fun _ => ?_) (fun h => absurd (by decide) h)
  refine mm_skip (mm_call_mono _ _) 1 (st' := (60, [(4, .int 4), (3, .int (nI r)), (0, .ref 1), (1, .int 2), (2, .int (nI a))], [.int (nI r)], wC ov5 un5 (nI n1) dp fa1 cu st fi se th db cn F, 0)) rfl ?_
  exact mm_ret (mm_call_mono _ _) (c := True) (r := .inl (some (.int (nI r)))) (M := wC ov5 un5 (nI n1) dp fa1 cu st fi se th db cn F) (u := 0) rfl trivial (by decide) (hQ _ _ _ _ _ (by have h9 := op_of (by first | exact Or.inl rfl | exact Or.inr (Or.inl rfl) | exact Or.inr (Or.inr rfl)) ⟨hr.1, hr.2.1⟩ (fun h0 j hj v e => by cases e; exact fneg_v ((ha.2 h0).2 j hj)) k4; rw [← hr.2.2] at h9; exact h9))

/-- all its numerators are 0 -/
abbrev isz (m : Nat) (ov : Nat → Int32) (a : Nat) : Prop := ∀ j, j < m → ov (a + j) = 0
theorem isz_f {m : Nat} {ov : Nat → Int32} {a j : Nat} (hj : j < m) (h : ¬ ov (a + j) = 0) : ¬ isz m ov a := fun z => h (z j hj)
set_option maxRecDepth 100000 in
theorem ct_N_isZero_0 {d : Nat} {ov un : Nat → Int32} {nx dp fa : Int32} {cu : mm_cu} {st fi se th db : Nat → Int32} {cn : Int32} {F : mm_M} {a : Nat} {Q : mm_R → mm_M → Prop} (ha : a + 1 ≤ 1332) (hQ : Q (.inl (some (.int (bz (isz 1 ov a))))) (wC ov un nx dp fa cu st fi se th db cn F)) : mm_call mm_Tb (d + 1) 141 [.ref 1, .int 0, .int (nI a)] (wC ov un nx dp fa cu st fi se th db cn F) Q := by
  refine mm_in mt_141 (Nat.le_of_ble_eq_true rfl) ?_
  show mm_W _ _ _ _ _ _ _ (0, [(0, .ref 1), (1, .int 0), (2, .int (nI a))], [], wC ov un nx dp fa cu st fi se th db cn F, 0)
  refine mm_skip (mm_call_mono _ _) 6 (st' := (6, [(3, .int 0), (0, .ref 1), (1, .int 0), (2, .int (nI a))], [.int 1, .int 0], wC ov un nx dp fa cu st fi se th db cn F, 0)) rfl ?_
  refine mm_branch (mm_call_mono _ _) (c := (1 : Int32) ≤ 0) (s1 := (28, [(3, .int 0), (0, .ref 1), (1, .int 0), (2, .int (nI a))], [], wC ov un nx dp fa cu st fi se th db cn F, 0)) (s2 := (9, [(3, .int 0), (0, .ref 1), (1, .int 0), (2, .int (nI a))], [], wC ov un nx dp fa cu st fi se th db cn F, 0)) rfl (fun h => absurd h (by decide)) (fun _ => ?_)
  refine mm_skip (mm_call_mono _ _) 5 (st' := (16, [(3, .int 0), (0, .ref 1), (1, .int 0), (2, .int (nI a))], [.int ((nI a) + 0), .ref 8], wC ov un nx dp fa cu st fi se th db cn F, 0)) rfl ?_
  rw [nI_p0 (a)]
  show mm_W _ _ _ _ _ _ _ (16, [(3, .int 0), (0, .ref 1), (1, .int 0), (2, .int (nI a))], [.int (nI a), .ref 8], wC ov un nx dp fa cu st fi se th db cn F, 0)
  refine mm_need (mm_call_mono _ _) (c := vp_in (nI a) 1332) (s' := (17, [(3, .int 0), (0, .ref 1), (1, .int 0), (2, .int (nI a))], [.int (ov (Int32.toNatClampNeg (nI a)))], wC ov un nx dp fa cu st fi se th db cn F, 0)) rfl (vp_in_nI (show a < 1332 by omega) (by decide)) ?_
  rw [nI_clamp (show a < 2 ^ 31 by omega)]
  show mm_W _ _ _ _ _ _ _ (17, [(3, .int 0), (0, .ref 1), (1, .int 0), (2, .int (nI a))], [.int (ov a)], wC ov un nx dp fa cu st fi se th db cn F, 0)
  refine mm_branch (mm_call_mono _ _) (c := (ov a) = 0) (s1 := (22, [(3, .int 0), (0, .ref 1), (1, .int 0), (2, .int (nI a))], [], wC ov un nx dp fa cu st fi se th db cn F, 0)) (s2 := (20, [(3, .int 0), (0, .ref 1), (1, .int 0), (2, .int (nI a))], [], wC ov un nx dp fa cu st fi se th db cn F, 0)) rfl (fun h0 => ?_) (fun h0 => ?_)
  · skip
    refine mm_skip (mm_call_mono _ _) 6 (st' := (6, [(3, .int 1), (0, .ref 1), (1, .int 0), (2, .int (nI a))], [.int 1, .int 1], wC ov un nx dp fa cu st fi se th db cn F, 0)) rfl ?_
    refine mm_branch (mm_call_mono _ _) (c := (1 : Int32) ≤ 1) (s1 := (28, [(3, .int 1), (0, .ref 1), (1, .int 0), (2, .int (nI a))], [], wC ov un nx dp fa cu st fi se th db cn F, 0)) (s2 := (9, [(3, .int 1), (0, .ref 1), (1, .int 0), (2, .int (nI a))], [], wC ov un nx dp fa cu st fi se th db cn F, 0)) rfl (fun _ => ?_) (fun h => absurd (by decide) h)
    refine mm_skip (mm_call_mono _ _) 1 (st' := (29, [(3, .int 1), (0, .ref 1), (1, .int 0), (2, .int (nI a))], [.int 1], wC ov un nx dp fa cu st fi se th db cn F, 0)) rfl ?_
    exact mm_ret (mm_call_mono _ _) (c := mm_z 1) (r := .inl (some (.int 1))) (M := wC ov un nx dp fa cu st fi se th db cn F) (u := 0) rfl (by unfold mm_z; decide) (by decide) (by rw [bz_t (show isz 1 ov a from fun j hj => by rcases (show j = 0 by omega) with rfl <;> assumption)] at hQ; exact hQ)
  · skip
    refine mm_skip (mm_call_mono _ _) 1 (st' := (21, [(3, .int 0), (0, .ref 1), (1, .int 0), (2, .int (nI a))], [.int 0], wC ov un nx dp fa cu st fi se th db cn F, 0)) rfl ?_
    exact mm_ret (mm_call_mono _ _) (c := mm_z 0) (r := .inl (some (.int 0))) (M := wC ov un nx dp fa cu st fi se th db cn F) (u := 0) rfl (by unfold mm_z; decide) (by decide) (by rw [bz_f (isz_f (m := 1) (j := 0) (by omega) h0)] at hQ; exact hQ)

set_option maxRecDepth 100000 in
theorem ct_N_isZero_1 {d : Nat} {ov un : Nat → Int32} {nx dp fa : Int32} {cu : mm_cu} {st fi se th db : Nat → Int32} {cn : Int32} {F : mm_M} {a : Nat} {Q : mm_R → mm_M → Prop} (ha : a + 2 ≤ 1332) (hQ : Q (.inl (some (.int (bz (isz 2 ov a))))) (wC ov un nx dp fa cu st fi se th db cn F)) : mm_call mm_Tb (d + 1) 141 [.ref 1, .int 1, .int (nI a)] (wC ov un nx dp fa cu st fi se th db cn F) Q := by
  refine mm_in mt_141 (Nat.le_of_ble_eq_true rfl) ?_
  show mm_W _ _ _ _ _ _ _ (0, [(0, .ref 1), (1, .int 1), (2, .int (nI a))], [], wC ov un nx dp fa cu st fi se th db cn F, 0)
  refine mm_skip (mm_call_mono _ _) 6 (st' := (6, [(3, .int 0), (0, .ref 1), (1, .int 1), (2, .int (nI a))], [.int 2, .int 0], wC ov un nx dp fa cu st fi se th db cn F, 0)) rfl ?_
  refine mm_branch (mm_call_mono _ _) (c := (2 : Int32) ≤ 0) (s1 := (28, [(3, .int 0), (0, .ref 1), (1, .int 1), (2, .int (nI a))], [], wC ov un nx dp fa cu st fi se th db cn F, 0)) (s2 := (9, [(3, .int 0), (0, .ref 1), (1, .int 1), (2, .int (nI a))], [], wC ov un nx dp fa cu st fi se th db cn F, 0)) rfl (fun h => absurd h (by decide)) (fun _ => ?_)
  refine mm_skip (mm_call_mono _ _) 5 (st' := (16, [(3, .int 0), (0, .ref 1), (1, .int 1), (2, .int (nI a))], [.int ((nI a) + 0), .ref 8], wC ov un nx dp fa cu st fi se th db cn F, 0)) rfl ?_
  rw [nI_p0 (a)]
  show mm_W _ _ _ _ _ _ _ (16, [(3, .int 0), (0, .ref 1), (1, .int 1), (2, .int (nI a))], [.int (nI a), .ref 8], wC ov un nx dp fa cu st fi se th db cn F, 0)
  refine mm_need (mm_call_mono _ _) (c := vp_in (nI a) 1332) (s' := (17, [(3, .int 0), (0, .ref 1), (1, .int 1), (2, .int (nI a))], [.int (ov (Int32.toNatClampNeg (nI a)))], wC ov un nx dp fa cu st fi se th db cn F, 0)) rfl (vp_in_nI (show a < 1332 by omega) (by decide)) ?_
  rw [nI_clamp (show a < 2 ^ 31 by omega)]
  show mm_W _ _ _ _ _ _ _ (17, [(3, .int 0), (0, .ref 1), (1, .int 1), (2, .int (nI a))], [.int (ov a)], wC ov un nx dp fa cu st fi se th db cn F, 0)
  refine mm_branch (mm_call_mono _ _) (c := (ov a) = 0) (s1 := (22, [(3, .int 0), (0, .ref 1), (1, .int 1), (2, .int (nI a))], [], wC ov un nx dp fa cu st fi se th db cn F, 0)) (s2 := (20, [(3, .int 0), (0, .ref 1), (1, .int 1), (2, .int (nI a))], [], wC ov un nx dp fa cu st fi se th db cn F, 0)) rfl (fun h0 => ?_) (fun h0 => ?_)
  · skip
    refine mm_skip (mm_call_mono _ _) 6 (st' := (6, [(3, .int 1), (0, .ref 1), (1, .int 1), (2, .int (nI a))], [.int 2, .int 1], wC ov un nx dp fa cu st fi se th db cn F, 0)) rfl ?_
    refine mm_branch (mm_call_mono _ _) (c := (2 : Int32) ≤ 1) (s1 := (28, [(3, .int 1), (0, .ref 1), (1, .int 1), (2, .int (nI a))], [], wC ov un nx dp fa cu st fi se th db cn F, 0)) (s2 := (9, [(3, .int 1), (0, .ref 1), (1, .int 1), (2, .int (nI a))], [], wC ov un nx dp fa cu st fi se th db cn F, 0)) rfl (fun h => absurd h (by decide)) (fun _ => ?_)
    refine mm_skip (mm_call_mono _ _) 5 (st' := (16, [(3, .int 1), (0, .ref 1), (1, .int 1), (2, .int (nI a))], [.int ((nI a) + 1), .ref 8], wC ov un nx dp fa cu st fi se th db cn F, 0)) rfl ?_
    rw [nI_p1 (a)]
    show mm_W _ _ _ _ _ _ _ (16, [(3, .int 1), (0, .ref 1), (1, .int 1), (2, .int (nI a))], [.int (nI (a + 1)), .ref 8], wC ov un nx dp fa cu st fi se th db cn F, 0)
    refine mm_need (mm_call_mono _ _) (c := vp_in (nI (a + 1)) 1332) (s' := (17, [(3, .int 1), (0, .ref 1), (1, .int 1), (2, .int (nI a))], [.int (ov (Int32.toNatClampNeg (nI (a + 1))))], wC ov un nx dp fa cu st fi se th db cn F, 0)) rfl (vp_in_nI (show (a + 1) < 1332 by omega) (by decide)) ?_
    rw [nI_clamp (show (a + 1) < 2 ^ 31 by omega)]
    show mm_W _ _ _ _ _ _ _ (17, [(3, .int 1), (0, .ref 1), (1, .int 1), (2, .int (nI a))], [.int (ov (a + 1))], wC ov un nx dp fa cu st fi se th db cn F, 0)
    refine mm_branch (mm_call_mono _ _) (c := (ov (a + 1)) = 0) (s1 := (22, [(3, .int 1), (0, .ref 1), (1, .int 1), (2, .int (nI a))], [], wC ov un nx dp fa cu st fi se th db cn F, 0)) (s2 := (20, [(3, .int 1), (0, .ref 1), (1, .int 1), (2, .int (nI a))], [], wC ov un nx dp fa cu st fi se th db cn F, 0)) rfl (fun h1 => ?_) (fun h1 => ?_)
    · skip
      refine mm_skip (mm_call_mono _ _) 6 (st' := (6, [(3, .int 2), (0, .ref 1), (1, .int 1), (2, .int (nI a))], [.int 2, .int 2], wC ov un nx dp fa cu st fi se th db cn F, 0)) rfl ?_
      refine mm_branch (mm_call_mono _ _) (c := (2 : Int32) ≤ 2) (s1 := (28, [(3, .int 2), (0, .ref 1), (1, .int 1), (2, .int (nI a))], [], wC ov un nx dp fa cu st fi se th db cn F, 0)) (s2 := (9, [(3, .int 2), (0, .ref 1), (1, .int 1), (2, .int (nI a))], [], wC ov un nx dp fa cu st fi se th db cn F, 0)) rfl (fun _ => ?_) (fun h => absurd (by decide) h)
      refine mm_skip (mm_call_mono _ _) 1 (st' := (29, [(3, .int 2), (0, .ref 1), (1, .int 1), (2, .int (nI a))], [.int 1], wC ov un nx dp fa cu st fi se th db cn F, 0)) rfl ?_
      exact mm_ret (mm_call_mono _ _) (c := mm_z 1) (r := .inl (some (.int 1))) (M := wC ov un nx dp fa cu st fi se th db cn F) (u := 0) rfl (by unfold mm_z; decide) (by decide) (by rw [bz_t (show isz 2 ov a from fun j hj => by rcases (show j = 0 ∨ j = 1 by omega) with rfl | rfl <;> assumption)] at hQ; exact hQ)
    · skip
      refine mm_skip (mm_call_mono _ _) 1 (st' := (21, [(3, .int 1), (0, .ref 1), (1, .int 1), (2, .int (nI a))], [.int 0], wC ov un nx dp fa cu st fi se th db cn F, 0)) rfl ?_
      exact mm_ret (mm_call_mono _ _) (c := mm_z 0) (r := .inl (some (.int 0))) (M := wC ov un nx dp fa cu st fi se th db cn F) (u := 0) rfl (by unfold mm_z; decide) (by decide) (by rw [bz_f (isz_f (m := 2) (j := 1) (by omega) h1)] at hQ; exact hQ)
  · skip
    refine mm_skip (mm_call_mono _ _) 1 (st' := (21, [(3, .int 0), (0, .ref 1), (1, .int 1), (2, .int (nI a))], [.int 0], wC ov un nx dp fa cu st fi se th db cn F, 0)) rfl ?_
    exact mm_ret (mm_call_mono _ _) (c := mm_z 0) (r := .inl (some (.int 0))) (M := wC ov un nx dp fa cu st fi se th db cn F) (u := 0) rfl (by unfold mm_z; decide) (by decide) (by rw [bz_f (isz_f (m := 2) (j := 0) (by omega) h0)] at hQ; exact hQ)

set_option maxRecDepth 100000 in
theorem ct_N_isZero_2 {d : Nat} {ov un : Nat → Int32} {nx dp fa : Int32} {cu : mm_cu} {st fi se th db : Nat → Int32} {cn : Int32} {F : mm_M} {a : Nat} {Q : mm_R → mm_M → Prop} (ha : a + 4 ≤ 1332) (hQ : Q (.inl (some (.int (bz (isz 4 ov a))))) (wC ov un nx dp fa cu st fi se th db cn F)) : mm_call mm_Tb (d + 1) 141 [.ref 1, .int 2, .int (nI a)] (wC ov un nx dp fa cu st fi se th db cn F) Q := by
  refine mm_in mt_141 (Nat.le_of_ble_eq_true rfl) ?_
  show mm_W _ _ _ _ _ _ _ (0, [(0, .ref 1), (1, .int 2), (2, .int (nI a))], [], wC ov un nx dp fa cu st fi se th db cn F, 0)
  refine mm_skip (mm_call_mono _ _) 6 (st' := (6, [(3, .int 0), (0, .ref 1), (1, .int 2), (2, .int (nI a))], [.int 4, .int 0], wC ov un nx dp fa cu st fi se th db cn F, 0)) rfl ?_
  refine mm_branch (mm_call_mono _ _) (c := (4 : Int32) ≤ 0) (s1 := (28, [(3, .int 0), (0, .ref 1), (1, .int 2), (2, .int (nI a))], [], wC ov un nx dp fa cu st fi se th db cn F, 0)) (s2 := (9, [(3, .int 0), (0, .ref 1), (1, .int 2), (2, .int (nI a))], [], wC ov un nx dp fa cu st fi se th db cn F, 0)) rfl (fun h => absurd h (by decide)) (fun _ => ?_)
  refine mm_skip (mm_call_mono _ _) 5 (st' := (16, [(3, .int 0), (0, .ref 1), (1, .int 2), (2, .int (nI a))], [.int ((nI a) + 0), .ref 8], wC ov un nx dp fa cu st fi se th db cn F, 0)) rfl ?_
  rw [nI_p0 (a)]
  show mm_W _ _ _ _ _ _ _ (16, [(3, .int 0), (0, .ref 1), (1, .int 2), (2, .int (nI a))], [.int (nI a), .ref 8], wC ov un nx dp fa cu st fi se th db cn F, 0)
  refine mm_need (mm_call_mono _ _) (c := vp_in (nI a) 1332) (s' := (17, [(3, .int 0), (0, .ref 1), (1, .int 2), (2, .int (nI a))], [.int (ov (Int32.toNatClampNeg (nI a)))], wC ov un nx dp fa cu st fi se th db cn F, 0)) rfl (vp_in_nI (show a < 1332 by omega) (by decide)) ?_
  rw [nI_clamp (show a < 2 ^ 31 by omega)]
  show mm_W _ _ _ _ _ _ _ (17, [(3, .int 0), (0, .ref 1), (1, .int 2), (2, .int (nI a))], [.int (ov a)], wC ov un nx dp fa cu st fi se th db cn F, 0)
  refine mm_branch (mm_call_mono _ _) (c := (ov a) = 0) (s1 := (22, [(3, .int 0), (0, .ref 1), (1, .int 2), (2, .int (nI a))], [], wC ov un nx dp fa cu st fi se th db cn F, 0)) (s2 := (20, [(3, .int 0), (0, .ref 1), (1, .int 2), (2, .int (nI a))], [], wC ov un nx dp fa cu st fi se th db cn F, 0)) rfl (fun h0 => ?_) (fun h0 => ?_)
  · skip
    refine mm_skip (mm_call_mono _ _) 6 (st' := (6, [(3, .int 1), (0, .ref 1), (1, .int 2), (2, .int (nI a))], [.int 4, .int 1], wC ov un nx dp fa cu st fi se th db cn F, 0)) rfl ?_
    refine mm_branch (mm_call_mono _ _) (c := (4 : Int32) ≤ 1) (s1 := (28, [(3, .int 1), (0, .ref 1), (1, .int 2), (2, .int (nI a))], [], wC ov un nx dp fa cu st fi se th db cn F, 0)) (s2 := (9, [(3, .int 1), (0, .ref 1), (1, .int 2), (2, .int (nI a))], [], wC ov un nx dp fa cu st fi se th db cn F, 0)) rfl (fun h => absurd h (by decide)) (fun _ => ?_)
    refine mm_skip (mm_call_mono _ _) 5 (st' := (16, [(3, .int 1), (0, .ref 1), (1, .int 2), (2, .int (nI a))], [.int ((nI a) + 1), .ref 8], wC ov un nx dp fa cu st fi se th db cn F, 0)) rfl ?_
    rw [nI_p1 (a)]
    show mm_W _ _ _ _ _ _ _ (16, [(3, .int 1), (0, .ref 1), (1, .int 2), (2, .int (nI a))], [.int (nI (a + 1)), .ref 8], wC ov un nx dp fa cu st fi se th db cn F, 0)
    refine mm_need (mm_call_mono _ _) (c := vp_in (nI (a + 1)) 1332) (s' := (17, [(3, .int 1), (0, .ref 1), (1, .int 2), (2, .int (nI a))], [.int (ov (Int32.toNatClampNeg (nI (a + 1))))], wC ov un nx dp fa cu st fi se th db cn F, 0)) rfl (vp_in_nI (show (a + 1) < 1332 by omega) (by decide)) ?_
    rw [nI_clamp (show (a + 1) < 2 ^ 31 by omega)]
    show mm_W _ _ _ _ _ _ _ (17, [(3, .int 1), (0, .ref 1), (1, .int 2), (2, .int (nI a))], [.int (ov (a + 1))], wC ov un nx dp fa cu st fi se th db cn F, 0)
    refine mm_branch (mm_call_mono _ _) (c := (ov (a + 1)) = 0) (s1 := (22, [(3, .int 1), (0, .ref 1), (1, .int 2), (2, .int (nI a))], [], wC ov un nx dp fa cu st fi se th db cn F, 0)) (s2 := (20, [(3, .int 1), (0, .ref 1), (1, .int 2), (2, .int (nI a))], [], wC ov un nx dp fa cu st fi se th db cn F, 0)) rfl (fun h1 => ?_) (fun h1 => ?_)
    · skip
      refine mm_skip (mm_call_mono _ _) 6 (st' := (6, [(3, .int 2), (0, .ref 1), (1, .int 2), (2, .int (nI a))], [.int 4, .int 2], wC ov un nx dp fa cu st fi se th db cn F, 0)) rfl ?_
      refine mm_branch (mm_call_mono _ _) (c := (4 : Int32) ≤ 2) (s1 := (28, [(3, .int 2), (0, .ref 1), (1, .int 2), (2, .int (nI a))], [], wC ov un nx dp fa cu st fi se th db cn F, 0)) (s2 := (9, [(3, .int 2), (0, .ref 1), (1, .int 2), (2, .int (nI a))], [], wC ov un nx dp fa cu st fi se th db cn F, 0)) rfl (fun h => absurd h (by decide)) (fun _ => ?_)
      refine mm_skip (mm_call_mono _ _) 5 (st' := (16, [(3, .int 2), (0, .ref 1), (1, .int 2), (2, .int (nI a))], [.int ((nI a) + 2), .ref 8], wC ov un nx dp fa cu st fi se th db cn F, 0)) rfl ?_
      rw [nI_p2 (a)]
      show mm_W _ _ _ _ _ _ _ (16, [(3, .int 2), (0, .ref 1), (1, .int 2), (2, .int (nI a))], [.int (nI (a + 2)), .ref 8], wC ov un nx dp fa cu st fi se th db cn F, 0)
      refine mm_need (mm_call_mono _ _) (c := vp_in (nI (a + 2)) 1332) (s' := (17, [(3, .int 2), (0, .ref 1), (1, .int 2), (2, .int (nI a))], [.int (ov (Int32.toNatClampNeg (nI (a + 2))))], wC ov un nx dp fa cu st fi se th db cn F, 0)) rfl (vp_in_nI (show (a + 2) < 1332 by omega) (by decide)) ?_
      rw [nI_clamp (show (a + 2) < 2 ^ 31 by omega)]
      show mm_W _ _ _ _ _ _ _ (17, [(3, .int 2), (0, .ref 1), (1, .int 2), (2, .int (nI a))], [.int (ov (a + 2))], wC ov un nx dp fa cu st fi se th db cn F, 0)
      refine mm_branch (mm_call_mono _ _) (c := (ov (a + 2)) = 0) (s1 := (22, [(3, .int 2), (0, .ref 1), (1, .int 2), (2, .int (nI a))], [], wC ov un nx dp fa cu st fi se th db cn F, 0)) (s2 := (20, [(3, .int 2), (0, .ref 1), (1, .int 2), (2, .int (nI a))], [], wC ov un nx dp fa cu st fi se th db cn F, 0)) rfl (fun h2 => ?_) (fun h2 => ?_)
      · skip
        refine mm_skip (mm_call_mono _ _) 6 (st' := (6, [(3, .int 3), (0, .ref 1), (1, .int 2), (2, .int (nI a))], [.int 4, .int 3], wC ov un nx dp fa cu st fi se th db cn F, 0)) rfl ?_
        refine mm_branch (mm_call_mono _ _) (c := (4 : Int32) ≤ 3) (s1 := (28, [(3, .int 3), (0, .ref 1), (1, .int 2), (2, .int (nI a))], [], wC ov un nx dp fa cu st fi se th db cn F, 0)) (s2 := (9, [(3, .int 3), (0, .ref 1), (1, .int 2), (2, .int (nI a))], [], wC ov un nx dp fa cu st fi se th db cn F, 0)) rfl (fun h => absurd h (by decide)) (fun _ => ?_)
        refine mm_skip (mm_call_mono _ _) 5 (st' := (16, [(3, .int 3), (0, .ref 1), (1, .int 2), (2, .int (nI a))], [.int ((nI a) + 3), .ref 8], wC ov un nx dp fa cu st fi se th db cn F, 0)) rfl ?_
        rw [nI_p3 (a)]
        show mm_W _ _ _ _ _ _ _ (16, [(3, .int 3), (0, .ref 1), (1, .int 2), (2, .int (nI a))], [.int (nI (a + 3)), .ref 8], wC ov un nx dp fa cu st fi se th db cn F, 0)
        refine mm_need (mm_call_mono _ _) (c := vp_in (nI (a + 3)) 1332) (s' := (17, [(3, .int 3), (0, .ref 1), (1, .int 2), (2, .int (nI a))], [.int (ov (Int32.toNatClampNeg (nI (a + 3))))], wC ov un nx dp fa cu st fi se th db cn F, 0)) rfl (vp_in_nI (show (a + 3) < 1332 by omega) (by decide)) ?_
        rw [nI_clamp (show (a + 3) < 2 ^ 31 by omega)]
        show mm_W _ _ _ _ _ _ _ (17, [(3, .int 3), (0, .ref 1), (1, .int 2), (2, .int (nI a))], [.int (ov (a + 3))], wC ov un nx dp fa cu st fi se th db cn F, 0)
        refine mm_branch (mm_call_mono _ _) (c := (ov (a + 3)) = 0) (s1 := (22, [(3, .int 3), (0, .ref 1), (1, .int 2), (2, .int (nI a))], [], wC ov un nx dp fa cu st fi se th db cn F, 0)) (s2 := (20, [(3, .int 3), (0, .ref 1), (1, .int 2), (2, .int (nI a))], [], wC ov un nx dp fa cu st fi se th db cn F, 0)) rfl (fun h3 => ?_) (fun h3 => ?_)
        · skip
          refine mm_skip (mm_call_mono _ _) 6 (st' := (6, [(3, .int 4), (0, .ref 1), (1, .int 2), (2, .int (nI a))], [.int 4, .int 4], wC ov un nx dp fa cu st fi se th db cn F, 0)) rfl ?_
          refine mm_branch (mm_call_mono _ _) (c := (4 : Int32) ≤ 4) (s1 := (28, [(3, .int 4), (0, .ref 1), (1, .int 2), (2, .int (nI a))], [], wC ov un nx dp fa cu st fi se th db cn F, 0)) (s2 := (9, [(3, .int 4), (0, .ref 1), (1, .int 2), (2, .int (nI a))], [], wC ov un nx dp fa cu st fi se th db cn F, 0)) rfl (fun _ => ?_) (fun h => absurd (by decide) h)
          refine mm_skip (mm_call_mono _ _) 1 (st' := (29, [(3, .int 4), (0, .ref 1), (1, .int 2), (2, .int (nI a))], [.int 1], wC ov un nx dp fa cu st fi se th db cn F, 0)) rfl ?_
          exact mm_ret (mm_call_mono _ _) (c := mm_z 1) (r := .inl (some (.int 1))) (M := wC ov un nx dp fa cu st fi se th db cn F) (u := 0) rfl (by unfold mm_z; decide) (by decide) (by rw [bz_t (show isz 4 ov a from fun j hj => by rcases (show j = 0 ∨ j = 1 ∨ j = 2 ∨ j = 3 by omega) with rfl | rfl | rfl | rfl <;> assumption)] at hQ; exact hQ)
        · skip
          refine mm_skip (mm_call_mono _ _) 1 (st' := (21, [(3, .int 3), (0, .ref 1), (1, .int 2), (2, .int (nI a))], [.int 0], wC ov un nx dp fa cu st fi se th db cn F, 0)) rfl ?_
          exact mm_ret (mm_call_mono _ _) (c := mm_z 0) (r := .inl (some (.int 0))) (M := wC ov un nx dp fa cu st fi se th db cn F) (u := 0) rfl (by unfold mm_z; decide) (by decide) (by rw [bz_f (isz_f (m := 4) (j := 3) (by omega) h3)] at hQ; exact hQ)
      · skip
        refine mm_skip (mm_call_mono _ _) 1 (st' := (21, [(3, .int 2), (0, .ref 1), (1, .int 2), (2, .int (nI a))], [.int 0], wC ov un nx dp fa cu st fi se th db cn F, 0)) rfl ?_
        exact mm_ret (mm_call_mono _ _) (c := mm_z 0) (r := .inl (some (.int 0))) (M := wC ov un nx dp fa cu st fi se th db cn F) (u := 0) rfl (by unfold mm_z; decide) (by decide) (by rw [bz_f (isz_f (m := 4) (j := 2) (by omega) h2)] at hQ; exact hQ)
    · skip
      refine mm_skip (mm_call_mono _ _) 1 (st' := (21, [(3, .int 1), (0, .ref 1), (1, .int 2), (2, .int (nI a))], [.int 0], wC ov un nx dp fa cu st fi se th db cn F, 0)) rfl ?_
      exact mm_ret (mm_call_mono _ _) (c := mm_z 0) (r := .inl (some (.int 0))) (M := wC ov un nx dp fa cu st fi se th db cn F) (u := 0) rfl (by unfold mm_z; decide) (by decide) (by rw [bz_f (isz_f (m := 4) (j := 1) (by omega) h1)] at hQ; exact hQ)
  · skip
    refine mm_skip (mm_call_mono _ _) 1 (st' := (21, [(3, .int 0), (0, .ref 1), (1, .int 2), (2, .int (nI a))], [.int 0], wC ov un nx dp fa cu st fi se th db cn F, 0)) rfl ?_
    exact mm_ret (mm_call_mono _ _) (c := mm_z 0) (r := .inl (some (.int 0))) (M := wC ov un nx dp fa cu st fi se th db cn F) (u := 0) rfl (by unfold mm_z; decide) (by decide) (by rw [bz_f (isz_f (m := 4) (j := 0) (by omega) h0)] at hQ; exact hQ)

set_option maxRecDepth 100000 in
theorem ct_N_radicandOf_1 {d : Nat} {ov un : Nat → Int32} {nx dp fa : Int32} {cu : mm_cu} {st fi se th db : Nat → Int32} {cn : Int32} {F : mm_M} {Q : mm_R → mm_M → Prop} (hQ : Q (.inl (some (.int (nI 0)))) (wC ov un nx dp fa cu st fi se th db cn F)) : mm_call mm_Tb (d + 1) 120 [.int 1] (wC ov un nx dp fa cu st fi se th db cn F) Q := by
  refine mm_in mt_120 (Nat.le_of_ble_eq_true rfl) ?_
  show mm_W _ _ _ _ _ _ _ (0, [(0, .int 1)], [], wC ov un nx dp fa cu st fi se th db cn F, 0)
  refine mm_skip (mm_call_mono _ _) 5 (st' := (5, [(0, .int 1)], [.int 0], wC ov un nx dp fa cu st fi se th db cn F, 0)) rfl ?_
  exact mm_ret (mm_call_mono _ _) (c := True) (r := .inl (some (.int 0))) (M := wC ov un nx dp fa cu st fi se th db cn F) (u := 0) rfl trivial (by decide) hQ

set_option maxRecDepth 100000 in
theorem ct_N_radicandOf_2 {d : Nat} {ov un : Nat → Int32} {nx dp fa : Int32} {cu : mm_cu} {st fi se th db : Nat → Int32} {cn : Int32} {F : mm_M} {Q : mm_R → mm_M → Prop} (hQ : Q (.inl (some (.int (nI 4)))) (wC ov un nx dp fa cu st fi se th db cn F)) : mm_call mm_Tb (d + 1) 120 [.int 2] (wC ov un nx dp fa cu st fi se th db cn F) Q := by
  refine mm_in mt_120 (Nat.le_of_ble_eq_true rfl) ?_
  show mm_W _ _ _ _ _ _ _ (0, [(0, .int 2)], [], wC ov un nx dp fa cu st fi se th db cn F, 0)
  refine mm_skip (mm_call_mono _ _) 5 (st' := (5, [(0, .int 2)], [.int 4], wC ov un nx dp fa cu st fi se th db cn F, 0)) rfl ?_
  exact mm_ret (mm_call_mono _ _) (c := True) (r := .inl (some (.int 4))) (M := wC ov un nx dp fa cu st fi se th db cn F) (u := 0) rfl trivial (by decide) hQ

theorem cp_ok1 {x y : Nat} (hx : x + 1 ≤ 1332) (hy : y + 1 ≤ 1332) : ¬ (nI x) < 0 ∧ ¬ (nI y) < 0 ∧ ¬ (1 : Int32) < 0 ∧ (Int32.toNatClampNeg (nI x)) + 1 ≤ 1332 ∧ (Int32.toNatClampNeg (nI y)) + 1 ≤ 1332 := by
  rw [nI_clamp (by omega), nI_clamp (by omega)]
  exact ⟨nI_pos (by omega), nI_pos (by omega), by decide, hx, hy⟩
theorem cp_ok2 {x y : Nat} (hx : x + 2 ≤ 1332) (hy : y + 2 ≤ 1332) : ¬ (nI x) < 0 ∧ ¬ (nI y) < 0 ∧ ¬ (2 : Int32) < 0 ∧ (Int32.toNatClampNeg (nI x)) + 2 ≤ 1332 ∧ (Int32.toNatClampNeg (nI y)) + 2 ≤ 1332 := by
  rw [nI_clamp (by omega), nI_clamp (by omega)]
  exact ⟨nI_pos (by omega), nI_pos (by omega), by decide, hx, hy⟩
theorem cp_ok4 {x y : Nat} (hx : x + 4 ≤ 1332) (hy : y + 4 ≤ 1332) : ¬ (nI x) < 0 ∧ ¬ (nI y) < 0 ∧ ¬ (4 : Int32) < 0 ∧ (Int32.toNatClampNeg (nI x)) + 4 ≤ 1332 ∧ (Int32.toNatClampNeg (nI y)) + 4 ≤ 1332 := by
  rw [nI_clamp (by omega), nI_clamp (by omega)]
  exact ⟨nI_pos (by omega), nI_pos (by omega), by decide, hx, hy⟩
/-- the rows behind pair: m fractions of each -/
def prow (f : Nat → Int32) (m r a b : Nat) : Nat → Int32 := va_cpy (va_cpy f f a r m) (va_cpy f f a r m) b (r + m) m
set_option maxRecDepth 100000 in
theorem ct_N_pair_0 {d : Nat} {ov un : Nat → Int32} {nx dp fa : Int32} {cu : mm_cu} {st fi se th db : Nat → Int32} {cn : Int32} {F : mm_M} {r a b : Nat} {Q : mm_R → mm_M → Prop} (hr : r + 4 ≤ 1332) (ha : a + 1 ≤ 1332) (hb : b + 1 ≤ 1332) (hQ : Q (.inl (some (.int (nI r)))) (wC (prow ov 1 r a b) (prow un 1 r a b) (nI (r + 4)) dp fa cu st fi se th db cn F)) : mm_call mm_Tb (d + 1) 140 [.ref 1, .int 0, .int (nI r), .int (nI a), .int (nI b)] (wC ov un nx dp fa cu st fi se th db cn F) Q := by
  refine mm_in mt_140 (Nat.le_of_ble_eq_true rfl) ?_
  show mm_W _ _ _ _ _ _ _ (0, [(0, .ref 1), (1, .int 0), (2, .int (nI r)), (3, .int (nI a)), (4, .int (nI b))], [], wC ov un nx dp fa cu st fi se th db cn F, 0)
  refine mm_skip (mm_call_mono _ _) 11 (st' := (17, [(5, .int 1), (0, .ref 1), (1, .int 0), (2, .int (nI r)), (3, .int (nI a)), (4, .int (nI b))], [.int 1, .int (nI r), .ref 8, .int (nI a), .ref 8], wC ov un nx dp fa cu st fi se th db cn F, 0)) rfl ?_
  refine mm_need (mm_call_mono _ _) (c := ¬ (nI a) < 0 ∧ ¬ (nI r) < 0 ∧ ¬ (1 : Int32) < 0 ∧ (Int32.toNatClampNeg (nI a)) + 1 ≤ 1332 ∧ (Int32.toNatClampNeg (nI r)) + 1 ≤ 1332) (s' := (20, [(5, .int 1), (0, .ref 1), (1, .int 0), (2, .int (nI r)), (3, .int (nI a)), (4, .int (nI b))], [], wC (va_cpy ov ov (Int32.toNatClampNeg (nI a)) (Int32.toNatClampNeg (nI r)) 1) un nx dp fa cu st fi se th db cn F, 0)) rfl (cp_ok1 (x := a) (y := r) (by omega) (by omega)) ?_
  refine mm_skip (mm_call_mono _ _) 7 (st' := (32, [(5, .int 1), (0, .ref 1), (1, .int 0), (2, .int (nI r)), (3, .int (nI a)), (4, .int (nI b))], [.int 1, .int (nI r), .ref 9, .int (nI a), .ref 9], wC (va_cpy ov ov (Int32.toNatClampNeg (nI a)) (Int32.toNatClampNeg (nI r)) 1) un nx dp fa cu st fi se th db cn F, 0)) rfl ?_
  rw [nI_clamp (show a < 2 ^ 31 by omega)]
  rw [nI_clamp (show r < 2 ^ 31 by omega)]
  show mm_W _ _ _ _ _ _ _ (32, [(5, .int 1), (0, .ref 1), (1, .int 0), (2, .int (nI r)), (3, .int (nI a)), (4, .int (nI b))], [.int 1, .int (nI r), .ref 9, .int (nI a), .ref 9], wC (va_cpy ov ov a r 1) un nx dp fa cu st fi se th db cn F, 0)
  refine mm_need (mm_call_mono _ _) (c := ¬ (nI a) < 0 ∧ ¬ (nI r) < 0 ∧ ¬ (1 : Int32) < 0 ∧ (Int32.toNatClampNeg (nI a)) + 1 ≤ 1332 ∧ (Int32.toNatClampNeg (nI r)) + 1 ≤ 1332) (s' := (35, [(5, .int 1), (0, .ref 1), (1, .int 0), (2, .int (nI r)), (3, .int (nI a)), (4, .int (nI b))], [], wC (va_cpy ov ov a r 1) (va_cpy un un (Int32.toNatClampNeg (nI a)) (Int32.toNatClampNeg (nI r)) 1) nx dp fa cu st fi se th db cn F, 0)) rfl (cp_ok1 (x := a) (y := r) (by omega) (by omega)) ?_
  refine mm_skip (mm_call_mono _ _) 9 (st' := (51, [(5, .int 1), (0, .ref 1), (1, .int 0), (2, .int (nI r)), (3, .int (nI a)), (4, .int (nI b))], [.int 1, .int ((nI r) + 1), .ref 8, .int (nI b), .ref 8], wC (va_cpy ov ov a r 1) (va_cpy un un (Int32.toNatClampNeg (nI a)) (Int32.toNatClampNeg (nI r)) 1) nx dp fa cu st fi se th db cn F, 0)) rfl ?_
  rw [nI_p1 (r)]
  show mm_W _ _ _ _ _ _ _ (51, [(5, .int 1), (0, .ref 1), (1, .int 0), (2, .int (nI r)), (3, .int (nI a)), (4, .int (nI b))], [.int 1, .int (nI (r + 1)), .ref 8, .int (nI b), .ref 8], wC (va_cpy ov ov a r 1) (va_cpy un un (Int32.toNatClampNeg (nI a)) (Int32.toNatClampNeg (nI r)) 1) nx dp fa cu st fi se th db cn F, 0)
  rw [nI_clamp (show a < 2 ^ 31 by omega)]
  rw [nI_clamp (show r < 2 ^ 31 by omega)]
  show mm_W _ _ _ _ _ _ _ (51, [(5, .int 1), (0, .ref 1), (1, .int 0), (2, .int (nI r)), (3, .int (nI a)), (4, .int (nI b))], [.int 1, .int (nI (r + 1)), .ref 8, .int (nI b), .ref 8], wC (va_cpy ov ov a r 1) (va_cpy un un a r 1) nx dp fa cu st fi se th db cn F, 0)
  refine mm_need (mm_call_mono _ _) (c := ¬ (nI b) < 0 ∧ ¬ (nI (r + 1)) < 0 ∧ ¬ (1 : Int32) < 0 ∧ (Int32.toNatClampNeg (nI b)) + 1 ≤ 1332 ∧ (Int32.toNatClampNeg (nI (r + 1))) + 1 ≤ 1332) (s' := (54, [(5, .int 1), (0, .ref 1), (1, .int 0), (2, .int (nI r)), (3, .int (nI a)), (4, .int (nI b))], [], wC (va_cpy (va_cpy ov ov a r 1) (va_cpy ov ov a r 1) (Int32.toNatClampNeg (nI b)) (Int32.toNatClampNeg (nI (r + 1))) 1) (va_cpy un un a r 1) nx dp fa cu st fi se th db cn F, 0)) rfl (cp_ok1 (x := b) (y := r + 1) (by omega) (by omega)) ?_
  refine mm_skip (mm_call_mono _ _) 9 (st' := (70, [(5, .int 1), (0, .ref 1), (1, .int 0), (2, .int (nI r)), (3, .int (nI a)), (4, .int (nI b))], [.int 1, .int ((nI r) + 1), .ref 9, .int (nI b), .ref 9], wC (va_cpy (va_cpy ov ov a r 1) (va_cpy ov ov a r 1) (Int32.toNatClampNeg (nI b)) (Int32.toNatClampNeg (nI (r + 1))) 1) (va_cpy un un a r 1) nx dp fa cu st fi se th db cn F, 0)) rfl ?_
  rw [nI_p1 (r)]
  show mm_W _ _ _ _ _ _ _ (70, [(5, .int 1), (0, .ref 1), (1, .int 0), (2, .int (nI r)), (3, .int (nI a)), (4, .int (nI b))], [.int 1, .int (nI (r + 1)), .ref 9, .int (nI b), .ref 9], wC (va_cpy (va_cpy ov ov a r 1) (va_cpy ov ov a r 1) (Int32.toNatClampNeg (nI b)) (Int32.toNatClampNeg (nI (r + 1))) 1) (va_cpy un un a r 1) nx dp fa cu st fi se th db cn F, 0)
  rw [nI_clamp (show b < 2 ^ 31 by omega)]
  rw [nI_clamp (show (r + 1) < 2 ^ 31 by omega)]
  show mm_W _ _ _ _ _ _ _ (70, [(5, .int 1), (0, .ref 1), (1, .int 0), (2, .int (nI r)), (3, .int (nI a)), (4, .int (nI b))], [.int 1, .int (nI (r + 1)), .ref 9, .int (nI b), .ref 9], wC (va_cpy (va_cpy ov ov a r 1) (va_cpy ov ov a r 1) b (r + 1) 1) (va_cpy un un a r 1) nx dp fa cu st fi se th db cn F, 0)
  refine mm_need (mm_call_mono _ _) (c := ¬ (nI b) < 0 ∧ ¬ (nI (r + 1)) < 0 ∧ ¬ (1 : Int32) < 0 ∧ (Int32.toNatClampNeg (nI b)) + 1 ≤ 1332 ∧ (Int32.toNatClampNeg (nI (r + 1))) + 1 ≤ 1332) (s' := (73, [(5, .int 1), (0, .ref 1), (1, .int 0), (2, .int (nI r)), (3, .int (nI a)), (4, .int (nI b))], [], wC (va_cpy (va_cpy ov ov a r 1) (va_cpy ov ov a r 1) b (r + 1) 1) (va_cpy (va_cpy un un a r 1) (va_cpy un un a r 1) (Int32.toNatClampNeg (nI b)) (Int32.toNatClampNeg (nI (r + 1))) 1) nx dp fa cu st fi se th db cn F, 0)) rfl (cp_ok1 (x := b) (y := r + 1) (by omega) (by omega)) ?_
  refine mm_skip (mm_call_mono _ _) 6 (st' := (81, [(5, .int 1), (0, .ref 1), (1, .int 0), (2, .int (nI r)), (3, .int (nI a)), (4, .int (nI b))], [.int (nI r)], wC (va_cpy (va_cpy ov ov a r 1) (va_cpy ov ov a r 1) b (r + 1) 1) (va_cpy (va_cpy un un a r 1) (va_cpy un un a r 1) (Int32.toNatClampNeg (nI b)) (Int32.toNatClampNeg (nI (r + 1))) 1) ((nI r) + 4) dp fa cu st fi se th db cn F, 0)) rfl ?_
  rw [nI_p4 (r)]
  show mm_W _ _ _ _ _ _ _ (81, [(5, .int 1), (0, .ref 1), (1, .int 0), (2, .int (nI r)), (3, .int (nI a)), (4, .int (nI b))], [.int (nI r)], wC (va_cpy (va_cpy ov ov a r 1) (va_cpy ov ov a r 1) b (r + 1) 1) (va_cpy (va_cpy un un a r 1) (va_cpy un un a r 1) (Int32.toNatClampNeg (nI b)) (Int32.toNatClampNeg (nI (r + 1))) 1) (nI (r + 4)) dp fa cu st fi se th db cn F, 0)
  rw [nI_clamp (show b < 2 ^ 31 by omega)]
  rw [nI_clamp (show (r + 1) < 2 ^ 31 by omega)]
  show mm_W _ _ _ _ _ _ _ (81, [(5, .int 1), (0, .ref 1), (1, .int 0), (2, .int (nI r)), (3, .int (nI a)), (4, .int (nI b))], [.int (nI r)], wC (va_cpy (va_cpy ov ov a r 1) (va_cpy ov ov a r 1) b (r + 1) 1) (va_cpy (va_cpy un un a r 1) (va_cpy un un a r 1) b (r + 1) 1) (nI (r + 4)) dp fa cu st fi se th db cn F, 0)
  exact mm_ret (mm_call_mono _ _) (c := True) (r := .inl (some (.int (nI r)))) (M := wC (va_cpy (va_cpy ov ov a r 1) (va_cpy ov ov a r 1) b (r + 1) 1) (va_cpy (va_cpy un un a r 1) (va_cpy un un a r 1) b (r + 1) 1) (nI (r + 4)) dp fa cu st fi se th db cn F) (u := 0) rfl trivial (by decide) hQ

set_option maxRecDepth 100000 in
theorem ct_N_pair_1 {d : Nat} {ov un : Nat → Int32} {nx dp fa : Int32} {cu : mm_cu} {st fi se th db : Nat → Int32} {cn : Int32} {F : mm_M} {r a b : Nat} {Q : mm_R → mm_M → Prop} (hr : r + 4 ≤ 1332) (ha : a + 2 ≤ 1332) (hb : b + 2 ≤ 1332) (hQ : Q (.inl (some (.int (nI r)))) (wC (prow ov 2 r a b) (prow un 2 r a b) (nI (r + 4)) dp fa cu st fi se th db cn F)) : mm_call mm_Tb (d + 1) 140 [.ref 1, .int 1, .int (nI r), .int (nI a), .int (nI b)] (wC ov un nx dp fa cu st fi se th db cn F) Q := by
  refine mm_in mt_140 (Nat.le_of_ble_eq_true rfl) ?_
  show mm_W _ _ _ _ _ _ _ (0, [(0, .ref 1), (1, .int 1), (2, .int (nI r)), (3, .int (nI a)), (4, .int (nI b))], [], wC ov un nx dp fa cu st fi se th db cn F, 0)
  refine mm_skip (mm_call_mono _ _) 11 (st' := (17, [(5, .int 2), (0, .ref 1), (1, .int 1), (2, .int (nI r)), (3, .int (nI a)), (4, .int (nI b))], [.int 2, .int (nI r), .ref 8, .int (nI a), .ref 8], wC ov un nx dp fa cu st fi se th db cn F, 0)) rfl ?_
  refine mm_need (mm_call_mono _ _) (c := ¬ (nI a) < 0 ∧ ¬ (nI r) < 0 ∧ ¬ (2 : Int32) < 0 ∧ (Int32.toNatClampNeg (nI a)) + 2 ≤ 1332 ∧ (Int32.toNatClampNeg (nI r)) + 2 ≤ 1332) (s' := (20, [(5, .int 2), (0, .ref 1), (1, .int 1), (2, .int (nI r)), (3, .int (nI a)), (4, .int (nI b))], [], wC (va_cpy ov ov (Int32.toNatClampNeg (nI a)) (Int32.toNatClampNeg (nI r)) 2) un nx dp fa cu st fi se th db cn F, 0)) rfl (cp_ok2 (x := a) (y := r) (by omega) (by omega)) ?_
  refine mm_skip (mm_call_mono _ _) 7 (st' := (32, [(5, .int 2), (0, .ref 1), (1, .int 1), (2, .int (nI r)), (3, .int (nI a)), (4, .int (nI b))], [.int 2, .int (nI r), .ref 9, .int (nI a), .ref 9], wC (va_cpy ov ov (Int32.toNatClampNeg (nI a)) (Int32.toNatClampNeg (nI r)) 2) un nx dp fa cu st fi se th db cn F, 0)) rfl ?_
  rw [nI_clamp (show a < 2 ^ 31 by omega)]
  rw [nI_clamp (show r < 2 ^ 31 by omega)]
  show mm_W _ _ _ _ _ _ _ (32, [(5, .int 2), (0, .ref 1), (1, .int 1), (2, .int (nI r)), (3, .int (nI a)), (4, .int (nI b))], [.int 2, .int (nI r), .ref 9, .int (nI a), .ref 9], wC (va_cpy ov ov a r 2) un nx dp fa cu st fi se th db cn F, 0)
  refine mm_need (mm_call_mono _ _) (c := ¬ (nI a) < 0 ∧ ¬ (nI r) < 0 ∧ ¬ (2 : Int32) < 0 ∧ (Int32.toNatClampNeg (nI a)) + 2 ≤ 1332 ∧ (Int32.toNatClampNeg (nI r)) + 2 ≤ 1332) (s' := (35, [(5, .int 2), (0, .ref 1), (1, .int 1), (2, .int (nI r)), (3, .int (nI a)), (4, .int (nI b))], [], wC (va_cpy ov ov a r 2) (va_cpy un un (Int32.toNatClampNeg (nI a)) (Int32.toNatClampNeg (nI r)) 2) nx dp fa cu st fi se th db cn F, 0)) rfl (cp_ok2 (x := a) (y := r) (by omega) (by omega)) ?_
  refine mm_skip (mm_call_mono _ _) 9 (st' := (51, [(5, .int 2), (0, .ref 1), (1, .int 1), (2, .int (nI r)), (3, .int (nI a)), (4, .int (nI b))], [.int 2, .int ((nI r) + 2), .ref 8, .int (nI b), .ref 8], wC (va_cpy ov ov a r 2) (va_cpy un un (Int32.toNatClampNeg (nI a)) (Int32.toNatClampNeg (nI r)) 2) nx dp fa cu st fi se th db cn F, 0)) rfl ?_
  rw [nI_p2 (r)]
  show mm_W _ _ _ _ _ _ _ (51, [(5, .int 2), (0, .ref 1), (1, .int 1), (2, .int (nI r)), (3, .int (nI a)), (4, .int (nI b))], [.int 2, .int (nI (r + 2)), .ref 8, .int (nI b), .ref 8], wC (va_cpy ov ov a r 2) (va_cpy un un (Int32.toNatClampNeg (nI a)) (Int32.toNatClampNeg (nI r)) 2) nx dp fa cu st fi se th db cn F, 0)
  rw [nI_clamp (show a < 2 ^ 31 by omega)]
  rw [nI_clamp (show r < 2 ^ 31 by omega)]
  show mm_W _ _ _ _ _ _ _ (51, [(5, .int 2), (0, .ref 1), (1, .int 1), (2, .int (nI r)), (3, .int (nI a)), (4, .int (nI b))], [.int 2, .int (nI (r + 2)), .ref 8, .int (nI b), .ref 8], wC (va_cpy ov ov a r 2) (va_cpy un un a r 2) nx dp fa cu st fi se th db cn F, 0)
  refine mm_need (mm_call_mono _ _) (c := ¬ (nI b) < 0 ∧ ¬ (nI (r + 2)) < 0 ∧ ¬ (2 : Int32) < 0 ∧ (Int32.toNatClampNeg (nI b)) + 2 ≤ 1332 ∧ (Int32.toNatClampNeg (nI (r + 2))) + 2 ≤ 1332) (s' := (54, [(5, .int 2), (0, .ref 1), (1, .int 1), (2, .int (nI r)), (3, .int (nI a)), (4, .int (nI b))], [], wC (va_cpy (va_cpy ov ov a r 2) (va_cpy ov ov a r 2) (Int32.toNatClampNeg (nI b)) (Int32.toNatClampNeg (nI (r + 2))) 2) (va_cpy un un a r 2) nx dp fa cu st fi se th db cn F, 0)) rfl (cp_ok2 (x := b) (y := r + 2) (by omega) (by omega)) ?_
  refine mm_skip (mm_call_mono _ _) 9 (st' := (70, [(5, .int 2), (0, .ref 1), (1, .int 1), (2, .int (nI r)), (3, .int (nI a)), (4, .int (nI b))], [.int 2, .int ((nI r) + 2), .ref 9, .int (nI b), .ref 9], wC (va_cpy (va_cpy ov ov a r 2) (va_cpy ov ov a r 2) (Int32.toNatClampNeg (nI b)) (Int32.toNatClampNeg (nI (r + 2))) 2) (va_cpy un un a r 2) nx dp fa cu st fi se th db cn F, 0)) rfl ?_
  rw [nI_p2 (r)]
  show mm_W _ _ _ _ _ _ _ (70, [(5, .int 2), (0, .ref 1), (1, .int 1), (2, .int (nI r)), (3, .int (nI a)), (4, .int (nI b))], [.int 2, .int (nI (r + 2)), .ref 9, .int (nI b), .ref 9], wC (va_cpy (va_cpy ov ov a r 2) (va_cpy ov ov a r 2) (Int32.toNatClampNeg (nI b)) (Int32.toNatClampNeg (nI (r + 2))) 2) (va_cpy un un a r 2) nx dp fa cu st fi se th db cn F, 0)
  rw [nI_clamp (show b < 2 ^ 31 by omega)]
  rw [nI_clamp (show (r + 2) < 2 ^ 31 by omega)]
  show mm_W _ _ _ _ _ _ _ (70, [(5, .int 2), (0, .ref 1), (1, .int 1), (2, .int (nI r)), (3, .int (nI a)), (4, .int (nI b))], [.int 2, .int (nI (r + 2)), .ref 9, .int (nI b), .ref 9], wC (va_cpy (va_cpy ov ov a r 2) (va_cpy ov ov a r 2) b (r + 2) 2) (va_cpy un un a r 2) nx dp fa cu st fi se th db cn F, 0)
  refine mm_need (mm_call_mono _ _) (c := ¬ (nI b) < 0 ∧ ¬ (nI (r + 2)) < 0 ∧ ¬ (2 : Int32) < 0 ∧ (Int32.toNatClampNeg (nI b)) + 2 ≤ 1332 ∧ (Int32.toNatClampNeg (nI (r + 2))) + 2 ≤ 1332) (s' := (73, [(5, .int 2), (0, .ref 1), (1, .int 1), (2, .int (nI r)), (3, .int (nI a)), (4, .int (nI b))], [], wC (va_cpy (va_cpy ov ov a r 2) (va_cpy ov ov a r 2) b (r + 2) 2) (va_cpy (va_cpy un un a r 2) (va_cpy un un a r 2) (Int32.toNatClampNeg (nI b)) (Int32.toNatClampNeg (nI (r + 2))) 2) nx dp fa cu st fi se th db cn F, 0)) rfl (cp_ok2 (x := b) (y := r + 2) (by omega) (by omega)) ?_
  refine mm_skip (mm_call_mono _ _) 6 (st' := (81, [(5, .int 2), (0, .ref 1), (1, .int 1), (2, .int (nI r)), (3, .int (nI a)), (4, .int (nI b))], [.int (nI r)], wC (va_cpy (va_cpy ov ov a r 2) (va_cpy ov ov a r 2) b (r + 2) 2) (va_cpy (va_cpy un un a r 2) (va_cpy un un a r 2) (Int32.toNatClampNeg (nI b)) (Int32.toNatClampNeg (nI (r + 2))) 2) ((nI r) + 4) dp fa cu st fi se th db cn F, 0)) rfl ?_
  rw [nI_p4 (r)]
  show mm_W _ _ _ _ _ _ _ (81, [(5, .int 2), (0, .ref 1), (1, .int 1), (2, .int (nI r)), (3, .int (nI a)), (4, .int (nI b))], [.int (nI r)], wC (va_cpy (va_cpy ov ov a r 2) (va_cpy ov ov a r 2) b (r + 2) 2) (va_cpy (va_cpy un un a r 2) (va_cpy un un a r 2) (Int32.toNatClampNeg (nI b)) (Int32.toNatClampNeg (nI (r + 2))) 2) (nI (r + 4)) dp fa cu st fi se th db cn F, 0)
  rw [nI_clamp (show b < 2 ^ 31 by omega)]
  rw [nI_clamp (show (r + 2) < 2 ^ 31 by omega)]
  show mm_W _ _ _ _ _ _ _ (81, [(5, .int 2), (0, .ref 1), (1, .int 1), (2, .int (nI r)), (3, .int (nI a)), (4, .int (nI b))], [.int (nI r)], wC (va_cpy (va_cpy ov ov a r 2) (va_cpy ov ov a r 2) b (r + 2) 2) (va_cpy (va_cpy un un a r 2) (va_cpy un un a r 2) b (r + 2) 2) (nI (r + 4)) dp fa cu st fi se th db cn F, 0)
  exact mm_ret (mm_call_mono _ _) (c := True) (r := .inl (some (.int (nI r)))) (M := wC (va_cpy (va_cpy ov ov a r 2) (va_cpy ov ov a r 2) b (r + 2) 2) (va_cpy (va_cpy un un a r 2) (va_cpy un un a r 2) b (r + 2) 2) (nI (r + 4)) dp fa cu st fi se th db cn F) (u := 0) rfl trivial (by decide) hQ

