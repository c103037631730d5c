theorem bd2 {X Y : Type} {T : Option X} {k : X → Option Y} {q : Y} {P : Prop} (h : T.bind k = some q) (hk : ∀ x, T = some x → k x = some q → P) : P := by
  cases T with
  | none => cases h
  | some x => exact hk x rfl h
theorem le3_of {x : Int32} (h : x < 4) : x ≤ 3 := by
  rw [Int32.lt_iff_toInt_lt, show (4 : Int32).toInt = 4 by decide] at h
  rw [Int32.le_iff_toInt_le, show (3 : Int32).toInt = 3 by decide]
  omega
/-- what told says -/
def tdR (w x : Int32) (c : Nat) (y : Int32) : Prop := (w = 0 → c = 0 ∧ y = x) ∧ (¬ w = 0 → c = 2 ∧ y = 0) ∧ mm_z y
theorem oB_0 {P : Prop} [Decidable P] {x : Int32} (h : x = bz P) : oB (some (decide P)) = (0, x) := by
  rw [h]
  exact congrArg (Prod.mk 0) (bz_congr decide_eq_true_iff)
set_option maxRecDepth 100000 in
theorem rk_told2 {d : Nat} {pre : mm_pre} {p q op oq : Nat → Int64} {tr dp wi fa ob : Int32} {st of : Nat → Int32} {F : mm_M} {x : Int32} {Q : mm_R → mm_M → Prop} (hx : mm_z x) (hQ : ∀ (c : Nat) (b : Int32), tdR wi x c b → Q (.inl (some (.int b))) (wP pre (wN p q op oq (nI c) dp wi fa ob st of F))) : mm_call mm_Tb (d + 1) 109 [.ref 10, .int x] (wP pre (wN p q op oq tr dp wi fa ob st of F)) Q := by
  refine mm_in mt_109 (Nat.le_of_ble_eq_true rfl) ?_
  show mm_W _ _ _ _ _ _ _ (0, [(0, .ref 10), (1, .int x)], [], wP pre (wN p q op oq tr dp wi fa ob st of F), 0)
  refine mm_skip (mm_call_mono _ _) 3 (st' := (5, [(0, .ref 10), (1, .int x)], [.int wi, .ref 10], wP pre (wN p q op oq tr dp wi fa ob st of F), 0)) rfl ?_
  refine mm_branch (mm_call_mono _ _) (c := wi = 0) (s1 := (12, [(0, .ref 10), (1, .int x)], [.ref 10], wP pre (wN p q op oq tr dp wi fa ob st of F), 0)) (s2 := (8, [(0, .ref 10), (1, .int x)], [.ref 10], wP pre (wN p q op oq tr dp wi fa ob st of F), 0)) rfl (fun z1 => ?_) (fun z1 => ?_)
  · skip
    refine mm_skip (mm_call_mono _ _) 3 (st' := (17, [(0, .ref 10), (1, .int x)], [.int x], wP pre (wN p q op oq 0 dp wi fa ob st of F), 0)) rfl ?_
    refine mm_branch (mm_call_mono _ _) (c := x = 0) (s1 := (31, [(0, .ref 10), (1, .int x)], [], wP pre (wN p q op oq 0 dp wi fa ob st of F), 0)) (s2 := (20, [(0, .ref 10), (1, .int x)], [], wP pre (wN p q op oq 0 dp wi fa ob st of F), 0)) rfl (fun z2 => ?_) (fun z2 => ?_)
    · skip
      refine mm_skip (mm_call_mono _ _) 1 (st' := (32, [(0, .ref 10), (1, .int x)], [.int 0], wP pre (wN p q op oq 0 dp wi fa ob st of F), 0)) rfl ?_
      exact mm_ret (mm_call_mono _ _) (c := mm_z 0) (r := .inl (some (.int 0))) (M := wP pre (wN p q op oq 0 dp wi fa ob st of F)) (u := 0) rfl (by unfold mm_z; decide) (by decide) (hQ 0 _ ⟨fun _ => ⟨rfl, z2.symm⟩, fun h => absurd z1 h, (by unfold mm_z; decide)⟩)
    · skip
      refine mm_skip (mm_call_mono _ _) 2 (st' := (24, [(0, .ref 10), (1, .int x)], [.int wi], wP pre (wN p q op oq 0 dp wi fa ob st of F), 0)) rfl ?_
      refine mm_branch (mm_call_mono _ _) (c := wi = 0) (s1 := (27, [(0, .ref 10), (1, .int x)], [], wP pre (wN p q op oq 0 dp wi fa ob st of F), 0)) (s2 := (31, [(0, .ref 10), (1, .int x)], [], wP pre (wN p q op oq 0 dp wi fa ob st of F), 0)) rfl (fun _ => ?_) (fun h => absurd z1 h)
      refine mm_skip (mm_call_mono _ _) 2 (st' := (32, [(0, .ref 10), (1, .int x)], [.int 1], wP pre (wN p q op oq 0 dp wi fa ob st of F), 0)) rfl ?_
      exact mm_ret (mm_call_mono _ _) (c := mm_z 1) (r := .inl (some (.int 1))) (M := wP pre (wN p q op oq 0 dp wi fa ob st of F)) (u := 0) rfl (by unfold mm_z; decide) (by decide) (hQ 0 _ ⟨fun _ => ⟨rfl, (mm_z1 hx z2).symm⟩, fun h => absurd z1 h, (by unfold mm_z; decide)⟩)
  · skip
    refine mm_skip (mm_call_mono _ _) 4 (st' := (17, [(0, .ref 10), (1, .int x)], [.int x], wP pre (wN p q op oq 2 dp wi fa ob st of F), 0)) rfl ?_
    refine mm_branch (mm_call_mono _ _) (c := x = 0) (s1 := (31, [(0, .ref 10), (1, .int x)], [], wP pre (wN p q op oq 2 dp wi fa ob st of F), 0)) (s2 := (20, [(0, .ref 10), (1, .int x)], [], wP pre (wN p q op oq 2 dp wi fa ob st of F), 0)) rfl (fun z2 => ?_) (fun z2 => ?_)
    · skip
      refine mm_skip (mm_call_mono _ _) 1 (st' := (32, [(0, .ref 10), (1, .int x)], [.int 0], wP pre (wN p q op oq 2 dp wi fa ob st of F), 0)) rfl ?_
      exact mm_ret (mm_call_mono _ _) (c := mm_z 0) (r := .inl (some (.int 0))) (M := wP pre (wN p q op oq 2 dp wi fa ob st of F)) (u := 0) rfl (by unfold mm_z; decide) (by decide) (hQ 2 _ ⟨fun h => absurd h z1, fun _ => ⟨rfl, rfl⟩, (by unfold mm_z; decide)⟩)
    · skip
      refine mm_skip (mm_call_mono _ _) 2 (st' := (24, [(0, .ref 10), (1, .int x)], [.int wi], wP pre (wN p q op oq 2 dp wi fa ob st of F), 0)) rfl ?_
      refine mm_branch (mm_call_mono _ _) (c := wi = 0) (s1 := (27, [(0, .ref 10), (1, .int x)], [], wP pre (wN p q op oq 2 dp wi fa ob st of F), 0)) (s2 := (31, [(0, .ref 10), (1, .int x)], [], wP pre (wN p q op oq 2 dp wi fa ob st of F), 0)) rfl (fun h => absurd h z1) (fun _ => ?_)
      refine mm_skip (mm_call_mono _ _) 1 (st' := (32, [(0, .ref 10), (1, .int x)], [.int 0], wP pre (wN p q op oq 2 dp wi fa ob st of F), 0)) rfl ?_
      exact mm_ret (mm_call_mono _ _) (c := mm_z 0) (r := .inl (some (.int 0))) (M := wP pre (wN p q op oq 2 dp wi fa ob st of F)) (u := 0) rfl (by unfold mm_z; decide) (by decide) (hQ 2 _ ⟨fun h => absurd h z1, fun _ => ⟨rfl, rfl⟩, (by unfold mm_z; decide)⟩)

set_option maxRecDepth 100000 in
theorem rx_same {d : Nat} {pre : mm_pre} {s : Nat → fr} {op oq : Nat → Int64} {tr wi fa : Int32} {st of : Nat → Int32} {F : mm_M} {S : Nat → stp} {k : Nat} {L : lvR} {v : Nat → o3} {x1 x2 : Int32} {Q : mm_R → mm_M → Prop} (hk : k ≤ 24) (hS : ∀ i, i < k → stR st of S i) (hw : ∀ i, i < k → wf S i) (hR : rI S s k v L) (hQ : ∀ (s1 : Nat → fr) (w1 : Int32) (r : oc), qSame S k x1 x2 = r → (∀ j, j < 300 → s1 j = s j) → (∀ j, fv (s1 j)) → Q (.inl (some (.int (rv r)))) (wP pre (wN (PP s1) (QQ s1) op oq (nI r.1) (nI L.1) w1 fa (nI k) st of F))) : mm_call mm_Tb (d + 17) 111 [.ref 10, .int x1, .int x2] (wP pre (wN (PP s) (QQ s) op oq tr (nI L.1) wi fa (nI k) st of F)) Q := by
  have hV := hR.2.2.2.2.1
  have hl := hR.2.1
  have R := hR.2.2.1
  have S0 := ms_0 (wi := 0) (Z := fun k => 300 ≤ k) hV (Or.inl rfl)
  have hgv := gv_s hR.1
  refine mm_in mt_111 (Nat.le_of_ble_eq_true rfl) ?_
  show mm_W _ _ _ _ _ _ _ (0, [(0, .ref 10), (1, .int x1), (2, .int x2)], [], wP pre (wN (PP s) (QQ s) op oq tr (nI L.1) wi fa (nI k) st of F), 0)
  refine mm_skip (mm_call_mono _ _) 3 (st' := (3, [(0, .ref 10), (1, .int x1), (2, .int x2)], [.int x1, .ref 10, .ref 10], wP pre (wN (PP s) (QQ s) op oq tr (nI L.1) wi fa (nI k) st of F), 0)) rfl ?_
  refine mm_inv (mm_call_mono _ _) (j := 97) (a := [.ref 10, .int x1]) (M := wP pre (wN (PP s) (QQ s) op oq tr (nI L.1) wi fa (nI k) st of F)) (u := 0) rfl (by decide) (rk_isPoint hk hS hw ?_)
  show mm_W _ _ _ _ _ _ _ (6, [(0, .ref 10), (1, .int x1), (2, .int x2)], [.int (bz (ckd S k x1 = 0)), .ref 10], wP pre (wN (PP s) (QQ s) op oq tr (nI L.1) wi fa (nI k) st of F), 0)
  refine mm_branch (mm_call_mono _ _) (c := (bz (ckd S k x1 = 0)) = 0) (s1 := (21, [(0, .ref 10), (1, .int x1), (2, .int x2)], [.ref 10], wP pre (wN (PP s) (QQ s) op oq tr (nI L.1) wi fa (nI k) st of F), 0)) (s2 := (9, [(0, .ref 10), (1, .int x1), (2, .int x2)], [.ref 10], wP pre (wN (PP s) (QQ s) op oq tr (nI L.1) wi fa (nI k) st of F), 0)) rfl (fun z1 => ?_) (fun z1 => ?_)
  · skip
    refine mm_skip (mm_call_mono _ _) 4 (st' := (29, [(0, .ref 10), (1, .int x1), (2, .int x2)], [.int 1], wP pre (wN (PP s) (QQ s) op oq 1 (nI L.1) wi fa (nI k) st of F), 0)) rfl ?_
    refine mm_branch (mm_call_mono _ _) (c := (1 : Int32) = 0) (s1 := (32, [(0, .ref 10), (1, .int x1), (2, .int x2)], [], wP pre (wN (PP s) (QQ s) op oq 1 (nI L.1) wi fa (nI k) st of F), 0)) (s2 := (66, [(0, .ref 10), (1, .int x1), (2, .int x2)], [], wP pre (wN (PP s) (QQ s) op oq 1 (nI L.1) wi fa (nI k) st of F), 0)) rfl (fun h => absurd h (by decide)) (fun _ => ?_)
    refine mm_skip (mm_call_mono _ _) 1 (st' := (67, [(0, .ref 10), (1, .int x1), (2, .int x2)], [.int 0], wP pre (wN (PP s) (QQ s) op oq 1 (nI L.1) wi fa (nI k) st of F), 0)) rfl ?_
    exact mm_ret (mm_call_mono _ _) (c := mm_z 0) (r := .inl (some (.int 0))) (M := wP pre (wN (PP s) (QQ s) op oq 1 (nI L.1) wi fa (nI k) st of F)) (u := 0) rfl (by unfold mm_z; decide) (by decide) (hQ _ _ (1, 0) (if_neg (fun z => bz_0 z1 z.1)) (fun _ _ => rfl) hR.2.2.2.2.1)
  · skip
    refine mm_skip (mm_call_mono _ _) 2 (st' := (11, [(0, .ref 10), (1, .int x1), (2, .int x2)], [.int x2, .ref 10, .ref 10], wP pre (wN (PP s) (QQ s) op oq tr (nI L.1) wi fa (nI k) st of F), 0)) rfl ?_
    refine mm_inv (mm_call_mono _ _) (j := 97) (a := [.ref 10, .int x2]) (M := wP pre (wN (PP s) (QQ s) op oq tr (nI L.1) wi fa (nI k) st of F)) (u := 0) rfl (by decide) (rk_isPoint hk hS hw ?_)
    show mm_W _ _ _ _ _ _ _ (14, [(0, .ref 10), (1, .int x1), (2, .int x2)], [.int (bz (ckd S k x2 = 0)), .ref 10], wP pre (wN (PP s) (QQ s) op oq tr (nI L.1) wi fa (nI k) st of F), 0)
    refine mm_branch (mm_call_mono _ _) (c := (bz (ckd S k x2 = 0)) = 0) (s1 := (21, [(0, .ref 10), (1, .int x1), (2, .int x2)], [.ref 10], wP pre (wN (PP s) (QQ s) op oq tr (nI L.1) wi fa (nI k) st of F), 0)) (s2 := (17, [(0, .ref 10), (1, .int x1), (2, .int x2)], [.ref 10], wP pre (wN (PP s) (QQ s) op oq tr (nI L.1) wi fa (nI k) st of F), 0)) rfl (fun z2 => ?_) (fun z2 => ?_)
    · skip
      refine mm_skip (mm_call_mono _ _) 4 (st' := (29, [(0, .ref 10), (1, .int x1), (2, .int x2)], [.int 1], wP pre (wN (PP s) (QQ s) op oq 1 (nI L.1) wi fa (nI k) st of F), 0)) rfl ?_
      refine mm_branch (mm_call_mono _ _) (c := (1 : Int32) = 0) (s1 := (32, [(0, .ref 10), (1, .int x1), (2, .int x2)], [], wP pre (wN (PP s) (QQ s) op oq 1 (nI L.1) wi fa (nI k) st of F), 0)) (s2 := (66, [(0, .ref 10), (1, .int x1), (2, .int x2)], [], wP pre (wN (PP s) (QQ s) op oq 1 (nI L.1) wi fa (nI k) st of F), 0)) rfl (fun h => absurd h (by decide)) (fun _ => ?_)
      refine mm_skip (mm_call_mono _ _) 1 (st' := (67, [(0, .ref 10), (1, .int x1), (2, .int x2)], [.int 0], wP pre (wN (PP s) (QQ s) op oq 1 (nI L.1) wi fa (nI k) st of F), 0)) rfl ?_
      exact mm_ret (mm_call_mono _ _) (c := mm_z 0) (r := .inl (some (.int 0))) (M := wP pre (wN (PP s) (QQ s) op oq 1 (nI L.1) wi fa (nI k) st of F)) (u := 0) rfl (by unfold mm_z; decide) (by decide) (hQ _ _ (1, 0) (if_neg (fun z => bz_0 z2 z.2)) (fun _ _ => rfl) hR.2.2.2.2.1)
    · skip
      have u1 := bz_1 z1
      have u2 := bz_1 z2
      obtain ⟨i, hi, rfl, pi⟩ := ckd_pt hk (bz_1 z1)
      obtain ⟨Xi, Yi, Zi⟩ := hR.2.2.2.1 i hi
      obtain ⟨j, hj, rfl, pj⟩ := ckd_pt hk (bz_1 z2)
      obtain ⟨Xj, Yj, Zj⟩ := hR.2.2.2.1 j hj
      refine mm_skip (mm_call_mono _ _) 5 (st' := (29, [(0, .ref 10), (1, .int (nI i)), (2, .int (nI j))], [.int 0], wP pre (wN (PP s) (QQ s) op oq 0 (nI L.1) wi fa (nI k) st of F), 0)) rfl ?_
      refine mm_branch (mm_call_mono _ _) (c := (0 : Int32) = 0) (s1 := (32, [(0, .ref 10), (1, .int (nI i)), (2, .int (nI j))], [], wP pre (wN (PP s) (QQ s) op oq 0 (nI L.1) wi fa (nI k) st of F), 0)) (s2 := (66, [(0, .ref 10), (1, .int (nI i)), (2, .int (nI j))], [], wP pre (wN (PP s) (QQ s) op oq 0 (nI L.1) wi fa (nI k) st of F), 0)) rfl (fun _ => ?_) (fun h => absurd (by decide) h)
      refine mm_skip (mm_call_mono _ _) 2 (st' := (34, [(0, .ref 10), (1, .int (nI i)), (2, .int (nI j))], [.int (nI i), .ref 10], wP pre (wN (PP s) (QQ s) op oq 0 (nI L.1) wi fa (nI k) st of F), 0)) rfl ?_
      refine mm_inv (mm_call_mono _ _) (j := 83) (a := [.int (nI i)]) (M := wP pre (wN (PP s) (QQ s) op oq 0 (nI L.1) wi fa (nI k) st of F)) (u := 0) rfl (by decide) (rm_xOf (o := i) ?_)
      show mm_W _ _ _ _ _ _ _ (37, [(0, .ref 10), (1, .int (nI i)), (2, .int (nI j))], [.int (nI (12 * i)), .ref 10], wP pre (wN (PP s) (QQ s) op oq 0 (nI L.1) wi fa (nI k) st of F), 0)
      refine mm_skip (mm_call_mono _ _) 1 (st' := (38, [(0, .ref 10), (1, .int (nI i)), (2, .int (nI j))], [.int (nI j), .int (nI (12 * i)), .ref 10], wP pre (wN (PP s) (QQ s) op oq 0 (nI L.1) wi fa (nI k) st of F), 0)) rfl ?_
      refine mm_inv (mm_call_mono _ _) (j := 83) (a := [.int (nI j)]) (M := wP pre (wN (PP s) (QQ s) op oq 0 (nI L.1) wi fa (nI k) st of F)) (u := 0) rfl (by decide) (rm_xOf (o := j) ?_)
      show mm_W _ _ _ _ _ _ _ (41, [(0, .ref 10), (1, .int (nI i)), (2, .int (nI j))], [.int (nI (12 * j)), .int (nI (12 * i)), .ref 10], wP pre (wN (PP s) (QQ s) op oq 0 (nI L.1) wi fa (nI k) st of F), 0)
      refine mm_inv (mm_call_mono _ _) (j := 64) (a := [.ref 10, .int (nI (12 * i)), .int (nI (12 * j))]) (M := wP pre (wN (PP s) (QQ s) op oq 0 (nI L.1) wi fa (nI k) st of F)) (u := 0) rfl (by decide) (rm_alike (A := (12 * i)) (B := (12 * j)) hV (by omega) (by omega) ?_)
      show mm_W _ _ _ _ _ _ _ (44, [(0, .ref 10), (1, .int (nI i)), (2, .int (nI j))], [.int (bz (alm s ((12 * i)) ((12 * j))))], wP pre (wN (PP s) (QQ s) op oq 0 (nI L.1) wi fa (nI k) st of F), 0)
      refine mm_branch (mm_call_mono _ _) (c := (bz (alm s ((12 * i)) ((12 * j)))) = 0) (s1 := (66, [(0, .ref 10), (1, .int (nI i)), (2, .int (nI j))], [], wP pre (wN (PP s) (QQ s) op oq 0 (nI L.1) wi fa (nI k) st of F), 0)) (s2 := (47, [(0, .ref 10), (1, .int (nI i)), (2, .int (nI j))], [], wP pre (wN (PP s) (QQ s) op oq 0 (nI L.1) wi fa (nI k) st of F), 0)) rfl (fun g1 => ?_) (fun g1 => ?_)
      · skip
        refine mm_skip (mm_call_mono _ _) 1 (st' := (67, [(0, .ref 10), (1, .int (nI i)), (2, .int (nI j))], [.int 0], wP pre (wN (PP s) (QQ s) op oq 0 (nI L.1) wi fa (nI k) st of F), 0)) rfl ?_
        exact mm_ret (mm_call_mono _ _) (c := mm_z 0) (r := .inl (some (.int 0))) (M := wP pre (wN (PP s) (QQ s) op oq 0 (nI L.1) wi fa (nI k) st of F)) (u := 0) rfl (by unfold mm_z; decide) (by decide) (by have e9 := hQ s wi (0, bz ((v i).1 = (v j).1 ∧ (v i).2.1 = (v j).2.1)) (show qSame S k (nI i) (nI j) = (0, bz ((v i).1 = (v j).1 ∧ (v i).2.1 = (v j).2.1)) from (if_pos ⟨u1, u2⟩).trans (by rw [hgv, cl_n (by omega), cl_n (by omega)])) (fun _ _ => rfl) hR.2.2.2.2.1; rw [bz_f (fun z => bz_0 g1 ((alm_eq Xi Xj).mpr z.1))] at e9; exact e9)
      · skip
        refine mm_skip (mm_call_mono _ _) 2 (st' := (49, [(0, .ref 10), (1, .int (nI i)), (2, .int (nI j))], [.int (nI i), .ref 10], wP pre (wN (PP s) (QQ s) op oq 0 (nI L.1) wi fa (nI k) st of F), 0)) rfl ?_
        refine mm_inv (mm_call_mono _ _) (j := 84) (a := [.int (nI i)]) (M := wP pre (wN (PP s) (QQ s) op oq 0 (nI L.1) wi fa (nI k) st of F)) (u := 0) rfl (by decide) (rm_yOf (o := i) ?_)
        show mm_W _ _ _ _ _ _ _ (52, [(0, .ref 10), (1, .int (nI i)), (2, .int (nI j))], [.int (nI (12 * i + 4)), .ref 10], wP pre (wN (PP s) (QQ s) op oq 0 (nI L.1) wi fa (nI k) st of F), 0)
        refine mm_skip (mm_call_mono _ _) 1 (st' := (53, [(0, .ref 10), (1, .int (nI i)), (2, .int (nI j))], [.int (nI j), .int (nI (12 * i + 4)), .ref 10], wP pre (wN (PP s) (QQ s) op oq 0 (nI L.1) wi fa (nI k) st of F), 0)) rfl ?_
        refine mm_inv (mm_call_mono _ _) (j := 84) (a := [.int (nI j)]) (M := wP pre (wN (PP s) (QQ s) op oq 0 (nI L.1) wi fa (nI k) st of F)) (u := 0) rfl (by decide) (rm_yOf (o := j) ?_)
        show mm_W _ _ _ _ _ _ _ (56, [(0, .ref 10), (1, .int (nI i)), (2, .int (nI j))], [.int (nI (12 * j + 4)), .int (nI (12 * i + 4)), .ref 10], wP pre (wN (PP s) (QQ s) op oq 0 (nI L.1) wi fa (nI k) st of F), 0)
        refine mm_inv (mm_call_mono _ _) (j := 64) (a := [.ref 10, .int (nI (12 * i + 4)), .int (nI (12 * j + 4))]) (M := wP pre (wN (PP s) (QQ s) op oq 0 (nI L.1) wi fa (nI k) st of F)) (u := 0) rfl (by decide) (rm_alike (A := (12 * i + 4)) (B := (12 * j + 4)) hV (by omega) (by omega) ?_)
        show mm_W _ _ _ _ _ _ _ (59, [(0, .ref 10), (1, .int (nI i)), (2, .int (nI j))], [.int (bz (alm s ((12 * i + 4)) ((12 * j + 4))))], wP pre (wN (PP s) (QQ s) op oq 0 (nI L.1) wi fa (nI k) st of F), 0)
        refine mm_branch (mm_call_mono _ _) (c := (bz (alm s ((12 * i + 4)) ((12 * j + 4)))) = 0) (s1 := (66, [(0, .ref 10), (1, .int (nI i)), (2, .int (nI j))], [], wP pre (wN (PP s) (QQ s) op oq 0 (nI L.1) wi fa (nI k) st of F), 0)) (s2 := (62, [(0, .ref 10), (1, .int (nI i)), (2, .int (nI j))], [], wP pre (wN (PP s) (QQ s) op oq 0 (nI L.1) wi fa (nI k) st of F), 0)) rfl (fun g2 => ?_) (fun g2 => ?_)
        · skip
          refine mm_skip (mm_call_mono _ _) 1 (st' := (67, [(0, .ref 10), (1, .int (nI i)), (2, .int (nI j))], [.int 0], wP pre (wN (PP s) (QQ s) op oq 0 (nI L.1) wi fa (nI k) st of F), 0)) rfl ?_
          exact mm_ret (mm_call_mono _ _) (c := mm_z 0) (r := .inl (some (.int 0))) (M := wP pre (wN (PP s) (QQ s) op oq 0 (nI L.1) wi fa (nI k) st of F)) (u := 0) rfl (by unfold mm_z; decide) (by decide) (by have e9 := hQ s wi (0, bz ((v i).1 = (v j).1 ∧ (v i).2.1 = (v j).2.1)) (show qSame S k (nI i) (nI j) = (0, bz ((v i).1 = (v j).1 ∧ (v i).2.1 = (v j).2.1)) from (if_pos ⟨u1, u2⟩).trans (by rw [hgv, cl_n (by omega), cl_n (by omega)])) (fun _ _ => rfl) hR.2.2.2.2.1; rw [bz_f (fun z => bz_0 g2 ((alm_eq Yi Yj).mpr z.2))] at e9; exact e9)
        · skip
          refine mm_skip (mm_call_mono _ _) 2 (st' := (67, [(0, .ref 10), (1, .int (nI i)), (2, .int (nI j))], [.int 1], wP pre (wN (PP s) (QQ s) op oq 0 (nI L.1) wi fa (nI k) st of F), 0)) rfl ?_
          exact mm_ret (mm_call_mono _ _) (c := mm_z 1) (r := .inl (some (.int 1))) (M := wP pre (wN (PP s) (QQ s) op oq 0 (nI L.1) wi fa (nI k) st of F)) (u := 0) rfl (by unfold mm_z; decide) (by decide) (by have e9 := hQ s wi (0, bz ((v i).1 = (v j).1 ∧ (v i).2.1 = (v j).2.1)) (show qSame S k (nI i) (nI j) = (0, bz ((v i).1 = (v j).1 ∧ (v i).2.1 = (v j).2.1)) from (if_pos ⟨u1, u2⟩).trans (by rw [hgv, cl_n (by omega), cl_n (by omega)])) (fun _ _ => rfl) hR.2.2.2.2.1; rw [bz_t ⟨(alm_eq Xi Xj).mp (bz_1 g1), (alm_eq Yi Yj).mp (bz_1 g2)⟩] at e9; exact e9)

set_option maxRecDepth 100000 in
theorem rx_equal {d : Nat} {pre : mm_pre} {s : Nat → fr} {op oq : Nat → Int64} {tr wi fa : Int32} {st of : Nat → Int32} {F : mm_M} {S : Nat → stp} {k : Nat} {L : lvR} {v : Nat → o3} {x1 x2 x3 x4 : Int32} {Q : mm_R → mm_M → Prop} (hk : k ≤ 24) (hS : ∀ i, i < k → stR st of S i) (hw : ∀ i, i < k → wf S i) (hR : rI S s k v L) (hQ : ∀ (s1 : Nat → fr) (w1 : Int32) (r : oc), qEq S k x1 x2 x3 x4 = r → (∀ j, j < 300 → s1 j = s j) → (∀ j, fv (s1 j)) → Q (.inl (some (.int (rv r)))) (wP pre (wN (PP s1) (QQ s1) op oq (nI r.1) (nI L.1) w1 fa (nI k) st of F))) : mm_call mm_Tb (d + 17) 112 [.ref 10, .int x1, .int x2, .int x3, .int x4] (wP pre (wN (PP s) (QQ s) op oq tr (nI L.1) wi fa (nI k) st of F)) Q := by
  have hV := hR.2.2.2.2.1
  have hl := hR.2.1
  have R := hR.2.2.1
  have S0 := ms_0 (wi := 0) (Z := fun k => 300 ≤ k) hV (Or.inl rfl)
  have hgv := gv_s hR.1
  refine mm_in mt_112 (Nat.le_of_ble_eq_true rfl) ?_
  show mm_W _ _ _ _ _ _ _ (0, [(0, .ref 10), (1, .int x1), (2, .int x2), (3, .int x3), (4, .int x4)], [], wP pre (wN (PP s) (QQ s) op oq tr (nI L.1) wi fa (nI k) st of F), 0)
  refine mm_skip (mm_call_mono _ _) 3 (st' := (3, [(0, .ref 10), (1, .int x1), (2, .int x2), (3, .int x3), (4, .int x4)], [.int x1, .ref 10, .ref 10], wP pre (wN (PP s) (QQ s) op oq tr (nI L.1) wi fa (nI k) st of F), 0)) rfl ?_
  refine mm_inv (mm_call_mono _ _) (j := 97) (a := [.ref 10, .int x1]) (M := wP pre (wN (PP s) (QQ s) op oq tr (nI L.1) wi fa (nI k) st of F)) (u := 0) rfl (by decide) (rk_isPoint hk hS hw ?_)
  show mm_W _ _ _ _ _ _ _ (6, [(0, .ref 10), (1, .int x1), (2, .int x2), (3, .int x3), (4, .int x4)], [.int (bz (ckd S k x1 = 0)), .ref 10], wP pre (wN (PP s) (QQ s) op oq tr (nI L.1) wi fa (nI k) st of F), 0)
  refine mm_branch (mm_call_mono _ _) (c := (bz (ckd S k x1 = 0)) = 0) (s1 := (38, [(0, .ref 10), (1, .int x1), (2, .int x2), (3, .int x3), (4, .int x4)], [.ref 10], wP pre (wN (PP s) (QQ s) op oq tr (nI L.1) wi fa (nI k) st of F), 0)) (s2 := (9, [(0, .ref 10), (1, .int x1), (2, .int x2), (3, .int x3), (4, .int x4)], [.ref 10], wP pre (wN (PP s) (QQ s) op oq tr (nI L.1) wi fa (nI k) st of F), 0)) rfl (fun z1 => ?_) (fun z1 => ?_)
  · skip
    refine mm_skip (mm_call_mono _ _) 4 (st' := (46, [(0, .ref 10), (1, .int x1), (2, .int x2), (3, .int x3), (4, .int x4)], [.int 1], wP pre (wN (PP s) (QQ s) op oq 1 (nI L.1) wi fa (nI k) st of F), 0)) rfl ?_
    refine mm_branch (mm_call_mono _ _) (c := (1 : Int32) ≤ 0) (s1 := (51, [(0, .ref 10), (1, .int x1), (2, .int x2), (3, .int x3), (4, .int x4)], [], wP pre (wN (PP s) (QQ s) op oq 1 (nI L.1) wi fa (nI k) st of F), 0)) (s2 := (49, [(0, .ref 10), (1, .int x1), (2, .int x2), (3, .int x3), (4, .int x4)], [], wP pre (wN (PP s) (QQ s) op oq 1 (nI L.1) wi fa (nI k) st of F), 0)) rfl (fun h => absurd h (by decide)) (fun _ => ?_)
    refine mm_skip (mm_call_mono _ _) 1 (st' := (50, [(0, .ref 10), (1, .int x1), (2, .int x2), (3, .int x3), (4, .int x4)], [.int 0], wP pre (wN (PP s) (QQ s) op oq 1 (nI L.1) wi fa (nI k) st of F), 0)) rfl ?_
    exact mm_ret (mm_call_mono _ _) (c := mm_z 0) (r := .inl (some (.int 0))) (M := wP pre (wN (PP s) (QQ s) op oq 1 (nI L.1) wi fa (nI k) st of F)) (u := 0) rfl (by unfold mm_z; decide) (by decide) (hQ _ _ (1, 0) (if_neg (fun z => bz_0 z1 z.1)) (fun _ _ => rfl) hR.2.2.2.2.1)
  · skip
    refine mm_skip (mm_call_mono _ _) 2 (st' := (11, [(0, .ref 10), (1, .int x1), (2, .int x2), (3, .int x3), (4, .int x4)], [.int x2, .ref 10, .ref 10], wP pre (wN (PP s) (QQ s) op oq tr (nI L.1) wi fa (nI k) st of F), 0)) rfl ?_
    refine mm_inv (mm_call_mono _ _) (j := 97) (a := [.ref 10, .int x2]) (M := wP pre (wN (PP s) (QQ s) op oq tr (nI L.1) wi fa (nI k) st of F)) (u := 0) rfl (by decide) (rk_isPoint hk hS hw ?_)
    show mm_W _ _ _ _ _ _ _ (14, [(0, .ref 10), (1, .int x1), (2, .int x2), (3, .int x3), (4, .int x4)], [.int (bz (ckd S k x2 = 0)), .ref 10], wP pre (wN (PP s) (QQ s) op oq tr (nI L.1) wi fa (nI k) st of F), 0)
    refine mm_branch (mm_call_mono _ _) (c := (bz (ckd S k x2 = 0)) = 0) (s1 := (38, [(0, .ref 10), (1, .int x1), (2, .int x2), (3, .int x3), (4, .int x4)], [.ref 10], wP pre (wN (PP s) (QQ s) op oq tr (nI L.1) wi fa (nI k) st of F), 0)) (s2 := (17, [(0, .ref 10), (1, .int x1), (2, .int x2), (3, .int x3), (4, .int x4)], [.ref 10], wP pre (wN (PP s) (QQ s) op oq tr (nI L.1) wi fa (nI k) st of F), 0)) rfl (fun z2 => ?_) (fun z2 => ?_)
    · skip
      refine mm_skip (mm_call_mono _ _) 4 (st' := (46, [(0, .ref 10), (1, .int x1), (2, .int x2), (3, .int x3), (4, .int x4)], [.int 1], wP pre (wN (PP s) (QQ s) op oq 1 (nI L.1) wi fa (nI k) st of F), 0)) rfl ?_
      refine mm_branch (mm_call_mono _ _) (c := (1 : Int32) ≤ 0) (s1 := (51, [(0, .ref 10), (1, .int x1), (2, .int x2), (3, .int x3), (4, .int x4)], [], wP pre (wN (PP s) (QQ s) op oq 1 (nI L.1) wi fa (nI k) st of F), 0)) (s2 := (49, [(0, .ref 10), (1, .int x1), (2, .int x2), (3, .int x3), (4, .int x4)], [], wP pre (wN (PP s) (QQ s) op oq 1 (nI L.1) wi fa (nI k) st of F), 0)) rfl (fun h => absurd h (by decide)) (fun _ => ?_)
      refine mm_skip (mm_call_mono _ _) 1 (st' := (50, [(0, .ref 10), (1, .int x1), (2, .int x2), (3, .int x3), (4, .int x4)], [.int 0], wP pre (wN (PP s) (QQ s) op oq 1 (nI L.1) wi fa (nI k) st of F), 0)) rfl ?_
      exact mm_ret (mm_call_mono _ _) (c := mm_z 0) (r := .inl (some (.int 0))) (M := wP pre (wN (PP s) (QQ s) op oq 1 (nI L.1) wi fa (nI k) st of F)) (u := 0) rfl (by unfold mm_z; decide) (by decide) (hQ _ _ (1, 0) (if_neg (fun z => bz_0 z2 z.2.1)) (fun _ _ => rfl) hR.2.2.2.2.1)
    · skip
      refine mm_skip (mm_call_mono _ _) 2 (st' := (19, [(0, .ref 10), (1, .int x1), (2, .int x2), (3, .int x3), (4, .int x4)], [.int x3, .ref 10, .ref 10], wP pre (wN (PP s) (QQ s) op oq tr (nI L.1) wi fa (nI k) st of F), 0)) rfl ?_
      refine mm_inv (mm_call_mono _ _) (j := 97) (a := [.ref 10, .int x3]) (M := wP pre (wN (PP s) (QQ s) op oq tr (nI L.1) wi fa (nI k) st of F)) (u := 0) rfl (by decide) (rk_isPoint hk hS hw ?_)
      show mm_W _ _ _ _ _ _ _ (22, [(0, .ref 10), (1, .int x1), (2, .int x2), (3, .int x3), (4, .int x4)], [.int (bz (ckd S k x3 = 0)), .ref 10], wP pre (wN (PP s) (QQ s) op oq tr (nI L.1) wi fa (nI k) st of F), 0)
      refine mm_branch (mm_call_mono _ _) (c := (bz (ckd S k x3 = 0)) = 0) (s1 := (38, [(0, .ref 10), (1, .int x1), (2, .int x2), (3, .int x3), (4, .int x4)], [.ref 10], wP pre (wN (PP s) (QQ s) op oq tr (nI L.1) wi fa (nI k) st of F), 0)) (s2 := (25, [(0, .ref 10), (1, .int x1), (2, .int x2), (3, .int x3), (4, .int x4)], [.ref 10], wP pre (wN (PP s) (QQ s) op oq tr (nI L.1) wi fa (nI k) st of F), 0)) rfl (fun z3 => ?_) (fun z3 => ?_)
      · skip
        refine mm_skip (mm_call_mono _ _) 4 (st' := (46, [(0, .ref 10), (1, .int x1), (2, .int x2), (3, .int x3), (4, .int x4)], [.int 1], wP pre (wN (PP s) (QQ s) op oq 1 (nI L.1) wi fa (nI k) st of F), 0)) rfl ?_
        refine mm_branch (mm_call_mono _ _) (c := (1 : Int32) ≤ 0) (s1 := (51, [(0, .ref 10), (1, .int x1), (2, .int x2), (3, .int x3), (4, .int x4)], [], wP pre (wN (PP s) (QQ s) op oq 1 (nI L.1) wi fa (nI k) st of F), 0)) (s2 := (49, [(0, .ref 10), (1, .int x1), (2, .int x2), (3, .int x3), (4, .int x4)], [], wP pre (wN (PP s) (QQ s) op oq 1 (nI L.1) wi fa (nI k) st of F), 0)) rfl (fun h => absurd h (by decide)) (fun _ => ?_)
        refine mm_skip (mm_call_mono _ _) 1 (st' := (50, [(0, .ref 10), (1, .int x1), (2, .int x2), (3, .int x3), (4, .int x4)], [.int 0], wP pre (wN (PP s) (QQ s) op oq 1 (nI L.1) wi fa (nI k) st of F), 0)) rfl ?_
        exact mm_ret (mm_call_mono _ _) (c := mm_z 0) (r := .inl (some (.int 0))) (M := wP pre (wN (PP s) (QQ s) op oq 1 (nI L.1) wi fa (nI k) st of F)) (u := 0) rfl (by unfold mm_z; decide) (by decide) (hQ _ _ (1, 0) (if_neg (fun z => bz_0 z3 z.2.2.1)) (fun _ _ => rfl) hR.2.2.2.2.1)
      · skip
        refine mm_skip (mm_call_mono _ _) 2 (st' := (28, [(0, .ref 10), (1, .int x1), (2, .int x2), (3, .int x3), (4, .int x4)], [.int x4, .ref 10, .ref 10], wP pre (wN (PP s) (QQ s) op oq tr (nI L.1) wi fa (nI k) st of F), 0)) rfl ?_
        refine mm_inv (mm_call_mono _ _) (j := 97) (a := [.ref 10, .int x4]) (M := wP pre (wN (PP s) (QQ s) op oq tr (nI L.1) wi fa (nI k) st of F)) (u := 0) rfl (by decide) (rk_isPoint hk hS hw ?_)
        show mm_W _ _ _ _ _ _ _ (31, [(0, .ref 10), (1, .int x1), (2, .int x2), (3, .int x3), (4, .int x4)], [.int (bz (ckd S k x4 = 0)), .ref 10], wP pre (wN (PP s) (QQ s) op oq tr (nI L.1) wi fa (nI k) st of F), 0)
        refine mm_branch (mm_call_mono _ _) (c := (bz (ckd S k x4 = 0)) = 0) (s1 := (38, [(0, .ref 10), (1, .int x1), (2, .int x2), (3, .int x3), (4, .int x4)], [.ref 10], wP pre (wN (PP s) (QQ s) op oq tr (nI L.1) wi fa (nI k) st of F), 0)) (s2 := (34, [(0, .ref 10), (1, .int x1), (2, .int x2), (3, .int x3), (4, .int x4)], [.ref 10], wP pre (wN (PP s) (QQ s) op oq tr (nI L.1) wi fa (nI k) st of F), 0)) rfl (fun z4 => ?_) (fun z4 => ?_)
        · skip
          refine mm_skip (mm_call_mono _ _) 4 (st' := (46, [(0, .ref 10), (1, .int x1), (2, .int x2), (3, .int x3), (4, .int x4)], [.int 1], wP pre (wN (PP s) (QQ s) op oq 1 (nI L.1) wi fa (nI k) st of F), 0)) rfl ?_
          refine mm_branch (mm_call_mono _ _) (c := (1 : Int32) ≤ 0) (s1 := (51, [(0, .ref 10), (1, .int x1), (2, .int x2), (3, .int x3), (4, .int x4)], [], wP pre (wN (PP s) (QQ s) op oq 1 (nI L.1) wi fa (nI k) st of F), 0)) (s2 := (49, [(0, .ref 10), (1, .int x1), (2, .int x2), (3, .int x3), (4, .int x4)], [], wP pre (wN (PP s) (QQ s) op oq 1 (nI L.1) wi fa (nI k) st of F), 0)) rfl (fun h => absurd h (by decide)) (fun _ => ?_)
          refine mm_skip (mm_call_mono _ _) 1 (st' := (50, [(0, .ref 10), (1, .int x1), (2, .int x2), (3, .int x3), (4, .int x4)], [.int 0], wP pre (wN (PP s) (QQ s) op oq 1 (nI L.1) wi fa (nI k) st of F), 0)) rfl ?_
          exact mm_ret (mm_call_mono _ _) (c := mm_z 0) (r := .inl (some (.int 0))) (M := wP pre (wN (PP s) (QQ s) op oq 1 (nI L.1) wi fa (nI k) st of F)) (u := 0) rfl (by unfold mm_z; decide) (by decide) (hQ _ _ (1, 0) (if_neg (fun z => bz_0 z4 z.2.2.2)) (fun _ _ => rfl) hR.2.2.2.2.1)
        · skip
          have u1 := bz_1 z1
          have u2 := bz_1 z2
          have u3 := bz_1 z3
          have u4 := bz_1 z4
          obtain ⟨i, hi, rfl, pi⟩ := ckd_pt hk (bz_1 z1)
          obtain ⟨Xi, Yi, Zi⟩ := hR.2.2.2.1 i hi
          obtain ⟨j, hj, rfl, pj⟩ := ckd_pt hk (bz_1 z2)
          obtain ⟨Xj, Yj, Zj⟩ := hR.2.2.2.1 j hj
          obtain ⟨g, hg, rfl, pg⟩ := ckd_pt hk (bz_1 z3)
          obtain ⟨Xg, Yg, Zg⟩ := hR.2.2.2.1 g hg
          obtain ⟨m, hm, rfl, pm⟩ := ckd_pt hk (bz_1 z4)
          obtain ⟨Xm, Ym, Zm⟩ := hR.2.2.2.1 m hm
          have E0 : (0 : Int32) = 0 → tEq v L i j g m = Option.bind (xdist L (v i).1 (v i).2.1 (v j).1 (v j).2.1) _ := fun _ => rfl
          have F0 : (0 : Int32) = 1 → (0 : Int32) = 0 → tEq v L i j g m = none := fun h1 h0 => absurd (h1.symm.trans h0) z10
          refine mm_skip (mm_call_mono _ _) 5 (st' := (46, [(0, .ref 10), (1, .int (nI i)), (2, .int (nI j)), (3, .int (nI g)), (4, .int (nI m))], [.int 0], wP pre (wN (PP s) (QQ s) op oq 0 (nI L.1) wi fa (nI k) st of F), 0)) rfl ?_
          refine mm_branch (mm_call_mono _ _) (c := (0 : Int32) ≤ 0) (s1 := (51, [(0, .ref 10), (1, .int (nI i)), (2, .int (nI j)), (3, .int (nI g)), (4, .int (nI m))], [], wP pre (wN (PP s) (QQ s) op oq 0 (nI L.1) wi fa (nI k) st of F), 0)) (s2 := (49, [(0, .ref 10), (1, .int (nI i)), (2, .int (nI j)), (3, .int (nI g)), (4, .int (nI m))], [], wP pre (wN (PP s) (QQ s) op oq 0 (nI L.1) wi fa (nI k) st of F), 0)) rfl (fun _ => ?_) (fun h => absurd (by decide) h)
          refine mm_skip (mm_call_mono _ _) 2 (st' := (53, [(0, .ref 10), (1, .int (nI i)), (2, .int (nI j)), (3, .int (nI g)), (4, .int (nI m))], [.int 0, .ref 10], wP pre (wN (PP s) (QQ s) op oq 0 (nI L.1) wi fa (nI k) st of F), 0)) rfl ?_
          refine mm_need (mm_call_mono _ _) (c := mm_z 0) (s' := (56, [(0, .ref 10), (1, .int (nI i)), (2, .int (nI j)), (3, .int (nI g)), (4, .int (nI m))], [], wP pre (wN (PP s) (QQ s) op oq 0 (nI L.1) 0 fa (nI k) st of F), 0)) rfl (by unfold mm_z; decide) ?_
          refine mm_skip (mm_call_mono _ _) 2 (st' := (58, [(0, .ref 10), (1, .int (nI i)), (2, .int (nI j)), (3, .int (nI g)), (4, .int (nI m))], [.int 0, .ref 10], wP pre (wN (PP s) (QQ s) op oq 0 (nI L.1) 0 fa (nI k) st of F), 0)) rfl ?_
          refine mm_inv (mm_call_mono _ _) (j := 85) (a := [.int 0]) (M := wP pre (wN (PP s) (QQ s) op oq 0 (nI L.1) 0 fa (nI k) st of F)) (u := 0) rfl (by decide) (rm_work ?_)
          show mm_W _ _ _ _ _ _ _ (61, [(0, .ref 10), (1, .int (nI i)), (2, .int (nI j)), (3, .int (nI g)), (4, .int (nI m))], [.int 368, .ref 10], wP pre (wN (PP s) (QQ s) op oq 0 (nI L.1) 0 fa (nI k) st of F), 0)
          refine mm_skip (mm_call_mono _ _) 2 (st' := (63, [(0, .ref 10), (1, .int (nI i)), (2, .int (nI j)), (3, .int (nI g)), (4, .int (nI m))], [.int (nI j), .int (nI i), .int 368, .ref 10], wP pre (wN (PP s) (QQ s) op oq 0 (nI L.1) 0 fa (nI k) st of F), 0)) rfl ?_
          refine mm_inv (mm_call_mono _ _) (j := 88) (a := [.ref 10, .int 368, .int (nI i), .int (nI j)]) (M := wP pre (wN (PP s) (QQ s) op oq 0 (nI L.1) 0 fa (nI k) st of F)) (u := 0) rfl (by decide) (rg_squared (D0 := 368) (p := i) (q := j) hV (Or.inl rfl) hl (by omega) R Xi Yi Xj Yj (fun s1 w1 h1 => ?_))
          show mm_W _ _ _ _ _ _ _ (66, [(0, .ref 10), (1, .int (nI i)), (2, .int (nI j)), (3, .int (nI g)), (4, .int (nI m))], [], wP pre (wN (PP s1) (QQ s1) op oq 0 (nI L.1) w1 fa (nI k) st of F), 0)
          have V1 := h1.1
          have z1 := h1.2.1
          have S1 := gs_s S0 h1 (fun k => by omega)
          have F1 := g_F S0 F0 E0 h1
          have E1 := g_E E0 h1
          have R_1 := r_k R h1 (by omega)
          have Xi_1 := t_k Xi h1 (by omega)
          have Yi_1 := t_k Yi h1 (by omega)
          have Zi_1 := t_k Zi h1 (by omega)
          have Xj_1 := t_k Xj h1 (by omega)
          have Yj_1 := t_k Yj h1 (by omega)
          have Zj_1 := t_k Zj h1 (by omega)
          have Xg_1 := t_k Xg h1 (by omega)
          have Yg_1 := t_k Yg h1 (by omega)
          have Zg_1 := t_k Zg h1 (by omega)
          have Xm_1 := t_k Xm h1 (by omega)
          have Ym_1 := t_k Ym h1 (by omega)
          have Zm_1 := t_k Zm h1 (by omega)
          have W1_1 := t_new h1
          refine mm_skip (mm_call_mono _ _) 2 (st' := (68, [(0, .ref 10), (1, .int (nI i)), (2, .int (nI j)), (3, .int (nI g)), (4, .int (nI m))], [.int 1, .ref 10], wP pre (wN (PP s1) (QQ s1) op oq 0 (nI L.1) w1 fa (nI k) st of F), 0)) rfl ?_
          refine mm_inv (mm_call_mono _ _) (j := 85) (a := [.int 1]) (M := wP pre (wN (PP s1) (QQ s1) op oq 0 (nI L.1) w1 fa (nI k) st of F)) (u := 0) rfl (by decide) (rm_work ?_)
          show mm_W _ _ _ _ _ _ _ (71, [(0, .ref 10), (1, .int (nI i)), (2, .int (nI j)), (3, .int (nI g)), (4, .int (nI m))], [.int 372, .ref 10], wP pre (wN (PP s1) (QQ s1) op oq 0 (nI L.1) w1 fa (nI k) st of F), 0)
          refine mm_skip (mm_call_mono _ _) 2 (st' := (74, [(0, .ref 10), (1, .int (nI i)), (2, .int (nI j)), (3, .int (nI g)), (4, .int (nI m))], [.int (nI m), .int (nI g), .int 372, .ref 10], wP pre (wN (PP s1) (QQ s1) op oq 0 (nI L.1) w1 fa (nI k) st of F), 0)) rfl ?_
          refine mm_inv (mm_call_mono _ _) (j := 88) (a := [.ref 10, .int 372, .int (nI g), .int (nI m)]) (M := wP pre (wN (PP s1) (QQ s1) op oq 0 (nI L.1) w1 fa (nI k) st of F)) (u := 0) rfl (by decide) (rg_squared (D0 := 372) (p := g) (q := m) V1 z1 hl (by omega) R_1 Xg_1 Yg_1 Xm_1 Ym_1 (fun s2 w2 h2 => ?_))
          show mm_W _ _ _ _ _ _ _ (77, [(0, .ref 10), (1, .int (nI i)), (2, .int (nI j)), (3, .int (nI g)), (4, .int (nI m))], [], wP pre (wN (PP s2) (QQ s2) op oq 0 (nI L.1) w2 fa (nI k) st of F), 0)
          have V2 := h2.1
          have z2 := h2.2.1
          have S2 := gs_s S1 h2 (fun k => by omega)
          have F2 := g_F S1 F1 E1 h2
          have E2 := g_E E1 h2
          have R_2 := r_k R_1 h2 (by omega)
          have Xi_2 := t_k Xi_1 h2 (by omega)
          have Yi_2 := t_k Yi_1 h2 (by omega)
          have Zi_2 := t_k Zi_1 h2 (by omega)
          have Xj_2 := t_k Xj_1 h2 (by omega)
          have Yj_2 := t_k Yj_1 h2 (by omega)
          have Zj_2 := t_k Zj_1 h2 (by omega)
          have Xg_2 := t_k Xg_1 h2 (by omega)
          have Yg_2 := t_k Yg_1 h2 (by omega)
          have Zg_2 := t_k Zg_1 h2 (by omega)
          have Xm_2 := t_k Xm_1 h2 (by omega)
          have Ym_2 := t_k Ym_1 h2 (by omega)
          have Zm_2 := t_k Zm_1 h2 (by omega)
          have W1_2 := t_k W1_1 h2 (by omega)
          have W2_2 := t_new h2
          refine mm_skip (mm_call_mono _ _) 3 (st' := (80, [(0, .ref 10), (1, .int (nI i)), (2, .int (nI j)), (3, .int (nI g)), (4, .int (nI m))], [.int 0, .ref 10, .ref 10], wP pre (wN (PP s2) (QQ s2) op oq 0 (nI L.1) w2 fa (nI k) st of F), 0)) rfl ?_
          refine mm_inv (mm_call_mono _ _) (j := 85) (a := [.int 0]) (M := wP pre (wN (PP s2) (QQ s2) op oq 0 (nI L.1) w2 fa (nI k) st of F)) (u := 0) rfl (by decide) (rm_work ?_)
          show mm_W _ _ _ _ _ _ _ (83, [(0, .ref 10), (1, .int (nI i)), (2, .int (nI j)), (3, .int (nI g)), (4, .int (nI m))], [.int 368, .ref 10, .ref 10], wP pre (wN (PP s2) (QQ s2) op oq 0 (nI L.1) w2 fa (nI k) st of F), 0)
          refine mm_skip (mm_call_mono _ _) 1 (st' := (84, [(0, .ref 10), (1, .int (nI i)), (2, .int (nI j)), (3, .int (nI g)), (4, .int (nI m))], [.int 1, .int 368, .ref 10, .ref 10], wP pre (wN (PP s2) (QQ s2) op oq 0 (nI L.1) w2 fa (nI k) st of F), 0)) rfl ?_
          refine mm_inv (mm_call_mono _ _) (j := 85) (a := [.int 1]) (M := wP pre (wN (PP s2) (QQ s2) op oq 0 (nI L.1) w2 fa (nI k) st of F)) (u := 0) rfl (by decide) (rm_work ?_)
          show mm_W _ _ _ _ _ _ _ (87, [(0, .ref 10), (1, .int (nI i)), (2, .int (nI j)), (3, .int (nI g)), (4, .int (nI m))], [.int 372, .int 368, .ref 10, .ref 10], wP pre (wN (PP s2) (QQ s2) op oq 0 (nI L.1) w2 fa (nI k) st of F), 0)
          refine mm_inv (mm_call_mono _ _) (j := 64) (a := [.ref 10, .int 368, .int 372]) (M := wP pre (wN (PP s2) (QQ s2) op oq 0 (nI L.1) w2 fa (nI k) st of F)) (u := 0) rfl (by decide) (rm_alike (A := 368) (B := 372) V2 (by omega) (by omega) ?_)
          show mm_W _ _ _ _ _ _ _ (90, [(0, .ref 10), (1, .int (nI i)), (2, .int (nI j)), (3, .int (nI g)), (4, .int (nI m))], [.int (bz (alm s2 (368) (372))), .ref 10], wP pre (wN (PP s2) (QQ s2) op oq 0 (nI L.1) w2 fa (nI k) st of F), 0)
          refine mm_inv (mm_call_mono _ _) (j := 109) (a := [.ref 10, .int (bz (alm s2 (368) (372)))]) (M := wP pre (wN (PP s2) (QQ s2) op oq 0 (nI L.1) w2 fa (nI k) st of F)) (u := 0) rfl (by decide) (rk_told2 (bz_z _) (fun c b ht => ?_))
          show mm_W _ _ _ _ _ _ _ (93, [(0, .ref 10), (1, .int (nI i)), (2, .int (nI j)), (3, .int (nI g)), (4, .int (nI m))], [.int b], wP pre (wN (PP s2) (QQ s2) op oq (nI c) (nI L.1) w2 fa (nI k) st of F), 0)
          exact mm_ret (mm_call_mono _ _) (c := mm_z b) (r := .inl (some (.int b))) (M := wP pre (wN (PP s2) (QQ s2) op oq (nI c) (nI L.1) w2 fa (nI k) st of F)) (u := 0) rfl ht.2.2 (by decide) (by rcases z2 with hz | hz; (subst hz; obtain ⟨rfl, rfl⟩ := ht.1 rfl; exact hQ _ _ (0, _) ((show qEq S k (nI i) (nI j) (nI g) (nI m) = oB (tEq v L i j g m) from (if_pos ⟨u1, u2, u3, u4⟩).trans (by rw [hgv, cl_n (by omega), cl_n (by omega), cl_n (by omega), cl_n (by omega)])).trans (by rw [E2 rfl]; exact oB_0 (bz_congr (alm_eq W1_2 W2_2)))) (fun j hj => S2.2.2.1 j (by omega)) V2); (obtain ⟨rfl, rfl⟩ := ht.2.1 (by rw [hz]; decide); exact hQ _ _ (2, 0) ((show qEq S k (nI i) (nI j) (nI g) (nI m) = oB (tEq v L i j g m) from (if_pos ⟨u1, u2, u3, u4⟩).trans (by rw [hgv, cl_n (by omega), cl_n (by omega), cl_n (by omega), cl_n (by omega)])).trans (by rw [F2 hz rfl]; rfl)) (fun j hj => S2.2.2.1 j (by omega)) V2))

set_option maxRecDepth 100000 in
theorem rx_on {d : Nat} {pre : mm_pre} {s : Nat → fr} {op oq : Nat → Int64} {tr wi fa : Int32} {st of : Nat → Int32} {F : mm_M} {S : Nat → stp} {k : Nat} {L : lvR} {v : Nat → o3} {x1 x2 : Int32} {Q : mm_R → mm_M → Prop} (hk : k ≤ 24) (hS : ∀ i, i < k → stR st of S i) (hw : ∀ i, i < k → wf S i) (hR : rI S s k v L) (hQ : ∀ (s1 : Nat → fr) (w1 : Int32) (r : oc), qOn S k x1 x2 = r → (∀ j, j < 300 → s1 j = s j) → (∀ j, fv (s1 j)) → Q (.inl (some (.int (rv r)))) (wP pre (wN (PP s1) (QQ s1) op oq (nI r.1) (nI L.1) w1 fa (nI k) st of F))) : mm_call mm_Tb (d + 17) 110 [.ref 10, .int x1, .int x2] (wP pre (wN (PP s) (QQ s) op oq tr (nI L.1) wi fa (nI k) st of F)) Q := by
  have hV := hR.2.2.2.2.1
  have hl := hR.2.1
  have R := hR.2.2.1
  have S0 := ms_0 (wi := 0) (Z := fun k => 300 ≤ k) hV (Or.inl rfl)
  have hgv := gv_s hR.1
  refine mm_in mt_110 (Nat.le_of_ble_eq_true rfl) ?_
  show mm_W _ _ _ _ _ _ _ (0, [(0, .ref 10), (1, .int x1), (2, .int x2)], [], wP pre (wN (PP s) (QQ s) op oq tr (nI L.1) wi fa (nI k) st of F), 0)
  refine mm_skip (mm_call_mono _ _) 3 (st' := (3, [(0, .ref 10), (1, .int x1), (2, .int x2)], [.int x1, .ref 10, .ref 10], wP pre (wN (PP s) (QQ s) op oq tr (nI L.1) wi fa (nI k) st of F), 0)) rfl ?_
  refine mm_inv (mm_call_mono _ _) (j := 97) (a := [.ref 10, .int x1]) (M := wP pre (wN (PP s) (QQ s) op oq tr (nI L.1) wi fa (nI k) st of F)) (u := 0) rfl (by decide) (rk_isPoint hk hS hw ?_)
  show mm_W _ _ _ _ _ _ _ (6, [(0, .ref 10), (1, .int x1), (2, .int x2)], [.int (bz (ckd S k x1 = 0)), .ref 10], wP pre (wN (PP s) (QQ s) op oq tr (nI L.1) wi fa (nI k) st of F), 0)
  refine mm_branch (mm_call_mono _ _) (c := (bz (ckd S k x1 = 0)) = 0) (s1 := (21, [(0, .ref 10), (1, .int x1), (2, .int x2)], [.ref 10], wP pre (wN (PP s) (QQ s) op oq tr (nI L.1) wi fa (nI k) st of F), 0)) (s2 := (9, [(0, .ref 10), (1, .int x1), (2, .int x2)], [.ref 10], wP pre (wN (PP s) (QQ s) op oq tr (nI L.1) wi fa (nI k) st of F), 0)) rfl (fun z1 => ?_) (fun z1 => ?_)
  · skip
    refine mm_skip (mm_call_mono _ _) 4 (st' := (29, [(0, .ref 10), (1, .int x1), (2, .int x2)], [.int 1], wP pre (wN (PP s) (QQ s) op oq 1 (nI L.1) wi fa (nI k) st of F), 0)) rfl ?_
    refine mm_branch (mm_call_mono _ _) (c := (1 : Int32) ≤ 0) (s1 := (34, [(0, .ref 10), (1, .int x1), (2, .int x2)], [], wP pre (wN (PP s) (QQ s) op oq 1 (nI L.1) wi fa (nI k) st of F), 0)) (s2 := (32, [(0, .ref 10), (1, .int x1), (2, .int x2)], [], wP pre (wN (PP s) (QQ s) op oq 1 (nI L.1) wi fa (nI k) st of F), 0)) rfl (fun h => absurd h (by decide)) (fun _ => ?_)
    refine mm_skip (mm_call_mono _ _) 1 (st' := (33, [(0, .ref 10), (1, .int x1), (2, .int x2)], [.int 0], wP pre (wN (PP s) (QQ s) op oq 1 (nI L.1) wi fa (nI k) st of F), 0)) rfl ?_
    exact mm_ret (mm_call_mono _ _) (c := mm_z 0) (r := .inl (some (.int 0))) (M := wP pre (wN (PP s) (QQ s) op oq 1 (nI L.1) wi fa (nI k) st of F)) (u := 0) rfl (by unfold mm_z; decide) (by decide) (hQ _ _ (1, 0) (if_neg (fun z => bz_0 z1 z.1)) (fun _ _ => rfl) hR.2.2.2.2.1)
  · skip
    have u1 := bz_1 z1
    obtain ⟨i, hi, rfl, pi⟩ := ckd_pt hk (bz_1 z1)
    obtain ⟨Xi, Yi, Zi⟩ := hR.2.2.2.1 i hi
    refine mm_skip (mm_call_mono _ _) 2 (st' := (11, [(0, .ref 10), (1, .int (nI i)), (2, .int x2)], [.int x2, .ref 10, .ref 10], wP pre (wN (PP s) (QQ s) op oq tr (nI L.1) wi fa (nI k) st of F), 0)) rfl ?_
    refine mm_inv (mm_call_mono _ _) (j := 98) (a := [.ref 10, .int x2]) (M := wP pre (wN (PP s) (QQ s) op oq tr (nI L.1) wi fa (nI k) st of F)) (u := 0) rfl (by decide) (rk_kind hk hS hw ?_)
    show mm_W _ _ _ _ _ _ _ (14, [(0, .ref 10), (1, .int (nI i)), (2, .int x2)], [.int (ckd S k x2), .ref 10], wP pre (wN (PP s) (QQ s) op oq tr (nI L.1) wi fa (nI k) st of F), 0)
    refine mm_branch (mm_call_mono _ _) (c := (ckd S k x2) ≤ 0) (s1 := (21, [(0, .ref 10), (1, .int (nI i)), (2, .int x2)], [.ref 10], wP pre (wN (PP s) (QQ s) op oq tr (nI L.1) wi fa (nI k) st of F), 0)) (s2 := (17, [(0, .ref 10), (1, .int (nI i)), (2, .int x2)], [.ref 10], wP pre (wN (PP s) (QQ s) op oq tr (nI L.1) wi fa (nI k) st of F), 0)) rfl (fun z2 => ?_) (fun z2 => ?_)
    · skip
      refine mm_skip (mm_call_mono _ _) 4 (st' := (29, [(0, .ref 10), (1, .int (nI i)), (2, .int x2)], [.int 1], wP pre (wN (PP s) (QQ s) op oq 1 (nI L.1) wi fa (nI k) st of F), 0)) rfl ?_
      refine mm_branch (mm_call_mono _ _) (c := (1 : Int32) ≤ 0) (s1 := (34, [(0, .ref 10), (1, .int (nI i)), (2, .int x2)], [], wP pre (wN (PP s) (QQ s) op oq 1 (nI L.1) wi fa (nI k) st of F), 0)) (s2 := (32, [(0, .ref 10), (1, .int (nI i)), (2, .int x2)], [], wP pre (wN (PP s) (QQ s) op oq 1 (nI L.1) wi fa (nI k) st of F), 0)) rfl (fun h => absurd h (by decide)) (fun _ => ?_)
      refine mm_skip (mm_call_mono _ _) 1 (st' := (33, [(0, .ref 10), (1, .int (nI i)), (2, .int x2)], [.int 0], wP pre (wN (PP s) (QQ s) op oq 1 (nI L.1) wi fa (nI k) st of F), 0)) rfl ?_
      exact mm_ret (mm_call_mono _ _) (c := mm_z 0) (r := .inl (some (.int 0))) (M := wP pre (wN (PP s) (QQ s) op oq 1 (nI L.1) wi fa (nI k) st of F)) (u := 0) rfl (by unfold mm_z; decide) (by decide) (hQ _ _ (1, 0) (if_neg (fun z => z.2.elim (fun e => absurd z2 (by rw [e]; decide)) (fun e => absurd z2 (by rw [e]; decide)))) (fun _ _ => rfl) hR.2.2.2.2.1)
    · skip
      obtain ⟨j, hj, rfl⟩ : ∃ j, j < k ∧ x2 = nI j := by
        rcases ckd_gt z2 with e | e
        · obtain ⟨j, h1, h2, -⟩ := ckd_c (c := 1) hk (by decide) e; exact ⟨j, h1, h2⟩
        · obtain ⟨j, h1, h2, -⟩ := ckd_c (c := 2) hk (by decide) e; exact ⟨j, h1, h2⟩
      obtain ⟨Xj, Yj, Zj⟩ := hR.2.2.2.1 j hj
      refine mm_skip (mm_call_mono _ _) 5 (st' := (29, [(0, .ref 10), (1, .int (nI i)), (2, .int (nI j))], [.int 0], wP pre (wN (PP s) (QQ s) op oq 0 (nI L.1) wi fa (nI k) st of F), 0)) rfl ?_
      refine mm_branch (mm_call_mono _ _) (c := (0 : Int32) ≤ 0) (s1 := (34, [(0, .ref 10), (1, .int (nI i)), (2, .int (nI j))], [], wP pre (wN (PP s) (QQ s) op oq 0 (nI L.1) wi fa (nI k) st of F), 0)) (s2 := (32, [(0, .ref 10), (1, .int (nI i)), (2, .int (nI j))], [], wP pre (wN (PP s) (QQ s) op oq 0 (nI L.1) wi fa (nI k) st of F), 0)) rfl (fun _ => ?_) (fun h => absurd (by decide) h)
      refine mm_skip (mm_call_mono _ _) 2 (st' := (36, [(0, .ref 10), (1, .int (nI i)), (2, .int (nI j))], [.int 0, .ref 10], wP pre (wN (PP s) (QQ s) op oq 0 (nI L.1) wi fa (nI k) st of F), 0)) rfl ?_
      refine mm_need (mm_call_mono _ _) (c := mm_z 0) (s' := (39, [(0, .ref 10), (1, .int (nI i)), (2, .int (nI j))], [], wP pre (wN (PP s) (QQ s) op oq 0 (nI L.1) 0 fa (nI k) st of F), 0)) rfl (by unfold mm_z; decide) ?_
      refine mm_skip (mm_call_mono _ _) 3 (st' := (44, [(0, .ref 10), (1, .int (nI i)), (2, .int (nI j))], [.int (nI j), .ref 15], wP pre (wN (PP s) (QQ s) op oq 0 (nI L.1) 0 fa (nI k) st of F), 0)) rfl ?_
      refine mm_need (mm_call_mono _ _) (c := vp_in (nI j) 24) (s' := (45, [(0, .ref 10), (1, .int (nI i)), (2, .int (nI j))], [.int (st (Int32.toNatClampNeg (nI j)))], wP pre (wN (PP s) (QQ s) op oq 0 (nI L.1) 0 fa (nI k) st of F), 0)) rfl (vp_in_nI (show j < 24 by omega) (by decide)) ?_
      rw [nI_clamp (show j < 2 ^ 31 by omega)]
      show mm_W _ _ _ _ _ _ _ (45, [(0, .ref 10), (1, .int (nI i)), (2, .int (nI j))], [.int (st j)], wP pre (wN (PP s) (QQ s) op oq 0 (nI L.1) 0 fa (nI k) st of F), 0)
      refine mm_skip (mm_call_mono _ _) 1 (st' := (46, [(0, .ref 10), (1, .int (nI i)), (2, .int (nI j))], [.int 1, .int (st j)], wP pre (wN (PP s) (QQ s) op oq 0 (nI L.1) 0 fa (nI k) st of F), 0)) rfl ?_
      refine mm_branch (mm_call_mono _ _) (c := (st j) = 1) (s1 := (49, [(0, .ref 10), (1, .int (nI i)), (2, .int (nI j))], [], wP pre (wN (PP s) (QQ s) op oq 0 (nI L.1) 0 fa (nI k) st of F), 0)) (s2 := (93, [(0, .ref 10), (1, .int (nI i)), (2, .int (nI j))], [], wP pre (wN (PP s) (QQ s) op oq 0 (nI L.1) 0 fa (nI k) st of F), 0)) rfl (fun g1 => ?_) (fun g1 => ?_)
      · skip
        have cj : (S j).1 = 1 := rc_i (i := 1) (rc_of (hS j hj).1 (hw j hj).1 (by rw [g1]; rfl)) (by decide)
        have E0 : (0 : Int32) = 0 → tOn (S j) v L i j = Option.bind (xprod L (v j).1 (v i).1 (v j).2.1 (v i).2.1) (fun d => some (decide (d = (v j).2.2))) := fun _ => (if_pos cj).trans (prod_b _).symm
        have F0 : (0 : Int32) = 1 → (0 : Int32) = 0 → tOn (S j) v L i j = none := fun h1 h0 => absurd (h1.symm.trans h0) z10
        refine mm_skip (mm_call_mono _ _) 2 (st' := (51, [(0, .ref 10), (1, .int (nI i)), (2, .int (nI j))], [.int 0, .ref 10], wP pre (wN (PP s) (QQ s) op oq 0 (nI L.1) 0 fa (nI k) st of F), 0)) rfl ?_
        refine mm_inv (mm_call_mono _ _) (j := 85) (a := [.int 0]) (M := wP pre (wN (PP s) (QQ s) op oq 0 (nI L.1) 0 fa (nI k) st of F)) (u := 0) rfl (by decide) (rm_work ?_)
        show mm_W _ _ _ _ _ _ _ (54, [(0, .ref 10), (1, .int (nI i)), (2, .int (nI j))], [.int 368, .ref 10], wP pre (wN (PP s) (QQ s) op oq 0 (nI L.1) 0 fa (nI k) st of F), 0)
        refine mm_skip (mm_call_mono _ _) 1 (st' := (55, [(0, .ref 10), (1, .int (nI i)), (2, .int (nI j))], [.int (nI j), .int 368, .ref 10], wP pre (wN (PP s) (QQ s) op oq 0 (nI L.1) 0 fa (nI k) st of F), 0)) rfl ?_
        refine mm_inv (mm_call_mono _ _) (j := 83) (a := [.int (nI j)]) (M := wP pre (wN (PP s) (QQ s) op oq 0 (nI L.1) 0 fa (nI k) st of F)) (u := 0) rfl (by decide) (rm_xOf (o := j) ?_)
        show mm_W _ _ _ _ _ _ _ (58, [(0, .ref 10), (1, .int (nI i)), (2, .int (nI j))], [.int (nI (12 * j)), .int 368, .ref 10], wP pre (wN (PP s) (QQ s) op oq 0 (nI L.1) 0 fa (nI k) st of F), 0)
        refine mm_skip (mm_call_mono _ _) 1 (st' := (59, [(0, .ref 10), (1, .int (nI i)), (2, .int (nI j))], [.int (nI i), .int (nI (12 * j)), .int 368, .ref 10], wP pre (wN (PP s) (QQ s) op oq 0 (nI L.1) 0 fa (nI k) st of F), 0)) rfl ?_
        refine mm_inv (mm_call_mono _ _) (j := 83) (a := [.int (nI i)]) (M := wP pre (wN (PP s) (QQ s) op oq 0 (nI L.1) 0 fa (nI k) st of F)) (u := 0) rfl (by decide) (rm_xOf (o := i) ?_)
        show mm_W _ _ _ _ _ _ _ (62, [(0, .ref 10), (1, .int (nI i)), (2, .int (nI j))], [.int (nI (12 * i)), .int (nI (12 * j)), .int 368, .ref 10], wP pre (wN (PP s) (QQ s) op oq 0 (nI L.1) 0 fa (nI k) st of F), 0)
        refine mm_skip (mm_call_mono _ _) 1 (st' := (63, [(0, .ref 10), (1, .int (nI i)), (2, .int (nI j))], [.int (nI j), .int (nI (12 * i)), .int (nI (12 * j)), .int 368, .ref 10], wP pre (wN (PP s) (QQ s) op oq 0 (nI L.1) 0 fa (nI k) st of F), 0)) rfl ?_
        refine mm_inv (mm_call_mono _ _) (j := 84) (a := [.int (nI j)]) (M := wP pre (wN (PP s) (QQ s) op oq 0 (nI L.1) 0 fa (nI k) st of F)) (u := 0) rfl (by decide) (rm_yOf (o := j) ?_)
        show mm_W _ _ _ _ _ _ _ (66, [(0, .ref 10), (1, .int (nI i)), (2, .int (nI j))], [.int (nI (12 * j + 4)), .int (nI (12 * i)), .int (nI (12 * j)), .int 368, .ref 10], wP pre (wN (PP s) (QQ s) op oq 0 (nI L.1) 0 fa (nI k) st of F), 0)
        refine mm_skip (mm_call_mono _ _) 1 (st' := (67, [(0, .ref 10), (1, .int (nI i)), (2, .int (nI j))], [.int (nI i), .int (nI (12 * j + 4)), .int (nI (12 * i)), .int (nI (12 * j)), .int 368, .ref 10], wP pre (wN (PP s) (QQ s) op oq 0 (nI L.1) 0 fa (nI k) st of F), 0)) rfl ?_
        refine mm_inv (mm_call_mono _ _) (j := 84) (a := [.int (nI i)]) (M := wP pre (wN (PP s) (QQ s) op oq 0 (nI L.1) 0 fa (nI k) st of F)) (u := 0) rfl (by decide) (rm_yOf (o := i) ?_)
        show mm_W _ _ _ _ _ _ _ (70, [(0, .ref 10), (1, .int (nI i)), (2, .int (nI j))], [.int (nI (12 * i + 4)), .int (nI (12 * j + 4)), .int (nI (12 * i)), .int (nI (12 * j)), .int 368, .ref 10], wP pre (wN (PP s) (QQ s) op oq 0 (nI L.1) 0 fa (nI k) st of F), 0)
        refine mm_inv (mm_call_mono _ _) (j := 86) (a := [.ref 10, .int 368, .int (nI (12 * j)), .int (nI (12 * i)), .int (nI (12 * j + 4)), .int (nI (12 * i + 4))]) (M := wP pre (wN (PP s) (QQ s) op oq 0 (nI L.1) 0 fa (nI k) st of F)) (u := 0) rfl (by decide) (rg_products (D := 368) (A := (12 * j)) (B := (12 * i)) (C := (12 * j + 4)) (E := (12 * i + 4)) hV (Or.inl rfl) hl (by omega) R Xj Xi Yj Yi (fun s1 w1 h1 => ?_))
        show mm_W _ _ _ _ _ _ _ (73, [(0, .ref 10), (1, .int (nI i)), (2, .int (nI j))], [], wP pre (wN (PP s1) (QQ s1) op oq 0 (nI L.1) w1 fa (nI k) st of F), 0)
        have V1 := h1.1
        have z1 := h1.2.1
        have S1 := gs_s S0 h1 (fun k => by omega)
        have F1 := g_F S0 F0 E0 h1
        have E1 := g_E E0 h1
        have R_1 := r_k R h1 (by omega)
        have Xi_1 := t_k Xi h1 (by omega)
        have Yi_1 := t_k Yi h1 (by omega)
        have Zi_1 := t_k Zi h1 (by omega)
        have Xj_1 := t_k Xj h1 (by omega)
        have Yj_1 := t_k Yj h1 (by omega)
        have Zj_1 := t_k Zj h1 (by omega)
        have W1_1 := t_new h1
        refine mm_skip (mm_call_mono _ _) 3 (st' := (76, [(0, .ref 10), (1, .int (nI i)), (2, .int (nI j))], [.int 0, .ref 10, .ref 10], wP pre (wN (PP s1) (QQ s1) op oq 0 (nI L.1) w1 fa (nI k) st of F), 0)) rfl ?_
        refine mm_inv (mm_call_mono _ _) (j := 85) (a := [.int 0]) (M := wP pre (wN (PP s1) (QQ s1) op oq 0 (nI L.1) w1 fa (nI k) st of F)) (u := 0) rfl (by decide) (rm_work ?_)
        show mm_W _ _ _ _ _ _ _ (79, [(0, .ref 10), (1, .int (nI i)), (2, .int (nI j))], [.int 368, .ref 10, .ref 10], wP pre (wN (PP s1) (QQ s1) op oq 0 (nI L.1) w1 fa (nI k) st of F), 0)
        refine mm_skip (mm_call_mono _ _) 5 (st' := (86, [(0, .ref 10), (1, .int (nI i)), (2, .int (nI j))], [.int ((12 * (nI j)) + 8), .int 368, .ref 10, .ref 10], wP pre (wN (PP s1) (QQ s1) op oq 0 (nI L.1) w1 fa (nI k) st of F), 0)) rfl ?_
        rw [nI_m12 j]
        rw [nI_p8 ((12 * j))]
        show mm_W _ _ _ _ _ _ _ (86, [(0, .ref 10), (1, .int (nI i)), (2, .int (nI j))], [.int (nI (12 * j + 8)), .int 368, .ref 10, .ref 10], wP pre (wN (PP s1) (QQ s1) op oq 0 (nI L.1) w1 fa (nI k) st of F), 0)
        refine mm_inv (mm_call_mono _ _) (j := 64) (a := [.ref 10, .int 368, .int (nI (12 * j + 8))]) (M := wP pre (wN (PP s1) (QQ s1) op oq 0 (nI L.1) w1 fa (nI k) st of F)) (u := 0) rfl (by decide) (rm_alike (A := 368) (B := (12 * j + 8)) V1 (by omega) (by omega) ?_)
        show mm_W _ _ _ _ _ _ _ (89, [(0, .ref 10), (1, .int (nI i)), (2, .int (nI j))], [.int (bz (alm s1 (368) ((12 * j + 8)))), .ref 10], wP pre (wN (PP s1) (QQ s1) op oq 0 (nI L.1) w1 fa (nI k) st of F), 0)
        refine mm_inv (mm_call_mono _ _) (j := 109) (a := [.ref 10, .int (bz (alm s1 (368) ((12 * j + 8))))]) (M := wP pre (wN (PP s1) (QQ s1) op oq 0 (nI L.1) w1 fa (nI k) st of F)) (u := 0) rfl (by decide) (rk_told2 (bz_z _) (fun c b ht => ?_))
        show mm_W _ _ _ _ _ _ _ (92, [(0, .ref 10), (1, .int (nI i)), (2, .int (nI j))], [.int b], wP pre (wN (PP s1) (QQ s1) op oq (nI c) (nI L.1) w1 fa (nI k) st of F), 0)
        exact mm_ret (mm_call_mono _ _) (c := mm_z b) (r := .inl (some (.int b))) (M := wP pre (wN (PP s1) (QQ s1) op oq (nI c) (nI L.1) w1 fa (nI k) st of F)) (u := 0) rfl ht.2.2 (by decide) (by rcases z1 with hz | hz; (subst hz; obtain ⟨rfl, rfl⟩ := ht.1 rfl; exact hQ _ _ (0, _) ((show qOn S k (nI i) (nI j) = oB (tOn (S j) v L i j) from (if_pos ⟨u1, ckd_gt z2⟩).trans (by rw [hgv, cl_n (by omega), cl_n (by omega)])).trans (by rw [E1 rfl]; exact oB_0 (bz_congr (alm_eq W1_1 Zj_1)))) (fun j hj => S1.2.2.1 j (by omega)) V1); (obtain ⟨rfl, rfl⟩ := ht.2.1 (by rw [hz]; decide); exact hQ _ _ (2, 0) ((show qOn S k (nI i) (nI j) = oB (tOn (S j) v L i j) from (if_pos ⟨u1, ckd_gt z2⟩).trans (by rw [hgv, cl_n (by omega), cl_n (by omega)])).trans (by rw [F1 hz rfl]; rfl)) (fun j hj => S1.2.2.1 j (by omega)) V1))
      · skip
        have cj : (S j).1 = 2 := by
          rcases ckd_gt z2 with e | e
          · obtain ⟨j2, h2, e2, c2⟩ := ckd_c (c := 1) hk (by decide) e
            have : j = j2 := (nI_eq (by omega) (by omega)).mp e2
            subst this
            exact absurd (st_c (hS j hj) c2 (by decide)) g1
          · obtain ⟨j2, h2, e2, c2⟩ := ckd_c (c := 2) hk (by decide) e
            have : j = j2 := (nI_eq (by omega) (by omega)).mp e2
            subst this
            exact c2
        have hc := ctr_of (hw j hj) cj
        obtain ⟨Xc, Yc, Zc⟩ := hR.2.2.2.1 _ (show (S j).2.1 < k by omega)
        have E0 : (0 : Int32) = 0 → tOn (S j) v L i j = Option.bind (xdist L (v (S j).2.1).1 (v (S j).2.1).2.1 (v i).1 (v i).2.1) _ := fun _ => if_neg (by rw [cj]; decide)
        have F0 : (0 : Int32) = 1 → (0 : Int32) = 0 → tOn (S j) v L i j = none := fun h1 h0 => absurd (h1.symm.trans h0) z10
        refine mm_skip (mm_call_mono _ _) 2 (st' := (95, [(0, .ref 10), (1, .int (nI i)), (2, .int (nI j))], [.int 0, .ref 10], wP pre (wN (PP s) (QQ s) op oq 0 (nI L.1) 0 fa (nI k) st of F), 0)) rfl ?_
        refine mm_inv (mm_call_mono _ _) (j := 85) (a := [.int 0]) (M := wP pre (wN (PP s) (QQ s) op oq 0 (nI L.1) 0 fa (nI k) st of F)) (u := 0) rfl (by decide) (rm_work ?_)
        show mm_W _ _ _ _ _ _ _ (98, [(0, .ref 10), (1, .int (nI i)), (2, .int (nI j))], [.int 368, .ref 10], wP pre (wN (PP s) (QQ s) op oq 0 (nI L.1) 0 fa (nI k) st of F), 0)
        refine mm_skip (mm_call_mono _ _) 5 (st' := (105, [(0, .ref 10), (1, .int (nI i)), (2, .int (nI j))], [.int (4 * (nI j)), .ref 16, .int 368, .ref 10], wP pre (wN (PP s) (QQ s) op oq 0 (nI L.1) 0 fa (nI k) st of F), 0)) rfl ?_
        rw [nI_m4 j]
        show mm_W _ _ _ _ _ _ _ (105, [(0, .ref 10), (1, .int (nI i)), (2, .int (nI j))], [.int (nI (4 * j)), .ref 16, .int 368, .ref 10], wP pre (wN (PP s) (QQ s) op oq 0 (nI L.1) 0 fa (nI k) st of F), 0)
        refine mm_need (mm_call_mono _ _) (c := vp_in (nI (4 * j)) 96) (s' := (106, [(0, .ref 10), (1, .int (nI i)), (2, .int (nI j))], [.int (of (Int32.toNatClampNeg (nI (4 * j)))), .int 368, .ref 10], wP pre (wN (PP s) (QQ s) op oq 0 (nI L.1) 0 fa (nI k) st of F), 0)) rfl (vp_in_nI (show (4 * j) < 96 by omega) (by decide)) ?_
        rw [nI_clamp (show (4 * j) < 2 ^ 31 by omega)]
        show mm_W _ _ _ _ _ _ _ (106, [(0, .ref 10), (1, .int (nI i)), (2, .int (nI j))], [.int (of (4 * j)), .int 368, .ref 10], wP pre (wN (PP s) (QQ s) op oq 0 (nI L.1) 0 fa (nI k) st of F), 0)
        rw [((hS j hj).2.2.2.1 cj).1]
        show mm_W _ _ _ _ _ _ _ (106, [(0, .ref 10), (1, .int (nI i)), (2, .int (nI j))], [.int (nI (S j).2.1), .int 368, .ref 10], wP pre (wN (PP s) (QQ s) op oq 0 (nI L.1) 0 fa (nI k) st of F), 0)
        refine mm_skip (mm_call_mono _ _) 1 (st' := (107, [(0, .ref 10), (1, .int (nI i)), (2, .int (nI j))], [.int (nI i), .int (nI (S j).2.1), .int 368, .ref 10], wP pre (wN (PP s) (QQ s) op oq 0 (nI L.1) 0 fa (nI k) st of F), 0)) rfl ?_
        refine mm_inv (mm_call_mono _ _) (j := 88) (a := [.ref 10, .int 368, .int (nI (S j).2.1), .int (nI i)]) (M := wP pre (wN (PP s) (QQ s) op oq 0 (nI L.1) 0 fa (nI k) st of F)) (u := 0) rfl (by decide) (rg_squared (D0 := 368) (p := (S j).2.1) (q := i) hV (Or.inl rfl) hl (by omega) R Xc Yc Xi Yi (fun s2 w2 h2 => ?_))
        show mm_W _ _ _ _ _ _ _ (110, [(0, .ref 10), (1, .int (nI i)), (2, .int (nI j))], [], wP pre (wN (PP s2) (QQ s2) op oq 0 (nI L.1) w2 fa (nI k) st of F), 0)
        have V2 := h2.1
        have z2 := h2.2.1
        have S2 := gs_s S0 h2 (fun k => by omega)
        have F2 := g_F S0 F0 E0 h2
        have E2 := g_E E0 h2
        have R_2 := r_k R h2 (by omega)
        have Xi_2 := t_k Xi h2 (by omega)
        have Yi_2 := t_k Yi h2 (by omega)
        have Zi_2 := t_k Zi h2 (by omega)
        have Xj_2 := t_k Xj h2 (by omega)
        have Yj_2 := t_k Yj h2 (by omega)
        have Zj_2 := t_k Zj h2 (by omega)
        have Xc_2 := t_k Xc h2 (by omega)
        have Yc_2 := t_k Yc h2 (by omega)
        have W2_2 := t_new h2
        refine mm_skip (mm_call_mono _ _) 3 (st' := (113, [(0, .ref 10), (1, .int (nI i)), (2, .int (nI j))], [.int 0, .ref 10, .ref 10], wP pre (wN (PP s2) (QQ s2) op oq 0 (nI L.1) w2 fa (nI k) st of F), 0)) rfl ?_
        refine mm_inv (mm_call_mono _ _) (j := 85) (a := [.int 0]) (M := wP pre (wN (PP s2) (QQ s2) op oq 0 (nI L.1) w2 fa (nI k) st of F)) (u := 0) rfl (by decide) (rm_work ?_)
        show mm_W _ _ _ _ _ _ _ (116, [(0, .ref 10), (1, .int (nI i)), (2, .int (nI j))], [.int 368, .ref 10, .ref 10], wP pre (wN (PP s2) (QQ s2) op oq 0 (nI L.1) w2 fa (nI k) st of F), 0)
        refine mm_skip (mm_call_mono _ _) 3 (st' := (120, [(0, .ref 10), (1, .int (nI i)), (2, .int (nI j))], [.int (12 * (nI j)), .int 368, .ref 10, .ref 10], wP pre (wN (PP s2) (QQ s2) op oq 0 (nI L.1) w2 fa (nI k) st of F), 0)) rfl ?_
        rw [nI_m12 j]
        show mm_W _ _ _ _ _ _ _ (120, [(0, .ref 10), (1, .int (nI i)), (2, .int (nI j))], [.int (nI (12 * j)), .int 368, .ref 10, .ref 10], wP pre (wN (PP s2) (QQ s2) op oq 0 (nI L.1) w2 fa (nI k) st of F), 0)
        refine mm_inv (mm_call_mono _ _) (j := 64) (a := [.ref 10, .int 368, .int (nI (12 * j))]) (M := wP pre (wN (PP s2) (QQ s2) op oq 0 (nI L.1) w2 fa (nI k) st of F)) (u := 0) rfl (by decide) (rm_alike (A := 368) (B := (12 * j)) V2 (by omega) (by omega) ?_)
        show mm_W _ _ _ _ _ _ _ (123, [(0, .ref 10), (1, .int (nI i)), (2, .int (nI j))], [.int (bz (alm s2 (368) ((12 * j)))), .ref 10], wP pre (wN (PP s2) (QQ s2) op oq 0 (nI L.1) w2 fa (nI k) st of F), 0)
        refine mm_inv (mm_call_mono _ _) (j := 109) (a := [.ref 10, .int (bz (alm s2 (368) ((12 * j))))]) (M := wP pre (wN (PP s2) (QQ s2) op oq 0 (nI L.1) w2 fa (nI k) st of F)) (u := 0) rfl (by decide) (rk_told2 (bz_z _) (fun c b ht => ?_))
        show mm_W _ _ _ _ _ _ _ (126, [(0, .ref 10), (1, .int (nI i)), (2, .int (nI j))], [.int b], wP pre (wN (PP s2) (QQ s2) op oq (nI c) (nI L.1) w2 fa (nI k) st of F), 0)
        exact mm_ret (mm_call_mono _ _) (c := mm_z b) (r := .inl (some (.int b))) (M := wP pre (wN (PP s2) (QQ s2) op oq (nI c) (nI L.1) w2 fa (nI k) st of F)) (u := 0) rfl ht.2.2 (by decide) (by rcases z2 with hz | hz; (subst hz; obtain ⟨rfl, rfl⟩ := ht.1 rfl; exact hQ _ _ (0, _) ((show qOn S k (nI i) (nI j) = oB (tOn (S j) v L i j) from (if_pos ⟨u1, ckd_gt z2⟩).trans (by rw [hgv, cl_n (by omega), cl_n (by omega)])).trans (by rw [E2 rfl]; exact oB_0 (bz_congr (alm_eq W2_2 Xj_2)))) (fun j hj => S2.2.2.1 j (by omega)) V2); (obtain ⟨rfl, rfl⟩ := ht.2.1 (by rw [hz]; decide); exact hQ _ _ (2, 0) ((show qOn S k (nI i) (nI j) = oB (tOn (S j) v L i j) from (if_pos ⟨u1, ckd_gt z2⟩).trans (by rw [hgv, cl_n (by omega), cl_n (by omega)])).trans (by rw [F2 hz rfl]; rfl)) (fun j hj => S2.2.2.1 j (by omega)) V2))

def rSide (v : Nat → o3) (L : lvR) (i j l : Nat) : Option Int := (xsub L.1 (v j).1 (v i).1).bind fun a => (xsub L.1 (v l).2.1 (v i).2.1).bind fun b => (xsub L.1 (v j).2.1 (v i).2.1).bind fun c => (xsub L.1 (v l).1 (v i).1).bind fun e => (xcr L a b c e).bind fun s => (xsg L s).bind fun r => some r
theorem rSide_eq {v : Nat → o3} {L : lvR} {i j l : Nat} : rSide v L i j l = tSide v L i j l := by
  unfold rSide tSide
  simp only [cr_b]
  cases xsub L.1 (v j).1 (v i).1 with
  | none => rfl
  | some a =>
    show (xsub L.1 (v l).2.1 (v i).2.1).bind _ = (xsub L.1 (v l).2.1 (v i).2.1).bind _
    cases xsub L.1 (v l).2.1 (v i).2.1 with
    | none => rfl
    | some b =>
      show ((xsub L.1 (v j).2.1 (v i).2.1).bind fun c => (xsub L.1 (v l).1 (v i).1).bind fun e => (xmul L a b).bind fun t => _) = (xmul L a b).bind fun ab => (xsub L.1 (v j).2.1 (v i).2.1).bind fun c => (xsub L.1 (v l).1 (v i).1).bind fun e => _
      cases xmul L a b with
      | none =>
        cases xsub L.1 (v j).2.1 (v i).2.1 with
        | none => rfl
        | some c => exact bn _
      | some t => rfl
set_option maxRecDepth 100000 in
theorem rx_side {d : Nat} {pre : mm_pre} {s : Nat → fr} {op oq : Nat → Int64} {tr wi fa : Int32} {st of : Nat → Int32} {F : mm_M} {S : Nat → stp} {k : Nat} {L : lvR} {v : Nat → o3} {x1 x2 x3 : Int32} {Q : mm_R → mm_M → Prop} (hk : k ≤ 24) (hS : ∀ i, i < k → stR st of S i) (hw : ∀ i, i < k → wf S i) (hR : rI S s k v L) (hQ : ∀ (s1 : Nat → fr) (w1 : Int32) (r : oc), qSide S k x1 x2 x3 = r → (∀ j, j < 300 → s1 j = s j) → (∀ j, fv (s1 j)) → Q (.inl (some (.int (rv r)))) (wP pre (wN (PP s1) (QQ s1) op oq (nI r.1) (nI L.1) w1 fa (nI k) st of F))) : mm_call mm_Tb (d + 17) 114 [.ref 10, .int x1, .int x2, .int x3] (wP pre (wN (PP s) (QQ s) op oq tr (nI L.1) wi fa (nI k) st of F)) Q := by
  have hV := hR.2.2.2.2.1
  have hl := hR.2.1
  have R := hR.2.2.1
  have S0 := ms_0 (wi := 0) (Z := fun k => 300 ≤ k) hV (Or.inl rfl)
  have hgv := gv_s hR.1
  refine mm_in mt_114 (Nat.le_of_ble_eq_true rfl) ?_
  show mm_W _ _ _ _ _ _ _ (0, [(0, .ref 10), (1, .int x1), (2, .int x2), (3, .int x3)], [], wP pre (wN (PP s) (QQ s) op oq tr (nI L.1) wi fa (nI k) st of F), 0)
  refine mm_skip (mm_call_mono _ _) 3 (st' := (3, [(0, .ref 10), (1, .int x1), (2, .int x2), (3, .int x3)], [.int x1, .ref 10, .ref 10], wP pre (wN (PP s) (QQ s) op oq tr (nI L.1) wi fa (nI k) st of F), 0)) rfl ?_
  refine mm_inv (mm_call_mono _ _) (j := 97) (a := [.ref 10, .int x1]) (M := wP pre (wN (PP s) (QQ s) op oq tr (nI L.1) wi fa (nI k) st of F)) (u := 0) rfl (by decide) (rk_isPoint hk hS hw ?_)
  show mm_W _ _ _ _ _ _ _ (6, [(0, .ref 10), (1, .int x1), (2, .int x2), (3, .int x3)], [.int (bz (ckd S k x1 = 0)), .ref 10], wP pre (wN (PP s) (QQ s) op oq tr (nI L.1) wi fa (nI k) st of F), 0)
  refine mm_branch (mm_call_mono _ _) (c := (bz (ckd S k x1 = 0)) = 0) (s1 := (29, [(0, .ref 10), (1, .int x1), (2, .int x2), (3, .int x3)], [.ref 10], wP pre (wN (PP s) (QQ s) op oq tr (nI L.1) wi fa (nI k) st of F), 0)) (s2 := (9, [(0, .ref 10), (1, .int x1), (2, .int x2), (3, .int x3)], [.ref 10], wP pre (wN (PP s) (QQ s) op oq tr (nI L.1) wi fa (nI k) st of F), 0)) rfl (fun z1 => ?_) (fun z1 => ?_)
  · skip
    refine mm_skip (mm_call_mono _ _) 4 (st' := (37, [(0, .ref 10), (1, .int x1), (2, .int x2), (3, .int x3)], [.int 1], wP pre (wN (PP s) (QQ s) op oq 1 (nI L.1) wi fa (nI k) st of F), 0)) rfl ?_
    refine mm_branch (mm_call_mono _ _) (c := (1 : Int32) ≤ 0) (s1 := (42, [(0, .ref 10), (1, .int x1), (2, .int x2), (3, .int x3)], [], wP pre (wN (PP s) (QQ s) op oq 1 (nI L.1) wi fa (nI k) st of F), 0)) (s2 := (40, [(0, .ref 10), (1, .int x1), (2, .int x2), (3, .int x3)], [], wP pre (wN (PP s) (QQ s) op oq 1 (nI L.1) wi fa (nI k) st of F), 0)) rfl (fun h => absurd h (by decide)) (fun _ => ?_)
    refine mm_skip (mm_call_mono _ _) 1 (st' := (41, [(0, .ref 10), (1, .int x1), (2, .int x2), (3, .int x3)], [.int 0], wP pre (wN (PP s) (QQ s) op oq 1 (nI L.1) wi fa (nI k) st of F), 0)) rfl ?_
    exact mm_ret (mm_call_mono _ _) (c := True) (r := .inl (some (.int 0))) (M := wP pre (wN (PP s) (QQ s) op oq 1 (nI L.1) wi fa (nI k) st of F)) (u := 0) rfl trivial (by decide) (hQ _ _ (1, 0) (if_neg (fun z => bz_0 z1 z.1)) (fun _ _ => rfl) hR.2.2.2.2.1)
  · skip
    refine mm_skip (mm_call_mono _ _) 2 (st' := (11, [(0, .ref 10), (1, .int x1), (2, .int x2), (3, .int x3)], [.int x2, .ref 10, .ref 10], wP pre (wN (PP s) (QQ s) op oq tr (nI L.1) wi fa (nI k) st of F), 0)) rfl ?_
    refine mm_inv (mm_call_mono _ _) (j := 97) (a := [.ref 10, .int x2]) (M := wP pre (wN (PP s) (QQ s) op oq tr (nI L.1) wi fa (nI k) st of F)) (u := 0) rfl (by decide) (rk_isPoint hk hS hw ?_)
    show mm_W _ _ _ _ _ _ _ (14, [(0, .ref 10), (1, .int x1), (2, .int x2), (3, .int x3)], [.int (bz (ckd S k x2 = 0)), .ref 10], wP pre (wN (PP s) (QQ s) op oq tr (nI L.1) wi fa (nI k) st of F), 0)
    refine mm_branch (mm_call_mono _ _) (c := (bz (ckd S k x2 = 0)) = 0) (s1 := (29, [(0, .ref 10), (1, .int x1), (2, .int x2), (3, .int x3)], [.ref 10], wP pre (wN (PP s) (QQ s) op oq tr (nI L.1) wi fa (nI k) st of F), 0)) (s2 := (17, [(0, .ref 10), (1, .int x1), (2, .int x2), (3, .int x3)], [.ref 10], wP pre (wN (PP s) (QQ s) op oq tr (nI L.1) wi fa (nI k) st of F), 0)) rfl (fun z2 => ?_) (fun z2 => ?_)
    · skip
      refine mm_skip (mm_call_mono _ _) 4 (st' := (37, [(0, .ref 10), (1, .int x1), (2, .int x2), (3, .int x3)], [.int 1], wP pre (wN (PP s) (QQ s) op oq 1 (nI L.1) wi fa (nI k) st of F), 0)) rfl ?_
      refine mm_branch (mm_call_mono _ _) (c := (1 : Int32) ≤ 0) (s1 := (42, [(0, .ref 10), (1, .int x1), (2, .int x2), (3, .int x3)], [], wP pre (wN (PP s) (QQ s) op oq 1 (nI L.1) wi fa (nI k) st of F), 0)) (s2 := (40, [(0, .ref 10), (1, .int x1), (2, .int x2), (3, .int x3)], [], wP pre (wN (PP s) (QQ s) op oq 1 (nI L.1) wi fa (nI k) st of F), 0)) rfl (fun h => absurd h (by decide)) (fun _ => ?_)
      refine mm_skip (mm_call_mono _ _) 1 (st' := (41, [(0, .ref 10), (1, .int x1), (2, .int x2), (3, .int x3)], [.int 0], wP pre (wN (PP s) (QQ s) op oq 1 (nI L.1) wi fa (nI k) st of F), 0)) rfl ?_
      exact mm_ret (mm_call_mono _ _) (c := True) (r := .inl (some (.int 0))) (M := wP pre (wN (PP s) (QQ s) op oq 1 (nI L.1) wi fa (nI k) st of F)) (u := 0) rfl trivial (by decide) (hQ _ _ (1, 0) (if_neg (fun z => bz_0 z2 z.2.1)) (fun _ _ => rfl) hR.2.2.2.2.1)
    · skip
      refine mm_skip (mm_call_mono _ _) 2 (st' := (19, [(0, .ref 10), (1, .int x1), (2, .int x2), (3, .int x3)], [.int x3, .ref 10, .ref 10], wP pre (wN (PP s) (QQ s) op oq tr (nI L.1) wi fa (nI k) st of F), 0)) rfl ?_
      refine mm_inv (mm_call_mono _ _) (j := 97) (a := [.ref 10, .int x3]) (M := wP pre (wN (PP s) (QQ s) op oq tr (nI L.1) wi fa (nI k) st of F)) (u := 0) rfl (by decide) (rk_isPoint hk hS hw ?_)
      show mm_W _ _ _ _ _ _ _ (22, [(0, .ref 10), (1, .int x1), (2, .int x2), (3, .int x3)], [.int (bz (ckd S k x3 = 0)), .ref 10], wP pre (wN (PP s) (QQ s) op oq tr (nI L.1) wi fa (nI k) st of F), 0)
      refine mm_branch (mm_call_mono _ _) (c := (bz (ckd S k x3 = 0)) = 0) (s1 := (29, [(0, .ref 10), (1, .int x1), (2, .int x2), (3, .int x3)], [.ref 10], wP pre (wN (PP s) (QQ s) op oq tr (nI L.1) wi fa (nI k) st of F), 0)) (s2 := (25, [(0, .ref 10), (1, .int x1), (2, .int x2), (3, .int x3)], [.ref 10], wP pre (wN (PP s) (QQ s) op oq tr (nI L.1) wi fa (nI k) st of F), 0)) rfl (fun z3 => ?_) (fun z3 => ?_)
      · skip
        refine mm_skip (mm_call_mono _ _) 4 (st' := (37, [(0, .ref 10), (1, .int x1), (2, .int x2), (3, .int x3)], [.int 1], wP pre (wN (PP s) (QQ s) op oq 1 (nI L.1) wi fa (nI k) st of F), 0)) rfl ?_
        refine mm_branch (mm_call_mono _ _) (c := (1 : Int32) ≤ 0) (s1 := (42, [(0, .ref 10), (1, .int x1), (2, .int x2), (3, .int x3)], [], wP pre (wN (PP s) (QQ s) op oq 1 (nI L.1) wi fa (nI k) st of F), 0)) (s2 := (40, [(0, .ref 10), (1, .int x1), (2, .int x2), (3, .int x3)], [], wP pre (wN (PP s) (QQ s) op oq 1 (nI L.1) wi fa (nI k) st of F), 0)) rfl (fun h => absurd h (by decide)) (fun _ => ?_)
        refine mm_skip (mm_call_mono _ _) 1 (st' := (41, [(0, .ref 10), (1, .int x1), (2, .int x2), (3, .int x3)], [.int 0], wP pre (wN (PP s) (QQ s) op oq 1 (nI L.1) wi fa (nI k) st of F), 0)) rfl ?_
        exact mm_ret (mm_call_mono _ _) (c := True) (r := .inl (some (.int 0))) (M := wP pre (wN (PP s) (QQ s) op oq 1 (nI L.1) wi fa (nI k) st of F)) (u := 0) rfl trivial (by decide) (hQ _ _ (1, 0) (if_neg (fun z => bz_0 z3 z.2.2)) (fun _ _ => rfl) hR.2.2.2.2.1)
      · skip
        have u1 := bz_1 z1
        have u2 := bz_1 z2
        have u3 := bz_1 z3
        obtain ⟨i, hi, rfl, pi⟩ := ckd_pt hk (bz_1 z1)
        obtain ⟨Xi, Yi, Zi⟩ := hR.2.2.2.1 i hi
        obtain ⟨j, hj, rfl, pj⟩ := ckd_pt hk (bz_1 z2)
        obtain ⟨Xj, Yj, Zj⟩ := hR.2.2.2.1 j hj
        obtain ⟨g, hg, rfl, pg⟩ := ckd_pt hk (bz_1 z3)
        obtain ⟨Xg, Yg, Zg⟩ := hR.2.2.2.1 g hg
        have E0 : (0 : Int32) = 0 → rSide v L i j g = Option.bind (xsub L.1 (v j).1 (v i).1) _ := fun _ => rfl
        have F0 : (0 : Int32) = 1 → (0 : Int32) = 0 → rSide v L i j g = none := fun h1 h0 => absurd (h1.symm.trans h0) z10
        refine mm_skip (mm_call_mono _ _) 5 (st' := (37, [(0, .ref 10), (1, .int (nI i)), (2, .int (nI j)), (3, .int (nI g))], [.int 0], wP pre (wN (PP s) (QQ s) op oq 0 (nI L.1) wi fa (nI k) st of F), 0)) rfl ?_
        refine mm_branch (mm_call_mono _ _) (c := (0 : Int32) ≤ 0) (s1 := (42, [(0, .ref 10), (1, .int (nI i)), (2, .int (nI j)), (3, .int (nI g))], [], wP pre (wN (PP s) (QQ s) op oq 0 (nI L.1) wi fa (nI k) st of F), 0)) (s2 := (40, [(0, .ref 10), (1, .int (nI i)), (2, .int (nI j)), (3, .int (nI g))], [], wP pre (wN (PP s) (QQ s) op oq 0 (nI L.1) wi fa (nI k) st of F), 0)) rfl (fun _ => ?_) (fun h => absurd (by decide) h)
        refine mm_skip (mm_call_mono _ _) 2 (st' := (44, [(0, .ref 10), (1, .int (nI i)), (2, .int (nI j)), (3, .int (nI g))], [.int 0, .ref 10], wP pre (wN (PP s) (QQ s) op oq 0 (nI L.1) wi fa (nI k) st of F), 0)) rfl ?_
        refine mm_need (mm_call_mono _ _) (c := mm_z 0) (s' := (47, [(0, .ref 10), (1, .int (nI i)), (2, .int (nI j)), (3, .int (nI g))], [], wP pre (wN (PP s) (QQ s) op oq 0 (nI L.1) 0 fa (nI k) st of F), 0)) rfl (by unfold mm_z; decide) ?_
        refine mm_skip (mm_call_mono _ _) 2 (st' := (49, [(0, .ref 10), (1, .int (nI i)), (2, .int (nI j)), (3, .int (nI g))], [.int 0, .ref 10], wP pre (wN (PP s) (QQ s) op oq 0 (nI L.1) 0 fa (nI k) st of F), 0)) rfl ?_
        refine mm_inv (mm_call_mono _ _) (j := 85) (a := [.int 0]) (M := wP pre (wN (PP s) (QQ s) op oq 0 (nI L.1) 0 fa (nI k) st of F)) (u := 0) rfl (by decide) (rm_work ?_)
        show mm_W _ _ _ _ _ _ _ (52, [(0, .ref 10), (1, .int (nI i)), (2, .int (nI j)), (3, .int (nI g))], [.int 368, .ref 10], wP pre (wN (PP s) (QQ s) op oq 0 (nI L.1) 0 fa (nI k) st of F), 0)
        refine mm_skip (mm_call_mono _ _) 1 (st' := (53, [(0, .ref 10), (1, .int (nI i)), (2, .int (nI j)), (3, .int (nI g))], [.int (nI j), .int 368, .ref 10], wP pre (wN (PP s) (QQ s) op oq 0 (nI L.1) 0 fa (nI k) st of F), 0)) rfl ?_
        refine mm_inv (mm_call_mono _ _) (j := 83) (a := [.int (nI j)]) (M := wP pre (wN (PP s) (QQ s) op oq 0 (nI L.1) 0 fa (nI k) st of F)) (u := 0) rfl (by decide) (rm_xOf (o := j) ?_)
        show mm_W _ _ _ _ _ _ _ (56, [(0, .ref 10), (1, .int (nI i)), (2, .int (nI j)), (3, .int (nI g))], [.int (nI (12 * j)), .int 368, .ref 10], wP pre (wN (PP s) (QQ s) op oq 0 (nI L.1) 0 fa (nI k) st of F), 0)
        refine mm_skip (mm_call_mono _ _) 1 (st' := (57, [(0, .ref 10), (1, .int (nI i)), (2, .int (nI j)), (3, .int (nI g))], [.int (nI i), .int (nI (12 * j)), .int 368, .ref 10], wP pre (wN (PP s) (QQ s) op oq 0 (nI L.1) 0 fa (nI k) st of F), 0)) rfl ?_
        refine mm_inv (mm_call_mono _ _) (j := 83) (a := [.int (nI i)]) (M := wP pre (wN (PP s) (QQ s) op oq 0 (nI L.1) 0 fa (nI k) st of F)) (u := 0) rfl (by decide) (rm_xOf (o := i) ?_)
        show mm_W _ _ _ _ _ _ _ (60, [(0, .ref 10), (1, .int (nI i)), (2, .int (nI j)), (3, .int (nI g))], [.int (nI (12 * i)), .int (nI (12 * j)), .int 368, .ref 10], wP pre (wN (PP s) (QQ s) op oq 0 (nI L.1) 0 fa (nI k) st of F), 0)
        refine mm_skip (mm_call_mono _ _) 1 (st' := (61, [(0, .ref 10), (1, .int (nI i)), (2, .int (nI j)), (3, .int (nI g))], [.int 4, .int (nI (12 * i)), .int (nI (12 * j)), .int 368, .ref 10], wP pre (wN (PP s) (QQ s) op oq 0 (nI L.1) 0 fa (nI k) st of F), 0)) rfl ?_
        refine mm_inv (mm_call_mono _ _) (j := 60) (a := [.ref 10, .int 368, .int (nI (12 * j)), .int (nI (12 * i)), .int 4]) (M := wP pre (wN (PP s) (QQ s) op oq 0 (nI L.1) 0 fa (nI k) st of F)) (u := 0) rfl (by decide) (rg_sub (D := 368) (A := (12 * j)) (B := (12 * i)) hV (Or.inl rfl) hl (by omega) Xj Xi (fun s1 w1 h1 => ?_))
        show mm_W _ _ _ _ _ _ _ (64, [(0, .ref 10), (1, .int (nI i)), (2, .int (nI j)), (3, .int (nI g))], [], wP pre (wN (PP s1) (QQ s1) op oq 0 (nI L.1) w1 fa (nI k) st of F), 0)
        have V1 := h1.1
        have z1 := h1.2.1
        have S1 := gs_s S0 h1 (fun k => by omega)
        have F1 := g_F S0 F0 E0 h1
        have E1 := g_E E0 h1
        have R_1 := r_k R h1 (by omega)
        have Xi_1 := t_k Xi h1 (by omega)
        have Yi_1 := t_k Yi h1 (by omega)
        have Zi_1 := t_k Zi h1 (by omega)
        have Xj_1 := t_k Xj h1 (by omega)
        have Yj_1 := t_k Yj h1 (by omega)
        have Zj_1 := t_k Zj h1 (by omega)
        have Xg_1 := t_k Xg h1 (by omega)
        have Yg_1 := t_k Yg h1 (by omega)
        have Zg_1 := t_k Zg h1 (by omega)
        have W1_1 := t_new h1
        refine mm_skip (mm_call_mono _ _) 2 (st' := (66, [(0, .ref 10), (1, .int (nI i)), (2, .int (nI j)), (3, .int (nI g))], [.int 1, .ref 10], wP pre (wN (PP s1) (QQ s1) op oq 0 (nI L.1) w1 fa (nI k) st of F), 0)) rfl ?_
        refine mm_inv (mm_call_mono _ _) (j := 85) (a := [.int 1]) (M := wP pre (wN (PP s1) (QQ s1) op oq 0 (nI L.1) w1 fa (nI k) st of F)) (u := 0) rfl (by decide) (rm_work ?_)
        show mm_W _ _ _ _ _ _ _ (69, [(0, .ref 10), (1, .int (nI i)), (2, .int (nI j)), (3, .int (nI g))], [.int 372, .ref 10], wP pre (wN (PP s1) (QQ s1) op oq 0 (nI L.1) w1 fa (nI k) st of F), 0)
        refine mm_skip (mm_call_mono _ _) 1 (st' := (70, [(0, .ref 10), (1, .int (nI i)), (2, .int (nI j)), (3, .int (nI g))], [.int (nI g), .int 372, .ref 10], wP pre (wN (PP s1) (QQ s1) op oq 0 (nI L.1) w1 fa (nI k) st of F), 0)) rfl ?_
        refine mm_inv (mm_call_mono _ _) (j := 84) (a := [.int (nI g)]) (M := wP pre (wN (PP s1) (QQ s1) op oq 0 (nI L.1) w1 fa (nI k) st of F)) (u := 0) rfl (by decide) (rm_yOf (o := g) ?_)
        show mm_W _ _ _ _ _ _ _ (73, [(0, .ref 10), (1, .int (nI i)), (2, .int (nI j)), (3, .int (nI g))], [.int (nI (12 * g + 4)), .int 372, .ref 10], wP pre (wN (PP s1) (QQ s1) op oq 0 (nI L.1) w1 fa (nI k) st of F), 0)
        refine mm_skip (mm_call_mono _ _) 1 (st' := (74, [(0, .ref 10), (1, .int (nI i)), (2, .int (nI j)), (3, .int (nI g))], [.int (nI i), .int (nI (12 * g + 4)), .int 372, .ref 10], wP pre (wN (PP s1) (QQ s1) op oq 0 (nI L.1) w1 fa (nI k) st of F), 0)) rfl ?_
        refine mm_inv (mm_call_mono _ _) (j := 84) (a := [.int (nI i)]) (M := wP pre (wN (PP s1) (QQ s1) op oq 0 (nI L.1) w1 fa (nI k) st of F)) (u := 0) rfl (by decide) (rm_yOf (o := i) ?_)
        show mm_W _ _ _ _ _ _ _ (77, [(0, .ref 10), (1, .int (nI i)), (2, .int (nI j)), (3, .int (nI g))], [.int (nI (12 * i + 4)), .int (nI (12 * g + 4)), .int 372, .ref 10], wP pre (wN (PP s1) (QQ s1) op oq 0 (nI L.1) w1 fa (nI k) st of F), 0)
        refine mm_skip (mm_call_mono _ _) 1 (st' := (78, [(0, .ref 10), (1, .int (nI i)), (2, .int (nI j)), (3, .int (nI g))], [.int 4, .int (nI (12 * i + 4)), .int (nI (12 * g + 4)), .int 372, .ref 10], wP pre (wN (PP s1) (QQ s1) op oq 0 (nI L.1) w1 fa (nI k) st of F), 0)) rfl ?_
        refine mm_inv (mm_call_mono _ _) (j := 60) (a := [.ref 10, .int 372, .int (nI (12 * g + 4)), .int (nI (12 * i + 4)), .int 4]) (M := wP pre (wN (PP s1) (QQ s1) op oq 0 (nI L.1) w1 fa (nI k) st of F)) (u := 0) rfl (by decide) (rg_sub (D := 372) (A := (12 * g + 4)) (B := (12 * i + 4)) V1 z1 hl (by omega) Yg_1 Yi_1 (fun s2 w2 h2 => ?_))
        show mm_W _ _ _ _ _ _ _ (81, [(0, .ref 10), (1, .int (nI i)), (2, .int (nI j)), (3, .int (nI g))], [], wP pre (wN (PP s2) (QQ s2) op oq 0 (nI L.1) w2 fa (nI k) st of F), 0)
        have V2 := h2.1
        have z2 := h2.2.1
        have S2 := gs_s S1 h2 (fun k => by omega)
        have F2 := g_F S1 F1 E1 h2
        have E2 := g_E E1 h2
        have R_2 := r_k R_1 h2 (by omega)
        have Xi_2 := t_k Xi_1 h2 (by omega)
        have Yi_2 := t_k Yi_1 h2 (by omega)
        have Zi_2 := t_k Zi_1 h2 (by omega)
        have Xj_2 := t_k Xj_1 h2 (by omega)
        have Yj_2 := t_k Yj_1 h2 (by omega)
        have Zj_2 := t_k Zj_1 h2 (by omega)
        have Xg_2 := t_k Xg_1 h2 (by omega)
        have Yg_2 := t_k Yg_1 h2 (by omega)
        have Zg_2 := t_k Zg_1 h2 (by omega)
        have W1_2 := t_k W1_1 h2 (by omega)
        have W2_2 := t_new h2
        refine mm_skip (mm_call_mono _ _) 2 (st' := (83, [(0, .ref 10), (1, .int (nI i)), (2, .int (nI j)), (3, .int (nI g))], [.int 2, .ref 10], wP pre (wN (PP s2) (QQ s2) op oq 0 (nI L.1) w2 fa (nI k) st of F), 0)) rfl ?_
        refine mm_inv (mm_call_mono _ _) (j := 85) (a := [.int 2]) (M := wP pre (wN (PP s2) (QQ s2) op oq 0 (nI L.1) w2 fa (nI k) st of F)) (u := 0) rfl (by decide) (rm_work ?_)
        show mm_W _ _ _ _ _ _ _ (86, [(0, .ref 10), (1, .int (nI i)), (2, .int (nI j)), (3, .int (nI g))], [.int 376, .ref 10], wP pre (wN (PP s2) (QQ s2) op oq 0 (nI L.1) w2 fa (nI k) st of F), 0)
        refine mm_skip (mm_call_mono _ _) 1 (st' := (87, [(0, .ref 10), (1, .int (nI i)), (2, .int (nI j)), (3, .int (nI g))], [.int (nI j), .int 376, .ref 10], wP pre (wN (PP s2) (QQ s2) op oq 0 (nI L.1) w2 fa (nI k) st of F), 0)) rfl ?_
        refine mm_inv (mm_call_mono _ _) (j := 84) (a := [.int (nI j)]) (M := wP pre (wN (PP s2) (QQ s2) op oq 0 (nI L.1) w2 fa (nI k) st of F)) (u := 0) rfl (by decide) (rm_yOf (o := j) ?_)
        show mm_W _ _ _ _ _ _ _ (90, [(0, .ref 10), (1, .int (nI i)), (2, .int (nI j)), (3, .int (nI g))], [.int (nI (12 * j + 4)), .int 376, .ref 10], wP pre (wN (PP s2) (QQ s2) op oq 0 (nI L.1) w2 fa (nI k) st of F), 0)
        refine mm_skip (mm_call_mono _ _) 1 (st' := (91, [(0, .ref 10), (1, .int (nI i)), (2, .int (nI j)), (3, .int (nI g))], [.int (nI i), .int (nI (12 * j + 4)), .int 376, .ref 10], wP pre (wN (PP s2) (QQ s2) op oq 0 (nI L.1) w2 fa (nI k) st of F), 0)) rfl ?_
        refine mm_inv (mm_call_mono _ _) (j := 84) (a := [.int (nI i)]) (M := wP pre (wN (PP s2) (QQ s2) op oq 0 (nI L.1) w2 fa (nI k) st of F)) (u := 0) rfl (by decide) (rm_yOf (o := i) ?_)
        show mm_W _ _ _ _ _ _ _ (94, [(0, .ref 10), (1, .int (nI i)), (2, .int (nI j)), (3, .int (nI g))], [.int (nI (12 * i + 4)), .int (nI (12 * j + 4)), .int 376, .ref 10], wP pre (wN (PP s2) (QQ s2) op oq 0 (nI L.1) w2 fa (nI k) st of F), 0)
        refine mm_skip (mm_call_mono _ _) 1 (st' := (95, [(0, .ref 10), (1, .int (nI i)), (2, .int (nI j)), (3, .int (nI g))], [.int 4, .int (nI (12 * i + 4)), .int (nI (12 * j + 4)), .int 376, .ref 10], wP pre (wN (PP s2) (QQ s2) op oq 0 (nI L.1) w2 fa (nI k) st of F), 0)) rfl ?_
        refine mm_inv (mm_call_mono _ _) (j := 60) (a := [.ref 10, .int 376, .int (nI (12 * j + 4)), .int (nI (12 * i + 4)), .int 4]) (M := wP pre (wN (PP s2) (QQ s2) op oq 0 (nI L.1) w2 fa (nI k) st of F)) (u := 0) rfl (by decide) (rg_sub (D := 376) (A := (12 * j + 4)) (B := (12 * i + 4)) V2 z2 hl (by omega) Yj_2 Yi_2 (fun s3 w3 h3 => ?_))
        show mm_W _ _ _ _ _ _ _ (98, [(0, .ref 10), (1, .int (nI i)), (2, .int (nI j)), (3, .int (nI g))], [], wP pre (wN (PP s3) (QQ s3) op oq 0 (nI L.1) w3 fa (nI k) st of F), 0)
        have V3 := h3.1
        have z3 := h3.2.1
        have S3 := gs_s S2 h3 (fun k => by omega)
        have F3 := g_F S2 F2 E2 h3
        have E3 := g_E E2 h3
        have R_3 := r_k R_2 h3 (by omega)
        have Xi_3 := t_k Xi_2 h3 (by omega)
        have Yi_3 := t_k Yi_2 h3 (by omega)
        have Zi_3 := t_k Zi_2 h3 (by omega)
        have Xj_3 := t_k Xj_2 h3 (by omega)
        have Yj_3 := t_k Yj_2 h3 (by omega)
        have Zj_3 := t_k Zj_2 h3 (by omega)
        have Xg_3 := t_k Xg_2 h3 (by omega)
        have Yg_3 := t_k Yg_2 h3 (by omega)
        have Zg_3 := t_k Zg_2 h3 (by omega)
        have W1_3 := t_k W1_2 h3 (by omega)
        have W2_3 := t_k W2_2 h3 (by omega)
        have W3_3 := t_new h3
        refine mm_skip (mm_call_mono _ _) 2 (st' := (100, [(0, .ref 10), (1, .int (nI i)), (2, .int (nI j)), (3, .int (nI g))], [.int 3, .ref 10], wP pre (wN (PP s3) (QQ s3) op oq 0 (nI L.1) w3 fa (nI k) st of F), 0)) rfl ?_
        refine mm_inv (mm_call_mono _ _) (j := 85) (a := [.int 3]) (M := wP pre (wN (PP s3) (QQ s3) op oq 0 (nI L.1) w3 fa (nI k) st of F)) (u := 0) rfl (by decide) (rm_work ?_)
        show mm_W _ _ _ _ _ _ _ (103, [(0, .ref 10), (1, .int (nI i)), (2, .int (nI j)), (3, .int (nI g))], [.int 380, .ref 10], wP pre (wN (PP s3) (QQ s3) op oq 0 (nI L.1) w3 fa (nI k) st of F), 0)
        refine mm_skip (mm_call_mono _ _) 1 (st' := (104, [(0, .ref 10), (1, .int (nI i)), (2, .int (nI j)), (3, .int (nI g))], [.int (nI g), .int 380, .ref 10], wP pre (wN (PP s3) (QQ s3) op oq 0 (nI L.1) w3 fa (nI k) st of F), 0)) rfl ?_
        refine mm_inv (mm_call_mono _ _) (j := 83) (a := [.int (nI g)]) (M := wP pre (wN (PP s3) (QQ s3) op oq 0 (nI L.1) w3 fa (nI k) st of F)) (u := 0) rfl (by decide) (rm_xOf (o := g) ?_)
        show mm_W _ _ _ _ _ _ _ (107, [(0, .ref 10), (1, .int (nI i)), (2, .int (nI j)), (3, .int (nI g))], [.int (nI (12 * g)), .int 380, .ref 10], wP pre (wN (PP s3) (QQ s3) op oq 0 (nI L.1) w3 fa (nI k) st of F), 0)
        refine mm_skip (mm_call_mono _ _) 1 (st' := (108, [(0, .ref 10), (1, .int (nI i)), (2, .int (nI j)), (3, .int (nI g))], [.int (nI i), .int (nI (12 * g)), .int 380, .ref 10], wP pre (wN (PP s3) (QQ s3) op oq 0 (nI L.1) w3 fa (nI k) st of F), 0)) rfl ?_
        refine mm_inv (mm_call_mono _ _) (j := 83) (a := [.int (nI i)]) (M := wP pre (wN (PP s3) (QQ s3) op oq 0 (nI L.1) w3 fa (nI k) st of F)) (u := 0) rfl (by decide) (rm_xOf (o := i) ?_)
        show mm_W _ _ _ _ _ _ _ (111, [(0, .ref 10), (1, .int (nI i)), (2, .int (nI j)), (3, .int (nI g))], [.int (nI (12 * i)), .int (nI (12 * g)), .int 380, .ref 10], wP pre (wN (PP s3) (QQ s3) op oq 0 (nI L.1) w3 fa (nI k) st of F), 0)
        refine mm_skip (mm_call_mono _ _) 1 (st' := (112, [(0, .ref 10), (1, .int (nI i)), (2, .int (nI j)), (3, .int (nI g))], [.int 4, .int (nI (12 * i)), .int (nI (12 * g)), .int 380, .ref 10], wP pre (wN (PP s3) (QQ s3) op oq 0 (nI L.1) w3 fa (nI k) st of F), 0)) rfl ?_
        refine mm_inv (mm_call_mono _ _) (j := 60) (a := [.ref 10, .int 380, .int (nI (12 * g)), .int (nI (12 * i)), .int 4]) (M := wP pre (wN (PP s3) (QQ s3) op oq 0 (nI L.1) w3 fa (nI k) st of F)) (u := 0) rfl (by decide) (rg_sub (D := 380) (A := (12 * g)) (B := (12 * i)) V3 z3 hl (by omega) Xg_3 Xi_3 (fun s4 w4 h4 => ?_))
        show mm_W _ _ _ _ _ _ _ (115, [(0, .ref 10), (1, .int (nI i)), (2, .int (nI j)), (3, .int (nI g))], [], wP pre (wN (PP s4) (QQ s4) op oq 0 (nI L.1) w4 fa (nI k) st of F), 0)
        have V4 := h4.1
        have z4 := h4.2.1
        have S4 := gs_s S3 h4 (fun k => by omega)
        have F4 := g_F S3 F3 E3 h4
        have E4 := g_E E3 h4
        have R_4 := r_k R_3 h4 (by omega)
        have Xi_4 := t_k Xi_3 h4 (by omega)
        have Yi_4 := t_k Yi_3 h4 (by omega)
        have Zi_4 := t_k Zi_3 h4 (by omega)
        have Xj_4 := t_k Xj_3 h4 (by omega)
        have Yj_4 := t_k Yj_3 h4 (by omega)
        have Zj_4 := t_k Zj_3 h4 (by omega)
        have Xg_4 := t_k Xg_3 h4 (by omega)
        have Yg_4 := t_k Yg_3 h4 (by omega)
        have Zg_4 := t_k Zg_3 h4 (by omega)
        have W1_4 := t_k W1_3 h4 (by omega)
        have W2_4 := t_k W2_3 h4 (by omega)
        have W3_4 := t_k W3_3 h4 (by omega)
        have W4_4 := t_new h4
        refine mm_skip (mm_call_mono _ _) 2 (st' := (117, [(0, .ref 10), (1, .int (nI i)), (2, .int (nI j)), (3, .int (nI g))], [.int 4, .ref 10], wP pre (wN (PP s4) (QQ s4) op oq 0 (nI L.1) w4 fa (nI k) st of F), 0)) rfl ?_
        refine mm_inv (mm_call_mono _ _) (j := 85) (a := [.int 4]) (M := wP pre (wN (PP s4) (QQ s4) op oq 0 (nI L.1) w4 fa (nI k) st of F)) (u := 0) rfl (by decide) (rm_work ?_)
        show mm_W _ _ _ _ _ _ _ (120, [(0, .ref 10), (1, .int (nI i)), (2, .int (nI j)), (3, .int (nI g))], [.int 384, .ref 10], wP pre (wN (PP s4) (QQ s4) op oq 0 (nI L.1) w4 fa (nI k) st of F), 0)
        refine mm_skip (mm_call_mono _ _) 1 (st' := (121, [(0, .ref 10), (1, .int (nI i)), (2, .int (nI j)), (3, .int (nI g))], [.int 0, .int 384, .ref 10], wP pre (wN (PP s4) (QQ s4) op oq 0 (nI L.1) w4 fa (nI k) st of F), 0)) rfl ?_
        refine mm_inv (mm_call_mono _ _) (j := 85) (a := [.int 0]) (M := wP pre (wN (PP s4) (QQ s4) op oq 0 (nI L.1) w4 fa (nI k) st of F)) (u := 0) rfl (by decide) (rm_work ?_)
        show mm_W _ _ _ _ _ _ _ (124, [(0, .ref 10), (1, .int (nI i)), (2, .int (nI j)), (3, .int (nI g))], [.int 368, .int 384, .ref 10], wP pre (wN (PP s4) (QQ s4) op oq 0 (nI L.1) w4 fa (nI k) st of F), 0)
        refine mm_skip (mm_call_mono _ _) 1 (st' := (125, [(0, .ref 10), (1, .int (nI i)), (2, .int (nI j)), (3, .int (nI g))], [.int 1, .int 368, .int 384, .ref 10], wP pre (wN (PP s4) (QQ s4) op oq 0 (nI L.1) w4 fa (nI k) st of F), 0)) rfl ?_
        refine mm_inv (mm_call_mono _ _) (j := 85) (a := [.int 1]) (M := wP pre (wN (PP s4) (QQ s4) op oq 0 (nI L.1) w4 fa (nI k) st of F)) (u := 0) rfl (by decide) (rm_work ?_)
        show mm_W _ _ _ _ _ _ _ (128, [(0, .ref 10), (1, .int (nI i)), (2, .int (nI j)), (3, .int (nI g))], [.int 372, .int 368, .int 384, .ref 10], wP pre (wN (PP s4) (QQ s4) op oq 0 (nI L.1) w4 fa (nI k) st of F), 0)
        refine mm_skip (mm_call_mono _ _) 1 (st' := (129, [(0, .ref 10), (1, .int (nI i)), (2, .int (nI j)), (3, .int (nI g))], [.int 2, .int 372, .int 368, .int 384, .ref 10], wP pre (wN (PP s4) (QQ s4) op oq 0 (nI L.1) w4 fa (nI k) st of F), 0)) rfl ?_
        refine mm_inv (mm_call_mono _ _) (j := 85) (a := [.int 2]) (M := wP pre (wN (PP s4) (QQ s4) op oq 0 (nI L.1) w4 fa (nI k) st of F)) (u := 0) rfl (by decide) (rm_work ?_)
        show mm_W _ _ _ _ _ _ _ (132, [(0, .ref 10), (1, .int (nI i)), (2, .int (nI j)), (3, .int (nI g))], [.int 376, .int 372, .int 368, .int 384, .ref 10], wP pre (wN (PP s4) (QQ s4) op oq 0 (nI L.1) w4 fa (nI k) st of F), 0)
        refine mm_skip (mm_call_mono _ _) 1 (st' := (133, [(0, .ref 10), (1, .int (nI i)), (2, .int (nI j)), (3, .int (nI g))], [.int 3, .int 376, .int 372, .int 368, .int 384, .ref 10], wP pre (wN (PP s4) (QQ s4) op oq 0 (nI L.1) w4 fa (nI k) st of F), 0)) rfl ?_
        refine mm_inv (mm_call_mono _ _) (j := 85) (a := [.int 3]) (M := wP pre (wN (PP s4) (QQ s4) op oq 0 (nI L.1) w4 fa (nI k) st of F)) (u := 0) rfl (by decide) (rm_work ?_)
        show mm_W _ _ _ _ _ _ _ (136, [(0, .ref 10), (1, .int (nI i)), (2, .int (nI j)), (3, .int (nI g))], [.int 380, .int 376, .int 372, .int 368, .int 384, .ref 10], wP pre (wN (PP s4) (QQ s4) op oq 0 (nI L.1) w4 fa (nI k) st of F), 0)
        refine mm_inv (mm_call_mono _ _) (j := 87) (a := [.ref 10, .int 384, .int 368, .int 372, .int 376, .int 380]) (M := wP pre (wN (PP s4) (QQ s4) op oq 0 (nI L.1) w4 fa (nI k) st of F)) (u := 0) rfl (by decide) (rg_cross (D := 384) (A := 368) (B := 372) (C := 376) (E := 380) V4 z4 hl (by omega) R_4 W1_4 W2_4 W3_4 W4_4 (fun s5 w5 h5 => ?_))
        show mm_W _ _ _ _ _ _ _ (139, [(0, .ref 10), (1, .int (nI i)), (2, .int (nI j)), (3, .int (nI g))], [], wP pre (wN (PP s5) (QQ s5) op oq 0 (nI L.1) w5 fa (nI k) st of F), 0)
        have V5 := h5.1
        have z5 := h5.2.1
        have S5 := gs_s S4 h5 (fun k => by omega)
        have F5 := g_F S4 F4 E4 h5
        have E5 := g_E E4 h5
        have R_5 := r_k R_4 h5 (by omega)
        have Xi_5 := t_k Xi_4 h5 (by omega)
        have Yi_5 := t_k Yi_4 h5 (by omega)
        have Zi_5 := t_k Zi_4 h5 (by omega)
        have Xj_5 := t_k Xj_4 h5 (by omega)
        have Yj_5 := t_k Yj_4 h5 (by omega)
        have Zj_5 := t_k Zj_4 h5 (by omega)
        have Xg_5 := t_k Xg_4 h5 (by omega)
        have Yg_5 := t_k Yg_4 h5 (by omega)
        have Zg_5 := t_k Zg_4 h5 (by omega)
        have W1_5 := t_k W1_4 h5 (by omega)
        have W2_5 := t_k W2_4 h5 (by omega)
        have W3_5 := t_k W3_4 h5 (by omega)
        have W4_5 := t_k W4_4 h5 (by omega)
        have W5_5 := t_new h5
        refine mm_skip (mm_call_mono _ _) 2 (st' := (141, [(0, .ref 10), (1, .int (nI i)), (2, .int (nI j)), (3, .int (nI g))], [.int 4, .ref 10], wP pre (wN (PP s5) (QQ s5) op oq 0 (nI L.1) w5 fa (nI k) st of F), 0)) rfl ?_
        refine mm_inv (mm_call_mono _ _) (j := 85) (a := [.int 4]) (M := wP pre (wN (PP s5) (QQ s5) op oq 0 (nI L.1) w5 fa (nI k) st of F)) (u := 0) rfl (by decide) (rm_work ?_)
        show mm_W _ _ _ _ _ _ _ (144, [(0, .ref 10), (1, .int (nI i)), (2, .int (nI j)), (3, .int (nI g))], [.int 384, .ref 10], wP pre (wN (PP s5) (QQ s5) op oq 0 (nI L.1) w5 fa (nI k) st of F), 0)
        refine mm_inv (mm_call_mono _ _) (j := 80) (a := [.ref 10, .int 384]) (M := wP pre (wN (PP s5) (QQ s5) op oq 0 (nI L.1) w5 fa (nI k) st of F)) (u := 0) rfl (by decide) (rg_sign (A := 384) V5 z5 hl (by omega) R_5 W5_5 (fun s6 w6 sv h6 => ?_))
        show mm_W _ _ _ _ _ _ _ (147, [(0, .ref 10), (1, .int (nI i)), (2, .int (nI j)), (3, .int (nI g))], [.int sv], wP pre (wN (PP s6) (QQ s6) op oq 0 (nI L.1) w6 fa (nI k) st of F), 0)
        have V6 := h6.1
        have z6 := h6.2.1
        have S6 := ms_g S5 h6 (fun k => by omega)
        have F6 := m_Fg S5 F5 E5 h6
        have E6 := m_Eg E5 h6
        refine mm_skip (mm_call_mono _ _) 4 (st' := (154, [(4, .int sv), (0, .ref 10), (1, .int (nI i)), (2, .int (nI j)), (3, .int (nI g))], [.int w6, .ref 10], wP pre (wN (PP s6) (QQ s6) op oq 0 (nI L.1) w6 fa (nI k) st of F), 0)) rfl ?_
        refine mm_branch (mm_call_mono _ _) (c := w6 = 0) (s1 := (161, [(4, .int sv), (0, .ref 10), (1, .int (nI i)), (2, .int (nI j)), (3, .int (nI g))], [.ref 10], wP pre (wN (PP s6) (QQ s6) op oq 0 (nI L.1) w6 fa (nI k) st of F), 0)) (s2 := (157, [(4, .int sv), (0, .ref 10), (1, .int (nI i)), (2, .int (nI j)), (3, .int (nI g))], [.ref 10], wP pre (wN (PP s6) (QQ s6) op oq 0 (nI L.1) w6 fa (nI k) st of F), 0)) rfl (fun gw => ?_) (fun gw => ?_)
        · skip
          refine mm_skip (mm_call_mono _ _) 4 (st' := (169, [(4, .int sv), (0, .ref 10), (1, .int (nI i)), (2, .int (nI j)), (3, .int (nI g))], [.int w6], wP pre (wN (PP s6) (QQ s6) op oq 0 (nI L.1) w6 fa (nI k) st of F), 0)) rfl ?_
          refine mm_branch (mm_call_mono _ _) (c := w6 = 0) (s1 := (176, [(4, .int sv), (0, .ref 10), (1, .int (nI i)), (2, .int (nI j)), (3, .int (nI g))], [], wP pre (wN (PP s6) (QQ s6) op oq 0 (nI L.1) w6 fa (nI k) st of F), 0)) (s2 := (172, [(4, .int sv), (0, .ref 10), (1, .int (nI i)), (2, .int (nI j)), (3, .int (nI g))], [], wP pre (wN (PP s6) (QQ s6) op oq 0 (nI L.1) w6 fa (nI k) st of F), 0)) rfl (fun _ => ?_) (fun h => absurd gw h)
          refine mm_skip (mm_call_mono _ _) 1 (st' := (178, [(4, .int sv), (0, .ref 10), (1, .int (nI i)), (2, .int (nI j)), (3, .int (nI g))], [.int sv], wP pre (wN (PP s6) (QQ s6) op oq 0 (nI L.1) w6 fa (nI k) st of F), 0)) rfl ?_
          exact mm_ret (mm_call_mono _ _) (c := True) (r := .inl (some (.int sv))) (M := wP pre (wN (PP s6) (QQ s6) op oq 0 (nI L.1) w6 fa (nI k) st of F)) (u := 0) rfl trivial (by decide) (hQ _ _ (0, sv) ((show qSide S k (nI i) (nI j) (nI g) = oI (rSide v L i j g) from ((if_pos ⟨u1, u2, u3⟩).trans (by rw [hgv, cl_n (by omega), cl_n (by omega), cl_n (by omega)])).trans (by rw [rSide_eq])).trans (by rw [E6 gw]; exact congrArg (Prod.mk 0) (Int32.ofInt_toInt _))) (fun j hj => S6.2.2.1 j (by omega)) V6)
        · skip
          refine mm_skip (mm_call_mono _ _) 5 (st' := (169, [(4, .int sv), (0, .ref 10), (1, .int (nI i)), (2, .int (nI j)), (3, .int (nI g))], [.int w6], wP pre (wN (PP s6) (QQ s6) op oq 2 (nI L.1) w6 fa (nI k) st of F), 0)) rfl ?_
          refine mm_branch (mm_call_mono _ _) (c := w6 = 0) (s1 := (176, [(4, .int sv), (0, .ref 10), (1, .int (nI i)), (2, .int (nI j)), (3, .int (nI g))], [], wP pre (wN (PP s6) (QQ s6) op oq 2 (nI L.1) w6 fa (nI k) st of F), 0)) (s2 := (172, [(4, .int sv), (0, .ref 10), (1, .int (nI i)), (2, .int (nI j)), (3, .int (nI g))], [], wP pre (wN (PP s6) (QQ s6) op oq 2 (nI L.1) w6 fa (nI k) st of F), 0)) rfl (fun h => absurd h gw) (fun _ => ?_)
          refine mm_skip (mm_call_mono _ _) 2 (st' := (178, [(4, .int sv), (0, .ref 10), (1, .int (nI i)), (2, .int (nI j)), (3, .int (nI g))], [.int 0], wP pre (wN (PP s6) (QQ s6) op oq 2 (nI L.1) w6 fa (nI k) st of F), 0)) rfl ?_
          exact mm_ret (mm_call_mono _ _) (c := True) (r := .inl (some (.int 0))) (M := wP pre (wN (PP s6) (QQ s6) op oq 2 (nI L.1) w6 fa (nI k) st of F)) (u := 0) rfl trivial (by decide) (hQ _ _ (2, 0) ((show qSide S k (nI i) (nI j) (nI g) = oI (rSide v L i j g) from ((if_pos ⟨u1, u2, u3⟩).trans (by rw [hgv, cl_n (by omega), cl_n (by omega), cl_n (by omega)])).trans (by rw [rSide_eq])).trans (by rw [F6 (mm_z1 z6 gw) rfl]; rfl)) (fun j hj => S6.2.2.1 j (by omega)) V6)

theorem sg_em {L : lvR} {x : n4} {n : Int} (h : fv (n, 1)) : tSign L x n = (xsub L.1 x (em (n, 1))).bind fun s => (xsg L s).bind fun r => some r := by
  unfold tSign
  rw [show fmk n 1 = some (n, 1) from fmk_id h]
  rfl
set_option maxRecDepth 100000 in
theorem rx_sign {d : Nat} {pre : mm_pre} {s : Nat → fr} {op oq : Nat → Int64} {tr wi fa : Int32} {st of : Nat → Int32} {F : mm_M} {S : Nat → stp} {k : Nat} {L : lvR} {v : Nat → o3} {x1 x2 x3 : Int32} {Q : mm_R → mm_M → Prop} (hk : k ≤ 24) (hS : ∀ i, i < k → stR st of S i) (hw : ∀ i, i < k → wf S i) (hR : rI S s k v L) (hQ : ∀ (s1 : Nat → fr) (w1 : Int32) (r : oc), qSign S k x1 x2 x3 = r → (∀ j, j < 300 → s1 j = s j) → (∀ j, fv (s1 j)) → Q (.inl (some (.int (rv r)))) (wP pre (wN (PP s1) (QQ s1) op oq (nI r.1) (nI L.1) w1 fa (nI k) st of F))) : mm_call mm_Tb (d + 17) 115 [.ref 10, .int x1, .int x2, .int x3] (wP pre (wN (PP s) (QQ s) op oq tr (nI L.1) wi fa (nI k) st of F)) Q := by
  have hV := hR.2.2.2.2.1
  have hl := hR.2.1
  have R := hR.2.2.1
  have S0 := ms_0 (wi := 0) (Z := fun k => 300 ≤ k) hV (Or.inl rfl)
  have hgv := gv_s hR.1
  refine mm_in mt_115 (Nat.le_of_ble_eq_true rfl) ?_
  show mm_W _ _ _ _ _ _ _ (0, [(0, .ref 10), (1, .int x1), (2, .int x2), (3, .int x3)], [], wP pre (wN (PP s) (QQ s) op oq tr (nI L.1) wi fa (nI k) st of F), 0)
  refine mm_skip (mm_call_mono _ _) 3 (st' := (3, [(0, .ref 10), (1, .int x1), (2, .int x2), (3, .int x3)], [.int x1, .ref 10, .ref 10], wP pre (wN (PP s) (QQ s) op oq tr (nI L.1) wi fa (nI k) st of F), 0)) rfl ?_
  refine mm_inv (mm_call_mono _ _) (j := 97) (a := [.ref 10, .int x1]) (M := wP pre (wN (PP s) (QQ s) op oq tr (nI L.1) wi fa (nI k) st of F)) (u := 0) rfl (by decide) (rk_isPoint hk hS hw ?_)
  show mm_W _ _ _ _ _ _ _ (6, [(0, .ref 10), (1, .int x1), (2, .int x2), (3, .int x3)], [.int (bz (ckd S k x1 = 0)), .ref 10], wP pre (wN (PP s) (QQ s) op oq tr (nI L.1) wi fa (nI k) st of F), 0)
  refine mm_branch (mm_call_mono _ _) (c := (bz (ckd S k x1 = 0)) = 0) (s1 := (25, [(0, .ref 10), (1, .int x1), (2, .int x2), (3, .int x3)], [.ref 10], wP pre (wN (PP s) (QQ s) op oq tr (nI L.1) wi fa (nI k) st of F), 0)) (s2 := (9, [(0, .ref 10), (1, .int x1), (2, .int x2), (3, .int x3)], [.ref 10], wP pre (wN (PP s) (QQ s) op oq tr (nI L.1) wi fa (nI k) st of F), 0)) rfl (fun z1 => ?_) (fun z1 => ?_)
  · skip
    refine mm_skip (mm_call_mono _ _) 4 (st' := (33, [(0, .ref 10), (1, .int x1), (2, .int x2), (3, .int x3)], [.int 1], wP pre (wN (PP s) (QQ s) op oq 1 (nI L.1) wi fa (nI k) st of F), 0)) rfl ?_
    refine mm_branch (mm_call_mono _ _) (c := (1 : Int32) ≤ 0) (s1 := (38, [(0, .ref 10), (1, .int x1), (2, .int x2), (3, .int x3)], [], wP pre (wN (PP s) (QQ s) op oq 1 (nI L.1) wi fa (nI k) st of F), 0)) (s2 := (36, [(0, .ref 10), (1, .int x1), (2, .int x2), (3, .int x3)], [], wP pre (wN (PP s) (QQ s) op oq 1 (nI L.1) wi fa (nI k) st of F), 0)) rfl (fun h => absurd h (by decide)) (fun _ => ?_)
    refine mm_skip (mm_call_mono _ _) 1 (st' := (37, [(0, .ref 10), (1, .int x1), (2, .int x2), (3, .int x3)], [.int 0], wP pre (wN (PP s) (QQ s) op oq 1 (nI L.1) wi fa (nI k) st of F), 0)) rfl ?_
    exact mm_ret (mm_call_mono _ _) (c := True) (r := .inl (some (.int 0))) (M := wP pre (wN (PP s) (QQ s) op oq 1 (nI L.1) wi fa (nI k) st of F)) (u := 0) rfl trivial (by decide) (hQ _ _ (1, 0) (if_neg (fun z => bz_0 z1 z.1)) (fun _ _ => rfl) hR.2.2.2.2.1)
  · skip
    have u1 := bz_1 z1
    obtain ⟨i, hi, rfl, pi⟩ := ckd_pt hk (bz_1 z1)
    obtain ⟨Xi, Yi, Zi⟩ := hR.2.2.2.1 i hi
    refine mm_skip (mm_call_mono _ _) 2 (st' := (12, [(0, .ref 10), (1, .int (nI i)), (2, .int x2), (3, .int x3)], [.int (-1000000), .int x3, .ref 10], wP pre (wN (PP s) (QQ s) op oq tr (nI L.1) wi fa (nI k) st of F), 0)) rfl ?_
    refine mm_branch (mm_call_mono _ _) (c := x3 < (-1000000)) (s1 := (25, [(0, .ref 10), (1, .int (nI i)), (2, .int x2), (3, .int x3)], [.ref 10], wP pre (wN (PP s) (QQ s) op oq tr (nI L.1) wi fa (nI k) st of F), 0)) (s2 := (15, [(0, .ref 10), (1, .int (nI i)), (2, .int x2), (3, .int x3)], [.ref 10], wP pre (wN (PP s) (QQ s) op oq tr (nI L.1) wi fa (nI k) st of F), 0)) rfl (fun n2 => ?_) (fun n2 => ?_)
    · skip
      refine mm_skip (mm_call_mono _ _) 4 (st' := (33, [(0, .ref 10), (1, .int (nI i)), (2, .int x2), (3, .int x3)], [.int 1], wP pre (wN (PP s) (QQ s) op oq 1 (nI L.1) wi fa (nI k) st of F), 0)) rfl ?_
      refine mm_branch (mm_call_mono _ _) (c := (1 : Int32) ≤ 0) (s1 := (38, [(0, .ref 10), (1, .int (nI i)), (2, .int x2), (3, .int x3)], [], wP pre (wN (PP s) (QQ s) op oq 1 (nI L.1) wi fa (nI k) st of F), 0)) (s2 := (36, [(0, .ref 10), (1, .int (nI i)), (2, .int x2), (3, .int x3)], [], wP pre (wN (PP s) (QQ s) op oq 1 (nI L.1) wi fa (nI k) st of F), 0)) rfl (fun h => absurd h (by decide)) (fun _ => ?_)
      refine mm_skip (mm_call_mono _ _) 1 (st' := (37, [(0, .ref 10), (1, .int (nI i)), (2, .int x2), (3, .int x3)], [.int 0], wP pre (wN (PP s) (QQ s) op oq 1 (nI L.1) wi fa (nI k) st of F), 0)) rfl ?_
      exact mm_ret (mm_call_mono _ _) (c := True) (r := .inl (some (.int 0))) (M := wP pre (wN (PP s) (QQ s) op oq 1 (nI L.1) wi fa (nI k) st of F)) (u := 0) rfl trivial (by decide) (hQ _ _ (1, 0) (if_neg (fun z => z.2.1 n2)) (fun _ _ => rfl) hR.2.2.2.2.1)
    · skip
      refine mm_skip (mm_call_mono _ _) 2 (st' := (18, [(0, .ref 10), (1, .int (nI i)), (2, .int x2), (3, .int x3)], [.int 1000000, .int x3, .ref 10], wP pre (wN (PP s) (QQ s) op oq tr (nI L.1) wi fa (nI k) st of F), 0)) rfl ?_
      refine mm_branch (mm_call_mono _ _) (c := 1000000 < x3) (s1 := (25, [(0, .ref 10), (1, .int (nI i)), (2, .int x2), (3, .int x3)], [.ref 10], wP pre (wN (PP s) (QQ s) op oq tr (nI L.1) wi fa (nI k) st of F), 0)) (s2 := (21, [(0, .ref 10), (1, .int (nI i)), (2, .int x2), (3, .int x3)], [.ref 10], wP pre (wN (PP s) (QQ s) op oq tr (nI L.1) wi fa (nI k) st of F), 0)) rfl (fun n3 => ?_) (fun n3 => ?_)
      · skip
        refine mm_skip (mm_call_mono _ _) 4 (st' := (33, [(0, .ref 10), (1, .int (nI i)), (2, .int x2), (3, .int x3)], [.int 1], wP pre (wN (PP s) (QQ s) op oq 1 (nI L.1) wi fa (nI k) st of F), 0)) rfl ?_
        refine mm_branch (mm_call_mono _ _) (c := (1 : Int32) ≤ 0) (s1 := (38, [(0, .ref 10), (1, .int (nI i)), (2, .int x2), (3, .int x3)], [], wP pre (wN (PP s) (QQ s) op oq 1 (nI L.1) wi fa (nI k) st of F), 0)) (s2 := (36, [(0, .ref 10), (1, .int (nI i)), (2, .int x2), (3, .int x3)], [], wP pre (wN (PP s) (QQ s) op oq 1 (nI L.1) wi fa (nI k) st of F), 0)) rfl (fun h => absurd h (by decide)) (fun _ => ?_)
        refine mm_skip (mm_call_mono _ _) 1 (st' := (37, [(0, .ref 10), (1, .int (nI i)), (2, .int x2), (3, .int x3)], [.int 0], wP pre (wN (PP s) (QQ s) op oq 1 (nI L.1) wi fa (nI k) st of F), 0)) rfl ?_
        exact mm_ret (mm_call_mono _ _) (c := True) (r := .inl (some (.int 0))) (M := wP pre (wN (PP s) (QQ s) op oq 1 (nI L.1) wi fa (nI k) st of F)) (u := 0) rfl trivial (by decide) (hQ _ _ (1, 0) (if_neg (fun z => Int32.not_lt.mpr z.2.2 n3)) (fun _ _ => rfl) hR.2.2.2.2.1)
      · skip
        refine mm_skip (mm_call_mono _ _) 5 (st' := (33, [(0, .ref 10), (1, .int (nI i)), (2, .int x2), (3, .int x3)], [.int 0], wP pre (wN (PP s) (QQ s) op oq 0 (nI L.1) wi fa (nI k) st of F), 0)) rfl ?_
        refine mm_branch (mm_call_mono _ _) (c := (0 : Int32) ≤ 0) (s1 := (38, [(0, .ref 10), (1, .int (nI i)), (2, .int x2), (3, .int x3)], [], wP pre (wN (PP s) (QQ s) op oq 0 (nI L.1) wi fa (nI k) st of F), 0)) (s2 := (36, [(0, .ref 10), (1, .int (nI i)), (2, .int x2), (3, .int x3)], [], wP pre (wN (PP s) (QQ s) op oq 0 (nI L.1) wi fa (nI k) st of F), 0)) rfl (fun _ => ?_) (fun h => absurd (by decide) h)
        refine mm_skip (mm_call_mono _ _) 2 (st' := (40, [(0, .ref 10), (1, .int (nI i)), (2, .int x2), (3, .int x3)], [.int 0, .ref 10], wP pre (wN (PP s) (QQ s) op oq 0 (nI L.1) wi fa (nI k) st of F), 0)) rfl ?_
        refine mm_need (mm_call_mono _ _) (c := mm_z 0) (s' := (43, [(0, .ref 10), (1, .int (nI i)), (2, .int x2), (3, .int x3)], [], wP pre (wN (PP s) (QQ s) op oq 0 (nI L.1) 0 fa (nI k) st of F), 0)) rfl (by unfold mm_z; decide) ?_
        refine mm_skip (mm_call_mono _ _) 2 (st' := (45, [(0, .ref 10), (1, .int (nI i)), (2, .int x2), (3, .int x3)], [.int 0, .ref 10], wP pre (wN (PP s) (QQ s) op oq 0 (nI L.1) 0 fa (nI k) st of F), 0)) rfl ?_
        refine mm_inv (mm_call_mono _ _) (j := 85) (a := [.int 0]) (M := wP pre (wN (PP s) (QQ s) op oq 0 (nI L.1) 0 fa (nI k) st of F)) (u := 0) rfl (by decide) (rm_work ?_)
        show mm_W _ _ _ _ _ _ _ (48, [(0, .ref 10), (1, .int (nI i)), (2, .int x2), (3, .int x3)], [.int 368, .ref 10], wP pre (wN (PP s) (QQ s) op oq 0 (nI L.1) 0 fa (nI k) st of F), 0)
        refine mm_skip (mm_call_mono _ _) 1 (st' := (49, [(0, .ref 10), (1, .int (nI i)), (2, .int x2), (3, .int x3)], [.int 0, .int 368, .ref 10], wP pre (wN (PP s) (QQ s) op oq 0 (nI L.1) 0 fa (nI k) st of F), 0)) rfl ?_
        refine mm_inv (mm_call_mono _ _) (j := 65) (a := [.ref 10, .int 368, .int 0]) (M := wP pre (wN (PP s) (QQ s) op oq 0 (nI L.1) 0 fa (nI k) st of F)) (u := 0) rfl (by decide) (rm_clear_0 (D := 368) hV (by omega) (fun sc cc => ?_))
        show mm_W _ _ _ _ _ _ _ (52, [(0, .ref 10), (1, .int (nI i)), (2, .int x2), (3, .int x3)], [], wP pre (wN (PP sc) (QQ sc) op oq 0 (nI L.1) 0 fa (nI k) st of F), 0)
        refine mm_skip (mm_call_mono _ _) 3 (st' := (57, [(0, .ref 10), (1, .int (nI i)), (2, .int x2), (3, .int x3)], [.int 0, .ref 11], wP pre (wN (PP sc) (QQ sc) op oq 0 (nI L.1) 0 fa (nI k) st of F), 0)) rfl ?_
        refine mm_inv (mm_call_mono _ _) (j := 85) (a := [.int 0]) (M := wP pre (wN (PP sc) (QQ sc) op oq 0 (nI L.1) 0 fa (nI k) st of F)) (u := 0) rfl (by decide) (rm_work ?_)
        show mm_W _ _ _ _ _ _ _ (60, [(0, .ref 10), (1, .int (nI i)), (2, .int x2), (3, .int x3)], [.int 368, .ref 11], wP pre (wN (PP sc) (QQ sc) op oq 0 (nI L.1) 0 fa (nI k) st of F), 0)
        refine mm_skip (mm_call_mono _ _) 2 (st' := (62, [(0, .ref 10), (1, .int (nI i)), (2, .int x2), (3, .int x3)], [.long (Int32.toInt64 x3), .int 368, .ref 11], wP pre (wN (PP sc) (QQ sc) op oq 0 (nI L.1) 0 fa (nI k) st of F), 0)) rfl ?_
        refine mm_need (mm_call_mono _ _) (c := vp_in 368 480) (s' := (63, [(0, .ref 10), (1, .int (nI i)), (2, .int x2), (3, .int x3)], [], wP pre (wN (vp_updL (PP sc) 368 (Int32.toInt64 x3)) (QQ sc) op oq 0 (nI L.1) 0 fa (nI k) st of F), 0)) rfl (by unfold vp_in; decide) ?_
        rw [pp_v (x := (x3.toInt, 1)) (Int32.toInt_toInt64 x3), qq_sam (s := sc) (k := 368) (x := (x3.toInt, 1)) (by rw [show sc 368 = z0 from cc.2.2 0 (by omega) (by omega)]; rfl)]
        have V9 := V_up (d := 368) cc.1 (fv_n n2 n3)
        have N9 : tM (up sc 368 (x3.toInt, 1)) 0 L.1 368 (em (x3.toInt, 1)) := t_em up_s (by rw [up_n (by omega)]; exact cc.2.2 1 (by omega) (by omega)) (by rw [up_n (by omega)]; exact cc.2.2 2 (by omega) (by omega)) (by rw [up_n (by omega)]; exact cc.2.2 3 (by omega) (by omega))
        have E9 : ∀ j, j < 300 → up sc 368 (x3.toInt, 1) j = s j := fun j hj => by rw [up_n (by omega)]; exact cc.2.1 j (by omega)
        have S1 : ms s 0 (fun k => 300 ≤ k) (up sc 368 (x3.toInt, 1)) 0 := ⟨V9, Or.inl rfl, fun j hj => E9 j (by omega), id, id⟩
        have Xi_1 := t_e (s1 := up sc 368 (x3.toInt, 1)) Xi (fun j hj => E9 _ (by omega))
        have Yi_1 := t_e (s1 := up sc 368 (x3.toInt, 1)) Yi (fun j hj => E9 _ (by omega))
        have R_1 := rdM_e (s1 := up sc 368 (x3.toInt, 1)) hl R (fun j h1 h2 _ => E9 j (by omega))
        generalize up sc 368 (x3.toInt, 1) = s9 at V9 N9 S1 Xi_1 Yi_1 R_1 ⊢
        show mm_W _ _ _ _ _ _ _ (63, [(0, .ref 10), (1, .int (nI i)), (2, .int x2), (3, .int x3)], [], wP pre (wN (PP s9) (QQ s9) op oq 0 (nI L.1) 0 fa (nI k) st of F), 0)
        refine mm_skip (mm_call_mono _ _) 2 (st' := (65, [(0, .ref 10), (1, .int (nI i)), (2, .int x2), (3, .int x3)], [.int 1, .ref 10], wP pre (wN (PP s9) (QQ s9) op oq 0 (nI L.1) 0 fa (nI k) st of F), 0)) rfl ?_
        refine mm_inv (mm_call_mono _ _) (j := 85) (a := [.int 1]) (M := wP pre (wN (PP s9) (QQ s9) op oq 0 (nI L.1) 0 fa (nI k) st of F)) (u := 0) rfl (by decide) (rm_work ?_)
        show mm_W _ _ _ _ _ _ _ (68, [(0, .ref 10), (1, .int (nI i)), (2, .int x2), (3, .int x3)], [.int 372, .ref 10], wP pre (wN (PP s9) (QQ s9) op oq 0 (nI L.1) 0 fa (nI k) st of F), 0)
        refine mm_skip (mm_call_mono _ _) 1 (st' := (69, [(0, .ref 10), (1, .int (nI i)), (2, .int x2), (3, .int x3)], [.int x2, .int 372, .ref 10], wP pre (wN (PP s9) (QQ s9) op oq 0 (nI L.1) 0 fa (nI k) st of F), 0)) rfl ?_
        refine mm_branch (mm_call_mono _ _) (c := x2 = 0) (s1 := (79, [(0, .ref 10), (1, .int (nI i)), (2, .int x2), (3, .int x3)], [.int 372, .ref 10], wP pre (wN (PP s9) (QQ s9) op oq 0 (nI L.1) 0 fa (nI k) st of F), 0)) (s2 := (72, [(0, .ref 10), (1, .int (nI i)), (2, .int x2), (3, .int x3)], [.int 372, .ref 10], wP pre (wN (PP s9) (QQ s9) op oq 0 (nI L.1) 0 fa (nI k) st of F), 0)) rfl (fun gy => ?_) (fun gy => ?_)
        · skip
          have E1 : (0 : Int32) = 0 → tSign L (v i).1 x3.toInt = Option.bind (xsub L.1 (v i).1 (em (x3.toInt, 1))) _ := fun _ => sg_em (fv_n n2 n3)
          have F1 : (0 : Int32) = 1 → (0 : Int32) = 0 → tSign L (v i).1 x3.toInt = none := fun h1 h0 => absurd (h1.symm.trans h0) z10
          refine mm_skip (mm_call_mono _ _) 1 (st' := (80, [(0, .ref 10), (1, .int (nI i)), (2, .int x2), (3, .int x3)], [.int (nI i), .int 372, .ref 10], wP pre (wN (PP s9) (QQ s9) op oq 0 (nI L.1) 0 fa (nI k) st of F), 0)) rfl ?_
          refine mm_inv (mm_call_mono _ _) (j := 83) (a := [.int (nI i)]) (M := wP pre (wN (PP s9) (QQ s9) op oq 0 (nI L.1) 0 fa (nI k) st of F)) (u := 0) rfl (by decide) (rm_xOf (o := i) ?_)
          show mm_W _ _ _ _ _ _ _ (83, [(0, .ref 10), (1, .int (nI i)), (2, .int x2), (3, .int x3)], [.int (nI (12 * i)), .int 372, .ref 10], wP pre (wN (PP s9) (QQ s9) op oq 0 (nI L.1) 0 fa (nI k) st of F), 0)
          refine mm_skip (mm_call_mono _ _) 1 (st' := (84, [(0, .ref 10), (1, .int (nI i)), (2, .int x2), (3, .int x3)], [.int 0, .int (nI (12 * i)), .int 372, .ref 10], wP pre (wN (PP s9) (QQ s9) op oq 0 (nI L.1) 0 fa (nI k) st of F), 0)) rfl ?_
          refine mm_inv (mm_call_mono _ _) (j := 85) (a := [.int 0]) (M := wP pre (wN (PP s9) (QQ s9) op oq 0 (nI L.1) 0 fa (nI k) st of F)) (u := 0) rfl (by decide) (rm_work ?_)
          show mm_W _ _ _ _ _ _ _ (87, [(0, .ref 10), (1, .int (nI i)), (2, .int x2), (3, .int x3)], [.int 368, .int (nI (12 * i)), .int 372, .ref 10], wP pre (wN (PP s9) (QQ s9) op oq 0 (nI L.1) 0 fa (nI k) st of F), 0)
          refine mm_skip (mm_call_mono _ _) 1 (st' := (88, [(0, .ref 10), (1, .int (nI i)), (2, .int x2), (3, .int x3)], [.int 4, .int 368, .int (nI (12 * i)), .int 372, .ref 10], wP pre (wN (PP s9) (QQ s9) op oq 0 (nI L.1) 0 fa (nI k) st of F), 0)) rfl ?_
          refine mm_inv (mm_call_mono _ _) (j := 60) (a := [.ref 10, .int 372, .int (nI (12 * i)), .int 368, .int 4]) (M := wP pre (wN (PP s9) (QQ s9) op oq 0 (nI L.1) 0 fa (nI k) st of F)) (u := 0) rfl (by decide) (rg_sub (D := 372) (A := (12 * i)) (B := 368) V9 (Or.inl rfl) hl (by omega) Xi_1 N9 (fun s2 w2 h2 => ?_))
          show mm_W _ _ _ _ _ _ _ (91, [(0, .ref 10), (1, .int (nI i)), (2, .int x2), (3, .int x3)], [], wP pre (wN (PP s2) (QQ s2) op oq 0 (nI L.1) w2 fa (nI k) st of F), 0)
          have V2 := h2.1
          have z2 := h2.2.1
          have S2 := gs_s S1 h2 (fun k => by omega)
          have F2 := g_F S1 F1 E1 h2
          have E2 := g_E E1 h2
          have R_2 := r_k R_1 h2 (by omega)
          have Xi_2 := t_k Xi_1 h2 (by omega)
          have Yi_2 := t_k Yi_1 h2 (by omega)
          have N9_2 := t_k N9 h2 (by omega)
          have W2_2 := t_new h2
          refine mm_skip (mm_call_mono _ _) 2 (st' := (93, [(0, .ref 10), (1, .int (nI i)), (2, .int x2), (3, .int x3)], [.int 1, .ref 10], wP pre (wN (PP s2) (QQ s2) op oq 0 (nI L.1) w2 fa (nI k) st of F), 0)) rfl ?_
          refine mm_inv (mm_call_mono _ _) (j := 85) (a := [.int 1]) (M := wP pre (wN (PP s2) (QQ s2) op oq 0 (nI L.1) w2 fa (nI k) st of F)) (u := 0) rfl (by decide) (rm_work ?_)
          show mm_W _ _ _ _ _ _ _ (96, [(0, .ref 10), (1, .int (nI i)), (2, .int x2), (3, .int x3)], [.int 372, .ref 10], wP pre (wN (PP s2) (QQ s2) op oq 0 (nI L.1) w2 fa (nI k) st of F), 0)
          refine mm_inv (mm_call_mono _ _) (j := 80) (a := [.ref 10, .int 372]) (M := wP pre (wN (PP s2) (QQ s2) op oq 0 (nI L.1) w2 fa (nI k) st of F)) (u := 0) rfl (by decide) (rg_sign (A := 372) V2 z2 hl (by omega) R_2 W2_2 (fun s3 w3 sv h3 => ?_))
          show mm_W _ _ _ _ _ _ _ (99, [(0, .ref 10), (1, .int (nI i)), (2, .int x2), (3, .int x3)], [.int sv], wP pre (wN (PP s3) (QQ s3) op oq 0 (nI L.1) w3 fa (nI k) st of F), 0)
          have V3 := h3.1
          have z3 := h3.2.1
          have S3 := ms_g S2 h3 (fun k => by omega)
          have F3 := m_Fg S2 F2 E2 h3
          have E3 := m_Eg E2 h3
          refine mm_skip (mm_call_mono _ _) 4 (st' := (106, [(4, .int sv), (0, .ref 10), (1, .int (nI i)), (2, .int x2), (3, .int x3)], [.int w3, .ref 10], wP pre (wN (PP s3) (QQ s3) op oq 0 (nI L.1) w3 fa (nI k) st of F), 0)) rfl ?_
          refine mm_branch (mm_call_mono _ _) (c := w3 = 0) (s1 := (113, [(4, .int sv), (0, .ref 10), (1, .int (nI i)), (2, .int x2), (3, .int x3)], [.ref 10], wP pre (wN (PP s3) (QQ s3) op oq 0 (nI L.1) w3 fa (nI k) st of F), 0)) (s2 := (109, [(4, .int sv), (0, .ref 10), (1, .int (nI i)), (2, .int x2), (3, .int x3)], [.ref 10], wP pre (wN (PP s3) (QQ s3) op oq 0 (nI L.1) w3 fa (nI k) st of F), 0)) rfl (fun gw => ?_) (fun gw => ?_)
          · skip
            refine mm_skip (mm_call_mono _ _) 4 (st' := (121, [(4, .int sv), (0, .ref 10), (1, .int (nI i)), (2, .int x2), (3, .int x3)], [.int w3], wP pre (wN (PP s3) (QQ s3) op oq 0 (nI L.1) w3 fa (nI k) st of F), 0)) rfl ?_
            refine mm_branch (mm_call_mono _ _) (c := w3 = 0) (s1 := (128, [(4, .int sv), (0, .ref 10), (1, .int (nI i)), (2, .int x2), (3, .int x3)], [], wP pre (wN (PP s3) (QQ s3) op oq 0 (nI L.1) w3 fa (nI k) st of F), 0)) (s2 := (124, [(4, .int sv), (0, .ref 10), (1, .int (nI i)), (2, .int x2), (3, .int x3)], [], wP pre (wN (PP s3) (QQ s3) op oq 0 (nI L.1) w3 fa (nI k) st of F), 0)) rfl (fun _ => ?_) (fun h => absurd gw h)
            refine mm_skip (mm_call_mono _ _) 1 (st' := (130, [(4, .int sv), (0, .ref 10), (1, .int (nI i)), (2, .int x2), (3, .int x3)], [.int sv], wP pre (wN (PP s3) (QQ s3) op oq 0 (nI L.1) w3 fa (nI k) st of F), 0)) rfl ?_
            exact mm_ret (mm_call_mono _ _) (c := True) (r := .inl (some (.int sv))) (M := wP pre (wN (PP s3) (QQ s3) op oq 0 (nI L.1) w3 fa (nI k) st of F)) (u := 0) rfl trivial (by decide) (hQ _ _ (0, sv) ((show qSign S k (nI i) x2 x3 = oI (tSign L (v i).1 x3.toInt) from (if_pos ⟨u1, n2, Int32.not_lt.mp n3⟩).trans (by rw [hgv, cl_n (by omega), if_pos gy])).trans (by rw [E3 gw]; exact congrArg (Prod.mk 0) (Int32.ofInt_toInt _))) (fun j hj => S3.2.2.1 j (by omega)) V3)
          · skip
            refine mm_skip (mm_call_mono _ _) 5 (st' := (121, [(4, .int sv), (0, .ref 10), (1, .int (nI i)), (2, .int x2), (3, .int x3)], [.int w3], wP pre (wN (PP s3) (QQ s3) op oq 2 (nI L.1) w3 fa (nI k) st of F), 0)) rfl ?_
            refine mm_branch (mm_call_mono _ _) (c := w3 = 0) (s1 := (128, [(4, .int sv), (0, .ref 10), (1, .int (nI i)), (2, .int x2), (3, .int x3)], [], wP pre (wN (PP s3) (QQ s3) op oq 2 (nI L.1) w3 fa (nI k) st of F), 0)) (s2 := (124, [(4, .int sv), (0, .ref 10), (1, .int (nI i)), (2, .int x2), (3, .int x3)], [], wP pre (wN (PP s3) (QQ s3) op oq 2 (nI L.1) w3 fa (nI k) st of F), 0)) rfl (fun h => absurd h gw) (fun _ => ?_)
            refine mm_skip (mm_call_mono _ _) 2 (st' := (130, [(4, .int sv), (0, .ref 10), (1, .int (nI i)), (2, .int x2), (3, .int x3)], [.int 0], wP pre (wN (PP s3) (QQ s3) op oq 2 (nI L.1) w3 fa (nI k) st of F), 0)) rfl ?_
            exact mm_ret (mm_call_mono _ _) (c := True) (r := .inl (some (.int 0))) (M := wP pre (wN (PP s3) (QQ s3) op oq 2 (nI L.1) w3 fa (nI k) st of F)) (u := 0) rfl trivial (by decide) (hQ _ _ (2, 0) ((show qSign S k (nI i) x2 x3 = oI (tSign L (v i).1 x3.toInt) from (if_pos ⟨u1, n2, Int32.not_lt.mp n3⟩).trans (by rw [hgv, cl_n (by omega), if_pos gy])).trans (by rw [F3 (mm_z1 z3 gw) rfl]; rfl)) (fun j hj => S3.2.2.1 j (by omega)) V3)
        · skip
          have E1 : (0 : Int32) = 0 → tSign L (v i).2.1 x3.toInt = Option.bind (xsub L.1 (v i).2.1 (em (x3.toInt, 1))) _ := fun _ => sg_em (fv_n n2 n3)
          have F1 : (0 : Int32) = 1 → (0 : Int32) = 0 → tSign L (v i).2.1 x3.toInt = none := fun h1 h0 => absurd (h1.symm.trans h0) z10
          refine mm_skip (mm_call_mono _ _) 1 (st' := (73, [(0, .ref 10), (1, .int (nI i)), (2, .int x2), (3, .int x3)], [.int (nI i), .int 372, .ref 10], wP pre (wN (PP s9) (QQ s9) op oq 0 (nI L.1) 0 fa (nI k) st of F), 0)) rfl ?_
          refine mm_inv (mm_call_mono _ _) (j := 84) (a := [.int (nI i)]) (M := wP pre (wN (PP s9) (QQ s9) op oq 0 (nI L.1) 0 fa (nI k) st of F)) (u := 0) rfl (by decide) (rm_yOf (o := i) ?_)
          show mm_W _ _ _ _ _ _ _ (76, [(0, .ref 10), (1, .int (nI i)), (2, .int x2), (3, .int x3)], [.int (nI (12 * i + 4)), .int 372, .ref 10], wP pre (wN (PP s9) (QQ s9) op oq 0 (nI L.1) 0 fa (nI k) st of F), 0)
          refine mm_skip (mm_call_mono _ _) 2 (st' := (84, [(0, .ref 10), (1, .int (nI i)), (2, .int x2), (3, .int x3)], [.int 0, .int (nI (12 * i + 4)), .int 372, .ref 10], wP pre (wN (PP s9) (QQ s9) op oq 0 (nI L.1) 0 fa (nI k) st of F), 0)) rfl ?_
          refine mm_inv (mm_call_mono _ _) (j := 85) (a := [.int 0]) (M := wP pre (wN (PP s9) (QQ s9) op oq 0 (nI L.1) 0 fa (nI k) st of F)) (u := 0) rfl (by decide) (rm_work ?_)
          show mm_W _ _ _ _ _ _ _ (87, [(0, .ref 10), (1, .int (nI i)), (2, .int x2), (3, .int x3)], [.int 368, .int (nI (12 * i + 4)), .int 372, .ref 10], wP pre (wN (PP s9) (QQ s9) op oq 0 (nI L.1) 0 fa (nI k) st of F), 0)
          refine mm_skip (mm_call_mono _ _) 1 (st' := (88, [(0, .ref 10), (1, .int (nI i)), (2, .int x2), (3, .int x3)], [.int 4, .int 368, .int (nI (12 * i + 4)), .int 372, .ref 10], wP pre (wN (PP s9) (QQ s9) op oq 0 (nI L.1) 0 fa (nI k) st of F), 0)) rfl ?_
          refine mm_inv (mm_call_mono _ _) (j := 60) (a := [.ref 10, .int 372, .int (nI (12 * i + 4)), .int 368, .int 4]) (M := wP pre (wN (PP s9) (QQ s9) op oq 0 (nI L.1) 0 fa (nI k) st of F)) (u := 0) rfl (by decide) (rg_sub (D := 372) (A := (12 * i + 4)) (B := 368) V9 (Or.inl rfl) hl (by omega) Yi_1 N9 (fun s4 w4 h4 => ?_))
          show mm_W _ _ _ _ _ _ _ (91, [(0, .ref 10), (1, .int (nI i)), (2, .int x2), (3, .int x3)], [], wP pre (wN (PP s4) (QQ s4) op oq 0 (nI L.1) w4 fa (nI k) st of F), 0)
          have V4 := h4.1
          have z4 := h4.2.1
          have S4 := gs_s S1 h4 (fun k => by omega)
          have F4 := g_F S1 F1 E1 h4
          have E4 := g_E E1 h4
          have R_4 := r_k R_1 h4 (by omega)
          have Xi_4 := t_k Xi_1 h4 (by omega)
          have Yi_4 := t_k Yi_1 h4 (by omega)
          have N9_4 := t_k N9 h4 (by omega)
          have W4_4 := t_new h4
          refine mm_skip (mm_call_mono _ _) 2 (st' := (93, [(0, .ref 10), (1, .int (nI i)), (2, .int x2), (3, .int x3)], [.int 1, .ref 10], wP pre (wN (PP s4) (QQ s4) op oq 0 (nI L.1) w4 fa (nI k) st of F), 0)) rfl ?_
          refine mm_inv (mm_call_mono _ _) (j := 85) (a := [.int 1]) (M := wP pre (wN (PP s4) (QQ s4) op oq 0 (nI L.1) w4 fa (nI k) st of F)) (u := 0) rfl (by decide) (rm_work ?_)
          show mm_W _ _ _ _ _ _ _ (96, [(0, .ref 10), (1, .int (nI i)), (2, .int x2), (3, .int x3)], [.int 372, .ref 10], wP pre (wN (PP s4) (QQ s4) op oq 0 (nI L.1) w4 fa (nI k) st of F), 0)
          refine mm_inv (mm_call_mono _ _) (j := 80) (a := [.ref 10, .int 372]) (M := wP pre (wN (PP s4) (QQ s4) op oq 0 (nI L.1) w4 fa (nI k) st of F)) (u := 0) rfl (by decide) (rg_sign (A := 372) V4 z4 hl (by omega) R_4 W4_4 (fun s5 w5 sv h5 => ?_))
          show mm_W _ _ _ _ _ _ _ (99, [(0, .ref 10), (1, .int (nI i)), (2, .int x2), (3, .int x3)], [.int sv], wP pre (wN (PP s5) (QQ s5) op oq 0 (nI L.1) w5 fa (nI k) st of F), 0)
          have V5 := h5.1
          have z5 := h5.2.1
          have S5 := ms_g S4 h5 (fun k => by omega)
          have F5 := m_Fg S4 F4 E4 h5
          have E5 := m_Eg E4 h5
          refine mm_skip (mm_call_mono _ _) 4 (st' := (106, [(4, .int sv), (0, .ref 10), (1, .int (nI i)), (2, .int x2), (3, .int x3)], [.int w5, .ref 10], wP pre (wN (PP s5) (QQ s5) op oq 0 (nI L.1) w5 fa (nI k) st of F), 0)) rfl ?_
          refine mm_branch (mm_call_mono _ _) (c := w5 = 0) (s1 := (113, [(4, .int sv), (0, .ref 10), (1, .int (nI i)), (2, .int x2), (3, .int x3)], [.ref 10], wP pre (wN (PP s5) (QQ s5) op oq 0 (nI L.1) w5 fa (nI k) st of F), 0)) (s2 := (109, [(4, .int sv), (0, .ref 10), (1, .int (nI i)), (2, .int x2), (3, .int x3)], [.ref 10], wP pre (wN (PP s5) (QQ s5) op oq 0 (nI L.1) w5 fa (nI k) st of F), 0)) rfl (fun gw => ?_) (fun gw => ?_)
          · skip
            refine mm_skip (mm_call_mono _ _) 4 (st' := (121, [(4, .int sv), (0, .ref 10), (1, .int (nI i)), (2, .int x2), (3, .int x3)], [.int w5], wP pre (wN (PP s5) (QQ s5) op oq 0 (nI L.1) w5 fa (nI k) st of F), 0)) rfl ?_
            refine mm_branch (mm_call_mono _ _) (c := w5 = 0) (s1 := (128, [(4, .int sv), (0, .ref 10), (1, .int (nI i)), (2, .int x2), (3, .int x3)], [], wP pre (wN (PP s5) (QQ s5) op oq 0 (nI L.1) w5 fa (nI k) st of F), 0)) (s2 := (124, [(4, .int sv), (0, .ref 10), (1, .int (nI i)), (2, .int x2), (3, .int x3)], [], wP pre (wN (PP s5) (QQ s5) op oq 0 (nI L.1) w5 fa (nI k) st of F), 0)) rfl (fun _ => ?_) (fun h => absurd gw h)
            refine mm_skip (mm_call_mono _ _) 1 (st' := (130, [(4, .int sv), (0, .ref 10), (1, .int (nI i)), (2, .int x2), (3, .int x3)], [.int sv], wP pre (wN (PP s5) (QQ s5) op oq 0 (nI L.1) w5 fa (nI k) st of F), 0)) rfl ?_
            exact mm_ret (mm_call_mono _ _) (c := True) (r := .inl (some (.int sv))) (M := wP pre (wN (PP s5) (QQ s5) op oq 0 (nI L.1) w5 fa (nI k) st of F)) (u := 0) rfl trivial (by decide) (hQ _ _ (0, sv) ((show qSign S k (nI i) x2 x3 = oI (tSign L (v i).2.1 x3.toInt) from (if_pos ⟨u1, n2, Int32.not_lt.mp n3⟩).trans (by rw [hgv, cl_n (by omega), if_neg gy])).trans (by rw [E5 gw]; exact congrArg (Prod.mk 0) (Int32.ofInt_toInt _))) (fun j hj => S5.2.2.1 j (by omega)) V5)
          · skip
            refine mm_skip (mm_call_mono _ _) 5 (st' := (121, [(4, .int sv), (0, .ref 10), (1, .int (nI i)), (2, .int x2), (3, .int x3)], [.int w5], wP pre (wN (PP s5) (QQ s5) op oq 2 (nI L.1) w5 fa (nI k) st of F), 0)) rfl ?_
            refine mm_branch (mm_call_mono _ _) (c := w5 = 0) (s1 := (128, [(4, .int sv), (0, .ref 10), (1, .int (nI i)), (2, .int x2), (3, .int x3)], [], wP pre (wN (PP s5) (QQ s5) op oq 2 (nI L.1) w5 fa (nI k) st of F), 0)) (s2 := (124, [(4, .int sv), (0, .ref 10), (1, .int (nI i)), (2, .int x2), (3, .int x3)], [], wP pre (wN (PP s5) (QQ s5) op oq 2 (nI L.1) w5 fa (nI k) st of F), 0)) rfl (fun h => absurd h gw) (fun _ => ?_)
            refine mm_skip (mm_call_mono _ _) 2 (st' := (130, [(4, .int sv), (0, .ref 10), (1, .int (nI i)), (2, .int x2), (3, .int x3)], [.int 0], wP pre (wN (PP s5) (QQ s5) op oq 2 (nI L.1) w5 fa (nI k) st of F), 0)) rfl ?_
            exact mm_ret (mm_call_mono _ _) (c := True) (r := .inl (some (.int 0))) (M := wP pre (wN (PP s5) (QQ s5) op oq 2 (nI L.1) w5 fa (nI k) st of F)) (u := 0) rfl trivial (by decide) (hQ _ _ (2, 0) ((show qSign S k (nI i) x2 x3 = oI (tSign L (v i).2.1 x3.toInt) from (if_pos ⟨u1, n2, Int32.not_lt.mp n3⟩).trans (by rw [hgv, cl_n (by omega), if_neg gy])).trans (by rw [F5 (mm_z1 z5 gw) rfl]; rfl)) (fun j hj => S5.2.2.1 j (by omega)) V5)

theorem l2i_p {n : Int} (h1 : -2147483648 ≤ n) (h2 : n ≤ 2147483647) : Int64.toInt32 (Int64.ofInt n) = Int32.ofInt n := by
  refine Int32.toInt_inj.mp ?_
  rw [Int64.toInt_toInt32, Int64.toInt_ofInt, Int32.toInt_ofInt]
  have e1 : n.bmod (2 ^ 64) = n := Int.bmod_eq_of_le (by omega) (by omega)
  have e2 : n.bmod Int64.size = n := e1
  rw [e2]
theorem pv_p {s : Nat → fr} {l a i : Nat} {x : n4} (hV : ∀ k, fv (s k)) (X : tM s 0 l a x) (hi : i < 4) {q : Int32} (hq : q = 0) : Int64.toInt32 (PP s (a + i)) = prt x i q := by
  have h := hV (a + i)
  show Int64.toInt32 (Int64.ofInt (s (a + i)).1) = _
  rw [l2i_p (by have := h.2.2.1; omega) (by have := h.2.2.2.1; omega), X.1 rfl i hi]
  unfold prt
  rw [if_pos hq]
theorem pv_q {s : Nat → fr} {l a i : Nat} {x : n4} (hV : ∀ k, fv (s k)) (X : tM s 0 l a x) (hi : i < 4) {q : Int32} (hq : ¬ q = 0) : Int64.toInt32 (QQ s (a + i)) = prt x i q := by
  have h := hV (a + i)
  show Int64.toInt32 (Int64.ofInt (s (a + i)).2) = _
  rw [l2i_p (by have := h.1; omega) (by have := h.2.1; omega), X.1 rfl i hi]
  unfold prt
  rw [if_neg hq]
set_option maxRecDepth 100000 in
theorem rx_part0 {d : Nat} {pre : mm_pre} {s : Nat → fr} {op oq : Nat → Int64} {tr wi fa : Int32} {st of : Nat → Int32} {F : mm_M} {S : Nat → stp} {k : Nat} {L : lvR} {v : Nat → o3} {x1 x2 x3 x4 : Int32} {Q : mm_R → mm_M → Prop} (hy : x2 = 0) (hk : k ≤ 24) (hS : ∀ i, i < k → stR st of S i) (hw : ∀ i, i < k → wf S i) (hR : rI S s k v L) (hQ : ∀ (s1 : Nat → fr) (w1 : Int32) (r : oc), qPart S k x1 x2 x3 x4 = r → (∀ j, j < 300 → s1 j = s j) → (∀ j, fv (s1 j)) → Q (.inl (some (.int (rv r)))) (wP pre (wN (PP s1) (QQ s1) op oq (nI r.1) (nI L.1) w1 fa (nI k) st of F))) : mm_call mm_Tb (d + 17) 116 [.ref 10, .int x1, .int x2, .int x3, .int x4] (wP pre (wN (PP s) (QQ s) op oq tr (nI L.1) wi fa (nI k) st of F)) Q := by
  have hV := hR.2.2.2.2.1
  have hl := hR.2.1
  have R := hR.2.2.1
  have S0 := ms_0 (wi := 0) (Z := fun k => 300 ≤ k) hV (Or.inl rfl)
  have hgv := gv_s hR.1
  refine mm_in mt_116 (Nat.le_of_ble_eq_true rfl) ?_
  show mm_W _ _ _ _ _ _ _ (0, [(0, .ref 10), (1, .int x1), (2, .int x2), (3, .int x3), (4, .int x4)], [], wP pre (wN (PP s) (QQ s) op oq tr (nI L.1) wi fa (nI k) st of F), 0)
  refine mm_skip (mm_call_mono _ _) 3 (st' := (3, [(0, .ref 10), (1, .int x1), (2, .int x2), (3, .int x3), (4, .int x4)], [.int x1, .ref 10, .ref 10], wP pre (wN (PP s) (QQ s) op oq tr (nI L.1) wi fa (nI k) st of F), 0)) rfl ?_
  refine mm_inv (mm_call_mono _ _) (j := 97) (a := [.ref 10, .int x1]) (M := wP pre (wN (PP s) (QQ s) op oq tr (nI L.1) wi fa (nI k) st of F)) (u := 0) rfl (by decide) (rk_isPoint hk hS hw ?_)
  show mm_W _ _ _ _ _ _ _ (6, [(0, .ref 10), (1, .int x1), (2, .int x2), (3, .int x3), (4, .int x4)], [.int (bz (ckd S k x1 = 0)), .ref 10], wP pre (wN (PP s) (QQ s) op oq tr (nI L.1) wi fa (nI k) st of F), 0)
  refine mm_branch (mm_call_mono _ _) (c := (bz (ckd S k x1 = 0)) = 0) (s1 := (22, [(0, .ref 10), (1, .int x1), (2, .int x2), (3, .int x3), (4, .int x4)], [.ref 10], wP pre (wN (PP s) (QQ s) op oq tr (nI L.1) wi fa (nI k) st of F), 0)) (s2 := (9, [(0, .ref 10), (1, .int x1), (2, .int x2), (3, .int x3), (4, .int x4)], [.ref 10], wP pre (wN (PP s) (QQ s) op oq tr (nI L.1) wi fa (nI k) st of F), 0)) rfl (fun z1 => ?_) (fun z1 => ?_)
  · skip
    refine mm_skip (mm_call_mono _ _) 4 (st' := (30, [(0, .ref 10), (1, .int x1), (2, .int x2), (3, .int x3), (4, .int x4)], [.int 1], wP pre (wN (PP s) (QQ s) op oq 1 (nI L.1) wi fa (nI k) st of F), 0)) rfl ?_
    refine mm_branch (mm_call_mono _ _) (c := (1 : Int32) ≤ 0) (s1 := (35, [(0, .ref 10), (1, .int x1), (2, .int x2), (3, .int x3), (4, .int x4)], [], wP pre (wN (PP s) (QQ s) op oq 1 (nI L.1) wi fa (nI k) st of F), 0)) (s2 := (33, [(0, .ref 10), (1, .int x1), (2, .int x2), (3, .int x3), (4, .int x4)], [], wP pre (wN (PP s) (QQ s) op oq 1 (nI L.1) wi fa (nI k) st of F), 0)) rfl (fun h => absurd h (by decide)) (fun _ => ?_)
    refine mm_skip (mm_call_mono _ _) 1 (st' := (34, [(0, .ref 10), (1, .int x1), (2, .int x2), (3, .int x3), (4, .int x4)], [.int 0], wP pre (wN (PP s) (QQ s) op oq 1 (nI L.1) wi fa (nI k) st of F), 0)) rfl ?_
    exact mm_ret (mm_call_mono _ _) (c := True) (r := .inl (some (.int 0))) (M := wP pre (wN (PP s) (QQ s) op oq 1 (nI L.1) wi fa (nI k) st of F)) (u := 0) rfl trivial (by decide) (hQ _ _ (1, 0) (if_neg (fun z => bz_0 z1 z.1)) (fun _ _ => rfl) hR.2.2.2.2.1)
  · skip
    have u1 := bz_1 z1
    obtain ⟨i, hi, rfl, pi⟩ := ckd_pt hk (bz_1 z1)
    obtain ⟨Xi, Yi, Zi⟩ := hR.2.2.2.1 i hi
    refine mm_skip (mm_call_mono _ _) 1 (st' := (10, [(0, .ref 10), (1, .int (nI i)), (2, .int x2), (3, .int x3), (4, .int x4)], [.int x3, .ref 10], wP pre (wN (PP s) (QQ s) op oq tr (nI L.1) wi fa (nI k) st of F), 0)) rfl ?_
    refine mm_branch (mm_call_mono _ _) (c := x3 < 0) (s1 := (22, [(0, .ref 10), (1, .int (nI i)), (2, .int x2), (3, .int x3), (4, .int x4)], [.ref 10], wP pre (wN (PP s) (QQ s) op oq tr (nI L.1) wi fa (nI k) st of F), 0)) (s2 := (13, [(0, .ref 10), (1, .int (nI i)), (2, .int x2), (3, .int x3), (4, .int x4)], [.ref 10], wP pre (wN (PP s) (QQ s) op oq tr (nI L.1) wi fa (nI k) st of F), 0)) rfl (fun z2 => ?_) (fun z2 => ?_)
    · skip
      refine mm_skip (mm_call_mono _ _) 4 (st' := (30, [(0, .ref 10), (1, .int (nI i)), (2, .int x2), (3, .int x3), (4, .int x4)], [.int 1], wP pre (wN (PP s) (QQ s) op oq 1 (nI L.1) wi fa (nI k) st of F), 0)) rfl ?_
      refine mm_branch (mm_call_mono _ _) (c := (1 : Int32) ≤ 0) (s1 := (35, [(0, .ref 10), (1, .int (nI i)), (2, .int x2), (3, .int x3), (4, .int x4)], [], wP pre (wN (PP s) (QQ s) op oq 1 (nI L.1) wi fa (nI k) st of F), 0)) (s2 := (33, [(0, .ref 10), (1, .int (nI i)), (2, .int x2), (3, .int x3), (4, .int x4)], [], wP pre (wN (PP s) (QQ s) op oq 1 (nI L.1) wi fa (nI k) st of F), 0)) rfl (fun h => absurd h (by decide)) (fun _ => ?_)
      refine mm_skip (mm_call_mono _ _) 1 (st' := (34, [(0, .ref 10), (1, .int (nI i)), (2, .int x2), (3, .int x3), (4, .int x4)], [.int 0], wP pre (wN (PP s) (QQ s) op oq 1 (nI L.1) wi fa (nI k) st of F), 0)) rfl ?_
      exact mm_ret (mm_call_mono _ _) (c := True) (r := .inl (some (.int 0))) (M := wP pre (wN (PP s) (QQ s) op oq 1 (nI L.1) wi fa (nI k) st of F)) (u := 0) rfl trivial (by decide) (hQ _ _ (1, 0) (if_neg (fun z => z.2.1 z2)) (fun _ _ => rfl) hR.2.2.2.2.1)
    · skip
      refine mm_skip (mm_call_mono _ _) 2 (st' := (15, [(0, .ref 10), (1, .int (nI i)), (2, .int x2), (3, .int x3), (4, .int x4)], [.int 4, .int x3, .ref 10], wP pre (wN (PP s) (QQ s) op oq tr (nI L.1) wi fa (nI k) st of F), 0)) rfl ?_
      refine mm_branch (mm_call_mono _ _) (c := 4 ≤ x3) (s1 := (22, [(0, .ref 10), (1, .int (nI i)), (2, .int x2), (3, .int x3), (4, .int x4)], [.ref 10], wP pre (wN (PP s) (QQ s) op oq tr (nI L.1) wi fa (nI k) st of F), 0)) (s2 := (18, [(0, .ref 10), (1, .int (nI i)), (2, .int x2), (3, .int x3), (4, .int x4)], [.ref 10], wP pre (wN (PP s) (QQ s) op oq tr (nI L.1) wi fa (nI k) st of F), 0)) rfl (fun z3 => ?_) (fun z3 => ?_)
      · skip
        refine mm_skip (mm_call_mono _ _) 4 (st' := (30, [(0, .ref 10), (1, .int (nI i)), (2, .int x2), (3, .int x3), (4, .int x4)], [.int 1], wP pre (wN (PP s) (QQ s) op oq 1 (nI L.1) wi fa (nI k) st of F), 0)) rfl ?_
        refine mm_branch (mm_call_mono _ _) (c := (1 : Int32) ≤ 0) (s1 := (35, [(0, .ref 10), (1, .int (nI i)), (2, .int x2), (3, .int x3), (4, .int x4)], [], wP pre (wN (PP s) (QQ s) op oq 1 (nI L.1) wi fa (nI k) st of F), 0)) (s2 := (33, [(0, .ref 10), (1, .int (nI i)), (2, .int x2), (3, .int x3), (4, .int x4)], [], wP pre (wN (PP s) (QQ s) op oq 1 (nI L.1) wi fa (nI k) st of F), 0)) rfl (fun h => absurd h (by decide)) (fun _ => ?_)
        refine mm_skip (mm_call_mono _ _) 1 (st' := (34, [(0, .ref 10), (1, .int (nI i)), (2, .int x2), (3, .int x3), (4, .int x4)], [.int 0], wP pre (wN (PP s) (QQ s) op oq 1 (nI L.1) wi fa (nI k) st of F), 0)) rfl ?_
        exact mm_ret (mm_call_mono _ _) (c := True) (r := .inl (some (.int 0))) (M := wP pre (wN (PP s) (QQ s) op oq 1 (nI L.1) wi fa (nI k) st of F)) (u := 0) rfl trivial (by decide) (hQ _ _ (1, 0) (if_neg (fun z => Int32.not_le.mpr z.2.2 z3)) (fun _ _ => rfl) hR.2.2.2.2.1)
      · skip
        obtain ⟨a, ha, rfl⟩ := in4 z2 (Int32.not_le.mp z3)
        refine mm_skip (mm_call_mono _ _) 5 (st' := (30, [(0, .ref 10), (1, .int (nI i)), (2, .int x2), (3, .int (nI a)), (4, .int x4)], [.int 0], wP pre (wN (PP s) (QQ s) op oq 0 (nI L.1) wi fa (nI k) st of F), 0)) rfl ?_
        refine mm_branch (mm_call_mono _ _) (c := (0 : Int32) ≤ 0) (s1 := (35, [(0, .ref 10), (1, .int (nI i)), (2, .int x2), (3, .int (nI a)), (4, .int x4)], [], wP pre (wN (PP s) (QQ s) op oq 0 (nI L.1) wi fa (nI k) st of F), 0)) (s2 := (33, [(0, .ref 10), (1, .int (nI i)), (2, .int x2), (3, .int (nI a)), (4, .int x4)], [], wP pre (wN (PP s) (QQ s) op oq 0 (nI L.1) wi fa (nI k) st of F), 0)) rfl (fun _ => ?_) (fun h => absurd (by decide) h)
        refine mm_skip (mm_call_mono _ _) 1 (st' := (36, [(0, .ref 10), (1, .int (nI i)), (2, .int x2), (3, .int (nI a)), (4, .int x4)], [.int x2], wP pre (wN (PP s) (QQ s) op oq 0 (nI L.1) wi fa (nI k) st of F), 0)) rfl ?_
        refine mm_branch (mm_call_mono _ _) (c := x2 = 0) (s1 := (46, [(0, .ref 10), (1, .int (nI i)), (2, .int x2), (3, .int (nI a)), (4, .int x4)], [], wP pre (wN (PP s) (QQ s) op oq 0 (nI L.1) wi fa (nI k) st of F), 0)) (s2 := (39, [(0, .ref 10), (1, .int (nI i)), (2, .int x2), (3, .int (nI a)), (4, .int x4)], [], wP pre (wN (PP s) (QQ s) op oq 0 (nI L.1) wi fa (nI k) st of F), 0)) rfl (fun _ => ?_) (fun h => absurd hy h)
        refine mm_skip (mm_call_mono _ _) 1 (st' := (47, [(0, .ref 10), (1, .int (nI i)), (2, .int x2), (3, .int (nI a)), (4, .int x4)], [.int (nI i)], wP pre (wN (PP s) (QQ s) op oq 0 (nI L.1) wi fa (nI k) st of F), 0)) rfl ?_
        refine mm_inv (mm_call_mono _ _) (j := 83) (a := [.int (nI i)]) (M := wP pre (wN (PP s) (QQ s) op oq 0 (nI L.1) wi fa (nI k) st of F)) (u := 0) rfl (by decide) (rm_xOf (o := i) ?_)
        show mm_W _ _ _ _ _ _ _ (50, [(0, .ref 10), (1, .int (nI i)), (2, .int x2), (3, .int (nI a)), (4, .int x4)], [.int (nI (12 * i))], wP pre (wN (PP s) (QQ s) op oq 0 (nI L.1) wi fa (nI k) st of F), 0)
        refine mm_skip (mm_call_mono _ _) 3 (st' := (54, [(5, .int ((nI (12 * i)) + (nI a))), (0, .ref 10), (1, .int (nI i)), (2, .int x2), (3, .int (nI a)), (4, .int x4)], [], wP pre (wN (PP s) (QQ s) op oq 0 (nI L.1) wi fa (nI k) st of F), 0)) rfl ?_
        rw [(nI_add (12 * i) a)]
        show mm_W _ _ _ _ _ _ _ (54, [(5, .int (nI (12 * i + a))), (0, .ref 10), (1, .int (nI i)), (2, .int x2), (3, .int (nI a)), (4, .int x4)], [], wP pre (wN (PP s) (QQ s) op oq 0 (nI L.1) wi fa (nI k) st of F), 0)
        refine mm_skip (mm_call_mono _ _) 1 (st' := (56, [(5, .int (nI (12 * i + a))), (0, .ref 10), (1, .int (nI i)), (2, .int x2), (3, .int (nI a)), (4, .int x4)], [.int x4], wP pre (wN (PP s) (QQ s) op oq 0 (nI L.1) wi fa (nI k) st of F), 0)) rfl ?_
        refine mm_branch (mm_call_mono _ _) (c := x4 = 0) (s1 := (69, [(5, .int (nI (12 * i + a))), (0, .ref 10), (1, .int (nI i)), (2, .int x2), (3, .int (nI a)), (4, .int x4)], [], wP pre (wN (PP s) (QQ s) op oq 0 (nI L.1) wi fa (nI k) st of F), 0)) (s2 := (59, [(5, .int (nI (12 * i + a))), (0, .ref 10), (1, .int (nI i)), (2, .int x2), (3, .int (nI a)), (4, .int x4)], [], wP pre (wN (PP s) (QQ s) op oq 0 (nI L.1) wi fa (nI k) st of F), 0)) rfl (fun gq => ?_) (fun gq => ?_)
        · skip
          refine mm_skip (mm_call_mono _ _) 3 (st' := (75, [(5, .int (nI (12 * i + a))), (0, .ref 10), (1, .int (nI i)), (2, .int x2), (3, .int (nI a)), (4, .int x4)], [.int (nI (12 * i + a)), .ref 11], wP pre (wN (PP s) (QQ s) op oq 0 (nI L.1) wi fa (nI k) st of F), 0)) rfl ?_
          refine mm_need (mm_call_mono _ _) (c := vp_in (nI (12 * i + a)) 480) (s' := (76, [(5, .int (nI (12 * i + a))), (0, .ref 10), (1, .int (nI i)), (2, .int x2), (3, .int (nI a)), (4, .int x4)], [.long ((PP s) (Int32.toNatClampNeg (nI (12 * i + a))))], wP pre (wN (PP s) (QQ s) op oq 0 (nI L.1) wi fa (nI k) st of F), 0)) rfl (vp_in_nI (show (12 * i + a) < 480 by omega) (by decide)) ?_
          rw [nI_clamp (show (12 * i + a) < 2 ^ 31 by omega)]
          show mm_W _ _ _ _ _ _ _ (76, [(5, .int (nI (12 * i + a))), (0, .ref 10), (1, .int (nI i)), (2, .int x2), (3, .int (nI a)), (4, .int x4)], [.long ((PP s) (12 * i + a))], wP pre (wN (PP s) (QQ s) op oq 0 (nI L.1) wi fa (nI k) st of F), 0)
          refine mm_skip (mm_call_mono _ _) 1 (st' := (77, [(5, .int (nI (12 * i + a))), (0, .ref 10), (1, .int (nI i)), (2, .int x2), (3, .int (nI a)), (4, .int x4)], [.int (Int64.toInt32 ((PP s) (12 * i + a)))], wP pre (wN (PP s) (QQ s) op oq 0 (nI L.1) wi fa (nI k) st of F), 0)) rfl ?_
          exact mm_ret (mm_call_mono _ _) (c := True) (r := .inl (some (.int (Int64.toInt32 ((PP s) (12 * i + a)))))) (M := wP pre (wN (PP s) (QQ s) op oq 0 (nI L.1) wi fa (nI k) st of F)) (u := 0) rfl trivial (by decide) (by rw [pv_p hV Xi ha gq]; exact hQ s wi (0, prt (v i).1 a x4) ((if_pos ⟨u1, z2, Int32.not_le.mp z3⟩).trans (by rw [hgv, cl_n (by omega), cl_n (by omega), if_pos hy])) (fun _ _ => rfl) hR.2.2.2.2.1)
        · skip
          refine mm_skip (mm_call_mono _ _) 3 (st' := (65, [(5, .int (nI (12 * i + a))), (0, .ref 10), (1, .int (nI i)), (2, .int x2), (3, .int (nI a)), (4, .int x4)], [.int (nI (12 * i + a)), .ref 12], wP pre (wN (PP s) (QQ s) op oq 0 (nI L.1) wi fa (nI k) st of F), 0)) rfl ?_
          refine mm_need (mm_call_mono _ _) (c := vp_in (nI (12 * i + a)) 480) (s' := (66, [(5, .int (nI (12 * i + a))), (0, .ref 10), (1, .int (nI i)), (2, .int x2), (3, .int (nI a)), (4, .int x4)], [.long ((QQ s) (Int32.toNatClampNeg (nI (12 * i + a))))], wP pre (wN (PP s) (QQ s) op oq 0 (nI L.1) wi fa (nI k) st of F), 0)) rfl (vp_in_nI (show (12 * i + a) < 480 by omega) (by decide)) ?_
          rw [nI_clamp (show (12 * i + a) < 2 ^ 31 by omega)]
          show mm_W _ _ _ _ _ _ _ (66, [(5, .int (nI (12 * i + a))), (0, .ref 10), (1, .int (nI i)), (2, .int x2), (3, .int (nI a)), (4, .int x4)], [.long ((QQ s) (12 * i + a))], wP pre (wN (PP s) (QQ s) op oq 0 (nI L.1) wi fa (nI k) st of F), 0)
          refine mm_skip (mm_call_mono _ _) 2 (st' := (77, [(5, .int (nI (12 * i + a))), (0, .ref 10), (1, .int (nI i)), (2, .int x2), (3, .int (nI a)), (4, .int x4)], [.int (Int64.toInt32 ((QQ s) (12 * i + a)))], wP pre (wN (PP s) (QQ s) op oq 0 (nI L.1) wi fa (nI k) st of F), 0)) rfl ?_
          exact mm_ret (mm_call_mono _ _) (c := True) (r := .inl (some (.int (Int64.toInt32 ((QQ s) (12 * i + a)))))) (M := wP pre (wN (PP s) (QQ s) op oq 0 (nI L.1) wi fa (nI k) st of F)) (u := 0) rfl trivial (by decide) (by rw [pv_q hV Xi ha gq]; exact hQ s wi (0, prt (v i).1 a x4) ((if_pos ⟨u1, z2, Int32.not_le.mp z3⟩).trans (by rw [hgv, cl_n (by omega), cl_n (by omega), if_pos hy])) (fun _ _ => rfl) hR.2.2.2.2.1)

set_option maxRecDepth 100000 in
theorem rx_part1 {d : Nat} {pre : mm_pre} {s : Nat → fr} {op oq : Nat → Int64} {tr wi fa : Int32} {st of : Nat → Int32} {F : mm_M} {S : Nat → stp} {k : Nat} {L : lvR} {v : Nat → o3} {x1 x2 x3 x4 : Int32} {Q : mm_R → mm_M → Prop} (hy : ¬ x2 = 0) (hk : k ≤ 24) (hS : ∀ i, i < k → stR st of S i) (hw : ∀ i, i < k → wf S i) (hR : rI S s k v L) (hQ : ∀ (s1 : Nat → fr) (w1 : Int32) (r : oc), qPart S k x1 x2 x3 x4 = r → (∀ j, j < 300 → s1 j = s j) → (∀ j, fv (s1 j)) → Q (.inl (some (.int (rv r)))) (wP pre (wN (PP s1) (QQ s1) op oq (nI r.1) (nI L.1) w1 fa (nI k) st of F))) : mm_call mm_Tb (d + 17) 116 [.ref 10, .int x1, .int x2, .int x3, .int x4] (wP pre (wN (PP s) (QQ s) op oq tr (nI L.1) wi fa (nI k) st of F)) Q := by
  have hV := hR.2.2.2.2.1
  have hl := hR.2.1
  have R := hR.2.2.1
  have S0 := ms_0 (wi := 0) (Z := fun k => 300 ≤ k) hV (Or.inl rfl)
  have hgv := gv_s hR.1
  refine mm_in mt_116 (Nat.le_of_ble_eq_true rfl) ?_
  show mm_W _ _ _ _ _ _ _ (0, [(0, .ref 10), (1, .int x1), (2, .int x2), (3, .int x3), (4, .int x4)], [], wP pre (wN (PP s) (QQ s) op oq tr (nI L.1) wi fa (nI k) st of F), 0)
  refine mm_skip (mm_call_mono _ _) 3 (st' := (3, [(0, .ref 10), (1, .int x1), (2, .int x2), (3, .int x3), (4, .int x4)], [.int x1, .ref 10, .ref 10], wP pre (wN (PP s) (QQ s) op oq tr (nI L.1) wi fa (nI k) st of F), 0)) rfl ?_
  refine mm_inv (mm_call_mono _ _) (j := 97) (a := [.ref 10, .int x1]) (M := wP pre (wN (PP s) (QQ s) op oq tr (nI L.1) wi fa (nI k) st of F)) (u := 0) rfl (by decide) (rk_isPoint hk hS hw ?_)
  show mm_W _ _ _ _ _ _ _ (6, [(0, .ref 10), (1, .int x1), (2, .int x2), (3, .int x3), (4, .int x4)], [.int (bz (ckd S k x1 = 0)), .ref 10], wP pre (wN (PP s) (QQ s) op oq tr (nI L.1) wi fa (nI k) st of F), 0)
  refine mm_branch (mm_call_mono _ _) (c := (bz (ckd S k x1 = 0)) = 0) (s1 := (22, [(0, .ref 10), (1, .int x1), (2, .int x2), (3, .int x3), (4, .int x4)], [.ref 10], wP pre (wN (PP s) (QQ s) op oq tr (nI L.1) wi fa (nI k) st of F), 0)) (s2 := (9, [(0, .ref 10), (1, .int x1), (2, .int x2), (3, .int x3), (4, .int x4)], [.ref 10], wP pre (wN (PP s) (QQ s) op oq tr (nI L.1) wi fa (nI k) st of F), 0)) rfl (fun z1 => ?_) (fun z1 => ?_)
  · skip
    refine mm_skip (mm_call_mono _ _) 4 (st' := (30, [(0, .ref 10), (1, .int x1), (2, .int x2), (3, .int x3), (4, .int x4)], [.int 1], wP pre (wN (PP s) (QQ s) op oq 1 (nI L.1) wi fa (nI k) st of F), 0)) rfl ?_
    refine mm_branch (mm_call_mono _ _) (c := (1 : Int32) ≤ 0) (s1 := (35, [(0, .ref 10), (1, .int x1), (2, .int x2), (3, .int x3), (4, .int x4)], [], wP pre (wN (PP s) (QQ s) op oq 1 (nI L.1) wi fa (nI k) st of F), 0)) (s2 := (33, [(0, .ref 10), (1, .int x1), (2, .int x2), (3, .int x3), (4, .int x4)], [], wP pre (wN (PP s) (QQ s) op oq 1 (nI L.1) wi fa (nI k) st of F), 0)) rfl (fun h => absurd h (by decide)) (fun _ => ?_)
    refine mm_skip (mm_call_mono _ _) 1 (st' := (34, [(0, .ref 10), (1, .int x1), (2, .int x2), (3, .int x3), (4, .int x4)], [.int 0], wP pre (wN (PP s) (QQ s) op oq 1 (nI L.1) wi fa (nI k) st of F), 0)) rfl ?_
    exact mm_ret (mm_call_mono _ _) (c := True) (r := .inl (some (.int 0))) (M := wP pre (wN (PP s) (QQ s) op oq 1 (nI L.1) wi fa (nI k) st of F)) (u := 0) rfl trivial (by decide) (hQ _ _ (1, 0) (if_neg (fun z => bz_0 z1 z.1)) (fun _ _ => rfl) hR.2.2.2.2.1)
  · skip
    have u1 := bz_1 z1
    obtain ⟨i, hi, rfl, pi⟩ := ckd_pt hk (bz_1 z1)
    obtain ⟨Xi, Yi, Zi⟩ := hR.2.2.2.1 i hi
    refine mm_skip (mm_call_mono _ _) 1 (st' := (10, [(0, .ref 10), (1, .int (nI i)), (2, .int x2), (3, .int x3), (4, .int x4)], [.int x3, .ref 10], wP pre (wN (PP s) (QQ s) op oq tr (nI L.1) wi fa (nI k) st of F), 0)) rfl ?_
    refine mm_branch (mm_call_mono _ _) (c := x3 < 0) (s1 := (22, [(0, .ref 10), (1, .int (nI i)), (2, .int x2), (3, .int x3), (4, .int x4)], [.ref 10], wP pre (wN (PP s) (QQ s) op oq tr (nI L.1) wi fa (nI k) st of F), 0)) (s2 := (13, [(0, .ref 10), (1, .int (nI i)), (2, .int x2), (3, .int x3), (4, .int x4)], [.ref 10], wP pre (wN (PP s) (QQ s) op oq tr (nI L.1) wi fa (nI k) st of F), 0)) rfl (fun z2 => ?_) (fun z2 => ?_)
    · skip
      refine mm_skip (mm_call_mono _ _) 4 (st' := (30, [(0, .ref 10), (1, .int (nI i)), (2, .int x2), (3, .int x3), (4, .int x4)], [.int 1], wP pre (wN (PP s) (QQ s) op oq 1 (nI L.1) wi fa (nI k) st of F), 0)) rfl ?_
      refine mm_branch (mm_call_mono _ _) (c := (1 : Int32) ≤ 0) (s1 := (35, [(0, .ref 10), (1, .int (nI i)), (2, .int x2), (3, .int x3), (4, .int x4)], [], wP pre (wN (PP s) (QQ s) op oq 1 (nI L.1) wi fa (nI k) st of F), 0)) (s2 := (33, [(0, .ref 10), (1, .int (nI i)), (2, .int x2), (3, .int x3), (4, .int x4)], [], wP pre (wN (PP s) (QQ s) op oq 1 (nI L.1) wi fa (nI k) st of F), 0)) rfl (fun h => absurd h (by decide)) (fun _ => ?_)
      refine mm_skip (mm_call_mono _ _) 1 (st' := (34, [(0, .ref 10), (1, .int (nI i)), (2, .int x2), (3, .int x3), (4, .int x4)], [.int 0], wP pre (wN (PP s) (QQ s) op oq 1 (nI L.1) wi fa (nI k) st of F), 0)) rfl ?_
      exact mm_ret (mm_call_mono _ _) (c := True) (r := .inl (some (.int 0))) (M := wP pre (wN (PP s) (QQ s) op oq 1 (nI L.1) wi fa (nI k) st of F)) (u := 0) rfl trivial (by decide) (hQ _ _ (1, 0) (if_neg (fun z => z.2.1 z2)) (fun _ _ => rfl) hR.2.2.2.2.1)
    · skip
      refine mm_skip (mm_call_mono _ _) 2 (st' := (15, [(0, .ref 10), (1, .int (nI i)), (2, .int x2), (3, .int x3), (4, .int x4)], [.int 4, .int x3, .ref 10], wP pre (wN (PP s) (QQ s) op oq tr (nI L.1) wi fa (nI k) st of F), 0)) rfl ?_
      refine mm_branch (mm_call_mono _ _) (c := 4 ≤ x3) (s1 := (22, [(0, .ref 10), (1, .int (nI i)), (2, .int x2), (3, .int x3), (4, .int x4)], [.ref 10], wP pre (wN (PP s) (QQ s) op oq tr (nI L.1) wi fa (nI k) st of F), 0)) (s2 := (18, [(0, .ref 10), (1, .int (nI i)), (2, .int x2), (3, .int x3), (4, .int x4)], [.ref 10], wP pre (wN (PP s) (QQ s) op oq tr (nI L.1) wi fa (nI k) st of F), 0)) rfl (fun z3 => ?_) (fun z3 => ?_)
      · skip
        refine mm_skip (mm_call_mono _ _) 4 (st' := (30, [(0, .ref 10), (1, .int (nI i)), (2, .int x2), (3, .int x3), (4, .int x4)], [.int 1], wP pre (wN (PP s) (QQ s) op oq 1 (nI L.1) wi fa (nI k) st of F), 0)) rfl ?_
        refine mm_branch (mm_call_mono _ _) (c := (1 : Int32) ≤ 0) (s1 := (35, [(0, .ref 10), (1, .int (nI i)), (2, .int x2), (3, .int x3), (4, .int x4)], [], wP pre (wN (PP s) (QQ s) op oq 1 (nI L.1) wi fa (nI k) st of F), 0)) (s2 := (33, [(0, .ref 10), (1, .int (nI i)), (2, .int x2), (3, .int x3), (4, .int x4)], [], wP pre (wN (PP s) (QQ s) op oq 1 (nI L.1) wi fa (nI k) st of F), 0)) rfl (fun h => absurd h (by decide)) (fun _ => ?_)
        refine mm_skip (mm_call_mono _ _) 1 (st' := (34, [(0, .ref 10), (1, .int (nI i)), (2, .int x2), (3, .int x3), (4, .int x4)], [.int 0], wP pre (wN (PP s) (QQ s) op oq 1 (nI L.1) wi fa (nI k) st of F), 0)) rfl ?_
        exact mm_ret (mm_call_mono _ _) (c := True) (r := .inl (some (.int 0))) (M := wP pre (wN (PP s) (QQ s) op oq 1 (nI L.1) wi fa (nI k) st of F)) (u := 0) rfl trivial (by decide) (hQ _ _ (1, 0) (if_neg (fun z => Int32.not_le.mpr z.2.2 z3)) (fun _ _ => rfl) hR.2.2.2.2.1)
      · skip
        obtain ⟨a, ha, rfl⟩ := in4 z2 (Int32.not_le.mp z3)
        refine mm_skip (mm_call_mono _ _) 5 (st' := (30, [(0, .ref 10), (1, .int (nI i)), (2, .int x2), (3, .int (nI a)), (4, .int x4)], [.int 0], wP pre (wN (PP s) (QQ s) op oq 0 (nI L.1) wi fa (nI k) st of F), 0)) rfl ?_
        refine mm_branch (mm_call_mono _ _) (c := (0 : Int32) ≤ 0) (s1 := (35, [(0, .ref 10), (1, .int (nI i)), (2, .int x2), (3, .int (nI a)), (4, .int x4)], [], wP pre (wN (PP s) (QQ s) op oq 0 (nI L.1) wi fa (nI k) st of F), 0)) (s2 := (33, [(0, .ref 10), (1, .int (nI i)), (2, .int x2), (3, .int (nI a)), (4, .int x4)], [], wP pre (wN (PP s) (QQ s) op oq 0 (nI L.1) wi fa (nI k) st of F), 0)) rfl (fun _ => ?_) (fun h => absurd (by decide) h)
        refine mm_skip (mm_call_mono _ _) 1 (st' := (36, [(0, .ref 10), (1, .int (nI i)), (2, .int x2), (3, .int (nI a)), (4, .int x4)], [.int x2], wP pre (wN (PP s) (QQ s) op oq 0 (nI L.1) wi fa (nI k) st of F), 0)) rfl ?_
        refine mm_branch (mm_call_mono _ _) (c := x2 = 0) (s1 := (46, [(0, .ref 10), (1, .int (nI i)), (2, .int x2), (3, .int (nI a)), (4, .int x4)], [], wP pre (wN (PP s) (QQ s) op oq 0 (nI L.1) wi fa (nI k) st of F), 0)) (s2 := (39, [(0, .ref 10), (1, .int (nI i)), (2, .int x2), (3, .int (nI a)), (4, .int x4)], [], wP pre (wN (PP s) (QQ s) op oq 0 (nI L.1) wi fa (nI k) st of F), 0)) rfl (fun h => absurd h hy) (fun _ => ?_)
        refine mm_skip (mm_call_mono _ _) 1 (st' := (40, [(0, .ref 10), (1, .int (nI i)), (2, .int x2), (3, .int (nI a)), (4, .int x4)], [.int (nI i)], wP pre (wN (PP s) (QQ s) op oq 0 (nI L.1) wi fa (nI k) st of F), 0)) rfl ?_
        refine mm_inv (mm_call_mono _ _) (j := 84) (a := [.int (nI i)]) (M := wP pre (wN (PP s) (QQ s) op oq 0 (nI L.1) wi fa (nI k) st of F)) (u := 0) rfl (by decide) (rm_yOf (o := i) ?_)
        show mm_W _ _ _ _ _ _ _ (43, [(0, .ref 10), (1, .int (nI i)), (2, .int x2), (3, .int (nI a)), (4, .int x4)], [.int (nI (12 * i + 4))], wP pre (wN (PP s) (QQ s) op oq 0 (nI L.1) wi fa (nI k) st of F), 0)
        refine mm_skip (mm_call_mono _ _) 4 (st' := (54, [(5, .int ((nI (12 * i + 4)) + (nI a))), (0, .ref 10), (1, .int (nI i)), (2, .int x2), (3, .int (nI a)), (4, .int x4)], [], wP pre (wN (PP s) (QQ s) op oq 0 (nI L.1) wi fa (nI k) st of F), 0)) rfl ?_
        rw [(nI_add (12 * i + 4) a)]
        show mm_W _ _ _ _ _ _ _ (54, [(5, .int (nI (12 * i + 4 + a))), (0, .ref 10), (1, .int (nI i)), (2, .int x2), (3, .int (nI a)), (4, .int x4)], [], wP pre (wN (PP s) (QQ s) op oq 0 (nI L.1) wi fa (nI k) st of F), 0)
        refine mm_skip (mm_call_mono _ _) 1 (st' := (56, [(5, .int (nI (12 * i + 4 + a))), (0, .ref 10), (1, .int (nI i)), (2, .int x2), (3, .int (nI a)), (4, .int x4)], [.int x4], wP pre (wN (PP s) (QQ s) op oq 0 (nI L.1) wi fa (nI k) st of F), 0)) rfl ?_
        refine mm_branch (mm_call_mono _ _) (c := x4 = 0) (s1 := (69, [(5, .int (nI (12 * i + 4 + a))), (0, .ref 10), (1, .int (nI i)), (2, .int x2), (3, .int (nI a)), (4, .int x4)], [], wP pre (wN (PP s) (QQ s) op oq 0 (nI L.1) wi fa (nI k) st of F), 0)) (s2 := (59, [(5, .int (nI (12 * i + 4 + a))), (0, .ref 10), (1, .int (nI i)), (2, .int x2), (3, .int (nI a)), (4, .int x4)], [], wP pre (wN (PP s) (QQ s) op oq 0 (nI L.1) wi fa (nI k) st of F), 0)) rfl (fun gq => ?_) (fun gq => ?_)
        · skip
          refine mm_skip (mm_call_mono _ _) 3 (st' := (75, [(5, .int (nI (12 * i + 4 + a))), (0, .ref 10), (1, .int (nI i)), (2, .int x2), (3, .int (nI a)), (4, .int x4)], [.int (nI (12 * i + 4 + a)), .ref 11], wP pre (wN (PP s) (QQ s) op oq 0 (nI L.1) wi fa (nI k) st of F), 0)) rfl ?_
          refine mm_need (mm_call_mono _ _) (c := vp_in (nI (12 * i + 4 + a)) 480) (s' := (76, [(5, .int (nI (12 * i + 4 + a))), (0, .ref 10), (1, .int (nI i)), (2, .int x2), (3, .int (nI a)), (4, .int x4)], [.long ((PP s) (Int32.toNatClampNeg (nI (12 * i + 4 + a))))], wP pre (wN (PP s) (QQ s) op oq 0 (nI L.1) wi fa (nI k) st of F), 0)) rfl (vp_in_nI (show (12 * i + 4 + a) < 480 by omega) (by decide)) ?_
          rw [nI_clamp (show (12 * i + 4 + a) < 2 ^ 31 by omega)]
          show mm_W _ _ _ _ _ _ _ (76, [(5, .int (nI (12 * i + 4 + a))), (0, .ref 10), (1, .int (nI i)), (2, .int x2), (3, .int (nI a)), (4, .int x4)], [.long ((PP s) (12 * i + 4 + a))], wP pre (wN (PP s) (QQ s) op oq 0 (nI L.1) wi fa (nI k) st of F), 0)
          refine mm_skip (mm_call_mono _ _) 1 (st' := (77, [(5, .int (nI (12 * i + 4 + a))), (0, .ref 10), (1, .int (nI i)), (2, .int x2), (3, .int (nI a)), (4, .int x4)], [.int (Int64.toInt32 ((PP s) (12 * i + 4 + a)))], wP pre (wN (PP s) (QQ s) op oq 0 (nI L.1) wi fa (nI k) st of F), 0)) rfl ?_
          exact mm_ret (mm_call_mono _ _) (c := True) (r := .inl (some (.int (Int64.toInt32 ((PP s) (12 * i + 4 + a)))))) (M := wP pre (wN (PP s) (QQ s) op oq 0 (nI L.1) wi fa (nI k) st of F)) (u := 0) rfl trivial (by decide) (by rw [pv_p hV Yi ha gq]; exact hQ s wi (0, prt (v i).2.1 a x4) ((if_pos ⟨u1, z2, Int32.not_le.mp z3⟩).trans (by rw [hgv, cl_n (by omega), cl_n (by omega), if_neg hy])) (fun _ _ => rfl) hR.2.2.2.2.1)
        · skip
          refine mm_skip (mm_call_mono _ _) 3 (st' := (65, [(5, .int (nI (12 * i + 4 + a))), (0, .ref 10), (1, .int (nI i)), (2, .int x2), (3, .int (nI a)), (4, .int x4)], [.int (nI (12 * i + 4 + a)), .ref 12], wP pre (wN (PP s) (QQ s) op oq 0 (nI L.1) wi fa (nI k) st of F), 0)) rfl ?_
          refine mm_need (mm_call_mono _ _) (c := vp_in (nI (12 * i + 4 + a)) 480) (s' := (66, [(5, .int (nI (12 * i + 4 + a))), (0, .ref 10), (1, .int (nI i)), (2, .int x2), (3, .int (nI a)), (4, .int x4)], [.long ((QQ s) (Int32.toNatClampNeg (nI (12 * i + 4 + a))))], wP pre (wN (PP s) (QQ s) op oq 0 (nI L.1) wi fa (nI k) st of F), 0)) rfl (vp_in_nI (show (12 * i + 4 + a) < 480 by omega) (by decide)) ?_
          rw [nI_clamp (show (12 * i + 4 + a) < 2 ^ 31 by omega)]
          show mm_W _ _ _ _ _ _ _ (66, [(5, .int (nI (12 * i + 4 + a))), (0, .ref 10), (1, .int (nI i)), (2, .int x2), (3, .int (nI a)), (4, .int x4)], [.long ((QQ s) (12 * i + 4 + a))], wP pre (wN (PP s) (QQ s) op oq 0 (nI L.1) wi fa (nI k) st of F), 0)
          refine mm_skip (mm_call_mono _ _) 2 (st' := (77, [(5, .int (nI (12 * i + 4 + a))), (0, .ref 10), (1, .int (nI i)), (2, .int x2), (3, .int (nI a)), (4, .int x4)], [.int (Int64.toInt32 ((QQ s) (12 * i + 4 + a)))], wP pre (wN (PP s) (QQ s) op oq 0 (nI L.1) wi fa (nI k) st of F), 0)) rfl ?_
          exact mm_ret (mm_call_mono _ _) (c := True) (r := .inl (some (.int (Int64.toInt32 ((QQ s) (12 * i + 4 + a)))))) (M := wP pre (wN (PP s) (QQ s) op oq 0 (nI L.1) wi fa (nI k) st of F)) (u := 0) rfl trivial (by decide) (by rw [pv_q hV Yi ha gq]; exact hQ s wi (0, prt (v i).2.1 a x4) ((if_pos ⟨u1, z2, Int32.not_le.mp z3⟩).trans (by rw [hgv, cl_n (by omega), cl_n (by omega), if_neg hy])) (fun _ _ => rfl) hR.2.2.2.2.1)

/-- the radicands are of the level below -/
def lzR (L : lvR) : Prop := (1 ≤ L.1 → lz 0 L.2.1) ∧ (2 ≤ L.1 → lz 1 L.2.2)
theorem xtake_z {L L1 : lvR} {x V : n4} (hl : L.1 ≤ 2) (hx : lz L.1 x) (hR : lzR L) (h : xtake L x = some (V, L1)) : lzR L1 := by
  refine bd h fun s h => ?_
  by_cases hs : s < 0
  · rw [if_pos hs] at h; cases h
  · rw [if_neg hs] at h
    refine bd h fun w h => ?_
    cases w with
    | some w => cases h; exact hR
    | none =>
      have h : (if L.1 = 2 then none else some (xun L.1, xup L x)) = some (V, L1) := h
      by_cases h2 : L.1 = 2
      · rw [if_pos h2] at h; cases h
      · rw [if_neg h2] at h
        cases h
        obtain ⟨l, R1, R2⟩ := L
        have hl : l ≤ 2 := hl
        have h2 : ¬ l = 2 := h2
        rcases (show l = 0 ∨ l = 1 by omega) with rfl | rfl
        · exact ⟨fun _ => hx, fun q => absurd (show 2 ≤ 1 from q) (by decide)⟩
        · exact ⟨fun _ => hR.1 (Nat.le_refl 1), fun _ => hx⟩
theorem mMea_z {L : lvR} {a b c x y s : n4} {t : o3} (hl : L.1 ≤ 2) (h : mMea L a b c x y s = some t) : lz L.1 t.2.2 := by
  unfold mMea at h
  iterate 10 (refine bd h fun _ h => ?_)
  exact bd2 h (fun v hv e => by cases e; exact lz_sub hl hv)
theorem mCut_zR {L L1 : lvR} {a b c x y s : n4} {less : Bool} {q : o3} (hl : L.1 ≤ 2) (hR : lzR L) (h : mCut L a b c x y s less = some (q, L1)) : lzR L1 := by
  refine bd2 h (fun t ht h => bd2 h (fun r hr h => ?_))
  rw [mDraw_L h]
  exact xtake_z hl (mMea_z hl ht) hR (V := r.1) (L1 := r.2) hr
theorem mk_zR {s : stp} {v : Nat → o3} {L L1 : lvR} {q : o3} (hl : L.1 ≤ 2) (hR : lzR L) (h : mk s v L = some (q, L1)) : lzR L1 := by
  have e : L1 = L → lzR L1 := fun e => by rw [e]; exact hR
  unfold mk at h
  split at h
  · cases h; exact hR
  · refine e ?_
    unfold mLine at h
    split at h
    · cases h
    · iterate 5 (refine bd h fun _ h => ?_)
      cases h; rfl
  · refine e ?_
    unfold mCirc at h
    refine bd h fun _ h => ?_
    split at h
    · cases h
    · cases h; rfl
  · refine e ?_
    unfold mMid at h
    iterate 4 (refine bd h fun _ h => ?_)
    cases h; rfl
  · refine e ?_
    unfold mMeet at h
    iterate 12 (refine bd h fun _ h => ?_)
    cases h; rfl
  · exact mCut_zR hl hR h
  · exact bd h fun _ h => mCut_zR hl hR h
theorem dr_zR {S : Nat → stp} : ∀ {i : Nat} {v : Nat → o3} {L : lvR}, dr S i = some (v, L) → lzR L
  | 0, v, L, h => by cases h; exact ⟨fun q => absurd (show 1 ≤ 0 from q) (by decide), fun q => absurd (show 2 ≤ 0 from q) (by decide)⟩
  | i + 1, v, L, h => by
    have h : (dr S i).bind (fun p => (mk (S i) p.1 p.2).bind fun q => some (fun j => if j = i then q.1 else p.1 j, q.2)) = some (v, L) := h
    refine bd2 h (fun p hp h => bd2 h (fun q hq h => ?_))
    cases h
    exact mk_zR (L := p.2) (dr_lv (v := p.1) (L := p.2) hp) (dr_zR (v := p.1) (L := p.2) hp) (q := q.1) (L1 := q.2) hq
theorem prt_z {x : n4} {i : Nat} {q : Int32} (h : g4 x i = z0) : (q = 0 → prt x i q = 0) ∧ (¬ q = 0 → prt x i q = 1) := by
  unfold prt
  rw [h]
  exact ⟨fun e => by rw [if_pos e]; rfl, fun e => by rw [if_neg e]; rfl⟩
theorem rad_p {s : Nat → fr} {a i m : Nat} {x : n4} (hV : ∀ k, fv (s k)) (X : isM s 0 m a (g4 x)) (hi : i < m) {q : Int32} (hq : q = 0) : Int64.toInt32 (PP s (a + i)) = prt x i q := by
  have h := hV (a + i)
  show Int64.toInt32 (Int64.ofInt (s (a + i)).1) = _
  rw [l2i_p (by have := h.2.2.1; omega) (by have := h.2.2.2.1; omega), X rfl i hi]
  unfold prt
  rw [if_pos hq]
theorem rad_q {s : Nat → fr} {a i m : Nat} {x : n4} (hV : ∀ k, fv (s k)) (X : isM s 0 m a (g4 x)) (hi : i < m) {q : Int32} (hq : ¬ q = 0) : Int64.toInt32 (QQ s (a + i)) = prt x i q := by
  have h := hV (a + i)
  show Int64.toInt32 (Int64.ofInt (s (a + i)).2) = _
  rw [l2i_p (by have := h.1; omega) (by have := h.2.1; omega), X rfl i hi]
  unfold prt
  rw [if_neg hq]
set_option maxRecDepth 100000 in
theorem rx_rad1 {d : Nat} {pre : mm_pre} {s : Nat → fr} {op oq : Nat → Int64} {tr wi fa : Int32} {st of : Nat → Int32} {F : mm_M} {S : Nat → stp} {k : Nat} {L : lvR} {v : Nat → o3} {x2 x3 : Int32} {Q : mm_R → mm_M → Prop} (hv : 1 ≤ L.1) (hk : k ≤ 24) (hS : ∀ i, i < k → stR st of S i) (hw : ∀ i, i < k → wf S i) (hR : rI S s k v L) (hQ : ∀ (s1 : Nat → fr) (w1 : Int32) (r : oc), qRad S k 1 x2 x3 = r → (∀ j, j < 300 → s1 j = s j) → (∀ j, fv (s1 j)) → Q (.inl (some (.int (rv r)))) (wP pre (wN (PP s1) (QQ s1) op oq (nI r.1) (nI L.1) w1 fa (nI k) st of F))) : mm_call mm_Tb (d + 17) 117 [.ref 10, .int 1, .int x2, .int x3] (wP pre (wN (PP s) (QQ s) op oq tr (nI L.1) wi fa (nI k) st of F)) Q := by
  have hV := hR.2.2.2.2.1
  have hl := hR.2.1
  have R := hR.2.2.1
  have S0 := ms_0 (wi := 0) (Z := fun k => 300 ≤ k) hV (Or.inl rfl)
  have hgv := gv_s hR.1
  refine mm_in mt_117 (Nat.le_of_ble_eq_true rfl) ?_
  show mm_W _ _ _ _ _ _ _ (0, [(0, .ref 10), (1, .int 1), (2, .int x2), (3, .int x3)], [], wP pre (wN (PP s) (QQ s) op oq tr (nI L.1) wi fa (nI k) st of F), 0)
  refine mm_skip (mm_call_mono _ _) 3 (st' := (3, [(0, .ref 10), (1, .int 1), (2, .int x2), (3, .int x3)], [.int 1, .int 1, .ref 10], wP pre (wN (PP s) (QQ s) op oq tr (nI L.1) wi fa (nI k) st of F), 0)) rfl ?_
  refine mm_branch (mm_call_mono _ _) (c := (1 : Int32) < 1) (s1 := (23, [(0, .ref 10), (1, .int 1), (2, .int x2), (3, .int x3)], [.ref 10], wP pre (wN (PP s) (QQ s) op oq tr (nI L.1) wi fa (nI k) st of F), 0)) (s2 := (6, [(0, .ref 10), (1, .int 1), (2, .int x2), (3, .int x3)], [.ref 10], wP pre (wN (PP s) (QQ s) op oq tr (nI L.1) wi fa (nI k) st of F), 0)) rfl (fun h => absurd h (by decide)) (fun _ => ?_)
  refine mm_skip (mm_call_mono _ _) 3 (st' := (11, [(0, .ref 10), (1, .int 1), (2, .int x2), (3, .int x3)], [.int (nI L.1), .int 1, .ref 10], wP pre (wN (PP s) (QQ s) op oq tr (nI L.1) wi fa (nI k) st of F), 0)) rfl ?_
  refine mm_branch (mm_call_mono _ _) (c := (nI L.1) < 1) (s1 := (23, [(0, .ref 10), (1, .int 1), (2, .int x2), (3, .int x3)], [.ref 10], wP pre (wN (PP s) (QQ s) op oq tr (nI L.1) wi fa (nI k) st of F), 0)) (s2 := (14, [(0, .ref 10), (1, .int 1), (2, .int x2), (3, .int x3)], [.ref 10], wP pre (wN (PP s) (QQ s) op oq tr (nI L.1) wi fa (nI k) st of F), 0)) rfl (fun h => absurd h (fun z => nI_nlt hv (by omega) (show nI L.1 < nI 1 from z))) (fun _ => ?_)
  refine mm_skip (mm_call_mono _ _) 1 (st' := (15, [(0, .ref 10), (1, .int 1), (2, .int x2), (3, .int x3)], [.int x2, .ref 10], wP pre (wN (PP s) (QQ s) op oq tr (nI L.1) wi fa (nI k) st of F), 0)) rfl ?_
  refine mm_branch (mm_call_mono _ _) (c := x2 < 0) (s1 := (23, [(0, .ref 10), (1, .int 1), (2, .int x2), (3, .int x3)], [.ref 10], wP pre (wN (PP s) (QQ s) op oq tr (nI L.1) wi fa (nI k) st of F), 0)) (s2 := (18, [(0, .ref 10), (1, .int 1), (2, .int x2), (3, .int x3)], [.ref 10], wP pre (wN (PP s) (QQ s) op oq tr (nI L.1) wi fa (nI k) st of F), 0)) rfl (fun z2 => ?_) (fun z2 => ?_)
  · skip
    refine mm_skip (mm_call_mono _ _) 5 (st' := (35, [(0, .ref 10), (1, .int 1), (2, .int x2), (3, .int x3)], [.int 1], wP pre (wN (PP s) (QQ s) op oq 1 (nI L.1) wi fa (nI k) st of F), 0)) rfl ?_
    refine mm_branch (mm_call_mono _ _) (c := (1 : Int32) ≤ 0) (s1 := (40, [(0, .ref 10), (1, .int 1), (2, .int x2), (3, .int x3)], [], wP pre (wN (PP s) (QQ s) op oq 1 (nI L.1) wi fa (nI k) st of F), 0)) (s2 := (38, [(0, .ref 10), (1, .int 1), (2, .int x2), (3, .int x3)], [], wP pre (wN (PP s) (QQ s) op oq 1 (nI L.1) wi fa (nI k) st of F), 0)) rfl (fun h => absurd h (by decide)) (fun _ => ?_)
    refine mm_skip (mm_call_mono _ _) 1 (st' := (39, [(0, .ref 10), (1, .int 1), (2, .int x2), (3, .int x3)], [.int 0], wP pre (wN (PP s) (QQ s) op oq 1 (nI L.1) wi fa (nI k) st of F), 0)) rfl ?_
    exact mm_ret (mm_call_mono _ _) (c := True) (r := .inl (some (.int 0))) (M := wP pre (wN (PP s) (QQ s) op oq 1 (nI L.1) wi fa (nI k) st of F)) (u := 0) rfl trivial (by decide) (hQ _ _ (1, 0) (if_neg (fun z => z.2.2.1 z2)) (fun _ _ => rfl) hR.2.2.2.2.1)
  · skip
    refine mm_skip (mm_call_mono _ _) 2 (st' := (20, [(0, .ref 10), (1, .int 1), (2, .int x2), (3, .int x3)], [.int 3, .int x2, .ref 10], wP pre (wN (PP s) (QQ s) op oq tr (nI L.1) wi fa (nI k) st of F), 0)) rfl ?_
    refine mm_branch (mm_call_mono _ _) (c := x2 ≤ 3) (s1 := (27, [(0, .ref 10), (1, .int 1), (2, .int x2), (3, .int x3)], [.ref 10], wP pre (wN (PP s) (QQ s) op oq tr (nI L.1) wi fa (nI k) st of F), 0)) (s2 := (23, [(0, .ref 10), (1, .int 1), (2, .int x2), (3, .int x3)], [.ref 10], wP pre (wN (PP s) (QQ s) op oq tr (nI L.1) wi fa (nI k) st of F), 0)) rfl (fun z3 => ?_) (fun z3 => ?_)
    · skip
      obtain ⟨a, ha, rfl⟩ := in4 z2 (lt4 z3)
      have hz := (dr_zR hR.1).1 hv
      refine mm_skip (mm_call_mono _ _) 4 (st' := (35, [(0, .ref 10), (1, .int 1), (2, .int (nI a)), (3, .int x3)], [.int 0], wP pre (wN (PP s) (QQ s) op oq 0 (nI L.1) wi fa (nI k) st of F), 0)) rfl ?_
      refine mm_branch (mm_call_mono _ _) (c := (0 : Int32) ≤ 0) (s1 := (40, [(0, .ref 10), (1, .int 1), (2, .int (nI a)), (3, .int x3)], [], wP pre (wN (PP s) (QQ s) op oq 0 (nI L.1) wi fa (nI k) st of F), 0)) (s2 := (38, [(0, .ref 10), (1, .int 1), (2, .int (nI a)), (3, .int x3)], [], wP pre (wN (PP s) (QQ s) op oq 0 (nI L.1) wi fa (nI k) st of F), 0)) rfl (fun _ => ?_) (fun h => absurd (by decide) h)
      refine mm_skip (mm_call_mono _ _) 2 (st' := (42, [(0, .ref 10), (1, .int 1), (2, .int (nI a)), (3, .int x3)], [.int 1, .int (nI a)], wP pre (wN (PP s) (QQ s) op oq 0 (nI L.1) wi fa (nI k) st of F), 0)) rfl ?_
      refine mm_branch (mm_call_mono _ _) (c := (nI a) < 1) (s1 := (55, [(0, .ref 10), (1, .int 1), (2, .int (nI a)), (3, .int x3)], [], wP pre (wN (PP s) (QQ s) op oq 0 (nI L.1) wi fa (nI k) st of F), 0)) (s2 := (45, [(0, .ref 10), (1, .int 1), (2, .int (nI a)), (3, .int x3)], [], wP pre (wN (PP s) (QQ s) op oq 0 (nI L.1) wi fa (nI k) st of F), 0)) rfl (fun z4 => ?_) (fun z4 => ?_)
      · have z5 : a < 1 := (nI_ltI (by omega) (by omega)).mp (show nI a < nI 1 from z4)
        refine mm_skip (mm_call_mono _ _) 2 (st' := (57, [(0, .ref 10), (1, .int 1), (2, .int (nI a)), (3, .int x3)], [.int 1, .int 1], wP pre (wN (PP s) (QQ s) op oq 0 (nI L.1) wi fa (nI k) st of F), 0)) rfl ?_
        refine mm_branch (mm_call_mono _ _) (c := (1 : Int32) = 1) (s1 := (60, [(0, .ref 10), (1, .int 1), (2, .int (nI a)), (3, .int x3)], [], wP pre (wN (PP s) (QQ s) op oq 0 (nI L.1) wi fa (nI k) st of F), 0)) (s2 := (66, [(0, .ref 10), (1, .int 1), (2, .int (nI a)), (3, .int x3)], [], wP pre (wN (PP s) (QQ s) op oq 0 (nI L.1) wi fa (nI k) st of F), 0)) rfl (fun _ => ?_) (fun h => absurd (by decide) h)
        refine mm_skip (mm_call_mono _ _) 4 (st' := (74, [(4, .int 288), (0, .ref 10), (1, .int 1), (2, .int (nI a)), (3, .int x3)], [.int x3], wP pre (wN (PP s) (QQ s) op oq 0 (nI L.1) wi fa (nI k) st of F), 0)) rfl ?_
        refine mm_branch (mm_call_mono _ _) (c := x3 = 0) (s1 := (87, [(4, .int 288), (0, .ref 10), (1, .int 1), (2, .int (nI a)), (3, .int x3)], [], wP pre (wN (PP s) (QQ s) op oq 0 (nI L.1) wi fa (nI k) st of F), 0)) (s2 := (77, [(4, .int 288), (0, .ref 10), (1, .int 1), (2, .int (nI a)), (3, .int x3)], [], wP pre (wN (PP s) (QQ s) op oq 0 (nI L.1) wi fa (nI k) st of F), 0)) rfl (fun gq => ?_) (fun gq => ?_)
        · skip
          refine mm_skip (mm_call_mono _ _) 3 (st' := (93, [(4, .int 288), (0, .ref 10), (1, .int 1), (2, .int (nI a)), (3, .int x3)], [.int 288, .ref 11], wP pre (wN (PP s) (QQ s) op oq 0 (nI L.1) wi fa (nI k) st of F), 0)) rfl ?_
          refine mm_need (mm_call_mono _ _) (c := vp_in 288 480) (s' := (94, [(4, .int 288), (0, .ref 10), (1, .int 1), (2, .int (nI a)), (3, .int x3)], [.long ((PP s) 288)], wP pre (wN (PP s) (QQ s) op oq 0 (nI L.1) wi fa (nI k) st of F), 0)) rfl (by unfold vp_in; decide) ?_
          refine mm_skip (mm_call_mono _ _) 1 (st' := (95, [(4, .int 288), (0, .ref 10), (1, .int 1), (2, .int (nI a)), (3, .int x3)], [.int (Int64.toInt32 ((PP s) 288))], wP pre (wN (PP s) (QQ s) op oq 0 (nI L.1) wi fa (nI k) st of F), 0)) rfl ?_
          exact mm_ret (mm_call_mono _ _) (c := True) (r := .inl (some (.int (Int64.toInt32 ((PP s) 288))))) (M := wP pre (wN (PP s) (QQ s) op oq 0 (nI L.1) wi fa (nI k) st of F)) (u := 0) rfl trivial (by decide) (by have e9 := hQ s wi (0, prt L.2.1 a x3) ((if_pos ⟨by decide, by rw [hgv]; exact (nI_le hv (by omega) : nI 1 ≤ nI L.1), z2, lt4 z3⟩).trans (by rw [hgv, cl_n (by omega)] <;> rfl)) (fun _ _ => rfl) hR.2.2.2.2.1; rw [show rv (0, prt L.2.1 a x3) = prt L.2.1 a x3 from rfl] at e9; have e7 : Int64.toInt32 (PP s 288) = prt L.2.1 a x3 := (by rw [show a = 0 by omega]; exact rad_p (i := 0) hV (R.1 hv) (by omega) gq); rw [e7]; exact e9)
        · skip
          refine mm_skip (mm_call_mono _ _) 3 (st' := (83, [(4, .int 288), (0, .ref 10), (1, .int 1), (2, .int (nI a)), (3, .int x3)], [.int 288, .ref 12], wP pre (wN (PP s) (QQ s) op oq 0 (nI L.1) wi fa (nI k) st of F), 0)) rfl ?_
          refine mm_need (mm_call_mono _ _) (c := vp_in 288 480) (s' := (84, [(4, .int 288), (0, .ref 10), (1, .int 1), (2, .int (nI a)), (3, .int x3)], [.long ((QQ s) 288)], wP pre (wN (PP s) (QQ s) op oq 0 (nI L.1) wi fa (nI k) st of F), 0)) rfl (by unfold vp_in; decide) ?_
          refine mm_skip (mm_call_mono _ _) 2 (st' := (95, [(4, .int 288), (0, .ref 10), (1, .int 1), (2, .int (nI a)), (3, .int x3)], [.int (Int64.toInt32 ((QQ s) 288))], wP pre (wN (PP s) (QQ s) op oq 0 (nI L.1) wi fa (nI k) st of F), 0)) rfl ?_
          exact mm_ret (mm_call_mono _ _) (c := True) (r := .inl (some (.int (Int64.toInt32 ((QQ s) 288))))) (M := wP pre (wN (PP s) (QQ s) op oq 0 (nI L.1) wi fa (nI k) st of F)) (u := 0) rfl trivial (by decide) (by have e9 := hQ s wi (0, prt L.2.1 a x3) ((if_pos ⟨by decide, by rw [hgv]; exact (nI_le hv (by omega) : nI 1 ≤ nI L.1), z2, lt4 z3⟩).trans (by rw [hgv, cl_n (by omega)] <;> rfl)) (fun _ _ => rfl) hR.2.2.2.2.1; rw [show rv (0, prt L.2.1 a x3) = prt L.2.1 a x3 from rfl] at e9; have e7 : Int64.toInt32 (QQ s 288) = prt L.2.1 a x3 := (by rw [show a = 0 by omega]; exact rad_q (i := 0) hV (R.1 hv) (by omega) gq); rw [e7]; exact e9)
      · have z5 : 1 ≤ a := by have h : ¬ a < 1 := fun e => z4 (show nI a < nI 1 from nI_lt e (by omega)); omega
        refine mm_skip (mm_call_mono _ _) 1 (st' := (46, [(0, .ref 10), (1, .int 1), (2, .int (nI a)), (3, .int x3)], [.int x3], wP pre (wN (PP s) (QQ s) op oq 0 (nI L.1) wi fa (nI k) st of F), 0)) rfl ?_
        refine mm_branch (mm_call_mono _ _) (c := x3 = 0) (s1 := (53, [(0, .ref 10), (1, .int 1), (2, .int (nI a)), (3, .int x3)], [], wP pre (wN (PP s) (QQ s) op oq 0 (nI L.1) wi fa (nI k) st of F), 0)) (s2 := (49, [(0, .ref 10), (1, .int 1), (2, .int (nI a)), (3, .int x3)], [], wP pre (wN (PP s) (QQ s) op oq 0 (nI L.1) wi fa (nI k) st of F), 0)) rfl (fun gq => ?_) (fun gq => ?_)
        · skip
          refine mm_skip (mm_call_mono _ _) 1 (st' := (54, [(0, .ref 10), (1, .int 1), (2, .int (nI a)), (3, .int x3)], [.int 0], wP pre (wN (PP s) (QQ s) op oq 0 (nI L.1) wi fa (nI k) st of F), 0)) rfl ?_
          exact mm_ret (mm_call_mono _ _) (c := True) (r := .inl (some (.int 0))) (M := wP pre (wN (PP s) (QQ s) op oq 0 (nI L.1) wi fa (nI k) st of F)) (u := 0) rfl trivial (by decide) (by have e9 := hQ s wi (0, prt L.2.1 a x3) ((if_pos ⟨by decide, by rw [hgv]; exact (nI_le hv (by omega) : nI 1 ≤ nI L.1), z2, lt4 z3⟩).trans (by rw [hgv, cl_n (by omega)] <;> rfl)) (fun _ _ => rfl) hR.2.2.2.2.1; have e8 := (prt_z (q := x3) (hz a z5 (by omega))).1 gq; rw [show rv (0, prt L.2.1 a x3) = prt L.2.1 a x3 from rfl, e8] at e9; exact e9)
        · skip
          refine mm_skip (mm_call_mono _ _) 2 (st' := (54, [(0, .ref 10), (1, .int 1), (2, .int (nI a)), (3, .int x3)], [.int 1], wP pre (wN (PP s) (QQ s) op oq 0 (nI L.1) wi fa (nI k) st of F), 0)) rfl ?_
          exact mm_ret (mm_call_mono _ _) (c := True) (r := .inl (some (.int 1))) (M := wP pre (wN (PP s) (QQ s) op oq 0 (nI L.1) wi fa (nI k) st of F)) (u := 0) rfl trivial (by decide) (by have e9 := hQ s wi (0, prt L.2.1 a x3) ((if_pos ⟨by decide, by rw [hgv]; exact (nI_le hv (by omega) : nI 1 ≤ nI L.1), z2, lt4 z3⟩).trans (by rw [hgv, cl_n (by omega)] <;> rfl)) (fun _ _ => rfl) hR.2.2.2.2.1; have e8 := (prt_z (q := x3) (hz a z5 (by omega))).2 gq; rw [show rv (0, prt L.2.1 a x3) = prt L.2.1 a x3 from rfl, e8] at e9; exact e9)
    · skip
      refine mm_skip (mm_call_mono _ _) 5 (st' := (35, [(0, .ref 10), (1, .int 1), (2, .int x2), (3, .int x3)], [.int 1], wP pre (wN (PP s) (QQ s) op oq 1 (nI L.1) wi fa (nI k) st of F), 0)) rfl ?_
      refine mm_branch (mm_call_mono _ _) (c := (1 : Int32) ≤ 0) (s1 := (40, [(0, .ref 10), (1, .int 1), (2, .int x2), (3, .int x3)], [], wP pre (wN (PP s) (QQ s) op oq 1 (nI L.1) wi fa (nI k) st of F), 0)) (s2 := (38, [(0, .ref 10), (1, .int 1), (2, .int x2), (3, .int x3)], [], wP pre (wN (PP s) (QQ s) op oq 1 (nI L.1) wi fa (nI k) st of F), 0)) rfl (fun h => absurd h (by decide)) (fun _ => ?_)
      refine mm_skip (mm_call_mono _ _) 1 (st' := (39, [(0, .ref 10), (1, .int 1), (2, .int x2), (3, .int x3)], [.int 0], wP pre (wN (PP s) (QQ s) op oq 1 (nI L.1) wi fa (nI k) st of F), 0)) rfl ?_
      exact mm_ret (mm_call_mono _ _) (c := True) (r := .inl (some (.int 0))) (M := wP pre (wN (PP s) (QQ s) op oq 1 (nI L.1) wi fa (nI k) st of F)) (u := 0) rfl trivial (by decide) (hQ _ _ (1, 0) (if_neg (fun z => z3 (le3_of z.2.2.2))) (fun _ _ => rfl) hR.2.2.2.2.1)

set_option maxRecDepth 100000 in
theorem rx_rad2 {d : Nat} {pre : mm_pre} {s : Nat → fr} {op oq : Nat → Int64} {tr wi fa : Int32} {st of : Nat → Int32} {F : mm_M} {S : Nat → stp} {k : Nat} {L : lvR} {v : Nat → o3} {x2 x3 : Int32} {Q : mm_R → mm_M → Prop} (hv : 2 ≤ L.1) (hk : k ≤ 24) (hS : ∀ i, i < k → stR st of S i) (hw : ∀ i, i < k → wf S i) (hR : rI S s k v L) (hQ : ∀ (s1 : Nat → fr) (w1 : Int32) (r : oc), qRad S k 2 x2 x3 = r → (∀ j, j < 300 → s1 j = s j) → (∀ j, fv (s1 j)) → Q (.inl (some (.int (rv r)))) (wP pre (wN (PP s1) (QQ s1) op oq (nI r.1) (nI L.1) w1 fa (nI k) st of F))) : mm_call mm_Tb (d + 17) 117 [.ref 10, .int 2, .int x2, .int x3] (wP pre (wN (PP s) (QQ s) op oq tr (nI L.1) wi fa (nI k) st of F)) Q := by
  have hV := hR.2.2.2.2.1
  have hl := hR.2.1
  have R := hR.2.2.1
  have S0 := ms_0 (wi := 0) (Z := fun k => 300 ≤ k) hV (Or.inl rfl)
  have hgv := gv_s hR.1
  refine mm_in mt_117 (Nat.le_of_ble_eq_true rfl) ?_
  show mm_W _ _ _ _ _ _ _ (0, [(0, .ref 10), (1, .int 2), (2, .int x2), (3, .int x3)], [], wP pre (wN (PP s) (QQ s) op oq tr (nI L.1) wi fa (nI k) st of F), 0)
  refine mm_skip (mm_call_mono _ _) 3 (st' := (3, [(0, .ref 10), (1, .int 2), (2, .int x2), (3, .int x3)], [.int 1, .int 2, .ref 10], wP pre (wN (PP s) (QQ s) op oq tr (nI L.1) wi fa (nI k) st of F), 0)) rfl ?_
  refine mm_branch (mm_call_mono _ _) (c := (2 : Int32) < 1) (s1 := (23, [(0, .ref 10), (1, .int 2), (2, .int x2), (3, .int x3)], [.ref 10], wP pre (wN (PP s) (QQ s) op oq tr (nI L.1) wi fa (nI k) st of F), 0)) (s2 := (6, [(0, .ref 10), (1, .int 2), (2, .int x2), (3, .int x3)], [.ref 10], wP pre (wN (PP s) (QQ s) op oq tr (nI L.1) wi fa (nI k) st of F), 0)) rfl (fun h => absurd h (by decide)) (fun _ => ?_)
  refine mm_skip (mm_call_mono _ _) 3 (st' := (11, [(0, .ref 10), (1, .int 2), (2, .int x2), (3, .int x3)], [.int (nI L.1), .int 2, .ref 10], wP pre (wN (PP s) (QQ s) op oq tr (nI L.1) wi fa (nI k) st of F), 0)) rfl ?_
  refine mm_branch (mm_call_mono _ _) (c := (nI L.1) < 2) (s1 := (23, [(0, .ref 10), (1, .int 2), (2, .int x2), (3, .int x3)], [.ref 10], wP pre (wN (PP s) (QQ s) op oq tr (nI L.1) wi fa (nI k) st of F), 0)) (s2 := (14, [(0, .ref 10), (1, .int 2), (2, .int x2), (3, .int x3)], [.ref 10], wP pre (wN (PP s) (QQ s) op oq tr (nI L.1) wi fa (nI k) st of F), 0)) rfl (fun h => absurd h (fun z => nI_nlt hv (by omega) (show nI L.1 < nI 2 from z))) (fun _ => ?_)
  refine mm_skip (mm_call_mono _ _) 1 (st' := (15, [(0, .ref 10), (1, .int 2), (2, .int x2), (3, .int x3)], [.int x2, .ref 10], wP pre (wN (PP s) (QQ s) op oq tr (nI L.1) wi fa (nI k) st of F), 0)) rfl ?_
  refine mm_branch (mm_call_mono _ _) (c := x2 < 0) (s1 := (23, [(0, .ref 10), (1, .int 2), (2, .int x2), (3, .int x3)], [.ref 10], wP pre (wN (PP s) (QQ s) op oq tr (nI L.1) wi fa (nI k) st of F), 0)) (s2 := (18, [(0, .ref 10), (1, .int 2), (2, .int x2), (3, .int x3)], [.ref 10], wP pre (wN (PP s) (QQ s) op oq tr (nI L.1) wi fa (nI k) st of F), 0)) rfl (fun z2 => ?_) (fun z2 => ?_)
  · skip
    refine mm_skip (mm_call_mono _ _) 5 (st' := (35, [(0, .ref 10), (1, .int 2), (2, .int x2), (3, .int x3)], [.int 1], wP pre (wN (PP s) (QQ s) op oq 1 (nI L.1) wi fa (nI k) st of F), 0)) rfl ?_
    refine mm_branch (mm_call_mono _ _) (c := (1 : Int32) ≤ 0) (s1 := (40, [(0, .ref 10), (1, .int 2), (2, .int x2), (3, .int x3)], [], wP pre (wN (PP s) (QQ s) op oq 1 (nI L.1) wi fa (nI k) st of F), 0)) (s2 := (38, [(0, .ref 10), (1, .int 2), (2, .int x2), (3, .int x3)], [], wP pre (wN (PP s) (QQ s) op oq 1 (nI L.1) wi fa (nI k) st of F), 0)) rfl (fun h => absurd h (by decide)) (fun _ => ?_)
    refine mm_skip (mm_call_mono _ _) 1 (st' := (39, [(0, .ref 10), (1, .int 2), (2, .int x2), (3, .int x3)], [.int 0], wP pre (wN (PP s) (QQ s) op oq 1 (nI L.1) wi fa (nI k) st of F), 0)) rfl ?_
    exact mm_ret (mm_call_mono _ _) (c := True) (r := .inl (some (.int 0))) (M := wP pre (wN (PP s) (QQ s) op oq 1 (nI L.1) wi fa (nI k) st of F)) (u := 0) rfl trivial (by decide) (hQ _ _ (1, 0) (if_neg (fun z => z.2.2.1 z2)) (fun _ _ => rfl) hR.2.2.2.2.1)
  · skip
    refine mm_skip (mm_call_mono _ _) 2 (st' := (20, [(0, .ref 10), (1, .int 2), (2, .int x2), (3, .int x3)], [.int 3, .int x2, .ref 10], wP pre (wN (PP s) (QQ s) op oq tr (nI L.1) wi fa (nI k) st of F), 0)) rfl ?_
    refine mm_branch (mm_call_mono _ _) (c := x2 ≤ 3) (s1 := (27, [(0, .ref 10), (1, .int 2), (2, .int x2), (3, .int x3)], [.ref 10], wP pre (wN (PP s) (QQ s) op oq tr (nI L.1) wi fa (nI k) st of F), 0)) (s2 := (23, [(0, .ref 10), (1, .int 2), (2, .int x2), (3, .int x3)], [.ref 10], wP pre (wN (PP s) (QQ s) op oq tr (nI L.1) wi fa (nI k) st of F), 0)) rfl (fun z3 => ?_) (fun z3 => ?_)
    · skip
      obtain ⟨a, ha, rfl⟩ := in4 z2 (lt4 z3)
      have hz := (dr_zR hR.1).2 hv
      refine mm_skip (mm_call_mono _ _) 4 (st' := (35, [(0, .ref 10), (1, .int 2), (2, .int (nI a)), (3, .int x3)], [.int 0], wP pre (wN (PP s) (QQ s) op oq 0 (nI L.1) wi fa (nI k) st of F), 0)) rfl ?_
      refine mm_branch (mm_call_mono _ _) (c := (0 : Int32) ≤ 0) (s1 := (40, [(0, .ref 10), (1, .int 2), (2, .int (nI a)), (3, .int x3)], [], wP pre (wN (PP s) (QQ s) op oq 0 (nI L.1) wi fa (nI k) st of F), 0)) (s2 := (38, [(0, .ref 10), (1, .int 2), (2, .int (nI a)), (3, .int x3)], [], wP pre (wN (PP s) (QQ s) op oq 0 (nI L.1) wi fa (nI k) st of F), 0)) rfl (fun _ => ?_) (fun h => absurd (by decide) h)
      refine mm_skip (mm_call_mono _ _) 2 (st' := (42, [(0, .ref 10), (1, .int 2), (2, .int (nI a)), (3, .int x3)], [.int 2, .int (nI a)], wP pre (wN (PP s) (QQ s) op oq 0 (nI L.1) wi fa (nI k) st of F), 0)) rfl ?_
      refine mm_branch (mm_call_mono _ _) (c := (nI a) < 2) (s1 := (55, [(0, .ref 10), (1, .int 2), (2, .int (nI a)), (3, .int x3)], [], wP pre (wN (PP s) (QQ s) op oq 0 (nI L.1) wi fa (nI k) st of F), 0)) (s2 := (45, [(0, .ref 10), (1, .int 2), (2, .int (nI a)), (3, .int x3)], [], wP pre (wN (PP s) (QQ s) op oq 0 (nI L.1) wi fa (nI k) st of F), 0)) rfl (fun z4 => ?_) (fun z4 => ?_)
      · have z5 : a < 2 := (nI_ltI (by omega) (by omega)).mp (show nI a < nI 2 from z4)
        refine mm_skip (mm_call_mono _ _) 2 (st' := (57, [(0, .ref 10), (1, .int 2), (2, .int (nI a)), (3, .int x3)], [.int 1, .int 2], wP pre (wN (PP s) (QQ s) op oq 0 (nI L.1) wi fa (nI k) st of F), 0)) rfl ?_
        refine mm_branch (mm_call_mono _ _) (c := (2 : Int32) = 1) (s1 := (60, [(0, .ref 10), (1, .int 2), (2, .int (nI a)), (3, .int x3)], [], wP pre (wN (PP s) (QQ s) op oq 0 (nI L.1) wi fa (nI k) st of F), 0)) (s2 := (66, [(0, .ref 10), (1, .int 2), (2, .int (nI a)), (3, .int x3)], [], wP pre (wN (PP s) (QQ s) op oq 0 (nI L.1) wi fa (nI k) st of F), 0)) rfl (fun h => absurd h (by decide)) (fun _ => ?_)
        refine mm_skip (mm_call_mono _ _) 4 (st' := (73, [(4, .int (289 + (nI a))), (0, .ref 10), (1, .int 2), (2, .int (nI a)), (3, .int x3)], [], wP pre (wN (PP s) (QQ s) op oq 0 (nI L.1) wi fa (nI k) st of F), 0)) rfl ?_
        rw [(nI_289 a)]
        show mm_W _ _ _ _ _ _ _ (73, [(4, .int (nI (289 + a))), (0, .ref 10), (1, .int 2), (2, .int (nI a)), (3, .int x3)], [], wP pre (wN (PP s) (QQ s) op oq 0 (nI L.1) wi fa (nI k) st of F), 0)
        refine mm_skip (mm_call_mono _ _) 1 (st' := (74, [(4, .int (nI (289 + a))), (0, .ref 10), (1, .int 2), (2, .int (nI a)), (3, .int x3)], [.int x3], wP pre (wN (PP s) (QQ s) op oq 0 (nI L.1) wi fa (nI k) st of F), 0)) rfl ?_
        refine mm_branch (mm_call_mono _ _) (c := x3 = 0) (s1 := (87, [(4, .int (nI (289 + a))), (0, .ref 10), (1, .int 2), (2, .int (nI a)), (3, .int x3)], [], wP pre (wN (PP s) (QQ s) op oq 0 (nI L.1) wi fa (nI k) st of F), 0)) (s2 := (77, [(4, .int (nI (289 + a))), (0, .ref 10), (1, .int 2), (2, .int (nI a)), (3, .int x3)], [], wP pre (wN (PP s) (QQ s) op oq 0 (nI L.1) wi fa (nI k) st of F), 0)) rfl (fun gq => ?_) (fun gq => ?_)
        · skip
          refine mm_skip (mm_call_mono _ _) 3 (st' := (93, [(4, .int (nI (289 + a))), (0, .ref 10), (1, .int 2), (2, .int (nI a)), (3, .int x3)], [.int (nI (289 + a)), .ref 11], wP pre (wN (PP s) (QQ s) op oq 0 (nI L.1) wi fa (nI k) st of F), 0)) rfl ?_
          refine mm_need (mm_call_mono _ _) (c := vp_in (nI (289 + a)) 480) (s' := (94, [(4, .int (nI (289 + a))), (0, .ref 10), (1, .int 2), (2, .int (nI a)), (3, .int x3)], [.long ((PP s) (Int32.toNatClampNeg (nI (289 + a))))], wP pre (wN (PP s) (QQ s) op oq 0 (nI L.1) wi fa (nI k) st of F), 0)) rfl (vp_in_nI (show (289 + a) < 480 by omega) (by decide)) ?_
          rw [nI_clamp (show (289 + a) < 2 ^ 31 by omega)]
          show mm_W _ _ _ _ _ _ _ (94, [(4, .int (nI (289 + a))), (0, .ref 10), (1, .int 2), (2, .int (nI a)), (3, .int x3)], [.long ((PP s) (289 + a))], wP pre (wN (PP s) (QQ s) op oq 0 (nI L.1) wi fa (nI k) st of F), 0)
          refine mm_skip (mm_call_mono _ _) 1 (st' := (95, [(4, .int (nI (289 + a))), (0, .ref 10), (1, .int 2), (2, .int (nI a)), (3, .int x3)], [.int (Int64.toInt32 ((PP s) (289 + a)))], wP pre (wN (PP s) (QQ s) op oq 0 (nI L.1) wi fa (nI k) st of F), 0)) rfl ?_
          exact mm_ret (mm_call_mono _ _) (c := True) (r := .inl (some (.int (Int64.toInt32 ((PP s) (289 + a)))))) (M := wP pre (wN (PP s) (QQ s) op oq 0 (nI L.1) wi fa (nI k) st of F)) (u := 0) rfl trivial (by decide) (by have e9 := hQ s wi (0, prt L.2.2 a x3) ((if_pos ⟨by decide, by rw [hgv]; exact (nI_le hv (by omega) : nI 2 ≤ nI L.1), z2, lt4 z3⟩).trans (by rw [hgv, cl_n (by omega)] <;> rfl)) (fun _ _ => rfl) hR.2.2.2.2.1; rw [show rv (0, prt L.2.2 a x3) = prt L.2.2 a x3 from rfl] at e9; rw [rad_p hV (R.2 hv) (show a < 2 by omega) gq]; exact e9)
        · skip
          refine mm_skip (mm_call_mono _ _) 3 (st' := (83, [(4, .int (nI (289 + a))), (0, .ref 10), (1, .int 2), (2, .int (nI a)), (3, .int x3)], [.int (nI (289 + a)), .ref 12], wP pre (wN (PP s) (QQ s) op oq 0 (nI L.1) wi fa (nI k) st of F), 0)) rfl ?_
          refine mm_need (mm_call_mono _ _) (c := vp_in (nI (289 + a)) 480) (s' := (84, [(4, .int (nI (289 + a))), (0, .ref 10), (1, .int 2), (2, .int (nI a)), (3, .int x3)], [.long ((QQ s) (Int32.toNatClampNeg (nI (289 + a))))], wP pre (wN (PP s) (QQ s) op oq 0 (nI L.1) wi fa (nI k) st of F), 0)) rfl (vp_in_nI (show (289 + a) < 480 by omega) (by decide)) ?_
          rw [nI_clamp (show (289 + a) < 2 ^ 31 by omega)]
          show mm_W _ _ _ _ _ _ _ (84, [(4, .int (nI (289 + a))), (0, .ref 10), (1, .int 2), (2, .int (nI a)), (3, .int x3)], [.long ((QQ s) (289 + a))], wP pre (wN (PP s) (QQ s) op oq 0 (nI L.1) wi fa (nI k) st of F), 0)
          refine mm_skip (mm_call_mono _ _) 2 (st' := (95, [(4, .int (nI (289 + a))), (0, .ref 10), (1, .int 2), (2, .int (nI a)), (3, .int x3)], [.int (Int64.toInt32 ((QQ s) (289 + a)))], wP pre (wN (PP s) (QQ s) op oq 0 (nI L.1) wi fa (nI k) st of F), 0)) rfl ?_
          exact mm_ret (mm_call_mono _ _) (c := True) (r := .inl (some (.int (Int64.toInt32 ((QQ s) (289 + a)))))) (M := wP pre (wN (PP s) (QQ s) op oq 0 (nI L.1) wi fa (nI k) st of F)) (u := 0) rfl trivial (by decide) (by have e9 := hQ s wi (0, prt L.2.2 a x3) ((if_pos ⟨by decide, by rw [hgv]; exact (nI_le hv (by omega) : nI 2 ≤ nI L.1), z2, lt4 z3⟩).trans (by rw [hgv, cl_n (by omega)] <;> rfl)) (fun _ _ => rfl) hR.2.2.2.2.1; rw [show rv (0, prt L.2.2 a x3) = prt L.2.2 a x3 from rfl] at e9; rw [rad_q hV (R.2 hv) (show a < 2 by omega) gq]; exact e9)
      · have z5 : 2 ≤ a := by have h : ¬ a < 2 := fun e => z4 (show nI a < nI 2 from nI_lt e (by omega)); omega
        refine mm_skip (mm_call_mono _ _) 1 (st' := (46, [(0, .ref 10), (1, .int 2), (2, .int (nI a)), (3, .int x3)], [.int x3], wP pre (wN (PP s) (QQ s) op oq 0 (nI L.1) wi fa (nI k) st of F), 0)) rfl ?_
        refine mm_branch (mm_call_mono _ _) (c := x3 = 0) (s1 := (53, [(0, .ref 10), (1, .int 2), (2, .int (nI a)), (3, .int x3)], [], wP pre (wN (PP s) (QQ s) op oq 0 (nI L.1) wi fa (nI k) st of F), 0)) (s2 := (49, [(0, .ref 10), (1, .int 2), (2, .int (nI a)), (3, .int x3)], [], wP pre (wN (PP s) (QQ s) op oq 0 (nI L.1) wi fa (nI k) st of F), 0)) rfl (fun gq => ?_) (fun gq => ?_)
        · skip
          refine mm_skip (mm_call_mono _ _) 1 (st' := (54, [(0, .ref 10), (1, .int 2), (2, .int (nI a)), (3, .int x3)], [.int 0], wP pre (wN (PP s) (QQ s) op oq 0 (nI L.1) wi fa (nI k) st of F), 0)) rfl ?_
          exact mm_ret (mm_call_mono _ _) (c := True) (r := .inl (some (.int 0))) (M := wP pre (wN (PP s) (QQ s) op oq 0 (nI L.1) wi fa (nI k) st of F)) (u := 0) rfl trivial (by decide) (by have e9 := hQ s wi (0, prt L.2.2 a x3) ((if_pos ⟨by decide, by rw [hgv]; exact (nI_le hv (by omega) : nI 2 ≤ nI L.1), z2, lt4 z3⟩).trans (by rw [hgv, cl_n (by omega)] <;> rfl)) (fun _ _ => rfl) hR.2.2.2.2.1; have e8 := (prt_z (q := x3) (hz a z5 (by omega))).1 gq; rw [show rv (0, prt L.2.2 a x3) = prt L.2.2 a x3 from rfl, e8] at e9; exact e9)
        · skip
          refine mm_skip (mm_call_mono _ _) 2 (st' := (54, [(0, .ref 10), (1, .int 2), (2, .int (nI a)), (3, .int x3)], [.int 1], wP pre (wN (PP s) (QQ s) op oq 0 (nI L.1) wi fa (nI k) st of F), 0)) rfl ?_
          exact mm_ret (mm_call_mono _ _) (c := True) (r := .inl (some (.int 1))) (M := wP pre (wN (PP s) (QQ s) op oq 0 (nI L.1) wi fa (nI k) st of F)) (u := 0) rfl trivial (by decide) (by have e9 := hQ s wi (0, prt L.2.2 a x3) ((if_pos ⟨by decide, by rw [hgv]; exact (nI_le hv (by omega) : nI 2 ≤ nI L.1), z2, lt4 z3⟩).trans (by rw [hgv, cl_n (by omega)] <;> rfl)) (fun _ _ => rfl) hR.2.2.2.2.1; have e8 := (prt_z (q := x3) (hz a z5 (by omega))).2 gq; rw [show rv (0, prt L.2.2 a x3) = prt L.2.2 a x3 from rfl, e8] at e9; exact e9)
    · skip
      refine mm_skip (mm_call_mono _ _) 5 (st' := (35, [(0, .ref 10), (1, .int 2), (2, .int x2), (3, .int x3)], [.int 1], wP pre (wN (PP s) (QQ s) op oq 1 (nI L.1) wi fa (nI k) st of F), 0)) rfl ?_
      refine mm_branch (mm_call_mono _ _) (c := (1 : Int32) ≤ 0) (s1 := (40, [(0, .ref 10), (1, .int 2), (2, .int x2), (3, .int x3)], [], wP pre (wN (PP s) (QQ s) op oq 1 (nI L.1) wi fa (nI k) st of F), 0)) (s2 := (38, [(0, .ref 10), (1, .int 2), (2, .int x2), (3, .int x3)], [], wP pre (wN (PP s) (QQ s) op oq 1 (nI L.1) wi fa (nI k) st of F), 0)) rfl (fun h => absurd h (by decide)) (fun _ => ?_)
      refine mm_skip (mm_call_mono _ _) 1 (st' := (39, [(0, .ref 10), (1, .int 2), (2, .int x2), (3, .int x3)], [.int 0], wP pre (wN (PP s) (QQ s) op oq 1 (nI L.1) wi fa (nI k) st of F), 0)) rfl ?_
      exact mm_ret (mm_call_mono _ _) (c := True) (r := .inl (some (.int 0))) (M := wP pre (wN (PP s) (QQ s) op oq 1 (nI L.1) wi fa (nI k) st of F)) (u := 0) rfl trivial (by decide) (hQ _ _ (1, 0) (if_neg (fun z => z3 (le3_of z.2.2.2))) (fun _ _ => rfl) hR.2.2.2.2.1)

set_option maxRecDepth 100000 in
theorem rx_radX {d : Nat} {pre : mm_pre} {s : Nat → fr} {op oq : Nat → Int64} {tr wi fa : Int32} {st of : Nat → Int32} {F : mm_M} {S : Nat → stp} {k : Nat} {L : lvR} {v : Nat → o3} {x1 x2 x3 : Int32} {Q : mm_R → mm_M → Prop} (hx : ¬ (¬ x1 < 1 ∧ x1 ≤ nI L.1)) (hk : k ≤ 24) (hS : ∀ i, i < k → stR st of S i) (hw : ∀ i, i < k → wf S i) (hR : rI S s k v L) (hQ : ∀ (s1 : Nat → fr) (w1 : Int32) (r : oc), qRad S k x1 x2 x3 = r → (∀ j, j < 300 → s1 j = s j) → (∀ j, fv (s1 j)) → Q (.inl (some (.int (rv r)))) (wP pre (wN (PP s1) (QQ s1) op oq (nI r.1) (nI L.1) w1 fa (nI k) st of F))) : mm_call mm_Tb (d + 17) 117 [.ref 10, .int x1, .int x2, .int x3] (wP pre (wN (PP s) (QQ s) op oq tr (nI L.1) wi fa (nI k) st of F)) Q := by
  have hV := hR.2.2.2.2.1
  have hl := hR.2.1
  have R := hR.2.2.1
  have S0 := ms_0 (wi := 0) (Z := fun k => 300 ≤ k) hV (Or.inl rfl)
  have hgv := gv_s hR.1
  refine mm_in mt_117 (Nat.le_of_ble_eq_true rfl) ?_
  show mm_W _ _ _ _ _ _ _ (0, [(0, .ref 10), (1, .int x1), (2, .int x2), (3, .int x3)], [], wP pre (wN (PP s) (QQ s) op oq tr (nI L.1) wi fa (nI k) st of F), 0)
  refine mm_skip (mm_call_mono _ _) 3 (st' := (3, [(0, .ref 10), (1, .int x1), (2, .int x2), (3, .int x3)], [.int 1, .int x1, .ref 10], wP pre (wN (PP s) (QQ s) op oq tr (nI L.1) wi fa (nI k) st of F), 0)) rfl ?_
  refine mm_branch (mm_call_mono _ _) (c := x1 < 1) (s1 := (23, [(0, .ref 10), (1, .int x1), (2, .int x2), (3, .int x3)], [.ref 10], wP pre (wN (PP s) (QQ s) op oq tr (nI L.1) wi fa (nI k) st of F), 0)) (s2 := (6, [(0, .ref 10), (1, .int x1), (2, .int x2), (3, .int x3)], [.ref 10], wP pre (wN (PP s) (QQ s) op oq tr (nI L.1) wi fa (nI k) st of F), 0)) rfl (fun z1 => ?_) (fun z1 => ?_)
  · skip
    refine mm_skip (mm_call_mono _ _) 5 (st' := (35, [(0, .ref 10), (1, .int x1), (2, .int x2), (3, .int x3)], [.int 1], wP pre (wN (PP s) (QQ s) op oq 1 (nI L.1) wi fa (nI k) st of F), 0)) rfl ?_
    refine mm_branch (mm_call_mono _ _) (c := (1 : Int32) ≤ 0) (s1 := (40, [(0, .ref 10), (1, .int x1), (2, .int x2), (3, .int x3)], [], wP pre (wN (PP s) (QQ s) op oq 1 (nI L.1) wi fa (nI k) st of F), 0)) (s2 := (38, [(0, .ref 10), (1, .int x1), (2, .int x2), (3, .int x3)], [], wP pre (wN (PP s) (QQ s) op oq 1 (nI L.1) wi fa (nI k) st of F), 0)) rfl (fun h => absurd h (by decide)) (fun _ => ?_)
    refine mm_skip (mm_call_mono _ _) 1 (st' := (39, [(0, .ref 10), (1, .int x1), (2, .int x2), (3, .int x3)], [.int 0], wP pre (wN (PP s) (QQ s) op oq 1 (nI L.1) wi fa (nI k) st of F), 0)) rfl ?_
    exact mm_ret (mm_call_mono _ _) (c := True) (r := .inl (some (.int 0))) (M := wP pre (wN (PP s) (QQ s) op oq 1 (nI L.1) wi fa (nI k) st of F)) (u := 0) rfl trivial (by decide) (hQ _ _ (1, 0) (if_neg (fun z => hx ⟨z.1, by have h := z.2.1; rw [hgv] at h; exact h⟩)) (fun _ _ => rfl) hR.2.2.2.2.1)
  · skip
    refine mm_skip (mm_call_mono _ _) 3 (st' := (11, [(0, .ref 10), (1, .int x1), (2, .int x2), (3, .int x3)], [.int (nI L.1), .int x1, .ref 10], wP pre (wN (PP s) (QQ s) op oq tr (nI L.1) wi fa (nI k) st of F), 0)) rfl ?_
    refine mm_branch (mm_call_mono _ _) (c := (nI L.1) < x1) (s1 := (23, [(0, .ref 10), (1, .int x1), (2, .int x2), (3, .int x3)], [.ref 10], wP pre (wN (PP s) (QQ s) op oq tr (nI L.1) wi fa (nI k) st of F), 0)) (s2 := (14, [(0, .ref 10), (1, .int x1), (2, .int x2), (3, .int x3)], [.ref 10], wP pre (wN (PP s) (QQ s) op oq tr (nI L.1) wi fa (nI k) st of F), 0)) rfl (fun _ => ?_) (fun h => absurd (Int32.not_le.mp (fun z => hx ⟨z1, z⟩)) h)
    refine mm_skip (mm_call_mono _ _) 5 (st' := (35, [(0, .ref 10), (1, .int x1), (2, .int x2), (3, .int x3)], [.int 1], wP pre (wN (PP s) (QQ s) op oq 1 (nI L.1) wi fa (nI k) st of F), 0)) rfl ?_
    refine mm_branch (mm_call_mono _ _) (c := (1 : Int32) ≤ 0) (s1 := (40, [(0, .ref 10), (1, .int x1), (2, .int x2), (3, .int x3)], [], wP pre (wN (PP s) (QQ s) op oq 1 (nI L.1) wi fa (nI k) st of F), 0)) (s2 := (38, [(0, .ref 10), (1, .int x1), (2, .int x2), (3, .int x3)], [], wP pre (wN (PP s) (QQ s) op oq 1 (nI L.1) wi fa (nI k) st of F), 0)) rfl (fun h => absurd h (by decide)) (fun _ => ?_)
    refine mm_skip (mm_call_mono _ _) 1 (st' := (39, [(0, .ref 10), (1, .int x1), (2, .int x2), (3, .int x3)], [.int 0], wP pre (wN (PP s) (QQ s) op oq 1 (nI L.1) wi fa (nI k) st of F), 0)) rfl ?_
    exact mm_ret (mm_call_mono _ _) (c := True) (r := .inl (some (.int 0))) (M := wP pre (wN (PP s) (QQ s) op oq 1 (nI L.1) wi fa (nI k) st of F)) (u := 0) rfl trivial (by decide) (hQ _ _ (1, 0) (if_neg (fun z => hx ⟨z.1, by have h := z.2.1; rw [hgv] at h; exact h⟩)) (fun _ _ => rfl) hR.2.2.2.2.1)

theorem ry_on {d : Nat} {pre : mm_pre} {s : Nat → fr} {op oq : Nat → Int64} {tr wi fa : Int32} {st of : Nat → Int32} {F : mm_M} {S : Nat → stp} {k : Nat} {L : lvR} {v : Nat → o3} {x1 x2 : Int32} {r : oc} {Q : mm_R → mm_M → Prop} (hk : k ≤ 24) (hS : ∀ i, i < k → stR st of S i) (hw : ∀ i, i < k → wf S i) (hR : rI S s k v L) (ea : qOn S k x1 x2 = r) (hQ : ∀ (s1 : Nat → fr) (w1 : Int32), (∀ j, j < 300 → s1 j = s j) → (∀ j, fv (s1 j)) → Q (.inl (some (.int (rv r)))) (wP pre (wN (PP s1) (QQ s1) op oq (nI r.1) (nI L.1) w1 fa (nI k) st of F))) : mm_call mm_Tb (d + 17) 110 [.ref 10, .int x1, .int x2] (wP pre (wN (PP s) (QQ s) op oq tr (nI L.1) wi fa (nI k) st of F)) Q := rx_on hk hS hw hR (fun s1 w1 r2 eb e1 e2 => by have ee := ea.symm.trans eb; subst ee; exact hQ s1 w1 e1 e2)
theorem ry_same {d : Nat} {pre : mm_pre} {s : Nat → fr} {op oq : Nat → Int64} {tr wi fa : Int32} {st of : Nat → Int32} {F : mm_M} {S : Nat → stp} {k : Nat} {L : lvR} {v : Nat → o3} {x1 x2 : Int32} {r : oc} {Q : mm_R → mm_M → Prop} (hk : k ≤ 24) (hS : ∀ i, i < k → stR st of S i) (hw : ∀ i, i < k → wf S i) (hR : rI S s k v L) (ea : qSame S k x1 x2 = r) (hQ : ∀ (s1 : Nat → fr) (w1 : Int32), (∀ j, j < 300 → s1 j = s j) → (∀ j, fv (s1 j)) → Q (.inl (some (.int (rv r)))) (wP pre (wN (PP s1) (QQ s1) op oq (nI r.1) (nI L.1) w1 fa (nI k) st of F))) : mm_call mm_Tb (d + 17) 111 [.ref 10, .int x1, .int x2] (wP pre (wN (PP s) (QQ s) op oq tr (nI L.1) wi fa (nI k) st of F)) Q := rx_same hk hS hw hR (fun s1 w1 r2 eb e1 e2 => by have ee := ea.symm.trans eb; subst ee; exact hQ s1 w1 e1 e2)
theorem ry_equal {d : Nat} {pre : mm_pre} {s : Nat → fr} {op oq : Nat → Int64} {tr wi fa : Int32} {st of : Nat → Int32} {F : mm_M} {S : Nat → stp} {k : Nat} {L : lvR} {v : Nat → o3} {x1 x2 x3 x4 : Int32} {r : oc} {Q : mm_R → mm_M → Prop} (hk : k ≤ 24) (hS : ∀ i, i < k → stR st of S i) (hw : ∀ i, i < k → wf S i) (hR : rI S s k v L) (ea : qEq S k x1 x2 x3 x4 = r) (hQ : ∀ (s1 : Nat → fr) (w1 : Int32), (∀ j, j < 300 → s1 j = s j) → (∀ j, fv (s1 j)) → Q (.inl (some (.int (rv r)))) (wP pre (wN (PP s1) (QQ s1) op oq (nI r.1) (nI L.1) w1 fa (nI k) st of F))) : mm_call mm_Tb (d + 17) 112 [.ref 10, .int x1, .int x2, .int x3, .int x4] (wP pre (wN (PP s) (QQ s) op oq tr (nI L.1) wi fa (nI k) st of F)) Q := rx_equal hk hS hw hR (fun s1 w1 r2 eb e1 e2 => by have ee := ea.symm.trans eb; subst ee; exact hQ s1 w1 e1 e2)
theorem ry_side {d : Nat} {pre : mm_pre} {s : Nat → fr} {op oq : Nat → Int64} {tr wi fa : Int32} {st of : Nat → Int32} {F : mm_M} {S : Nat → stp} {k : Nat} {L : lvR} {v : Nat → o3} {x1 x2 x3 : Int32} {r : oc} {Q : mm_R → mm_M → Prop} (hk : k ≤ 24) (hS : ∀ i, i < k → stR st of S i) (hw : ∀ i, i < k → wf S i) (hR : rI S s k v L) (ea : qSide S k x1 x2 x3 = r) (hQ : ∀ (s1 : Nat → fr) (w1 : Int32), (∀ j, j < 300 → s1 j = s j) → (∀ j, fv (s1 j)) → Q (.inl (some (.int (rv r)))) (wP pre (wN (PP s1) (QQ s1) op oq (nI r.1) (nI L.1) w1 fa (nI k) st of F))) : mm_call mm_Tb (d + 17) 114 [.ref 10, .int x1, .int x2, .int x3] (wP pre (wN (PP s) (QQ s) op oq tr (nI L.1) wi fa (nI k) st of F)) Q := rx_side hk hS hw hR (fun s1 w1 r2 eb e1 e2 => by have ee := ea.symm.trans eb; subst ee; exact hQ s1 w1 e1 e2)
theorem ry_sign {d : Nat} {pre : mm_pre} {s : Nat → fr} {op oq : Nat → Int64} {tr wi fa : Int32} {st of : Nat → Int32} {F : mm_M} {S : Nat → stp} {k : Nat} {L : lvR} {v : Nat → o3} {x1 x2 x3 : Int32} {r : oc} {Q : mm_R → mm_M → Prop} (hk : k ≤ 24) (hS : ∀ i, i < k → stR st of S i) (hw : ∀ i, i < k → wf S i) (hR : rI S s k v L) (ea : qSign S k x1 x2 x3 = r) (hQ : ∀ (s1 : Nat → fr) (w1 : Int32), (∀ j, j < 300 → s1 j = s j) → (∀ j, fv (s1 j)) → Q (.inl (some (.int (rv r)))) (wP pre (wN (PP s1) (QQ s1) op oq (nI r.1) (nI L.1) w1 fa (nI k) st of F))) : mm_call mm_Tb (d + 17) 115 [.ref 10, .int x1, .int x2, .int x3] (wP pre (wN (PP s) (QQ s) op oq tr (nI L.1) wi fa (nI k) st of F)) Q := rx_sign hk hS hw hR (fun s1 w1 r2 eb e1 e2 => by have ee := ea.symm.trans eb; subst ee; exact hQ s1 w1 e1 e2)
theorem ry_part0 {d : Nat} {pre : mm_pre} {s : Nat → fr} {op oq : Nat → Int64} {tr wi fa : Int32} {st of : Nat → Int32} {F : mm_M} {S : Nat → stp} {k : Nat} {L : lvR} {v : Nat → o3} {x1 x2 x3 x4 : Int32} {r : oc} {Q : mm_R → mm_M → Prop} (hy : x2 = 0) (hk : k ≤ 24) (hS : ∀ i, i < k → stR st of S i) (hw : ∀ i, i < k → wf S i) (hR : rI S s k v L) (ea : qPart S k x1 x2 x3 x4 = r) (hQ : ∀ (s1 : Nat → fr) (w1 : Int32), (∀ j, j < 300 → s1 j = s j) → (∀ j, fv (s1 j)) → Q (.inl (some (.int (rv r)))) (wP pre (wN (PP s1) (QQ s1) op oq (nI r.1) (nI L.1) w1 fa (nI k) st of F))) : mm_call mm_Tb (d + 17) 116 [.ref 10, .int x1, .int x2, .int x3, .int x4] (wP pre (wN (PP s) (QQ s) op oq tr (nI L.1) wi fa (nI k) st of F)) Q := rx_part0 hy hk hS hw hR (fun s1 w1 r2 eb e1 e2 => by have ee := ea.symm.trans eb; subst ee; exact hQ s1 w1 e1 e2)
theorem ry_part1 {d : Nat} {pre : mm_pre} {s : Nat → fr} {op oq : Nat → Int64} {tr wi fa : Int32} {st of : Nat → Int32} {F : mm_M} {S : Nat → stp} {k : Nat} {L : lvR} {v : Nat → o3} {x1 x2 x3 x4 : Int32} {r : oc} {Q : mm_R → mm_M → Prop} (hy : ¬ x2 = 0) (hk : k ≤ 24) (hS : ∀ i, i < k → stR st of S i) (hw : ∀ i, i < k → wf S i) (hR : rI S s k v L) (ea : qPart S k x1 x2 x3 x4 = r) (hQ : ∀ (s1 : Nat → fr) (w1 : Int32), (∀ j, j < 300 → s1 j = s j) → (∀ j, fv (s1 j)) → Q (.inl (some (.int (rv r)))) (wP pre (wN (PP s1) (QQ s1) op oq (nI r.1) (nI L.1) w1 fa (nI k) st of F))) : mm_call mm_Tb (d + 17) 116 [.ref 10, .int x1, .int x2, .int x3, .int x4] (wP pre (wN (PP s) (QQ s) op oq tr (nI L.1) wi fa (nI k) st of F)) Q := rx_part1 hy hk hS hw hR (fun s1 w1 r2 eb e1 e2 => by have ee := ea.symm.trans eb; subst ee; exact hQ s1 w1 e1 e2)
theorem ry_rad1 {d : Nat} {pre : mm_pre} {s : Nat → fr} {op oq : Nat → Int64} {tr wi fa : Int32} {st of : Nat → Int32} {F : mm_M} {S : Nat → stp} {k : Nat} {L : lvR} {v : Nat → o3} {x2 x3 : Int32} {r : oc} {Q : mm_R → mm_M → Prop} (hv : 1 ≤ L.1) (hk : k ≤ 24) (hS : ∀ i, i < k → stR st of S i) (hw : ∀ i, i < k → wf S i) (hR : rI S s k v L) (ea : qRad S k 1 x2 x3 = r) (hQ : ∀ (s1 : Nat → fr) (w1 : Int32), (∀ j, j < 300 → s1 j = s j) → (∀ j, fv (s1 j)) → Q (.inl (some (.int (rv r)))) (wP pre (wN (PP s1) (QQ s1) op oq (nI r.1) (nI L.1) w1 fa (nI k) st of F))) : mm_call mm_Tb (d + 17) 117 [.ref 10, .int 1, .int x2, .int x3] (wP pre (wN (PP s) (QQ s) op oq tr (nI L.1) wi fa (nI k) st of F)) Q := rx_rad1 hv hk hS hw hR (fun s1 w1 r2 eb e1 e2 => by have ee := ea.symm.trans eb; subst ee; exact hQ s1 w1 e1 e2)
theorem ry_rad2 {d : Nat} {pre : mm_pre} {s : Nat → fr} {op oq : Nat → Int64} {tr wi fa : Int32} {st of : Nat → Int32} {F : mm_M} {S : Nat → stp} {k : Nat} {L : lvR} {v : Nat → o3} {x2 x3 : Int32} {r : oc} {Q : mm_R → mm_M → Prop} (hv : 2 ≤ L.1) (hk : k ≤ 24) (hS : ∀ i, i < k → stR st of S i) (hw : ∀ i, i < k → wf S i) (hR : rI S s k v L) (ea : qRad S k 2 x2 x3 = r) (hQ : ∀ (s1 : Nat → fr) (w1 : Int32), (∀ j, j < 300 → s1 j = s j) → (∀ j, fv (s1 j)) → Q (.inl (some (.int (rv r)))) (wP pre (wN (PP s1) (QQ s1) op oq (nI r.1) (nI L.1) w1 fa (nI k) st of F))) : mm_call mm_Tb (d + 17) 117 [.ref 10, .int 2, .int x2, .int x3] (wP pre (wN (PP s) (QQ s) op oq tr (nI L.1) wi fa (nI k) st of F)) Q := rx_rad2 hv hk hS hw hR (fun s1 w1 r2 eb e1 e2 => by have ee := ea.symm.trans eb; subst ee; exact hQ s1 w1 e1 e2)
theorem ry_radX {d : Nat} {pre : mm_pre} {s : Nat → fr} {op oq : Nat → Int64} {tr wi fa : Int32} {st of : Nat → Int32} {F : mm_M} {S : Nat → stp} {k : Nat} {L : lvR} {v : Nat → o3} {x1 x2 x3 : Int32} {r : oc} {Q : mm_R → mm_M → Prop} (hx : ¬ (¬ x1 < 1 ∧ x1 ≤ nI L.1)) (hk : k ≤ 24) (hS : ∀ i, i < k → stR st of S i) (hw : ∀ i, i < k → wf S i) (hR : rI S s k v L) (ea : qRad S k x1 x2 x3 = r) (hQ : ∀ (s1 : Nat → fr) (w1 : Int32), (∀ j, j < 300 → s1 j = s j) → (∀ j, fv (s1 j)) → Q (.inl (some (.int (rv r)))) (wP pre (wN (PP s1) (QQ s1) op oq (nI r.1) (nI L.1) w1 fa (nI k) st of F))) : mm_call mm_Tb (d + 17) 117 [.ref 10, .int x1, .int x2, .int x3] (wP pre (wN (PP s) (QQ s) op oq tr (nI L.1) wi fa (nI k) st of F)) Q := rx_radX hx hk hS hw hR (fun s1 w1 r2 eb e1 e2 => by have ee := ea.symm.trans eb; subst ee; exact hQ s1 w1 e1 e2)
