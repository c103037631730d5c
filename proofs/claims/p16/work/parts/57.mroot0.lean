def nset (m : Nat) (x : Nat → fr) : Option n4 := nS m fun j => some (x j)
theorem set_f {s : Nat → fr} {wi : Int32} {a : Nat} {x : fr} (X : isM s wi 1 a (fun _ => x)) : wi = 0 → (some (s a)).map em = (some x).map em := fun h0 => by rw [isM_0 X h0]
theorem m_hi1 {s : Nat → fr} {wi : Int32} {m a : Nat} {x : Nat → fr} (H : isM s wi m a x) (k : Nat) (hm : k + 1 ≤ m) : isM s wi 1 (a + k) (fun _ => x k) := fun h0 j hj => by
  rw [show a + k + j = a + k by omega]; exact H h0 k (by omega)
/-- cells made 0 / 1 -/
def clM (s : Nat → fr) (D f : Nat) (s1 : Nat → fr) : Prop := (∀ k, fv (s1 k)) ∧ (∀ k, ¬ (D + f ≤ k ∧ k < D + 4) → s1 k = s k) ∧ ∀ j, f ≤ j → j < 4 → s1 (D + j) = z0
theorem clM_0 {s : Nat → fr} {D : Nat} (hV : ∀ k, fv (s k)) : clM s D 4 s := ⟨hV, fun _ _ => rfl, fun j h1 h2 => absurd h2 (by omega)⟩
abbrev iszm (n : Nat) (s : Nat → fr) (A : Nat) : Prop := ∀ j, j < n → (s (A + j)).1 = 0
abbrev alm (s : Nat → fr) (A B : Nat) : Prop := ∀ j, j < 4 → s (A + j) = s (B + j)
theorem cz {s : Nat → fr} {k : Nat} (hV : ∀ k, fv (s k)) : (lg_cmp (PP s k) 0 = 0) ↔ (s k).1 = 0 := c0.1.trans (by rw [pp_i (hV k)])
theorem ceP {s : Nat → fr} {a b : Nat} (hV : ∀ k, fv (s k)) : (lg_cmp (PP s a) (PP s b) = 0) ↔ (s a).1 = (s b).1 := (lg_cmp_eq _ _).trans (Int64.toInt_inj.symm.trans (by rw [pp_i (hV a), pp_i (hV b)]))
theorem ceQ {s : Nat → fr} {a b : Nat} (hV : ∀ k, fv (s k)) : (lg_cmp (QQ s a) (QQ s b) = 0) ↔ (s a).2 = (s b).2 := (lg_cmp_eq _ _).trans (Int64.toInt_inj.symm.trans (by rw [qq_i (hV a), qq_i (hV b)]))
set_option maxRecDepth 100000 in
theorem rm_set_1 {d : Nat} {pre : mm_pre} {s : Nat → fr} {op oq : Nat → Int64} {tr dp wi fa ob : Int32} {st of : Nat → Int32} {F : mm_M} {D A : Nat} {x : Nat → fr} {Q : mm_R → mm_M → Prop} (hV : ∀ k, fv (s k)) (hz : mm_z wi) (hg : D + 1 ≤ 480 ∧ (D + 1 ≤ 299 ∨ 300 ≤ D) ∧ A + 1 ≤ 480 ∧ (A + 1 ≤ D ∨ D + 1 ≤ A)) (X : isM s wi 1 A x) (hQ : ∀ (s1 : Nat → fr) (w1 : Int32), mR s wi 300 D 1 (nset 1 x) s1 w1 → Q (.inl none) (wP pre (wN (PP s1) (QQ s1) op oq tr dp w1 fa ob st of F))) : mm_call mm_Tb (d + 1) 58 [.ref 10, .int (nI D), .int (nI A), .int 1] (wP pre (wN (PP s) (QQ s) op oq tr dp wi fa ob st of F)) Q := by
  have X0_0 := m_hi1 X 0 (by omega)
  refine mm_in mt_58 (Nat.le_of_ble_eq_true rfl) ?_
  show mm_W _ _ _ _ _ _ _ (0, [(0, .ref 10), (1, .int (nI D)), (2, .int (nI A)), (3, .int 1)], [], wP pre (wN (PP s) (QQ s) op oq tr dp wi fa ob st of F), 0)
  refine mm_skip (mm_call_mono _ _) 2 (st' := (3, [(4, .int 0), (0, .ref 10), (1, .int (nI D)), (2, .int (nI A)), (3, .int 1)], [], wP pre (wN (PP s) (QQ s) op oq tr dp wi fa ob st of F), 0)) rfl ?_
  show mm_W _ _ _ _ _ _ _ (3, [(4, .int 0), (0, .ref 10), (1, .int (nI D)), (2, .int (nI A)), (3, .int 1)], [], wP pre (wN (PP s) (QQ s) op oq tr dp wi fa ob st of F), 0)
  refine mm_skip (mm_call_mono _ _) 2 (st' := (6, [(4, .int 0), (0, .ref 10), (1, .int (nI D)), (2, .int (nI A)), (3, .int 1)], [.int 1, .int 0], wP pre (wN (PP s) (QQ s) op oq tr dp wi fa ob st of F), 0)) rfl ?_
  refine mm_branch (mm_call_mono _ _) (c := (1 : Int32) ≤ 0) (s1 := (51, [(4, .int 0), (0, .ref 10), (1, .int (nI D)), (2, .int (nI A)), (3, .int 1)], [], wP pre (wN (PP s) (QQ s) op oq tr dp wi fa ob st of F), 0)) (s2 := (9, [(4, .int 0), (0, .ref 10), (1, .int (nI D)), (2, .int (nI A)), (3, .int 1)], [], wP pre (wN (PP s) (QQ s) op oq tr dp wi fa ob st of F), 0)) rfl (fun h => absurd h (by decide)) (fun _ => ?_)
  refine mm_skip (mm_call_mono _ _) 10 (st' := (25, [(4, .int 0), (0, .ref 10), (1, .int (nI D)), (2, .int (nI A)), (3, .int 1)], [.int ((nI A) + 0), .ref 11, .int ((nI D) + 0), .ref 11], wP pre (wN (PP s) (QQ s) op oq tr dp wi fa ob st of F), 0)) rfl ?_
  rw [nI_p0 (A)]
  rw [nI_p0 (D)]
  show mm_W _ _ _ _ _ _ _ (25, [(4, .int 0), (0, .ref 10), (1, .int (nI D)), (2, .int (nI A)), (3, .int 1)], [.int (nI A), .ref 11, .int (nI D), .ref 11], wP pre (wN (PP s) (QQ s) op oq tr dp wi fa ob st of F), 0)
  refine mm_need (mm_call_mono _ _) (c := vp_in (nI A) 480) (s' := (26, [(4, .int 0), (0, .ref 10), (1, .int (nI D)), (2, .int (nI A)), (3, .int 1)], [.long ((PP s) (Int32.toNatClampNeg (nI A))), .int (nI D), .ref 11], wP pre (wN (PP s) (QQ s) op oq tr dp wi fa ob st of F), 0)) rfl (vp_in_nI (show A < 480 by omega) (by decide)) ?_
  rw [nI_clamp (show A < 2 ^ 31 by omega)]
  show mm_W _ _ _ _ _ _ _ (26, [(4, .int 0), (0, .ref 10), (1, .int (nI D)), (2, .int (nI A)), (3, .int 1)], [.long ((PP s) A), .int (nI D), .ref 11], wP pre (wN (PP s) (QQ s) op oq tr dp wi fa ob st of F), 0)
  refine mm_need (mm_call_mono _ _) (c := vp_in (nI D) 480) (s' := (27, [(4, .int 0), (0, .ref 10), (1, .int (nI D)), (2, .int (nI A)), (3, .int 1)], [], wP pre (wN (vp_updL (PP s) (Int32.toNatClampNeg (nI D)) ((PP s) A)) (QQ s) op oq tr dp wi fa ob st of F), 0)) rfl (vp_in_nI (show D < 480 by omega) (by decide)) ?_
  rw [nI_clamp (show D < 2 ^ 31 by omega)]
  show mm_W _ _ _ _ _ _ _ (27, [(4, .int 0), (0, .ref 10), (1, .int (nI D)), (2, .int (nI A)), (3, .int 1)], [], wP pre (wN (vp_updL (PP s) D ((PP s) A)) (QQ s) op oq tr dp wi fa ob st of F), 0)
  refine mm_skip (mm_call_mono _ _) 10 (st' := (43, [(4, .int 0), (0, .ref 10), (1, .int (nI D)), (2, .int (nI A)), (3, .int 1)], [.int ((nI A) + 0), .ref 12, .int ((nI D) + 0), .ref 12], wP pre (wN (vp_updL (PP s) D ((PP s) A)) (QQ s) op oq tr dp wi fa ob st of F), 0)) rfl ?_
  rw [nI_p0 (A)]
  rw [nI_p0 (D)]
  show mm_W _ _ _ _ _ _ _ (43, [(4, .int 0), (0, .ref 10), (1, .int (nI D)), (2, .int (nI A)), (3, .int 1)], [.int (nI A), .ref 12, .int (nI D), .ref 12], wP pre (wN (vp_updL (PP s) D ((PP s) A)) (QQ s) op oq tr dp wi fa ob st of F), 0)
  refine mm_need (mm_call_mono _ _) (c := vp_in (nI A) 480) (s' := (44, [(4, .int 0), (0, .ref 10), (1, .int (nI D)), (2, .int (nI A)), (3, .int 1)], [.long ((QQ s) (Int32.toNatClampNeg (nI A))), .int (nI D), .ref 12], wP pre (wN (vp_updL (PP s) D ((PP s) A)) (QQ s) op oq tr dp wi fa ob st of F), 0)) rfl (vp_in_nI (show A < 480 by omega) (by decide)) ?_
  rw [nI_clamp (show A < 2 ^ 31 by omega)]
  show mm_W _ _ _ _ _ _ _ (44, [(4, .int 0), (0, .ref 10), (1, .int (nI D)), (2, .int (nI A)), (3, .int 1)], [.long ((QQ s) A), .int (nI D), .ref 12], wP pre (wN (vp_updL (PP s) D ((PP s) A)) (QQ s) op oq tr dp wi fa ob st of F), 0)
  refine mm_need (mm_call_mono _ _) (c := vp_in (nI D) 480) (s' := (45, [(4, .int 0), (0, .ref 10), (1, .int (nI D)), (2, .int (nI A)), (3, .int 1)], [], wP pre (wN (vp_updL (PP s) D ((PP s) A)) (vp_updL (QQ s) (Int32.toNatClampNeg (nI D)) ((QQ s) A)) op oq tr dp wi fa ob st of F), 0)) rfl (vp_in_nI (show D < 480 by omega) (by decide)) ?_
  rw [nI_clamp (show D < 2 ^ 31 by omega)]
  show mm_W _ _ _ _ _ _ _ (45, [(4, .int 0), (0, .ref 10), (1, .int (nI D)), (2, .int (nI A)), (3, .int 1)], [], wP pre (wN (vp_updL (PP s) D ((PP s) A)) (vp_updL (QQ s) D ((QQ s) A)) op oq tr dp wi fa ob st of F), 0)
  refine mm_skip (mm_call_mono _ _) 2 (st' := (3, [(4, .int 1), (0, .ref 10), (1, .int (nI D)), (2, .int (nI A)), (3, .int 1)], [], wP pre (wN (vp_updL (PP s) D ((PP s) A)) (vp_updL (QQ s) D ((QQ s) A)) op oq tr dp wi fa ob st of F), 0)) rfl ?_
  rw [pp_v (s := s) (d := D) (x := s A) (pp_i (hV A)), qq_v (s := s) (d := D) (x := s A) (qq_i (hV A))]
  have h1 := mput_ok (d := D) hV hz (show some (s A) = some _ from rfl) (hV A)
  generalize up s D (s A) = s1 at h1 ⊢
  show mm_W _ _ _ _ _ _ _ (3, [(4, .int 1), (0, .ref 10), (1, .int (nI D)), (2, .int (nI A)), (3, .int 1)], [], wP pre (wN (PP s1) (QQ s1) op oq tr dp wi fa ob st of F), 0)
  refine mm_skip (mm_call_mono _ _) 2 (st' := (6, [(4, .int 1), (0, .ref 10), (1, .int (nI D)), (2, .int (nI A)), (3, .int 1)], [.int 1, .int 1], wP pre (wN (PP s1) (QQ s1) op oq tr dp wi fa ob st of F), 0)) rfl ?_
  refine mm_branch (mm_call_mono _ _) (c := (1 : Int32) ≤ 1) (s1 := (51, [(4, .int 1), (0, .ref 10), (1, .int (nI D)), (2, .int (nI A)), (3, .int 1)], [], wP pre (wN (PP s1) (QQ s1) op oq tr dp wi fa ob st of F), 0)) (s2 := (9, [(4, .int 1), (0, .ref 10), (1, .int (nI D)), (2, .int (nI A)), (3, .int 1)], [], wP pre (wN (PP s1) (QQ s1) op oq tr dp wi fa ob st of F), 0)) rfl (fun _ => ?_) (fun h => absurd (by decide) h)
  exact mm_ret (mm_call_mono _ _) (c := True) (r := .inl none) (M := wP pre (wN (PP s1) (QQ s1) op oq tr dp wi fa ob st of F)) (u := 0) rfl trivial (by decide) (hQ _ _ (mR_T h1 (set_f X0_0)))

set_option maxRecDepth 100000 in
theorem rm_set_2 {d : Nat} {pre : mm_pre} {s : Nat → fr} {op oq : Nat → Int64} {tr dp wi fa ob : Int32} {st of : Nat → Int32} {F : mm_M} {D A : Nat} {x : Nat → fr} {Q : mm_R → mm_M → Prop} (hV : ∀ k, fv (s k)) (hz : mm_z wi) (hg : D + 2 ≤ 480 ∧ (D + 2 ≤ 299 ∨ 300 ≤ D) ∧ A + 2 ≤ 480 ∧ (A + 2 ≤ D ∨ D + 2 ≤ A)) (X : isM s wi 2 A x) (hQ : ∀ (s1 : Nat → fr) (w1 : Int32), mR s wi 300 D 2 (nset 2 x) s1 w1 → Q (.inl none) (wP pre (wN (PP s1) (QQ s1) op oq tr dp w1 fa ob st of F))) : mm_call mm_Tb (d + 1) 58 [.ref 10, .int (nI D), .int (nI A), .int 2] (wP pre (wN (PP s) (QQ s) op oq tr dp wi fa ob st of F)) Q := by
  have X0_0 := m_hi1 X 0 (by omega)
  have X1_0 := m_hi1 X 1 (by omega)
  refine mm_in mt_58 (Nat.le_of_ble_eq_true rfl) ?_
  show mm_W _ _ _ _ _ _ _ (0, [(0, .ref 10), (1, .int (nI D)), (2, .int (nI A)), (3, .int 2)], [], wP pre (wN (PP s) (QQ s) op oq tr dp wi fa ob st of F), 0)
  refine mm_skip (mm_call_mono _ _) 2 (st' := (3, [(4, .int 0), (0, .ref 10), (1, .int (nI D)), (2, .int (nI A)), (3, .int 2)], [], wP pre (wN (PP s) (QQ s) op oq tr dp wi fa ob st of F), 0)) rfl ?_
  show mm_W _ _ _ _ _ _ _ (3, [(4, .int 0), (0, .ref 10), (1, .int (nI D)), (2, .int (nI A)), (3, .int 2)], [], wP pre (wN (PP s) (QQ s) op oq tr dp wi fa ob st of F), 0)
  refine mm_skip (mm_call_mono _ _) 2 (st' := (6, [(4, .int 0), (0, .ref 10), (1, .int (nI D)), (2, .int (nI A)), (3, .int 2)], [.int 2, .int 0], wP pre (wN (PP s) (QQ s) op oq tr dp wi fa ob st of F), 0)) rfl ?_
  refine mm_branch (mm_call_mono _ _) (c := (2 : Int32) ≤ 0) (s1 := (51, [(4, .int 0), (0, .ref 10), (1, .int (nI D)), (2, .int (nI A)), (3, .int 2)], [], wP pre (wN (PP s) (QQ s) op oq tr dp wi fa ob st of F), 0)) (s2 := (9, [(4, .int 0), (0, .ref 10), (1, .int (nI D)), (2, .int (nI A)), (3, .int 2)], [], wP pre (wN (PP s) (QQ s) op oq tr dp wi fa ob st of F), 0)) rfl (fun h => absurd h (by decide)) (fun _ => ?_)
  refine mm_skip (mm_call_mono _ _) 10 (st' := (25, [(4, .int 0), (0, .ref 10), (1, .int (nI D)), (2, .int (nI A)), (3, .int 2)], [.int ((nI A) + 0), .ref 11, .int ((nI D) + 0), .ref 11], wP pre (wN (PP s) (QQ s) op oq tr dp wi fa ob st of F), 0)) rfl ?_
  rw [nI_p0 (A)]
  rw [nI_p0 (D)]
  show mm_W _ _ _ _ _ _ _ (25, [(4, .int 0), (0, .ref 10), (1, .int (nI D)), (2, .int (nI A)), (3, .int 2)], [.int (nI A), .ref 11, .int (nI D), .ref 11], wP pre (wN (PP s) (QQ s) op oq tr dp wi fa ob st of F), 0)
  refine mm_need (mm_call_mono _ _) (c := vp_in (nI A) 480) (s' := (26, [(4, .int 0), (0, .ref 10), (1, .int (nI D)), (2, .int (nI A)), (3, .int 2)], [.long ((PP s) (Int32.toNatClampNeg (nI A))), .int (nI D), .ref 11], wP pre (wN (PP s) (QQ s) op oq tr dp wi fa ob st of F), 0)) rfl (vp_in_nI (show A < 480 by omega) (by decide)) ?_
  rw [nI_clamp (show A < 2 ^ 31 by omega)]
  show mm_W _ _ _ _ _ _ _ (26, [(4, .int 0), (0, .ref 10), (1, .int (nI D)), (2, .int (nI A)), (3, .int 2)], [.long ((PP s) A), .int (nI D), .ref 11], wP pre (wN (PP s) (QQ s) op oq tr dp wi fa ob st of F), 0)
  refine mm_need (mm_call_mono _ _) (c := vp_in (nI D) 480) (s' := (27, [(4, .int 0), (0, .ref 10), (1, .int (nI D)), (2, .int (nI A)), (3, .int 2)], [], wP pre (wN (vp_updL (PP s) (Int32.toNatClampNeg (nI D)) ((PP s) A)) (QQ s) op oq tr dp wi fa ob st of F), 0)) rfl (vp_in_nI (show D < 480 by omega) (by decide)) ?_
  rw [nI_clamp (show D < 2 ^ 31 by omega)]
  show mm_W _ _ _ _ _ _ _ (27, [(4, .int 0), (0, .ref 10), (1, .int (nI D)), (2, .int (nI A)), (3, .int 2)], [], wP pre (wN (vp_updL (PP s) D ((PP s) A)) (QQ s) op oq tr dp wi fa ob st of F), 0)
  refine mm_skip (mm_call_mono _ _) 10 (st' := (43, [(4, .int 0), (0, .ref 10), (1, .int (nI D)), (2, .int (nI A)), (3, .int 2)], [.int ((nI A) + 0), .ref 12, .int ((nI D) + 0), .ref 12], wP pre (wN (vp_updL (PP s) D ((PP s) A)) (QQ s) op oq tr dp wi fa ob st of F), 0)) rfl ?_
  rw [nI_p0 (A)]
  rw [nI_p0 (D)]
  show mm_W _ _ _ _ _ _ _ (43, [(4, .int 0), (0, .ref 10), (1, .int (nI D)), (2, .int (nI A)), (3, .int 2)], [.int (nI A), .ref 12, .int (nI D), .ref 12], wP pre (wN (vp_updL (PP s) D ((PP s) A)) (QQ s) op oq tr dp wi fa ob st of F), 0)
  refine mm_need (mm_call_mono _ _) (c := vp_in (nI A) 480) (s' := (44, [(4, .int 0), (0, .ref 10), (1, .int (nI D)), (2, .int (nI A)), (3, .int 2)], [.long ((QQ s) (Int32.toNatClampNeg (nI A))), .int (nI D), .ref 12], wP pre (wN (vp_updL (PP s) D ((PP s) A)) (QQ s) op oq tr dp wi fa ob st of F), 0)) rfl (vp_in_nI (show A < 480 by omega) (by decide)) ?_
  rw [nI_clamp (show A < 2 ^ 31 by omega)]
  show mm_W _ _ _ _ _ _ _ (44, [(4, .int 0), (0, .ref 10), (1, .int (nI D)), (2, .int (nI A)), (3, .int 2)], [.long ((QQ s) A), .int (nI D), .ref 12], wP pre (wN (vp_updL (PP s) D ((PP s) A)) (QQ s) op oq tr dp wi fa ob st of F), 0)
  refine mm_need (mm_call_mono _ _) (c := vp_in (nI D) 480) (s' := (45, [(4, .int 0), (0, .ref 10), (1, .int (nI D)), (2, .int (nI A)), (3, .int 2)], [], wP pre (wN (vp_updL (PP s) D ((PP s) A)) (vp_updL (QQ s) (Int32.toNatClampNeg (nI D)) ((QQ s) A)) op oq tr dp wi fa ob st of F), 0)) rfl (vp_in_nI (show D < 480 by omega) (by decide)) ?_
  rw [nI_clamp (show D < 2 ^ 31 by omega)]
  show mm_W _ _ _ _ _ _ _ (45, [(4, .int 0), (0, .ref 10), (1, .int (nI D)), (2, .int (nI A)), (3, .int 2)], [], wP pre (wN (vp_updL (PP s) D ((PP s) A)) (vp_updL (QQ s) D ((QQ s) A)) op oq tr dp wi fa ob st of F), 0)
  refine mm_skip (mm_call_mono _ _) 2 (st' := (3, [(4, .int 1), (0, .ref 10), (1, .int (nI D)), (2, .int (nI A)), (3, .int 2)], [], wP pre (wN (vp_updL (PP s) D ((PP s) A)) (vp_updL (QQ s) D ((QQ s) A)) op oq tr dp wi fa ob st of F), 0)) rfl ?_
  rw [pp_v (s := s) (d := D) (x := s A) (pp_i (hV A)), qq_v (s := s) (d := D) (x := s A) (qq_i (hV A))]
  have h1 := mput_ok (d := D) hV hz (show some (s A) = some _ from rfl) (hV A)
  generalize up s D (s A) = s1 at h1 ⊢
  have X1_1 := m_k X1_0 h1 (by omega)
  show mm_W _ _ _ _ _ _ _ (3, [(4, .int 1), (0, .ref 10), (1, .int (nI D)), (2, .int (nI A)), (3, .int 2)], [], wP pre (wN (PP s1) (QQ s1) op oq tr dp wi fa ob st of F), 0)
  refine mm_skip (mm_call_mono _ _) 2 (st' := (6, [(4, .int 1), (0, .ref 10), (1, .int (nI D)), (2, .int (nI A)), (3, .int 2)], [.int 2, .int 1], wP pre (wN (PP s1) (QQ s1) op oq tr dp wi fa ob st of F), 0)) rfl ?_
  refine mm_branch (mm_call_mono _ _) (c := (2 : Int32) ≤ 1) (s1 := (51, [(4, .int 1), (0, .ref 10), (1, .int (nI D)), (2, .int (nI A)), (3, .int 2)], [], wP pre (wN (PP s1) (QQ s1) op oq tr dp wi fa ob st of F), 0)) (s2 := (9, [(4, .int 1), (0, .ref 10), (1, .int (nI D)), (2, .int (nI A)), (3, .int 2)], [], wP pre (wN (PP s1) (QQ s1) op oq tr dp wi fa ob st of F), 0)) rfl (fun h => absurd h (by decide)) (fun _ => ?_)
  refine mm_skip (mm_call_mono _ _) 10 (st' := (25, [(4, .int 1), (0, .ref 10), (1, .int (nI D)), (2, .int (nI A)), (3, .int 2)], [.int ((nI A) + 1), .ref 11, .int ((nI D) + 1), .ref 11], wP pre (wN (PP s1) (QQ s1) op oq tr dp wi fa ob st of F), 0)) rfl ?_
  rw [nI_p1 (A)]
  rw [nI_p1 (D)]
  show mm_W _ _ _ _ _ _ _ (25, [(4, .int 1), (0, .ref 10), (1, .int (nI D)), (2, .int (nI A)), (3, .int 2)], [.int (nI (A + 1)), .ref 11, .int (nI (D + 1)), .ref 11], wP pre (wN (PP s1) (QQ s1) op oq tr dp wi fa ob st of F), 0)
  refine mm_need (mm_call_mono _ _) (c := vp_in (nI (A + 1)) 480) (s' := (26, [(4, .int 1), (0, .ref 10), (1, .int (nI D)), (2, .int (nI A)), (3, .int 2)], [.long ((PP s1) (Int32.toNatClampNeg (nI (A + 1)))), .int (nI (D + 1)), .ref 11], wP pre (wN (PP s1) (QQ s1) op oq tr dp wi fa ob st of F), 0)) rfl (vp_in_nI (show (A + 1) < 480 by omega) (by decide)) ?_
  rw [nI_clamp (show (A + 1) < 2 ^ 31 by omega)]
  show mm_W _ _ _ _ _ _ _ (26, [(4, .int 1), (0, .ref 10), (1, .int (nI D)), (2, .int (nI A)), (3, .int 2)], [.long ((PP s1) (A + 1)), .int (nI (D + 1)), .ref 11], wP pre (wN (PP s1) (QQ s1) op oq tr dp wi fa ob st of F), 0)
  refine mm_need (mm_call_mono _ _) (c := vp_in (nI (D + 1)) 480) (s' := (27, [(4, .int 1), (0, .ref 10), (1, .int (nI D)), (2, .int (nI A)), (3, .int 2)], [], wP pre (wN (vp_updL (PP s1) (Int32.toNatClampNeg (nI (D + 1))) ((PP s1) (A + 1))) (QQ s1) op oq tr dp wi fa ob st of F), 0)) rfl (vp_in_nI (show (D + 1) < 480 by omega) (by decide)) ?_
  rw [nI_clamp (show (D + 1) < 2 ^ 31 by omega)]
  show mm_W _ _ _ _ _ _ _ (27, [(4, .int 1), (0, .ref 10), (1, .int (nI D)), (2, .int (nI A)), (3, .int 2)], [], wP pre (wN (vp_updL (PP s1) (D + 1) ((PP s1) (A + 1))) (QQ s1) op oq tr dp wi fa ob st of F), 0)
  refine mm_skip (mm_call_mono _ _) 10 (st' := (43, [(4, .int 1), (0, .ref 10), (1, .int (nI D)), (2, .int (nI A)), (3, .int 2)], [.int ((nI A) + 1), .ref 12, .int ((nI D) + 1), .ref 12], wP pre (wN (vp_updL (PP s1) (D + 1) ((PP s1) (A + 1))) (QQ s1) op oq tr dp wi fa ob st of F), 0)) rfl ?_
  rw [nI_p1 (A)]
  rw [nI_p1 (D)]
  show mm_W _ _ _ _ _ _ _ (43, [(4, .int 1), (0, .ref 10), (1, .int (nI D)), (2, .int (nI A)), (3, .int 2)], [.int (nI (A + 1)), .ref 12, .int (nI (D + 1)), .ref 12], wP pre (wN (vp_updL (PP s1) (D + 1) ((PP s1) (A + 1))) (QQ s1) op oq tr dp wi fa ob st of F), 0)
  refine mm_need (mm_call_mono _ _) (c := vp_in (nI (A + 1)) 480) (s' := (44, [(4, .int 1), (0, .ref 10), (1, .int (nI D)), (2, .int (nI A)), (3, .int 2)], [.long ((QQ s1) (Int32.toNatClampNeg (nI (A + 1)))), .int (nI (D + 1)), .ref 12], wP pre (wN (vp_updL (PP s1) (D + 1) ((PP s1) (A + 1))) (QQ s1) op oq tr dp wi fa ob st of F), 0)) rfl (vp_in_nI (show (A + 1) < 480 by omega) (by decide)) ?_
  rw [nI_clamp (show (A + 1) < 2 ^ 31 by omega)]
  show mm_W _ _ _ _ _ _ _ (44, [(4, .int 1), (0, .ref 10), (1, .int (nI D)), (2, .int (nI A)), (3, .int 2)], [.long ((QQ s1) (A + 1)), .int (nI (D + 1)), .ref 12], wP pre (wN (vp_updL (PP s1) (D + 1) ((PP s1) (A + 1))) (QQ s1) op oq tr dp wi fa ob st of F), 0)
  refine mm_need (mm_call_mono _ _) (c := vp_in (nI (D + 1)) 480) (s' := (45, [(4, .int 1), (0, .ref 10), (1, .int (nI D)), (2, .int (nI A)), (3, .int 2)], [], wP pre (wN (vp_updL (PP s1) (D + 1) ((PP s1) (A + 1))) (vp_updL (QQ s1) (Int32.toNatClampNeg (nI (D + 1))) ((QQ s1) (A + 1))) op oq tr dp wi fa ob st of F), 0)) rfl (vp_in_nI (show (D + 1) < 480 by omega) (by decide)) ?_
  rw [nI_clamp (show (D + 1) < 2 ^ 31 by omega)]
  show mm_W _ _ _ _ _ _ _ (45, [(4, .int 1), (0, .ref 10), (1, .int (nI D)), (2, .int (nI A)), (3, .int 2)], [], wP pre (wN (vp_updL (PP s1) (D + 1) ((PP s1) (A + 1))) (vp_updL (QQ s1) (D + 1) ((QQ s1) (A + 1))) op oq tr dp wi fa ob st of F), 0)
  refine mm_skip (mm_call_mono _ _) 2 (st' := (3, [(4, .int 2), (0, .ref 10), (1, .int (nI D)), (2, .int (nI A)), (3, .int 2)], [], wP pre (wN (vp_updL (PP s1) (D + 1) ((PP s1) (A + 1))) (vp_updL (QQ s1) (D + 1) ((QQ s1) (A + 1))) op oq tr dp wi fa ob st of F), 0)) rfl ?_
  rw [pp_v (s := s1) (d := (D + 1)) (x := s1 (A + 1)) (pp_i (h1.1 (A + 1))), qq_v (s := s1) (d := (D + 1)) (x := s1 (A + 1)) (qq_i (h1.1 (A + 1)))]
  have h2 := mput_ok (d := (D + 1)) h1.1 hz (show some (s1 (A + 1)) = some _ from rfl) (h1.1 (A + 1))
  generalize up s1 (D + 1) (s1 (A + 1)) = s2 at h2 ⊢
  show mm_W _ _ _ _ _ _ _ (3, [(4, .int 2), (0, .ref 10), (1, .int (nI D)), (2, .int (nI A)), (3, .int 2)], [], wP pre (wN (PP s2) (QQ s2) op oq tr dp wi fa ob st of F), 0)
  refine mm_skip (mm_call_mono _ _) 2 (st' := (6, [(4, .int 2), (0, .ref 10), (1, .int (nI D)), (2, .int (nI A)), (3, .int 2)], [.int 2, .int 2], wP pre (wN (PP s2) (QQ s2) op oq tr dp wi fa ob st of F), 0)) rfl ?_
  refine mm_branch (mm_call_mono _ _) (c := (2 : Int32) ≤ 2) (s1 := (51, [(4, .int 2), (0, .ref 10), (1, .int (nI D)), (2, .int (nI A)), (3, .int 2)], [], wP pre (wN (PP s2) (QQ s2) op oq tr dp wi fa ob st of F), 0)) (s2 := (9, [(4, .int 2), (0, .ref 10), (1, .int (nI D)), (2, .int (nI A)), (3, .int 2)], [], wP pre (wN (PP s2) (QQ s2) op oq tr dp wi fa ob st of F), 0)) rfl (fun _ => ?_) (fun h => absurd (by decide) h)
  exact mm_ret (mm_call_mono _ _) (c := True) (r := .inl none) (M := wP pre (wN (PP s2) (QQ s2) op oq tr dp wi fa ob st of F)) (u := 0) rfl trivial (by decide) (hQ _ _ (vec_2 (f := (fun j => some (x j))) (mR_T h1 (set_f X0_0)) (mR_T h2 (set_f X1_1))))

set_option maxRecDepth 100000 in
theorem rm_set_4 {d : Nat} {pre : mm_pre} {s : Nat → fr} {op oq : Nat → Int64} {tr dp wi fa ob : Int32} {st of : Nat → Int32} {F : mm_M} {D A : Nat} {x : Nat → fr} {Q : mm_R → mm_M → Prop} (hV : ∀ k, fv (s k)) (hz : mm_z wi) (hg : D + 4 ≤ 480 ∧ (D + 4 ≤ 299 ∨ 300 ≤ D) ∧ A + 4 ≤ 480 ∧ (A + 4 ≤ D ∨ D + 4 ≤ A)) (X : isM s wi 4 A x) (hQ : ∀ (s1 : Nat → fr) (w1 : Int32), mR s wi 300 D 4 (nset 4 x) s1 w1 → Q (.inl none) (wP pre (wN (PP s1) (QQ s1) op oq tr dp w1 fa ob st of F))) : mm_call mm_Tb (d + 1) 58 [.ref 10, .int (nI D), .int (nI A), .int 4] (wP pre (wN (PP s) (QQ s) op oq tr dp wi fa ob st of F)) Q := by
  have X0_0 := m_hi1 X 0 (by omega)
  have X1_0 := m_hi1 X 1 (by omega)
  have X2_0 := m_hi1 X 2 (by omega)
  have X3_0 := m_hi1 X 3 (by omega)
  refine mm_in mt_58 (Nat.le_of_ble_eq_true rfl) ?_
  show mm_W _ _ _ _ _ _ _ (0, [(0, .ref 10), (1, .int (nI D)), (2, .int (nI A)), (3, .int 4)], [], wP pre (wN (PP s) (QQ s) op oq tr dp wi fa ob st of F), 0)
  refine mm_skip (mm_call_mono _ _) 2 (st' := (3, [(4, .int 0), (0, .ref 10), (1, .int (nI D)), (2, .int (nI A)), (3, .int 4)], [], wP pre (wN (PP s) (QQ s) op oq tr dp wi fa ob st of F), 0)) rfl ?_
  show mm_W _ _ _ _ _ _ _ (3, [(4, .int 0), (0, .ref 10), (1, .int (nI D)), (2, .int (nI A)), (3, .int 4)], [], wP pre (wN (PP s) (QQ s) op oq tr dp wi fa ob st of F), 0)
  refine mm_skip (mm_call_mono _ _) 2 (st' := (6, [(4, .int 0), (0, .ref 10), (1, .int (nI D)), (2, .int (nI A)), (3, .int 4)], [.int 4, .int 0], wP pre (wN (PP s) (QQ s) op oq tr dp wi fa ob st of F), 0)) rfl ?_
  refine mm_branch (mm_call_mono _ _) (c := (4 : Int32) ≤ 0) (s1 := (51, [(4, .int 0), (0, .ref 10), (1, .int (nI D)), (2, .int (nI A)), (3, .int 4)], [], wP pre (wN (PP s) (QQ s) op oq tr dp wi fa ob st of F), 0)) (s2 := (9, [(4, .int 0), (0, .ref 10), (1, .int (nI D)), (2, .int (nI A)), (3, .int 4)], [], wP pre (wN (PP s) (QQ s) op oq tr dp wi fa ob st of F), 0)) rfl (fun h => absurd h (by decide)) (fun _ => ?_)
  refine mm_skip (mm_call_mono _ _) 10 (st' := (25, [(4, .int 0), (0, .ref 10), (1, .int (nI D)), (2, .int (nI A)), (3, .int 4)], [.int ((nI A) + 0), .ref 11, .int ((nI D) + 0), .ref 11], wP pre (wN (PP s) (QQ s) op oq tr dp wi fa ob st of F), 0)) rfl ?_
  rw [nI_p0 (A)]
  rw [nI_p0 (D)]
  show mm_W _ _ _ _ _ _ _ (25, [(4, .int 0), (0, .ref 10), (1, .int (nI D)), (2, .int (nI A)), (3, .int 4)], [.int (nI A), .ref 11, .int (nI D), .ref 11], wP pre (wN (PP s) (QQ s) op oq tr dp wi fa ob st of F), 0)
  refine mm_need (mm_call_mono _ _) (c := vp_in (nI A) 480) (s' := (26, [(4, .int 0), (0, .ref 10), (1, .int (nI D)), (2, .int (nI A)), (3, .int 4)], [.long ((PP s) (Int32.toNatClampNeg (nI A))), .int (nI D), .ref 11], wP pre (wN (PP s) (QQ s) op oq tr dp wi fa ob st of F), 0)) rfl (vp_in_nI (show A < 480 by omega) (by decide)) ?_
  rw [nI_clamp (show A < 2 ^ 31 by omega)]
  show mm_W _ _ _ _ _ _ _ (26, [(4, .int 0), (0, .ref 10), (1, .int (nI D)), (2, .int (nI A)), (3, .int 4)], [.long ((PP s) A), .int (nI D), .ref 11], wP pre (wN (PP s) (QQ s) op oq tr dp wi fa ob st of F), 0)
  refine mm_need (mm_call_mono _ _) (c := vp_in (nI D) 480) (s' := (27, [(4, .int 0), (0, .ref 10), (1, .int (nI D)), (2, .int (nI A)), (3, .int 4)], [], wP pre (wN (vp_updL (PP s) (Int32.toNatClampNeg (nI D)) ((PP s) A)) (QQ s) op oq tr dp wi fa ob st of F), 0)) rfl (vp_in_nI (show D < 480 by omega) (by decide)) ?_
  rw [nI_clamp (show D < 2 ^ 31 by omega)]
  show mm_W _ _ _ _ _ _ _ (27, [(4, .int 0), (0, .ref 10), (1, .int (nI D)), (2, .int (nI A)), (3, .int 4)], [], wP pre (wN (vp_updL (PP s) D ((PP s) A)) (QQ s) op oq tr dp wi fa ob st of F), 0)
  refine mm_skip (mm_call_mono _ _) 10 (st' := (43, [(4, .int 0), (0, .ref 10), (1, .int (nI D)), (2, .int (nI A)), (3, .int 4)], [.int ((nI A) + 0), .ref 12, .int ((nI D) + 0), .ref 12], wP pre (wN (vp_updL (PP s) D ((PP s) A)) (QQ s) op oq tr dp wi fa ob st of F), 0)) rfl ?_
  rw [nI_p0 (A)]
  rw [nI_p0 (D)]
  show mm_W _ _ _ _ _ _ _ (43, [(4, .int 0), (0, .ref 10), (1, .int (nI D)), (2, .int (nI A)), (3, .int 4)], [.int (nI A), .ref 12, .int (nI D), .ref 12], wP pre (wN (vp_updL (PP s) D ((PP s) A)) (QQ s) op oq tr dp wi fa ob st of F), 0)
  refine mm_need (mm_call_mono _ _) (c := vp_in (nI A) 480) (s' := (44, [(4, .int 0), (0, .ref 10), (1, .int (nI D)), (2, .int (nI A)), (3, .int 4)], [.long ((QQ s) (Int32.toNatClampNeg (nI A))), .int (nI D), .ref 12], wP pre (wN (vp_updL (PP s) D ((PP s) A)) (QQ s) op oq tr dp wi fa ob st of F), 0)) rfl (vp_in_nI (show A < 480 by omega) (by decide)) ?_
  rw [nI_clamp (show A < 2 ^ 31 by omega)]
  show mm_W _ _ _ _ _ _ _ (44, [(4, .int 0), (0, .ref 10), (1, .int (nI D)), (2, .int (nI A)), (3, .int 4)], [.long ((QQ s) A), .int (nI D), .ref 12], wP pre (wN (vp_updL (PP s) D ((PP s) A)) (QQ s) op oq tr dp wi fa ob st of F), 0)
  refine mm_need (mm_call_mono _ _) (c := vp_in (nI D) 480) (s' := (45, [(4, .int 0), (0, .ref 10), (1, .int (nI D)), (2, .int (nI A)), (3, .int 4)], [], wP pre (wN (vp_updL (PP s) D ((PP s) A)) (vp_updL (QQ s) (Int32.toNatClampNeg (nI D)) ((QQ s) A)) op oq tr dp wi fa ob st of F), 0)) rfl (vp_in_nI (show D < 480 by omega) (by decide)) ?_
  rw [nI_clamp (show D < 2 ^ 31 by omega)]
  show mm_W _ _ _ _ _ _ _ (45, [(4, .int 0), (0, .ref 10), (1, .int (nI D)), (2, .int (nI A)), (3, .int 4)], [], wP pre (wN (vp_updL (PP s) D ((PP s) A)) (vp_updL (QQ s) D ((QQ s) A)) op oq tr dp wi fa ob st of F), 0)
  refine mm_skip (mm_call_mono _ _) 2 (st' := (3, [(4, .int 1), (0, .ref 10), (1, .int (nI D)), (2, .int (nI A)), (3, .int 4)], [], wP pre (wN (vp_updL (PP s) D ((PP s) A)) (vp_updL (QQ s) D ((QQ s) A)) op oq tr dp wi fa ob st of F), 0)) rfl ?_
  rw [pp_v (s := s) (d := D) (x := s A) (pp_i (hV A)), qq_v (s := s) (d := D) (x := s A) (qq_i (hV A))]
  have h1 := mput_ok (d := D) hV hz (show some (s A) = some _ from rfl) (hV A)
  generalize up s D (s A) = s1 at h1 ⊢
  have X1_1 := m_k X1_0 h1 (by omega)
  have X2_1 := m_k X2_0 h1 (by omega)
  have X3_1 := m_k X3_0 h1 (by omega)
  show mm_W _ _ _ _ _ _ _ (3, [(4, .int 1), (0, .ref 10), (1, .int (nI D)), (2, .int (nI A)), (3, .int 4)], [], wP pre (wN (PP s1) (QQ s1) op oq tr dp wi fa ob st of F), 0)
  refine mm_skip (mm_call_mono _ _) 2 (st' := (6, [(4, .int 1), (0, .ref 10), (1, .int (nI D)), (2, .int (nI A)), (3, .int 4)], [.int 4, .int 1], wP pre (wN (PP s1) (QQ s1) op oq tr dp wi fa ob st of F), 0)) rfl ?_
  refine mm_branch (mm_call_mono _ _) (c := (4 : Int32) ≤ 1) (s1 := (51, [(4, .int 1), (0, .ref 10), (1, .int (nI D)), (2, .int (nI A)), (3, .int 4)], [], wP pre (wN (PP s1) (QQ s1) op oq tr dp wi fa ob st of F), 0)) (s2 := (9, [(4, .int 1), (0, .ref 10), (1, .int (nI D)), (2, .int (nI A)), (3, .int 4)], [], wP pre (wN (PP s1) (QQ s1) op oq tr dp wi fa ob st of F), 0)) rfl (fun h => absurd h (by decide)) (fun _ => ?_)
  refine mm_skip (mm_call_mono _ _) 10 (st' := (25, [(4, .int 1), (0, .ref 10), (1, .int (nI D)), (2, .int (nI A)), (3, .int 4)], [.int ((nI A) + 1), .ref 11, .int ((nI D) + 1), .ref 11], wP pre (wN (PP s1) (QQ s1) op oq tr dp wi fa ob st of F), 0)) rfl ?_
  rw [nI_p1 (A)]
  rw [nI_p1 (D)]
  show mm_W _ _ _ _ _ _ _ (25, [(4, .int 1), (0, .ref 10), (1, .int (nI D)), (2, .int (nI A)), (3, .int 4)], [.int (nI (A + 1)), .ref 11, .int (nI (D + 1)), .ref 11], wP pre (wN (PP s1) (QQ s1) op oq tr dp wi fa ob st of F), 0)
  refine mm_need (mm_call_mono _ _) (c := vp_in (nI (A + 1)) 480) (s' := (26, [(4, .int 1), (0, .ref 10), (1, .int (nI D)), (2, .int (nI A)), (3, .int 4)], [.long ((PP s1) (Int32.toNatClampNeg (nI (A + 1)))), .int (nI (D + 1)), .ref 11], wP pre (wN (PP s1) (QQ s1) op oq tr dp wi fa ob st of F), 0)) rfl (vp_in_nI (show (A + 1) < 480 by omega) (by decide)) ?_
  rw [nI_clamp (show (A + 1) < 2 ^ 31 by omega)]
  show mm_W _ _ _ _ _ _ _ (26, [(4, .int 1), (0, .ref 10), (1, .int (nI D)), (2, .int (nI A)), (3, .int 4)], [.long ((PP s1) (A + 1)), .int (nI (D + 1)), .ref 11], wP pre (wN (PP s1) (QQ s1) op oq tr dp wi fa ob st of F), 0)
  refine mm_need (mm_call_mono _ _) (c := vp_in (nI (D + 1)) 480) (s' := (27, [(4, .int 1), (0, .ref 10), (1, .int (nI D)), (2, .int (nI A)), (3, .int 4)], [], wP pre (wN (vp_updL (PP s1) (Int32.toNatClampNeg (nI (D + 1))) ((PP s1) (A + 1))) (QQ s1) op oq tr dp wi fa ob st of F), 0)) rfl (vp_in_nI (show (D + 1) < 480 by omega) (by decide)) ?_
  rw [nI_clamp (show (D + 1) < 2 ^ 31 by omega)]
  show mm_W _ _ _ _ _ _ _ (27, [(4, .int 1), (0, .ref 10), (1, .int (nI D)), (2, .int (nI A)), (3, .int 4)], [], wP pre (wN (vp_updL (PP s1) (D + 1) ((PP s1) (A + 1))) (QQ s1) op oq tr dp wi fa ob st of F), 0)
  refine mm_skip (mm_call_mono _ _) 10 (st' := (43, [(4, .int 1), (0, .ref 10), (1, .int (nI D)), (2, .int (nI A)), (3, .int 4)], [.int ((nI A) + 1), .ref 12, .int ((nI D) + 1), .ref 12], wP pre (wN (vp_updL (PP s1) (D + 1) ((PP s1) (A + 1))) (QQ s1) op oq tr dp wi fa ob st of F), 0)) rfl ?_
  rw [nI_p1 (A)]
  rw [nI_p1 (D)]
  show mm_W _ _ _ _ _ _ _ (43, [(4, .int 1), (0, .ref 10), (1, .int (nI D)), (2, .int (nI A)), (3, .int 4)], [.int (nI (A + 1)), .ref 12, .int (nI (D + 1)), .ref 12], wP pre (wN (vp_updL (PP s1) (D + 1) ((PP s1) (A + 1))) (QQ s1) op oq tr dp wi fa ob st of F), 0)
  refine mm_need (mm_call_mono _ _) (c := vp_in (nI (A + 1)) 480) (s' := (44, [(4, .int 1), (0, .ref 10), (1, .int (nI D)), (2, .int (nI A)), (3, .int 4)], [.long ((QQ s1) (Int32.toNatClampNeg (nI (A + 1)))), .int (nI (D + 1)), .ref 12], wP pre (wN (vp_updL (PP s1) (D + 1) ((PP s1) (A + 1))) (QQ s1) op oq tr dp wi fa ob st of F), 0)) rfl (vp_in_nI (show (A + 1) < 480 by omega) (by decide)) ?_
  rw [nI_clamp (show (A + 1) < 2 ^ 31 by omega)]
  show mm_W _ _ _ _ _ _ _ (44, [(4, .int 1), (0, .ref 10), (1, .int (nI D)), (2, .int (nI A)), (3, .int 4)], [.long ((QQ s1) (A + 1)), .int (nI (D + 1)), .ref 12], wP pre (wN (vp_updL (PP s1) (D + 1) ((PP s1) (A + 1))) (QQ s1) op oq tr dp wi fa ob st of F), 0)
  refine mm_need (mm_call_mono _ _) (c := vp_in (nI (D + 1)) 480) (s' := (45, [(4, .int 1), (0, .ref 10), (1, .int (nI D)), (2, .int (nI A)), (3, .int 4)], [], wP pre (wN (vp_updL (PP s1) (D + 1) ((PP s1) (A + 1))) (vp_updL (QQ s1) (Int32.toNatClampNeg (nI (D + 1))) ((QQ s1) (A + 1))) op oq tr dp wi fa ob st of F), 0)) rfl (vp_in_nI (show (D + 1) < 480 by omega) (by decide)) ?_
  rw [nI_clamp (show (D + 1) < 2 ^ 31 by omega)]
  show mm_W _ _ _ _ _ _ _ (45, [(4, .int 1), (0, .ref 10), (1, .int (nI D)), (2, .int (nI A)), (3, .int 4)], [], wP pre (wN (vp_updL (PP s1) (D + 1) ((PP s1) (A + 1))) (vp_updL (QQ s1) (D + 1) ((QQ s1) (A + 1))) op oq tr dp wi fa ob st of F), 0)
  refine mm_skip (mm_call_mono _ _) 2 (st' := (3, [(4, .int 2), (0, .ref 10), (1, .int (nI D)), (2, .int (nI A)), (3, .int 4)], [], wP pre (wN (vp_updL (PP s1) (D + 1) ((PP s1) (A + 1))) (vp_updL (QQ s1) (D + 1) ((QQ s1) (A + 1))) op oq tr dp wi fa ob st of F), 0)) rfl ?_
  rw [pp_v (s := s1) (d := (D + 1)) (x := s1 (A + 1)) (pp_i (h1.1 (A + 1))), qq_v (s := s1) (d := (D + 1)) (x := s1 (A + 1)) (qq_i (h1.1 (A + 1)))]
  have h2 := mput_ok (d := (D + 1)) h1.1 hz (show some (s1 (A + 1)) = some _ from rfl) (h1.1 (A + 1))
  generalize up s1 (D + 1) (s1 (A + 1)) = s2 at h2 ⊢
  have X2_2 := m_k X2_1 h2 (by omega)
  have X3_2 := m_k X3_1 h2 (by omega)
  show mm_W _ _ _ _ _ _ _ (3, [(4, .int 2), (0, .ref 10), (1, .int (nI D)), (2, .int (nI A)), (3, .int 4)], [], wP pre (wN (PP s2) (QQ s2) op oq tr dp wi fa ob st of F), 0)
  refine mm_skip (mm_call_mono _ _) 2 (st' := (6, [(4, .int 2), (0, .ref 10), (1, .int (nI D)), (2, .int (nI A)), (3, .int 4)], [.int 4, .int 2], wP pre (wN (PP s2) (QQ s2) op oq tr dp wi fa ob st of F), 0)) rfl ?_
  refine mm_branch (mm_call_mono _ _) (c := (4 : Int32) ≤ 2) (s1 := (51, [(4, .int 2), (0, .ref 10), (1, .int (nI D)), (2, .int (nI A)), (3, .int 4)], [], wP pre (wN (PP s2) (QQ s2) op oq tr dp wi fa ob st of F), 0)) (s2 := (9, [(4, .int 2), (0, .ref 10), (1, .int (nI D)), (2, .int (nI A)), (3, .int 4)], [], wP pre (wN (PP s2) (QQ s2) op oq tr dp wi fa ob st of F), 0)) rfl (fun h => absurd h (by decide)) (fun _ => ?_)
  refine mm_skip (mm_call_mono _ _) 10 (st' := (25, [(4, .int 2), (0, .ref 10), (1, .int (nI D)), (2, .int (nI A)), (3, .int 4)], [.int ((nI A) + 2), .ref 11, .int ((nI D) + 2), .ref 11], wP pre (wN (PP s2) (QQ s2) op oq tr dp wi fa ob st of F), 0)) rfl ?_
  rw [nI_p2 (A)]
  rw [nI_p2 (D)]
  show mm_W _ _ _ _ _ _ _ (25, [(4, .int 2), (0, .ref 10), (1, .int (nI D)), (2, .int (nI A)), (3, .int 4)], [.int (nI (A + 2)), .ref 11, .int (nI (D + 2)), .ref 11], wP pre (wN (PP s2) (QQ s2) op oq tr dp wi fa ob st of F), 0)
  refine mm_need (mm_call_mono _ _) (c := vp_in (nI (A + 2)) 480) (s' := (26, [(4, .int 2), (0, .ref 10), (1, .int (nI D)), (2, .int (nI A)), (3, .int 4)], [.long ((PP s2) (Int32.toNatClampNeg (nI (A + 2)))), .int (nI (D + 2)), .ref 11], wP pre (wN (PP s2) (QQ s2) op oq tr dp wi fa ob st of F), 0)) rfl (vp_in_nI (show (A + 2) < 480 by omega) (by decide)) ?_
  rw [nI_clamp (show (A + 2) < 2 ^ 31 by omega)]
  show mm_W _ _ _ _ _ _ _ (26, [(4, .int 2), (0, .ref 10), (1, .int (nI D)), (2, .int (nI A)), (3, .int 4)], [.long ((PP s2) (A + 2)), .int (nI (D + 2)), .ref 11], wP pre (wN (PP s2) (QQ s2) op oq tr dp wi fa ob st of F), 0)
  refine mm_need (mm_call_mono _ _) (c := vp_in (nI (D + 2)) 480) (s' := (27, [(4, .int 2), (0, .ref 10), (1, .int (nI D)), (2, .int (nI A)), (3, .int 4)], [], wP pre (wN (vp_updL (PP s2) (Int32.toNatClampNeg (nI (D + 2))) ((PP s2) (A + 2))) (QQ s2) op oq tr dp wi fa ob st of F), 0)) rfl (vp_in_nI (show (D + 2) < 480 by omega) (by decide)) ?_
  rw [nI_clamp (show (D + 2) < 2 ^ 31 by omega)]
  show mm_W _ _ _ _ _ _ _ (27, [(4, .int 2), (0, .ref 10), (1, .int (nI D)), (2, .int (nI A)), (3, .int 4)], [], wP pre (wN (vp_updL (PP s2) (D + 2) ((PP s2) (A + 2))) (QQ s2) op oq tr dp wi fa ob st of F), 0)
  refine mm_skip (mm_call_mono _ _) 10 (st' := (43, [(4, .int 2), (0, .ref 10), (1, .int (nI D)), (2, .int (nI A)), (3, .int 4)], [.int ((nI A) + 2), .ref 12, .int ((nI D) + 2), .ref 12], wP pre (wN (vp_updL (PP s2) (D + 2) ((PP s2) (A + 2))) (QQ s2) op oq tr dp wi fa ob st of F), 0)) rfl ?_
  rw [nI_p2 (A)]
  rw [nI_p2 (D)]
  show mm_W _ _ _ _ _ _ _ (43, [(4, .int 2), (0, .ref 10), (1, .int (nI D)), (2, .int (nI A)), (3, .int 4)], [.int (nI (A + 2)), .ref 12, .int (nI (D + 2)), .ref 12], wP pre (wN (vp_updL (PP s2) (D + 2) ((PP s2) (A + 2))) (QQ s2) op oq tr dp wi fa ob st of F), 0)
  refine mm_need (mm_call_mono _ _) (c := vp_in (nI (A + 2)) 480) (s' := (44, [(4, .int 2), (0, .ref 10), (1, .int (nI D)), (2, .int (nI A)), (3, .int 4)], [.long ((QQ s2) (Int32.toNatClampNeg (nI (A + 2)))), .int (nI (D + 2)), .ref 12], wP pre (wN (vp_updL (PP s2) (D + 2) ((PP s2) (A + 2))) (QQ s2) op oq tr dp wi fa ob st of F), 0)) rfl (vp_in_nI (show (A + 2) < 480 by omega) (by decide)) ?_
  rw [nI_clamp (show (A + 2) < 2 ^ 31 by omega)]
  show mm_W _ _ _ _ _ _ _ (44, [(4, .int 2), (0, .ref 10), (1, .int (nI D)), (2, .int (nI A)), (3, .int 4)], [.long ((QQ s2) (A + 2)), .int (nI (D + 2)), .ref 12], wP pre (wN (vp_updL (PP s2) (D + 2) ((PP s2) (A + 2))) (QQ s2) op oq tr dp wi fa ob st of F), 0)
  refine mm_need (mm_call_mono _ _) (c := vp_in (nI (D + 2)) 480) (s' := (45, [(4, .int 2), (0, .ref 10), (1, .int (nI D)), (2, .int (nI A)), (3, .int 4)], [], wP pre (wN (vp_updL (PP s2) (D + 2) ((PP s2) (A + 2))) (vp_updL (QQ s2) (Int32.toNatClampNeg (nI (D + 2))) ((QQ s2) (A + 2))) op oq tr dp wi fa ob st of F), 0)) rfl (vp_in_nI (show (D + 2) < 480 by omega) (by decide)) ?_
  rw [nI_clamp (show (D + 2) < 2 ^ 31 by omega)]
  show mm_W _ _ _ _ _ _ _ (45, [(4, .int 2), (0, .ref 10), (1, .int (nI D)), (2, .int (nI A)), (3, .int 4)], [], wP pre (wN (vp_updL (PP s2) (D + 2) ((PP s2) (A + 2))) (vp_updL (QQ s2) (D + 2) ((QQ s2) (A + 2))) op oq tr dp wi fa ob st of F), 0)
  refine mm_skip (mm_call_mono _ _) 2 (st' := (3, [(4, .int 3), (0, .ref 10), (1, .int (nI D)), (2, .int (nI A)), (3, .int 4)], [], wP pre (wN (vp_updL (PP s2) (D + 2) ((PP s2) (A + 2))) (vp_updL (QQ s2) (D + 2) ((QQ s2) (A + 2))) op oq tr dp wi fa ob st of F), 0)) rfl ?_
  rw [pp_v (s := s2) (d := (D + 2)) (x := s2 (A + 2)) (pp_i (h2.1 (A + 2))), qq_v (s := s2) (d := (D + 2)) (x := s2 (A + 2)) (qq_i (h2.1 (A + 2)))]
  have h3 := mput_ok (d := (D + 2)) h2.1 hz (show some (s2 (A + 2)) = some _ from rfl) (h2.1 (A + 2))
  generalize up s2 (D + 2) (s2 (A + 2)) = s3 at h3 ⊢
  have X3_3 := m_k X3_2 h3 (by omega)
  show mm_W _ _ _ _ _ _ _ (3, [(4, .int 3), (0, .ref 10), (1, .int (nI D)), (2, .int (nI A)), (3, .int 4)], [], wP pre (wN (PP s3) (QQ s3) op oq tr dp wi fa ob st of F), 0)
  refine mm_skip (mm_call_mono _ _) 2 (st' := (6, [(4, .int 3), (0, .ref 10), (1, .int (nI D)), (2, .int (nI A)), (3, .int 4)], [.int 4, .int 3], wP pre (wN (PP s3) (QQ s3) op oq tr dp wi fa ob st of F), 0)) rfl ?_
  refine mm_branch (mm_call_mono _ _) (c := (4 : Int32) ≤ 3) (s1 := (51, [(4, .int 3), (0, .ref 10), (1, .int (nI D)), (2, .int (nI A)), (3, .int 4)], [], wP pre (wN (PP s3) (QQ s3) op oq tr dp wi fa ob st of F), 0)) (s2 := (9, [(4, .int 3), (0, .ref 10), (1, .int (nI D)), (2, .int (nI A)), (3, .int 4)], [], wP pre (wN (PP s3) (QQ s3) op oq tr dp wi fa ob st of F), 0)) rfl (fun h => absurd h (by decide)) (fun _ => ?_)
  refine mm_skip (mm_call_mono _ _) 10 (st' := (25, [(4, .int 3), (0, .ref 10), (1, .int (nI D)), (2, .int (nI A)), (3, .int 4)], [.int ((nI A) + 3), .ref 11, .int ((nI D) + 3), .ref 11], wP pre (wN (PP s3) (QQ s3) op oq tr dp wi fa ob st of F), 0)) rfl ?_
  rw [nI_p3 (A)]
  rw [nI_p3 (D)]
  show mm_W _ _ _ _ _ _ _ (25, [(4, .int 3), (0, .ref 10), (1, .int (nI D)), (2, .int (nI A)), (3, .int 4)], [.int (nI (A + 3)), .ref 11, .int (nI (D + 3)), .ref 11], wP pre (wN (PP s3) (QQ s3) op oq tr dp wi fa ob st of F), 0)
  refine mm_need (mm_call_mono _ _) (c := vp_in (nI (A + 3)) 480) (s' := (26, [(4, .int 3), (0, .ref 10), (1, .int (nI D)), (2, .int (nI A)), (3, .int 4)], [.long ((PP s3) (Int32.toNatClampNeg (nI (A + 3)))), .int (nI (D + 3)), .ref 11], wP pre (wN (PP s3) (QQ s3) op oq tr dp wi fa ob st of F), 0)) rfl (vp_in_nI (show (A + 3) < 480 by omega) (by decide)) ?_
  rw [nI_clamp (show (A + 3) < 2 ^ 31 by omega)]
  show mm_W _ _ _ _ _ _ _ (26, [(4, .int 3), (0, .ref 10), (1, .int (nI D)), (2, .int (nI A)), (3, .int 4)], [.long ((PP s3) (A + 3)), .int (nI (D + 3)), .ref 11], wP pre (wN (PP s3) (QQ s3) op oq tr dp wi fa ob st of F), 0)
  refine mm_need (mm_call_mono _ _) (c := vp_in (nI (D + 3)) 480) (s' := (27, [(4, .int 3), (0, .ref 10), (1, .int (nI D)), (2, .int (nI A)), (3, .int 4)], [], wP pre (wN (vp_updL (PP s3) (Int32.toNatClampNeg (nI (D + 3))) ((PP s3) (A + 3))) (QQ s3) op oq tr dp wi fa ob st of F), 0)) rfl (vp_in_nI (show (D + 3) < 480 by omega) (by decide)) ?_
  rw [nI_clamp (show (D + 3) < 2 ^ 31 by omega)]
  show mm_W _ _ _ _ _ _ _ (27, [(4, .int 3), (0, .ref 10), (1, .int (nI D)), (2, .int (nI A)), (3, .int 4)], [], wP pre (wN (vp_updL (PP s3) (D + 3) ((PP s3) (A + 3))) (QQ s3) op oq tr dp wi fa ob st of F), 0)
  refine mm_skip (mm_call_mono _ _) 10 (st' := (43, [(4, .int 3), (0, .ref 10), (1, .int (nI D)), (2, .int (nI A)), (3, .int 4)], [.int ((nI A) + 3), .ref 12, .int ((nI D) + 3), .ref 12], wP pre (wN (vp_updL (PP s3) (D + 3) ((PP s3) (A + 3))) (QQ s3) op oq tr dp wi fa ob st of F), 0)) rfl ?_
  rw [nI_p3 (A)]
  rw [nI_p3 (D)]
  show mm_W _ _ _ _ _ _ _ (43, [(4, .int 3), (0, .ref 10), (1, .int (nI D)), (2, .int (nI A)), (3, .int 4)], [.int (nI (A + 3)), .ref 12, .int (nI (D + 3)), .ref 12], wP pre (wN (vp_updL (PP s3) (D + 3) ((PP s3) (A + 3))) (QQ s3) op oq tr dp wi fa ob st of F), 0)
  refine mm_need (mm_call_mono _ _) (c := vp_in (nI (A + 3)) 480) (s' := (44, [(4, .int 3), (0, .ref 10), (1, .int (nI D)), (2, .int (nI A)), (3, .int 4)], [.long ((QQ s3) (Int32.toNatClampNeg (nI (A + 3)))), .int (nI (D + 3)), .ref 12], wP pre (wN (vp_updL (PP s3) (D + 3) ((PP s3) (A + 3))) (QQ s3) op oq tr dp wi fa ob st of F), 0)) rfl (vp_in_nI (show (A + 3) < 480 by omega) (by decide)) ?_
  rw [nI_clamp (show (A + 3) < 2 ^ 31 by omega)]
  show mm_W _ _ _ _ _ _ _ (44, [(4, .int 3), (0, .ref 10), (1, .int (nI D)), (2, .int (nI A)), (3, .int 4)], [.long ((QQ s3) (A + 3)), .int (nI (D + 3)), .ref 12], wP pre (wN (vp_updL (PP s3) (D + 3) ((PP s3) (A + 3))) (QQ s3) op oq tr dp wi fa ob st of F), 0)
  refine mm_need (mm_call_mono _ _) (c := vp_in (nI (D + 3)) 480) (s' := (45, [(4, .int 3), (0, .ref 10), (1, .int (nI D)), (2, .int (nI A)), (3, .int 4)], [], wP pre (wN (vp_updL (PP s3) (D + 3) ((PP s3) (A + 3))) (vp_updL (QQ s3) (Int32.toNatClampNeg (nI (D + 3))) ((QQ s3) (A + 3))) op oq tr dp wi fa ob st of F), 0)) rfl (vp_in_nI (show (D + 3) < 480 by omega) (by decide)) ?_
  rw [nI_clamp (show (D + 3) < 2 ^ 31 by omega)]
  show mm_W _ _ _ _ _ _ _ (45, [(4, .int 3), (0, .ref 10), (1, .int (nI D)), (2, .int (nI A)), (3, .int 4)], [], wP pre (wN (vp_updL (PP s3) (D + 3) ((PP s3) (A + 3))) (vp_updL (QQ s3) (D + 3) ((QQ s3) (A + 3))) op oq tr dp wi fa ob st of F), 0)
  refine mm_skip (mm_call_mono _ _) 2 (st' := (3, [(4, .int 4), (0, .ref 10), (1, .int (nI D)), (2, .int (nI A)), (3, .int 4)], [], wP pre (wN (vp_updL (PP s3) (D + 3) ((PP s3) (A + 3))) (vp_updL (QQ s3) (D + 3) ((QQ s3) (A + 3))) op oq tr dp wi fa ob st of F), 0)) rfl ?_
  rw [pp_v (s := s3) (d := (D + 3)) (x := s3 (A + 3)) (pp_i (h3.1 (A + 3))), qq_v (s := s3) (d := (D + 3)) (x := s3 (A + 3)) (qq_i (h3.1 (A + 3)))]
  have h4 := mput_ok (d := (D + 3)) h3.1 hz (show some (s3 (A + 3)) = some _ from rfl) (h3.1 (A + 3))
  generalize up s3 (D + 3) (s3 (A + 3)) = s4 at h4 ⊢
  show mm_W _ _ _ _ _ _ _ (3, [(4, .int 4), (0, .ref 10), (1, .int (nI D)), (2, .int (nI A)), (3, .int 4)], [], wP pre (wN (PP s4) (QQ s4) op oq tr dp wi fa ob st of F), 0)
  refine mm_skip (mm_call_mono _ _) 2 (st' := (6, [(4, .int 4), (0, .ref 10), (1, .int (nI D)), (2, .int (nI A)), (3, .int 4)], [.int 4, .int 4], wP pre (wN (PP s4) (QQ s4) op oq tr dp wi fa ob st of F), 0)) rfl ?_
  refine mm_branch (mm_call_mono _ _) (c := (4 : Int32) ≤ 4) (s1 := (51, [(4, .int 4), (0, .ref 10), (1, .int (nI D)), (2, .int (nI A)), (3, .int 4)], [], wP pre (wN (PP s4) (QQ s4) op oq tr dp wi fa ob st of F), 0)) (s2 := (9, [(4, .int 4), (0, .ref 10), (1, .int (nI D)), (2, .int (nI A)), (3, .int 4)], [], wP pre (wN (PP s4) (QQ s4) op oq tr dp wi fa ob st of F), 0)) rfl (fun _ => ?_) (fun h => absurd (by decide) h)
  exact mm_ret (mm_call_mono _ _) (c := True) (r := .inl none) (M := wP pre (wN (PP s4) (QQ s4) op oq tr dp wi fa ob st of F)) (u := 0) rfl trivial (by decide) (hQ _ _ (vec_4 (f := (fun j => some (x j))) (vec_2 (f := (fun j => some (x j))) (mR_T h1 (set_f X0_0)) (mR_T h2 (set_f X1_1))) (vec_2 (f := fun j => (fun j => some (x j)) (2 + j)) (mR_T h3 (set_f X2_2)) (mR_T h4 (set_f X3_3)))))

theorem clM_s {s s1 : Nat → fr} {D f : Nat} (h : clM s D 4 s1 ∨ True) : True := trivial
theorem pz_v {s : Nat → fr} {d : Nat} : vp_updL (PP s) d 0 = PP (up s d z0) := pp_v (x := z0) (n := 0) rfl
theorem qz_v {s : Nat → fr} {d : Nat} : vp_updL (QQ s) d 1 = QQ (up s d z0) := qq_v (x := z0) (n := 1) rfl
set_option maxRecDepth 100000 in
theorem rm_clear_0 {d : Nat} {pre : mm_pre} {s : Nat → fr} {op oq : Nat → Int64} {tr dp wi fa ob : Int32} {st of : Nat → Int32} {F : mm_M} {D : Nat} {Q : mm_R → mm_M → Prop} (hV : ∀ k, fv (s k)) (hD : D + 4 ≤ 480) (hQ : ∀ s1 : Nat → fr, clM s D 0 s1 → Q (.inl none) (wP pre (wN (PP s1) (QQ s1) op oq tr dp wi fa ob st of F))) : mm_call mm_Tb (d + 1) 65 [.ref 10, .int (nI D), .int 0] (wP pre (wN (PP s) (QQ s) op oq tr dp wi fa ob st of F)) Q := by
  have hfr : ∀ k, ¬ (D + 0 ≤ k ∧ k < D + 4) → (up (up (up (up s D z0) (D + 1) z0) (D + 2) z0) (D + 3) z0) k = s k := fun k hk => by rw [up_n (by omega), up_n (by omega), up_n (by omega), up_n (by omega)]
  have hval : ∀ j, 0 ≤ j → j < 4 → (up (up (up (up s D z0) (D + 1) z0) (D + 2) z0) (D + 3) z0) (D + j) = z0 := fun j h1 h2 => by
    rcases (show j = 0 ∨ j = 1 ∨ j = 2 ∨ j = 3 by omega) with rfl | rfl | rfl | rfl
    · rw [up_n (by omega), up_n (by omega), up_n (by omega)]; exact up_s
    · rw [up_n (by omega), up_n (by omega)]; exact up_s
    · rw [up_n (by omega)]; exact up_s
    · exact up_s
  refine mm_in mt_65 (Nat.le_of_ble_eq_true rfl) ?_
  show mm_W _ _ _ _ _ _ _ (0, [(0, .ref 10), (1, .int (nI D)), (2, .int 0)], [], wP pre (wN (PP s) (QQ s) op oq tr dp wi fa ob st of F), 0)
  refine mm_skip (mm_call_mono _ _) 2 (st' := (2, [(3, .int 0), (0, .ref 10), (1, .int (nI D)), (2, .int 0)], [], wP pre (wN (PP s) (QQ s) op oq tr dp wi fa ob st of F), 0)) rfl ?_
  show mm_W _ _ _ _ _ _ _ (2, [(3, .int 0), (0, .ref 10), (1, .int (nI D)), (2, .int 0)], [], wP pre (wN (PP s) (QQ s) op oq tr dp wi fa ob st of F), 0)
  refine mm_skip (mm_call_mono _ _) 2 (st' := (4, [(3, .int 0), (0, .ref 10), (1, .int (nI D)), (2, .int 0)], [.int 4, .int 0], wP pre (wN (PP s) (QQ s) op oq tr dp wi fa ob st of F), 0)) rfl ?_
  refine mm_branch (mm_call_mono _ _) (c := (4 : Int32) ≤ 0) (s1 := (31, [(3, .int 0), (0, .ref 10), (1, .int (nI D)), (2, .int 0)], [], wP pre (wN (PP s) (QQ s) op oq tr dp wi fa ob st of F), 0)) (s2 := (7, [(3, .int 0), (0, .ref 10), (1, .int (nI D)), (2, .int 0)], [], wP pre (wN (PP s) (QQ s) op oq tr dp wi fa ob st of F), 0)) rfl (fun h => absurd h (by decide)) (fun _ => ?_)
  refine mm_skip (mm_call_mono _ _) 6 (st' := (15, [(3, .int 0), (0, .ref 10), (1, .int (nI D)), (2, .int 0)], [.long 0, .int ((nI D) + 0), .ref 11], wP pre (wN (PP s) (QQ s) op oq tr dp wi fa ob st of F), 0)) rfl ?_
  rw [nI_p0 (D)]
  show mm_W _ _ _ _ _ _ _ (15, [(3, .int 0), (0, .ref 10), (1, .int (nI D)), (2, .int 0)], [.long 0, .int (nI D), .ref 11], wP pre (wN (PP s) (QQ s) op oq tr dp wi fa ob st of F), 0)
  refine mm_need (mm_call_mono _ _) (c := vp_in (nI D) 480) (s' := (16, [(3, .int 0), (0, .ref 10), (1, .int (nI D)), (2, .int 0)], [], wP pre (wN (vp_updL (PP s) (Int32.toNatClampNeg (nI D)) 0) (QQ s) op oq tr dp wi fa ob st of F), 0)) rfl (vp_in_nI (show D < 480 by omega) (by decide)) ?_
  rw [nI_clamp (show D < 2 ^ 31 by omega)]
  show mm_W _ _ _ _ _ _ _ (16, [(3, .int 0), (0, .ref 10), (1, .int (nI D)), (2, .int 0)], [], wP pre (wN (vp_updL (PP s) D 0) (QQ s) op oq tr dp wi fa ob st of F), 0)
  refine mm_skip (mm_call_mono _ _) 6 (st' := (24, [(3, .int 0), (0, .ref 10), (1, .int (nI D)), (2, .int 0)], [.long 1, .int ((nI D) + 0), .ref 12], wP pre (wN (vp_updL (PP s) D 0) (QQ s) op oq tr dp wi fa ob st of F), 0)) rfl ?_
  rw [nI_p0 (D)]
  show mm_W _ _ _ _ _ _ _ (24, [(3, .int 0), (0, .ref 10), (1, .int (nI D)), (2, .int 0)], [.long 1, .int (nI D), .ref 12], wP pre (wN (vp_updL (PP s) D 0) (QQ s) op oq tr dp wi fa ob st of F), 0)
  refine mm_need (mm_call_mono _ _) (c := vp_in (nI D) 480) (s' := (25, [(3, .int 0), (0, .ref 10), (1, .int (nI D)), (2, .int 0)], [], wP pre (wN (vp_updL (PP s) D 0) (vp_updL (QQ s) (Int32.toNatClampNeg (nI D)) 1) op oq tr dp wi fa ob st of F), 0)) rfl (vp_in_nI (show D < 480 by omega) (by decide)) ?_
  rw [nI_clamp (show D < 2 ^ 31 by omega)]
  show mm_W _ _ _ _ _ _ _ (25, [(3, .int 0), (0, .ref 10), (1, .int (nI D)), (2, .int 0)], [], wP pre (wN (vp_updL (PP s) D 0) (vp_updL (QQ s) D 1) op oq tr dp wi fa ob st of F), 0)
  refine mm_skip (mm_call_mono _ _) 2 (st' := (2, [(3, .int 1), (0, .ref 10), (1, .int (nI D)), (2, .int 0)], [], wP pre (wN (vp_updL (PP s) D 0) (vp_updL (QQ s) D 1) op oq tr dp wi fa ob st of F), 0)) rfl ?_
  rw [pz_v, qz_v]
  show mm_W _ _ _ _ _ _ _ (2, [(3, .int 1), (0, .ref 10), (1, .int (nI D)), (2, .int 0)], [], wP pre (wN (PP (up s D z0)) (QQ (up s D z0)) op oq tr dp wi fa ob st of F), 0)
  refine mm_skip (mm_call_mono _ _) 2 (st' := (4, [(3, .int 1), (0, .ref 10), (1, .int (nI D)), (2, .int 0)], [.int 4, .int 1], wP pre (wN (PP (up s D z0)) (QQ (up s D z0)) op oq tr dp wi fa ob st of F), 0)) rfl ?_
  refine mm_branch (mm_call_mono _ _) (c := (4 : Int32) ≤ 1) (s1 := (31, [(3, .int 1), (0, .ref 10), (1, .int (nI D)), (2, .int 0)], [], wP pre (wN (PP (up s D z0)) (QQ (up s D z0)) op oq tr dp wi fa ob st of F), 0)) (s2 := (7, [(3, .int 1), (0, .ref 10), (1, .int (nI D)), (2, .int 0)], [], wP pre (wN (PP (up s D z0)) (QQ (up s D z0)) op oq tr dp wi fa ob st of F), 0)) rfl (fun h => absurd h (by decide)) (fun _ => ?_)
  refine mm_skip (mm_call_mono _ _) 6 (st' := (15, [(3, .int 1), (0, .ref 10), (1, .int (nI D)), (2, .int 0)], [.long 0, .int ((nI D) + 1), .ref 11], wP pre (wN (PP (up s D z0)) (QQ (up s D z0)) op oq tr dp wi fa ob st of F), 0)) rfl ?_
  rw [nI_p1 (D)]
  show mm_W _ _ _ _ _ _ _ (15, [(3, .int 1), (0, .ref 10), (1, .int (nI D)), (2, .int 0)], [.long 0, .int (nI (D + 1)), .ref 11], wP pre (wN (PP (up s D z0)) (QQ (up s D z0)) op oq tr dp wi fa ob st of F), 0)
  refine mm_need (mm_call_mono _ _) (c := vp_in (nI (D + 1)) 480) (s' := (16, [(3, .int 1), (0, .ref 10), (1, .int (nI D)), (2, .int 0)], [], wP pre (wN (vp_updL (PP (up s D z0)) (Int32.toNatClampNeg (nI (D + 1))) 0) (QQ (up s D z0)) op oq tr dp wi fa ob st of F), 0)) rfl (vp_in_nI (show (D + 1) < 480 by omega) (by decide)) ?_
  rw [nI_clamp (show (D + 1) < 2 ^ 31 by omega)]
  show mm_W _ _ _ _ _ _ _ (16, [(3, .int 1), (0, .ref 10), (1, .int (nI D)), (2, .int 0)], [], wP pre (wN (vp_updL (PP (up s D z0)) (D + 1) 0) (QQ (up s D z0)) op oq tr dp wi fa ob st of F), 0)
  refine mm_skip (mm_call_mono _ _) 6 (st' := (24, [(3, .int 1), (0, .ref 10), (1, .int (nI D)), (2, .int 0)], [.long 1, .int ((nI D) + 1), .ref 12], wP pre (wN (vp_updL (PP (up s D z0)) (D + 1) 0) (QQ (up s D z0)) op oq tr dp wi fa ob st of F), 0)) rfl ?_
  rw [nI_p1 (D)]
  show mm_W _ _ _ _ _ _ _ (24, [(3, .int 1), (0, .ref 10), (1, .int (nI D)), (2, .int 0)], [.long 1, .int (nI (D + 1)), .ref 12], wP pre (wN (vp_updL (PP (up s D z0)) (D + 1) 0) (QQ (up s D z0)) op oq tr dp wi fa ob st of F), 0)
  refine mm_need (mm_call_mono _ _) (c := vp_in (nI (D + 1)) 480) (s' := (25, [(3, .int 1), (0, .ref 10), (1, .int (nI D)), (2, .int 0)], [], wP pre (wN (vp_updL (PP (up s D z0)) (D + 1) 0) (vp_updL (QQ (up s D z0)) (Int32.toNatClampNeg (nI (D + 1))) 1) op oq tr dp wi fa ob st of F), 0)) rfl (vp_in_nI (show (D + 1) < 480 by omega) (by decide)) ?_
  rw [nI_clamp (show (D + 1) < 2 ^ 31 by omega)]
  show mm_W _ _ _ _ _ _ _ (25, [(3, .int 1), (0, .ref 10), (1, .int (nI D)), (2, .int 0)], [], wP pre (wN (vp_updL (PP (up s D z0)) (D + 1) 0) (vp_updL (QQ (up s D z0)) (D + 1) 1) op oq tr dp wi fa ob st of F), 0)
  refine mm_skip (mm_call_mono _ _) 2 (st' := (2, [(3, .int 2), (0, .ref 10), (1, .int (nI D)), (2, .int 0)], [], wP pre (wN (vp_updL (PP (up s D z0)) (D + 1) 0) (vp_updL (QQ (up s D z0)) (D + 1) 1) op oq tr dp wi fa ob st of F), 0)) rfl ?_
  rw [pz_v, qz_v]
  show mm_W _ _ _ _ _ _ _ (2, [(3, .int 2), (0, .ref 10), (1, .int (nI D)), (2, .int 0)], [], wP pre (wN (PP (up (up s D z0) (D + 1) z0)) (QQ (up (up s D z0) (D + 1) z0)) op oq tr dp wi fa ob st of F), 0)
  refine mm_skip (mm_call_mono _ _) 2 (st' := (4, [(3, .int 2), (0, .ref 10), (1, .int (nI D)), (2, .int 0)], [.int 4, .int 2], wP pre (wN (PP (up (up s D z0) (D + 1) z0)) (QQ (up (up s D z0) (D + 1) z0)) op oq tr dp wi fa ob st of F), 0)) rfl ?_
  refine mm_branch (mm_call_mono _ _) (c := (4 : Int32) ≤ 2) (s1 := (31, [(3, .int 2), (0, .ref 10), (1, .int (nI D)), (2, .int 0)], [], wP pre (wN (PP (up (up s D z0) (D + 1) z0)) (QQ (up (up s D z0) (D + 1) z0)) op oq tr dp wi fa ob st of F), 0)) (s2 := (7, [(3, .int 2), (0, .ref 10), (1, .int (nI D)), (2, .int 0)], [], wP pre (wN (PP (up (up s D z0) (D + 1) z0)) (QQ (up (up s D z0) (D + 1) z0)) op oq tr dp wi fa ob st of F), 0)) rfl (fun h => absurd h (by decide)) (fun _ => ?_)
  refine mm_skip (mm_call_mono _ _) 6 (st' := (15, [(3, .int 2), (0, .ref 10), (1, .int (nI D)), (2, .int 0)], [.long 0, .int ((nI D) + 2), .ref 11], wP pre (wN (PP (up (up s D z0) (D + 1) z0)) (QQ (up (up s D z0) (D + 1) z0)) op oq tr dp wi fa ob st of F), 0)) rfl ?_
  rw [nI_p2 (D)]
  show mm_W _ _ _ _ _ _ _ (15, [(3, .int 2), (0, .ref 10), (1, .int (nI D)), (2, .int 0)], [.long 0, .int (nI (D + 2)), .ref 11], wP pre (wN (PP (up (up s D z0) (D + 1) z0)) (QQ (up (up s D z0) (D + 1) z0)) op oq tr dp wi fa ob st of F), 0)
  refine mm_need (mm_call_mono _ _) (c := vp_in (nI (D + 2)) 480) (s' := (16, [(3, .int 2), (0, .ref 10), (1, .int (nI D)), (2, .int 0)], [], wP pre (wN (vp_updL (PP (up (up s D z0) (D + 1) z0)) (Int32.toNatClampNeg (nI (D + 2))) 0) (QQ (up (up s D z0) (D + 1) z0)) op oq tr dp wi fa ob st of F), 0)) rfl (vp_in_nI (show (D + 2) < 480 by omega) (by decide)) ?_
  rw [nI_clamp (show (D + 2) < 2 ^ 31 by omega)]
  show mm_W _ _ _ _ _ _ _ (16, [(3, .int 2), (0, .ref 10), (1, .int (nI D)), (2, .int 0)], [], wP pre (wN (vp_updL (PP (up (up s D z0) (D + 1) z0)) (D + 2) 0) (QQ (up (up s D z0) (D + 1) z0)) op oq tr dp wi fa ob st of F), 0)
  refine mm_skip (mm_call_mono _ _) 6 (st' := (24, [(3, .int 2), (0, .ref 10), (1, .int (nI D)), (2, .int 0)], [.long 1, .int ((nI D) + 2), .ref 12], wP pre (wN (vp_updL (PP (up (up s D z0) (D + 1) z0)) (D + 2) 0) (QQ (up (up s D z0) (D + 1) z0)) op oq tr dp wi fa ob st of F), 0)) rfl ?_
  rw [nI_p2 (D)]
  show mm_W _ _ _ _ _ _ _ (24, [(3, .int 2), (0, .ref 10), (1, .int (nI D)), (2, .int 0)], [.long 1, .int (nI (D + 2)), .ref 12], wP pre (wN (vp_updL (PP (up (up s D z0) (D + 1) z0)) (D + 2) 0) (QQ (up (up s D z0) (D + 1) z0)) op oq tr dp wi fa ob st of F), 0)
  refine mm_need (mm_call_mono _ _) (c := vp_in (nI (D + 2)) 480) (s' := (25, [(3, .int 2), (0, .ref 10), (1, .int (nI D)), (2, .int 0)], [], wP pre (wN (vp_updL (PP (up (up s D z0) (D + 1) z0)) (D + 2) 0) (vp_updL (QQ (up (up s D z0) (D + 1) z0)) (Int32.toNatClampNeg (nI (D + 2))) 1) op oq tr dp wi fa ob st of F), 0)) rfl (vp_in_nI (show (D + 2) < 480 by omega) (by decide)) ?_
  rw [nI_clamp (show (D + 2) < 2 ^ 31 by omega)]
  show mm_W _ _ _ _ _ _ _ (25, [(3, .int 2), (0, .ref 10), (1, .int (nI D)), (2, .int 0)], [], wP pre (wN (vp_updL (PP (up (up s D z0) (D + 1) z0)) (D + 2) 0) (vp_updL (QQ (up (up s D z0) (D + 1) z0)) (D + 2) 1) op oq tr dp wi fa ob st of F), 0)
  refine mm_skip (mm_call_mono _ _) 2 (st' := (2, [(3, .int 3), (0, .ref 10), (1, .int (nI D)), (2, .int 0)], [], wP pre (wN (vp_updL (PP (up (up s D z0) (D + 1) z0)) (D + 2) 0) (vp_updL (QQ (up (up s D z0) (D + 1) z0)) (D + 2) 1) op oq tr dp wi fa ob st of F), 0)) rfl ?_
  rw [pz_v, qz_v]
  show mm_W _ _ _ _ _ _ _ (2, [(3, .int 3), (0, .ref 10), (1, .int (nI D)), (2, .int 0)], [], wP pre (wN (PP (up (up (up s D z0) (D + 1) z0) (D + 2) z0)) (QQ (up (up (up s D z0) (D + 1) z0) (D + 2) z0)) op oq tr dp wi fa ob st of F), 0)
  refine mm_skip (mm_call_mono _ _) 2 (st' := (4, [(3, .int 3), (0, .ref 10), (1, .int (nI D)), (2, .int 0)], [.int 4, .int 3], wP pre (wN (PP (up (up (up s D z0) (D + 1) z0) (D + 2) z0)) (QQ (up (up (up s D z0) (D + 1) z0) (D + 2) z0)) op oq tr dp wi fa ob st of F), 0)) rfl ?_
  refine mm_branch (mm_call_mono _ _) (c := (4 : Int32) ≤ 3) (s1 := (31, [(3, .int 3), (0, .ref 10), (1, .int (nI D)), (2, .int 0)], [], wP pre (wN (PP (up (up (up s D z0) (D + 1) z0) (D + 2) z0)) (QQ (up (up (up s D z0) (D + 1) z0) (D + 2) z0)) op oq tr dp wi fa ob st of F), 0)) (s2 := (7, [(3, .int 3), (0, .ref 10), (1, .int (nI D)), (2, .int 0)], [], wP pre (wN (PP (up (up (up s D z0) (D + 1) z0) (D + 2) z0)) (QQ (up (up (up s D z0) (D + 1) z0) (D + 2) z0)) op oq tr dp wi fa ob st of F), 0)) rfl (fun h => absurd h (by decide)) (fun _ => ?_)
  refine mm_skip (mm_call_mono _ _) 6 (st' := (15, [(3, .int 3), (0, .ref 10), (1, .int (nI D)), (2, .int 0)], [.long 0, .int ((nI D) + 3), .ref 11], wP pre (wN (PP (up (up (up s D z0) (D + 1) z0) (D + 2) z0)) (QQ (up (up (up s D z0) (D + 1) z0) (D + 2) z0)) op oq tr dp wi fa ob st of F), 0)) rfl ?_
  rw [nI_p3 (D)]
  show mm_W _ _ _ _ _ _ _ (15, [(3, .int 3), (0, .ref 10), (1, .int (nI D)), (2, .int 0)], [.long 0, .int (nI (D + 3)), .ref 11], wP pre (wN (PP (up (up (up s D z0) (D + 1) z0) (D + 2) z0)) (QQ (up (up (up s D z0) (D + 1) z0) (D + 2) z0)) op oq tr dp wi fa ob st of F), 0)
  refine mm_need (mm_call_mono _ _) (c := vp_in (nI (D + 3)) 480) (s' := (16, [(3, .int 3), (0, .ref 10), (1, .int (nI D)), (2, .int 0)], [], wP pre (wN (vp_updL (PP (up (up (up s D z0) (D + 1) z0) (D + 2) z0)) (Int32.toNatClampNeg (nI (D + 3))) 0) (QQ (up (up (up s D z0) (D + 1) z0) (D + 2) z0)) op oq tr dp wi fa ob st of F), 0)) rfl (vp_in_nI (show (D + 3) < 480 by omega) (by decide)) ?_
  rw [nI_clamp (show (D + 3) < 2 ^ 31 by omega)]
  show mm_W _ _ _ _ _ _ _ (16, [(3, .int 3), (0, .ref 10), (1, .int (nI D)), (2, .int 0)], [], wP pre (wN (vp_updL (PP (up (up (up s D z0) (D + 1) z0) (D + 2) z0)) (D + 3) 0) (QQ (up (up (up s D z0) (D + 1) z0) (D + 2) z0)) op oq tr dp wi fa ob st of F), 0)
  refine mm_skip (mm_call_mono _ _) 6 (st' := (24, [(3, .int 3), (0, .ref 10), (1, .int (nI D)), (2, .int 0)], [.long 1, .int ((nI D) + 3), .ref 12], wP pre (wN (vp_updL (PP (up (up (up s D z0) (D + 1) z0) (D + 2) z0)) (D + 3) 0) (QQ (up (up (up s D z0) (D + 1) z0) (D + 2) z0)) op oq tr dp wi fa ob st of F), 0)) rfl ?_
  rw [nI_p3 (D)]
  show mm_W _ _ _ _ _ _ _ (24, [(3, .int 3), (0, .ref 10), (1, .int (nI D)), (2, .int 0)], [.long 1, .int (nI (D + 3)), .ref 12], wP pre (wN (vp_updL (PP (up (up (up s D z0) (D + 1) z0) (D + 2) z0)) (D + 3) 0) (QQ (up (up (up s D z0) (D + 1) z0) (D + 2) z0)) op oq tr dp wi fa ob st of F), 0)
  refine mm_need (mm_call_mono _ _) (c := vp_in (nI (D + 3)) 480) (s' := (25, [(3, .int 3), (0, .ref 10), (1, .int (nI D)), (2, .int 0)], [], wP pre (wN (vp_updL (PP (up (up (up s D z0) (D + 1) z0) (D + 2) z0)) (D + 3) 0) (vp_updL (QQ (up (up (up s D z0) (D + 1) z0) (D + 2) z0)) (Int32.toNatClampNeg (nI (D + 3))) 1) op oq tr dp wi fa ob st of F), 0)) rfl (vp_in_nI (show (D + 3) < 480 by omega) (by decide)) ?_
  rw [nI_clamp (show (D + 3) < 2 ^ 31 by omega)]
  show mm_W _ _ _ _ _ _ _ (25, [(3, .int 3), (0, .ref 10), (1, .int (nI D)), (2, .int 0)], [], wP pre (wN (vp_updL (PP (up (up (up s D z0) (D + 1) z0) (D + 2) z0)) (D + 3) 0) (vp_updL (QQ (up (up (up s D z0) (D + 1) z0) (D + 2) z0)) (D + 3) 1) op oq tr dp wi fa ob st of F), 0)
  refine mm_skip (mm_call_mono _ _) 2 (st' := (2, [(3, .int 4), (0, .ref 10), (1, .int (nI D)), (2, .int 0)], [], wP pre (wN (vp_updL (PP (up (up (up s D z0) (D + 1) z0) (D + 2) z0)) (D + 3) 0) (vp_updL (QQ (up (up (up s D z0) (D + 1) z0) (D + 2) z0)) (D + 3) 1) op oq tr dp wi fa ob st of F), 0)) rfl ?_
  rw [pz_v, qz_v]
  show mm_W _ _ _ _ _ _ _ (2, [(3, .int 4), (0, .ref 10), (1, .int (nI D)), (2, .int 0)], [], wP pre (wN (PP (up (up (up (up s D z0) (D + 1) z0) (D + 2) z0) (D + 3) z0)) (QQ (up (up (up (up s D z0) (D + 1) z0) (D + 2) z0) (D + 3) z0)) op oq tr dp wi fa ob st of F), 0)
  refine mm_skip (mm_call_mono _ _) 2 (st' := (4, [(3, .int 4), (0, .ref 10), (1, .int (nI D)), (2, .int 0)], [.int 4, .int 4], wP pre (wN (PP (up (up (up (up s D z0) (D + 1) z0) (D + 2) z0) (D + 3) z0)) (QQ (up (up (up (up s D z0) (D + 1) z0) (D + 2) z0) (D + 3) z0)) op oq tr dp wi fa ob st of F), 0)) rfl ?_
  refine mm_branch (mm_call_mono _ _) (c := (4 : Int32) ≤ 4) (s1 := (31, [(3, .int 4), (0, .ref 10), (1, .int (nI D)), (2, .int 0)], [], wP pre (wN (PP (up (up (up (up s D z0) (D + 1) z0) (D + 2) z0) (D + 3) z0)) (QQ (up (up (up (up s D z0) (D + 1) z0) (D + 2) z0) (D + 3) z0)) op oq tr dp wi fa ob st of F), 0)) (s2 := (7, [(3, .int 4), (0, .ref 10), (1, .int (nI D)), (2, .int 0)], [], wP pre (wN (PP (up (up (up (up s D z0) (D + 1) z0) (D + 2) z0) (D + 3) z0)) (QQ (up (up (up (up s D z0) (D + 1) z0) (D + 2) z0) (D + 3) z0)) op oq tr dp wi fa ob st of F), 0)) rfl (fun _ => ?_) (fun h => absurd (by decide) h)
  exact mm_ret (mm_call_mono _ _) (c := True) (r := .inl none) (M := wP pre (wN (PP (up (up (up (up s D z0) (D + 1) z0) (D + 2) z0) (D + 3) z0)) (QQ (up (up (up (up s D z0) (D + 1) z0) (D + 2) z0) (D + 3) z0)) op oq tr dp wi fa ob st of F)) (u := 0) rfl trivial (by decide) (hQ _ ⟨(V_up (V_up (V_up (V_up hV fv_z0) fv_z0) fv_z0) fv_z0), hfr, hval⟩)

set_option maxRecDepth 100000 in
theorem rm_clear_1 {d : Nat} {pre : mm_pre} {s : Nat → fr} {op oq : Nat → Int64} {tr dp wi fa ob : Int32} {st of : Nat → Int32} {F : mm_M} {D : Nat} {Q : mm_R → mm_M → Prop} (hV : ∀ k, fv (s k)) (hD : D + 4 ≤ 480) (hQ : ∀ s1 : Nat → fr, clM s D 1 s1 → Q (.inl none) (wP pre (wN (PP s1) (QQ s1) op oq tr dp wi fa ob st of F))) : mm_call mm_Tb (d + 1) 65 [.ref 10, .int (nI D), .int 1] (wP pre (wN (PP s) (QQ s) op oq tr dp wi fa ob st of F)) Q := by
  have hfr : ∀ k, ¬ (D + 1 ≤ k ∧ k < D + 4) → (up (up (up s (D + 1) z0) (D + 2) z0) (D + 3) z0) k = s k := fun k hk => by rw [up_n (by omega), up_n (by omega), up_n (by omega)]
  have hval : ∀ j, 1 ≤ j → j < 4 → (up (up (up s (D + 1) z0) (D + 2) z0) (D + 3) z0) (D + j) = z0 := fun j h1 h2 => by
    rcases (show j = 1 ∨ j = 2 ∨ j = 3 by omega) with rfl | rfl | rfl
    · rw [up_n (by omega), up_n (by omega)]; exact up_s
    · rw [up_n (by omega)]; exact up_s
    · exact up_s
  refine mm_in mt_65 (Nat.le_of_ble_eq_true rfl) ?_
  show mm_W _ _ _ _ _ _ _ (0, [(0, .ref 10), (1, .int (nI D)), (2, .int 1)], [], wP pre (wN (PP s) (QQ s) op oq tr dp wi fa ob st of F), 0)
  refine mm_skip (mm_call_mono _ _) 2 (st' := (2, [(3, .int 1), (0, .ref 10), (1, .int (nI D)), (2, .int 1)], [], wP pre (wN (PP s) (QQ s) op oq tr dp wi fa ob st of F), 0)) rfl ?_
  show mm_W _ _ _ _ _ _ _ (2, [(3, .int 1), (0, .ref 10), (1, .int (nI D)), (2, .int 1)], [], wP pre (wN (PP s) (QQ s) op oq tr dp wi fa ob st of F), 0)
  refine mm_skip (mm_call_mono _ _) 2 (st' := (4, [(3, .int 1), (0, .ref 10), (1, .int (nI D)), (2, .int 1)], [.int 4, .int 1], wP pre (wN (PP s) (QQ s) op oq tr dp wi fa ob st of F), 0)) rfl ?_
  refine mm_branch (mm_call_mono _ _) (c := (4 : Int32) ≤ 1) (s1 := (31, [(3, .int 1), (0, .ref 10), (1, .int (nI D)), (2, .int 1)], [], wP pre (wN (PP s) (QQ s) op oq tr dp wi fa ob st of F), 0)) (s2 := (7, [(3, .int 1), (0, .ref 10), (1, .int (nI D)), (2, .int 1)], [], wP pre (wN (PP s) (QQ s) op oq tr dp wi fa ob st of F), 0)) rfl (fun h => absurd h (by decide)) (fun _ => ?_)
  refine mm_skip (mm_call_mono _ _) 6 (st' := (15, [(3, .int 1), (0, .ref 10), (1, .int (nI D)), (2, .int 1)], [.long 0, .int ((nI D) + 1), .ref 11], wP pre (wN (PP s) (QQ s) op oq tr dp wi fa ob st of F), 0)) rfl ?_
  rw [nI_p1 (D)]
  show mm_W _ _ _ _ _ _ _ (15, [(3, .int 1), (0, .ref 10), (1, .int (nI D)), (2, .int 1)], [.long 0, .int (nI (D + 1)), .ref 11], wP pre (wN (PP s) (QQ s) op oq tr dp wi fa ob st of F), 0)
  refine mm_need (mm_call_mono _ _) (c := vp_in (nI (D + 1)) 480) (s' := (16, [(3, .int 1), (0, .ref 10), (1, .int (nI D)), (2, .int 1)], [], wP pre (wN (vp_updL (PP s) (Int32.toNatClampNeg (nI (D + 1))) 0) (QQ s) op oq tr dp wi fa ob st of F), 0)) rfl (vp_in_nI (show (D + 1) < 480 by omega) (by decide)) ?_
  rw [nI_clamp (show (D + 1) < 2 ^ 31 by omega)]
  show mm_W _ _ _ _ _ _ _ (16, [(3, .int 1), (0, .ref 10), (1, .int (nI D)), (2, .int 1)], [], wP pre (wN (vp_updL (PP s) (D + 1) 0) (QQ s) op oq tr dp wi fa ob st of F), 0)
  refine mm_skip (mm_call_mono _ _) 6 (st' := (24, [(3, .int 1), (0, .ref 10), (1, .int (nI D)), (2, .int 1)], [.long 1, .int ((nI D) + 1), .ref 12], wP pre (wN (vp_updL (PP s) (D + 1) 0) (QQ s) op oq tr dp wi fa ob st of F), 0)) rfl ?_
  rw [nI_p1 (D)]
  show mm_W _ _ _ _ _ _ _ (24, [(3, .int 1), (0, .ref 10), (1, .int (nI D)), (2, .int 1)], [.long 1, .int (nI (D + 1)), .ref 12], wP pre (wN (vp_updL (PP s) (D + 1) 0) (QQ s) op oq tr dp wi fa ob st of F), 0)
  refine mm_need (mm_call_mono _ _) (c := vp_in (nI (D + 1)) 480) (s' := (25, [(3, .int 1), (0, .ref 10), (1, .int (nI D)), (2, .int 1)], [], wP pre (wN (vp_updL (PP s) (D + 1) 0) (vp_updL (QQ s) (Int32.toNatClampNeg (nI (D + 1))) 1) op oq tr dp wi fa ob st of F), 0)) rfl (vp_in_nI (show (D + 1) < 480 by omega) (by decide)) ?_
  rw [nI_clamp (show (D + 1) < 2 ^ 31 by omega)]
  show mm_W _ _ _ _ _ _ _ (25, [(3, .int 1), (0, .ref 10), (1, .int (nI D)), (2, .int 1)], [], wP pre (wN (vp_updL (PP s) (D + 1) 0) (vp_updL (QQ s) (D + 1) 1) op oq tr dp wi fa ob st of F), 0)
  refine mm_skip (mm_call_mono _ _) 2 (st' := (2, [(3, .int 2), (0, .ref 10), (1, .int (nI D)), (2, .int 1)], [], wP pre (wN (vp_updL (PP s) (D + 1) 0) (vp_updL (QQ s) (D + 1) 1) op oq tr dp wi fa ob st of F), 0)) rfl ?_
  rw [pz_v, qz_v]
  show mm_W _ _ _ _ _ _ _ (2, [(3, .int 2), (0, .ref 10), (1, .int (nI D)), (2, .int 1)], [], wP pre (wN (PP (up s (D + 1) z0)) (QQ (up s (D + 1) z0)) op oq tr dp wi fa ob st of F), 0)
  refine mm_skip (mm_call_mono _ _) 2 (st' := (4, [(3, .int 2), (0, .ref 10), (1, .int (nI D)), (2, .int 1)], [.int 4, .int 2], wP pre (wN (PP (up s (D + 1) z0)) (QQ (up s (D + 1) z0)) op oq tr dp wi fa ob st of F), 0)) rfl ?_
  refine mm_branch (mm_call_mono _ _) (c := (4 : Int32) ≤ 2) (s1 := (31, [(3, .int 2), (0, .ref 10), (1, .int (nI D)), (2, .int 1)], [], wP pre (wN (PP (up s (D + 1) z0)) (QQ (up s (D + 1) z0)) op oq tr dp wi fa ob st of F), 0)) (s2 := (7, [(3, .int 2), (0, .ref 10), (1, .int (nI D)), (2, .int 1)], [], wP pre (wN (PP (up s (D + 1) z0)) (QQ (up s (D + 1) z0)) op oq tr dp wi fa ob st of F), 0)) rfl (fun h => absurd h (by decide)) (fun _ => ?_)
  refine mm_skip (mm_call_mono _ _) 6 (st' := (15, [(3, .int 2), (0, .ref 10), (1, .int (nI D)), (2, .int 1)], [.long 0, .int ((nI D) + 2), .ref 11], wP pre (wN (PP (up s (D + 1) z0)) (QQ (up s (D + 1) z0)) op oq tr dp wi fa ob st of F), 0)) rfl ?_
  rw [nI_p2 (D)]
  show mm_W _ _ _ _ _ _ _ (15, [(3, .int 2), (0, .ref 10), (1, .int (nI D)), (2, .int 1)], [.long 0, .int (nI (D + 2)), .ref 11], wP pre (wN (PP (up s (D + 1) z0)) (QQ (up s (D + 1) z0)) op oq tr dp wi fa ob st of F), 0)
  refine mm_need (mm_call_mono _ _) (c := vp_in (nI (D + 2)) 480) (s' := (16, [(3, .int 2), (0, .ref 10), (1, .int (nI D)), (2, .int 1)], [], wP pre (wN (vp_updL (PP (up s (D + 1) z0)) (Int32.toNatClampNeg (nI (D + 2))) 0) (QQ (up s (D + 1) z0)) op oq tr dp wi fa ob st of F), 0)) rfl (vp_in_nI (show (D + 2) < 480 by omega) (by decide)) ?_
  rw [nI_clamp (show (D + 2) < 2 ^ 31 by omega)]
  show mm_W _ _ _ _ _ _ _ (16, [(3, .int 2), (0, .ref 10), (1, .int (nI D)), (2, .int 1)], [], wP pre (wN (vp_updL (PP (up s (D + 1) z0)) (D + 2) 0) (QQ (up s (D + 1) z0)) op oq tr dp wi fa ob st of F), 0)
  refine mm_skip (mm_call_mono _ _) 6 (st' := (24, [(3, .int 2), (0, .ref 10), (1, .int (nI D)), (2, .int 1)], [.long 1, .int ((nI D) + 2), .ref 12], wP pre (wN (vp_updL (PP (up s (D + 1) z0)) (D + 2) 0) (QQ (up s (D + 1) z0)) op oq tr dp wi fa ob st of F), 0)) rfl ?_
  rw [nI_p2 (D)]
  show mm_W _ _ _ _ _ _ _ (24, [(3, .int 2), (0, .ref 10), (1, .int (nI D)), (2, .int 1)], [.long 1, .int (nI (D + 2)), .ref 12], wP pre (wN (vp_updL (PP (up s (D + 1) z0)) (D + 2) 0) (QQ (up s (D + 1) z0)) op oq tr dp wi fa ob st of F), 0)
  refine mm_need (mm_call_mono _ _) (c := vp_in (nI (D + 2)) 480) (s' := (25, [(3, .int 2), (0, .ref 10), (1, .int (nI D)), (2, .int 1)], [], wP pre (wN (vp_updL (PP (up s (D + 1) z0)) (D + 2) 0) (vp_updL (QQ (up s (D + 1) z0)) (Int32.toNatClampNeg (nI (D + 2))) 1) op oq tr dp wi fa ob st of F), 0)) rfl (vp_in_nI (show (D + 2) < 480 by omega) (by decide)) ?_
  rw [nI_clamp (show (D + 2) < 2 ^ 31 by omega)]
  show mm_W _ _ _ _ _ _ _ (25, [(3, .int 2), (0, .ref 10), (1, .int (nI D)), (2, .int 1)], [], wP pre (wN (vp_updL (PP (up s (D + 1) z0)) (D + 2) 0) (vp_updL (QQ (up s (D + 1) z0)) (D + 2) 1) op oq tr dp wi fa ob st of F), 0)
  refine mm_skip (mm_call_mono _ _) 2 (st' := (2, [(3, .int 3), (0, .ref 10), (1, .int (nI D)), (2, .int 1)], [], wP pre (wN (vp_updL (PP (up s (D + 1) z0)) (D + 2) 0) (vp_updL (QQ (up s (D + 1) z0)) (D + 2) 1) op oq tr dp wi fa ob st of F), 0)) rfl ?_
  rw [pz_v, qz_v]
  show mm_W _ _ _ _ _ _ _ (2, [(3, .int 3), (0, .ref 10), (1, .int (nI D)), (2, .int 1)], [], wP pre (wN (PP (up (up s (D + 1) z0) (D + 2) z0)) (QQ (up (up s (D + 1) z0) (D + 2) z0)) op oq tr dp wi fa ob st of F), 0)
  refine mm_skip (mm_call_mono _ _) 2 (st' := (4, [(3, .int 3), (0, .ref 10), (1, .int (nI D)), (2, .int 1)], [.int 4, .int 3], wP pre (wN (PP (up (up s (D + 1) z0) (D + 2) z0)) (QQ (up (up s (D + 1) z0) (D + 2) z0)) op oq tr dp wi fa ob st of F), 0)) rfl ?_
  refine mm_branch (mm_call_mono _ _) (c := (4 : Int32) ≤ 3) (s1 := (31, [(3, .int 3), (0, .ref 10), (1, .int (nI D)), (2, .int 1)], [], wP pre (wN (PP (up (up s (D + 1) z0) (D + 2) z0)) (QQ (up (up s (D + 1) z0) (D + 2) z0)) op oq tr dp wi fa ob st of F), 0)) (s2 := (7, [(3, .int 3), (0, .ref 10), (1, .int (nI D)), (2, .int 1)], [], wP pre (wN (PP (up (up s (D + 1) z0) (D + 2) z0)) (QQ (up (up s (D + 1) z0) (D + 2) z0)) op oq tr dp wi fa ob st of F), 0)) rfl (fun h => absurd h (by decide)) (fun _ => ?_)
  refine mm_skip (mm_call_mono _ _) 6 (st' := (15, [(3, .int 3), (0, .ref 10), (1, .int (nI D)), (2, .int 1)], [.long 0, .int ((nI D) + 3), .ref 11], wP pre (wN (PP (up (up s (D + 1) z0) (D + 2) z0)) (QQ (up (up s (D + 1) z0) (D + 2) z0)) op oq tr dp wi fa ob st of F), 0)) rfl ?_
  rw [nI_p3 (D)]
  show mm_W _ _ _ _ _ _ _ (15, [(3, .int 3), (0, .ref 10), (1, .int (nI D)), (2, .int 1)], [.long 0, .int (nI (D + 3)), .ref 11], wP pre (wN (PP (up (up s (D + 1) z0) (D + 2) z0)) (QQ (up (up s (D + 1) z0) (D + 2) z0)) op oq tr dp wi fa ob st of F), 0)
  refine mm_need (mm_call_mono _ _) (c := vp_in (nI (D + 3)) 480) (s' := (16, [(3, .int 3), (0, .ref 10), (1, .int (nI D)), (2, .int 1)], [], wP pre (wN (vp_updL (PP (up (up s (D + 1) z0) (D + 2) z0)) (Int32.toNatClampNeg (nI (D + 3))) 0) (QQ (up (up s (D + 1) z0) (D + 2) z0)) op oq tr dp wi fa ob st of F), 0)) rfl (vp_in_nI (show (D + 3) < 480 by omega) (by decide)) ?_
  rw [nI_clamp (show (D + 3) < 2 ^ 31 by omega)]
  show mm_W _ _ _ _ _ _ _ (16, [(3, .int 3), (0, .ref 10), (1, .int (nI D)), (2, .int 1)], [], wP pre (wN (vp_updL (PP (up (up s (D + 1) z0) (D + 2) z0)) (D + 3) 0) (QQ (up (up s (D + 1) z0) (D + 2) z0)) op oq tr dp wi fa ob st of F), 0)
  refine mm_skip (mm_call_mono _ _) 6 (st' := (24, [(3, .int 3), (0, .ref 10), (1, .int (nI D)), (2, .int 1)], [.long 1, .int ((nI D) + 3), .ref 12], wP pre (wN (vp_updL (PP (up (up s (D + 1) z0) (D + 2) z0)) (D + 3) 0) (QQ (up (up s (D + 1) z0) (D + 2) z0)) op oq tr dp wi fa ob st of F), 0)) rfl ?_
  rw [nI_p3 (D)]
  show mm_W _ _ _ _ _ _ _ (24, [(3, .int 3), (0, .ref 10), (1, .int (nI D)), (2, .int 1)], [.long 1, .int (nI (D + 3)), .ref 12], wP pre (wN (vp_updL (PP (up (up s (D + 1) z0) (D + 2) z0)) (D + 3) 0) (QQ (up (up s (D + 1) z0) (D + 2) z0)) op oq tr dp wi fa ob st of F), 0)
  refine mm_need (mm_call_mono _ _) (c := vp_in (nI (D + 3)) 480) (s' := (25, [(3, .int 3), (0, .ref 10), (1, .int (nI D)), (2, .int 1)], [], wP pre (wN (vp_updL (PP (up (up s (D + 1) z0) (D + 2) z0)) (D + 3) 0) (vp_updL (QQ (up (up s (D + 1) z0) (D + 2) z0)) (Int32.toNatClampNeg (nI (D + 3))) 1) op oq tr dp wi fa ob st of F), 0)) rfl (vp_in_nI (show (D + 3) < 480 by omega) (by decide)) ?_
  rw [nI_clamp (show (D + 3) < 2 ^ 31 by omega)]
  show mm_W _ _ _ _ _ _ _ (25, [(3, .int 3), (0, .ref 10), (1, .int (nI D)), (2, .int 1)], [], wP pre (wN (vp_updL (PP (up (up s (D + 1) z0) (D + 2) z0)) (D + 3) 0) (vp_updL (QQ (up (up s (D + 1) z0) (D + 2) z0)) (D + 3) 1) op oq tr dp wi fa ob st of F), 0)
  refine mm_skip (mm_call_mono _ _) 2 (st' := (2, [(3, .int 4), (0, .ref 10), (1, .int (nI D)), (2, .int 1)], [], wP pre (wN (vp_updL (PP (up (up s (D + 1) z0) (D + 2) z0)) (D + 3) 0) (vp_updL (QQ (up (up s (D + 1) z0) (D + 2) z0)) (D + 3) 1) op oq tr dp wi fa ob st of F), 0)) rfl ?_
  rw [pz_v, qz_v]
  show mm_W _ _ _ _ _ _ _ (2, [(3, .int 4), (0, .ref 10), (1, .int (nI D)), (2, .int 1)], [], wP pre (wN (PP (up (up (up s (D + 1) z0) (D + 2) z0) (D + 3) z0)) (QQ (up (up (up s (D + 1) z0) (D + 2) z0) (D + 3) z0)) op oq tr dp wi fa ob st of F), 0)
  refine mm_skip (mm_call_mono _ _) 2 (st' := (4, [(3, .int 4), (0, .ref 10), (1, .int (nI D)), (2, .int 1)], [.int 4, .int 4], wP pre (wN (PP (up (up (up s (D + 1) z0) (D + 2) z0) (D + 3) z0)) (QQ (up (up (up s (D + 1) z0) (D + 2) z0) (D + 3) z0)) op oq tr dp wi fa ob st of F), 0)) rfl ?_
  refine mm_branch (mm_call_mono _ _) (c := (4 : Int32) ≤ 4) (s1 := (31, [(3, .int 4), (0, .ref 10), (1, .int (nI D)), (2, .int 1)], [], wP pre (wN (PP (up (up (up s (D + 1) z0) (D + 2) z0) (D + 3) z0)) (QQ (up (up (up s (D + 1) z0) (D + 2) z0) (D + 3) z0)) op oq tr dp wi fa ob st of F), 0)) (s2 := (7, [(3, .int 4), (0, .ref 10), (1, .int (nI D)), (2, .int 1)], [], wP pre (wN (PP (up (up (up s (D + 1) z0) (D + 2) z0) (D + 3) z0)) (QQ (up (up (up s (D + 1) z0) (D + 2) z0) (D + 3) z0)) op oq tr dp wi fa ob st of F), 0)) rfl (fun _ => ?_) (fun h => absurd (by decide) h)
  exact mm_ret (mm_call_mono _ _) (c := True) (r := .inl none) (M := wP pre (wN (PP (up (up (up s (D + 1) z0) (D + 2) z0) (D + 3) z0)) (QQ (up (up (up s (D + 1) z0) (D + 2) z0) (D + 3) z0)) op oq tr dp wi fa ob st of F)) (u := 0) rfl trivial (by decide) (hQ _ ⟨(V_up (V_up (V_up hV fv_z0) fv_z0) fv_z0), hfr, hval⟩)

set_option maxRecDepth 100000 in
theorem rm_clear_2 {d : Nat} {pre : mm_pre} {s : Nat → fr} {op oq : Nat → Int64} {tr dp wi fa ob : Int32} {st of : Nat → Int32} {F : mm_M} {D : Nat} {Q : mm_R → mm_M → Prop} (hV : ∀ k, fv (s k)) (hD : D + 4 ≤ 480) (hQ : ∀ s1 : Nat → fr, clM s D 2 s1 → Q (.inl none) (wP pre (wN (PP s1) (QQ s1) op oq tr dp wi fa ob st of F))) : mm_call mm_Tb (d + 1) 65 [.ref 10, .int (nI D), .int 2] (wP pre (wN (PP s) (QQ s) op oq tr dp wi fa ob st of F)) Q := by
  have hfr : ∀ k, ¬ (D + 2 ≤ k ∧ k < D + 4) → (up (up s (D + 2) z0) (D + 3) z0) k = s k := fun k hk => by rw [up_n (by omega), up_n (by omega)]
  have hval : ∀ j, 2 ≤ j → j < 4 → (up (up s (D + 2) z0) (D + 3) z0) (D + j) = z0 := fun j h1 h2 => by
    rcases (show j = 2 ∨ j = 3 by omega) with rfl | rfl
    · rw [up_n (by omega)]; exact up_s
    · exact up_s
  refine mm_in mt_65 (Nat.le_of_ble_eq_true rfl) ?_
  show mm_W _ _ _ _ _ _ _ (0, [(0, .ref 10), (1, .int (nI D)), (2, .int 2)], [], wP pre (wN (PP s) (QQ s) op oq tr dp wi fa ob st of F), 0)
  refine mm_skip (mm_call_mono _ _) 2 (st' := (2, [(3, .int 2), (0, .ref 10), (1, .int (nI D)), (2, .int 2)], [], wP pre (wN (PP s) (QQ s) op oq tr dp wi fa ob st of F), 0)) rfl ?_
  show mm_W _ _ _ _ _ _ _ (2, [(3, .int 2), (0, .ref 10), (1, .int (nI D)), (2, .int 2)], [], wP pre (wN (PP s) (QQ s) op oq tr dp wi fa ob st of F), 0)
  refine mm_skip (mm_call_mono _ _) 2 (st' := (4, [(3, .int 2), (0, .ref 10), (1, .int (nI D)), (2, .int 2)], [.int 4, .int 2], wP pre (wN (PP s) (QQ s) op oq tr dp wi fa ob st of F), 0)) rfl ?_
  refine mm_branch (mm_call_mono _ _) (c := (4 : Int32) ≤ 2) (s1 := (31, [(3, .int 2), (0, .ref 10), (1, .int (nI D)), (2, .int 2)], [], wP pre (wN (PP s) (QQ s) op oq tr dp wi fa ob st of F), 0)) (s2 := (7, [(3, .int 2), (0, .ref 10), (1, .int (nI D)), (2, .int 2)], [], wP pre (wN (PP s) (QQ s) op oq tr dp wi fa ob st of F), 0)) rfl (fun h => absurd h (by decide)) (fun _ => ?_)
  refine mm_skip (mm_call_mono _ _) 6 (st' := (15, [(3, .int 2), (0, .ref 10), (1, .int (nI D)), (2, .int 2)], [.long 0, .int ((nI D) + 2), .ref 11], wP pre (wN (PP s) (QQ s) op oq tr dp wi fa ob st of F), 0)) rfl ?_
  rw [nI_p2 (D)]
  show mm_W _ _ _ _ _ _ _ (15, [(3, .int 2), (0, .ref 10), (1, .int (nI D)), (2, .int 2)], [.long 0, .int (nI (D + 2)), .ref 11], wP pre (wN (PP s) (QQ s) op oq tr dp wi fa ob st of F), 0)
  refine mm_need (mm_call_mono _ _) (c := vp_in (nI (D + 2)) 480) (s' := (16, [(3, .int 2), (0, .ref 10), (1, .int (nI D)), (2, .int 2)], [], wP pre (wN (vp_updL (PP s) (Int32.toNatClampNeg (nI (D + 2))) 0) (QQ s) op oq tr dp wi fa ob st of F), 0)) rfl (vp_in_nI (show (D + 2) < 480 by omega) (by decide)) ?_
  rw [nI_clamp (show (D + 2) < 2 ^ 31 by omega)]
  show mm_W _ _ _ _ _ _ _ (16, [(3, .int 2), (0, .ref 10), (1, .int (nI D)), (2, .int 2)], [], wP pre (wN (vp_updL (PP s) (D + 2) 0) (QQ s) op oq tr dp wi fa ob st of F), 0)
  refine mm_skip (mm_call_mono _ _) 6 (st' := (24, [(3, .int 2), (0, .ref 10), (1, .int (nI D)), (2, .int 2)], [.long 1, .int ((nI D) + 2), .ref 12], wP pre (wN (vp_updL (PP s) (D + 2) 0) (QQ s) op oq tr dp wi fa ob st of F), 0)) rfl ?_
  rw [nI_p2 (D)]
  show mm_W _ _ _ _ _ _ _ (24, [(3, .int 2), (0, .ref 10), (1, .int (nI D)), (2, .int 2)], [.long 1, .int (nI (D + 2)), .ref 12], wP pre (wN (vp_updL (PP s) (D + 2) 0) (QQ s) op oq tr dp wi fa ob st of F), 0)
  refine mm_need (mm_call_mono _ _) (c := vp_in (nI (D + 2)) 480) (s' := (25, [(3, .int 2), (0, .ref 10), (1, .int (nI D)), (2, .int 2)], [], wP pre (wN (vp_updL (PP s) (D + 2) 0) (vp_updL (QQ s) (Int32.toNatClampNeg (nI (D + 2))) 1) op oq tr dp wi fa ob st of F), 0)) rfl (vp_in_nI (show (D + 2) < 480 by omega) (by decide)) ?_
  rw [nI_clamp (show (D + 2) < 2 ^ 31 by omega)]
  show mm_W _ _ _ _ _ _ _ (25, [(3, .int 2), (0, .ref 10), (1, .int (nI D)), (2, .int 2)], [], wP pre (wN (vp_updL (PP s) (D + 2) 0) (vp_updL (QQ s) (D + 2) 1) op oq tr dp wi fa ob st of F), 0)
  refine mm_skip (mm_call_mono _ _) 2 (st' := (2, [(3, .int 3), (0, .ref 10), (1, .int (nI D)), (2, .int 2)], [], wP pre (wN (vp_updL (PP s) (D + 2) 0) (vp_updL (QQ s) (D + 2) 1) op oq tr dp wi fa ob st of F), 0)) rfl ?_
  rw [pz_v, qz_v]
  show mm_W _ _ _ _ _ _ _ (2, [(3, .int 3), (0, .ref 10), (1, .int (nI D)), (2, .int 2)], [], wP pre (wN (PP (up s (D + 2) z0)) (QQ (up s (D + 2) z0)) op oq tr dp wi fa ob st of F), 0)
  refine mm_skip (mm_call_mono _ _) 2 (st' := (4, [(3, .int 3), (0, .ref 10), (1, .int (nI D)), (2, .int 2)], [.int 4, .int 3], wP pre (wN (PP (up s (D + 2) z0)) (QQ (up s (D + 2) z0)) op oq tr dp wi fa ob st of F), 0)) rfl ?_
  refine mm_branch (mm_call_mono _ _) (c := (4 : Int32) ≤ 3) (s1 := (31, [(3, .int 3), (0, .ref 10), (1, .int (nI D)), (2, .int 2)], [], wP pre (wN (PP (up s (D + 2) z0)) (QQ (up s (D + 2) z0)) op oq tr dp wi fa ob st of F), 0)) (s2 := (7, [(3, .int 3), (0, .ref 10), (1, .int (nI D)), (2, .int 2)], [], wP pre (wN (PP (up s (D + 2) z0)) (QQ (up s (D + 2) z0)) op oq tr dp wi fa ob st of F), 0)) rfl (fun h => absurd h (by decide)) (fun _ => ?_)
  refine mm_skip (mm_call_mono _ _) 6 (st' := (15, [(3, .int 3), (0, .ref 10), (1, .int (nI D)), (2, .int 2)], [.long 0, .int ((nI D) + 3), .ref 11], wP pre (wN (PP (up s (D + 2) z0)) (QQ (up s (D + 2) z0)) op oq tr dp wi fa ob st of F), 0)) rfl ?_
  rw [nI_p3 (D)]
  show mm_W _ _ _ _ _ _ _ (15, [(3, .int 3), (0, .ref 10), (1, .int (nI D)), (2, .int 2)], [.long 0, .int (nI (D + 3)), .ref 11], wP pre (wN (PP (up s (D + 2) z0)) (QQ (up s (D + 2) z0)) op oq tr dp wi fa ob st of F), 0)
  refine mm_need (mm_call_mono _ _) (c := vp_in (nI (D + 3)) 480) (s' := (16, [(3, .int 3), (0, .ref 10), (1, .int (nI D)), (2, .int 2)], [], wP pre (wN (vp_updL (PP (up s (D + 2) z0)) (Int32.toNatClampNeg (nI (D + 3))) 0) (QQ (up s (D + 2) z0)) op oq tr dp wi fa ob st of F), 0)) rfl (vp_in_nI (show (D + 3) < 480 by omega) (by decide)) ?_
  rw [nI_clamp (show (D + 3) < 2 ^ 31 by omega)]
  show mm_W _ _ _ _ _ _ _ (16, [(3, .int 3), (0, .ref 10), (1, .int (nI D)), (2, .int 2)], [], wP pre (wN (vp_updL (PP (up s (D + 2) z0)) (D + 3) 0) (QQ (up s (D + 2) z0)) op oq tr dp wi fa ob st of F), 0)
  refine mm_skip (mm_call_mono _ _) 6 (st' := (24, [(3, .int 3), (0, .ref 10), (1, .int (nI D)), (2, .int 2)], [.long 1, .int ((nI D) + 3), .ref 12], wP pre (wN (vp_updL (PP (up s (D + 2) z0)) (D + 3) 0) (QQ (up s (D + 2) z0)) op oq tr dp wi fa ob st of F), 0)) rfl ?_
  rw [nI_p3 (D)]
  show mm_W _ _ _ _ _ _ _ (24, [(3, .int 3), (0, .ref 10), (1, .int (nI D)), (2, .int 2)], [.long 1, .int (nI (D + 3)), .ref 12], wP pre (wN (vp_updL (PP (up s (D + 2) z0)) (D + 3) 0) (QQ (up s (D + 2) z0)) op oq tr dp wi fa ob st of F), 0)
  refine mm_need (mm_call_mono _ _) (c := vp_in (nI (D + 3)) 480) (s' := (25, [(3, .int 3), (0, .ref 10), (1, .int (nI D)), (2, .int 2)], [], wP pre (wN (vp_updL (PP (up s (D + 2) z0)) (D + 3) 0) (vp_updL (QQ (up s (D + 2) z0)) (Int32.toNatClampNeg (nI (D + 3))) 1) op oq tr dp wi fa ob st of F), 0)) rfl (vp_in_nI (show (D + 3) < 480 by omega) (by decide)) ?_
  rw [nI_clamp (show (D + 3) < 2 ^ 31 by omega)]
  show mm_W _ _ _ _ _ _ _ (25, [(3, .int 3), (0, .ref 10), (1, .int (nI D)), (2, .int 2)], [], wP pre (wN (vp_updL (PP (up s (D + 2) z0)) (D + 3) 0) (vp_updL (QQ (up s (D + 2) z0)) (D + 3) 1) op oq tr dp wi fa ob st of F), 0)
  refine mm_skip (mm_call_mono _ _) 2 (st' := (2, [(3, .int 4), (0, .ref 10), (1, .int (nI D)), (2, .int 2)], [], wP pre (wN (vp_updL (PP (up s (D + 2) z0)) (D + 3) 0) (vp_updL (QQ (up s (D + 2) z0)) (D + 3) 1) op oq tr dp wi fa ob st of F), 0)) rfl ?_
  rw [pz_v, qz_v]
  show mm_W _ _ _ _ _ _ _ (2, [(3, .int 4), (0, .ref 10), (1, .int (nI D)), (2, .int 2)], [], wP pre (wN (PP (up (up s (D + 2) z0) (D + 3) z0)) (QQ (up (up s (D + 2) z0) (D + 3) z0)) op oq tr dp wi fa ob st of F), 0)
  refine mm_skip (mm_call_mono _ _) 2 (st' := (4, [(3, .int 4), (0, .ref 10), (1, .int (nI D)), (2, .int 2)], [.int 4, .int 4], wP pre (wN (PP (up (up s (D + 2) z0) (D + 3) z0)) (QQ (up (up s (D + 2) z0) (D + 3) z0)) op oq tr dp wi fa ob st of F), 0)) rfl ?_
  refine mm_branch (mm_call_mono _ _) (c := (4 : Int32) ≤ 4) (s1 := (31, [(3, .int 4), (0, .ref 10), (1, .int (nI D)), (2, .int 2)], [], wP pre (wN (PP (up (up s (D + 2) z0) (D + 3) z0)) (QQ (up (up s (D + 2) z0) (D + 3) z0)) op oq tr dp wi fa ob st of F), 0)) (s2 := (7, [(3, .int 4), (0, .ref 10), (1, .int (nI D)), (2, .int 2)], [], wP pre (wN (PP (up (up s (D + 2) z0) (D + 3) z0)) (QQ (up (up s (D + 2) z0) (D + 3) z0)) op oq tr dp wi fa ob st of F), 0)) rfl (fun _ => ?_) (fun h => absurd (by decide) h)
  exact mm_ret (mm_call_mono _ _) (c := True) (r := .inl none) (M := wP pre (wN (PP (up (up s (D + 2) z0) (D + 3) z0)) (QQ (up (up s (D + 2) z0) (D + 3) z0)) op oq tr dp wi fa ob st of F)) (u := 0) rfl trivial (by decide) (hQ _ ⟨(V_up (V_up hV fv_z0) fv_z0), hfr, hval⟩)

set_option maxRecDepth 100000 in
theorem rm_clear_4 {d : Nat} {pre : mm_pre} {s : Nat → fr} {op oq : Nat → Int64} {tr dp wi fa ob : Int32} {st of : Nat → Int32} {F : mm_M} {D : Nat} {Q : mm_R → mm_M → Prop} (hV : ∀ k, fv (s k)) (hD : D + 4 ≤ 480) (hQ : ∀ s1 : Nat → fr, clM s D 4 s1 → Q (.inl none) (wP pre (wN (PP s1) (QQ s1) op oq tr dp wi fa ob st of F))) : mm_call mm_Tb (d + 1) 65 [.ref 10, .int (nI D), .int 4] (wP pre (wN (PP s) (QQ s) op oq tr dp wi fa ob st of F)) Q := by
  have hfr : ∀ k, ¬ (D + 4 ≤ k ∧ k < D + 4) → s k = s k := fun k hk => by rfl
  have hval : ∀ j, 4 ≤ j → j < 4 → s (D + j) = z0 := fun j h1 h2 => absurd h2 (by omega)
  refine mm_in mt_65 (Nat.le_of_ble_eq_true rfl) ?_
  show mm_W _ _ _ _ _ _ _ (0, [(0, .ref 10), (1, .int (nI D)), (2, .int 4)], [], wP pre (wN (PP s) (QQ s) op oq tr dp wi fa ob st of F), 0)
  refine mm_skip (mm_call_mono _ _) 2 (st' := (2, [(3, .int 4), (0, .ref 10), (1, .int (nI D)), (2, .int 4)], [], wP pre (wN (PP s) (QQ s) op oq tr dp wi fa ob st of F), 0)) rfl ?_
  show mm_W _ _ _ _ _ _ _ (2, [(3, .int 4), (0, .ref 10), (1, .int (nI D)), (2, .int 4)], [], wP pre (wN (PP s) (QQ s) op oq tr dp wi fa ob st of F), 0)
  refine mm_skip (mm_call_mono _ _) 2 (st' := (4, [(3, .int 4), (0, .ref 10), (1, .int (nI D)), (2, .int 4)], [.int 4, .int 4], wP pre (wN (PP s) (QQ s) op oq tr dp wi fa ob st of F), 0)) rfl ?_
  refine mm_branch (mm_call_mono _ _) (c := (4 : Int32) ≤ 4) (s1 := (31, [(3, .int 4), (0, .ref 10), (1, .int (nI D)), (2, .int 4)], [], wP pre (wN (PP s) (QQ s) op oq tr dp wi fa ob st of F), 0)) (s2 := (7, [(3, .int 4), (0, .ref 10), (1, .int (nI D)), (2, .int 4)], [], wP pre (wN (PP s) (QQ s) op oq tr dp wi fa ob st of F), 0)) rfl (fun _ => ?_) (fun h => absurd (by decide) h)
  exact mm_ret (mm_call_mono _ _) (c := True) (r := .inl none) (M := wP pre (wN (PP s) (QQ s) op oq tr dp wi fa ob st of F)) (u := 0) rfl trivial (by decide) (hQ _ ⟨hV, hfr, hval⟩)

set_option maxRecDepth 100000 in
theorem rm_isZero_2 {d : Nat} {pre : mm_pre} {s : Nat → fr} {op oq : Nat → Int64} {tr dp wi fa ob : Int32} {st of : Nat → Int32} {F : mm_M} {A : Nat} {Q : mm_R → mm_M → Prop} (hV : ∀ k, fv (s k)) (hA : A + 2 ≤ 480) (hQ : Q (.inl (some (.int (bz (iszm 2 s A))))) (wP pre (wN (PP s) (QQ s) op oq tr dp wi fa ob st of F))) : mm_call mm_Tb (d + 1) 63 [.ref 10, .int (nI A), .int 2] (wP pre (wN (PP s) (QQ s) op oq tr dp wi fa ob st of F)) Q := by
  refine mm_in mt_63 (Nat.le_of_ble_eq_true rfl) ?_
  show mm_W _ _ _ _ _ _ _ (0, [(0, .ref 10), (1, .int (nI A)), (2, .int 2)], [], wP pre (wN (PP s) (QQ s) op oq tr dp wi fa ob st of F), 0)
  refine mm_skip (mm_call_mono _ _) 6 (st' := (8, [(4, .int 0), (3, .int 1), (0, .ref 10), (1, .int (nI A)), (2, .int 2)], [.int 2, .int 0], wP pre (wN (PP s) (QQ s) op oq tr dp wi fa ob st of F), 0)) rfl ?_
  refine mm_branch (mm_call_mono _ _) (c := (2 : Int32) ≤ 0) (s1 := (41, [(4, .int 0), (3, .int 1), (0, .ref 10), (1, .int (nI A)), (2, .int 2)], [], wP pre (wN (PP s) (QQ s) op oq tr dp wi fa ob st of F), 0)) (s2 := (11, [(4, .int 0), (3, .int 1), (0, .ref 10), (1, .int (nI A)), (2, .int 2)], [], wP pre (wN (PP s) (QQ s) op oq tr dp wi fa ob st of F), 0)) rfl (fun h => absurd h (by decide)) (fun _ => ?_)
  refine mm_skip (mm_call_mono _ _) 1 (st' := (12, [(4, .int 0), (3, .int 1), (0, .ref 10), (1, .int (nI A)), (2, .int 2)], [.int 1], wP pre (wN (PP s) (QQ s) op oq tr dp wi fa ob st of F), 0)) rfl ?_
  refine mm_branch (mm_call_mono _ _) (c := (1 : Int32) = 0) (s1 := (33, [(4, .int 0), (3, .int 1), (0, .ref 10), (1, .int (nI A)), (2, .int 2)], [], wP pre (wN (PP s) (QQ s) op oq tr dp wi fa ob st of F), 0)) (s2 := (15, [(4, .int 0), (3, .int 1), (0, .ref 10), (1, .int (nI A)), (2, .int 2)], [], wP pre (wN (PP s) (QQ s) op oq tr dp wi fa ob st of F), 0)) rfl (fun h => absurd h (by decide)) (fun _ => ?_)
  refine mm_skip (mm_call_mono _ _) 5 (st' := (23, [(4, .int 0), (3, .int 1), (0, .ref 10), (1, .int (nI A)), (2, .int 2)], [.int ((nI A) + 0), .ref 11], wP pre (wN (PP s) (QQ s) op oq tr dp wi fa ob st of F), 0)) rfl ?_
  rw [nI_p0 (A)]
  show mm_W _ _ _ _ _ _ _ (23, [(4, .int 0), (3, .int 1), (0, .ref 10), (1, .int (nI A)), (2, .int 2)], [.int (nI A), .ref 11], wP pre (wN (PP s) (QQ s) op oq tr dp wi fa ob st of F), 0)
  refine mm_need (mm_call_mono _ _) (c := vp_in (nI A) 480) (s' := (24, [(4, .int 0), (3, .int 1), (0, .ref 10), (1, .int (nI A)), (2, .int 2)], [.long ((PP s) (Int32.toNatClampNeg (nI A)))], wP pre (wN (PP s) (QQ s) op oq tr dp wi fa ob st of F), 0)) rfl (vp_in_nI (show A < 480 by omega) (by decide)) ?_
  rw [nI_clamp (show A < 2 ^ 31 by omega)]
  show mm_W _ _ _ _ _ _ _ (24, [(4, .int 0), (3, .int 1), (0, .ref 10), (1, .int (nI A)), (2, .int 2)], [.long ((PP s) A)], wP pre (wN (PP s) (QQ s) op oq tr dp wi fa ob st of F), 0)
  refine mm_skip (mm_call_mono _ _) 2 (st' := (26, [(4, .int 0), (3, .int 1), (0, .ref 10), (1, .int (nI A)), (2, .int 2)], [.int (lg_cmp ((PP s) A) 0)], wP pre (wN (PP s) (QQ s) op oq tr dp wi fa ob st of F), 0)) rfl ?_
  refine mm_branch (mm_call_mono _ _) (c := (lg_cmp ((PP s) A) 0) = 0) (s1 := (29, [(4, .int 0), (3, .int 1), (0, .ref 10), (1, .int (nI A)), (2, .int 2)], [], wP pre (wN (PP s) (QQ s) op oq tr dp wi fa ob st of F), 0)) (s2 := (33, [(4, .int 0), (3, .int 1), (0, .ref 10), (1, .int (nI A)), (2, .int 2)], [], wP pre (wN (PP s) (QQ s) op oq tr dp wi fa ob st of F), 0)) rfl (fun z0 => ?_) (fun z0 => ?_)
  · have z0 := (cz hV).mp z0
    refine mm_skip (mm_call_mono _ _) 7 (st' := (8, [(4, .int 1), (3, .int 1), (0, .ref 10), (1, .int (nI A)), (2, .int 2)], [.int 2, .int 1], wP pre (wN (PP s) (QQ s) op oq tr dp wi fa ob st of F), 0)) rfl ?_
    refine mm_branch (mm_call_mono _ _) (c := (2 : Int32) ≤ 1) (s1 := (41, [(4, .int 1), (3, .int 1), (0, .ref 10), (1, .int (nI A)), (2, .int 2)], [], wP pre (wN (PP s) (QQ s) op oq tr dp wi fa ob st of F), 0)) (s2 := (11, [(4, .int 1), (3, .int 1), (0, .ref 10), (1, .int (nI A)), (2, .int 2)], [], wP pre (wN (PP s) (QQ s) op oq tr dp wi fa ob st of F), 0)) rfl (fun h => absurd h (by decide)) (fun _ => ?_)
    refine mm_skip (mm_call_mono _ _) 1 (st' := (12, [(4, .int 1), (3, .int 1), (0, .ref 10), (1, .int (nI A)), (2, .int 2)], [.int 1], wP pre (wN (PP s) (QQ s) op oq tr dp wi fa ob st of F), 0)) rfl ?_
    refine mm_branch (mm_call_mono _ _) (c := (1 : Int32) = 0) (s1 := (33, [(4, .int 1), (3, .int 1), (0, .ref 10), (1, .int (nI A)), (2, .int 2)], [], wP pre (wN (PP s) (QQ s) op oq tr dp wi fa ob st of F), 0)) (s2 := (15, [(4, .int 1), (3, .int 1), (0, .ref 10), (1, .int (nI A)), (2, .int 2)], [], wP pre (wN (PP s) (QQ s) op oq tr dp wi fa ob st of F), 0)) rfl (fun h => absurd h (by decide)) (fun _ => ?_)
    refine mm_skip (mm_call_mono _ _) 5 (st' := (23, [(4, .int 1), (3, .int 1), (0, .ref 10), (1, .int (nI A)), (2, .int 2)], [.int ((nI A) + 1), .ref 11], wP pre (wN (PP s) (QQ s) op oq tr dp wi fa ob st of F), 0)) rfl ?_
    rw [nI_p1 (A)]
    show mm_W _ _ _ _ _ _ _ (23, [(4, .int 1), (3, .int 1), (0, .ref 10), (1, .int (nI A)), (2, .int 2)], [.int (nI (A + 1)), .ref 11], wP pre (wN (PP s) (QQ s) op oq tr dp wi fa ob st of F), 0)
    refine mm_need (mm_call_mono _ _) (c := vp_in (nI (A + 1)) 480) (s' := (24, [(4, .int 1), (3, .int 1), (0, .ref 10), (1, .int (nI A)), (2, .int 2)], [.long ((PP s) (Int32.toNatClampNeg (nI (A + 1))))], wP pre (wN (PP s) (QQ s) op oq tr dp wi fa ob st of F), 0)) rfl (vp_in_nI (show (A + 1) < 480 by omega) (by decide)) ?_
    rw [nI_clamp (show (A + 1) < 2 ^ 31 by omega)]
    show mm_W _ _ _ _ _ _ _ (24, [(4, .int 1), (3, .int 1), (0, .ref 10), (1, .int (nI A)), (2, .int 2)], [.long ((PP s) (A + 1))], wP pre (wN (PP s) (QQ s) op oq tr dp wi fa ob st of F), 0)
    refine mm_skip (mm_call_mono _ _) 2 (st' := (26, [(4, .int 1), (3, .int 1), (0, .ref 10), (1, .int (nI A)), (2, .int 2)], [.int (lg_cmp ((PP s) (A + 1)) 0)], wP pre (wN (PP s) (QQ s) op oq tr dp wi fa ob st of F), 0)) rfl ?_
    refine mm_branch (mm_call_mono _ _) (c := (lg_cmp ((PP s) (A + 1)) 0) = 0) (s1 := (29, [(4, .int 1), (3, .int 1), (0, .ref 10), (1, .int (nI A)), (2, .int 2)], [], wP pre (wN (PP s) (QQ s) op oq tr dp wi fa ob st of F), 0)) (s2 := (33, [(4, .int 1), (3, .int 1), (0, .ref 10), (1, .int (nI A)), (2, .int 2)], [], wP pre (wN (PP s) (QQ s) op oq tr dp wi fa ob st of F), 0)) rfl (fun z1 => ?_) (fun z1 => ?_)
    · have z1 := (cz hV).mp z1
      refine mm_skip (mm_call_mono _ _) 7 (st' := (8, [(4, .int 2), (3, .int 1), (0, .ref 10), (1, .int (nI A)), (2, .int 2)], [.int 2, .int 2], wP pre (wN (PP s) (QQ s) op oq tr dp wi fa ob st of F), 0)) rfl ?_
      refine mm_branch (mm_call_mono _ _) (c := (2 : Int32) ≤ 2) (s1 := (41, [(4, .int 2), (3, .int 1), (0, .ref 10), (1, .int (nI A)), (2, .int 2)], [], wP pre (wN (PP s) (QQ s) op oq tr dp wi fa ob st of F), 0)) (s2 := (11, [(4, .int 2), (3, .int 1), (0, .ref 10), (1, .int (nI A)), (2, .int 2)], [], wP pre (wN (PP s) (QQ s) op oq tr dp wi fa ob st of F), 0)) rfl (fun _ => ?_) (fun h => absurd (by decide) h)
      refine mm_skip (mm_call_mono _ _) 1 (st' := (42, [(4, .int 2), (3, .int 1), (0, .ref 10), (1, .int (nI A)), (2, .int 2)], [.int 1], wP pre (wN (PP s) (QQ s) op oq tr dp wi fa ob st of F), 0)) rfl ?_
      exact mm_ret (mm_call_mono _ _) (c := mm_z 1) (r := .inl (some (.int 1))) (M := wP pre (wN (PP s) (QQ s) op oq tr dp wi fa ob st of F)) (u := 0) rfl (by unfold mm_z; decide) (by decide) (by rw [bz_t (fun j hj => by rcases (show j = 0 ∨ j = 1 by omega) with rfl | rfl <;> assumption)] at hQ; exact hQ)
    · skip
      refine mm_skip (mm_call_mono _ _) 6 (st' := (8, [(4, .int 2), (3, .int 0), (0, .ref 10), (1, .int (nI A)), (2, .int 2)], [.int 2, .int 2], wP pre (wN (PP s) (QQ s) op oq tr dp wi fa ob st of F), 0)) rfl ?_
      refine mm_branch (mm_call_mono _ _) (c := (2 : Int32) ≤ 2) (s1 := (41, [(4, .int 2), (3, .int 0), (0, .ref 10), (1, .int (nI A)), (2, .int 2)], [], wP pre (wN (PP s) (QQ s) op oq tr dp wi fa ob st of F), 0)) (s2 := (11, [(4, .int 2), (3, .int 0), (0, .ref 10), (1, .int (nI A)), (2, .int 2)], [], wP pre (wN (PP s) (QQ s) op oq tr dp wi fa ob st of F), 0)) rfl (fun _ => ?_) (fun h => absurd (by decide) h)
      refine mm_skip (mm_call_mono _ _) 1 (st' := (42, [(4, .int 2), (3, .int 0), (0, .ref 10), (1, .int (nI A)), (2, .int 2)], [.int 0], wP pre (wN (PP s) (QQ s) op oq tr dp wi fa ob st of F), 0)) rfl ?_
      exact mm_ret (mm_call_mono _ _) (c := mm_z 0) (r := .inl (some (.int 0))) (M := wP pre (wN (PP s) (QQ s) op oq tr dp wi fa ob st of F)) (u := 0) rfl (by unfold mm_z; decide) (by decide) (by rw [bz_f (fun h => z1 ((cz hV).mpr (h 1 (by omega))))] at hQ; exact hQ)
  · skip
    refine mm_skip (mm_call_mono _ _) 6 (st' := (8, [(4, .int 1), (3, .int 0), (0, .ref 10), (1, .int (nI A)), (2, .int 2)], [.int 2, .int 1], wP pre (wN (PP s) (QQ s) op oq tr dp wi fa ob st of F), 0)) rfl ?_
    refine mm_branch (mm_call_mono _ _) (c := (2 : Int32) ≤ 1) (s1 := (41, [(4, .int 1), (3, .int 0), (0, .ref 10), (1, .int (nI A)), (2, .int 2)], [], wP pre (wN (PP s) (QQ s) op oq tr dp wi fa ob st of F), 0)) (s2 := (11, [(4, .int 1), (3, .int 0), (0, .ref 10), (1, .int (nI A)), (2, .int 2)], [], wP pre (wN (PP s) (QQ s) op oq tr dp wi fa ob st of F), 0)) rfl (fun h => absurd h (by decide)) (fun _ => ?_)
    refine mm_skip (mm_call_mono _ _) 1 (st' := (12, [(4, .int 1), (3, .int 0), (0, .ref 10), (1, .int (nI A)), (2, .int 2)], [.int 0], wP pre (wN (PP s) (QQ s) op oq tr dp wi fa ob st of F), 0)) rfl ?_
    refine mm_branch (mm_call_mono _ _) (c := (0 : Int32) = 0) (s1 := (33, [(4, .int 1), (3, .int 0), (0, .ref 10), (1, .int (nI A)), (2, .int 2)], [], wP pre (wN (PP s) (QQ s) op oq tr dp wi fa ob st of F), 0)) (s2 := (15, [(4, .int 1), (3, .int 0), (0, .ref 10), (1, .int (nI A)), (2, .int 2)], [], wP pre (wN (PP s) (QQ s) op oq tr dp wi fa ob st of F), 0)) rfl (fun _ => ?_) (fun h => absurd (by decide) h)
    refine mm_skip (mm_call_mono _ _) 6 (st' := (8, [(4, .int 2), (3, .int 0), (0, .ref 10), (1, .int (nI A)), (2, .int 2)], [.int 2, .int 2], wP pre (wN (PP s) (QQ s) op oq tr dp wi fa ob st of F), 0)) rfl ?_
    refine mm_branch (mm_call_mono _ _) (c := (2 : Int32) ≤ 2) (s1 := (41, [(4, .int 2), (3, .int 0), (0, .ref 10), (1, .int (nI A)), (2, .int 2)], [], wP pre (wN (PP s) (QQ s) op oq tr dp wi fa ob st of F), 0)) (s2 := (11, [(4, .int 2), (3, .int 0), (0, .ref 10), (1, .int (nI A)), (2, .int 2)], [], wP pre (wN (PP s) (QQ s) op oq tr dp wi fa ob st of F), 0)) rfl (fun _ => ?_) (fun h => absurd (by decide) h)
    refine mm_skip (mm_call_mono _ _) 1 (st' := (42, [(4, .int 2), (3, .int 0), (0, .ref 10), (1, .int (nI A)), (2, .int 2)], [.int 0], wP pre (wN (PP s) (QQ s) op oq tr dp wi fa ob st of F), 0)) rfl ?_
    exact mm_ret (mm_call_mono _ _) (c := mm_z 0) (r := .inl (some (.int 0))) (M := wP pre (wN (PP s) (QQ s) op oq tr dp wi fa ob st of F)) (u := 0) rfl (by unfold mm_z; decide) (by decide) (by rw [bz_f (fun h => z0 ((cz hV).mpr (h 0 (by omega))))] at hQ; exact hQ)

set_option maxRecDepth 100000 in
theorem rm_isZero_4 {d : Nat} {pre : mm_pre} {s : Nat → fr} {op oq : Nat → Int64} {tr dp wi fa ob : Int32} {st of : Nat → Int32} {F : mm_M} {A : Nat} {Q : mm_R → mm_M → Prop} (hV : ∀ k, fv (s k)) (hA : A + 4 ≤ 480) (hQ : Q (.inl (some (.int (bz (iszm 4 s A))))) (wP pre (wN (PP s) (QQ s) op oq tr dp wi fa ob st of F))) : mm_call mm_Tb (d + 1) 63 [.ref 10, .int (nI A), .int 4] (wP pre (wN (PP s) (QQ s) op oq tr dp wi fa ob st of F)) Q := by
  refine mm_in mt_63 (Nat.le_of_ble_eq_true rfl) ?_
  show mm_W _ _ _ _ _ _ _ (0, [(0, .ref 10), (1, .int (nI A)), (2, .int 4)], [], wP pre (wN (PP s) (QQ s) op oq tr dp wi fa ob st of F), 0)
  refine mm_skip (mm_call_mono _ _) 6 (st' := (8, [(4, .int 0), (3, .int 1), (0, .ref 10), (1, .int (nI A)), (2, .int 4)], [.int 4, .int 0], wP pre (wN (PP s) (QQ s) op oq tr dp wi fa ob st of F), 0)) rfl ?_
  refine mm_branch (mm_call_mono _ _) (c := (4 : Int32) ≤ 0) (s1 := (41, [(4, .int 0), (3, .int 1), (0, .ref 10), (1, .int (nI A)), (2, .int 4)], [], wP pre (wN (PP s) (QQ s) op oq tr dp wi fa ob st of F), 0)) (s2 := (11, [(4, .int 0), (3, .int 1), (0, .ref 10), (1, .int (nI A)), (2, .int 4)], [], wP pre (wN (PP s) (QQ s) op oq tr dp wi fa ob st of F), 0)) rfl (fun h => absurd h (by decide)) (fun _ => ?_)
  refine mm_skip (mm_call_mono _ _) 1 (st' := (12, [(4, .int 0), (3, .int 1), (0, .ref 10), (1, .int (nI A)), (2, .int 4)], [.int 1], wP pre (wN (PP s) (QQ s) op oq tr dp wi fa ob st of F), 0)) rfl ?_
  refine mm_branch (mm_call_mono _ _) (c := (1 : Int32) = 0) (s1 := (33, [(4, .int 0), (3, .int 1), (0, .ref 10), (1, .int (nI A)), (2, .int 4)], [], wP pre (wN (PP s) (QQ s) op oq tr dp wi fa ob st of F), 0)) (s2 := (15, [(4, .int 0), (3, .int 1), (0, .ref 10), (1, .int (nI A)), (2, .int 4)], [], wP pre (wN (PP s) (QQ s) op oq tr dp wi fa ob st of F), 0)) rfl (fun h => absurd h (by decide)) (fun _ => ?_)
  refine mm_skip (mm_call_mono _ _) 5 (st' := (23, [(4, .int 0), (3, .int 1), (0, .ref 10), (1, .int (nI A)), (2, .int 4)], [.int ((nI A) + 0), .ref 11], wP pre (wN (PP s) (QQ s) op oq tr dp wi fa ob st of F), 0)) rfl ?_
  rw [nI_p0 (A)]
  show mm_W _ _ _ _ _ _ _ (23, [(4, .int 0), (3, .int 1), (0, .ref 10), (1, .int (nI A)), (2, .int 4)], [.int (nI A), .ref 11], wP pre (wN (PP s) (QQ s) op oq tr dp wi fa ob st of F), 0)
  refine mm_need (mm_call_mono _ _) (c := vp_in (nI A) 480) (s' := (24, [(4, .int 0), (3, .int 1), (0, .ref 10), (1, .int (nI A)), (2, .int 4)], [.long ((PP s) (Int32.toNatClampNeg (nI A)))], wP pre (wN (PP s) (QQ s) op oq tr dp wi fa ob st of F), 0)) rfl (vp_in_nI (show A < 480 by omega) (by decide)) ?_
  rw [nI_clamp (show A < 2 ^ 31 by omega)]
  show mm_W _ _ _ _ _ _ _ (24, [(4, .int 0), (3, .int 1), (0, .ref 10), (1, .int (nI A)), (2, .int 4)], [.long ((PP s) A)], wP pre (wN (PP s) (QQ s) op oq tr dp wi fa ob st of F), 0)
  refine mm_skip (mm_call_mono _ _) 2 (st' := (26, [(4, .int 0), (3, .int 1), (0, .ref 10), (1, .int (nI A)), (2, .int 4)], [.int (lg_cmp ((PP s) A) 0)], wP pre (wN (PP s) (QQ s) op oq tr dp wi fa ob st of F), 0)) rfl ?_
  refine mm_branch (mm_call_mono _ _) (c := (lg_cmp ((PP s) A) 0) = 0) (s1 := (29, [(4, .int 0), (3, .int 1), (0, .ref 10), (1, .int (nI A)), (2, .int 4)], [], wP pre (wN (PP s) (QQ s) op oq tr dp wi fa ob st of F), 0)) (s2 := (33, [(4, .int 0), (3, .int 1), (0, .ref 10), (1, .int (nI A)), (2, .int 4)], [], wP pre (wN (PP s) (QQ s) op oq tr dp wi fa ob st of F), 0)) rfl (fun z0 => ?_) (fun z0 => ?_)
  · have z0 := (cz hV).mp z0
    refine mm_skip (mm_call_mono _ _) 7 (st' := (8, [(4, .int 1), (3, .int 1), (0, .ref 10), (1, .int (nI A)), (2, .int 4)], [.int 4, .int 1], wP pre (wN (PP s) (QQ s) op oq tr dp wi fa ob st of F), 0)) rfl ?_
    refine mm_branch (mm_call_mono _ _) (c := (4 : Int32) ≤ 1) (s1 := (41, [(4, .int 1), (3, .int 1), (0, .ref 10), (1, .int (nI A)), (2, .int 4)], [], wP pre (wN (PP s) (QQ s) op oq tr dp wi fa ob st of F), 0)) (s2 := (11, [(4, .int 1), (3, .int 1), (0, .ref 10), (1, .int (nI A)), (2, .int 4)], [], wP pre (wN (PP s) (QQ s) op oq tr dp wi fa ob st of F), 0)) rfl (fun h => absurd h (by decide)) (fun _ => ?_)
    refine mm_skip (mm_call_mono _ _) 1 (st' := (12, [(4, .int 1), (3, .int 1), (0, .ref 10), (1, .int (nI A)), (2, .int 4)], [.int 1], wP pre (wN (PP s) (QQ s) op oq tr dp wi fa ob st of F), 0)) rfl ?_
    refine mm_branch (mm_call_mono _ _) (c := (1 : Int32) = 0) (s1 := (33, [(4, .int 1), (3, .int 1), (0, .ref 10), (1, .int (nI A)), (2, .int 4)], [], wP pre (wN (PP s) (QQ s) op oq tr dp wi fa ob st of F), 0)) (s2 := (15, [(4, .int 1), (3, .int 1), (0, .ref 10), (1, .int (nI A)), (2, .int 4)], [], wP pre (wN (PP s) (QQ s) op oq tr dp wi fa ob st of F), 0)) rfl (fun h => absurd h (by decide)) (fun _ => ?_)
    refine mm_skip (mm_call_mono _ _) 5 (st' := (23, [(4, .int 1), (3, .int 1), (0, .ref 10), (1, .int (nI A)), (2, .int 4)], [.int ((nI A) + 1), .ref 11], wP pre (wN (PP s) (QQ s) op oq tr dp wi fa ob st of F), 0)) rfl ?_
    rw [nI_p1 (A)]
    show mm_W _ _ _ _ _ _ _ (23, [(4, .int 1), (3, .int 1), (0, .ref 10), (1, .int (nI A)), (2, .int 4)], [.int (nI (A + 1)), .ref 11], wP pre (wN (PP s) (QQ s) op oq tr dp wi fa ob st of F), 0)
    refine mm_need (mm_call_mono _ _) (c := vp_in (nI (A + 1)) 480) (s' := (24, [(4, .int 1), (3, .int 1), (0, .ref 10), (1, .int (nI A)), (2, .int 4)], [.long ((PP s) (Int32.toNatClampNeg (nI (A + 1))))], wP pre (wN (PP s) (QQ s) op oq tr dp wi fa ob st of F), 0)) rfl (vp_in_nI (show (A + 1) < 480 by omega) (by decide)) ?_
    rw [nI_clamp (show (A + 1) < 2 ^ 31 by omega)]
    show mm_W _ _ _ _ _ _ _ (24, [(4, .int 1), (3, .int 1), (0, .ref 10), (1, .int (nI A)), (2, .int 4)], [.long ((PP s) (A + 1))], wP pre (wN (PP s) (QQ s) op oq tr dp wi fa ob st of F), 0)
    refine mm_skip (mm_call_mono _ _) 2 (st' := (26, [(4, .int 1), (3, .int 1), (0, .ref 10), (1, .int (nI A)), (2, .int 4)], [.int (lg_cmp ((PP s) (A + 1)) 0)], wP pre (wN (PP s) (QQ s) op oq tr dp wi fa ob st of F), 0)) rfl ?_
    refine mm_branch (mm_call_mono _ _) (c := (lg_cmp ((PP s) (A + 1)) 0) = 0) (s1 := (29, [(4, .int 1), (3, .int 1), (0, .ref 10), (1, .int (nI A)), (2, .int 4)], [], wP pre (wN (PP s) (QQ s) op oq tr dp wi fa ob st of F), 0)) (s2 := (33, [(4, .int 1), (3, .int 1), (0, .ref 10), (1, .int (nI A)), (2, .int 4)], [], wP pre (wN (PP s) (QQ s) op oq tr dp wi fa ob st of F), 0)) rfl (fun z1 => ?_) (fun z1 => ?_)
    · have z1 := (cz hV).mp z1
      refine mm_skip (mm_call_mono _ _) 7 (st' := (8, [(4, .int 2), (3, .int 1), (0, .ref 10), (1, .int (nI A)), (2, .int 4)], [.int 4, .int 2], wP pre (wN (PP s) (QQ s) op oq tr dp wi fa ob st of F), 0)) rfl ?_
      refine mm_branch (mm_call_mono _ _) (c := (4 : Int32) ≤ 2) (s1 := (41, [(4, .int 2), (3, .int 1), (0, .ref 10), (1, .int (nI A)), (2, .int 4)], [], wP pre (wN (PP s) (QQ s) op oq tr dp wi fa ob st of F), 0)) (s2 := (11, [(4, .int 2), (3, .int 1), (0, .ref 10), (1, .int (nI A)), (2, .int 4)], [], wP pre (wN (PP s) (QQ s) op oq tr dp wi fa ob st of F), 0)) rfl (fun h => absurd h (by decide)) (fun _ => ?_)
      refine mm_skip (mm_call_mono _ _) 1 (st' := (12, [(4, .int 2), (3, .int 1), (0, .ref 10), (1, .int (nI A)), (2, .int 4)], [.int 1], wP pre (wN (PP s) (QQ s) op oq tr dp wi fa ob st of F), 0)) rfl ?_
      refine mm_branch (mm_call_mono _ _) (c := (1 : Int32) = 0) (s1 := (33, [(4, .int 2), (3, .int 1), (0, .ref 10), (1, .int (nI A)), (2, .int 4)], [], wP pre (wN (PP s) (QQ s) op oq tr dp wi fa ob st of F), 0)) (s2 := (15, [(4, .int 2), (3, .int 1), (0, .ref 10), (1, .int (nI A)), (2, .int 4)], [], wP pre (wN (PP s) (QQ s) op oq tr dp wi fa ob st of F), 0)) rfl (fun h => absurd h (by decide)) (fun _ => ?_)
      refine mm_skip (mm_call_mono _ _) 5 (st' := (23, [(4, .int 2), (3, .int 1), (0, .ref 10), (1, .int (nI A)), (2, .int 4)], [.int ((nI A) + 2), .ref 11], wP pre (wN (PP s) (QQ s) op oq tr dp wi fa ob st of F), 0)) rfl ?_
      rw [nI_p2 (A)]
      show mm_W _ _ _ _ _ _ _ (23, [(4, .int 2), (3, .int 1), (0, .ref 10), (1, .int (nI A)), (2, .int 4)], [.int (nI (A + 2)), .ref 11], wP pre (wN (PP s) (QQ s) op oq tr dp wi fa ob st of F), 0)
      refine mm_need (mm_call_mono _ _) (c := vp_in (nI (A + 2)) 480) (s' := (24, [(4, .int 2), (3, .int 1), (0, .ref 10), (1, .int (nI A)), (2, .int 4)], [.long ((PP s) (Int32.toNatClampNeg (nI (A + 2))))], wP pre (wN (PP s) (QQ s) op oq tr dp wi fa ob st of F), 0)) rfl (vp_in_nI (show (A + 2) < 480 by omega) (by decide)) ?_
      rw [nI_clamp (show (A + 2) < 2 ^ 31 by omega)]
      show mm_W _ _ _ _ _ _ _ (24, [(4, .int 2), (3, .int 1), (0, .ref 10), (1, .int (nI A)), (2, .int 4)], [.long ((PP s) (A + 2))], wP pre (wN (PP s) (QQ s) op oq tr dp wi fa ob st of F), 0)
      refine mm_skip (mm_call_mono _ _) 2 (st' := (26, [(4, .int 2), (3, .int 1), (0, .ref 10), (1, .int (nI A)), (2, .int 4)], [.int (lg_cmp ((PP s) (A + 2)) 0)], wP pre (wN (PP s) (QQ s) op oq tr dp wi fa ob st of F), 0)) rfl ?_
      refine mm_branch (mm_call_mono _ _) (c := (lg_cmp ((PP s) (A + 2)) 0) = 0) (s1 := (29, [(4, .int 2), (3, .int 1), (0, .ref 10), (1, .int (nI A)), (2, .int 4)], [], wP pre (wN (PP s) (QQ s) op oq tr dp wi fa ob st of F), 0)) (s2 := (33, [(4, .int 2), (3, .int 1), (0, .ref 10), (1, .int (nI A)), (2, .int 4)], [], wP pre (wN (PP s) (QQ s) op oq tr dp wi fa ob st of F), 0)) rfl (fun z2 => ?_) (fun z2 => ?_)
      · have z2 := (cz hV).mp z2
        refine mm_skip (mm_call_mono _ _) 7 (st' := (8, [(4, .int 3), (3, .int 1), (0, .ref 10), (1, .int (nI A)), (2, .int 4)], [.int 4, .int 3], wP pre (wN (PP s) (QQ s) op oq tr dp wi fa ob st of F), 0)) rfl ?_
        refine mm_branch (mm_call_mono _ _) (c := (4 : Int32) ≤ 3) (s1 := (41, [(4, .int 3), (3, .int 1), (0, .ref 10), (1, .int (nI A)), (2, .int 4)], [], wP pre (wN (PP s) (QQ s) op oq tr dp wi fa ob st of F), 0)) (s2 := (11, [(4, .int 3), (3, .int 1), (0, .ref 10), (1, .int (nI A)), (2, .int 4)], [], wP pre (wN (PP s) (QQ s) op oq tr dp wi fa ob st of F), 0)) rfl (fun h => absurd h (by decide)) (fun _ => ?_)
        refine mm_skip (mm_call_mono _ _) 1 (st' := (12, [(4, .int 3), (3, .int 1), (0, .ref 10), (1, .int (nI A)), (2, .int 4)], [.int 1], wP pre (wN (PP s) (QQ s) op oq tr dp wi fa ob st of F), 0)) rfl ?_
        refine mm_branch (mm_call_mono _ _) (c := (1 : Int32) = 0) (s1 := (33, [(4, .int 3), (3, .int 1), (0, .ref 10), (1, .int (nI A)), (2, .int 4)], [], wP pre (wN (PP s) (QQ s) op oq tr dp wi fa ob st of F), 0)) (s2 := (15, [(4, .int 3), (3, .int 1), (0, .ref 10), (1, .int (nI A)), (2, .int 4)], [], wP pre (wN (PP s) (QQ s) op oq tr dp wi fa ob st of F), 0)) rfl (fun h => absurd h (by decide)) (fun _ => ?_)
        refine mm_skip (mm_call_mono _ _) 5 (st' := (23, [(4, .int 3), (3, .int 1), (0, .ref 10), (1, .int (nI A)), (2, .int 4)], [.int ((nI A) + 3), .ref 11], wP pre (wN (PP s) (QQ s) op oq tr dp wi fa ob st of F), 0)) rfl ?_
        rw [nI_p3 (A)]
        show mm_W _ _ _ _ _ _ _ (23, [(4, .int 3), (3, .int 1), (0, .ref 10), (1, .int (nI A)), (2, .int 4)], [.int (nI (A + 3)), .ref 11], wP pre (wN (PP s) (QQ s) op oq tr dp wi fa ob st of F), 0)
        refine mm_need (mm_call_mono _ _) (c := vp_in (nI (A + 3)) 480) (s' := (24, [(4, .int 3), (3, .int 1), (0, .ref 10), (1, .int (nI A)), (2, .int 4)], [.long ((PP s) (Int32.toNatClampNeg (nI (A + 3))))], wP pre (wN (PP s) (QQ s) op oq tr dp wi fa ob st of F), 0)) rfl (vp_in_nI (show (A + 3) < 480 by omega) (by decide)) ?_
        rw [nI_clamp (show (A + 3) < 2 ^ 31 by omega)]
        show mm_W _ _ _ _ _ _ _ (24, [(4, .int 3), (3, .int 1), (0, .ref 10), (1, .int (nI A)), (2, .int 4)], [.long ((PP s) (A + 3))], wP pre (wN (PP s) (QQ s) op oq tr dp wi fa ob st of F), 0)
        refine mm_skip (mm_call_mono _ _) 2 (st' := (26, [(4, .int 3), (3, .int 1), (0, .ref 10), (1, .int (nI A)), (2, .int 4)], [.int (lg_cmp ((PP s) (A + 3)) 0)], wP pre (wN (PP s) (QQ s) op oq tr dp wi fa ob st of F), 0)) rfl ?_
        refine mm_branch (mm_call_mono _ _) (c := (lg_cmp ((PP s) (A + 3)) 0) = 0) (s1 := (29, [(4, .int 3), (3, .int 1), (0, .ref 10), (1, .int (nI A)), (2, .int 4)], [], wP pre (wN (PP s) (QQ s) op oq tr dp wi fa ob st of F), 0)) (s2 := (33, [(4, .int 3), (3, .int 1), (0, .ref 10), (1, .int (nI A)), (2, .int 4)], [], wP pre (wN (PP s) (QQ s) op oq tr dp wi fa ob st of F), 0)) rfl (fun z3 => ?_) (fun z3 => ?_)
        · have z3 := (cz hV).mp z3
          refine mm_skip (mm_call_mono _ _) 7 (st' := (8, [(4, .int 4), (3, .int 1), (0, .ref 10), (1, .int (nI A)), (2, .int 4)], [.int 4, .int 4], wP pre (wN (PP s) (QQ s) op oq tr dp wi fa ob st of F), 0)) rfl ?_
          refine mm_branch (mm_call_mono _ _) (c := (4 : Int32) ≤ 4) (s1 := (41, [(4, .int 4), (3, .int 1), (0, .ref 10), (1, .int (nI A)), (2, .int 4)], [], wP pre (wN (PP s) (QQ s) op oq tr dp wi fa ob st of F), 0)) (s2 := (11, [(4, .int 4), (3, .int 1), (0, .ref 10), (1, .int (nI A)), (2, .int 4)], [], wP pre (wN (PP s) (QQ s) op oq tr dp wi fa ob st of F), 0)) rfl (fun _ => ?_) (fun h => absurd (by decide) h)
          refine mm_skip (mm_call_mono _ _) 1 (st' := (42, [(4, .int 4), (3, .int 1), (0, .ref 10), (1, .int (nI A)), (2, .int 4)], [.int 1], wP pre (wN (PP s) (QQ s) op oq tr dp wi fa ob st of F), 0)) rfl ?_
          exact mm_ret (mm_call_mono _ _) (c := mm_z 1) (r := .inl (some (.int 1))) (M := wP pre (wN (PP s) (QQ s) op oq tr dp wi fa ob st of F)) (u := 0) rfl (by unfold mm_z; decide) (by decide) (by rw [bz_t (fun j hj => by rcases (show j = 0 ∨ j = 1 ∨ j = 2 ∨ j = 3 by omega) with rfl | rfl | rfl | rfl <;> assumption)] at hQ; exact hQ)
        · skip
          refine mm_skip (mm_call_mono _ _) 6 (st' := (8, [(4, .int 4), (3, .int 0), (0, .ref 10), (1, .int (nI A)), (2, .int 4)], [.int 4, .int 4], wP pre (wN (PP s) (QQ s) op oq tr dp wi fa ob st of F), 0)) rfl ?_
          refine mm_branch (mm_call_mono _ _) (c := (4 : Int32) ≤ 4) (s1 := (41, [(4, .int 4), (3, .int 0), (0, .ref 10), (1, .int (nI A)), (2, .int 4)], [], wP pre (wN (PP s) (QQ s) op oq tr dp wi fa ob st of F), 0)) (s2 := (11, [(4, .int 4), (3, .int 0), (0, .ref 10), (1, .int (nI A)), (2, .int 4)], [], wP pre (wN (PP s) (QQ s) op oq tr dp wi fa ob st of F), 0)) rfl (fun _ => ?_) (fun h => absurd (by decide) h)
          refine mm_skip (mm_call_mono _ _) 1 (st' := (42, [(4, .int 4), (3, .int 0), (0, .ref 10), (1, .int (nI A)), (2, .int 4)], [.int 0], wP pre (wN (PP s) (QQ s) op oq tr dp wi fa ob st of F), 0)) rfl ?_
          exact mm_ret (mm_call_mono _ _) (c := mm_z 0) (r := .inl (some (.int 0))) (M := wP pre (wN (PP s) (QQ s) op oq tr dp wi fa ob st of F)) (u := 0) rfl (by unfold mm_z; decide) (by decide) (by rw [bz_f (fun h => z3 ((cz hV).mpr (h 3 (by omega))))] at hQ; exact hQ)
      · skip
        refine mm_skip (mm_call_mono _ _) 6 (st' := (8, [(4, .int 3), (3, .int 0), (0, .ref 10), (1, .int (nI A)), (2, .int 4)], [.int 4, .int 3], wP pre (wN (PP s) (QQ s) op oq tr dp wi fa ob st of F), 0)) rfl ?_
        refine mm_branch (mm_call_mono _ _) (c := (4 : Int32) ≤ 3) (s1 := (41, [(4, .int 3), (3, .int 0), (0, .ref 10), (1, .int (nI A)), (2, .int 4)], [], wP pre (wN (PP s) (QQ s) op oq tr dp wi fa ob st of F), 0)) (s2 := (11, [(4, .int 3), (3, .int 0), (0, .ref 10), (1, .int (nI A)), (2, .int 4)], [], wP pre (wN (PP s) (QQ s) op oq tr dp wi fa ob st of F), 0)) rfl (fun h => absurd h (by decide)) (fun _ => ?_)
        refine mm_skip (mm_call_mono _ _) 1 (st' := (12, [(4, .int 3), (3, .int 0), (0, .ref 10), (1, .int (nI A)), (2, .int 4)], [.int 0], wP pre (wN (PP s) (QQ s) op oq tr dp wi fa ob st of F), 0)) rfl ?_
        refine mm_branch (mm_call_mono _ _) (c := (0 : Int32) = 0) (s1 := (33, [(4, .int 3), (3, .int 0), (0, .ref 10), (1, .int (nI A)), (2, .int 4)], [], wP pre (wN (PP s) (QQ s) op oq tr dp wi fa ob st of F), 0)) (s2 := (15, [(4, .int 3), (3, .int 0), (0, .ref 10), (1, .int (nI A)), (2, .int 4)], [], wP pre (wN (PP s) (QQ s) op oq tr dp wi fa ob st of F), 0)) rfl (fun _ => ?_) (fun h => absurd (by decide) h)
        refine mm_skip (mm_call_mono _ _) 6 (st' := (8, [(4, .int 4), (3, .int 0), (0, .ref 10), (1, .int (nI A)), (2, .int 4)], [.int 4, .int 4], wP pre (wN (PP s) (QQ s) op oq tr dp wi fa ob st of F), 0)) rfl ?_
        refine mm_branch (mm_call_mono _ _) (c := (4 : Int32) ≤ 4) (s1 := (41, [(4, .int 4), (3, .int 0), (0, .ref 10), (1, .int (nI A)), (2, .int 4)], [], wP pre (wN (PP s) (QQ s) op oq tr dp wi fa ob st of F), 0)) (s2 := (11, [(4, .int 4), (3, .int 0), (0, .ref 10), (1, .int (nI A)), (2, .int 4)], [], wP pre (wN (PP s) (QQ s) op oq tr dp wi fa ob st of F), 0)) rfl (fun _ => ?_) (fun h => absurd (by decide) h)
        refine mm_skip (mm_call_mono _ _) 1 (st' := (42, [(4, .int 4), (3, .int 0), (0, .ref 10), (1, .int (nI A)), (2, .int 4)], [.int 0], wP pre (wN (PP s) (QQ s) op oq tr dp wi fa ob st of F), 0)) rfl ?_
        exact mm_ret (mm_call_mono _ _) (c := mm_z 0) (r := .inl (some (.int 0))) (M := wP pre (wN (PP s) (QQ s) op oq tr dp wi fa ob st of F)) (u := 0) rfl (by unfold mm_z; decide) (by decide) (by rw [bz_f (fun h => z2 ((cz hV).mpr (h 2 (by omega))))] at hQ; exact hQ)
    · skip
      refine mm_skip (mm_call_mono _ _) 6 (st' := (8, [(4, .int 2), (3, .int 0), (0, .ref 10), (1, .int (nI A)), (2, .int 4)], [.int 4, .int 2], wP pre (wN (PP s) (QQ s) op oq tr dp wi fa ob st of F), 0)) rfl ?_
      refine mm_branch (mm_call_mono _ _) (c := (4 : Int32) ≤ 2) (s1 := (41, [(4, .int 2), (3, .int 0), (0, .ref 10), (1, .int (nI A)), (2, .int 4)], [], wP pre (wN (PP s) (QQ s) op oq tr dp wi fa ob st of F), 0)) (s2 := (11, [(4, .int 2), (3, .int 0), (0, .ref 10), (1, .int (nI A)), (2, .int 4)], [], wP pre (wN (PP s) (QQ s) op oq tr dp wi fa ob st of F), 0)) rfl (fun h => absurd h (by decide)) (fun _ => ?_)
      refine mm_skip (mm_call_mono _ _) 1 (st' := (12, [(4, .int 2), (3, .int 0), (0, .ref 10), (1, .int (nI A)), (2, .int 4)], [.int 0], wP pre (wN (PP s) (QQ s) op oq tr dp wi fa ob st of F), 0)) rfl ?_
      refine mm_branch (mm_call_mono _ _) (c := (0 : Int32) = 0) (s1 := (33, [(4, .int 2), (3, .int 0), (0, .ref 10), (1, .int (nI A)), (2, .int 4)], [], wP pre (wN (PP s) (QQ s) op oq tr dp wi fa ob st of F), 0)) (s2 := (15, [(4, .int 2), (3, .int 0), (0, .ref 10), (1, .int (nI A)), (2, .int 4)], [], wP pre (wN (PP s) (QQ s) op oq tr dp wi fa ob st of F), 0)) rfl (fun _ => ?_) (fun h => absurd (by decide) h)
      refine mm_skip (mm_call_mono _ _) 6 (st' := (8, [(4, .int 3), (3, .int 0), (0, .ref 10), (1, .int (nI A)), (2, .int 4)], [.int 4, .int 3], wP pre (wN (PP s) (QQ s) op oq tr dp wi fa ob st of F), 0)) rfl ?_
      refine mm_branch (mm_call_mono _ _) (c := (4 : Int32) ≤ 3) (s1 := (41, [(4, .int 3), (3, .int 0), (0, .ref 10), (1, .int (nI A)), (2, .int 4)], [], wP pre (wN (PP s) (QQ s) op oq tr dp wi fa ob st of F), 0)) (s2 := (11, [(4, .int 3), (3, .int 0), (0, .ref 10), (1, .int (nI A)), (2, .int 4)], [], wP pre (wN (PP s) (QQ s) op oq tr dp wi fa ob st of F), 0)) rfl (fun h => absurd h (by decide)) (fun _ => ?_)
      refine mm_skip (mm_call_mono _ _) 1 (st' := (12, [(4, .int 3), (3, .int 0), (0, .ref 10), (1, .int (nI A)), (2, .int 4)], [.int 0], wP pre (wN (PP s) (QQ s) op oq tr dp wi fa ob st of F), 0)) rfl ?_
      refine mm_branch (mm_call_mono _ _) (c := (0 : Int32) = 0) (s1 := (33, [(4, .int 3), (3, .int 0), (0, .ref 10), (1, .int (nI A)), (2, .int 4)], [], wP pre (wN (PP s) (QQ s) op oq tr dp wi fa ob st of F), 0)) (s2 := (15, [(4, .int 3), (3, .int 0), (0, .ref 10), (1, .int (nI A)), (2, .int 4)], [], wP pre (wN (PP s) (QQ s) op oq tr dp wi fa ob st of F), 0)) rfl (fun _ => ?_) (fun h => absurd (by decide) h)
      refine mm_skip (mm_call_mono _ _) 6 (st' := (8, [(4, .int 4), (3, .int 0), (0, .ref 10), (1, .int (nI A)), (2, .int 4)], [.int 4, .int 4], wP pre (wN (PP s) (QQ s) op oq tr dp wi fa ob st of F), 0)) rfl ?_
      refine mm_branch (mm_call_mono _ _) (c := (4 : Int32) ≤ 4) (s1 := (41, [(4, .int 4), (3, .int 0), (0, .ref 10), (1, .int (nI A)), (2, .int 4)], [], wP pre (wN (PP s) (QQ s) op oq tr dp wi fa ob st of F), 0)) (s2 := (11, [(4, .int 4), (3, .int 0), (0, .ref 10), (1, .int (nI A)), (2, .int 4)], [], wP pre (wN (PP s) (QQ s) op oq tr dp wi fa ob st of F), 0)) rfl (fun _ => ?_) (fun h => absurd (by decide) h)
      refine mm_skip (mm_call_mono _ _) 1 (st' := (42, [(4, .int 4), (3, .int 0), (0, .ref 10), (1, .int (nI A)), (2, .int 4)], [.int 0], wP pre (wN (PP s) (QQ s) op oq tr dp wi fa ob st of F), 0)) rfl ?_
      exact mm_ret (mm_call_mono _ _) (c := mm_z 0) (r := .inl (some (.int 0))) (M := wP pre (wN (PP s) (QQ s) op oq tr dp wi fa ob st of F)) (u := 0) rfl (by unfold mm_z; decide) (by decide) (by rw [bz_f (fun h => z1 ((cz hV).mpr (h 1 (by omega))))] at hQ; exact hQ)
  · skip
    refine mm_skip (mm_call_mono _ _) 6 (st' := (8, [(4, .int 1), (3, .int 0), (0, .ref 10), (1, .int (nI A)), (2, .int 4)], [.int 4, .int 1], wP pre (wN (PP s) (QQ s) op oq tr dp wi fa ob st of F), 0)) rfl ?_
    refine mm_branch (mm_call_mono _ _) (c := (4 : Int32) ≤ 1) (s1 := (41, [(4, .int 1), (3, .int 0), (0, .ref 10), (1, .int (nI A)), (2, .int 4)], [], wP pre (wN (PP s) (QQ s) op oq tr dp wi fa ob st of F), 0)) (s2 := (11, [(4, .int 1), (3, .int 0), (0, .ref 10), (1, .int (nI A)), (2, .int 4)], [], wP pre (wN (PP s) (QQ s) op oq tr dp wi fa ob st of F), 0)) rfl (fun h => absurd h (by decide)) (fun _ => ?_)
    refine mm_skip (mm_call_mono _ _) 1 (st' := (12, [(4, .int 1), (3, .int 0), (0, .ref 10), (1, .int (nI A)), (2, .int 4)], [.int 0], wP pre (wN (PP s) (QQ s) op oq tr dp wi fa ob st of F), 0)) rfl ?_
    refine mm_branch (mm_call_mono _ _) (c := (0 : Int32) = 0) (s1 := (33, [(4, .int 1), (3, .int 0), (0, .ref 10), (1, .int (nI A)), (2, .int 4)], [], wP pre (wN (PP s) (QQ s) op oq tr dp wi fa ob st of F), 0)) (s2 := (15, [(4, .int 1), (3, .int 0), (0, .ref 10), (1, .int (nI A)), (2, .int 4)], [], wP pre (wN (PP s) (QQ s) op oq tr dp wi fa ob st of F), 0)) rfl (fun _ => ?_) (fun h => absurd (by decide) h)
    refine mm_skip (mm_call_mono _ _) 6 (st' := (8, [(4, .int 2), (3, .int 0), (0, .ref 10), (1, .int (nI A)), (2, .int 4)], [.int 4, .int 2], wP pre (wN (PP s) (QQ s) op oq tr dp wi fa ob st of F), 0)) rfl ?_
    refine mm_branch (mm_call_mono _ _) (c := (4 : Int32) ≤ 2) (s1 := (41, [(4, .int 2), (3, .int 0), (0, .ref 10), (1, .int (nI A)), (2, .int 4)], [], wP pre (wN (PP s) (QQ s) op oq tr dp wi fa ob st of F), 0)) (s2 := (11, [(4, .int 2), (3, .int 0), (0, .ref 10), (1, .int (nI A)), (2, .int 4)], [], wP pre (wN (PP s) (QQ s) op oq tr dp wi fa ob st of F), 0)) rfl (fun h => absurd h (by decide)) (fun _ => ?_)
    refine mm_skip (mm_call_mono _ _) 1 (st' := (12, [(4, .int 2), (3, .int 0), (0, .ref 10), (1, .int (nI A)), (2, .int 4)], [.int 0], wP pre (wN (PP s) (QQ s) op oq tr dp wi fa ob st of F), 0)) rfl ?_
    refine mm_branch (mm_call_mono _ _) (c := (0 : Int32) = 0) (s1 := (33, [(4, .int 2), (3, .int 0), (0, .ref 10), (1, .int (nI A)), (2, .int 4)], [], wP pre (wN (PP s) (QQ s) op oq tr dp wi fa ob st of F), 0)) (s2 := (15, [(4, .int 2), (3, .int 0), (0, .ref 10), (1, .int (nI A)), (2, .int 4)], [], wP pre (wN (PP s) (QQ s) op oq tr dp wi fa ob st of F), 0)) rfl (fun _ => ?_) (fun h => absurd (by decide) h)
    refine mm_skip (mm_call_mono _ _) 6 (st' := (8, [(4, .int 3), (3, .int 0), (0, .ref 10), (1, .int (nI A)), (2, .int 4)], [.int 4, .int 3], wP pre (wN (PP s) (QQ s) op oq tr dp wi fa ob st of F), 0)) rfl ?_
    refine mm_branch (mm_call_mono _ _) (c := (4 : Int32) ≤ 3) (s1 := (41, [(4, .int 3), (3, .int 0), (0, .ref 10), (1, .int (nI A)), (2, .int 4)], [], wP pre (wN (PP s) (QQ s) op oq tr dp wi fa ob st of F), 0)) (s2 := (11, [(4, .int 3), (3, .int 0), (0, .ref 10), (1, .int (nI A)), (2, .int 4)], [], wP pre (wN (PP s) (QQ s) op oq tr dp wi fa ob st of F), 0)) rfl (fun h => absurd h (by decide)) (fun _ => ?_)
    refine mm_skip (mm_call_mono _ _) 1 (st' := (12, [(4, .int 3), (3, .int 0), (0, .ref 10), (1, .int (nI A)), (2, .int 4)], [.int 0], wP pre (wN (PP s) (QQ s) op oq tr dp wi fa ob st of F), 0)) rfl ?_
    refine mm_branch (mm_call_mono _ _) (c := (0 : Int32) = 0) (s1 := (33, [(4, .int 3), (3, .int 0), (0, .ref 10), (1, .int (nI A)), (2, .int 4)], [], wP pre (wN (PP s) (QQ s) op oq tr dp wi fa ob st of F), 0)) (s2 := (15, [(4, .int 3), (3, .int 0), (0, .ref 10), (1, .int (nI A)), (2, .int 4)], [], wP pre (wN (PP s) (QQ s) op oq tr dp wi fa ob st of F), 0)) rfl (fun _ => ?_) (fun h => absurd (by decide) h)
    refine mm_skip (mm_call_mono _ _) 6 (st' := (8, [(4, .int 4), (3, .int 0), (0, .ref 10), (1, .int (nI A)), (2, .int 4)], [.int 4, .int 4], wP pre (wN (PP s) (QQ s) op oq tr dp wi fa ob st of F), 0)) rfl ?_
    refine mm_branch (mm_call_mono _ _) (c := (4 : Int32) ≤ 4) (s1 := (41, [(4, .int 4), (3, .int 0), (0, .ref 10), (1, .int (nI A)), (2, .int 4)], [], wP pre (wN (PP s) (QQ s) op oq tr dp wi fa ob st of F), 0)) (s2 := (11, [(4, .int 4), (3, .int 0), (0, .ref 10), (1, .int (nI A)), (2, .int 4)], [], wP pre (wN (PP s) (QQ s) op oq tr dp wi fa ob st of F), 0)) rfl (fun _ => ?_) (fun h => absurd (by decide) h)
    refine mm_skip (mm_call_mono _ _) 1 (st' := (42, [(4, .int 4), (3, .int 0), (0, .ref 10), (1, .int (nI A)), (2, .int 4)], [.int 0], wP pre (wN (PP s) (QQ s) op oq tr dp wi fa ob st of F), 0)) rfl ?_
    exact mm_ret (mm_call_mono _ _) (c := mm_z 0) (r := .inl (some (.int 0))) (M := wP pre (wN (PP s) (QQ s) op oq tr dp wi fa ob st of F)) (u := 0) rfl (by unfold mm_z; decide) (by decide) (by rw [bz_f (fun h => z0 ((cz hV).mpr (h 0 (by omega))))] at hQ; exact hQ)

set_option maxRecDepth 100000 in
theorem rm_alike {d : Nat} {pre : mm_pre} {s : Nat → fr} {op oq : Nat → Int64} {tr dp wi fa ob : Int32} {st of : Nat → Int32} {F : mm_M} {A B : Nat} {Q : mm_R → mm_M → Prop} (hV : ∀ k, fv (s k)) (hA : A + 4 ≤ 480) (hB : B + 4 ≤ 480) (hQ : Q (.inl (some (.int (bz (alm s A B))))) (wP pre (wN (PP s) (QQ s) op oq tr dp wi fa ob st of F))) : mm_call mm_Tb (d + 1) 64 [.ref 10, .int (nI A), .int (nI B)] (wP pre (wN (PP s) (QQ s) op oq tr dp wi fa ob st of F)) Q := by
  refine mm_in mt_64 (Nat.le_of_ble_eq_true rfl) ?_
  show mm_W _ _ _ _ _ _ _ (0, [(0, .ref 10), (1, .int (nI A)), (2, .int (nI B))], [], wP pre (wN (PP s) (QQ s) op oq tr dp wi fa ob st of F), 0)
  refine mm_skip (mm_call_mono _ _) 6 (st' := (8, [(4, .int 0), (3, .int 1), (0, .ref 10), (1, .int (nI A)), (2, .int (nI B))], [.int 4, .int 0], wP pre (wN (PP s) (QQ s) op oq tr dp wi fa ob st of F), 0)) rfl ?_
  refine mm_branch (mm_call_mono _ _) (c := (4 : Int32) ≤ 0) (s1 := (71, [(4, .int 0), (3, .int 1), (0, .ref 10), (1, .int (nI A)), (2, .int (nI B))], [], wP pre (wN (PP s) (QQ s) op oq tr dp wi fa ob st of F), 0)) (s2 := (11, [(4, .int 0), (3, .int 1), (0, .ref 10), (1, .int (nI A)), (2, .int (nI B))], [], wP pre (wN (PP s) (QQ s) op oq tr dp wi fa ob st of F), 0)) rfl (fun h => absurd h (by decide)) (fun _ => ?_)
  refine mm_skip (mm_call_mono _ _) 1 (st' := (12, [(4, .int 0), (3, .int 1), (0, .ref 10), (1, .int (nI A)), (2, .int (nI B))], [.int 1], wP pre (wN (PP s) (QQ s) op oq tr dp wi fa ob st of F), 0)) rfl ?_
  refine mm_branch (mm_call_mono _ _) (c := (1 : Int32) = 0) (s1 := (63, [(4, .int 0), (3, .int 1), (0, .ref 10), (1, .int (nI A)), (2, .int (nI B))], [], wP pre (wN (PP s) (QQ s) op oq tr dp wi fa ob st of F), 0)) (s2 := (15, [(4, .int 0), (3, .int 1), (0, .ref 10), (1, .int (nI A)), (2, .int (nI B))], [], wP pre (wN (PP s) (QQ s) op oq tr dp wi fa ob st of F), 0)) rfl (fun h => absurd h (by decide)) (fun _ => ?_)
  refine mm_skip (mm_call_mono _ _) 5 (st' := (23, [(4, .int 0), (3, .int 1), (0, .ref 10), (1, .int (nI A)), (2, .int (nI B))], [.int ((nI A) + 0), .ref 11], wP pre (wN (PP s) (QQ s) op oq tr dp wi fa ob st of F), 0)) rfl ?_
  rw [nI_p0 (A)]
  show mm_W _ _ _ _ _ _ _ (23, [(4, .int 0), (3, .int 1), (0, .ref 10), (1, .int (nI A)), (2, .int (nI B))], [.int (nI A), .ref 11], wP pre (wN (PP s) (QQ s) op oq tr dp wi fa ob st of F), 0)
  refine mm_need (mm_call_mono _ _) (c := vp_in (nI A) 480) (s' := (24, [(4, .int 0), (3, .int 1), (0, .ref 10), (1, .int (nI A)), (2, .int (nI B))], [.long ((PP s) (Int32.toNatClampNeg (nI A)))], wP pre (wN (PP s) (QQ s) op oq tr dp wi fa ob st of F), 0)) rfl (vp_in_nI (show A < 480 by omega) (by decide)) ?_
  rw [nI_clamp (show A < 2 ^ 31 by omega)]
  show mm_W _ _ _ _ _ _ _ (24, [(4, .int 0), (3, .int 1), (0, .ref 10), (1, .int (nI A)), (2, .int (nI B))], [.long ((PP s) A)], wP pre (wN (PP s) (QQ s) op oq tr dp wi fa ob st of F), 0)
  refine mm_skip (mm_call_mono _ _) 5 (st' := (32, [(4, .int 0), (3, .int 1), (0, .ref 10), (1, .int (nI A)), (2, .int (nI B))], [.int ((nI B) + 0), .ref 11, .long ((PP s) A)], wP pre (wN (PP s) (QQ s) op oq tr dp wi fa ob st of F), 0)) rfl ?_
  rw [nI_p0 (B)]
  show mm_W _ _ _ _ _ _ _ (32, [(4, .int 0), (3, .int 1), (0, .ref 10), (1, .int (nI A)), (2, .int (nI B))], [.int (nI B), .ref 11, .long ((PP s) A)], wP pre (wN (PP s) (QQ s) op oq tr dp wi fa ob st of F), 0)
  refine mm_need (mm_call_mono _ _) (c := vp_in (nI B) 480) (s' := (33, [(4, .int 0), (3, .int 1), (0, .ref 10), (1, .int (nI A)), (2, .int (nI B))], [.long ((PP s) (Int32.toNatClampNeg (nI B))), .long ((PP s) A)], wP pre (wN (PP s) (QQ s) op oq tr dp wi fa ob st of F), 0)) rfl (vp_in_nI (show B < 480 by omega) (by decide)) ?_
  rw [nI_clamp (show B < 2 ^ 31 by omega)]
  show mm_W _ _ _ _ _ _ _ (33, [(4, .int 0), (3, .int 1), (0, .ref 10), (1, .int (nI A)), (2, .int (nI B))], [.long ((PP s) B), .long ((PP s) A)], wP pre (wN (PP s) (QQ s) op oq tr dp wi fa ob st of F), 0)
  refine mm_skip (mm_call_mono _ _) 1 (st' := (34, [(4, .int 0), (3, .int 1), (0, .ref 10), (1, .int (nI A)), (2, .int (nI B))], [.int (lg_cmp ((PP s) A) ((PP s) B))], wP pre (wN (PP s) (QQ s) op oq tr dp wi fa ob st of F), 0)) rfl ?_
  refine mm_branch (mm_call_mono _ _) (c := (lg_cmp ((PP s) A) ((PP s) B)) = 0) (s1 := (37, [(4, .int 0), (3, .int 1), (0, .ref 10), (1, .int (nI A)), (2, .int (nI B))], [], wP pre (wN (PP s) (QQ s) op oq tr dp wi fa ob st of F), 0)) (s2 := (63, [(4, .int 0), (3, .int 1), (0, .ref 10), (1, .int (nI A)), (2, .int (nI B))], [], wP pre (wN (PP s) (QQ s) op oq tr dp wi fa ob st of F), 0)) rfl (fun p0 => ?_) (fun p0 => ?_)
  · have p0 := (ceP hV).mp p0
    refine mm_skip (mm_call_mono _ _) 5 (st' := (45, [(4, .int 0), (3, .int 1), (0, .ref 10), (1, .int (nI A)), (2, .int (nI B))], [.int ((nI A) + 0), .ref 12], wP pre (wN (PP s) (QQ s) op oq tr dp wi fa ob st of F), 0)) rfl ?_
    rw [nI_p0 (A)]
    show mm_W _ _ _ _ _ _ _ (45, [(4, .int 0), (3, .int 1), (0, .ref 10), (1, .int (nI A)), (2, .int (nI B))], [.int (nI A), .ref 12], wP pre (wN (PP s) (QQ s) op oq tr dp wi fa ob st of F), 0)
    refine mm_need (mm_call_mono _ _) (c := vp_in (nI A) 480) (s' := (46, [(4, .int 0), (3, .int 1), (0, .ref 10), (1, .int (nI A)), (2, .int (nI B))], [.long ((QQ s) (Int32.toNatClampNeg (nI A)))], wP pre (wN (PP s) (QQ s) op oq tr dp wi fa ob st of F), 0)) rfl (vp_in_nI (show A < 480 by omega) (by decide)) ?_
    rw [nI_clamp (show A < 2 ^ 31 by omega)]
    show mm_W _ _ _ _ _ _ _ (46, [(4, .int 0), (3, .int 1), (0, .ref 10), (1, .int (nI A)), (2, .int (nI B))], [.long ((QQ s) A)], wP pre (wN (PP s) (QQ s) op oq tr dp wi fa ob st of F), 0)
    refine mm_skip (mm_call_mono _ _) 5 (st' := (54, [(4, .int 0), (3, .int 1), (0, .ref 10), (1, .int (nI A)), (2, .int (nI B))], [.int ((nI B) + 0), .ref 12, .long ((QQ s) A)], wP pre (wN (PP s) (QQ s) op oq tr dp wi fa ob st of F), 0)) rfl ?_
    rw [nI_p0 (B)]
    show mm_W _ _ _ _ _ _ _ (54, [(4, .int 0), (3, .int 1), (0, .ref 10), (1, .int (nI A)), (2, .int (nI B))], [.int (nI B), .ref 12, .long ((QQ s) A)], wP pre (wN (PP s) (QQ s) op oq tr dp wi fa ob st of F), 0)
    refine mm_need (mm_call_mono _ _) (c := vp_in (nI B) 480) (s' := (55, [(4, .int 0), (3, .int 1), (0, .ref 10), (1, .int (nI A)), (2, .int (nI B))], [.long ((QQ s) (Int32.toNatClampNeg (nI B))), .long ((QQ s) A)], wP pre (wN (PP s) (QQ s) op oq tr dp wi fa ob st of F), 0)) rfl (vp_in_nI (show B < 480 by omega) (by decide)) ?_
    rw [nI_clamp (show B < 2 ^ 31 by omega)]
    show mm_W _ _ _ _ _ _ _ (55, [(4, .int 0), (3, .int 1), (0, .ref 10), (1, .int (nI A)), (2, .int (nI B))], [.long ((QQ s) B), .long ((QQ s) A)], wP pre (wN (PP s) (QQ s) op oq tr dp wi fa ob st of F), 0)
    refine mm_skip (mm_call_mono _ _) 1 (st' := (56, [(4, .int 0), (3, .int 1), (0, .ref 10), (1, .int (nI A)), (2, .int (nI B))], [.int (lg_cmp ((QQ s) A) ((QQ s) B))], wP pre (wN (PP s) (QQ s) op oq tr dp wi fa ob st of F), 0)) rfl ?_
    refine mm_branch (mm_call_mono _ _) (c := (lg_cmp ((QQ s) A) ((QQ s) B)) = 0) (s1 := (59, [(4, .int 0), (3, .int 1), (0, .ref 10), (1, .int (nI A)), (2, .int (nI B))], [], wP pre (wN (PP s) (QQ s) op oq tr dp wi fa ob st of F), 0)) (s2 := (63, [(4, .int 0), (3, .int 1), (0, .ref 10), (1, .int (nI A)), (2, .int (nI B))], [], wP pre (wN (PP s) (QQ s) op oq tr dp wi fa ob st of F), 0)) rfl (fun q0 => ?_) (fun q0 => ?_)
    · have q0 := (ceQ hV).mp q0
      refine mm_skip (mm_call_mono _ _) 7 (st' := (8, [(4, .int 1), (3, .int 1), (0, .ref 10), (1, .int (nI A)), (2, .int (nI B))], [.int 4, .int 1], wP pre (wN (PP s) (QQ s) op oq tr dp wi fa ob st of F), 0)) rfl ?_
      refine mm_branch (mm_call_mono _ _) (c := (4 : Int32) ≤ 1) (s1 := (71, [(4, .int 1), (3, .int 1), (0, .ref 10), (1, .int (nI A)), (2, .int (nI B))], [], wP pre (wN (PP s) (QQ s) op oq tr dp wi fa ob st of F), 0)) (s2 := (11, [(4, .int 1), (3, .int 1), (0, .ref 10), (1, .int (nI A)), (2, .int (nI B))], [], wP pre (wN (PP s) (QQ s) op oq tr dp wi fa ob st of F), 0)) rfl (fun h => absurd h (by decide)) (fun _ => ?_)
      refine mm_skip (mm_call_mono _ _) 1 (st' := (12, [(4, .int 1), (3, .int 1), (0, .ref 10), (1, .int (nI A)), (2, .int (nI B))], [.int 1], wP pre (wN (PP s) (QQ s) op oq tr dp wi fa ob st of F), 0)) rfl ?_
      refine mm_branch (mm_call_mono _ _) (c := (1 : Int32) = 0) (s1 := (63, [(4, .int 1), (3, .int 1), (0, .ref 10), (1, .int (nI A)), (2, .int (nI B))], [], wP pre (wN (PP s) (QQ s) op oq tr dp wi fa ob st of F), 0)) (s2 := (15, [(4, .int 1), (3, .int 1), (0, .ref 10), (1, .int (nI A)), (2, .int (nI B))], [], wP pre (wN (PP s) (QQ s) op oq tr dp wi fa ob st of F), 0)) rfl (fun h => absurd h (by decide)) (fun _ => ?_)
      refine mm_skip (mm_call_mono _ _) 5 (st' := (23, [(4, .int 1), (3, .int 1), (0, .ref 10), (1, .int (nI A)), (2, .int (nI B))], [.int ((nI A) + 1), .ref 11], wP pre (wN (PP s) (QQ s) op oq tr dp wi fa ob st of F), 0)) rfl ?_
      rw [nI_p1 (A)]
      show mm_W _ _ _ _ _ _ _ (23, [(4, .int 1), (3, .int 1), (0, .ref 10), (1, .int (nI A)), (2, .int (nI B))], [.int (nI (A + 1)), .ref 11], wP pre (wN (PP s) (QQ s) op oq tr dp wi fa ob st of F), 0)
      refine mm_need (mm_call_mono _ _) (c := vp_in (nI (A + 1)) 480) (s' := (24, [(4, .int 1), (3, .int 1), (0, .ref 10), (1, .int (nI A)), (2, .int (nI B))], [.long ((PP s) (Int32.toNatClampNeg (nI (A + 1))))], wP pre (wN (PP s) (QQ s) op oq tr dp wi fa ob st of F), 0)) rfl (vp_in_nI (show (A + 1) < 480 by omega) (by decide)) ?_
      rw [nI_clamp (show (A + 1) < 2 ^ 31 by omega)]
      show mm_W _ _ _ _ _ _ _ (24, [(4, .int 1), (3, .int 1), (0, .ref 10), (1, .int (nI A)), (2, .int (nI B))], [.long ((PP s) (A + 1))], wP pre (wN (PP s) (QQ s) op oq tr dp wi fa ob st of F), 0)
      refine mm_skip (mm_call_mono _ _) 5 (st' := (32, [(4, .int 1), (3, .int 1), (0, .ref 10), (1, .int (nI A)), (2, .int (nI B))], [.int ((nI B) + 1), .ref 11, .long ((PP s) (A + 1))], wP pre (wN (PP s) (QQ s) op oq tr dp wi fa ob st of F), 0)) rfl ?_
      rw [nI_p1 (B)]
      show mm_W _ _ _ _ _ _ _ (32, [(4, .int 1), (3, .int 1), (0, .ref 10), (1, .int (nI A)), (2, .int (nI B))], [.int (nI (B + 1)), .ref 11, .long ((PP s) (A + 1))], wP pre (wN (PP s) (QQ s) op oq tr dp wi fa ob st of F), 0)
      refine mm_need (mm_call_mono _ _) (c := vp_in (nI (B + 1)) 480) (s' := (33, [(4, .int 1), (3, .int 1), (0, .ref 10), (1, .int (nI A)), (2, .int (nI B))], [.long ((PP s) (Int32.toNatClampNeg (nI (B + 1)))), .long ((PP s) (A + 1))], wP pre (wN (PP s) (QQ s) op oq tr dp wi fa ob st of F), 0)) rfl (vp_in_nI (show (B + 1) < 480 by omega) (by decide)) ?_
      rw [nI_clamp (show (B + 1) < 2 ^ 31 by omega)]
      show mm_W _ _ _ _ _ _ _ (33, [(4, .int 1), (3, .int 1), (0, .ref 10), (1, .int (nI A)), (2, .int (nI B))], [.long ((PP s) (B + 1)), .long ((PP s) (A + 1))], wP pre (wN (PP s) (QQ s) op oq tr dp wi fa ob st of F), 0)
      refine mm_skip (mm_call_mono _ _) 1 (st' := (34, [(4, .int 1), (3, .int 1), (0, .ref 10), (1, .int (nI A)), (2, .int (nI B))], [.int (lg_cmp ((PP s) (A + 1)) ((PP s) (B + 1)))], wP pre (wN (PP s) (QQ s) op oq tr dp wi fa ob st of F), 0)) rfl ?_
      refine mm_branch (mm_call_mono _ _) (c := (lg_cmp ((PP s) (A + 1)) ((PP s) (B + 1))) = 0) (s1 := (37, [(4, .int 1), (3, .int 1), (0, .ref 10), (1, .int (nI A)), (2, .int (nI B))], [], wP pre (wN (PP s) (QQ s) op oq tr dp wi fa ob st of F), 0)) (s2 := (63, [(4, .int 1), (3, .int 1), (0, .ref 10), (1, .int (nI A)), (2, .int (nI B))], [], wP pre (wN (PP s) (QQ s) op oq tr dp wi fa ob st of F), 0)) rfl (fun p1 => ?_) (fun p1 => ?_)
      · have p1 := (ceP hV).mp p1
        refine mm_skip (mm_call_mono _ _) 5 (st' := (45, [(4, .int 1), (3, .int 1), (0, .ref 10), (1, .int (nI A)), (2, .int (nI B))], [.int ((nI A) + 1), .ref 12], wP pre (wN (PP s) (QQ s) op oq tr dp wi fa ob st of F), 0)) rfl ?_
        rw [nI_p1 (A)]
        show mm_W _ _ _ _ _ _ _ (45, [(4, .int 1), (3, .int 1), (0, .ref 10), (1, .int (nI A)), (2, .int (nI B))], [.int (nI (A + 1)), .ref 12], wP pre (wN (PP s) (QQ s) op oq tr dp wi fa ob st of F), 0)
        refine mm_need (mm_call_mono _ _) (c := vp_in (nI (A + 1)) 480) (s' := (46, [(4, .int 1), (3, .int 1), (0, .ref 10), (1, .int (nI A)), (2, .int (nI B))], [.long ((QQ s) (Int32.toNatClampNeg (nI (A + 1))))], wP pre (wN (PP s) (QQ s) op oq tr dp wi fa ob st of F), 0)) rfl (vp_in_nI (show (A + 1) < 480 by omega) (by decide)) ?_
        rw [nI_clamp (show (A + 1) < 2 ^ 31 by omega)]
        show mm_W _ _ _ _ _ _ _ (46, [(4, .int 1), (3, .int 1), (0, .ref 10), (1, .int (nI A)), (2, .int (nI B))], [.long ((QQ s) (A + 1))], wP pre (wN (PP s) (QQ s) op oq tr dp wi fa ob st of F), 0)
        refine mm_skip (mm_call_mono _ _) 5 (st' := (54, [(4, .int 1), (3, .int 1), (0, .ref 10), (1, .int (nI A)), (2, .int (nI B))], [.int ((nI B) + 1), .ref 12, .long ((QQ s) (A + 1))], wP pre (wN (PP s) (QQ s) op oq tr dp wi fa ob st of F), 0)) rfl ?_
        rw [nI_p1 (B)]
        show mm_W _ _ _ _ _ _ _ (54, [(4, .int 1), (3, .int 1), (0, .ref 10), (1, .int (nI A)), (2, .int (nI B))], [.int (nI (B + 1)), .ref 12, .long ((QQ s) (A + 1))], wP pre (wN (PP s) (QQ s) op oq tr dp wi fa ob st of F), 0)
        refine mm_need (mm_call_mono _ _) (c := vp_in (nI (B + 1)) 480) (s' := (55, [(4, .int 1), (3, .int 1), (0, .ref 10), (1, .int (nI A)), (2, .int (nI B))], [.long ((QQ s) (Int32.toNatClampNeg (nI (B + 1)))), .long ((QQ s) (A + 1))], wP pre (wN (PP s) (QQ s) op oq tr dp wi fa ob st of F), 0)) rfl (vp_in_nI (show (B + 1) < 480 by omega) (by decide)) ?_
        rw [nI_clamp (show (B + 1) < 2 ^ 31 by omega)]
        show mm_W _ _ _ _ _ _ _ (55, [(4, .int 1), (3, .int 1), (0, .ref 10), (1, .int (nI A)), (2, .int (nI B))], [.long ((QQ s) (B + 1)), .long ((QQ s) (A + 1))], wP pre (wN (PP s) (QQ s) op oq tr dp wi fa ob st of F), 0)
        refine mm_skip (mm_call_mono _ _) 1 (st' := (56, [(4, .int 1), (3, .int 1), (0, .ref 10), (1, .int (nI A)), (2, .int (nI B))], [.int (lg_cmp ((QQ s) (A + 1)) ((QQ s) (B + 1)))], wP pre (wN (PP s) (QQ s) op oq tr dp wi fa ob st of F), 0)) rfl ?_
        refine mm_branch (mm_call_mono _ _) (c := (lg_cmp ((QQ s) (A + 1)) ((QQ s) (B + 1))) = 0) (s1 := (59, [(4, .int 1), (3, .int 1), (0, .ref 10), (1, .int (nI A)), (2, .int (nI B))], [], wP pre (wN (PP s) (QQ s) op oq tr dp wi fa ob st of F), 0)) (s2 := (63, [(4, .int 1), (3, .int 1), (0, .ref 10), (1, .int (nI A)), (2, .int (nI B))], [], wP pre (wN (PP s) (QQ s) op oq tr dp wi fa ob st of F), 0)) rfl (fun q1 => ?_) (fun q1 => ?_)
        · have q1 := (ceQ hV).mp q1
          refine mm_skip (mm_call_mono _ _) 7 (st' := (8, [(4, .int 2), (3, .int 1), (0, .ref 10), (1, .int (nI A)), (2, .int (nI B))], [.int 4, .int 2], wP pre (wN (PP s) (QQ s) op oq tr dp wi fa ob st of F), 0)) rfl ?_
          refine mm_branch (mm_call_mono _ _) (c := (4 : Int32) ≤ 2) (s1 := (71, [(4, .int 2), (3, .int 1), (0, .ref 10), (1, .int (nI A)), (2, .int (nI B))], [], wP pre (wN (PP s) (QQ s) op oq tr dp wi fa ob st of F), 0)) (s2 := (11, [(4, .int 2), (3, .int 1), (0, .ref 10), (1, .int (nI A)), (2, .int (nI B))], [], wP pre (wN (PP s) (QQ s) op oq tr dp wi fa ob st of F), 0)) rfl (fun h => absurd h (by decide)) (fun _ => ?_)
          refine mm_skip (mm_call_mono _ _) 1 (st' := (12, [(4, .int 2), (3, .int 1), (0, .ref 10), (1, .int (nI A)), (2, .int (nI B))], [.int 1], wP pre (wN (PP s) (QQ s) op oq tr dp wi fa ob st of F), 0)) rfl ?_
          refine mm_branch (mm_call_mono _ _) (c := (1 : Int32) = 0) (s1 := (63, [(4, .int 2), (3, .int 1), (0, .ref 10), (1, .int (nI A)), (2, .int (nI B))], [], wP pre (wN (PP s) (QQ s) op oq tr dp wi fa ob st of F), 0)) (s2 := (15, [(4, .int 2), (3, .int 1), (0, .ref 10), (1, .int (nI A)), (2, .int (nI B))], [], wP pre (wN (PP s) (QQ s) op oq tr dp wi fa ob st of F), 0)) rfl (fun h => absurd h (by decide)) (fun _ => ?_)
          refine mm_skip (mm_call_mono _ _) 5 (st' := (23, [(4, .int 2), (3, .int 1), (0, .ref 10), (1, .int (nI A)), (2, .int (nI B))], [.int ((nI A) + 2), .ref 11], wP pre (wN (PP s) (QQ s) op oq tr dp wi fa ob st of F), 0)) rfl ?_
          rw [nI_p2 (A)]
          show mm_W _ _ _ _ _ _ _ (23, [(4, .int 2), (3, .int 1), (0, .ref 10), (1, .int (nI A)), (2, .int (nI B))], [.int (nI (A + 2)), .ref 11], wP pre (wN (PP s) (QQ s) op oq tr dp wi fa ob st of F), 0)
          refine mm_need (mm_call_mono _ _) (c := vp_in (nI (A + 2)) 480) (s' := (24, [(4, .int 2), (3, .int 1), (0, .ref 10), (1, .int (nI A)), (2, .int (nI B))], [.long ((PP s) (Int32.toNatClampNeg (nI (A + 2))))], wP pre (wN (PP s) (QQ s) op oq tr dp wi fa ob st of F), 0)) rfl (vp_in_nI (show (A + 2) < 480 by omega) (by decide)) ?_
          rw [nI_clamp (show (A + 2) < 2 ^ 31 by omega)]
          show mm_W _ _ _ _ _ _ _ (24, [(4, .int 2), (3, .int 1), (0, .ref 10), (1, .int (nI A)), (2, .int (nI B))], [.long ((PP s) (A + 2))], wP pre (wN (PP s) (QQ s) op oq tr dp wi fa ob st of F), 0)
          refine mm_skip (mm_call_mono _ _) 5 (st' := (32, [(4, .int 2), (3, .int 1), (0, .ref 10), (1, .int (nI A)), (2, .int (nI B))], [.int ((nI B) + 2), .ref 11, .long ((PP s) (A + 2))], wP pre (wN (PP s) (QQ s) op oq tr dp wi fa ob st of F), 0)) rfl ?_
          rw [nI_p2 (B)]
          show mm_W _ _ _ _ _ _ _ (32, [(4, .int 2), (3, .int 1), (0, .ref 10), (1, .int (nI A)), (2, .int (nI B))], [.int (nI (B + 2)), .ref 11, .long ((PP s) (A + 2))], wP pre (wN (PP s) (QQ s) op oq tr dp wi fa ob st of F), 0)
          refine mm_need (mm_call_mono _ _) (c := vp_in (nI (B + 2)) 480) (s' := (33, [(4, .int 2), (3, .int 1), (0, .ref 10), (1, .int (nI A)), (2, .int (nI B))], [.long ((PP s) (Int32.toNatClampNeg (nI (B + 2)))), .long ((PP s) (A + 2))], wP pre (wN (PP s) (QQ s) op oq tr dp wi fa ob st of F), 0)) rfl (vp_in_nI (show (B + 2) < 480 by omega) (by decide)) ?_
          rw [nI_clamp (show (B + 2) < 2 ^ 31 by omega)]
          show mm_W _ _ _ _ _ _ _ (33, [(4, .int 2), (3, .int 1), (0, .ref 10), (1, .int (nI A)), (2, .int (nI B))], [.long ((PP s) (B + 2)), .long ((PP s) (A + 2))], wP pre (wN (PP s) (QQ s) op oq tr dp wi fa ob st of F), 0)
          refine mm_skip (mm_call_mono _ _) 1 (st' := (34, [(4, .int 2), (3, .int 1), (0, .ref 10), (1, .int (nI A)), (2, .int (nI B))], [.int (lg_cmp ((PP s) (A + 2)) ((PP s) (B + 2)))], wP pre (wN (PP s) (QQ s) op oq tr dp wi fa ob st of F), 0)) rfl ?_
          refine mm_branch (mm_call_mono _ _) (c := (lg_cmp ((PP s) (A + 2)) ((PP s) (B + 2))) = 0) (s1 := (37, [(4, .int 2), (3, .int 1), (0, .ref 10), (1, .int (nI A)), (2, .int (nI B))], [], wP pre (wN (PP s) (QQ s) op oq tr dp wi fa ob st of F), 0)) (s2 := (63, [(4, .int 2), (3, .int 1), (0, .ref 10), (1, .int (nI A)), (2, .int (nI B))], [], wP pre (wN (PP s) (QQ s) op oq tr dp wi fa ob st of F), 0)) rfl (fun p2 => ?_) (fun p2 => ?_)
          · have p2 := (ceP hV).mp p2
            refine mm_skip (mm_call_mono _ _) 5 (st' := (45, [(4, .int 2), (3, .int 1), (0, .ref 10), (1, .int (nI A)), (2, .int (nI B))], [.int ((nI A) + 2), .ref 12], wP pre (wN (PP s) (QQ s) op oq tr dp wi fa ob st of F), 0)) rfl ?_
            rw [nI_p2 (A)]
            show mm_W _ _ _ _ _ _ _ (45, [(4, .int 2), (3, .int 1), (0, .ref 10), (1, .int (nI A)), (2, .int (nI B))], [.int (nI (A + 2)), .ref 12], wP pre (wN (PP s) (QQ s) op oq tr dp wi fa ob st of F), 0)
            refine mm_need (mm_call_mono _ _) (c := vp_in (nI (A + 2)) 480) (s' := (46, [(4, .int 2), (3, .int 1), (0, .ref 10), (1, .int (nI A)), (2, .int (nI B))], [.long ((QQ s) (Int32.toNatClampNeg (nI (A + 2))))], wP pre (wN (PP s) (QQ s) op oq tr dp wi fa ob st of F), 0)) rfl (vp_in_nI (show (A + 2) < 480 by omega) (by decide)) ?_
            rw [nI_clamp (show (A + 2) < 2 ^ 31 by omega)]
            show mm_W _ _ _ _ _ _ _ (46, [(4, .int 2), (3, .int 1), (0, .ref 10), (1, .int (nI A)), (2, .int (nI B))], [.long ((QQ s) (A + 2))], wP pre (wN (PP s) (QQ s) op oq tr dp wi fa ob st of F), 0)
            refine mm_skip (mm_call_mono _ _) 5 (st' := (54, [(4, .int 2), (3, .int 1), (0, .ref 10), (1, .int (nI A)), (2, .int (nI B))], [.int ((nI B) + 2), .ref 12, .long ((QQ s) (A + 2))], wP pre (wN (PP s) (QQ s) op oq tr dp wi fa ob st of F), 0)) rfl ?_
            rw [nI_p2 (B)]
            show mm_W _ _ _ _ _ _ _ (54, [(4, .int 2), (3, .int 1), (0, .ref 10), (1, .int (nI A)), (2, .int (nI B))], [.int (nI (B + 2)), .ref 12, .long ((QQ s) (A + 2))], wP pre (wN (PP s) (QQ s) op oq tr dp wi fa ob st of F), 0)
            refine mm_need (mm_call_mono _ _) (c := vp_in (nI (B + 2)) 480) (s' := (55, [(4, .int 2), (3, .int 1), (0, .ref 10), (1, .int (nI A)), (2, .int (nI B))], [.long ((QQ s) (Int32.toNatClampNeg (nI (B + 2)))), .long ((QQ s) (A + 2))], wP pre (wN (PP s) (QQ s) op oq tr dp wi fa ob st of F), 0)) rfl (vp_in_nI (show (B + 2) < 480 by omega) (by decide)) ?_
            rw [nI_clamp (show (B + 2) < 2 ^ 31 by omega)]
            show mm_W _ _ _ _ _ _ _ (55, [(4, .int 2), (3, .int 1), (0, .ref 10), (1, .int (nI A)), (2, .int (nI B))], [.long ((QQ s) (B + 2)), .long ((QQ s) (A + 2))], wP pre (wN (PP s) (QQ s) op oq tr dp wi fa ob st of F), 0)
            refine mm_skip (mm_call_mono _ _) 1 (st' := (56, [(4, .int 2), (3, .int 1), (0, .ref 10), (1, .int (nI A)), (2, .int (nI B))], [.int (lg_cmp ((QQ s) (A + 2)) ((QQ s) (B + 2)))], wP pre (wN (PP s) (QQ s) op oq tr dp wi fa ob st of F), 0)) rfl ?_
            refine mm_branch (mm_call_mono _ _) (c := (lg_cmp ((QQ s) (A + 2)) ((QQ s) (B + 2))) = 0) (s1 := (59, [(4, .int 2), (3, .int 1), (0, .ref 10), (1, .int (nI A)), (2, .int (nI B))], [], wP pre (wN (PP s) (QQ s) op oq tr dp wi fa ob st of F), 0)) (s2 := (63, [(4, .int 2), (3, .int 1), (0, .ref 10), (1, .int (nI A)), (2, .int (nI B))], [], wP pre (wN (PP s) (QQ s) op oq tr dp wi fa ob st of F), 0)) rfl (fun q2 => ?_) (fun q2 => ?_)
            · have q2 := (ceQ hV).mp q2
              refine mm_skip (mm_call_mono _ _) 7 (st' := (8, [(4, .int 3), (3, .int 1), (0, .ref 10), (1, .int (nI A)), (2, .int (nI B))], [.int 4, .int 3], wP pre (wN (PP s) (QQ s) op oq tr dp wi fa ob st of F), 0)) rfl ?_
              refine mm_branch (mm_call_mono _ _) (c := (4 : Int32) ≤ 3) (s1 := (71, [(4, .int 3), (3, .int 1), (0, .ref 10), (1, .int (nI A)), (2, .int (nI B))], [], wP pre (wN (PP s) (QQ s) op oq tr dp wi fa ob st of F), 0)) (s2 := (11, [(4, .int 3), (3, .int 1), (0, .ref 10), (1, .int (nI A)), (2, .int (nI B))], [], wP pre (wN (PP s) (QQ s) op oq tr dp wi fa ob st of F), 0)) rfl (fun h => absurd h (by decide)) (fun _ => ?_)
              refine mm_skip (mm_call_mono _ _) 1 (st' := (12, [(4, .int 3), (3, .int 1), (0, .ref 10), (1, .int (nI A)), (2, .int (nI B))], [.int 1], wP pre (wN (PP s) (QQ s) op oq tr dp wi fa ob st of F), 0)) rfl ?_
              refine mm_branch (mm_call_mono _ _) (c := (1 : Int32) = 0) (s1 := (63, [(4, .int 3), (3, .int 1), (0, .ref 10), (1, .int (nI A)), (2, .int (nI B))], [], wP pre (wN (PP s) (QQ s) op oq tr dp wi fa ob st of F), 0)) (s2 := (15, [(4, .int 3), (3, .int 1), (0, .ref 10), (1, .int (nI A)), (2, .int (nI B))], [], wP pre (wN (PP s) (QQ s) op oq tr dp wi fa ob st of F), 0)) rfl (fun h => absurd h (by decide)) (fun _ => ?_)
              refine mm_skip (mm_call_mono _ _) 5 (st' := (23, [(4, .int 3), (3, .int 1), (0, .ref 10), (1, .int (nI A)), (2, .int (nI B))], [.int ((nI A) + 3), .ref 11], wP pre (wN (PP s) (QQ s) op oq tr dp wi fa ob st of F), 0)) rfl ?_
              rw [nI_p3 (A)]
              show mm_W _ _ _ _ _ _ _ (23, [(4, .int 3), (3, .int 1), (0, .ref 10), (1, .int (nI A)), (2, .int (nI B))], [.int (nI (A + 3)), .ref 11], wP pre (wN (PP s) (QQ s) op oq tr dp wi fa ob st of F), 0)
              refine mm_need (mm_call_mono _ _) (c := vp_in (nI (A + 3)) 480) (s' := (24, [(4, .int 3), (3, .int 1), (0, .ref 10), (1, .int (nI A)), (2, .int (nI B))], [.long ((PP s) (Int32.toNatClampNeg (nI (A + 3))))], wP pre (wN (PP s) (QQ s) op oq tr dp wi fa ob st of F), 0)) rfl (vp_in_nI (show (A + 3) < 480 by omega) (by decide)) ?_
              rw [nI_clamp (show (A + 3) < 2 ^ 31 by omega)]
              show mm_W _ _ _ _ _ _ _ (24, [(4, .int 3), (3, .int 1), (0, .ref 10), (1, .int (nI A)), (2, .int (nI B))], [.long ((PP s) (A + 3))], wP pre (wN (PP s) (QQ s) op oq tr dp wi fa ob st of F), 0)
              refine mm_skip (mm_call_mono _ _) 5 (st' := (32, [(4, .int 3), (3, .int 1), (0, .ref 10), (1, .int (nI A)), (2, .int (nI B))], [.int ((nI B) + 3), .ref 11, .long ((PP s) (A + 3))], wP pre (wN (PP s) (QQ s) op oq tr dp wi fa ob st of F), 0)) rfl ?_
              rw [nI_p3 (B)]
              show mm_W _ _ _ _ _ _ _ (32, [(4, .int 3), (3, .int 1), (0, .ref 10), (1, .int (nI A)), (2, .int (nI B))], [.int (nI (B + 3)), .ref 11, .long ((PP s) (A + 3))], wP pre (wN (PP s) (QQ s) op oq tr dp wi fa ob st of F), 0)
              refine mm_need (mm_call_mono _ _) (c := vp_in (nI (B + 3)) 480) (s' := (33, [(4, .int 3), (3, .int 1), (0, .ref 10), (1, .int (nI A)), (2, .int (nI B))], [.long ((PP s) (Int32.toNatClampNeg (nI (B + 3)))), .long ((PP s) (A + 3))], wP pre (wN (PP s) (QQ s) op oq tr dp wi fa ob st of F), 0)) rfl (vp_in_nI (show (B + 3) < 480 by omega) (by decide)) ?_
              rw [nI_clamp (show (B + 3) < 2 ^ 31 by omega)]
              show mm_W _ _ _ _ _ _ _ (33, [(4, .int 3), (3, .int 1), (0, .ref 10), (1, .int (nI A)), (2, .int (nI B))], [.long ((PP s) (B + 3)), .long ((PP s) (A + 3))], wP pre (wN (PP s) (QQ s) op oq tr dp wi fa ob st of F), 0)
              refine mm_skip (mm_call_mono _ _) 1 (st' := (34, [(4, .int 3), (3, .int 1), (0, .ref 10), (1, .int (nI A)), (2, .int (nI B))], [.int (lg_cmp ((PP s) (A + 3)) ((PP s) (B + 3)))], wP pre (wN (PP s) (QQ s) op oq tr dp wi fa ob st of F), 0)) rfl ?_
              refine mm_branch (mm_call_mono _ _) (c := (lg_cmp ((PP s) (A + 3)) ((PP s) (B + 3))) = 0) (s1 := (37, [(4, .int 3), (3, .int 1), (0, .ref 10), (1, .int (nI A)), (2, .int (nI B))], [], wP pre (wN (PP s) (QQ s) op oq tr dp wi fa ob st of F), 0)) (s2 := (63, [(4, .int 3), (3, .int 1), (0, .ref 10), (1, .int (nI A)), (2, .int (nI B))], [], wP pre (wN (PP s) (QQ s) op oq tr dp wi fa ob st of F), 0)) rfl (fun p3 => ?_) (fun p3 => ?_)
              · have p3 := (ceP hV).mp p3
                refine mm_skip (mm_call_mono _ _) 5 (st' := (45, [(4, .int 3), (3, .int 1), (0, .ref 10), (1, .int (nI A)), (2, .int (nI B))], [.int ((nI A) + 3), .ref 12], wP pre (wN (PP s) (QQ s) op oq tr dp wi fa ob st of F), 0)) rfl ?_
                rw [nI_p3 (A)]
                show mm_W _ _ _ _ _ _ _ (45, [(4, .int 3), (3, .int 1), (0, .ref 10), (1, .int (nI A)), (2, .int (nI B))], [.int (nI (A + 3)), .ref 12], wP pre (wN (PP s) (QQ s) op oq tr dp wi fa ob st of F), 0)
                refine mm_need (mm_call_mono _ _) (c := vp_in (nI (A + 3)) 480) (s' := (46, [(4, .int 3), (3, .int 1), (0, .ref 10), (1, .int (nI A)), (2, .int (nI B))], [.long ((QQ s) (Int32.toNatClampNeg (nI (A + 3))))], wP pre (wN (PP s) (QQ s) op oq tr dp wi fa ob st of F), 0)) rfl (vp_in_nI (show (A + 3) < 480 by omega) (by decide)) ?_
                rw [nI_clamp (show (A + 3) < 2 ^ 31 by omega)]
                show mm_W _ _ _ _ _ _ _ (46, [(4, .int 3), (3, .int 1), (0, .ref 10), (1, .int (nI A)), (2, .int (nI B))], [.long ((QQ s) (A + 3))], wP pre (wN (PP s) (QQ s) op oq tr dp wi fa ob st of F), 0)
                refine mm_skip (mm_call_mono _ _) 5 (st' := (54, [(4, .int 3), (3, .int 1), (0, .ref 10), (1, .int (nI A)), (2, .int (nI B))], [.int ((nI B) + 3), .ref 12, .long ((QQ s) (A + 3))], wP pre (wN (PP s) (QQ s) op oq tr dp wi fa ob st of F), 0)) rfl ?_
                rw [nI_p3 (B)]
                show mm_W _ _ _ _ _ _ _ (54, [(4, .int 3), (3, .int 1), (0, .ref 10), (1, .int (nI A)), (2, .int (nI B))], [.int (nI (B + 3)), .ref 12, .long ((QQ s) (A + 3))], wP pre (wN (PP s) (QQ s) op oq tr dp wi fa ob st of F), 0)
                refine mm_need (mm_call_mono _ _) (c := vp_in (nI (B + 3)) 480) (s' := (55, [(4, .int 3), (3, .int 1), (0, .ref 10), (1, .int (nI A)), (2, .int (nI B))], [.long ((QQ s) (Int32.toNatClampNeg (nI (B + 3)))), .long ((QQ s) (A + 3))], wP pre (wN (PP s) (QQ s) op oq tr dp wi fa ob st of F), 0)) rfl (vp_in_nI (show (B + 3) < 480 by omega) (by decide)) ?_
                rw [nI_clamp (show (B + 3) < 2 ^ 31 by omega)]
                show mm_W _ _ _ _ _ _ _ (55, [(4, .int 3), (3, .int 1), (0, .ref 10), (1, .int (nI A)), (2, .int (nI B))], [.long ((QQ s) (B + 3)), .long ((QQ s) (A + 3))], wP pre (wN (PP s) (QQ s) op oq tr dp wi fa ob st of F), 0)
                refine mm_skip (mm_call_mono _ _) 1 (st' := (56, [(4, .int 3), (3, .int 1), (0, .ref 10), (1, .int (nI A)), (2, .int (nI B))], [.int (lg_cmp ((QQ s) (A + 3)) ((QQ s) (B + 3)))], wP pre (wN (PP s) (QQ s) op oq tr dp wi fa ob st of F), 0)) rfl ?_
                refine mm_branch (mm_call_mono _ _) (c := (lg_cmp ((QQ s) (A + 3)) ((QQ s) (B + 3))) = 0) (s1 := (59, [(4, .int 3), (3, .int 1), (0, .ref 10), (1, .int (nI A)), (2, .int (nI B))], [], wP pre (wN (PP s) (QQ s) op oq tr dp wi fa ob st of F), 0)) (s2 := (63, [(4, .int 3), (3, .int 1), (0, .ref 10), (1, .int (nI A)), (2, .int (nI B))], [], wP pre (wN (PP s) (QQ s) op oq tr dp wi fa ob st of F), 0)) rfl (fun q3 => ?_) (fun q3 => ?_)
                · have q3 := (ceQ hV).mp q3
                  refine mm_skip (mm_call_mono _ _) 7 (st' := (8, [(4, .int 4), (3, .int 1), (0, .ref 10), (1, .int (nI A)), (2, .int (nI B))], [.int 4, .int 4], wP pre (wN (PP s) (QQ s) op oq tr dp wi fa ob st of F), 0)) rfl ?_
                  refine mm_branch (mm_call_mono _ _) (c := (4 : Int32) ≤ 4) (s1 := (71, [(4, .int 4), (3, .int 1), (0, .ref 10), (1, .int (nI A)), (2, .int (nI B))], [], wP pre (wN (PP s) (QQ s) op oq tr dp wi fa ob st of F), 0)) (s2 := (11, [(4, .int 4), (3, .int 1), (0, .ref 10), (1, .int (nI A)), (2, .int (nI B))], [], wP pre (wN (PP s) (QQ s) op oq tr dp wi fa ob st of F), 0)) rfl (fun _ => ?_) (fun h => absurd (by decide) h)
                  refine mm_skip (mm_call_mono _ _) 1 (st' := (72, [(4, .int 4), (3, .int 1), (0, .ref 10), (1, .int (nI A)), (2, .int (nI B))], [.int 1], wP pre (wN (PP s) (QQ s) op oq tr dp wi fa ob st of F), 0)) rfl ?_
                  exact mm_ret (mm_call_mono _ _) (c := mm_z 1) (r := .inl (some (.int 1))) (M := wP pre (wN (PP s) (QQ s) op oq tr dp wi fa ob st of F)) (u := 0) rfl (by unfold mm_z; decide) (by decide) (by rw [bz_t (fun j hj => by rcases (show j = 0 ∨ j = 1 ∨ j = 2 ∨ j = 3 by omega) with rfl | rfl | rfl | rfl; exact Prod.ext p0 q0; exact Prod.ext p1 q1; exact Prod.ext p2 q2; exact Prod.ext p3 q3)] at hQ; exact hQ)
                · skip
                  refine mm_skip (mm_call_mono _ _) 6 (st' := (8, [(4, .int 4), (3, .int 0), (0, .ref 10), (1, .int (nI A)), (2, .int (nI B))], [.int 4, .int 4], wP pre (wN (PP s) (QQ s) op oq tr dp wi fa ob st of F), 0)) rfl ?_
                  refine mm_branch (mm_call_mono _ _) (c := (4 : Int32) ≤ 4) (s1 := (71, [(4, .int 4), (3, .int 0), (0, .ref 10), (1, .int (nI A)), (2, .int (nI B))], [], wP pre (wN (PP s) (QQ s) op oq tr dp wi fa ob st of F), 0)) (s2 := (11, [(4, .int 4), (3, .int 0), (0, .ref 10), (1, .int (nI A)), (2, .int (nI B))], [], wP pre (wN (PP s) (QQ s) op oq tr dp wi fa ob st of F), 0)) rfl (fun _ => ?_) (fun h => absurd (by decide) h)
                  refine mm_skip (mm_call_mono _ _) 1 (st' := (72, [(4, .int 4), (3, .int 0), (0, .ref 10), (1, .int (nI A)), (2, .int (nI B))], [.int 0], wP pre (wN (PP s) (QQ s) op oq tr dp wi fa ob st of F), 0)) rfl ?_
                  exact mm_ret (mm_call_mono _ _) (c := mm_z 0) (r := .inl (some (.int 0))) (M := wP pre (wN (PP s) (QQ s) op oq tr dp wi fa ob st of F)) (u := 0) rfl (by unfold mm_z; decide) (by decide) (by rw [bz_f (fun h => q3 ((ceQ hV).mpr (congrArg Prod.snd (h 3 (by omega)))))] at hQ; exact hQ)
              · skip
                refine mm_skip (mm_call_mono _ _) 6 (st' := (8, [(4, .int 4), (3, .int 0), (0, .ref 10), (1, .int (nI A)), (2, .int (nI B))], [.int 4, .int 4], wP pre (wN (PP s) (QQ s) op oq tr dp wi fa ob st of F), 0)) rfl ?_
                refine mm_branch (mm_call_mono _ _) (c := (4 : Int32) ≤ 4) (s1 := (71, [(4, .int 4), (3, .int 0), (0, .ref 10), (1, .int (nI A)), (2, .int (nI B))], [], wP pre (wN (PP s) (QQ s) op oq tr dp wi fa ob st of F), 0)) (s2 := (11, [(4, .int 4), (3, .int 0), (0, .ref 10), (1, .int (nI A)), (2, .int (nI B))], [], wP pre (wN (PP s) (QQ s) op oq tr dp wi fa ob st of F), 0)) rfl (fun _ => ?_) (fun h => absurd (by decide) h)
                refine mm_skip (mm_call_mono _ _) 1 (st' := (72, [(4, .int 4), (3, .int 0), (0, .ref 10), (1, .int (nI A)), (2, .int (nI B))], [.int 0], wP pre (wN (PP s) (QQ s) op oq tr dp wi fa ob st of F), 0)) rfl ?_
                exact mm_ret (mm_call_mono _ _) (c := mm_z 0) (r := .inl (some (.int 0))) (M := wP pre (wN (PP s) (QQ s) op oq tr dp wi fa ob st of F)) (u := 0) rfl (by unfold mm_z; decide) (by decide) (by rw [bz_f (fun h => p3 ((ceP hV).mpr (congrArg Prod.fst (h 3 (by omega)))))] at hQ; exact hQ)
            · skip
              refine mm_skip (mm_call_mono _ _) 6 (st' := (8, [(4, .int 3), (3, .int 0), (0, .ref 10), (1, .int (nI A)), (2, .int (nI B))], [.int 4, .int 3], wP pre (wN (PP s) (QQ s) op oq tr dp wi fa ob st of F), 0)) rfl ?_
              refine mm_branch (mm_call_mono _ _) (c := (4 : Int32) ≤ 3) (s1 := (71, [(4, .int 3), (3, .int 0), (0, .ref 10), (1, .int (nI A)), (2, .int (nI B))], [], wP pre (wN (PP s) (QQ s) op oq tr dp wi fa ob st of F), 0)) (s2 := (11, [(4, .int 3), (3, .int 0), (0, .ref 10), (1, .int (nI A)), (2, .int (nI B))], [], wP pre (wN (PP s) (QQ s) op oq tr dp wi fa ob st of F), 0)) rfl (fun h => absurd h (by decide)) (fun _ => ?_)
              refine mm_skip (mm_call_mono _ _) 1 (st' := (12, [(4, .int 3), (3, .int 0), (0, .ref 10), (1, .int (nI A)), (2, .int (nI B))], [.int 0], wP pre (wN (PP s) (QQ s) op oq tr dp wi fa ob st of F), 0)) rfl ?_
              refine mm_branch (mm_call_mono _ _) (c := (0 : Int32) = 0) (s1 := (63, [(4, .int 3), (3, .int 0), (0, .ref 10), (1, .int (nI A)), (2, .int (nI B))], [], wP pre (wN (PP s) (QQ s) op oq tr dp wi fa ob st of F), 0)) (s2 := (15, [(4, .int 3), (3, .int 0), (0, .ref 10), (1, .int (nI A)), (2, .int (nI B))], [], wP pre (wN (PP s) (QQ s) op oq tr dp wi fa ob st of F), 0)) rfl (fun _ => ?_) (fun h => absurd (by decide) h)
              refine mm_skip (mm_call_mono _ _) 6 (st' := (8, [(4, .int 4), (3, .int 0), (0, .ref 10), (1, .int (nI A)), (2, .int (nI B))], [.int 4, .int 4], wP pre (wN (PP s) (QQ s) op oq tr dp wi fa ob st of F), 0)) rfl ?_
              refine mm_branch (mm_call_mono _ _) (c := (4 : Int32) ≤ 4) (s1 := (71, [(4, .int 4), (3, .int 0), (0, .ref 10), (1, .int (nI A)), (2, .int (nI B))], [], wP pre (wN (PP s) (QQ s) op oq tr dp wi fa ob st of F), 0)) (s2 := (11, [(4, .int 4), (3, .int 0), (0, .ref 10), (1, .int (nI A)), (2, .int (nI B))], [], wP pre (wN (PP s) (QQ s) op oq tr dp wi fa ob st of F), 0)) rfl (fun _ => ?_) (fun h => absurd (by decide) h)
              refine mm_skip (mm_call_mono _ _) 1 (st' := (72, [(4, .int 4), (3, .int 0), (0, .ref 10), (1, .int (nI A)), (2, .int (nI B))], [.int 0], wP pre (wN (PP s) (QQ s) op oq tr dp wi fa ob st of F), 0)) rfl ?_
              exact mm_ret (mm_call_mono _ _) (c := mm_z 0) (r := .inl (some (.int 0))) (M := wP pre (wN (PP s) (QQ s) op oq tr dp wi fa ob st of F)) (u := 0) rfl (by unfold mm_z; decide) (by decide) (by rw [bz_f (fun h => q2 ((ceQ hV).mpr (congrArg Prod.snd (h 2 (by omega)))))] at hQ; exact hQ)
          · skip
            refine mm_skip (mm_call_mono _ _) 6 (st' := (8, [(4, .int 3), (3, .int 0), (0, .ref 10), (1, .int (nI A)), (2, .int (nI B))], [.int 4, .int 3], wP pre (wN (PP s) (QQ s) op oq tr dp wi fa ob st of F), 0)) rfl ?_
            refine mm_branch (mm_call_mono _ _) (c := (4 : Int32) ≤ 3) (s1 := (71, [(4, .int 3), (3, .int 0), (0, .ref 10), (1, .int (nI A)), (2, .int (nI B))], [], wP pre (wN (PP s) (QQ s) op oq tr dp wi fa ob st of F), 0)) (s2 := (11, [(4, .int 3), (3, .int 0), (0, .ref 10), (1, .int (nI A)), (2, .int (nI B))], [], wP pre (wN (PP s) (QQ s) op oq tr dp wi fa ob st of F), 0)) rfl (fun h => absurd h (by decide)) (fun _ => ?_)
            refine mm_skip (mm_call_mono _ _) 1 (st' := (12, [(4, .int 3), (3, .int 0), (0, .ref 10), (1, .int (nI A)), (2, .int (nI B))], [.int 0], wP pre (wN (PP s) (QQ s) op oq tr dp wi fa ob st of F), 0)) rfl ?_
            refine mm_branch (mm_call_mono _ _) (c := (0 : Int32) = 0) (s1 := (63, [(4, .int 3), (3, .int 0), (0, .ref 10), (1, .int (nI A)), (2, .int (nI B))], [], wP pre (wN (PP s) (QQ s) op oq tr dp wi fa ob st of F), 0)) (s2 := (15, [(4, .int 3), (3, .int 0), (0, .ref 10), (1, .int (nI A)), (2, .int (nI B))], [], wP pre (wN (PP s) (QQ s) op oq tr dp wi fa ob st of F), 0)) rfl (fun _ => ?_) (fun h => absurd (by decide) h)
            refine mm_skip (mm_call_mono _ _) 6 (st' := (8, [(4, .int 4), (3, .int 0), (0, .ref 10), (1, .int (nI A)), (2, .int (nI B))], [.int 4, .int 4], wP pre (wN (PP s) (QQ s) op oq tr dp wi fa ob st of F), 0)) rfl ?_
            refine mm_branch (mm_call_mono _ _) (c := (4 : Int32) ≤ 4) (s1 := (71, [(4, .int 4), (3, .int 0), (0, .ref 10), (1, .int (nI A)), (2, .int (nI B))], [], wP pre (wN (PP s) (QQ s) op oq tr dp wi fa ob st of F), 0)) (s2 := (11, [(4, .int 4), (3, .int 0), (0, .ref 10), (1, .int (nI A)), (2, .int (nI B))], [], wP pre (wN (PP s) (QQ s) op oq tr dp wi fa ob st of F), 0)) rfl (fun _ => ?_) (fun h => absurd (by decide) h)
            refine mm_skip (mm_call_mono _ _) 1 (st' := (72, [(4, .int 4), (3, .int 0), (0, .ref 10), (1, .int (nI A)), (2, .int (nI B))], [.int 0], wP pre (wN (PP s) (QQ s) op oq tr dp wi fa ob st of F), 0)) rfl ?_
            exact mm_ret (mm_call_mono _ _) (c := mm_z 0) (r := .inl (some (.int 0))) (M := wP pre (wN (PP s) (QQ s) op oq tr dp wi fa ob st of F)) (u := 0) rfl (by unfold mm_z; decide) (by decide) (by rw [bz_f (fun h => p2 ((ceP hV).mpr (congrArg Prod.fst (h 2 (by omega)))))] at hQ; exact hQ)
        · skip
          refine mm_skip (mm_call_mono _ _) 6 (st' := (8, [(4, .int 2), (3, .int 0), (0, .ref 10), (1, .int (nI A)), (2, .int (nI B))], [.int 4, .int 2], wP pre (wN (PP s) (QQ s) op oq tr dp wi fa ob st of F), 0)) rfl ?_
          refine mm_branch (mm_call_mono _ _) (c := (4 : Int32) ≤ 2) (s1 := (71, [(4, .int 2), (3, .int 0), (0, .ref 10), (1, .int (nI A)), (2, .int (nI B))], [], wP pre (wN (PP s) (QQ s) op oq tr dp wi fa ob st of F), 0)) (s2 := (11, [(4, .int 2), (3, .int 0), (0, .ref 10), (1, .int (nI A)), (2, .int (nI B))], [], wP pre (wN (PP s) (QQ s) op oq tr dp wi fa ob st of F), 0)) rfl (fun h => absurd h (by decide)) (fun _ => ?_)
          refine mm_skip (mm_call_mono _ _) 1 (st' := (12, [(4, .int 2), (3, .int 0), (0, .ref 10), (1, .int (nI A)), (2, .int (nI B))], [.int 0], wP pre (wN (PP s) (QQ s) op oq tr dp wi fa ob st of F), 0)) rfl ?_
          refine mm_branch (mm_call_mono _ _) (c := (0 : Int32) = 0) (s1 := (63, [(4, .int 2), (3, .int 0), (0, .ref 10), (1, .int (nI A)), (2, .int (nI B))], [], wP pre (wN (PP s) (QQ s) op oq tr dp wi fa ob st of F), 0)) (s2 := (15, [(4, .int 2), (3, .int 0), (0, .ref 10), (1, .int (nI A)), (2, .int (nI B))], [], wP pre (wN (PP s) (QQ s) op oq tr dp wi fa ob st of F), 0)) rfl (fun _ => ?_) (fun h => absurd (by decide) h)
          refine mm_skip (mm_call_mono _ _) 6 (st' := (8, [(4, .int 3), (3, .int 0), (0, .ref 10), (1, .int (nI A)), (2, .int (nI B))], [.int 4, .int 3], wP pre (wN (PP s) (QQ s) op oq tr dp wi fa ob st of F), 0)) rfl ?_
          refine mm_branch (mm_call_mono _ _) (c := (4 : Int32) ≤ 3) (s1 := (71, [(4, .int 3), (3, .int 0), (0, .ref 10), (1, .int (nI A)), (2, .int (nI B))], [], wP pre (wN (PP s) (QQ s) op oq tr dp wi fa ob st of F), 0)) (s2 := (11, [(4, .int 3), (3, .int 0), (0, .ref 10), (1, .int (nI A)), (2, .int (nI B))], [], wP pre (wN (PP s) (QQ s) op oq tr dp wi fa ob st of F), 0)) rfl (fun h => absurd h (by decide)) (fun _ => ?_)
          refine mm_skip (mm_call_mono _ _) 1 (st' := (12, [(4, .int 3), (3, .int 0), (0, .ref 10), (1, .int (nI A)), (2, .int (nI B))], [.int 0], wP pre (wN (PP s) (QQ s) op oq tr dp wi fa ob st of F), 0)) rfl ?_
          refine mm_branch (mm_call_mono _ _) (c := (0 : Int32) = 0) (s1 := (63, [(4, .int 3), (3, .int 0), (0, .ref 10), (1, .int (nI A)), (2, .int (nI B))], [], wP pre (wN (PP s) (QQ s) op oq tr dp wi fa ob st of F), 0)) (s2 := (15, [(4, .int 3), (3, .int 0), (0, .ref 10), (1, .int (nI A)), (2, .int (nI B))], [], wP pre (wN (PP s) (QQ s) op oq tr dp wi fa ob st of F), 0)) rfl (fun _ => ?_) (fun h => absurd (by decide) h)
          refine mm_skip (mm_call_mono _ _) 6 (st' := (8, [(4, .int 4), (3, .int 0), (0, .ref 10), (1, .int (nI A)), (2, .int (nI B))], [.int 4, .int 4], wP pre (wN (PP s) (QQ s) op oq tr dp wi fa ob st of F), 0)) rfl ?_
          refine mm_branch (mm_call_mono _ _) (c := (4 : Int32) ≤ 4) (s1 := (71, [(4, .int 4), (3, .int 0), (0, .ref 10), (1, .int (nI A)), (2, .int (nI B))], [], wP pre (wN (PP s) (QQ s) op oq tr dp wi fa ob st of F), 0)) (s2 := (11, [(4, .int 4), (3, .int 0), (0, .ref 10), (1, .int (nI A)), (2, .int (nI B))], [], wP pre (wN (PP s) (QQ s) op oq tr dp wi fa ob st of F), 0)) rfl (fun _ => ?_) (fun h => absurd (by decide) h)
          refine mm_skip (mm_call_mono _ _) 1 (st' := (72, [(4, .int 4), (3, .int 0), (0, .ref 10), (1, .int (nI A)), (2, .int (nI B))], [.int 0], wP pre (wN (PP s) (QQ s) op oq tr dp wi fa ob st of F), 0)) rfl ?_
          exact mm_ret (mm_call_mono _ _) (c := mm_z 0) (r := .inl (some (.int 0))) (M := wP pre (wN (PP s) (QQ s) op oq tr dp wi fa ob st of F)) (u := 0) rfl (by unfold mm_z; decide) (by decide) (by rw [bz_f (fun h => q1 ((ceQ hV).mpr (congrArg Prod.snd (h 1 (by omega)))))] at hQ; exact hQ)
      · skip
        refine mm_skip (mm_call_mono _ _) 6 (st' := (8, [(4, .int 2), (3, .int 0), (0, .ref 10), (1, .int (nI A)), (2, .int (nI B))], [.int 4, .int 2], wP pre (wN (PP s) (QQ s) op oq tr dp wi fa ob st of F), 0)) rfl ?_
        refine mm_branch (mm_call_mono _ _) (c := (4 : Int32) ≤ 2) (s1 := (71, [(4, .int 2), (3, .int 0), (0, .ref 10), (1, .int (nI A)), (2, .int (nI B))], [], wP pre (wN (PP s) (QQ s) op oq tr dp wi fa ob st of F), 0)) (s2 := (11, [(4, .int 2), (3, .int 0), (0, .ref 10), (1, .int (nI A)), (2, .int (nI B))], [], wP pre (wN (PP s) (QQ s) op oq tr dp wi fa ob st of F), 0)) rfl (fun h => absurd h (by decide)) (fun _ => ?_)
        refine mm_skip (mm_call_mono _ _) 1 (st' := (12, [(4, .int 2), (3, .int 0), (0, .ref 10), (1, .int (nI A)), (2, .int (nI B))], [.int 0], wP pre (wN (PP s) (QQ s) op oq tr dp wi fa ob st of F), 0)) rfl ?_
        refine mm_branch (mm_call_mono _ _) (c := (0 : Int32) = 0) (s1 := (63, [(4, .int 2), (3, .int 0), (0, .ref 10), (1, .int (nI A)), (2, .int (nI B))], [], wP pre (wN (PP s) (QQ s) op oq tr dp wi fa ob st of F), 0)) (s2 := (15, [(4, .int 2), (3, .int 0), (0, .ref 10), (1, .int (nI A)), (2, .int (nI B))], [], wP pre (wN (PP s) (QQ s) op oq tr dp wi fa ob st of F), 0)) rfl (fun _ => ?_) (fun h => absurd (by decide) h)
        refine mm_skip (mm_call_mono _ _) 6 (st' := (8, [(4, .int 3), (3, .int 0), (0, .ref 10), (1, .int (nI A)), (2, .int (nI B))], [.int 4, .int 3], wP pre (wN (PP s) (QQ s) op oq tr dp wi fa ob st of F), 0)) rfl ?_
        refine mm_branch (mm_call_mono _ _) (c := (4 : Int32) ≤ 3) (s1 := (71, [(4, .int 3), (3, .int 0), (0, .ref 10), (1, .int (nI A)), (2, .int (nI B))], [], wP pre (wN (PP s) (QQ s) op oq tr dp wi fa ob st of F), 0)) (s2 := (11, [(4, .int 3), (3, .int 0), (0, .ref 10), (1, .int (nI A)), (2, .int (nI B))], [], wP pre (wN (PP s) (QQ s) op oq tr dp wi fa ob st of F), 0)) rfl (fun h => absurd h (by decide)) (fun _ => ?_)
        refine mm_skip (mm_call_mono _ _) 1 (st' := (12, [(4, .int 3), (3, .int 0), (0, .ref 10), (1, .int (nI A)), (2, .int (nI B))], [.int 0], wP pre (wN (PP s) (QQ s) op oq tr dp wi fa ob st of F), 0)) rfl ?_
        refine mm_branch (mm_call_mono _ _) (c := (0 : Int32) = 0) (s1 := (63, [(4, .int 3), (3, .int 0), (0, .ref 10), (1, .int (nI A)), (2, .int (nI B))], [], wP pre (wN (PP s) (QQ s) op oq tr dp wi fa ob st of F), 0)) (s2 := (15, [(4, .int 3), (3, .int 0), (0, .ref 10), (1, .int (nI A)), (2, .int (nI B))], [], wP pre (wN (PP s) (QQ s) op oq tr dp wi fa ob st of F), 0)) rfl (fun _ => ?_) (fun h => absurd (by decide) h)
        refine mm_skip (mm_call_mono _ _) 6 (st' := (8, [(4, .int 4), (3, .int 0), (0, .ref 10), (1, .int (nI A)), (2, .int (nI B))], [.int 4, .int 4], wP pre (wN (PP s) (QQ s) op oq tr dp wi fa ob st of F), 0)) rfl ?_
        refine mm_branch (mm_call_mono _ _) (c := (4 : Int32) ≤ 4) (s1 := (71, [(4, .int 4), (3, .int 0), (0, .ref 10), (1, .int (nI A)), (2, .int (nI B))], [], wP pre (wN (PP s) (QQ s) op oq tr dp wi fa ob st of F), 0)) (s2 := (11, [(4, .int 4), (3, .int 0), (0, .ref 10), (1, .int (nI A)), (2, .int (nI B))], [], wP pre (wN (PP s) (QQ s) op oq tr dp wi fa ob st of F), 0)) rfl (fun _ => ?_) (fun h => absurd (by decide) h)
        refine mm_skip (mm_call_mono _ _) 1 (st' := (72, [(4, .int 4), (3, .int 0), (0, .ref 10), (1, .int (nI A)), (2, .int (nI B))], [.int 0], wP pre (wN (PP s) (QQ s) op oq tr dp wi fa ob st of F), 0)) rfl ?_
        exact mm_ret (mm_call_mono _ _) (c := mm_z 0) (r := .inl (some (.int 0))) (M := wP pre (wN (PP s) (QQ s) op oq tr dp wi fa ob st of F)) (u := 0) rfl (by unfold mm_z; decide) (by decide) (by rw [bz_f (fun h => p1 ((ceP hV).mpr (congrArg Prod.fst (h 1 (by omega)))))] at hQ; exact hQ)
    · skip
      refine mm_skip (mm_call_mono _ _) 6 (st' := (8, [(4, .int 1), (3, .int 0), (0, .ref 10), (1, .int (nI A)), (2, .int (nI B))], [.int 4, .int 1], wP pre (wN (PP s) (QQ s) op oq tr dp wi fa ob st of F), 0)) rfl ?_
      refine mm_branch (mm_call_mono _ _) (c := (4 : Int32) ≤ 1) (s1 := (71, [(4, .int 1), (3, .int 0), (0, .ref 10), (1, .int (nI A)), (2, .int (nI B))], [], wP pre (wN (PP s) (QQ s) op oq tr dp wi fa ob st of F), 0)) (s2 := (11, [(4, .int 1), (3, .int 0), (0, .ref 10), (1, .int (nI A)), (2, .int (nI B))], [], wP pre (wN (PP s) (QQ s) op oq tr dp wi fa ob st of F), 0)) rfl (fun h => absurd h (by decide)) (fun _ => ?_)
      refine mm_skip (mm_call_mono _ _) 1 (st' := (12, [(4, .int 1), (3, .int 0), (0, .ref 10), (1, .int (nI A)), (2, .int (nI B))], [.int 0], wP pre (wN (PP s) (QQ s) op oq tr dp wi fa ob st of F), 0)) rfl ?_
      refine mm_branch (mm_call_mono _ _) (c := (0 : Int32) = 0) (s1 := (63, [(4, .int 1), (3, .int 0), (0, .ref 10), (1, .int (nI A)), (2, .int (nI B))], [], wP pre (wN (PP s) (QQ s) op oq tr dp wi fa ob st of F), 0)) (s2 := (15, [(4, .int 1), (3, .int 0), (0, .ref 10), (1, .int (nI A)), (2, .int (nI B))], [], wP pre (wN (PP s) (QQ s) op oq tr dp wi fa ob st of F), 0)) rfl (fun _ => ?_) (fun h => absurd (by decide) h)
      refine mm_skip (mm_call_mono _ _) 6 (st' := (8, [(4, .int 2), (3, .int 0), (0, .ref 10), (1, .int (nI A)), (2, .int (nI B))], [.int 4, .int 2], wP pre (wN (PP s) (QQ s) op oq tr dp wi fa ob st of F), 0)) rfl ?_
      refine mm_branch (mm_call_mono _ _) (c := (4 : Int32) ≤ 2) (s1 := (71, [(4, .int 2), (3, .int 0), (0, .ref 10), (1, .int (nI A)), (2, .int (nI B))], [], wP pre (wN (PP s) (QQ s) op oq tr dp wi fa ob st of F), 0)) (s2 := (11, [(4, .int 2), (3, .int 0), (0, .ref 10), (1, .int (nI A)), (2, .int (nI B))], [], wP pre (wN (PP s) (QQ s) op oq tr dp wi fa ob st of F), 0)) rfl (fun h => absurd h (by decide)) (fun _ => ?_)
      refine mm_skip (mm_call_mono _ _) 1 (st' := (12, [(4, .int 2), (3, .int 0), (0, .ref 10), (1, .int (nI A)), (2, .int (nI B))], [.int 0], wP pre (wN (PP s) (QQ s) op oq tr dp wi fa ob st of F), 0)) rfl ?_
      refine mm_branch (mm_call_mono _ _) (c := (0 : Int32) = 0) (s1 := (63, [(4, .int 2), (3, .int 0), (0, .ref 10), (1, .int (nI A)), (2, .int (nI B))], [], wP pre (wN (PP s) (QQ s) op oq tr dp wi fa ob st of F), 0)) (s2 := (15, [(4, .int 2), (3, .int 0), (0, .ref 10), (1, .int (nI A)), (2, .int (nI B))], [], wP pre (wN (PP s) (QQ s) op oq tr dp wi fa ob st of F), 0)) rfl (fun _ => ?_) (fun h => absurd (by decide) h)
      refine mm_skip (mm_call_mono _ _) 6 (st' := (8, [(4, .int 3), (3, .int 0), (0, .ref 10), (1, .int (nI A)), (2, .int (nI B))], [.int 4, .int 3], wP pre (wN (PP s) (QQ s) op oq tr dp wi fa ob st of F), 0)) rfl ?_
      refine mm_branch (mm_call_mono _ _) (c := (4 : Int32) ≤ 3) (s1 := (71, [(4, .int 3), (3, .int 0), (0, .ref 10), (1, .int (nI A)), (2, .int (nI B))], [], wP pre (wN (PP s) (QQ s) op oq tr dp wi fa ob st of F), 0)) (s2 := (11, [(4, .int 3), (3, .int 0), (0, .ref 10), (1, .int (nI A)), (2, .int (nI B))], [], wP pre (wN (PP s) (QQ s) op oq tr dp wi fa ob st of F), 0)) rfl (fun h => absurd h (by decide)) (fun _ => ?_)
      refine mm_skip (mm_call_mono _ _) 1 (st' := (12, [(4, .int 3), (3, .int 0), (0, .ref 10), (1, .int (nI A)), (2, .int (nI B))], [.int 0], wP pre (wN (PP s) (QQ s) op oq tr dp wi fa ob st of F), 0)) rfl ?_
      refine mm_branch (mm_call_mono _ _) (c := (0 : Int32) = 0) (s1 := (63, [(4, .int 3), (3, .int 0), (0, .ref 10), (1, .int (nI A)), (2, .int (nI B))], [], wP pre (wN (PP s) (QQ s) op oq tr dp wi fa ob st of F), 0)) (s2 := (15, [(4, .int 3), (3, .int 0), (0, .ref 10), (1, .int (nI A)), (2, .int (nI B))], [], wP pre (wN (PP s) (QQ s) op oq tr dp wi fa ob st of F), 0)) rfl (fun _ => ?_) (fun h => absurd (by decide) h)
      refine mm_skip (mm_call_mono _ _) 6 (st' := (8, [(4, .int 4), (3, .int 0), (0, .ref 10), (1, .int (nI A)), (2, .int (nI B))], [.int 4, .int 4], wP pre (wN (PP s) (QQ s) op oq tr dp wi fa ob st of F), 0)) rfl ?_
      refine mm_branch (mm_call_mono _ _) (c := (4 : Int32) ≤ 4) (s1 := (71, [(4, .int 4), (3, .int 0), (0, .ref 10), (1, .int (nI A)), (2, .int (nI B))], [], wP pre (wN (PP s) (QQ s) op oq tr dp wi fa ob st of F), 0)) (s2 := (11, [(4, .int 4), (3, .int 0), (0, .ref 10), (1, .int (nI A)), (2, .int (nI B))], [], wP pre (wN (PP s) (QQ s) op oq tr dp wi fa ob st of F), 0)) rfl (fun _ => ?_) (fun h => absurd (by decide) h)
      refine mm_skip (mm_call_mono _ _) 1 (st' := (72, [(4, .int 4), (3, .int 0), (0, .ref 10), (1, .int (nI A)), (2, .int (nI B))], [.int 0], wP pre (wN (PP s) (QQ s) op oq tr dp wi fa ob st of F), 0)) rfl ?_
      exact mm_ret (mm_call_mono _ _) (c := mm_z 0) (r := .inl (some (.int 0))) (M := wP pre (wN (PP s) (QQ s) op oq tr dp wi fa ob st of F)) (u := 0) rfl (by unfold mm_z; decide) (by decide) (by rw [bz_f (fun h => q0 ((ceQ hV).mpr (congrArg Prod.snd (h 0 (by omega)))))] at hQ; exact hQ)
  · skip
    refine mm_skip (mm_call_mono _ _) 6 (st' := (8, [(4, .int 1), (3, .int 0), (0, .ref 10), (1, .int (nI A)), (2, .int (nI B))], [.int 4, .int 1], wP pre (wN (PP s) (QQ s) op oq tr dp wi fa ob st of F), 0)) rfl ?_
    refine mm_branch (mm_call_mono _ _) (c := (4 : Int32) ≤ 1) (s1 := (71, [(4, .int 1), (3, .int 0), (0, .ref 10), (1, .int (nI A)), (2, .int (nI B))], [], wP pre (wN (PP s) (QQ s) op oq tr dp wi fa ob st of F), 0)) (s2 := (11, [(4, .int 1), (3, .int 0), (0, .ref 10), (1, .int (nI A)), (2, .int (nI B))], [], wP pre (wN (PP s) (QQ s) op oq tr dp wi fa ob st of F), 0)) rfl (fun h => absurd h (by decide)) (fun _ => ?_)
    refine mm_skip (mm_call_mono _ _) 1 (st' := (12, [(4, .int 1), (3, .int 0), (0, .ref 10), (1, .int (nI A)), (2, .int (nI B))], [.int 0], wP pre (wN (PP s) (QQ s) op oq tr dp wi fa ob st of F), 0)) rfl ?_
    refine mm_branch (mm_call_mono _ _) (c := (0 : Int32) = 0) (s1 := (63, [(4, .int 1), (3, .int 0), (0, .ref 10), (1, .int (nI A)), (2, .int (nI B))], [], wP pre (wN (PP s) (QQ s) op oq tr dp wi fa ob st of F), 0)) (s2 := (15, [(4, .int 1), (3, .int 0), (0, .ref 10), (1, .int (nI A)), (2, .int (nI B))], [], wP pre (wN (PP s) (QQ s) op oq tr dp wi fa ob st of F), 0)) rfl (fun _ => ?_) (fun h => absurd (by decide) h)
    refine mm_skip (mm_call_mono _ _) 6 (st' := (8, [(4, .int 2), (3, .int 0), (0, .ref 10), (1, .int (nI A)), (2, .int (nI B))], [.int 4, .int 2], wP pre (wN (PP s) (QQ s) op oq tr dp wi fa ob st of F), 0)) rfl ?_
    refine mm_branch (mm_call_mono _ _) (c := (4 : Int32) ≤ 2) (s1 := (71, [(4, .int 2), (3, .int 0), (0, .ref 10), (1, .int (nI A)), (2, .int (nI B))], [], wP pre (wN (PP s) (QQ s) op oq tr dp wi fa ob st of F), 0)) (s2 := (11, [(4, .int 2), (3, .int 0), (0, .ref 10), (1, .int (nI A)), (2, .int (nI B))], [], wP pre (wN (PP s) (QQ s) op oq tr dp wi fa ob st of F), 0)) rfl (fun h => absurd h (by decide)) (fun _ => ?_)
    refine mm_skip (mm_call_mono _ _) 1 (st' := (12, [(4, .int 2), (3, .int 0), (0, .ref 10), (1, .int (nI A)), (2, .int (nI B))], [.int 0], wP pre (wN (PP s) (QQ s) op oq tr dp wi fa ob st of F), 0)) rfl ?_
    refine mm_branch (mm_call_mono _ _) (c := (0 : Int32) = 0) (s1 := (63, [(4, .int 2), (3, .int 0), (0, .ref 10), (1, .int (nI A)), (2, .int (nI B))], [], wP pre (wN (PP s) (QQ s) op oq tr dp wi fa ob st of F), 0)) (s2 := (15, [(4, .int 2), (3, .int 0), (0, .ref 10), (1, .int (nI A)), (2, .int (nI B))], [], wP pre (wN (PP s) (QQ s) op oq tr dp wi fa ob st of F), 0)) rfl (fun _ => ?_) (fun h => absurd (by decide) h)
    refine mm_skip (mm_call_mono _ _) 6 (st' := (8, [(4, .int 3), (3, .int 0), (0, .ref 10), (1, .int (nI A)), (2, .int (nI B))], [.int 4, .int 3], wP pre (wN (PP s) (QQ s) op oq tr dp wi fa ob st of F), 0)) rfl ?_
    refine mm_branch (mm_call_mono _ _) (c := (4 : Int32) ≤ 3) (s1 := (71, [(4, .int 3), (3, .int 0), (0, .ref 10), (1, .int (nI A)), (2, .int (nI B))], [], wP pre (wN (PP s) (QQ s) op oq tr dp wi fa ob st of F), 0)) (s2 := (11, [(4, .int 3), (3, .int 0), (0, .ref 10), (1, .int (nI A)), (2, .int (nI B))], [], wP pre (wN (PP s) (QQ s) op oq tr dp wi fa ob st of F), 0)) rfl (fun h => absurd h (by decide)) (fun _ => ?_)
    refine mm_skip (mm_call_mono _ _) 1 (st' := (12, [(4, .int 3), (3, .int 0), (0, .ref 10), (1, .int (nI A)), (2, .int (nI B))], [.int 0], wP pre (wN (PP s) (QQ s) op oq tr dp wi fa ob st of F), 0)) rfl ?_
    refine mm_branch (mm_call_mono _ _) (c := (0 : Int32) = 0) (s1 := (63, [(4, .int 3), (3, .int 0), (0, .ref 10), (1, .int (nI A)), (2, .int (nI B))], [], wP pre (wN (PP s) (QQ s) op oq tr dp wi fa ob st of F), 0)) (s2 := (15, [(4, .int 3), (3, .int 0), (0, .ref 10), (1, .int (nI A)), (2, .int (nI B))], [], wP pre (wN (PP s) (QQ s) op oq tr dp wi fa ob st of F), 0)) rfl (fun _ => ?_) (fun h => absurd (by decide) h)
    refine mm_skip (mm_call_mono _ _) 6 (st' := (8, [(4, .int 4), (3, .int 0), (0, .ref 10), (1, .int (nI A)), (2, .int (nI B))], [.int 4, .int 4], wP pre (wN (PP s) (QQ s) op oq tr dp wi fa ob st of F), 0)) rfl ?_
    refine mm_branch (mm_call_mono _ _) (c := (4 : Int32) ≤ 4) (s1 := (71, [(4, .int 4), (3, .int 0), (0, .ref 10), (1, .int (nI A)), (2, .int (nI B))], [], wP pre (wN (PP s) (QQ s) op oq tr dp wi fa ob st of F), 0)) (s2 := (11, [(4, .int 4), (3, .int 0), (0, .ref 10), (1, .int (nI A)), (2, .int (nI B))], [], wP pre (wN (PP s) (QQ s) op oq tr dp wi fa ob st of F), 0)) rfl (fun _ => ?_) (fun h => absurd (by decide) h)
    refine mm_skip (mm_call_mono _ _) 1 (st' := (72, [(4, .int 4), (3, .int 0), (0, .ref 10), (1, .int (nI A)), (2, .int (nI B))], [.int 0], wP pre (wN (PP s) (QQ s) op oq tr dp wi fa ob st of F), 0)) rfl ?_
    exact mm_ret (mm_call_mono _ _) (c := mm_z 0) (r := .inl (some (.int 0))) (M := wP pre (wN (PP s) (QQ s) op oq tr dp wi fa ob st of F)) (u := 0) rfl (by unfold mm_z; decide) (by decide) (by rw [bz_f (fun h => p0 ((ceP hV).mpr (congrArg Prod.fst (h 0 (by omega)))))] at hQ; exact hQ)

theorem mid64 {a b : Int64} (h1 : 0 ≤ a.toInt) (h2 : a.toInt ≤ 46341) (h3 : 0 ≤ b.toInt) (h4 : b.toInt ≤ 46341) : ((a + b) / 2).toInt = (a.toInt + b.toInt) / 2 := by
  have e : (a + b).toInt = a.toInt + b.toInt := by
    rw [Int64.toInt_add]; exact Int.bmod_eq_of_le (by omega) (by omega)
  have hm : a + b ≠ Int64.minValue := by
    intro q
    rw [q] at e
    have : Int64.minValue.toInt = -9223372036854775808 := by decide
    omega
  rw [Int64.toInt_div_of_ne_left _ _ hm, e, show (2 : Int64).toInt = 2 by decide]
  exact Int.tdiv_eq_ediv_of_nonneg (by omega)
theorem sq64 {a : Int64} (h1 : 0 ≤ a.toInt) (h2 : a.toInt ≤ 46341) : (a * a).toInt = a.toInt * a.toInt := by
  rw [Int64.toInt_mul]
  have := mul_b (x := a.toInt) (y := a.toInt) (A := 46341) (B := 46341) (by omega) (by omega)
  exact Int.bmod_eq_of_le (by omega) (by omega)
theorem inc64 {a : Int64} (h1 : 0 ≤ a.toInt) (h2 : a.toInt ≤ 46341) : (a + 1).toInt = a.toInt + 1 := by
  rw [Int64.toInt_add, show (1 : Int64).toInt = 1 by decide]
  exact Int.bmod_eq_of_le (by omega) (by omega)
/-- between low and high -/
def sqI (v lo hi : Int) : Prop := 0 ≤ lo ∧ lo ≤ hi ∧ hi ≤ 46341 ∧ (lo = 0 ∨ (lo - 1) * (lo - 1) < v) ∧ (hi = 46341 ∨ v ≤ hi * hi)
/-- what square answers -/
def sqR (v : Int) (r : Int64) : Prop := (∃ t : Nat, r.toInt = t ∧ t ≤ 46340 ∧ (t : Int) * t = v) ∨ (r = -1 ∧ rtw v = none)
theorem sq_end {v : Int64} {lo hi : Int64} (hv : v.toInt ≤ 2147483647) (h : sqI v.toInt lo.toInt hi.toInt) (hle : hi.toInt ≤ lo.toInt) : (lo * lo = v → sqR v.toInt lo) ∧ (¬ lo * lo = v → sqR v.toInt (-1)) := by
  obtain ⟨h1, h2, h3, h4, h5⟩ := h
  have e := sq64 h1 (by omega)
  refine ⟨fun q => Or.inl ⟨lo.toInt.toNat, by omega, ?_, ?_⟩, fun q => Or.inr ⟨rfl, rtw_none (fun t ht et => ?_)⟩⟩
  · rw [q] at e
    have : ¬ 46341 ≤ lo.toInt := fun z => by
      have := Int.mul_le_mul z z (by omega) h1
      omega
    omega
  · rw [Int.toNat_of_nonneg h1, ← e, q]
  · rcases Int.lt_trichotomy t lo.toInt with c | c | c
    · rcases h4 with h4 | h4
      · omega
      · have := Int.mul_le_mul (show t ≤ lo.toInt - 1 by omega) (show t ≤ lo.toInt - 1 by omega) ht (show 0 ≤ lo.toInt - 1 by omega)
        omega
    · exact q (Int64.toInt_inj.mp (by rw [e, ← c]; exact et))
    · have c2 := sq_lt c h1
      rcases h5 with h5 | h5
      · have := Int.mul_le_mul (show 46341 ≤ lo.toInt by omega) (show 46341 ≤ lo.toInt by omega) (by omega) h1
        omega
      · rw [show hi.toInt = lo.toInt by omega] at h5
        omega
theorem sq_step {v lo hi : Int64} (h : sqI v.toInt lo.toInt hi.toInt) (hlt : lo.toInt < hi.toInt) : ((lo + hi) / 2).toInt = (lo.toInt + hi.toInt) / 2 ∧ ((((lo + hi) / 2) * ((lo + hi) / 2) < v) → sqI v.toInt ((lo + hi) / 2 + 1).toInt hi.toInt ∧ ((lo + hi) / 2 + 1).toInt = (lo.toInt + hi.toInt) / 2 + 1) ∧ ((¬ ((lo + hi) / 2) * ((lo + hi) / 2) < v) → sqI v.toInt lo.toInt ((lo + hi) / 2).toInt) := by
  obtain ⟨h1, h2, h3, h4, h5⟩ := h
  have em_ := mid64 h1 (by omega) (show 0 ≤ hi.toInt by omega) h3
  have b1 : lo.toInt ≤ (lo.toInt + hi.toInt) / 2 := by omega
  have b2 : (lo.toInt + hi.toInt) / 2 < hi.toInt := by omega
  have es := sq64 (a := (lo + hi) / 2) (by rw [em_]; omega) (by rw [em_]; omega)
  have ei := inc64 (a := (lo + hi) / 2) (by rw [em_]; omega) (by rw [em_]; omega)
  refine ⟨em_, fun q => ⟨⟨by omega, by omega, h3, Or.inr ?_, h5⟩, by rw [ei, em_]⟩, fun q => ⟨h1, by omega, by omega, h4, Or.inr ?_⟩⟩
  · rw [Int64.lt_iff_toInt_lt, es] at q
    rw [ei, Int.add_sub_cancel]
    exact q
  · rw [Int64.lt_iff_toInt_lt, es] at q
    omega
set_option maxRecDepth 100000 in
theorem sq_loop {d : Nat} {pre : mm_pre} {p q op oq : Nat → Int64} {tr dp wi fa ob : Int32} {st of : Nat → Int32} {F : mm_M} {v : Int64} {Q : mm_R → mm_M → Prop} (hv : v.toInt ≤ 2147483647) (hQ : ∀ r : Int64, sqR v.toInt r → Q (.inl (some (.long r))) (wP pre (wN p q op oq tr dp wi fa ob st of F))) : ∀ (n : Nat) (lo hi mi : Int64) (u : Int32), (hi.toInt - lo.toInt).toNat ≤ n → sqI v.toInt lo.toInt hi.toInt → mm_W (mm_call mm_Tb d) mp_M_square (mm_bt mm_Tb) 0 (some .long) 9 Q (7, [(4, .long hi), (2, .long lo), (8, .int u), (6, .long mi), (0, .long v)], [], wP pre (wN p q op oq tr dp wi fa ob st of F), 0)
  | 0, lo, hi, mi, u, hn, hI => by
    have hle : hi.toInt ≤ lo.toInt := by omega
    refine mm_skip (mm_call_mono _ _) 3 (st' := (11, [(4, .long hi), (2, .long lo), (8, .int u), (6, .long mi), (0, .long v)], [.int (lg_cmp lo hi)], wP pre (wN p q op oq tr dp wi fa ob st of F), 0)) rfl ?_
    refine mm_branch (mm_call_mono _ _) (c := 0 ≤ (lg_cmp lo hi)) (s1 := (72, [(4, .long hi), (2, .long lo), (8, .int u), (6, .long mi), (0, .long v)], [], wP pre (wN p q op oq tr dp wi fa ob st of F), 0)) (s2 := (14, [(4, .long hi), (2, .long lo), (8, .int u), (6, .long mi), (0, .long v)], [], wP pre (wN p q op oq tr dp wi fa ob st of F), 0)) rfl (fun _ => ?_) (fun h => absurd ((lg_cmp_ge _ _).mpr (Int64.le_iff_toInt_le.mpr hle)) h)
    refine mm_skip (mm_call_mono _ _) 5 (st' := (77, [(4, .long hi), (2, .long lo), (8, .int u), (6, .long mi), (0, .long v)], [.int (lg_cmp (lo * lo) v)], wP pre (wN p q op oq tr dp wi fa ob st of F), 0)) rfl ?_
    refine mm_branch (mm_call_mono _ _) (c := (lg_cmp (lo * lo) v) = 0) (s1 := (80, [(4, .long hi), (2, .long lo), (8, .int u), (6, .long mi), (0, .long v)], [], wP pre (wN p q op oq tr dp wi fa ob st of F), 0)) (s2 := (84, [(4, .long hi), (2, .long lo), (8, .int u), (6, .long mi), (0, .long v)], [], wP pre (wN p q op oq tr dp wi fa ob st of F), 0)) rfl (fun e1 => ?_) (fun e1 => ?_)
    · skip
      refine mm_skip (mm_call_mono _ _) 2 (st' := (87, [(4, .long hi), (2, .long lo), (8, .int u), (6, .long mi), (0, .long v)], [.long lo], wP pre (wN p q op oq tr dp wi fa ob st of F), 0)) rfl ?_
      exact mm_ret (mm_call_mono _ _) (c := True) (r := .inl (some (.long lo))) (M := wP pre (wN p q op oq tr dp wi fa ob st of F)) (u := 0) rfl trivial (by decide) (hQ _ ((sq_end hv hI hle).1 ((lg_cmp_eq _ _).mp e1)))
    · skip
      refine mm_skip (mm_call_mono _ _) 1 (st' := (87, [(4, .long hi), (2, .long lo), (8, .int u), (6, .long mi), (0, .long v)], [.long (-1)], wP pre (wN p q op oq tr dp wi fa ob st of F), 0)) rfl ?_
      exact mm_ret (mm_call_mono _ _) (c := True) (r := .inl (some (.long (-1)))) (M := wP pre (wN p q op oq tr dp wi fa ob st of F)) (u := 0) rfl trivial (by decide) (hQ _ ((sq_end hv hI hle).2 (fun e => e1 ((lg_cmp_eq _ _).mpr e))))

  | n + 1, lo, hi, mi, u, hn, hI => by
    refine mm_skip (mm_call_mono _ _) 3 (st' := (11, [(4, .long hi), (2, .long lo), (8, .int u), (6, .long mi), (0, .long v)], [.int (lg_cmp lo hi)], wP pre (wN p q op oq tr dp wi fa ob st of F), 0)) rfl ?_
    refine mm_branch (mm_call_mono _ _) (c := 0 ≤ (lg_cmp lo hi)) (s1 := (72, [(4, .long hi), (2, .long lo), (8, .int u), (6, .long mi), (0, .long v)], [], wP pre (wN p q op oq tr dp wi fa ob st of F), 0)) (s2 := (14, [(4, .long hi), (2, .long lo), (8, .int u), (6, .long mi), (0, .long v)], [], wP pre (wN p q op oq tr dp wi fa ob st of F), 0)) rfl (fun g1 => ?_) (fun g1 => ?_)
    · have hle : hi.toInt ≤ lo.toInt := Int64.le_iff_toInt_le.mp ((lg_cmp_ge _ _).mp g1)
      refine mm_skip (mm_call_mono _ _) 5 (st' := (77, [(4, .long hi), (2, .long lo), (8, .int u), (6, .long mi), (0, .long v)], [.int (lg_cmp (lo * lo) v)], wP pre (wN p q op oq tr dp wi fa ob st of F), 0)) rfl ?_
      refine mm_branch (mm_call_mono _ _) (c := (lg_cmp (lo * lo) v) = 0) (s1 := (80, [(4, .long hi), (2, .long lo), (8, .int u), (6, .long mi), (0, .long v)], [], wP pre (wN p q op oq tr dp wi fa ob st of F), 0)) (s2 := (84, [(4, .long hi), (2, .long lo), (8, .int u), (6, .long mi), (0, .long v)], [], wP pre (wN p q op oq tr dp wi fa ob st of F), 0)) rfl (fun e1 => ?_) (fun e1 => ?_)
      · skip
        refine mm_skip (mm_call_mono _ _) 2 (st' := (87, [(4, .long hi), (2, .long lo), (8, .int u), (6, .long mi), (0, .long v)], [.long lo], wP pre (wN p q op oq tr dp wi fa ob st of F), 0)) rfl ?_
        exact mm_ret (mm_call_mono _ _) (c := True) (r := .inl (some (.long lo))) (M := wP pre (wN p q op oq tr dp wi fa ob st of F)) (u := 0) rfl trivial (by decide) (hQ _ ((sq_end hv hI hle).1 ((lg_cmp_eq _ _).mp e1)))
      · skip
        refine mm_skip (mm_call_mono _ _) 1 (st' := (87, [(4, .long hi), (2, .long lo), (8, .int u), (6, .long mi), (0, .long v)], [.long (-1)], wP pre (wN p q op oq tr dp wi fa ob st of F), 0)) rfl ?_
        exact mm_ret (mm_call_mono _ _) (c := True) (r := .inl (some (.long (-1)))) (M := wP pre (wN p q op oq tr dp wi fa ob st of F)) (u := 0) rfl trivial (by decide) (hQ _ ((sq_end hv hI hle).2 (fun e => e1 ((lg_cmp_eq _ _).mpr e))))
    · skip
      refine mm_skip (mm_call_mono _ _) 4 (st' := (21, [(4, .long hi), (2, .long lo), (8, .int u), (6, .long mi), (0, .long v)], [.long 2, .long (lo + hi)], wP pre (wN p q op oq tr dp wi fa ob st of F), 0)) rfl ?_
      refine mm_need (mm_call_mono _ _) (c := ¬ 2 = 0) (s' := (22, [(4, .long hi), (2, .long lo), (8, .int u), (6, .long mi), (0, .long v)], [.long ((lo + hi) / 2)], wP pre (wN p q op oq tr dp wi fa ob st of F), 0)) rfl (by decide) ?_
      refine mm_skip (mm_call_mono _ _) 6 (st' := (31, [(6, .long ((lo + hi) / 2)), (4, .long hi), (2, .long lo), (8, .int u), (0, .long v)], [.int (lg_cmp (((lo + hi) / 2) * ((lo + hi) / 2)) v)], wP pre (wN p q op oq tr dp wi fa ob st of F), 0)) rfl ?_
      refine mm_branch (mm_call_mono _ _) (c := 0 ≤ (lg_cmp (((lo + hi) / 2) * ((lo + hi) / 2)) v)) (s1 := (38, [(6, .long ((lo + hi) / 2)), (4, .long hi), (2, .long lo), (8, .int u), (0, .long v)], [], wP pre (wN p q op oq tr dp wi fa ob st of F), 0)) (s2 := (34, [(6, .long ((lo + hi) / 2)), (4, .long hi), (2, .long lo), (8, .int u), (0, .long v)], [], wP pre (wN p q op oq tr dp wi fa ob st of F), 0)) rfl (fun g2 => ?_) (fun g2 => ?_)
      · skip
        refine mm_skip (mm_call_mono _ _) 3 (st' := (43, [(8, .int 0), (6, .long ((lo + hi) / 2)), (4, .long hi), (2, .long lo), (0, .long v)], [.int 0], wP pre (wN p q op oq tr dp wi fa ob st of F), 0)) rfl ?_
        refine mm_branch (mm_call_mono _ _) (c := (0 : Int32) = 0) (s1 := (53, [(8, .int 0), (6, .long ((lo + hi) / 2)), (4, .long hi), (2, .long lo), (0, .long v)], [], wP pre (wN p q op oq tr dp wi fa ob st of F), 0)) (s2 := (46, [(8, .int 0), (6, .long ((lo + hi) / 2)), (4, .long hi), (2, .long lo), (0, .long v)], [], wP pre (wN p q op oq tr dp wi fa ob st of F), 0)) rfl (fun _ => ?_) (fun h => absurd (by decide) h)
        refine mm_skip (mm_call_mono _ _) 3 (st' := (57, [(2, .long lo), (8, .int 0), (6, .long ((lo + hi) / 2)), (4, .long hi), (0, .long v)], [.int 0], wP pre (wN p q op oq tr dp wi fa ob st of F), 0)) rfl ?_
        refine mm_branch (mm_call_mono _ _) (c := (0 : Int32) = 0) (s1 := (65, [(2, .long lo), (8, .int 0), (6, .long ((lo + hi) / 2)), (4, .long hi), (0, .long v)], [], wP pre (wN p q op oq tr dp wi fa ob st of F), 0)) (s2 := (60, [(2, .long lo), (8, .int 0), (6, .long ((lo + hi) / 2)), (4, .long hi), (0, .long v)], [], wP pre (wN p q op oq tr dp wi fa ob st of F), 0)) rfl (fun _ => ?_) (fun h => absurd (by decide) h)
        refine mm_skip (mm_call_mono _ _) 3 (st' := (7, [(4, .long ((lo + hi) / 2)), (2, .long lo), (8, .int 0), (6, .long ((lo + hi) / 2)), (0, .long v)], [], wP pre (wN p q op oq tr dp wi fa ob st of F), 0)) rfl ?_
        have hlt : lo.toInt < hi.toInt := by have := fun e => g1 ((lg_cmp_ge _ _).mpr (Int64.le_iff_toInt_le.mpr e)); have h9 : ¬ hi.toInt ≤ lo.toInt := this; omega
        obtain ⟨t1, t2, t3⟩ := sq_step hI hlt
        first
          | exact sq_loop hv hQ n _ _ _ _ (by rw [t1]; omega) (t3 (Int64.not_lt.mpr ((lg_cmp_ge _ _).mp g2)))
          | exact sq_loop hv hQ n _ _ _ _ (by rw [(t2 (Int64.not_le.mp (fun e => g2 ((lg_cmp_ge _ _).mpr e)))).2]; omega) (t2 (Int64.not_le.mp (fun e => g2 ((lg_cmp_ge _ _).mpr e)))).1
      · skip
        refine mm_skip (mm_call_mono _ _) 4 (st' := (43, [(8, .int 1), (6, .long ((lo + hi) / 2)), (4, .long hi), (2, .long lo), (0, .long v)], [.int 1], wP pre (wN p q op oq tr dp wi fa ob st of F), 0)) rfl ?_
        refine mm_branch (mm_call_mono _ _) (c := (1 : Int32) = 0) (s1 := (53, [(8, .int 1), (6, .long ((lo + hi) / 2)), (4, .long hi), (2, .long lo), (0, .long v)], [], wP pre (wN p q op oq tr dp wi fa ob st of F), 0)) (s2 := (46, [(8, .int 1), (6, .long ((lo + hi) / 2)), (4, .long hi), (2, .long lo), (0, .long v)], [], wP pre (wN p q op oq tr dp wi fa ob st of F), 0)) rfl (fun h => absurd h (by decide)) (fun _ => ?_)
        refine mm_skip (mm_call_mono _ _) 6 (st' := (57, [(2, .long (((lo + hi) / 2) + 1)), (8, .int 1), (6, .long ((lo + hi) / 2)), (4, .long hi), (0, .long v)], [.int 1], wP pre (wN p q op oq tr dp wi fa ob st of F), 0)) rfl ?_
        refine mm_branch (mm_call_mono _ _) (c := (1 : Int32) = 0) (s1 := (65, [(2, .long (((lo + hi) / 2) + 1)), (8, .int 1), (6, .long ((lo + hi) / 2)), (4, .long hi), (0, .long v)], [], wP pre (wN p q op oq tr dp wi fa ob st of F), 0)) (s2 := (60, [(2, .long (((lo + hi) / 2) + 1)), (8, .int 1), (6, .long ((lo + hi) / 2)), (4, .long hi), (0, .long v)], [], wP pre (wN p q op oq tr dp wi fa ob st of F), 0)) rfl (fun h => absurd h (by decide)) (fun _ => ?_)
        refine mm_skip (mm_call_mono _ _) 4 (st' := (7, [(4, .long hi), (2, .long (((lo + hi) / 2) + 1)), (8, .int 1), (6, .long ((lo + hi) / 2)), (0, .long v)], [], wP pre (wN p q op oq tr dp wi fa ob st of F), 0)) rfl ?_
        have hlt : lo.toInt < hi.toInt := by have := fun e => g1 ((lg_cmp_ge _ _).mpr (Int64.le_iff_toInt_le.mpr e)); have h9 : ¬ hi.toInt ≤ lo.toInt := this; omega
        obtain ⟨t1, t2, t3⟩ := sq_step hI hlt
        first
          | exact sq_loop hv hQ n _ _ _ _ (by rw [t1]; omega) (t3 (Int64.not_lt.mpr ((lg_cmp_ge _ _).mp g2)))
          | exact sq_loop hv hQ n _ _ _ _ (by rw [(t2 (Int64.not_le.mp (fun e => g2 ((lg_cmp_ge _ _).mpr e)))).2]; omega) (t2 (Int64.not_le.mp (fun e => g2 ((lg_cmp_ge _ _).mpr e)))).1

set_option maxRecDepth 100000 in
theorem rm_square {d : Nat} {pre : mm_pre} {p q op oq : Nat → Int64} {tr dp wi fa ob : Int32} {st of : Nat → Int32} {F : mm_M} {v : Int64} {Q : mm_R → mm_M → Prop} (hv : v.toInt ≤ 2147483647) (hQ : ∀ r : Int64, sqR v.toInt r → Q (.inl (some (.long r))) (wP pre (wN p q op oq tr dp wi fa ob st of F))) : mm_call mm_Tb (d + 1) 56 [.long v] (wP pre (wN p q op oq tr dp wi fa ob st of F)) Q := by
  refine mm_in mt_56 (Nat.le_of_ble_eq_true rfl) ?_
  show mm_W _ _ _ _ _ _ _ (0, [(0, .long v)], [], wP pre (wN p q op oq tr dp wi fa ob st of F), 0)
  refine mm_skip (mm_call_mono _ _) 7 (st' := (11, [(4, .long 46341), (2, .long 0), (0, .long v)], [.int (lg_cmp 0 46341)], wP pre (wN p q op oq tr dp wi fa ob st of F), 0)) rfl ?_
  refine mm_branch (mm_call_mono _ _) (c := 0 ≤ (lg_cmp 0 46341)) (s1 := (72, [(4, .long 46341), (2, .long 0), (0, .long v)], [], wP pre (wN p q op oq tr dp wi fa ob st of F), 0)) (s2 := (14, [(4, .long 46341), (2, .long 0), (0, .long v)], [], wP pre (wN p q op oq tr dp wi fa ob st of F), 0)) rfl (fun h => absurd h (by decide)) (fun _ => ?_)
  refine mm_skip (mm_call_mono _ _) 4 (st' := (21, [(4, .long 46341), (2, .long 0), (0, .long v)], [.long 2, .long 46341], wP pre (wN p q op oq tr dp wi fa ob st of F), 0)) rfl ?_
  refine mm_need (mm_call_mono _ _) (c := ¬ 2 = 0) (s' := (22, [(4, .long 46341), (2, .long 0), (0, .long v)], [.long (46341 / 2)], wP pre (wN p q op oq tr dp wi fa ob st of F), 0)) rfl (by decide) ?_
  refine mm_skip (mm_call_mono _ _) 6 (st' := (31, [(6, .long (46341 / 2)), (4, .long 46341), (2, .long 0), (0, .long v)], [.int (lg_cmp ((46341 / 2) * (46341 / 2)) v)], wP pre (wN p q op oq tr dp wi fa ob st of F), 0)) rfl ?_
  refine mm_branch (mm_call_mono _ _) (c := 0 ≤ (lg_cmp ((46341 / 2) * (46341 / 2)) v)) (s1 := (38, [(6, .long (46341 / 2)), (4, .long 46341), (2, .long 0), (0, .long v)], [], wP pre (wN p q op oq tr dp wi fa ob st of F), 0)) (s2 := (34, [(6, .long (46341 / 2)), (4, .long 46341), (2, .long 0), (0, .long v)], [], wP pre (wN p q op oq tr dp wi fa ob st of F), 0)) rfl (fun g2 => ?_) (fun g2 => ?_)
  · skip
    refine mm_skip (mm_call_mono _ _) 3 (st' := (43, [(8, .int 0), (6, .long (46341 / 2)), (4, .long 46341), (2, .long 0), (0, .long v)], [.int 0], wP pre (wN p q op oq tr dp wi fa ob st of F), 0)) rfl ?_
    refine mm_branch (mm_call_mono _ _) (c := (0 : Int32) = 0) (s1 := (53, [(8, .int 0), (6, .long (46341 / 2)), (4, .long 46341), (2, .long 0), (0, .long v)], [], wP pre (wN p q op oq tr dp wi fa ob st of F), 0)) (s2 := (46, [(8, .int 0), (6, .long (46341 / 2)), (4, .long 46341), (2, .long 0), (0, .long v)], [], wP pre (wN p q op oq tr dp wi fa ob st of F), 0)) rfl (fun _ => ?_) (fun h => absurd (by decide) h)
    refine mm_skip (mm_call_mono _ _) 3 (st' := (57, [(2, .long 0), (8, .int 0), (6, .long (46341 / 2)), (4, .long 46341), (0, .long v)], [.int 0], wP pre (wN p q op oq tr dp wi fa ob st of F), 0)) rfl ?_
    refine mm_branch (mm_call_mono _ _) (c := (0 : Int32) = 0) (s1 := (65, [(2, .long 0), (8, .int 0), (6, .long (46341 / 2)), (4, .long 46341), (0, .long v)], [], wP pre (wN p q op oq tr dp wi fa ob st of F), 0)) (s2 := (60, [(2, .long 0), (8, .int 0), (6, .long (46341 / 2)), (4, .long 46341), (0, .long v)], [], wP pre (wN p q op oq tr dp wi fa ob st of F), 0)) rfl (fun _ => ?_) (fun h => absurd (by decide) h)
    refine mm_skip (mm_call_mono _ _) 3 (st' := (7, [(4, .long (46341 / 2)), (2, .long 0), (8, .int 0), (6, .long (46341 / 2)), (0, .long v)], [], wP pre (wN p q op oq tr dp wi fa ob st of F), 0)) rfl ?_
    obtain ⟨t1, t2, t3⟩ := sq_step (v := v) (lo := 0) (hi := 46341) ⟨by decide, by decide, by decide, Or.inl (by decide), Or.inl (by decide)⟩ (by decide)
    first
      | exact sq_loop hv hQ 46341 _ _ _ _ (by decide) (t3 (Int64.not_lt.mpr ((lg_cmp_ge _ _).mp g2)))
      | exact sq_loop hv hQ 46341 _ _ _ _ (by decide) (t2 (Int64.not_le.mp (fun e => g2 ((lg_cmp_ge _ _).mpr e)))).1
  · skip
    refine mm_skip (mm_call_mono _ _) 4 (st' := (43, [(8, .int 1), (6, .long (46341 / 2)), (4, .long 46341), (2, .long 0), (0, .long v)], [.int 1], wP pre (wN p q op oq tr dp wi fa ob st of F), 0)) rfl ?_
    refine mm_branch (mm_call_mono _ _) (c := (1 : Int32) = 0) (s1 := (53, [(8, .int 1), (6, .long (46341 / 2)), (4, .long 46341), (2, .long 0), (0, .long v)], [], wP pre (wN p q op oq tr dp wi fa ob st of F), 0)) (s2 := (46, [(8, .int 1), (6, .long (46341 / 2)), (4, .long 46341), (2, .long 0), (0, .long v)], [], wP pre (wN p q op oq tr dp wi fa ob st of F), 0)) rfl (fun h => absurd h (by decide)) (fun _ => ?_)
    refine mm_skip (mm_call_mono _ _) 6 (st' := (57, [(2, .long ((46341 / 2) + 1)), (8, .int 1), (6, .long (46341 / 2)), (4, .long 46341), (0, .long v)], [.int 1], wP pre (wN p q op oq tr dp wi fa ob st of F), 0)) rfl ?_
    refine mm_branch (mm_call_mono _ _) (c := (1 : Int32) = 0) (s1 := (65, [(2, .long ((46341 / 2) + 1)), (8, .int 1), (6, .long (46341 / 2)), (4, .long 46341), (0, .long v)], [], wP pre (wN p q op oq tr dp wi fa ob st of F), 0)) (s2 := (60, [(2, .long ((46341 / 2) + 1)), (8, .int 1), (6, .long (46341 / 2)), (4, .long 46341), (0, .long v)], [], wP pre (wN p q op oq tr dp wi fa ob st of F), 0)) rfl (fun h => absurd h (by decide)) (fun _ => ?_)
    refine mm_skip (mm_call_mono _ _) 4 (st' := (7, [(4, .long 46341), (2, .long ((46341 / 2) + 1)), (8, .int 1), (6, .long (46341 / 2)), (0, .long v)], [], wP pre (wN p q op oq tr dp wi fa ob st of F), 0)) rfl ?_
    obtain ⟨t1, t2, t3⟩ := sq_step (v := v) (lo := 0) (hi := 46341) ⟨by decide, by decide, by decide, Or.inl (by decide), Or.inl (by decide)⟩ (by decide)
    first
      | exact sq_loop hv hQ 46341 _ _ _ _ (by decide) (t3 (Int64.not_lt.mpr ((lg_cmp_ge _ _).mp g2)))
      | exact sq_loop hv hQ 46341 _ _ _ _ (by decide) (t2 (Int64.not_le.mp (fun e => g2 ((lg_cmp_ge _ _).mpr e)))).1

/-- behind a root of the reference -/
def rtM (s : Nat → fr) (wi : Int32) (U d m : Nat) (T : Option (Option n4)) (s1 : Nat → fr) (wi1 b : Int32) : Prop :=
  (∀ k, fv (s1 k)) ∧ mm_z wi1 ∧ (∀ k, ¬ (300 ≤ k ∧ k < U) → ¬ (d ≤ k ∧ k < d + m) → s1 k = s k) ∧ (wi = 1 → wi1 = 1) ∧ mm_z b ∧ (wi1 = 0 → wi = 0 ∧ (b = 0 → T = some none) ∧ (b = 1 → T = some (some (pd m s1 d)))) ∧ (wi1 = 1 → wi = 0 → T = none)
theorem rt0_n {s : Nat → fr} {wi : Int32} {D A : Nat} {x : Nat → fr} (hV : ∀ k, fv (s k)) (hz : mm_z wi) (X : isM s wi 1 A x) (h : rtw (s A).1 = none ∨ rtw (s A).2 = none) : rtM s wi 300 D 1 (nrt0 x) s wi 0 := by
  refine ⟨hV, hz, fun _ _ _ => rfl, id, Or.inl rfl, fun h0 => ⟨h0, fun _ => ?_, fun q => absurd q.symm z10⟩, fun h1 h0 => absurd (h1.symm.trans h0) z10⟩
  unfold nrt0
  rw [← isM_0 X h0]
  rcases h with h | h
  · rw [h]; rfl
  · rw [h]; cases rtw (s A).1 <;> rfl
theorem rt0_s {s s1 : Nat → fr} {wi w1 : Int32} {D A p q : Nat} {x : Nat → fr} {n m : Int64} (X : isM s wi 1 A x) (hV : ∀ k, fv (s k)) (hn : n.toInt = p) (hm : m.toInt = q) (bp : p ≤ 46340) (bq : q ≤ 46340) (ep : (p : Int) * p = (s A).1) (eq : (q : Int) * q = (s A).2) (h : mR s wi 300 D 1 ((fmk n.toInt m.toInt).map em) s1 w1) : rtM s wi 300 D 1 (nrt0 x) s1 w1 1 := by
  have hv : fv ((p : Int), (q : Int)) := rt_val (hV A) bp bq ep eq
  have hT : (fmk n.toInt m.toInt).map em = some (em ((p : Int), (q : Int))) := by rw [hn, hm, show fmk (p : Int) (q : Int) = some ((p : Int), (q : Int)) from fmk_id hv]; rfl
  rw [hT] at h
  obtain ⟨a1, a2, a3, a4, a5, a6⟩ := h
  refine ⟨a1, a2, a3, a4, Or.inr rfl, fun h0 => ⟨(a5 h0).1, fun q => absurd q z10, fun _ => ?_⟩, fun h1 h0 => absurd (a6 h1 h0) (by intro e; cases e)⟩
  have e := (a5 h0).2
  unfold nrt0
  rw [← isM_0 X (a5 h0).1, rtw_some (by omega) ep, rtw_some (by omega) eq, ← Option.some.inj e]
  rfl
theorem sqR_neg {v : Int} {r : Int64} (h : sqR v r) : (r < 0 → rtw v = none) ∧ (¬ r < 0 → ∃ t : Nat, r.toInt = t ∧ t ≤ 46340 ∧ (t : Int) * t = v) := by
  rcases h with ⟨t, h1, h2, h3⟩ | ⟨h1, h2⟩
  · refine ⟨fun q => ?_, fun _ => ⟨t, h1, h2, h3⟩⟩
    rw [Int64.lt_iff_toInt_lt, show (0 : Int64).toInt = 0 by decide] at q
    omega
  · exact ⟨fun _ => h2, fun q => absurd (by rw [h1]; decide) q⟩
set_option maxRecDepth 100000 in
theorem rm_root0 {d : Nat} {pre : mm_pre} {s : Nat → fr} {op oq : Nat → Int64} {tr dp wi fa ob : Int32} {st of : Nat → Int32} {F : mm_M} {D A : Nat} {x : Nat → fr} {Q : mm_R → mm_M → Prop} (hV : ∀ k, fv (s k)) (hz : mm_z wi) (hD : D < 480) (hA : A < 480) (X : isM s wi 1 A x) (hQ : ∀ (s1 : Nat → fr) (w1 b : Int32), rtM s wi 300 D 1 (nrt0 x) s1 w1 b → Q (.inl (some (.int b))) (wP pre (wN (PP s1) (QQ s1) op oq tr dp w1 fa ob st of F))) : mm_call mm_Tb (d + 3) 57 [.ref 10, .int (nI D), .int (nI A)] (wP pre (wN (PP s) (QQ s) op oq tr dp wi fa ob st of F)) Q := by
  refine mm_in mt_57 (Nat.le_of_ble_eq_true rfl) ?_
  show mm_W _ _ _ _ _ _ _ (0, [(0, .ref 10), (1, .int (nI D)), (2, .int (nI A))], [], wP pre (wN (PP s) (QQ s) op oq tr dp wi fa ob st of F), 0)
  refine mm_skip (mm_call_mono _ _) 3 (st' := (5, [(0, .ref 10), (1, .int (nI D)), (2, .int (nI A))], [.int (nI A), .ref 11], wP pre (wN (PP s) (QQ s) op oq tr dp wi fa ob st of F), 0)) rfl ?_
  refine mm_need (mm_call_mono _ _) (c := vp_in (nI A) 480) (s' := (6, [(0, .ref 10), (1, .int (nI D)), (2, .int (nI A))], [.long ((PP s) (Int32.toNatClampNeg (nI A)))], wP pre (wN (PP s) (QQ s) op oq tr dp wi fa ob st of F), 0)) rfl (vp_in_nI (show A < 480 by omega) (by decide)) ?_
  rw [nI_clamp (show A < 2 ^ 31 by omega)]
  show mm_W _ _ _ _ _ _ _ (6, [(0, .ref 10), (1, .int (nI D)), (2, .int (nI A))], [.long ((PP s) A)], wP pre (wN (PP s) (QQ s) op oq tr dp wi fa ob st of F), 0)
  refine mm_inv (mm_call_mono _ _) (j := 56) (a := [.long ((PP s) A)]) (M := wP pre (wN (PP s) (QQ s) op oq tr dp wi fa ob st of F)) (u := 0) rfl (by decide) (rm_square (by rw [pp_i (hV A)]; have := fv_b1 (hV A); omega) (fun n hrn => ?_))
  show mm_W _ _ _ _ _ _ _ (9, [(0, .ref 10), (1, .int (nI D)), (2, .int (nI A))], [.long n], wP pre (wN (PP s) (QQ s) op oq tr dp wi fa ob st of F), 0)
  rw [pp_i (hV A)] at hrn
  refine mm_skip (mm_call_mono _ _) 4 (st' := (15, [(3, .long n), (0, .ref 10), (1, .int (nI D)), (2, .int (nI A))], [.int (nI A), .ref 12], wP pre (wN (PP s) (QQ s) op oq tr dp wi fa ob st of F), 0)) rfl ?_
  refine mm_need (mm_call_mono _ _) (c := vp_in (nI A) 480) (s' := (16, [(3, .long n), (0, .ref 10), (1, .int (nI D)), (2, .int (nI A))], [.long ((QQ s) (Int32.toNatClampNeg (nI A)))], wP pre (wN (PP s) (QQ s) op oq tr dp wi fa ob st of F), 0)) rfl (vp_in_nI (show A < 480 by omega) (by decide)) ?_
  rw [nI_clamp (show A < 2 ^ 31 by omega)]
  show mm_W _ _ _ _ _ _ _ (16, [(3, .long n), (0, .ref 10), (1, .int (nI D)), (2, .int (nI A))], [.long ((QQ s) A)], wP pre (wN (PP s) (QQ s) op oq tr dp wi fa ob st of F), 0)
  refine mm_inv (mm_call_mono _ _) (j := 56) (a := [.long ((QQ s) A)]) (M := wP pre (wN (PP s) (QQ s) op oq tr dp wi fa ob st of F)) (u := 0) rfl (by decide) (rm_square (by rw [qq_i (hV A)]; have := fv_b2 (hV A); omega) (fun m hrm => ?_))
  show mm_W _ _ _ _ _ _ _ (19, [(3, .long n), (0, .ref 10), (1, .int (nI D)), (2, .int (nI A))], [.long m], wP pre (wN (PP s) (QQ s) op oq tr dp wi fa ob st of F), 0)
  rw [qq_i (hV A)] at hrm
  refine mm_skip (mm_call_mono _ _) 4 (st' := (24, [(5, .long m), (3, .long n), (0, .ref 10), (1, .int (nI D)), (2, .int (nI A))], [.int (lg_cmp n 0)], wP pre (wN (PP s) (QQ s) op oq tr dp wi fa ob st of F), 0)) rfl ?_
  refine mm_branch (mm_call_mono _ _) (c := (lg_cmp n 0) < 0) (s1 := (34, [(5, .long m), (3, .long n), (0, .ref 10), (1, .int (nI D)), (2, .int (nI A))], [], wP pre (wN (PP s) (QQ s) op oq tr dp wi fa ob st of F), 0)) (s2 := (27, [(5, .long m), (3, .long n), (0, .ref 10), (1, .int (nI D)), (2, .int (nI A))], [], wP pre (wN (PP s) (QQ s) op oq tr dp wi fa ob st of F), 0)) rfl (fun g1 => ?_) (fun g1 => ?_)
  · skip
    refine mm_skip (mm_call_mono _ _) 1 (st' := (35, [(5, .long m), (3, .long n), (0, .ref 10), (1, .int (nI D)), (2, .int (nI A))], [.int 0], wP pre (wN (PP s) (QQ s) op oq tr dp wi fa ob st of F), 0)) rfl ?_
    exact mm_ret (mm_call_mono _ _) (c := mm_z 0) (r := .inl (some (.int 0))) (M := wP pre (wN (PP s) (QQ s) op oq tr dp wi fa ob st of F)) (u := 0) rfl (by unfold mm_z; decide) (by decide) (hQ _ _ _ (rt0_n hV hz X (Or.inl ((sqR_neg hrn).1 ((lg_cmp_lt _ _).mp g1)))))
  · skip
    refine mm_skip (mm_call_mono _ _) 3 (st' := (31, [(5, .long m), (3, .long n), (0, .ref 10), (1, .int (nI D)), (2, .int (nI A))], [.int (lg_cmp m 0)], wP pre (wN (PP s) (QQ s) op oq tr dp wi fa ob st of F), 0)) rfl ?_
    refine mm_branch (mm_call_mono _ _) (c := 0 ≤ (lg_cmp m 0)) (s1 := (36, [(5, .long m), (3, .long n), (0, .ref 10), (1, .int (nI D)), (2, .int (nI A))], [], wP pre (wN (PP s) (QQ s) op oq tr dp wi fa ob st of F), 0)) (s2 := (34, [(5, .long m), (3, .long n), (0, .ref 10), (1, .int (nI D)), (2, .int (nI A))], [], wP pre (wN (PP s) (QQ s) op oq tr dp wi fa ob st of F), 0)) rfl (fun g2 => ?_) (fun g2 => ?_)
    · skip
      obtain ⟨t1, a1, a2, a3⟩ := (sqR_neg hrn).2 (fun e => g1 ((lg_cmp_lt _ _).mpr e))
      obtain ⟨t2, b1, b2, b3⟩ := (sqR_neg hrm).2 (Int64.not_lt.mpr ((lg_cmp_ge _ _).mp g2))
      have hm0 : 0 < m.toInt := by
        rcases Nat.eq_zero_or_pos t2 with e | e
        · rw [e] at b3; have := (hV A).1; omega
        · omega
      refine mm_skip (mm_call_mono _ _) 4 (st' := (41, [(5, .long m), (3, .long n), (0, .ref 10), (1, .int (nI D)), (2, .int (nI A))], [.long m, .long n, .int (nI D), .ref 10], wP pre (wN (PP s) (QQ s) op oq tr dp wi fa ob st of F), 0)) rfl ?_
      refine mm_inv (mm_call_mono _ _) (j := 49) (a := [.ref 10, .int (nI D), .long n, .long m]) (M := wP pre (wN (PP s) (QQ s) op oq tr dp wi fa ob st of F)) (u := 0) rfl (by decide) (rm_put hV hz hD (by omega) hm0 (fun s1 w1 h1 => ?_))
      show mm_W _ _ _ _ _ _ _ (44, [(5, .long m), (3, .long n), (0, .ref 10), (1, .int (nI D)), (2, .int (nI A))], [], wP pre (wN (PP s1) (QQ s1) op oq tr dp w1 fa ob st of F), 0)
      refine mm_skip (mm_call_mono _ _) 1 (st' := (45, [(5, .long m), (3, .long n), (0, .ref 10), (1, .int (nI D)), (2, .int (nI A))], [.int 1], wP pre (wN (PP s1) (QQ s1) op oq tr dp w1 fa ob st of F), 0)) rfl ?_
      exact mm_ret (mm_call_mono _ _) (c := mm_z 1) (r := .inl (some (.int 1))) (M := wP pre (wN (PP s1) (QQ s1) op oq tr dp w1 fa ob st of F)) (u := 0) rfl (by unfold mm_z; decide) (by decide) (hQ _ _ _ (rt0_s X hV a1 b1 a2 b2 a3 b3 h1))
    · skip
      refine mm_skip (mm_call_mono _ _) 1 (st' := (35, [(5, .long m), (3, .long n), (0, .ref 10), (1, .int (nI D)), (2, .int (nI A))], [.int 0], wP pre (wN (PP s) (QQ s) op oq tr dp wi fa ob st of F), 0)) rfl ?_
      exact mm_ret (mm_call_mono _ _) (c := mm_z 0) (r := .inl (some (.int 0))) (M := wP pre (wN (PP s) (QQ s) op oq tr dp wi fa ob st of F)) (u := 0) rfl (by unfold mm_z; decide) (by decide) (hQ _ _ _ (rt0_n hV hz X (Or.inr ((sqR_neg hrm).1 (Int64.not_le.mp (fun e => g2 ((lg_cmp_ge _ _).mpr e)))))))

