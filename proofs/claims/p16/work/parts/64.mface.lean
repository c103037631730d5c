theorem t_l {s : Nat → fr} {l l1 a : Nat} {v : n4} (H : tM s 0 l a v) (h : l ≤ l1) (h2 : l1 ≤ 2) : tM s 0 l1 a v := ⟨H.1, fun h0 => lz_le (H.2 h0) h h2⟩
theorem hM_l {s : Nat → fr} {l l1 i : Nat} {v : o3} (H : hM s l i v) (h : l ≤ l1) (h2 : l1 ≤ 2) : hM s l1 i v := ⟨t_l H.1 h h2, t_l H.2.1 h h2, t_l H.2.2 h h2⟩
theorem t_e {s s1 : Nat → fr} {l a : Nat} {v : n4} (H : tM s 0 l a v) (e : ∀ j, j < 4 → s1 (a + j) = s (a + j)) : tM s1 0 l a v := ⟨fun h0 j hj => by rw [e j hj]; exact H.1 h0 j hj, H.2⟩
theorem hM_e {s s1 : Nat → fr} {l i : Nat} {v : o3} (H : hM s l i v) (e : ∀ k, 12 * i ≤ k → k < 12 * i + 12 → s1 k = s k) : hM s1 l i v := ⟨t_e H.1 (fun j hj => e _ (by omega) (by omega)), t_e H.2.1 (fun j hj => e _ (by omega) (by omega)), t_e H.2.2 (fun j hj => e _ (by omega) (by omega))⟩
theorem rdM_e {s s1 : Nat → fr} {L : lvR} (hl : L.1 ≤ 2) (H : rdM s 0 L) (e : ∀ k, 288 ≤ k → k < 291 → ¬ zr L k → s1 k = s k) : rdM s1 0 L := ⟨fun q h0 j hj => by rw [e _ (by omega) (by omega) (by unfold zr; omega)]; exact H.1 q h0 j hj, fun q h0 j hj => by rw [e _ (by omega) (by omega) (by unfold zr; omega)]; exact H.2 q h0 j hj⟩
/-- the first o objects as the reference keeps them -/
def rI (S : Nat → stp) (s : Nat → fr) (o : Nat) (v : Nat → o3) (L : lvR) : Prop := dr S o = some (v, L) ∧ L.1 ≤ 2 ∧ rdM s 0 L ∧ (∀ i, i < o → hM s L.1 i (v i)) ∧ (∀ j, fv (s j)) ∧ s 299 = (1, 2)
theorem rI_step {S : Nat → stp} {s s1 : Nat → fr} {o : Nat} {v : Nat → o3} {L : lvR} {dp1 b : Int32} (ho : o < 24) (h : rI S s o v L) (hd : mkR s L o (mk (S o) v L) s1 dp1 b) :
    (b = 1 ∧ ∃ v1 L1, dp1 = nI L1.1 ∧ rI S s1 (o + 1) v1 L1) ∨ (b = 0 ∧ dr S (o + 1) = none ∧ rI S s1 o v L) := by
  obtain ⟨a1, a2, a3, a4, a5, a6⟩ := h
  obtain ⟨b1, b2, b3⟩ := hd
  have f9 : s1 299 = (1, 2) := (b2 299 (by omega) (by omega) (by unfold zr; omega)).trans a6
  have hk : ∀ i, i < o → hM s1 L.1 i (v i) := fun i hi => hM_e (a4 i hi) (fun k h1 h2 => b2 k (by omega) (by omega) (by unfold zr; omega))
  rcases b3 with ⟨e1, w, L1, e2, e3, e4, e5, e6⟩ | ⟨e1, e2⟩
  · have hle := mk_le e2 a2
    have hdr := dr_s a1 e2
    refine Or.inl ⟨e1, _, L1, e3, hdr, e4, e6, fun i hi => ?_, b1, f9⟩
    by_cases e : i = o
    · show hM _ _ _ (if i = o then w else v i)
      rw [if_pos e, e]; exact e5
    · show hM _ _ _ (if i = o then w else v i)
      rw [if_neg e]; exact hM_l (hk i (by omega)) hle.1.1 e4
  · exact Or.inr ⟨e1, dr_n a1 e2, a1, a2, rdM_e a2 a3 (fun k h1 h2 h3 => b2 k (by omega) (by omega) h3), hk, b1, f9⟩
/-- the reference's state -/
def mI (S : Nat → stp) (k : Nat) (s : Nat → fr) (dp ob : Int32) (st of : Nat → Int32) : Prop := k ≤ 24 ∧ ob = nI k ∧ (∀ i, i < k → stR st of S i) ∧ (∀ i, i < k → wf S i) ∧ ∃ v L, rI S s k v L ∧ dp = nI L.1
def rwF (S : Nat → stp) (k : Nat) (s1 : Nat → fr) (dp1 r : Int32) : Prop := ∃ o v L, o ≤ k ∧ rI S s1 o v L ∧ ((o = k ∧ r = -1 ∧ dp1 = nI L.1) ∨ (o < k ∧ r = nI o ∧ dr S (o + 1) = none))
theorem rI_0 {S : Nat → stp} {s : Nat → fr} (hV : ∀ j, fv (s j)) (h9 : s 299 = (1, 2)) : rI S s 0 (fun _ => (zz, zz, zz)) (0, zz, zz) := ⟨rfl, by decide, ⟨fun q => absurd (show 1 ≤ 0 from q) (by decide), fun q => absurd (show 2 ≤ 0 from q) (by decide)⟩, fun i hi => absurd hi (Nat.not_lt_zero i), hV, h9⟩
theorem hf_of {s : Nat → fr} (h : s 299 = (1, 2)) : isM s 0 1 299 (fun _ => (1, 2)) := fun _ j hj => by rw [show j = 0 by omega]; exact h
set_option maxRecDepth 100000 in
theorem rwm_loop {d : Nat} {pre : mm_pre} {op oq : Nat → Int64} {tr : Int32} {st of : Nat → Int32} {F : mm_M} {S : Nat → stp} {k : Nat} {Q : mm_R → mm_M → Prop} (hk : k ≤ 24) (hS : ∀ i, i < k → stR st of S i) (hw : ∀ i, i < k → wf S i) (hQ : ∀ (s1 : Nat → fr) (dp1 w1 fa1 r : Int32), rwF S k s1 dp1 r → Q (.inl (some (.int r))) (wP pre (wN (PP s1) (QQ s1) op oq tr dp1 w1 fa1 (nI k) st of F))) : ∀ (m o : Nat) (s : Nat → fr) (wi fa : Int32) (v : Nat → o3) (L : lvR), o + m = k → rI S s o v L → mm_W (mm_call mm_Tb (d + 15)) mp_M_redraw (mm_bt mm_Tb) 0 (some .int) 2 Q (7, [(1, .int (nI o)), (0, .ref 10)], [], wP pre (wN (PP s) (QQ s) op oq tr (nI L.1) wi fa (nI k) st of F), 0)
  | 0, o, s, wi, fa, v, L, hm, hI => by
    refine mm_skip (mm_call_mono _ _) 3 (st' := (12, [(1, .int (nI o)), (0, .ref 10)], [.int (nI k), .int (nI o)], wP pre (wN (PP s) (QQ s) op oq tr (nI L.1) wi fa (nI k) st of F), 0)) rfl ?_
    refine mm_branch (mm_call_mono _ _) (c := (nI k) ≤ (nI o)) (s1 := (31, [(1, .int (nI o)), (0, .ref 10)], [], wP pre (wN (PP s) (QQ s) op oq tr (nI L.1) wi fa (nI k) st of F), 0)) (s2 := (15, [(1, .int (nI o)), (0, .ref 10)], [], wP pre (wN (PP s) (QQ s) op oq tr (nI L.1) wi fa (nI k) st of F), 0)) rfl (fun _ => ?_) (fun h => absurd (nI_le (show k ≤ o by omega) (by omega)) h)
    refine mm_skip (mm_call_mono _ _) 1 (st' := (32, [(1, .int (nI o)), (0, .ref 10)], [.int (-1)], wP pre (wN (PP s) (QQ s) op oq tr (nI L.1) wi fa (nI k) st of F), 0)) rfl ?_
    exact mm_ret (mm_call_mono _ _) (c := True) (r := .inl (some (.int (-1)))) (M := wP pre (wN (PP s) (QQ s) op oq tr (nI L.1) wi fa (nI k) st of F)) (u := 0) rfl trivial (by decide) (hQ _ _ _ _ _ ⟨o, v, L, by omega, hI, Or.inl ⟨by omega, rfl, rfl⟩⟩)

  | m + 1, o, s, wi, fa, v, L, hm, hI => by
    have ho : o < k := by omega
    refine mm_skip (mm_call_mono _ _) 3 (st' := (12, [(1, .int (nI o)), (0, .ref 10)], [.int (nI k), .int (nI o)], wP pre (wN (PP s) (QQ s) op oq tr (nI L.1) wi fa (nI k) st of F), 0)) rfl ?_
    refine mm_branch (mm_call_mono _ _) (c := (nI k) ≤ (nI o)) (s1 := (31, [(1, .int (nI o)), (0, .ref 10)], [], wP pre (wN (PP s) (QQ s) op oq tr (nI L.1) wi fa (nI k) st of F), 0)) (s2 := (15, [(1, .int (nI o)), (0, .ref 10)], [], wP pre (wN (PP s) (QQ s) op oq tr (nI L.1) wi fa (nI k) st of F), 0)) rfl (fun h => absurd h (nI_ge ho (by omega))) (fun _ => ?_)
    refine mm_skip (mm_call_mono _ _) 2 (st' := (17, [(1, .int (nI o)), (0, .ref 10)], [.int (nI o), .ref 10], wP pre (wN (PP s) (QQ s) op oq tr (nI L.1) wi fa (nI k) st of F), 0)) rfl ?_
    refine mm_inv (mm_call_mono _ _) (j := 95) (a := [.ref 10, .int (nI o)]) (M := wP pre (wN (PP s) (QQ s) op oq tr (nI L.1) wi fa (nI k) st of F)) (u := 0) rfl (by decide) (rk_make hI.2.2.2.2.1 hI.2.1 (by omega) (fun i hi => hS i (by omega)) (hw o ho) hI.2.2.1 (hf_of hI.2.2.2.2.2) hI.2.2.2.1 (fun s1 dp1 w1 fa1 b hd => ?_))
    show mm_W _ _ _ _ _ _ _ (20, [(1, .int (nI o)), (0, .ref 10)], [.int b], wP pre (wN (PP s1) (QQ s1) op oq tr dp1 w1 fa1 (nI k) st of F), 0)
    have st9 := rI_step (by omega) hI hd
    refine mm_branch (mm_call_mono _ _) (c := b = 0) (s1 := (23, [(1, .int (nI o)), (0, .ref 10)], [], wP pre (wN (PP s1) (QQ s1) op oq tr dp1 w1 fa1 (nI k) st of F), 0)) (s2 := (25, [(1, .int (nI o)), (0, .ref 10)], [], wP pre (wN (PP s1) (QQ s1) op oq tr dp1 w1 fa1 (nI k) st of F), 0)) rfl (fun g1 => ?_) (fun g1 => ?_)
    · skip
      refine mm_skip (mm_call_mono _ _) 1 (st' := (24, [(1, .int (nI o)), (0, .ref 10)], [.int (nI o)], wP pre (wN (PP s1) (QQ s1) op oq tr dp1 w1 fa1 (nI k) st of F), 0)) rfl ?_
      exact mm_ret (mm_call_mono _ _) (c := True) (r := .inl (some (.int (nI o)))) (M := wP pre (wN (PP s1) (QQ s1) op oq tr dp1 w1 fa1 (nI k) st of F)) (u := 0) rfl trivial (by decide) (by rcases st9 with ⟨q, _⟩ | ⟨q1, q2, q3⟩; exact absurd (q.symm.trans g1) z10; exact hQ _ _ _ _ _ ⟨o, v, L, by omega, q3, Or.inr ⟨ho, rfl, q2⟩⟩)
    · skip
      refine mm_skip (mm_call_mono _ _) 2 (st' := (7, [(1, .int ((nI o) + 1)), (0, .ref 10)], [], wP pre (wN (PP s1) (QQ s1) op oq tr dp1 w1 fa1 (nI k) st of F), 0)) rfl ?_
      rw [nI_p1 (o)]
      show mm_W _ _ _ _ _ _ _ (7, [(1, .int (nI (o + 1))), (0, .ref 10)], [], wP pre (wN (PP s1) (QQ s1) op oq tr dp1 w1 fa1 (nI k) st of F), 0)
      rcases st9 with ⟨q, v1, L1, q2, q3⟩ | ⟨q, _⟩
      · subst q2
        exact rwm_loop hk hS hw hQ m (o + 1) _ _ _ v1 L1 (by omega) q3
      · exact absurd q g1

set_option maxRecDepth 100000 in
theorem rk_redraw {d : Nat} {pre : mm_pre} {op oq : Nat → Int64} {tr : Int32} {st of : Nat → Int32} {F : mm_M} {S : Nat → stp} {k : Nat} {s : Nat → fr} {dp wi fa : Int32} {Q : mm_R → mm_M → Prop} (hk : k ≤ 24) (hS : ∀ i, i < k → stR st of S i) (hw : ∀ i, i < k → wf S i) (hV : ∀ j, fv (s j)) (h9 : s 299 = (1, 2)) (hQ : ∀ (s1 : Nat → fr) (dp1 w1 fa1 r : Int32), rwF S k s1 dp1 r → Q (.inl (some (.int r))) (wP pre (wN (PP s1) (QQ s1) op oq tr dp1 w1 fa1 (nI k) st of F))) : mm_call mm_Tb (d + 16) 96 [.ref 10] (wP pre (wN (PP s) (QQ s) op oq tr dp wi fa (nI k) st of F)) Q := by
  refine mm_in mt_96 (Nat.le_of_ble_eq_true rfl) ?_
  show mm_W _ _ _ _ _ _ _ (0, [(0, .ref 10)], [], wP pre (wN (PP s) (QQ s) op oq tr dp wi fa (nI k) st of F), 0)
  refine mm_skip (mm_call_mono _ _) 5 (st' := (7, [(1, .int 0), (0, .ref 10)], [], wP pre (wN (PP s) (QQ s) op oq tr 0 wi fa (nI k) st of F), 0)) rfl ?_
  exact rwm_loop hk hS hw hQ k 0 s _ _ _ (0, zz, zz) (by omega) (rI_0 hV h9)

/-- four arguments in a row -/
def o4 (of : Nat → Int32) (k : Nat) (a b c e : Int32) : Nat → Int32 := upd (upd (upd (upd of (4 * k) a) (4 * k + 1) b) (4 * k + 2) c) (4 * k + 3) e
theorem o4_0 {of : Nat → Int32} {k : Nat} {a b c e : Int32} : o4 of k a b c e (4 * k) = a := by unfold o4; rw [pk_un (by omega), pk_un (by omega), pk_un (by omega), pk_us]
theorem o4_1 {of : Nat → Int32} {k : Nat} {a b c e : Int32} : o4 of k a b c e (4 * k + 1) = b := by unfold o4; rw [pk_un (by omega), pk_un (by omega), pk_us]
theorem o4_2 {of : Nat → Int32} {k : Nat} {a b c e : Int32} : o4 of k a b c e (4 * k + 2) = c := by unfold o4; rw [pk_un (by omega), pk_us]
theorem o4_3 {of : Nat → Int32} {k : Nat} {a b c e : Int32} : o4 of k a b c e (4 * k + 3) = e := by unfold o4; rw [pk_us]
theorem o4_n {of : Nat → Int32} {k j : Nat} {a b c e : Int32} (h : j < 4 * k ∨ 4 * k + 4 ≤ j) : o4 of k a b c e j = of j := by unfold o4; rw [pk_un (by omega), pk_un (by omega), pk_un (by omega), pk_un (by omega)]
theorem o4_id {of : Nat → Int32} {k : Nat} {a b c e : Int32} : o4 (o4 of k a b c e) k (of (4 * k)) (of (4 * k + 1)) (of (4 * k + 2)) (of (4 * k + 3)) = of := by
  funext j
  by_cases h : j < 4 * k ∨ 4 * k + 4 ≤ j
  · rw [o4_n h, o4_n h]
  · rcases (show j = 4 * k ∨ j = 4 * k + 1 ∨ j = 4 * k + 2 ∨ j = 4 * k + 3 by omega) with rfl | rfl | rfl | rfl
    · exact o4_0
    · exact o4_1
    · exact o4_2
    · exact o4_3
theorem stR_k {st of st1 of1 : Nat → Int32} {S S1 : Nat → stp} {i : Nat} (h : stR st of S i) (e : S1 i = S i) (e1 : st1 i = st i) (e2 : ∀ j, 4 * i ≤ j → j < 4 * i + 4 → of1 j = of j) : stR st1 of1 S1 i := by
  unfold stR
  rw [e, e1, e2 (4 * i) (by omega) (by omega), e2 (4 * i + 1) (by omega) (by omega), e2 (4 * i + 2) (by omega) (by omega), e2 (4 * i + 3) (by omega) (by omega)]
  exact h
/-- what a method of the reference returns -/
def rv (r : oc) : Int32 := if r.1 = 0 then r.2 else 0
theorem ext_stR {st of : Nat → Int32} {S : Nat → stp} {k i : Nat} {s : stp} {t a b c e : Int32} (h : stR st of S i) (hi : i < k) : stR (upd st k t) (o4 of k a b c e) (ext S k s) i := stR_k h (ext_n (by omega)) (pk_un (by omega)) (fun j h1 h2 => o4_n (by omega))
set_option maxRecDepth 100000 in
theorem rk_fresh {d : Nat} {pre : mm_pre} {s : Nat → fr} {op oq : Nat → Int64} {tr wi fa : Int32} {st of : Nat → Int32} {F : mm_M} {S : Nat → stp} {k : Nat} {s0 : stp} {x1 x2 x3 x4 x5 : Int32} {v : Nat → o3} {L : lvR} {Q : mm_R → mm_M → Prop} (hk : k ≤ 24) (hS : ∀ i, i < k → stR st of S i) (hw : ∀ i, i < k → wf S i) (hR : rI S s k v L) (hx : x1 = nI (rc s0.1)) (hwk : wf (ext S k s0) k) (hsk : stR (upd st k x1) (o4 of k x2 x3 x4 x5) (ext S k s0) k) (hQ : ∀ (s1 : Nat → fr) (op1 oq1 : Nat → Int64) (dp1 w1 fa1 ob1 : Int32) (st1 of1 : Nat → Int32) (r : oc) (S1 : Nat → stp) (k1 : Nat), aAdd S k s0 = (r, S1, k1) → mI S1 k1 s1 dp1 ob1 st1 of1 → Q (.inl (some (.int (rv r)))) (wP pre (wN (PP s1) (QQ s1) op1 oq1 (nI r.1) dp1 w1 fa1 ob1 st1 of1 F))) : mm_call mm_Tb (d + 16) 99 [.ref 10, .int x1, .int x2, .int x3, .int x4, .int x5] (wP pre (wN (PP s) (QQ s) op oq tr (nI L.1) wi fa (nI k) st of F)) Q := by
  have hS2 : ∀ i, i ≤ k → stR (upd st k x1) (o4 of k x2 x3 x4 x5) (ext S k s0) i := fun i hi => by
    by_cases e : i = k
    · rw [e]; exact hsk
    · exact ext_stR (hS i (by omega)) (by omega)
  have hS3 : ∀ i, i < k → stR (upd st k x1) (o4 of k x2 x3 x4 x5) S i := fun i hi => stR_k (hS i hi) rfl (pk_un (by omega)) (fun j h1 h2 => o4_n (by omega))
  have hw2 : ∀ i, i < k + 1 → wf (ext S k s0) i := fun i hi => by
    by_cases e : i = k
    · rw [e]; exact hwk
    · exact wf_c (hw i (by omega)) (fun j hj => ext_n (by omega))
  have hR2 : rI (ext S k s0) s k v L := ⟨(ext_c (Nat.le_refl k)).trans hR.1, hR.2⟩
  refine mm_in mt_99 (Nat.le_of_ble_eq_true rfl) ?_
  show mm_W _ _ _ _ _ _ _ (0, [(0, .ref 10), (1, .int x1), (2, .int x2), (3, .int x3), (4, .int x4), (5, .int x5)], [], wP pre (wN (PP s) (QQ s) op oq tr (nI L.1) wi fa (nI k) st of F), 0)
  refine mm_skip (mm_call_mono _ _) 4 (st' := (7, [(0, .ref 10), (1, .int x1), (2, .int x2), (3, .int x3), (4, .int x4), (5, .int x5)], [.int 24, .int (nI k), .ref 10], wP pre (wN (PP s) (QQ s) op oq tr (nI L.1) wi fa (nI k) st of F), 0)) rfl ?_
  refine mm_branch (mm_call_mono _ _) (c := (nI k) = 24) (s1 := (10, [(0, .ref 10), (1, .int x1), (2, .int x2), (3, .int x3), (4, .int x4), (5, .int x5)], [.ref 10], wP pre (wN (PP s) (QQ s) op oq tr (nI L.1) wi fa (nI k) st of F), 0)) (s2 := (14, [(0, .ref 10), (1, .int x1), (2, .int x2), (3, .int x3), (4, .int x4), (5, .int x5)], [.ref 10], wP pre (wN (PP s) (QQ s) op oq tr (nI L.1) wi fa (nI k) st of F), 0)) rfl (fun z1 => ?_) (fun z1 => ?_)
  · have z2 : k = 24 := (nI_eq (by omega) (by omega)).mp (show nI k = nI 24 from z1)
    refine mm_skip (mm_call_mono _ _) 5 (st' := (22, [(0, .ref 10), (1, .int x1), (2, .int x2), (3, .int x3), (4, .int x4), (5, .int x5)], [.int 2], wP pre (wN (PP s) (QQ s) op oq 2 (nI L.1) wi fa (nI k) st of F), 0)) rfl ?_
    refine mm_branch (mm_call_mono _ _) (c := (2 : Int32) ≤ 0) (s1 := (27, [(0, .ref 10), (1, .int x1), (2, .int x2), (3, .int x3), (4, .int x4), (5, .int x5)], [], wP pre (wN (PP s) (QQ s) op oq 2 (nI L.1) wi fa (nI k) st of F), 0)) (s2 := (25, [(0, .ref 10), (1, .int x1), (2, .int x2), (3, .int x3), (4, .int x4), (5, .int x5)], [], wP pre (wN (PP s) (QQ s) op oq 2 (nI L.1) wi fa (nI k) st of F), 0)) rfl (fun h => absurd h (by decide)) (fun _ => ?_)
    refine mm_skip (mm_call_mono _ _) 1 (st' := (26, [(0, .ref 10), (1, .int x1), (2, .int x2), (3, .int x3), (4, .int x4), (5, .int x5)], [.int 0], wP pre (wN (PP s) (QQ s) op oq 2 (nI L.1) wi fa (nI k) st of F), 0)) rfl ?_
    exact mm_ret (mm_call_mono _ _) (c := True) (r := .inl (some (.int 0))) (M := wP pre (wN (PP s) (QQ s) op oq 2 (nI L.1) wi fa (nI k) st of F)) (u := 0) rfl trivial (by decide) (hQ _ _ _ _ _ _ _ _ _ (2, 0) S k (aAdd_24 z2) ⟨hk, rfl, hS, hw, v, L, hR, rfl⟩)
  · have hk24 : k < 24 := by have h : ¬ k = 24 := fun e => z1 (by rw [e]; rfl); omega
    refine mm_skip (mm_call_mono _ _) 4 (st' := (22, [(0, .ref 10), (1, .int x1), (2, .int x2), (3, .int x3), (4, .int x4), (5, .int x5)], [.int 0], wP pre (wN (PP s) (QQ s) op oq 0 (nI L.1) wi fa (nI k) st of F), 0)) rfl ?_
    refine mm_branch (mm_call_mono _ _) (c := (0 : Int32) ≤ 0) (s1 := (27, [(0, .ref 10), (1, .int x1), (2, .int x2), (3, .int x3), (4, .int x4), (5, .int x5)], [], wP pre (wN (PP s) (QQ s) op oq 0 (nI L.1) wi fa (nI k) st of F), 0)) (s2 := (25, [(0, .ref 10), (1, .int x1), (2, .int x2), (3, .int x3), (4, .int x4), (5, .int x5)], [], wP pre (wN (PP s) (QQ s) op oq 0 (nI L.1) wi fa (nI k) st of F), 0)) rfl (fun _ => ?_) (fun h => absurd (by decide) h)
    refine mm_skip (mm_call_mono _ _) 5 (st' := (36, [(0, .ref 10), (1, .int x1), (2, .int x2), (3, .int x3), (4, .int x4), (5, .int x5)], [.int x1, .int (nI k), .ref 15], wP pre (wN (PP s) (QQ s) op oq 0 (nI L.1) wi fa (nI k) st of F), 0)) rfl ?_
    refine mm_need (mm_call_mono _ _) (c := vp_in (nI k) 24) (s' := (37, [(0, .ref 10), (1, .int x1), (2, .int x2), (3, .int x3), (4, .int x4), (5, .int x5)], [], wP pre (wN (PP s) (QQ s) op oq 0 (nI L.1) wi fa (nI k) (upd st (Int32.toNatClampNeg (nI k)) x1) of F), 0)) rfl (vp_in_nI (show k < 24 by omega) (by decide)) ?_
    rw [nI_clamp (show k < 2 ^ 31 by omega)]
    show mm_W _ _ _ _ _ _ _ (37, [(0, .ref 10), (1, .int x1), (2, .int x2), (3, .int x3), (4, .int x4), (5, .int x5)], [], wP pre (wN (PP s) (QQ s) op oq 0 (nI L.1) wi fa (nI k) (upd st k x1) of F), 0)
    refine mm_skip (mm_call_mono _ _) 7 (st' := (48, [(0, .ref 10), (1, .int x1), (2, .int x2), (3, .int x3), (4, .int x4), (5, .int x5)], [.int x2, .int (4 * (nI k)), .ref 16], wP pre (wN (PP s) (QQ s) op oq 0 (nI L.1) wi fa (nI k) (upd st k x1) of F), 0)) rfl ?_
    rw [nI_m4 k]
    show mm_W _ _ _ _ _ _ _ (48, [(0, .ref 10), (1, .int x1), (2, .int x2), (3, .int x3), (4, .int x4), (5, .int x5)], [.int x2, .int (nI (4 * k)), .ref 16], wP pre (wN (PP s) (QQ s) op oq 0 (nI L.1) wi fa (nI k) (upd st k x1) of F), 0)
    refine mm_need (mm_call_mono _ _) (c := vp_in (nI (4 * k)) 96) (s' := (49, [(0, .ref 10), (1, .int x1), (2, .int x2), (3, .int x3), (4, .int x4), (5, .int x5)], [], wP pre (wN (PP s) (QQ s) op oq 0 (nI L.1) wi fa (nI k) (upd st k x1) (upd of (Int32.toNatClampNeg (nI (4 * k))) x2) F), 0)) rfl (vp_in_nI (show (4 * k) < 96 by omega) (by decide)) ?_
    rw [nI_clamp (show (4 * k) < 2 ^ 31 by omega)]
    show mm_W _ _ _ _ _ _ _ (49, [(0, .ref 10), (1, .int x1), (2, .int x2), (3, .int x3), (4, .int x4), (5, .int x5)], [], wP pre (wN (PP s) (QQ s) op oq 0 (nI L.1) wi fa (nI k) (upd st k x1) (upd of (4 * k) x2) F), 0)
    refine mm_skip (mm_call_mono _ _) 9 (st' := (62, [(0, .ref 10), (1, .int x1), (2, .int x2), (3, .int x3), (4, .int x4), (5, .int x5)], [.int x3, .int ((4 * (nI k)) + 1), .ref 16], wP pre (wN (PP s) (QQ s) op oq 0 (nI L.1) wi fa (nI k) (upd st k x1) (upd of (4 * k) x2) F), 0)) rfl ?_
    rw [nI_m4 k]
    rw [nI_p1 ((4 * k))]
    show mm_W _ _ _ _ _ _ _ (62, [(0, .ref 10), (1, .int x1), (2, .int x2), (3, .int x3), (4, .int x4), (5, .int x5)], [.int x3, .int (nI (4 * k + 1)), .ref 16], wP pre (wN (PP s) (QQ s) op oq 0 (nI L.1) wi fa (nI k) (upd st k x1) (upd of (4 * k) x2) F), 0)
    refine mm_need (mm_call_mono _ _) (c := vp_in (nI (4 * k + 1)) 96) (s' := (63, [(0, .ref 10), (1, .int x1), (2, .int x2), (3, .int x3), (4, .int x4), (5, .int x5)], [], wP pre (wN (PP s) (QQ s) op oq 0 (nI L.1) wi fa (nI k) (upd st k x1) (upd (upd of (4 * k) x2) (Int32.toNatClampNeg (nI (4 * k + 1))) x3) F), 0)) rfl (vp_in_nI (show (4 * k + 1) < 96 by omega) (by decide)) ?_
    rw [nI_clamp (show (4 * k + 1) < 2 ^ 31 by omega)]
    show mm_W _ _ _ _ _ _ _ (63, [(0, .ref 10), (1, .int x1), (2, .int x2), (3, .int x3), (4, .int x4), (5, .int x5)], [], wP pre (wN (PP s) (QQ s) op oq 0 (nI L.1) wi fa (nI k) (upd st k x1) (upd (upd of (4 * k) x2) (4 * k + 1) x3) F), 0)
    refine mm_skip (mm_call_mono _ _) 9 (st' := (77, [(0, .ref 10), (1, .int x1), (2, .int x2), (3, .int x3), (4, .int x4), (5, .int x5)], [.int x4, .int ((4 * (nI k)) + 2), .ref 16], wP pre (wN (PP s) (QQ s) op oq 0 (nI L.1) wi fa (nI k) (upd st k x1) (upd (upd of (4 * k) x2) (4 * k + 1) x3) F), 0)) rfl ?_
    rw [nI_m4 k]
    rw [nI_p2 ((4 * k))]
    show mm_W _ _ _ _ _ _ _ (77, [(0, .ref 10), (1, .int x1), (2, .int x2), (3, .int x3), (4, .int x4), (5, .int x5)], [.int x4, .int (nI (4 * k + 2)), .ref 16], wP pre (wN (PP s) (QQ s) op oq 0 (nI L.1) wi fa (nI k) (upd st k x1) (upd (upd of (4 * k) x2) (4 * k + 1) x3) F), 0)
    refine mm_need (mm_call_mono _ _) (c := vp_in (nI (4 * k + 2)) 96) (s' := (78, [(0, .ref 10), (1, .int x1), (2, .int x2), (3, .int x3), (4, .int x4), (5, .int x5)], [], wP pre (wN (PP s) (QQ s) op oq 0 (nI L.1) wi fa (nI k) (upd st k x1) (upd (upd (upd of (4 * k) x2) (4 * k + 1) x3) (Int32.toNatClampNeg (nI (4 * k + 2))) x4) F), 0)) rfl (vp_in_nI (show (4 * k + 2) < 96 by omega) (by decide)) ?_
    rw [nI_clamp (show (4 * k + 2) < 2 ^ 31 by omega)]
    show mm_W _ _ _ _ _ _ _ (78, [(0, .ref 10), (1, .int x1), (2, .int x2), (3, .int x3), (4, .int x4), (5, .int x5)], [], wP pre (wN (PP s) (QQ s) op oq 0 (nI L.1) wi fa (nI k) (upd st k x1) (upd (upd (upd of (4 * k) x2) (4 * k + 1) x3) (4 * k + 2) x4) F), 0)
    refine mm_skip (mm_call_mono _ _) 9 (st' := (92, [(0, .ref 10), (1, .int x1), (2, .int x2), (3, .int x3), (4, .int x4), (5, .int x5)], [.int x5, .int ((4 * (nI k)) + 3), .ref 16], wP pre (wN (PP s) (QQ s) op oq 0 (nI L.1) wi fa (nI k) (upd st k x1) (upd (upd (upd of (4 * k) x2) (4 * k + 1) x3) (4 * k + 2) x4) F), 0)) rfl ?_
    rw [nI_m4 k]
    rw [nI_p3 ((4 * k))]
    show mm_W _ _ _ _ _ _ _ (92, [(0, .ref 10), (1, .int x1), (2, .int x2), (3, .int x3), (4, .int x4), (5, .int x5)], [.int x5, .int (nI (4 * k + 3)), .ref 16], wP pre (wN (PP s) (QQ s) op oq 0 (nI L.1) wi fa (nI k) (upd st k x1) (upd (upd (upd of (4 * k) x2) (4 * k + 1) x3) (4 * k + 2) x4) F), 0)
    refine mm_need (mm_call_mono _ _) (c := vp_in (nI (4 * k + 3)) 96) (s' := (93, [(0, .ref 10), (1, .int x1), (2, .int x2), (3, .int x3), (4, .int x4), (5, .int x5)], [], wP pre (wN (PP s) (QQ s) op oq 0 (nI L.1) wi fa (nI k) (upd st k x1) (upd (upd (upd (upd of (4 * k) x2) (4 * k + 1) x3) (4 * k + 2) x4) (Int32.toNatClampNeg (nI (4 * k + 3))) x5) F), 0)) rfl (vp_in_nI (show (4 * k + 3) < 96 by omega) (by decide)) ?_
    rw [nI_clamp (show (4 * k + 3) < 2 ^ 31 by omega)]
    show mm_W _ _ _ _ _ _ _ (93, [(0, .ref 10), (1, .int x1), (2, .int x2), (3, .int x3), (4, .int x4), (5, .int x5)], [], wP pre (wN (PP s) (QQ s) op oq 0 (nI L.1) wi fa (nI k) (upd st k x1) (upd (upd (upd (upd of (4 * k) x2) (4 * k + 1) x3) (4 * k + 2) x4) (4 * k + 3) x5) F), 0)
    refine mm_skip (mm_call_mono _ _) 2 (st' := (97, [(0, .ref 10), (1, .int x1), (2, .int x2), (3, .int x3), (4, .int x4), (5, .int x5)], [.int (nI L.1)], wP pre (wN (PP s) (QQ s) op oq 0 (nI L.1) wi fa (nI k) (upd st k x1) (upd (upd (upd (upd of (4 * k) x2) (4 * k + 1) x3) (4 * k + 2) x4) (4 * k + 3) x5) F), 0)) rfl ?_
    show mm_W _ _ _ _ _ _ _ (97, [(0, .ref 10), (1, .int x1), (2, .int x2), (3, .int x3), (4, .int x4), (5, .int x5)], [.int (nI L.1)], wP pre (wN (PP s) (QQ s) op oq 0 (nI L.1) wi fa (nI k) (upd st k x1) (o4 of k x2 x3 x4 x5) F), 0)
    refine mm_skip (mm_call_mono _ _) 4 (st' := (104, [(6, .int (nI L.1)), (0, .ref 10), (1, .int x1), (2, .int x2), (3, .int x3), (4, .int x4), (5, .int x5)], [.int (nI k), .ref 10], wP pre (wN (PP s) (QQ s) op oq 0 (nI L.1) wi fa (nI k) (upd st k x1) (o4 of k x2 x3 x4 x5) F), 0)) rfl ?_
    refine mm_inv (mm_call_mono _ _) (j := 95) (a := [.ref 10, .int (nI k)]) (M := wP pre (wN (PP s) (QQ s) op oq 0 (nI L.1) wi fa (nI k) (upd st k x1) (o4 of k x2 x3 x4 x5) F)) (u := 0) rfl (by decide) (rk_make (S := ext S k s0) (v := v) hR.2.2.2.2.1 hR.2.1 hk24 hS2 hwk hR.2.2.1 (hf_of hR.2.2.2.2.2) hR.2.2.2.1 (fun s1 dp1 w1 fa1 b hd => ?_))
    show mm_W _ _ _ _ _ _ _ (107, [(6, .int (nI L.1)), (0, .ref 10), (1, .int x1), (2, .int x2), (3, .int x3), (4, .int x4), (5, .int x5)], [.int b], wP pre (wN (PP s1) (QQ s1) op oq 0 dp1 w1 fa1 (nI k) (upd st k x1) (o4 of k x2 x3 x4 x5) F), 0)
    have st9 := rI_step hk24 hR2 hd
    refine mm_branch (mm_call_mono _ _) (c := b = 0) (s1 := (110, [(6, .int (nI L.1)), (0, .ref 10), (1, .int x1), (2, .int x2), (3, .int x3), (4, .int x4), (5, .int x5)], [], wP pre (wN (PP s1) (QQ s1) op oq 0 dp1 w1 fa1 (nI k) (upd st k x1) (o4 of k x2 x3 x4 x5) F), 0)) (s2 := (123, [(6, .int (nI L.1)), (0, .ref 10), (1, .int x1), (2, .int x2), (3, .int x3), (4, .int x4), (5, .int x5)], [], wP pre (wN (PP s1) (QQ s1) op oq 0 dp1 w1 fa1 (nI k) (upd st k x1) (o4 of k x2 x3 x4 x5) F), 0)) rfl (fun g1 => ?_) (fun g1 => ?_)
    · skip
      refine mm_skip (mm_call_mono _ _) 7 (st' := (122, [(6, .int (nI L.1)), (0, .ref 10), (1, .int x1), (2, .int x2), (3, .int x3), (4, .int x4), (5, .int x5)], [.int 0], wP pre (wN (PP s1) (QQ s1) op oq 3 (nI L.1) w1 fa1 (nI k) (upd st k x1) (o4 of k x2 x3 x4 x5) F), 0)) rfl ?_
      exact mm_ret (mm_call_mono _ _) (c := True) (r := .inl (some (.int 0))) (M := wP pre (wN (PP s1) (QQ s1) op oq 3 (nI L.1) w1 fa1 (nI k) (upd st k x1) (o4 of k x2 x3 x4 x5) F)) (u := 0) rfl trivial (by decide) (by rcases st9 with ⟨q, _⟩ | ⟨q1, q2, q3⟩; exact absurd (q.symm.trans g1) z10; exact hQ _ _ _ _ _ _ _ _ _ (3, 0) S k (aAdd_n hk24 q2) ⟨hk, rfl, hS3, hw, v, L, ⟨hR.1, q3.2⟩, rfl⟩)
    · skip
      refine mm_skip (mm_call_mono _ _) 10 (st' := (139, [(6, .int (nI L.1)), (0, .ref 10), (1, .int x1), (2, .int x2), (3, .int x3), (4, .int x4), (5, .int x5)], [.int (((nI k) + 1) - 1)], wP pre (wN (PP s1) (QQ s1) op oq 0 dp1 w1 fa1 ((nI k) + 1) (upd st k x1) (o4 of k x2 x3 x4 x5) F), 0)) rfl ?_
      rw [nI_p1 (k)]
      show mm_W _ _ _ _ _ _ _ (139, [(6, .int (nI L.1)), (0, .ref 10), (1, .int x1), (2, .int x2), (3, .int x3), (4, .int x4), (5, .int x5)], [.int ((nI (k + 1)) - 1)], wP pre (wN (PP s1) (QQ s1) op oq 0 dp1 w1 fa1 (nI (k + 1)) (upd st k x1) (o4 of k x2 x3 x4 x5) F), 0)
      rw [(nI_pred k)]
      show mm_W _ _ _ _ _ _ _ (139, [(6, .int (nI L.1)), (0, .ref 10), (1, .int x1), (2, .int x2), (3, .int x3), (4, .int x4), (5, .int x5)], [.int (nI k)], wP pre (wN (PP s1) (QQ s1) op oq 0 dp1 w1 fa1 (nI (k + 1)) (upd st k x1) (o4 of k x2 x3 x4 x5) F), 0)
      exact mm_ret (mm_call_mono _ _) (c := True) (r := .inl (some (.int (nI k)))) (M := wP pre (wN (PP s1) (QQ s1) op oq 0 dp1 w1 fa1 (nI (k + 1)) (upd st k x1) (o4 of k x2 x3 x4 x5) F)) (u := 0) rfl trivial (by decide) (by rcases st9 with ⟨q, v1, L1, q2, q3⟩ | ⟨q, _⟩; exact hQ _ _ _ _ _ _ _ _ _ (0, nI k) (ext S k s0) (k + 1) (aAdd_s hk24 q3.1) ⟨hk24, rfl, fun i hi => hS2 i (by omega), hw2, v1, L1, q3, q2⟩; exact absurd q g1)

theorem rc_1 {c : Nat} (hc : c ≤ 6) : (nI (rc c) = 1 → kdn c = 1 ∧ nI (rc c) = 1) ∧ (nI (rc c) = 2 → kdn c = 2) ∧ (¬ nI (rc c) = 1 → ¬ nI (rc c) = 2 → kdn c = 0) := by
  rcases (show c = 0 ∨ c = 1 ∨ c = 2 ∨ c = 3 ∨ c = 4 ∨ c = 5 ∨ c = 6 by omega) with rfl | rfl | rfl | rfl | rfl | rfl | rfl <;> decide
set_option maxRecDepth 100000 in
theorem rk_kind {d : Nat} {pre : mm_pre} {p q op oq : Nat → Int64} {tr dp wi fa : Int32} {st of : Nat → Int32} {F : mm_M} {S : Nat → stp} {k : Nat} {x : Int32} {Q : mm_R → mm_M → Prop} (hk : k ≤ 24) (hS : ∀ i, i < k → stR st of S i) (hw : ∀ i, i < k → wf S i) (hQ : Q (.inl (some (.int (ckd S k x)))) (wP pre (wN p q op oq tr dp wi fa (nI k) st of F))) : mm_call mm_Tb (d + 1) 98 [.ref 10, .int x] (wP pre (wN p q op oq tr dp wi fa (nI k) st of F)) Q := by
  refine mm_in mt_98 (Nat.le_of_ble_eq_true rfl) ?_
  show mm_W _ _ _ _ _ _ _ (0, [(0, .ref 10), (1, .int x)], [], wP pre (wN p q op oq tr dp wi fa (nI k) st of F), 0)
  refine mm_skip (mm_call_mono _ _) 1 (st' := (1, [(0, .ref 10), (1, .int x)], [.int x], wP pre (wN p q op oq tr dp wi fa (nI k) st of F), 0)) rfl ?_
  refine mm_branch (mm_call_mono _ _) (c := x < 0) (s1 := (12, [(0, .ref 10), (1, .int x)], [], wP pre (wN p q op oq tr dp wi fa (nI k) st of F), 0)) (s2 := (4, [(0, .ref 10), (1, .int x)], [], wP pre (wN p q op oq tr dp wi fa (nI k) st of F), 0)) rfl (fun z1 => ?_) (fun z1 => ?_)
  · skip
    refine mm_skip (mm_call_mono _ _) 2 (st' := (70, [(0, .ref 10), (1, .int x)], [.int (-1)], wP pre (wN p q op oq tr dp wi fa (nI k) st of F), 0)) rfl ?_
    exact mm_ret (mm_call_mono _ _) (c := True) (r := .inl (some (.int (-1)))) (M := wP pre (wN p q op oq tr dp wi fa (nI k) st of F)) (u := 0) rfl trivial (by decide) (by rw [ckd_out (Or.inl z1)] at hQ; exact hQ)
  · skip
    refine mm_skip (mm_call_mono _ _) 3 (st' := (9, [(0, .ref 10), (1, .int x)], [.int (nI k), .int x], wP pre (wN p q op oq tr dp wi fa (nI k) st of F), 0)) rfl ?_
    refine mm_branch (mm_call_mono _ _) (c := x < (nI k)) (s1 := (16, [(0, .ref 10), (1, .int x)], [], wP pre (wN p q op oq tr dp wi fa (nI k) st of F), 0)) (s2 := (12, [(0, .ref 10), (1, .int x)], [], wP pre (wN p q op oq tr dp wi fa (nI k) st of F), 0)) rfl (fun z2 => ?_) (fun z2 => ?_)
    · skip
      obtain ⟨j, hj, rfl⟩ := in_of hk z1 z2
      refine mm_skip (mm_call_mono _ _) 3 (st' := (21, [(0, .ref 10), (1, .int (nI j))], [.int (nI j), .ref 15], wP pre (wN p q op oq tr dp wi fa (nI k) st of F), 0)) rfl ?_
      refine mm_branch (mm_call_mono _ _) (c := 0 ≤ (nI j)) (s1 := (28, [(0, .ref 10), (1, .int (nI j))], [.ref 15], wP pre (wN p q op oq tr dp wi fa (nI k) st of F), 0)) (s2 := (24, [(0, .ref 10), (1, .int (nI j))], [.ref 15], wP pre (wN p q op oq tr dp wi fa (nI k) st of F), 0)) rfl (fun _ => ?_) (fun h => absurd (nI_pos' (by omega)) h)
      refine mm_skip (mm_call_mono _ _) 1 (st' := (29, [(0, .ref 10), (1, .int (nI j))], [.int (nI j), .ref 15], wP pre (wN p q op oq tr dp wi fa (nI k) st of F), 0)) rfl ?_
      refine mm_need (mm_call_mono _ _) (c := vp_in (nI j) 24) (s' := (30, [(0, .ref 10), (1, .int (nI j))], [.int (st (Int32.toNatClampNeg (nI j)))], wP pre (wN p q op oq tr dp wi fa (nI k) st of F), 0)) rfl (vp_in_nI (show j < 24 by omega) (by decide)) ?_
      rw [nI_clamp (show j < 2 ^ 31 by omega)]
      show mm_W _ _ _ _ _ _ _ (30, [(0, .ref 10), (1, .int (nI j))], [.int (st j)], wP pre (wN p q op oq tr dp wi fa (nI k) st of F), 0)
      rw [(hS j hj).1]
      show mm_W _ _ _ _ _ _ _ (30, [(0, .ref 10), (1, .int (nI j))], [.int (nI (rc (S j).1))], wP pre (wN p q op oq tr dp wi fa (nI k) st of F), 0)
      refine mm_skip (mm_call_mono _ _) 1 (st' := (31, [(0, .ref 10), (1, .int (nI j))], [.int 1, .int (nI (rc (S j).1))], wP pre (wN p q op oq tr dp wi fa (nI k) st of F), 0)) rfl ?_
      refine mm_branch (mm_call_mono _ _) (c := (nI (rc (S j).1)) = 1) (s1 := (52, [(0, .ref 10), (1, .int (nI j))], [], wP pre (wN p q op oq tr dp wi fa (nI k) st of F), 0)) (s2 := (34, [(0, .ref 10), (1, .int (nI j))], [], wP pre (wN p q op oq tr dp wi fa (nI k) st of F), 0)) rfl (fun z3 => ?_) (fun z3 => ?_)
      · skip
        refine mm_skip (mm_call_mono _ _) 3 (st' := (57, [(0, .ref 10), (1, .int (nI j))], [.int (nI j), .ref 15], wP pre (wN p q op oq tr dp wi fa (nI k) st of F), 0)) rfl ?_
        refine mm_branch (mm_call_mono _ _) (c := 0 ≤ (nI j)) (s1 := (64, [(0, .ref 10), (1, .int (nI j))], [.ref 15], wP pre (wN p q op oq tr dp wi fa (nI k) st of F), 0)) (s2 := (60, [(0, .ref 10), (1, .int (nI j))], [.ref 15], wP pre (wN p q op oq tr dp wi fa (nI k) st of F), 0)) rfl (fun _ => ?_) (fun h => absurd (nI_pos' (by omega)) h)
        refine mm_skip (mm_call_mono _ _) 1 (st' := (65, [(0, .ref 10), (1, .int (nI j))], [.int (nI j), .ref 15], wP pre (wN p q op oq tr dp wi fa (nI k) st of F), 0)) rfl ?_
        refine mm_need (mm_call_mono _ _) (c := vp_in (nI j) 24) (s' := (66, [(0, .ref 10), (1, .int (nI j))], [.int (st (Int32.toNatClampNeg (nI j)))], wP pre (wN p q op oq tr dp wi fa (nI k) st of F), 0)) rfl (vp_in_nI (show j < 24 by omega) (by decide)) ?_
        rw [nI_clamp (show j < 2 ^ 31 by omega)]
        show mm_W _ _ _ _ _ _ _ (66, [(0, .ref 10), (1, .int (nI j))], [.int (st j)], wP pre (wN p q op oq tr dp wi fa (nI k) st of F), 0)
        rw [(hS j hj).1]
        show mm_W _ _ _ _ _ _ _ (66, [(0, .ref 10), (1, .int (nI j))], [.int (nI (rc (S j).1))], wP pre (wN p q op oq tr dp wi fa (nI k) st of F), 0)
        refine mm_skip (mm_call_mono _ _) 1 (st' := (70, [(0, .ref 10), (1, .int (nI j))], [.int (nI (rc (S j).1))], wP pre (wN p q op oq tr dp wi fa (nI k) st of F), 0)) rfl ?_
        exact mm_ret (mm_call_mono _ _) (c := True) (r := .inl (some (.int (nI (rc (S j).1))))) (M := wP pre (wN p q op oq tr dp wi fa (nI k) st of F)) (u := 0) rfl trivial (by decide) (by have e := (rc_1 (hw j hj).1).1 z3; rw [ckd_in hk hj, e.1, ← e.2] at hQ; exact hQ)
      · skip
        refine mm_skip (mm_call_mono _ _) 3 (st' := (39, [(0, .ref 10), (1, .int (nI j))], [.int (nI j), .ref 15], wP pre (wN p q op oq tr dp wi fa (nI k) st of F), 0)) rfl ?_
        refine mm_branch (mm_call_mono _ _) (c := 0 ≤ (nI j)) (s1 := (46, [(0, .ref 10), (1, .int (nI j))], [.ref 15], wP pre (wN p q op oq tr dp wi fa (nI k) st of F), 0)) (s2 := (42, [(0, .ref 10), (1, .int (nI j))], [.ref 15], wP pre (wN p q op oq tr dp wi fa (nI k) st of F), 0)) rfl (fun _ => ?_) (fun h => absurd (nI_pos' (by omega)) h)
        refine mm_skip (mm_call_mono _ _) 1 (st' := (47, [(0, .ref 10), (1, .int (nI j))], [.int (nI j), .ref 15], wP pre (wN p q op oq tr dp wi fa (nI k) st of F), 0)) rfl ?_
        refine mm_need (mm_call_mono _ _) (c := vp_in (nI j) 24) (s' := (48, [(0, .ref 10), (1, .int (nI j))], [.int (st (Int32.toNatClampNeg (nI j)))], wP pre (wN p q op oq tr dp wi fa (nI k) st of F), 0)) rfl (vp_in_nI (show j < 24 by omega) (by decide)) ?_
        rw [nI_clamp (show j < 2 ^ 31 by omega)]
        show mm_W _ _ _ _ _ _ _ (48, [(0, .ref 10), (1, .int (nI j))], [.int (st j)], wP pre (wN p q op oq tr dp wi fa (nI k) st of F), 0)
        rw [(hS j hj).1]
        show mm_W _ _ _ _ _ _ _ (48, [(0, .ref 10), (1, .int (nI j))], [.int (nI (rc (S j).1))], wP pre (wN p q op oq tr dp wi fa (nI k) st of F), 0)
        refine mm_skip (mm_call_mono _ _) 1 (st' := (49, [(0, .ref 10), (1, .int (nI j))], [.int 2, .int (nI (rc (S j).1))], wP pre (wN p q op oq tr dp wi fa (nI k) st of F), 0)) rfl ?_
        refine mm_branch (mm_call_mono _ _) (c := (nI (rc (S j).1)) = 2) (s1 := (52, [(0, .ref 10), (1, .int (nI j))], [], wP pre (wN p q op oq tr dp wi fa (nI k) st of F), 0)) (s2 := (69, [(0, .ref 10), (1, .int (nI j))], [], wP pre (wN p q op oq tr dp wi fa (nI k) st of F), 0)) rfl (fun z4 => ?_) (fun z4 => ?_)
        · skip
          refine mm_skip (mm_call_mono _ _) 3 (st' := (57, [(0, .ref 10), (1, .int (nI j))], [.int (nI j), .ref 15], wP pre (wN p q op oq tr dp wi fa (nI k) st of F), 0)) rfl ?_
          refine mm_branch (mm_call_mono _ _) (c := 0 ≤ (nI j)) (s1 := (64, [(0, .ref 10), (1, .int (nI j))], [.ref 15], wP pre (wN p q op oq tr dp wi fa (nI k) st of F), 0)) (s2 := (60, [(0, .ref 10), (1, .int (nI j))], [.ref 15], wP pre (wN p q op oq tr dp wi fa (nI k) st of F), 0)) rfl (fun _ => ?_) (fun h => absurd (nI_pos' (by omega)) h)
          refine mm_skip (mm_call_mono _ _) 1 (st' := (65, [(0, .ref 10), (1, .int (nI j))], [.int (nI j), .ref 15], wP pre (wN p q op oq tr dp wi fa (nI k) st of F), 0)) rfl ?_
          refine mm_need (mm_call_mono _ _) (c := vp_in (nI j) 24) (s' := (66, [(0, .ref 10), (1, .int (nI j))], [.int (st (Int32.toNatClampNeg (nI j)))], wP pre (wN p q op oq tr dp wi fa (nI k) st of F), 0)) rfl (vp_in_nI (show j < 24 by omega) (by decide)) ?_
          rw [nI_clamp (show j < 2 ^ 31 by omega)]
          show mm_W _ _ _ _ _ _ _ (66, [(0, .ref 10), (1, .int (nI j))], [.int (st j)], wP pre (wN p q op oq tr dp wi fa (nI k) st of F), 0)
          rw [(hS j hj).1]
          show mm_W _ _ _ _ _ _ _ (66, [(0, .ref 10), (1, .int (nI j))], [.int (nI (rc (S j).1))], wP pre (wN p q op oq tr dp wi fa (nI k) st of F), 0)
          refine mm_skip (mm_call_mono _ _) 1 (st' := (70, [(0, .ref 10), (1, .int (nI j))], [.int (nI (rc (S j).1))], wP pre (wN p q op oq tr dp wi fa (nI k) st of F), 0)) rfl ?_
          exact mm_ret (mm_call_mono _ _) (c := True) (r := .inl (some (.int (nI (rc (S j).1))))) (M := wP pre (wN p q op oq tr dp wi fa (nI k) st of F)) (u := 0) rfl trivial (by decide) (by have e := (rc_1 (hw j hj).1).2.1 z4; rw [ckd_in hk hj, e, show (2 : Int32) = nI (rc (S j).1) from z4.symm] at hQ; exact hQ)
        · skip
          refine mm_skip (mm_call_mono _ _) 1 (st' := (70, [(0, .ref 10), (1, .int (nI j))], [.int 0], wP pre (wN p q op oq tr dp wi fa (nI k) st of F), 0)) rfl ?_
          exact mm_ret (mm_call_mono _ _) (c := True) (r := .inl (some (.int 0))) (M := wP pre (wN p q op oq tr dp wi fa (nI k) st of F)) (u := 0) rfl trivial (by decide) (by rw [ckd_in hk hj, (rc_1 (hw j hj).1).2.2 z3 z4] at hQ; exact hQ)
    · skip
      refine mm_skip (mm_call_mono _ _) 2 (st' := (70, [(0, .ref 10), (1, .int x)], [.int (-1)], wP pre (wN p q op oq tr dp wi fa (nI k) st of F), 0)) rfl ?_
      exact mm_ret (mm_call_mono _ _) (c := True) (r := .inl (some (.int (-1)))) (M := wP pre (wN p q op oq tr dp wi fa (nI k) st of F)) (u := 0) rfl trivial (by decide) (by rw [ckd_out (Or.inr (Int32.not_lt.mp z2))] at hQ; exact hQ)

set_option maxRecDepth 100000 in
theorem rk_isPoint {d : Nat} {pre : mm_pre} {p q op oq : Nat → Int64} {tr dp wi fa : Int32} {st of : Nat → Int32} {F : mm_M} {S : Nat → stp} {k : Nat} {x : Int32} {Q : mm_R → mm_M → Prop} (hk : k ≤ 24) (hS : ∀ i, i < k → stR st of S i) (hw : ∀ i, i < k → wf S i) (hQ : Q (.inl (some (.int (bz (ckd S k x = 0))))) (wP pre (wN p q op oq tr dp wi fa (nI k) st of F))) : mm_call mm_Tb (d + 2) 97 [.ref 10, .int x] (wP pre (wN p q op oq tr dp wi fa (nI k) st of F)) Q := by
  refine mm_in mt_97 (Nat.le_of_ble_eq_true rfl) ?_
  show mm_W _ _ _ _ _ _ _ (0, [(0, .ref 10), (1, .int x)], [], wP pre (wN p q op oq tr dp wi fa (nI k) st of F), 0)
  refine mm_skip (mm_call_mono _ _) 2 (st' := (2, [(0, .ref 10), (1, .int x)], [.int x, .ref 10], wP pre (wN p q op oq tr dp wi fa (nI k) st of F), 0)) rfl ?_
  refine mm_inv (mm_call_mono _ _) (j := 98) (a := [.ref 10, .int x]) (M := wP pre (wN p q op oq tr dp wi fa (nI k) st of F)) (u := 0) rfl (by decide) (rk_kind hk hS hw ?_)
  show mm_W _ _ _ _ _ _ _ (5, [(0, .ref 10), (1, .int x)], [.int (ckd S k x)], wP pre (wN p q op oq tr dp wi fa (nI k) st of F), 0)
  refine mm_branch (mm_call_mono _ _) (c := (ckd S k x) = 0) (s1 := (8, [(0, .ref 10), (1, .int x)], [], wP pre (wN p q op oq tr dp wi fa (nI k) st of F), 0)) (s2 := (12, [(0, .ref 10), (1, .int x)], [], wP pre (wN p q op oq tr dp wi fa (nI k) st of F), 0)) rfl (fun z1 => ?_) (fun z1 => ?_)
  · skip
    refine mm_skip (mm_call_mono _ _) 2 (st' := (13, [(0, .ref 10), (1, .int x)], [.int 1], wP pre (wN p q op oq tr dp wi fa (nI k) st of F), 0)) rfl ?_
    exact mm_ret (mm_call_mono _ _) (c := mm_z 1) (r := .inl (some (.int 1))) (M := wP pre (wN p q op oq tr dp wi fa (nI k) st of F)) (u := 0) rfl (by unfold mm_z; decide) (by decide) (by rw [bz_t z1] at hQ; exact hQ)
  · skip
    refine mm_skip (mm_call_mono _ _) 1 (st' := (13, [(0, .ref 10), (1, .int x)], [.int 0], wP pre (wN p q op oq tr dp wi fa (nI k) st of F), 0)) rfl ?_
    exact mm_ret (mm_call_mono _ _) (c := mm_z 0) (r := .inl (some (.int 0))) (M := wP pre (wN p q op oq tr dp wi fa (nI k) st of F)) (u := 0) rfl (by unfold mm_z; decide) (by decide) (by rw [bz_f z1] at hQ; exact hQ)

set_option maxRecDepth 100000 in
theorem rk_isFrac {d : Nat} {pre : mm_pre} {p q op oq : Nat → Int64} {tr dp wi fa ob : Int32} {st of : Nat → Int32} {F : mm_M} {p0 q0 : Int32} {Q : mm_R → mm_M → Prop} (hQ : Q (.inl (some (.int (bz (inp p0 q0))))) (wP pre (wN p q op oq tr dp wi fa ob st of F))) : mm_call mm_Tb (d + 1) 100 [.int p0, .int q0] (wP pre (wN p q op oq tr dp wi fa ob st of F)) Q := by
  refine mm_in mt_100 (Nat.le_of_ble_eq_true rfl) ?_
  show mm_W _ _ _ _ _ _ _ (0, [(0, .int p0), (1, .int q0)], [], wP pre (wN p q op oq tr dp wi fa ob st of F), 0)
  refine mm_skip (mm_call_mono _ _) 2 (st' := (4, [(0, .int p0), (1, .int q0)], [.int (-10000), .int p0], wP pre (wN p q op oq tr dp wi fa ob st of F), 0)) rfl ?_
  refine mm_branch (mm_call_mono _ _) (c := p0 < (-10000)) (s1 := (30, [(0, .int p0), (1, .int q0)], [], wP pre (wN p q op oq tr dp wi fa ob st of F), 0)) (s2 := (7, [(0, .int p0), (1, .int q0)], [], wP pre (wN p q op oq tr dp wi fa ob st of F), 0)) rfl (fun z1 => ?_) (fun z1 => ?_)
  · skip
    refine mm_skip (mm_call_mono _ _) 1 (st' := (31, [(0, .int p0), (1, .int q0)], [.int 0], wP pre (wN p q op oq tr dp wi fa ob st of F), 0)) rfl ?_
    exact mm_ret (mm_call_mono _ _) (c := mm_z 0) (r := .inl (some (.int 0))) (M := wP pre (wN p q op oq tr dp wi fa ob st of F)) (u := 0) rfl (by unfold mm_z; decide) (by decide) (by rw [bz_f (fun z => z.1 z1)] at hQ; exact hQ)
  · skip
    refine mm_skip (mm_call_mono _ _) 2 (st' := (11, [(0, .int p0), (1, .int q0)], [.int 10000, .int p0], wP pre (wN p q op oq tr dp wi fa ob st of F), 0)) rfl ?_
    refine mm_branch (mm_call_mono _ _) (c := 10000 < p0) (s1 := (30, [(0, .int p0), (1, .int q0)], [], wP pre (wN p q op oq tr dp wi fa ob st of F), 0)) (s2 := (14, [(0, .int p0), (1, .int q0)], [], wP pre (wN p q op oq tr dp wi fa ob st of F), 0)) rfl (fun z2 => ?_) (fun z2 => ?_)
    · skip
      refine mm_skip (mm_call_mono _ _) 1 (st' := (31, [(0, .int p0), (1, .int q0)], [.int 0], wP pre (wN p q op oq tr dp wi fa ob st of F), 0)) rfl ?_
      exact mm_ret (mm_call_mono _ _) (c := mm_z 0) (r := .inl (some (.int 0))) (M := wP pre (wN p q op oq tr dp wi fa ob st of F)) (u := 0) rfl (by unfold mm_z; decide) (by decide) (by rw [bz_f (fun z => z.2.1 z2)] at hQ; exact hQ)
    · skip
      refine mm_skip (mm_call_mono _ _) 2 (st' := (16, [(0, .int p0), (1, .int q0)], [.int 1, .int q0], wP pre (wN p q op oq tr dp wi fa ob st of F), 0)) rfl ?_
      refine mm_branch (mm_call_mono _ _) (c := q0 < 1) (s1 := (30, [(0, .int p0), (1, .int q0)], [], wP pre (wN p q op oq tr dp wi fa ob st of F), 0)) (s2 := (19, [(0, .int p0), (1, .int q0)], [], wP pre (wN p q op oq tr dp wi fa ob st of F), 0)) rfl (fun z3 => ?_) (fun z3 => ?_)
      · skip
        refine mm_skip (mm_call_mono _ _) 1 (st' := (31, [(0, .int p0), (1, .int q0)], [.int 0], wP pre (wN p q op oq tr dp wi fa ob st of F), 0)) rfl ?_
        exact mm_ret (mm_call_mono _ _) (c := mm_z 0) (r := .inl (some (.int 0))) (M := wP pre (wN p q op oq tr dp wi fa ob st of F)) (u := 0) rfl (by unfold mm_z; decide) (by decide) (by rw [bz_f (fun z => z.2.2.1 z3)] at hQ; exact hQ)
      · skip
        refine mm_skip (mm_call_mono _ _) 2 (st' := (23, [(0, .int p0), (1, .int q0)], [.int 10000, .int q0], wP pre (wN p q op oq tr dp wi fa ob st of F), 0)) rfl ?_
        refine mm_branch (mm_call_mono _ _) (c := 10000 < q0) (s1 := (30, [(0, .int p0), (1, .int q0)], [], wP pre (wN p q op oq tr dp wi fa ob st of F), 0)) (s2 := (26, [(0, .int p0), (1, .int q0)], [], wP pre (wN p q op oq tr dp wi fa ob st of F), 0)) rfl (fun z4 => ?_) (fun z4 => ?_)
        · skip
          refine mm_skip (mm_call_mono _ _) 1 (st' := (31, [(0, .int p0), (1, .int q0)], [.int 0], wP pre (wN p q op oq tr dp wi fa ob st of F), 0)) rfl ?_
          exact mm_ret (mm_call_mono _ _) (c := mm_z 0) (r := .inl (some (.int 0))) (M := wP pre (wN p q op oq tr dp wi fa ob st of F)) (u := 0) rfl (by unfold mm_z; decide) (by decide) (by rw [bz_f (fun z => z.2.2.2 z4)] at hQ; exact hQ)
        · skip
          refine mm_skip (mm_call_mono _ _) 2 (st' := (31, [(0, .int p0), (1, .int q0)], [.int 1], wP pre (wN p q op oq tr dp wi fa ob st of F), 0)) rfl ?_
          exact mm_ret (mm_call_mono _ _) (c := mm_z 1) (r := .inl (some (.int 1))) (M := wP pre (wN p q op oq tr dp wi fa ob st of F)) (u := 0) rfl (by unfold mm_z; decide) (by decide) (by rw [bz_t ⟨z1, z2, z3, z4⟩] at hQ; exact hQ)

set_option maxRecDepth 100000 in
theorem rk_thrown {d : Nat} {pre : mm_pre} {p q op oq : Nat → Int64} {tr dp wi fa ob : Int32} {st of : Nat → Int32} {F : mm_M} {Q : mm_R → mm_M → Prop} (hQ : Q (.inl (some (.int tr))) (wP pre (wN p q op oq tr dp wi fa ob st of F))) : mm_call mm_Tb (d + 1) 47 [.ref 10] (wP pre (wN p q op oq tr dp wi fa ob st of F)) Q := by
  refine mm_in mt_47 (Nat.le_of_ble_eq_true rfl) ?_
  show mm_W _ _ _ _ _ _ _ (0, [(0, .ref 10)], [], wP pre (wN p q op oq tr dp wi fa ob st of F), 0)
  refine mm_skip (mm_call_mono _ _) 2 (st' := (4, [(0, .ref 10)], [.int tr], wP pre (wN p q op oq tr dp wi fa ob st of F), 0)) rfl ?_
  exact mm_ret (mm_call_mono _ _) (c := True) (r := .inl (some (.int tr))) (M := wP pre (wN p q op oq tr dp wi fa ob st of F)) (u := 0) rfl trivial (by decide) hQ

theorem sk_fr {st of : Nat → Int32} {S : Nat → stp} {k : Nat} {a b c e : Int32} (h1 : inp a b) (h2 : inp c e) : stR (upd st k 0) (o4 of k a b c e) (ext S k (0, 0, 0, 0, 0, 0, qf a b, qf c e)) k := by
  unfold stR
  rw [ext_k, pk_us, o4_0, o4_1, o4_2, o4_3]
  exact ⟨rfl, fun _ => ⟨h1, h2, rfl, rfl⟩, fun q => absurd (show 0 = 1 ∨ 0 = 3 from q) (by decide), fun q => absurd (show 0 = 2 from q) (by decide), fun q => absurd (show 0 = 4 ∨ 0 = 6 from q) (by decide), fun q => absurd (show 0 = 5 from q) (by decide)⟩
theorem sk_ln {st of : Nat → Int32} {S : Nat → stp} {k t i j : Nat} {c e : Int32} (ht : t = 1 ∨ t = 3) : stR (upd st k (nI t)) (o4 of k (nI i) (nI j) c e) (ext S k (t, i, j, 0, 0, 0, z0, z0)) k := by
  unfold stR
  rw [ext_k, pk_us, o4_0, o4_1, o4_2, o4_3]
  refine ⟨?_, fun (q : t = 0) => ?_, fun _ => ⟨rfl, rfl⟩, fun (q : t = 2) => ?_, fun (q : t = 4 ∨ t = 6) => ?_, fun (q : t = 5) => ?_⟩
  · show nI t = nI (rc t)
    rcases ht with rfl | rfl <;> rfl
  all_goals omega
theorem sk_ci {st of : Nat → Int32} {S : Nat → stp} {k i j l : Nat} {e : Int32} : stR (upd st k 2) (o4 of k (nI i) (nI j) (nI l) e) (ext S k (2, i, j, l, 0, 0, z0, z0)) k := by
  unfold stR
  rw [ext_k, pk_us, o4_0, o4_1, o4_2, o4_3]
  exact ⟨rfl, fun q => absurd (show 2 = 0 from q) (by decide), fun q => absurd (show 2 = 1 ∨ 2 = 3 from q) (by decide), fun _ => ⟨rfl, rfl, rfl⟩, fun q => absurd (show 2 = 4 ∨ 2 = 6 from q) (by decide), fun q => absurd (show 2 = 5 from q) (by decide)⟩
theorem sk_46 {st of : Nat → Int32} {S : Nat → stp} {k t i j w c1 c2 : Nat} {e : Int32} (ht : t = 4 ∨ t = 6) : stR (upd st k 4) (o4 of k (nI i) (nI j) (nI w) e) (ext S k (t, i, j, w, c1, c2, z0, z0)) k := by
  unfold stR
  rw [ext_k, pk_us, o4_0, o4_1, o4_2, o4_3]
  refine ⟨?_, fun (q : t = 0) => ?_, fun (q : t = 1 ∨ t = 3) => ?_, fun (q : t = 2) => ?_, fun _ => ⟨rfl, rfl, rfl⟩, fun (q : t = 5) => ?_⟩
  · show nI 4 = nI (rc t)
    rcases ht with rfl | rfl <;> rfl
  all_goals omega
theorem sk_5 {st of : Nat → Int32} {S : Nat → stp} {k i j w c1 : Nat} {x y e : Int32} (h : (x = nI i ∧ y = nI j) ∨ (x = nI j ∧ y = nI i)) : stR (upd st k 4) (o4 of k x y (nI w) e) (ext S k (5, i, j, w, c1, 0, z0, z0)) k := by
  unfold stR
  rw [ext_k, pk_us, o4_0, o4_1, o4_2, o4_3]
  exact ⟨rfl, fun q => absurd (show 5 = 0 from q) (by decide), fun q => absurd (show 5 = 1 ∨ 5 = 3 from q) (by decide), fun q => absurd (show 5 = 2 from q) (by decide), fun q => absurd (show 5 = 4 ∨ 5 = 6 from q) (by decide), fun _ => ⟨h, rfl⟩⟩
theorem ckd_ge {S : Nat → stp} {k : Nat} {x : Int32} (h : ¬ ckd S k x < 1) : ckd S k x = 1 ∨ ckd S k x = 2 := by
  unfold ckd at h ⊢
  by_cases e : x < 0 ∨ nI k ≤ x
  · rw [if_pos e] at h; exact absurd (by decide) h
  · rw [if_neg e] at h ⊢
    unfold kdn at h ⊢
    by_cases e1 : (S x.toNatClampNeg).1 = 1
    · rw [if_pos e1]; exact Or.inl rfl
    · rw [if_neg e1] at h ⊢
      by_cases e2 : (S x.toNatClampNeg).1 = 2
      · rw [if_pos e2]; exact Or.inr rfl
      · rw [if_neg e2] at h; exact absurd (by decide) h
/-- a meeting that may be asked for -/
theorem mst_ok {st of : Nat → Int32} {S : Nat → stp} {k : Nat} {x y w e : Int32} (hk : k ≤ 24) (hw : ∀ i, i < k → wf S i) (h : mok S k x y w) : (4 : Int32) = nI (rc (mst S k x y w).1) ∧ wf (ext S k (mst S k x y w)) k ∧ stR (upd st k 4) (o4 of k x y w e) (ext S k (mst S k x y w)) k := by
  obtain ⟨h1, h2, h3, h4, h5⟩ := h
  have hw1 : w ≤ 1 := by
    by_cases q : ckd S k x = 1 ∧ ckd S k y = 1
    · rw [if_pos q] at h5; exact Int32.le_trans h5 (by decide)
    · rw [if_neg q] at h5; exact h5
  obtain ⟨wh, hwl, rfl⟩ := nI_of2 (M := 1) (n := 1) (by decide) h4 hw1
  unfold mst
  rcases h1 with h1 | h1 <;> rcases h2 with h2 | h2
  · obtain ⟨i, hi, rfl, ci⟩ := ckd_c (c := 1) hk (by decide) h1
    obtain ⟨j, hj, rfl, cj⟩ := ckd_c (c := 1) hk (by decide) h2
    rw [if_pos h1, if_pos h2, cl_n (by omega), cl_n (by omega), mst_w hwl]
    exact ⟨rfl, wf_4 hi hj ci cj, sk_46 (Or.inl rfl)⟩
  · obtain ⟨i, hi, rfl, ci⟩ := ckd_c (c := 1) hk (by decide) h1
    obtain ⟨j, hj, rfl, cj⟩ := ckd_c (c := 2) hk (by decide) h2
    rw [if_pos h1, if_neg (ck12 h2), cl_n (by omega), cl_n (by omega), mst_w hwl]
    exact ⟨rfl, wf_5 hi hj ci cj (hw j hj) hwl, sk_5 (Or.inl ⟨rfl, rfl⟩)⟩
  · obtain ⟨i, hi, rfl, ci⟩ := ckd_c (c := 2) hk (by decide) h1
    obtain ⟨j, hj, rfl, cj⟩ := ckd_c (c := 1) hk (by decide) h2
    rw [if_neg (ck12 h1), if_pos h2, cl_n (by omega), cl_n (by omega), mst_w hwl]
    exact ⟨rfl, wf_5 hj hi cj ci (hw i hi) hwl, sk_5 (Or.inr ⟨rfl, rfl⟩)⟩
  · obtain ⟨i, hi, rfl, ci⟩ := ckd_c (c := 2) hk (by decide) h1
    obtain ⟨j, hj, rfl, cj⟩ := ckd_c (c := 2) hk (by decide) h2
    rw [if_neg (ck12 h1), if_neg (ck12 h2), cl_n (by omega), cl_n (by omega), mst_w hwl]
    exact ⟨rfl, wf_6 hi hj ci cj (hw i hi) (hw j hj) hwl, sk_46 (Or.inr rfl)⟩
set_option maxRecDepth 100000 in
theorem rf_free {d : Nat} {pre : mm_pre} {s : Nat → fr} {op oq : Nat → Int64} {tr wi fa : Int32} {st of : Nat → Int32} {F : mm_M} {S : Nat → stp} {k : Nat} {L : lvR} {v : Nat → o3} {x1 x2 x3 x4 : Int32} {Q : mm_R → mm_M → Prop} (hk : k ≤ 24) (hS : ∀ i, i < k → stR st of S i) (hw : ∀ i, i < k → wf S i) (hR : rI S s k v L) (hQ : ∀ (s1 : Nat → fr) (op1 oq1 : Nat → Int64) (dp1 w1 fa1 ob1 : Int32) (st1 of1 : Nat → Int32) (r : oc) (S1 : Nat → stp) (k1 : Nat), aFree S k x1 x2 x3 x4 = (r, S1, k1) → mI S1 k1 s1 dp1 ob1 st1 of1 → Q (.inl (some (.int (rv r)))) (wP pre (wN (PP s1) (QQ s1) op1 oq1 (nI r.1) dp1 w1 fa1 ob1 st1 of1 F))) : mm_call mm_Tb (d + 17) 101 [.ref 10, .int x1, .int x2, .int x3, .int x4] (wP pre (wN (PP s) (QQ s) op oq tr (nI L.1) wi fa (nI k) st of F)) Q := by
  refine mm_in mt_101 (Nat.le_of_ble_eq_true rfl) ?_
  show mm_W _ _ _ _ _ _ _ (0, [(0, .ref 10), (1, .int x1), (2, .int x2), (3, .int x3), (4, .int x4)], [], wP pre (wN (PP s) (QQ s) op oq tr (nI L.1) wi fa (nI k) st of F), 0)
  refine mm_skip (mm_call_mono _ _) 3 (st' := (3, [(0, .ref 10), (1, .int x1), (2, .int x2), (3, .int x3), (4, .int x4)], [.int x2, .int x1, .ref 10], wP pre (wN (PP s) (QQ s) op oq tr (nI L.1) wi fa (nI k) st of F), 0)) rfl ?_
  refine mm_inv (mm_call_mono _ _) (j := 100) (a := [.int x1, .int x2]) (M := wP pre (wN (PP s) (QQ s) op oq tr (nI L.1) wi fa (nI k) st of F)) (u := 0) rfl (by decide) (rk_isFrac ?_)
  show mm_W _ _ _ _ _ _ _ (6, [(0, .ref 10), (1, .int x1), (2, .int x2), (3, .int x3), (4, .int x4)], [.int (bz (inp x1 x2)), .ref 10], wP pre (wN (PP s) (QQ s) op oq tr (nI L.1) wi fa (nI k) st of F), 0)
  refine mm_branch (mm_call_mono _ _) (c := (bz (inp x1 x2)) = 0) (s1 := (22, [(0, .ref 10), (1, .int x1), (2, .int x2), (3, .int x3), (4, .int x4)], [.ref 10], wP pre (wN (PP s) (QQ s) op oq tr (nI L.1) wi fa (nI k) st of F), 0)) (s2 := (9, [(0, .ref 10), (1, .int x1), (2, .int x2), (3, .int x3), (4, .int x4)], [.ref 10], wP pre (wN (PP s) (QQ s) op oq tr (nI L.1) wi fa (nI k) st of F), 0)) rfl (fun z1 => ?_) (fun z1 => ?_)
  · skip
    refine mm_skip (mm_call_mono _ _) 4 (st' := (30, [(0, .ref 10), (1, .int x1), (2, .int x2), (3, .int x3), (4, .int x4)], [.int 1], wP pre (wN (PP s) (QQ s) op oq 1 (nI L.1) wi fa (nI k) st of F), 0)) rfl ?_
    refine mm_branch (mm_call_mono _ _) (c := (1 : Int32) ≤ 0) (s1 := (37, [(0, .ref 10), (1, .int x1), (2, .int x2), (3, .int x3), (4, .int x4)], [], wP pre (wN (PP s) (QQ s) op oq 1 (nI L.1) wi fa (nI k) st of F), 0)) (s2 := (33, [(0, .ref 10), (1, .int x1), (2, .int x2), (3, .int x3), (4, .int x4)], [], wP pre (wN (PP s) (QQ s) op oq 1 (nI L.1) wi fa (nI k) st of F), 0)) rfl (fun h => absurd h (by decide)) (fun _ => ?_)
    refine mm_skip (mm_call_mono _ _) 2 (st' := (47, [(0, .ref 10), (1, .int x1), (2, .int x2), (3, .int x3), (4, .int x4)], [.int 0], wP pre (wN (PP s) (QQ s) op oq 1 (nI L.1) wi fa (nI k) st of F), 0)) rfl ?_
    exact mm_ret (mm_call_mono _ _) (c := True) (r := .inl (some (.int 0))) (M := wP pre (wN (PP s) (QQ s) op oq 1 (nI L.1) wi fa (nI k) st of F)) (u := 0) rfl trivial (by decide) (hQ _ _ _ _ _ _ _ _ _ (1, 0) S k (if_neg (fun z => bz_0 z1 z.1)) ⟨hk, rfl, hS, hw, v, L, hR, rfl⟩)
  · skip
    refine mm_skip (mm_call_mono _ _) 2 (st' := (12, [(0, .ref 10), (1, .int x1), (2, .int x2), (3, .int x3), (4, .int x4)], [.int x4, .int x3, .ref 10], wP pre (wN (PP s) (QQ s) op oq tr (nI L.1) wi fa (nI k) st of F), 0)) rfl ?_
    refine mm_inv (mm_call_mono _ _) (j := 100) (a := [.int x3, .int x4]) (M := wP pre (wN (PP s) (QQ s) op oq tr (nI L.1) wi fa (nI k) st of F)) (u := 0) rfl (by decide) (rk_isFrac ?_)
    show mm_W _ _ _ _ _ _ _ (15, [(0, .ref 10), (1, .int x1), (2, .int x2), (3, .int x3), (4, .int x4)], [.int (bz (inp x3 x4)), .ref 10], wP pre (wN (PP s) (QQ s) op oq tr (nI L.1) wi fa (nI k) st of F), 0)
    refine mm_branch (mm_call_mono _ _) (c := (bz (inp x3 x4)) = 0) (s1 := (22, [(0, .ref 10), (1, .int x1), (2, .int x2), (3, .int x3), (4, .int x4)], [.ref 10], wP pre (wN (PP s) (QQ s) op oq tr (nI L.1) wi fa (nI k) st of F), 0)) (s2 := (18, [(0, .ref 10), (1, .int x1), (2, .int x2), (3, .int x3), (4, .int x4)], [.ref 10], wP pre (wN (PP s) (QQ s) op oq tr (nI L.1) wi fa (nI k) st of F), 0)) rfl (fun z2 => ?_) (fun z2 => ?_)
    · skip
      refine mm_skip (mm_call_mono _ _) 4 (st' := (30, [(0, .ref 10), (1, .int x1), (2, .int x2), (3, .int x3), (4, .int x4)], [.int 1], wP pre (wN (PP s) (QQ s) op oq 1 (nI L.1) wi fa (nI k) st of F), 0)) rfl ?_
      refine mm_branch (mm_call_mono _ _) (c := (1 : Int32) ≤ 0) (s1 := (37, [(0, .ref 10), (1, .int x1), (2, .int x2), (3, .int x3), (4, .int x4)], [], wP pre (wN (PP s) (QQ s) op oq 1 (nI L.1) wi fa (nI k) st of F), 0)) (s2 := (33, [(0, .ref 10), (1, .int x1), (2, .int x2), (3, .int x3), (4, .int x4)], [], wP pre (wN (PP s) (QQ s) op oq 1 (nI L.1) wi fa (nI k) st of F), 0)) rfl (fun h => absurd h (by decide)) (fun _ => ?_)
      refine mm_skip (mm_call_mono _ _) 2 (st' := (47, [(0, .ref 10), (1, .int x1), (2, .int x2), (3, .int x3), (4, .int x4)], [.int 0], wP pre (wN (PP s) (QQ s) op oq 1 (nI L.1) wi fa (nI k) st of F), 0)) rfl ?_
      exact mm_ret (mm_call_mono _ _) (c := True) (r := .inl (some (.int 0))) (M := wP pre (wN (PP s) (QQ s) op oq 1 (nI L.1) wi fa (nI k) st of F)) (u := 0) rfl trivial (by decide) (hQ _ _ _ _ _ _ _ _ _ (1, 0) S k (if_neg (fun z => bz_0 z2 z.2)) ⟨hk, rfl, hS, hw, v, L, hR, rfl⟩)
    · skip
      refine mm_skip (mm_call_mono _ _) 5 (st' := (30, [(0, .ref 10), (1, .int x1), (2, .int x2), (3, .int x3), (4, .int x4)], [.int 0], wP pre (wN (PP s) (QQ s) op oq 0 (nI L.1) wi fa (nI k) st of F), 0)) rfl ?_
      refine mm_branch (mm_call_mono _ _) (c := (0 : Int32) ≤ 0) (s1 := (37, [(0, .ref 10), (1, .int x1), (2, .int x2), (3, .int x3), (4, .int x4)], [], wP pre (wN (PP s) (QQ s) op oq 0 (nI L.1) wi fa (nI k) st of F), 0)) (s2 := (33, [(0, .ref 10), (1, .int x1), (2, .int x2), (3, .int x3), (4, .int x4)], [], wP pre (wN (PP s) (QQ s) op oq 0 (nI L.1) wi fa (nI k) st of F), 0)) rfl (fun _ => ?_) (fun h => absurd (by decide) h)
      refine mm_skip (mm_call_mono _ _) 6 (st' := (44, [(0, .ref 10), (1, .int x1), (2, .int x2), (3, .int x3), (4, .int x4)], [.int x4, .int x3, .int x2, .int x1, .int 0, .ref 10], wP pre (wN (PP s) (QQ s) op oq 0 (nI L.1) wi fa (nI k) st of F), 0)) rfl ?_
      refine mm_inv (mm_call_mono _ _) (j := 99) (a := [.ref 10, .int 0, .int x1, .int x2, .int x3, .int x4]) (M := wP pre (wN (PP s) (QQ s) op oq 0 (nI L.1) wi fa (nI k) st of F)) (u := 0) rfl (by decide) (rk_fresh (s0 := (0, 0, 0, 0, 0, 0, qf x1 x2, qf x3 x4)) hk hS hw hR rfl (wf_fr (inp_f (bz_1 z1)).2 (inp_f (bz_1 z2)).2) (sk_fr (bz_1 z1) (bz_1 z2)) (fun s1 op1 oq1 dp1 w1 fa1 ob1 st1 of1 r S1 k1 ea hm => ?_))
      show mm_W _ _ _ _ _ _ _ (47, [(0, .ref 10), (1, .int x1), (2, .int x2), (3, .int x3), (4, .int x4)], [.int (rv r)], wP pre (wN (PP s1) (QQ s1) op1 oq1 (nI r.1) dp1 w1 fa1 ob1 st1 of1 F), 0)
      exact mm_ret (mm_call_mono _ _) (c := True) (r := .inl (some (.int (rv r)))) (M := wP pre (wN (PP s1) (QQ s1) op1 oq1 (nI r.1) dp1 w1 fa1 ob1 st1 of1 F)) (u := 0) rfl trivial (by decide) (hQ _ _ _ _ _ _ _ _ _ r S1 k1 ((if_pos ⟨bz_1 z1, bz_1 z2⟩).trans ea) hm)

set_option maxRecDepth 100000 in
theorem rf_line {d : Nat} {pre : mm_pre} {s : Nat → fr} {op oq : Nat → Int64} {tr wi fa : Int32} {st of : Nat → Int32} {F : mm_M} {S : Nat → stp} {k : Nat} {L : lvR} {v : Nat → o3} {x1 x2 : Int32} {Q : mm_R → mm_M → Prop} (hk : k ≤ 24) (hS : ∀ i, i < k → stR st of S i) (hw : ∀ i, i < k → wf S i) (hR : rI S s k v L) (hQ : ∀ (s1 : Nat → fr) (op1 oq1 : Nat → Int64) (dp1 w1 fa1 ob1 : Int32) (st1 of1 : Nat → Int32) (r : oc) (S1 : Nat → stp) (k1 : Nat), aLine 1 S k x1 x2 = (r, S1, k1) → mI S1 k1 s1 dp1 ob1 st1 of1 → Q (.inl (some (.int (rv r)))) (wP pre (wN (PP s1) (QQ s1) op1 oq1 (nI r.1) dp1 w1 fa1 ob1 st1 of1 F))) : mm_call mm_Tb (d + 17) 102 [.ref 10, .int x1, .int x2] (wP pre (wN (PP s) (QQ s) op oq tr (nI L.1) wi fa (nI k) st of F)) Q := by
  refine mm_in mt_102 (Nat.le_of_ble_eq_true rfl) ?_
  show mm_W _ _ _ _ _ _ _ (0, [(0, .ref 10), (1, .int x1), (2, .int x2)], [], wP pre (wN (PP s) (QQ s) op oq tr (nI L.1) wi fa (nI k) st of F), 0)
  refine mm_skip (mm_call_mono _ _) 3 (st' := (3, [(0, .ref 10), (1, .int x1), (2, .int x2)], [.int x1, .ref 10, .ref 10], wP pre (wN (PP s) (QQ s) op oq tr (nI L.1) wi fa (nI k) st of F), 0)) rfl ?_
  refine mm_inv (mm_call_mono _ _) (j := 97) (a := [.ref 10, .int x1]) (M := wP pre (wN (PP s) (QQ s) op oq tr (nI L.1) wi fa (nI k) st of F)) (u := 0) rfl (by decide) (rk_isPoint hk hS hw ?_)
  show mm_W _ _ _ _ _ _ _ (6, [(0, .ref 10), (1, .int x1), (2, .int x2)], [.int (bz (ckd S k x1 = 0)), .ref 10], wP pre (wN (PP s) (QQ s) op oq tr (nI L.1) wi fa (nI k) st of F), 0)
  refine mm_branch (mm_call_mono _ _) (c := (bz (ckd S k x1 = 0)) = 0) (s1 := (21, [(0, .ref 10), (1, .int x1), (2, .int x2)], [.ref 10], wP pre (wN (PP s) (QQ s) op oq tr (nI L.1) wi fa (nI k) st of F), 0)) (s2 := (9, [(0, .ref 10), (1, .int x1), (2, .int x2)], [.ref 10], wP pre (wN (PP s) (QQ s) op oq tr (nI L.1) wi fa (nI k) st of F), 0)) rfl (fun z1 => ?_) (fun z1 => ?_)
  · skip
    refine mm_skip (mm_call_mono _ _) 4 (st' := (29, [(0, .ref 10), (1, .int x1), (2, .int x2)], [.int 1], wP pre (wN (PP s) (QQ s) op oq 1 (nI L.1) wi fa (nI k) st of F), 0)) rfl ?_
    refine mm_branch (mm_call_mono _ _) (c := (1 : Int32) ≤ 0) (s1 := (36, [(0, .ref 10), (1, .int x1), (2, .int x2)], [], wP pre (wN (PP s) (QQ s) op oq 1 (nI L.1) wi fa (nI k) st of F), 0)) (s2 := (32, [(0, .ref 10), (1, .int x1), (2, .int x2)], [], wP pre (wN (PP s) (QQ s) op oq 1 (nI L.1) wi fa (nI k) st of F), 0)) rfl (fun h => absurd h (by decide)) (fun _ => ?_)
    refine mm_skip (mm_call_mono _ _) 2 (st' := (45, [(0, .ref 10), (1, .int x1), (2, .int x2)], [.int 0], wP pre (wN (PP s) (QQ s) op oq 1 (nI L.1) wi fa (nI k) st of F), 0)) rfl ?_
    exact mm_ret (mm_call_mono _ _) (c := True) (r := .inl (some (.int 0))) (M := wP pre (wN (PP s) (QQ s) op oq 1 (nI L.1) wi fa (nI k) st of F)) (u := 0) rfl trivial (by decide) (hQ _ _ _ _ _ _ _ _ _ (1, 0) S k (if_neg (fun z => bz_0 z1 z.1)) ⟨hk, rfl, hS, hw, v, L, hR, rfl⟩)
  · skip
    refine mm_skip (mm_call_mono _ _) 2 (st' := (11, [(0, .ref 10), (1, .int x1), (2, .int x2)], [.int x2, .ref 10, .ref 10], wP pre (wN (PP s) (QQ s) op oq tr (nI L.1) wi fa (nI k) st of F), 0)) rfl ?_
    refine mm_inv (mm_call_mono _ _) (j := 97) (a := [.ref 10, .int x2]) (M := wP pre (wN (PP s) (QQ s) op oq tr (nI L.1) wi fa (nI k) st of F)) (u := 0) rfl (by decide) (rk_isPoint hk hS hw ?_)
    show mm_W _ _ _ _ _ _ _ (14, [(0, .ref 10), (1, .int x1), (2, .int x2)], [.int (bz (ckd S k x2 = 0)), .ref 10], wP pre (wN (PP s) (QQ s) op oq tr (nI L.1) wi fa (nI k) st of F), 0)
    refine mm_branch (mm_call_mono _ _) (c := (bz (ckd S k x2 = 0)) = 0) (s1 := (21, [(0, .ref 10), (1, .int x1), (2, .int x2)], [.ref 10], wP pre (wN (PP s) (QQ s) op oq tr (nI L.1) wi fa (nI k) st of F), 0)) (s2 := (17, [(0, .ref 10), (1, .int x1), (2, .int x2)], [.ref 10], wP pre (wN (PP s) (QQ s) op oq tr (nI L.1) wi fa (nI k) st of F), 0)) rfl (fun z2 => ?_) (fun z2 => ?_)
    · skip
      refine mm_skip (mm_call_mono _ _) 4 (st' := (29, [(0, .ref 10), (1, .int x1), (2, .int x2)], [.int 1], wP pre (wN (PP s) (QQ s) op oq 1 (nI L.1) wi fa (nI k) st of F), 0)) rfl ?_
      refine mm_branch (mm_call_mono _ _) (c := (1 : Int32) ≤ 0) (s1 := (36, [(0, .ref 10), (1, .int x1), (2, .int x2)], [], wP pre (wN (PP s) (QQ s) op oq 1 (nI L.1) wi fa (nI k) st of F), 0)) (s2 := (32, [(0, .ref 10), (1, .int x1), (2, .int x2)], [], wP pre (wN (PP s) (QQ s) op oq 1 (nI L.1) wi fa (nI k) st of F), 0)) rfl (fun h => absurd h (by decide)) (fun _ => ?_)
      refine mm_skip (mm_call_mono _ _) 2 (st' := (45, [(0, .ref 10), (1, .int x1), (2, .int x2)], [.int 0], wP pre (wN (PP s) (QQ s) op oq 1 (nI L.1) wi fa (nI k) st of F), 0)) rfl ?_
      exact mm_ret (mm_call_mono _ _) (c := True) (r := .inl (some (.int 0))) (M := wP pre (wN (PP s) (QQ s) op oq 1 (nI L.1) wi fa (nI k) st of F)) (u := 0) rfl trivial (by decide) (hQ _ _ _ _ _ _ _ _ _ (1, 0) S k (if_neg (fun z => bz_0 z2 z.2)) ⟨hk, rfl, hS, hw, v, L, hR, rfl⟩)
    · skip
      have y1 := bz_1 z1
      have y2 := bz_1 z2
      obtain ⟨i, hi, rfl, pi⟩ := ckd_pt hk (bz_1 z1)
      obtain ⟨j, hj, rfl, pj⟩ := ckd_pt hk (bz_1 z2)
      refine mm_skip (mm_call_mono _ _) 5 (st' := (29, [(0, .ref 10), (1, .int (nI i)), (2, .int (nI j))], [.int 0], wP pre (wN (PP s) (QQ s) op oq 0 (nI L.1) wi fa (nI k) st of F), 0)) rfl ?_
      refine mm_branch (mm_call_mono _ _) (c := (0 : Int32) ≤ 0) (s1 := (36, [(0, .ref 10), (1, .int (nI i)), (2, .int (nI j))], [], wP pre (wN (PP s) (QQ s) op oq 0 (nI L.1) wi fa (nI k) st of F), 0)) (s2 := (32, [(0, .ref 10), (1, .int (nI i)), (2, .int (nI j))], [], wP pre (wN (PP s) (QQ s) op oq 0 (nI L.1) wi fa (nI k) st of F), 0)) rfl (fun _ => ?_) (fun h => absurd (by decide) h)
      refine mm_skip (mm_call_mono _ _) 6 (st' := (42, [(0, .ref 10), (1, .int (nI i)), (2, .int (nI j))], [.int 0, .int 0, .int (nI j), .int (nI i), .int 1, .ref 10], wP pre (wN (PP s) (QQ s) op oq 0 (nI L.1) wi fa (nI k) st of F), 0)) rfl ?_
      refine mm_inv (mm_call_mono _ _) (j := 99) (a := [.ref 10, .int 1, .int (nI i), .int (nI j), .int 0, .int 0]) (M := wP pre (wN (PP s) (QQ s) op oq 0 (nI L.1) wi fa (nI k) st of F)) (u := 0) rfl (by decide) (rk_fresh (s0 := (1, i, j, 0, 0, 0, z0, z0)) hk hS hw hR rfl (wf_ln (by decide) hi hj pi pj) (sk_ln (by decide)) (fun s1 op1 oq1 dp1 w1 fa1 ob1 st1 of1 r S1 k1 ea hm => ?_))
      show mm_W _ _ _ _ _ _ _ (45, [(0, .ref 10), (1, .int (nI i)), (2, .int (nI j))], [.int (rv r)], wP pre (wN (PP s1) (QQ s1) op1 oq1 (nI r.1) dp1 w1 fa1 ob1 st1 of1 F), 0)
      exact mm_ret (mm_call_mono _ _) (c := True) (r := .inl (some (.int (rv r)))) (M := wP pre (wN (PP s1) (QQ s1) op1 oq1 (nI r.1) dp1 w1 fa1 ob1 st1 of1 F)) (u := 0) rfl trivial (by decide) (hQ _ _ _ _ _ _ _ _ _ r S1 k1 ((aLine_t y1 y2 (by omega) (by omega)).trans ea) hm)

set_option maxRecDepth 100000 in
theorem rf_middle {d : Nat} {pre : mm_pre} {s : Nat → fr} {op oq : Nat → Int64} {tr wi fa : Int32} {st of : Nat → Int32} {F : mm_M} {S : Nat → stp} {k : Nat} {L : lvR} {v : Nat → o3} {x1 x2 : Int32} {Q : mm_R → mm_M → Prop} (hk : k ≤ 24) (hS : ∀ i, i < k → stR st of S i) (hw : ∀ i, i < k → wf S i) (hR : rI S s k v L) (hQ : ∀ (s1 : Nat → fr) (op1 oq1 : Nat → Int64) (dp1 w1 fa1 ob1 : Int32) (st1 of1 : Nat → Int32) (r : oc) (S1 : Nat → stp) (k1 : Nat), aLine 3 S k x1 x2 = (r, S1, k1) → mI S1 k1 s1 dp1 ob1 st1 of1 → Q (.inl (some (.int (rv r)))) (wP pre (wN (PP s1) (QQ s1) op1 oq1 (nI r.1) dp1 w1 fa1 ob1 st1 of1 F))) : mm_call mm_Tb (d + 17) 104 [.ref 10, .int x1, .int x2] (wP pre (wN (PP s) (QQ s) op oq tr (nI L.1) wi fa (nI k) st of F)) Q := by
  refine mm_in mt_104 (Nat.le_of_ble_eq_true rfl) ?_
  show mm_W _ _ _ _ _ _ _ (0, [(0, .ref 10), (1, .int x1), (2, .int x2)], [], wP pre (wN (PP s) (QQ s) op oq tr (nI L.1) wi fa (nI k) st of F), 0)
  refine mm_skip (mm_call_mono _ _) 3 (st' := (3, [(0, .ref 10), (1, .int x1), (2, .int x2)], [.int x1, .ref 10, .ref 10], wP pre (wN (PP s) (QQ s) op oq tr (nI L.1) wi fa (nI k) st of F), 0)) rfl ?_
  refine mm_inv (mm_call_mono _ _) (j := 97) (a := [.ref 10, .int x1]) (M := wP pre (wN (PP s) (QQ s) op oq tr (nI L.1) wi fa (nI k) st of F)) (u := 0) rfl (by decide) (rk_isPoint hk hS hw ?_)
  show mm_W _ _ _ _ _ _ _ (6, [(0, .ref 10), (1, .int x1), (2, .int x2)], [.int (bz (ckd S k x1 = 0)), .ref 10], wP pre (wN (PP s) (QQ s) op oq tr (nI L.1) wi fa (nI k) st of F), 0)
  refine mm_branch (mm_call_mono _ _) (c := (bz (ckd S k x1 = 0)) = 0) (s1 := (21, [(0, .ref 10), (1, .int x1), (2, .int x2)], [.ref 10], wP pre (wN (PP s) (QQ s) op oq tr (nI L.1) wi fa (nI k) st of F), 0)) (s2 := (9, [(0, .ref 10), (1, .int x1), (2, .int x2)], [.ref 10], wP pre (wN (PP s) (QQ s) op oq tr (nI L.1) wi fa (nI k) st of F), 0)) rfl (fun z1 => ?_) (fun z1 => ?_)
  · skip
    refine mm_skip (mm_call_mono _ _) 4 (st' := (29, [(0, .ref 10), (1, .int x1), (2, .int x2)], [.int 1], wP pre (wN (PP s) (QQ s) op oq 1 (nI L.1) wi fa (nI k) st of F), 0)) rfl ?_
    refine mm_branch (mm_call_mono _ _) (c := (1 : Int32) ≤ 0) (s1 := (36, [(0, .ref 10), (1, .int x1), (2, .int x2)], [], wP pre (wN (PP s) (QQ s) op oq 1 (nI L.1) wi fa (nI k) st of F), 0)) (s2 := (32, [(0, .ref 10), (1, .int x1), (2, .int x2)], [], wP pre (wN (PP s) (QQ s) op oq 1 (nI L.1) wi fa (nI k) st of F), 0)) rfl (fun h => absurd h (by decide)) (fun _ => ?_)
    refine mm_skip (mm_call_mono _ _) 2 (st' := (45, [(0, .ref 10), (1, .int x1), (2, .int x2)], [.int 0], wP pre (wN (PP s) (QQ s) op oq 1 (nI L.1) wi fa (nI k) st of F), 0)) rfl ?_
    exact mm_ret (mm_call_mono _ _) (c := True) (r := .inl (some (.int 0))) (M := wP pre (wN (PP s) (QQ s) op oq 1 (nI L.1) wi fa (nI k) st of F)) (u := 0) rfl trivial (by decide) (hQ _ _ _ _ _ _ _ _ _ (1, 0) S k (if_neg (fun z => bz_0 z1 z.1)) ⟨hk, rfl, hS, hw, v, L, hR, rfl⟩)
  · skip
    refine mm_skip (mm_call_mono _ _) 2 (st' := (11, [(0, .ref 10), (1, .int x1), (2, .int x2)], [.int x2, .ref 10, .ref 10], wP pre (wN (PP s) (QQ s) op oq tr (nI L.1) wi fa (nI k) st of F), 0)) rfl ?_
    refine mm_inv (mm_call_mono _ _) (j := 97) (a := [.ref 10, .int x2]) (M := wP pre (wN (PP s) (QQ s) op oq tr (nI L.1) wi fa (nI k) st of F)) (u := 0) rfl (by decide) (rk_isPoint hk hS hw ?_)
    show mm_W _ _ _ _ _ _ _ (14, [(0, .ref 10), (1, .int x1), (2, .int x2)], [.int (bz (ckd S k x2 = 0)), .ref 10], wP pre (wN (PP s) (QQ s) op oq tr (nI L.1) wi fa (nI k) st of F), 0)
    refine mm_branch (mm_call_mono _ _) (c := (bz (ckd S k x2 = 0)) = 0) (s1 := (21, [(0, .ref 10), (1, .int x1), (2, .int x2)], [.ref 10], wP pre (wN (PP s) (QQ s) op oq tr (nI L.1) wi fa (nI k) st of F), 0)) (s2 := (17, [(0, .ref 10), (1, .int x1), (2, .int x2)], [.ref 10], wP pre (wN (PP s) (QQ s) op oq tr (nI L.1) wi fa (nI k) st of F), 0)) rfl (fun z2 => ?_) (fun z2 => ?_)
    · skip
      refine mm_skip (mm_call_mono _ _) 4 (st' := (29, [(0, .ref 10), (1, .int x1), (2, .int x2)], [.int 1], wP pre (wN (PP s) (QQ s) op oq 1 (nI L.1) wi fa (nI k) st of F), 0)) rfl ?_
      refine mm_branch (mm_call_mono _ _) (c := (1 : Int32) ≤ 0) (s1 := (36, [(0, .ref 10), (1, .int x1), (2, .int x2)], [], wP pre (wN (PP s) (QQ s) op oq 1 (nI L.1) wi fa (nI k) st of F), 0)) (s2 := (32, [(0, .ref 10), (1, .int x1), (2, .int x2)], [], wP pre (wN (PP s) (QQ s) op oq 1 (nI L.1) wi fa (nI k) st of F), 0)) rfl (fun h => absurd h (by decide)) (fun _ => ?_)
      refine mm_skip (mm_call_mono _ _) 2 (st' := (45, [(0, .ref 10), (1, .int x1), (2, .int x2)], [.int 0], wP pre (wN (PP s) (QQ s) op oq 1 (nI L.1) wi fa (nI k) st of F), 0)) rfl ?_
      exact mm_ret (mm_call_mono _ _) (c := True) (r := .inl (some (.int 0))) (M := wP pre (wN (PP s) (QQ s) op oq 1 (nI L.1) wi fa (nI k) st of F)) (u := 0) rfl trivial (by decide) (hQ _ _ _ _ _ _ _ _ _ (1, 0) S k (if_neg (fun z => bz_0 z2 z.2)) ⟨hk, rfl, hS, hw, v, L, hR, rfl⟩)
    · skip
      have y1 := bz_1 z1
      have y2 := bz_1 z2
      obtain ⟨i, hi, rfl, pi⟩ := ckd_pt hk (bz_1 z1)
      obtain ⟨j, hj, rfl, pj⟩ := ckd_pt hk (bz_1 z2)
      refine mm_skip (mm_call_mono _ _) 5 (st' := (29, [(0, .ref 10), (1, .int (nI i)), (2, .int (nI j))], [.int 0], wP pre (wN (PP s) (QQ s) op oq 0 (nI L.1) wi fa (nI k) st of F), 0)) rfl ?_
      refine mm_branch (mm_call_mono _ _) (c := (0 : Int32) ≤ 0) (s1 := (36, [(0, .ref 10), (1, .int (nI i)), (2, .int (nI j))], [], wP pre (wN (PP s) (QQ s) op oq 0 (nI L.1) wi fa (nI k) st of F), 0)) (s2 := (32, [(0, .ref 10), (1, .int (nI i)), (2, .int (nI j))], [], wP pre (wN (PP s) (QQ s) op oq 0 (nI L.1) wi fa (nI k) st of F), 0)) rfl (fun _ => ?_) (fun h => absurd (by decide) h)
      refine mm_skip (mm_call_mono _ _) 6 (st' := (42, [(0, .ref 10), (1, .int (nI i)), (2, .int (nI j))], [.int 0, .int 0, .int (nI j), .int (nI i), .int 3, .ref 10], wP pre (wN (PP s) (QQ s) op oq 0 (nI L.1) wi fa (nI k) st of F), 0)) rfl ?_
      refine mm_inv (mm_call_mono _ _) (j := 99) (a := [.ref 10, .int 3, .int (nI i), .int (nI j), .int 0, .int 0]) (M := wP pre (wN (PP s) (QQ s) op oq 0 (nI L.1) wi fa (nI k) st of F)) (u := 0) rfl (by decide) (rk_fresh (s0 := (3, i, j, 0, 0, 0, z0, z0)) hk hS hw hR rfl (wf_ln (by decide) hi hj pi pj) (sk_ln (by decide)) (fun s1 op1 oq1 dp1 w1 fa1 ob1 st1 of1 r S1 k1 ea hm => ?_))
      show mm_W _ _ _ _ _ _ _ (45, [(0, .ref 10), (1, .int (nI i)), (2, .int (nI j))], [.int (rv r)], wP pre (wN (PP s1) (QQ s1) op1 oq1 (nI r.1) dp1 w1 fa1 ob1 st1 of1 F), 0)
      exact mm_ret (mm_call_mono _ _) (c := True) (r := .inl (some (.int (rv r)))) (M := wP pre (wN (PP s1) (QQ s1) op1 oq1 (nI r.1) dp1 w1 fa1 ob1 st1 of1 F)) (u := 0) rfl trivial (by decide) (hQ _ _ _ _ _ _ _ _ _ r S1 k1 ((aLine_t y1 y2 (by omega) (by omega)).trans ea) hm)

set_option maxRecDepth 100000 in
theorem rf_circle {d : Nat} {pre : mm_pre} {s : Nat → fr} {op oq : Nat → Int64} {tr wi fa : Int32} {st of : Nat → Int32} {F : mm_M} {S : Nat → stp} {k : Nat} {L : lvR} {v : Nat → o3} {x1 x2 x3 : Int32} {Q : mm_R → mm_M → Prop} (hk : k ≤ 24) (hS : ∀ i, i < k → stR st of S i) (hw : ∀ i, i < k → wf S i) (hR : rI S s k v L) (hQ : ∀ (s1 : Nat → fr) (op1 oq1 : Nat → Int64) (dp1 w1 fa1 ob1 : Int32) (st1 of1 : Nat → Int32) (r : oc) (S1 : Nat → stp) (k1 : Nat), aCirc S k x1 x2 x3 = (r, S1, k1) → mI S1 k1 s1 dp1 ob1 st1 of1 → Q (.inl (some (.int (rv r)))) (wP pre (wN (PP s1) (QQ s1) op1 oq1 (nI r.1) dp1 w1 fa1 ob1 st1 of1 F))) : mm_call mm_Tb (d + 17) 103 [.ref 10, .int x1, .int x2, .int x3] (wP pre (wN (PP s) (QQ s) op oq tr (nI L.1) wi fa (nI k) st of F)) Q := by
  refine mm_in mt_103 (Nat.le_of_ble_eq_true rfl) ?_
  show mm_W _ _ _ _ _ _ _ (0, [(0, .ref 10), (1, .int x1), (2, .int x2), (3, .int x3)], [], wP pre (wN (PP s) (QQ s) op oq tr (nI L.1) wi fa (nI k) st of F), 0)
  refine mm_skip (mm_call_mono _ _) 3 (st' := (3, [(0, .ref 10), (1, .int x1), (2, .int x2), (3, .int x3)], [.int x1, .ref 10, .ref 10], wP pre (wN (PP s) (QQ s) op oq tr (nI L.1) wi fa (nI k) st of F), 0)) rfl ?_
  refine mm_inv (mm_call_mono _ _) (j := 97) (a := [.ref 10, .int x1]) (M := wP pre (wN (PP s) (QQ s) op oq tr (nI L.1) wi fa (nI k) st of F)) (u := 0) rfl (by decide) (rk_isPoint hk hS hw ?_)
  show mm_W _ _ _ _ _ _ _ (6, [(0, .ref 10), (1, .int x1), (2, .int x2), (3, .int x3)], [.int (bz (ckd S k x1 = 0)), .ref 10], wP pre (wN (PP s) (QQ s) op oq tr (nI L.1) wi fa (nI k) st of F), 0)
  refine mm_branch (mm_call_mono _ _) (c := (bz (ckd S k x1 = 0)) = 0) (s1 := (29, [(0, .ref 10), (1, .int x1), (2, .int x2), (3, .int x3)], [.ref 10], wP pre (wN (PP s) (QQ s) op oq tr (nI L.1) wi fa (nI k) st of F), 0)) (s2 := (9, [(0, .ref 10), (1, .int x1), (2, .int x2), (3, .int x3)], [.ref 10], wP pre (wN (PP s) (QQ s) op oq tr (nI L.1) wi fa (nI k) st of F), 0)) rfl (fun z1 => ?_) (fun z1 => ?_)
  · skip
    refine mm_skip (mm_call_mono _ _) 4 (st' := (37, [(0, .ref 10), (1, .int x1), (2, .int x2), (3, .int x3)], [.int 1], wP pre (wN (PP s) (QQ s) op oq 1 (nI L.1) wi fa (nI k) st of F), 0)) rfl ?_
    refine mm_branch (mm_call_mono _ _) (c := (1 : Int32) ≤ 0) (s1 := (44, [(0, .ref 10), (1, .int x1), (2, .int x2), (3, .int x3)], [], wP pre (wN (PP s) (QQ s) op oq 1 (nI L.1) wi fa (nI k) st of F), 0)) (s2 := (40, [(0, .ref 10), (1, .int x1), (2, .int x2), (3, .int x3)], [], wP pre (wN (PP s) (QQ s) op oq 1 (nI L.1) wi fa (nI k) st of F), 0)) rfl (fun h => absurd h (by decide)) (fun _ => ?_)
    refine mm_skip (mm_call_mono _ _) 2 (st' := (53, [(0, .ref 10), (1, .int x1), (2, .int x2), (3, .int x3)], [.int 0], wP pre (wN (PP s) (QQ s) op oq 1 (nI L.1) wi fa (nI k) st of F), 0)) rfl ?_
    exact mm_ret (mm_call_mono _ _) (c := True) (r := .inl (some (.int 0))) (M := wP pre (wN (PP s) (QQ s) op oq 1 (nI L.1) wi fa (nI k) st of F)) (u := 0) rfl trivial (by decide) (hQ _ _ _ _ _ _ _ _ _ (1, 0) S k (if_neg (fun z => bz_0 z1 z.1)) ⟨hk, rfl, hS, hw, v, L, hR, rfl⟩)
  · skip
    refine mm_skip (mm_call_mono _ _) 2 (st' := (11, [(0, .ref 10), (1, .int x1), (2, .int x2), (3, .int x3)], [.int x2, .ref 10, .ref 10], wP pre (wN (PP s) (QQ s) op oq tr (nI L.1) wi fa (nI k) st of F), 0)) rfl ?_
    refine mm_inv (mm_call_mono _ _) (j := 97) (a := [.ref 10, .int x2]) (M := wP pre (wN (PP s) (QQ s) op oq tr (nI L.1) wi fa (nI k) st of F)) (u := 0) rfl (by decide) (rk_isPoint hk hS hw ?_)
    show mm_W _ _ _ _ _ _ _ (14, [(0, .ref 10), (1, .int x1), (2, .int x2), (3, .int x3)], [.int (bz (ckd S k x2 = 0)), .ref 10], wP pre (wN (PP s) (QQ s) op oq tr (nI L.1) wi fa (nI k) st of F), 0)
    refine mm_branch (mm_call_mono _ _) (c := (bz (ckd S k x2 = 0)) = 0) (s1 := (29, [(0, .ref 10), (1, .int x1), (2, .int x2), (3, .int x3)], [.ref 10], wP pre (wN (PP s) (QQ s) op oq tr (nI L.1) wi fa (nI k) st of F), 0)) (s2 := (17, [(0, .ref 10), (1, .int x1), (2, .int x2), (3, .int x3)], [.ref 10], wP pre (wN (PP s) (QQ s) op oq tr (nI L.1) wi fa (nI k) st of F), 0)) rfl (fun z2 => ?_) (fun z2 => ?_)
    · skip
      refine mm_skip (mm_call_mono _ _) 4 (st' := (37, [(0, .ref 10), (1, .int x1), (2, .int x2), (3, .int x3)], [.int 1], wP pre (wN (PP s) (QQ s) op oq 1 (nI L.1) wi fa (nI k) st of F), 0)) rfl ?_
      refine mm_branch (mm_call_mono _ _) (c := (1 : Int32) ≤ 0) (s1 := (44, [(0, .ref 10), (1, .int x1), (2, .int x2), (3, .int x3)], [], wP pre (wN (PP s) (QQ s) op oq 1 (nI L.1) wi fa (nI k) st of F), 0)) (s2 := (40, [(0, .ref 10), (1, .int x1), (2, .int x2), (3, .int x3)], [], wP pre (wN (PP s) (QQ s) op oq 1 (nI L.1) wi fa (nI k) st of F), 0)) rfl (fun h => absurd h (by decide)) (fun _ => ?_)
      refine mm_skip (mm_call_mono _ _) 2 (st' := (53, [(0, .ref 10), (1, .int x1), (2, .int x2), (3, .int x3)], [.int 0], wP pre (wN (PP s) (QQ s) op oq 1 (nI L.1) wi fa (nI k) st of F), 0)) rfl ?_
      exact mm_ret (mm_call_mono _ _) (c := True) (r := .inl (some (.int 0))) (M := wP pre (wN (PP s) (QQ s) op oq 1 (nI L.1) wi fa (nI k) st of F)) (u := 0) rfl trivial (by decide) (hQ _ _ _ _ _ _ _ _ _ (1, 0) S k (if_neg (fun z => bz_0 z2 z.2.1)) ⟨hk, rfl, hS, hw, v, L, hR, rfl⟩)
    · skip
      refine mm_skip (mm_call_mono _ _) 2 (st' := (19, [(0, .ref 10), (1, .int x1), (2, .int x2), (3, .int x3)], [.int x3, .ref 10, .ref 10], wP pre (wN (PP s) (QQ s) op oq tr (nI L.1) wi fa (nI k) st of F), 0)) rfl ?_
      refine mm_inv (mm_call_mono _ _) (j := 97) (a := [.ref 10, .int x3]) (M := wP pre (wN (PP s) (QQ s) op oq tr (nI L.1) wi fa (nI k) st of F)) (u := 0) rfl (by decide) (rk_isPoint hk hS hw ?_)
      show mm_W _ _ _ _ _ _ _ (22, [(0, .ref 10), (1, .int x1), (2, .int x2), (3, .int x3)], [.int (bz (ckd S k x3 = 0)), .ref 10], wP pre (wN (PP s) (QQ s) op oq tr (nI L.1) wi fa (nI k) st of F), 0)
      refine mm_branch (mm_call_mono _ _) (c := (bz (ckd S k x3 = 0)) = 0) (s1 := (29, [(0, .ref 10), (1, .int x1), (2, .int x2), (3, .int x3)], [.ref 10], wP pre (wN (PP s) (QQ s) op oq tr (nI L.1) wi fa (nI k) st of F), 0)) (s2 := (25, [(0, .ref 10), (1, .int x1), (2, .int x2), (3, .int x3)], [.ref 10], wP pre (wN (PP s) (QQ s) op oq tr (nI L.1) wi fa (nI k) st of F), 0)) rfl (fun z3 => ?_) (fun z3 => ?_)
      · skip
        refine mm_skip (mm_call_mono _ _) 4 (st' := (37, [(0, .ref 10), (1, .int x1), (2, .int x2), (3, .int x3)], [.int 1], wP pre (wN (PP s) (QQ s) op oq 1 (nI L.1) wi fa (nI k) st of F), 0)) rfl ?_
        refine mm_branch (mm_call_mono _ _) (c := (1 : Int32) ≤ 0) (s1 := (44, [(0, .ref 10), (1, .int x1), (2, .int x2), (3, .int x3)], [], wP pre (wN (PP s) (QQ s) op oq 1 (nI L.1) wi fa (nI k) st of F), 0)) (s2 := (40, [(0, .ref 10), (1, .int x1), (2, .int x2), (3, .int x3)], [], wP pre (wN (PP s) (QQ s) op oq 1 (nI L.1) wi fa (nI k) st of F), 0)) rfl (fun h => absurd h (by decide)) (fun _ => ?_)
        refine mm_skip (mm_call_mono _ _) 2 (st' := (53, [(0, .ref 10), (1, .int x1), (2, .int x2), (3, .int x3)], [.int 0], wP pre (wN (PP s) (QQ s) op oq 1 (nI L.1) wi fa (nI k) st of F), 0)) rfl ?_
        exact mm_ret (mm_call_mono _ _) (c := True) (r := .inl (some (.int 0))) (M := wP pre (wN (PP s) (QQ s) op oq 1 (nI L.1) wi fa (nI k) st of F)) (u := 0) rfl trivial (by decide) (hQ _ _ _ _ _ _ _ _ _ (1, 0) S k (if_neg (fun z => bz_0 z3 z.2.2)) ⟨hk, rfl, hS, hw, v, L, hR, rfl⟩)
      · skip
        have y1 := bz_1 z1
        have y2 := bz_1 z2
        have y3 := bz_1 z3
        obtain ⟨i, hi, rfl, pi⟩ := ckd_pt hk (bz_1 z1)
        obtain ⟨j, hj, rfl, pj⟩ := ckd_pt hk (bz_1 z2)
        obtain ⟨l, hl, rfl, pl⟩ := ckd_pt hk (bz_1 z3)
        refine mm_skip (mm_call_mono _ _) 5 (st' := (37, [(0, .ref 10), (1, .int (nI i)), (2, .int (nI j)), (3, .int (nI l))], [.int 0], wP pre (wN (PP s) (QQ s) op oq 0 (nI L.1) wi fa (nI k) st of F), 0)) rfl ?_
        refine mm_branch (mm_call_mono _ _) (c := (0 : Int32) ≤ 0) (s1 := (44, [(0, .ref 10), (1, .int (nI i)), (2, .int (nI j)), (3, .int (nI l))], [], wP pre (wN (PP s) (QQ s) op oq 0 (nI L.1) wi fa (nI k) st of F), 0)) (s2 := (40, [(0, .ref 10), (1, .int (nI i)), (2, .int (nI j)), (3, .int (nI l))], [], wP pre (wN (PP s) (QQ s) op oq 0 (nI L.1) wi fa (nI k) st of F), 0)) rfl (fun _ => ?_) (fun h => absurd (by decide) h)
        refine mm_skip (mm_call_mono _ _) 6 (st' := (50, [(0, .ref 10), (1, .int (nI i)), (2, .int (nI j)), (3, .int (nI l))], [.int 0, .int (nI l), .int (nI j), .int (nI i), .int 2, .ref 10], wP pre (wN (PP s) (QQ s) op oq 0 (nI L.1) wi fa (nI k) st of F), 0)) rfl ?_
        refine mm_inv (mm_call_mono _ _) (j := 99) (a := [.ref 10, .int 2, .int (nI i), .int (nI j), .int (nI l), .int 0]) (M := wP pre (wN (PP s) (QQ s) op oq 0 (nI L.1) wi fa (nI k) st of F)) (u := 0) rfl (by decide) (rk_fresh (s0 := (2, i, j, l, 0, 0, z0, z0)) hk hS hw hR rfl (wf_ci hi hj hl pi pj pl) sk_ci (fun s1 op1 oq1 dp1 w1 fa1 ob1 st1 of1 r S1 k1 ea hm => ?_))
        show mm_W _ _ _ _ _ _ _ (53, [(0, .ref 10), (1, .int (nI i)), (2, .int (nI j)), (3, .int (nI l))], [.int (rv r)], wP pre (wN (PP s1) (QQ s1) op1 oq1 (nI r.1) dp1 w1 fa1 ob1 st1 of1 F), 0)
        exact mm_ret (mm_call_mono _ _) (c := True) (r := .inl (some (.int (rv r)))) (M := wP pre (wN (PP s1) (QQ s1) op1 oq1 (nI r.1) dp1 w1 fa1 ob1 st1 of1 F)) (u := 0) rfl trivial (by decide) (hQ _ _ _ _ _ _ _ _ _ r S1 k1 ((aCirc_t y1 y2 y3 (by omega) (by omega) (by omega)).trans ea) hm)

set_option maxRecDepth 100000 in
theorem rf_meet {d : Nat} {pre : mm_pre} {s : Nat → fr} {op oq : Nat → Int64} {tr wi fa : Int32} {st of : Nat → Int32} {F : mm_M} {S : Nat → stp} {k : Nat} {L : lvR} {v : Nat → o3} {x1 x2 x3 : Int32} {Q : mm_R → mm_M → Prop} (hk : k ≤ 24) (hS : ∀ i, i < k → stR st of S i) (hw : ∀ i, i < k → wf S i) (hR : rI S s k v L) (hQ : ∀ (s1 : Nat → fr) (op1 oq1 : Nat → Int64) (dp1 w1 fa1 ob1 : Int32) (st1 of1 : Nat → Int32) (r : oc) (S1 : Nat → stp) (k1 : Nat), aMeet S k x1 x2 x3 = (r, S1, k1) → mI S1 k1 s1 dp1 ob1 st1 of1 → Q (.inl (some (.int (rv r)))) (wP pre (wN (PP s1) (QQ s1) op1 oq1 (nI r.1) dp1 w1 fa1 ob1 st1 of1 F))) : mm_call mm_Tb (d + 17) 105 [.ref 10, .int x1, .int x2, .int x3] (wP pre (wN (PP s) (QQ s) op oq tr (nI L.1) wi fa (nI k) st of F)) Q := by
  refine mm_in mt_105 (Nat.le_of_ble_eq_true rfl) ?_
  show mm_W _ _ _ _ _ _ _ (0, [(0, .ref 10), (1, .int x1), (2, .int x2), (3, .int x3)], [], wP pre (wN (PP s) (QQ s) op oq tr (nI L.1) wi fa (nI k) st of F), 0)
  refine mm_skip (mm_call_mono _ _) 2 (st' := (2, [(0, .ref 10), (1, .int x1), (2, .int x2), (3, .int x3)], [.int x1, .ref 10], wP pre (wN (PP s) (QQ s) op oq tr (nI L.1) wi fa (nI k) st of F), 0)) rfl ?_
  refine mm_inv (mm_call_mono _ _) (j := 98) (a := [.ref 10, .int x1]) (M := wP pre (wN (PP s) (QQ s) op oq tr (nI L.1) wi fa (nI k) st of F)) (u := 0) rfl (by decide) (rk_kind hk hS hw ?_)
  show mm_W _ _ _ _ _ _ _ (5, [(0, .ref 10), (1, .int x1), (2, .int x2), (3, .int x3)], [.int (ckd S k x1)], wP pre (wN (PP s) (QQ s) op oq tr (nI L.1) wi fa (nI k) st of F), 0)
  refine mm_skip (mm_call_mono _ _) 1 (st' := (6, [(0, .ref 10), (1, .int x1), (2, .int x2), (3, .int x3)], [.int 1, .int (ckd S k x1)], wP pre (wN (PP s) (QQ s) op oq tr (nI L.1) wi fa (nI k) st of F), 0)) rfl ?_
  refine mm_branch (mm_call_mono _ _) (c := (ckd S k x1) = 1) (s1 := (9, [(0, .ref 10), (1, .int x1), (2, .int x2), (3, .int x3)], [], wP pre (wN (PP s) (QQ s) op oq tr (nI L.1) wi fa (nI k) st of F), 0)) (s2 := (22, [(0, .ref 10), (1, .int x1), (2, .int x2), (3, .int x3)], [], wP pre (wN (PP s) (QQ s) op oq tr (nI L.1) wi fa (nI k) st of F), 0)) rfl (fun y1 => ?_) (fun y1 => ?_)
  · skip
    refine mm_skip (mm_call_mono _ _) 2 (st' := (11, [(0, .ref 10), (1, .int x1), (2, .int x2), (3, .int x3)], [.int x2, .ref 10], wP pre (wN (PP s) (QQ s) op oq tr (nI L.1) wi fa (nI k) st of F), 0)) rfl ?_
    refine mm_inv (mm_call_mono _ _) (j := 98) (a := [.ref 10, .int x2]) (M := wP pre (wN (PP s) (QQ s) op oq tr (nI L.1) wi fa (nI k) st of F)) (u := 0) rfl (by decide) (rk_kind hk hS hw ?_)
    show mm_W _ _ _ _ _ _ _ (14, [(0, .ref 10), (1, .int x1), (2, .int x2), (3, .int x3)], [.int (ckd S k x2)], wP pre (wN (PP s) (QQ s) op oq tr (nI L.1) wi fa (nI k) st of F), 0)
    refine mm_skip (mm_call_mono _ _) 1 (st' := (15, [(0, .ref 10), (1, .int x1), (2, .int x2), (3, .int x3)], [.int 1, .int (ckd S k x2)], wP pre (wN (PP s) (QQ s) op oq tr (nI L.1) wi fa (nI k) st of F), 0)) rfl ?_
    refine mm_branch (mm_call_mono _ _) (c := (ckd S k x2) = 1) (s1 := (18, [(0, .ref 10), (1, .int x1), (2, .int x2), (3, .int x3)], [], wP pre (wN (PP s) (QQ s) op oq tr (nI L.1) wi fa (nI k) st of F), 0)) (s2 := (22, [(0, .ref 10), (1, .int x1), (2, .int x2), (3, .int x3)], [], wP pre (wN (PP s) (QQ s) op oq tr (nI L.1) wi fa (nI k) st of F), 0)) rfl (fun y2 => ?_) (fun y2 => ?_)
    · skip
      refine mm_skip (mm_call_mono _ _) 6 (st' := (28, [(4, .int 0), (0, .ref 10), (1, .int x1), (2, .int x2), (3, .int x3)], [.int x1, .ref 10, .ref 10], wP pre (wN (PP s) (QQ s) op oq tr (nI L.1) wi fa (nI k) st of F), 0)) rfl ?_
      refine mm_inv (mm_call_mono _ _) (j := 98) (a := [.ref 10, .int x1]) (M := wP pre (wN (PP s) (QQ s) op oq tr (nI L.1) wi fa (nI k) st of F)) (u := 0) rfl (by decide) (rk_kind hk hS hw ?_)
      show mm_W _ _ _ _ _ _ _ (31, [(4, .int 0), (0, .ref 10), (1, .int x1), (2, .int x2), (3, .int x3)], [.int (ckd S k x1), .ref 10], wP pre (wN (PP s) (QQ s) op oq tr (nI L.1) wi fa (nI k) st of F), 0)
      refine mm_skip (mm_call_mono _ _) 1 (st' := (32, [(4, .int 0), (0, .ref 10), (1, .int x1), (2, .int x2), (3, .int x3)], [.int 1, .int (ckd S k x1), .ref 10], wP pre (wN (PP s) (QQ s) op oq tr (nI L.1) wi fa (nI k) st of F), 0)) rfl ?_
      refine mm_branch (mm_call_mono _ _) (c := (ckd S k x1) < 1) (s1 := (59, [(4, .int 0), (0, .ref 10), (1, .int x1), (2, .int x2), (3, .int x3)], [.ref 10], wP pre (wN (PP s) (QQ s) op oq tr (nI L.1) wi fa (nI k) st of F), 0)) (s2 := (35, [(4, .int 0), (0, .ref 10), (1, .int x1), (2, .int x2), (3, .int x3)], [.ref 10], wP pre (wN (PP s) (QQ s) op oq tr (nI L.1) wi fa (nI k) st of F), 0)) rfl (fun w1 => ?_) (fun w1 => ?_)
      · skip
        refine mm_skip (mm_call_mono _ _) 5 (st' := (71, [(4, .int 0), (0, .ref 10), (1, .int x1), (2, .int x2), (3, .int x3)], [.int 1], wP pre (wN (PP s) (QQ s) op oq 1 (nI L.1) wi fa (nI k) st of F), 0)) rfl ?_
        refine mm_branch (mm_call_mono _ _) (c := (1 : Int32) ≤ 0) (s1 := (78, [(4, .int 0), (0, .ref 10), (1, .int x1), (2, .int x2), (3, .int x3)], [], wP pre (wN (PP s) (QQ s) op oq 1 (nI L.1) wi fa (nI k) st of F), 0)) (s2 := (74, [(4, .int 0), (0, .ref 10), (1, .int x1), (2, .int x2), (3, .int x3)], [], wP pre (wN (PP s) (QQ s) op oq 1 (nI L.1) wi fa (nI k) st of F), 0)) rfl (fun h => absurd h (by decide)) (fun _ => ?_)
        refine mm_skip (mm_call_mono _ _) 2 (st' := (87, [(4, .int 0), (0, .ref 10), (1, .int x1), (2, .int x2), (3, .int x3)], [.int 0], wP pre (wN (PP s) (QQ s) op oq 1 (nI L.1) wi fa (nI k) st of F), 0)) rfl ?_
        exact mm_ret (mm_call_mono _ _) (c := True) (r := .inl (some (.int 0))) (M := wP pre (wN (PP s) (QQ s) op oq 1 (nI L.1) wi fa (nI k) st of F)) (u := 0) rfl trivial (by decide) (hQ _ _ _ _ _ _ _ _ _ (1, 0) S k (mokN (fun z => z.1.elim (fun e => absurd w1 (by rw [e]; decide)) (fun e => absurd w1 (by rw [e]; decide)))) ⟨hk, rfl, hS, hw, v, L, hR, rfl⟩)
      · skip
        refine mm_skip (mm_call_mono _ _) 2 (st' := (37, [(4, .int 0), (0, .ref 10), (1, .int x1), (2, .int x2), (3, .int x3)], [.int x2, .ref 10, .ref 10], wP pre (wN (PP s) (QQ s) op oq tr (nI L.1) wi fa (nI k) st of F), 0)) rfl ?_
        refine mm_inv (mm_call_mono _ _) (j := 98) (a := [.ref 10, .int x2]) (M := wP pre (wN (PP s) (QQ s) op oq tr (nI L.1) wi fa (nI k) st of F)) (u := 0) rfl (by decide) (rk_kind hk hS hw ?_)
        show mm_W _ _ _ _ _ _ _ (40, [(4, .int 0), (0, .ref 10), (1, .int x1), (2, .int x2), (3, .int x3)], [.int (ckd S k x2), .ref 10], wP pre (wN (PP s) (QQ s) op oq tr (nI L.1) wi fa (nI k) st of F), 0)
        refine mm_skip (mm_call_mono _ _) 1 (st' := (41, [(4, .int 0), (0, .ref 10), (1, .int x1), (2, .int x2), (3, .int x3)], [.int 1, .int (ckd S k x2), .ref 10], wP pre (wN (PP s) (QQ s) op oq tr (nI L.1) wi fa (nI k) st of F), 0)) rfl ?_
        refine mm_branch (mm_call_mono _ _) (c := (ckd S k x2) < 1) (s1 := (59, [(4, .int 0), (0, .ref 10), (1, .int x1), (2, .int x2), (3, .int x3)], [.ref 10], wP pre (wN (PP s) (QQ s) op oq tr (nI L.1) wi fa (nI k) st of F), 0)) (s2 := (44, [(4, .int 0), (0, .ref 10), (1, .int x1), (2, .int x2), (3, .int x3)], [.ref 10], wP pre (wN (PP s) (QQ s) op oq tr (nI L.1) wi fa (nI k) st of F), 0)) rfl (fun w2 => ?_) (fun w2 => ?_)
        · skip
          refine mm_skip (mm_call_mono _ _) 5 (st' := (71, [(4, .int 0), (0, .ref 10), (1, .int x1), (2, .int x2), (3, .int x3)], [.int 1], wP pre (wN (PP s) (QQ s) op oq 1 (nI L.1) wi fa (nI k) st of F), 0)) rfl ?_
          refine mm_branch (mm_call_mono _ _) (c := (1 : Int32) ≤ 0) (s1 := (78, [(4, .int 0), (0, .ref 10), (1, .int x1), (2, .int x2), (3, .int x3)], [], wP pre (wN (PP s) (QQ s) op oq 1 (nI L.1) wi fa (nI k) st of F), 0)) (s2 := (74, [(4, .int 0), (0, .ref 10), (1, .int x1), (2, .int x2), (3, .int x3)], [], wP pre (wN (PP s) (QQ s) op oq 1 (nI L.1) wi fa (nI k) st of F), 0)) rfl (fun h => absurd h (by decide)) (fun _ => ?_)
          refine mm_skip (mm_call_mono _ _) 2 (st' := (87, [(4, .int 0), (0, .ref 10), (1, .int x1), (2, .int x2), (3, .int x3)], [.int 0], wP pre (wN (PP s) (QQ s) op oq 1 (nI L.1) wi fa (nI k) st of F), 0)) rfl ?_
          exact mm_ret (mm_call_mono _ _) (c := True) (r := .inl (some (.int 0))) (M := wP pre (wN (PP s) (QQ s) op oq 1 (nI L.1) wi fa (nI k) st of F)) (u := 0) rfl trivial (by decide) (hQ _ _ _ _ _ _ _ _ _ (1, 0) S k (mokN (fun z => z.2.1.elim (fun e => absurd w2 (by rw [e]; decide)) (fun e => absurd w2 (by rw [e]; decide)))) ⟨hk, rfl, hS, hw, v, L, hR, rfl⟩)
        · skip
          refine mm_skip (mm_call_mono _ _) 2 (st' := (46, [(4, .int 0), (0, .ref 10), (1, .int x1), (2, .int x2), (3, .int x3)], [.int x2, .int x1, .ref 10], wP pre (wN (PP s) (QQ s) op oq tr (nI L.1) wi fa (nI k) st of F), 0)) rfl ?_
          refine mm_branch (mm_call_mono _ _) (c := x1 = x2) (s1 := (59, [(4, .int 0), (0, .ref 10), (1, .int x1), (2, .int x2), (3, .int x3)], [.ref 10], wP pre (wN (PP s) (QQ s) op oq tr (nI L.1) wi fa (nI k) st of F), 0)) (s2 := (49, [(4, .int 0), (0, .ref 10), (1, .int x1), (2, .int x2), (3, .int x3)], [.ref 10], wP pre (wN (PP s) (QQ s) op oq tr (nI L.1) wi fa (nI k) st of F), 0)) rfl (fun ze => ?_) (fun ze => ?_)
          · skip
            refine mm_skip (mm_call_mono _ _) 5 (st' := (71, [(4, .int 0), (0, .ref 10), (1, .int x1), (2, .int x2), (3, .int x3)], [.int 1], wP pre (wN (PP s) (QQ s) op oq 1 (nI L.1) wi fa (nI k) st of F), 0)) rfl ?_
            refine mm_branch (mm_call_mono _ _) (c := (1 : Int32) ≤ 0) (s1 := (78, [(4, .int 0), (0, .ref 10), (1, .int x1), (2, .int x2), (3, .int x3)], [], wP pre (wN (PP s) (QQ s) op oq 1 (nI L.1) wi fa (nI k) st of F), 0)) (s2 := (74, [(4, .int 0), (0, .ref 10), (1, .int x1), (2, .int x2), (3, .int x3)], [], wP pre (wN (PP s) (QQ s) op oq 1 (nI L.1) wi fa (nI k) st of F), 0)) rfl (fun h => absurd h (by decide)) (fun _ => ?_)
            refine mm_skip (mm_call_mono _ _) 2 (st' := (87, [(4, .int 0), (0, .ref 10), (1, .int x1), (2, .int x2), (3, .int x3)], [.int 0], wP pre (wN (PP s) (QQ s) op oq 1 (nI L.1) wi fa (nI k) st of F), 0)) rfl ?_
            exact mm_ret (mm_call_mono _ _) (c := True) (r := .inl (some (.int 0))) (M := wP pre (wN (PP s) (QQ s) op oq 1 (nI L.1) wi fa (nI k) st of F)) (u := 0) rfl trivial (by decide) (hQ _ _ _ _ _ _ _ _ _ (1, 0) S k (mokN (fun z => z.2.2.1 ze)) ⟨hk, rfl, hS, hw, v, L, hR, rfl⟩)
          · skip
            refine mm_skip (mm_call_mono _ _) 1 (st' := (50, [(4, .int 0), (0, .ref 10), (1, .int x1), (2, .int x2), (3, .int x3)], [.int x3, .ref 10], wP pre (wN (PP s) (QQ s) op oq tr (nI L.1) wi fa (nI k) st of F), 0)) rfl ?_
            refine mm_branch (mm_call_mono _ _) (c := x3 < 0) (s1 := (59, [(4, .int 0), (0, .ref 10), (1, .int x1), (2, .int x2), (3, .int x3)], [.ref 10], wP pre (wN (PP s) (QQ s) op oq tr (nI L.1) wi fa (nI k) st of F), 0)) (s2 := (53, [(4, .int 0), (0, .ref 10), (1, .int x1), (2, .int x2), (3, .int x3)], [.ref 10], wP pre (wN (PP s) (QQ s) op oq tr (nI L.1) wi fa (nI k) st of F), 0)) rfl (fun zn => ?_) (fun zn => ?_)
            · skip
              refine mm_skip (mm_call_mono _ _) 5 (st' := (71, [(4, .int 0), (0, .ref 10), (1, .int x1), (2, .int x2), (3, .int x3)], [.int 1], wP pre (wN (PP s) (QQ s) op oq 1 (nI L.1) wi fa (nI k) st of F), 0)) rfl ?_
              refine mm_branch (mm_call_mono _ _) (c := (1 : Int32) ≤ 0) (s1 := (78, [(4, .int 0), (0, .ref 10), (1, .int x1), (2, .int x2), (3, .int x3)], [], wP pre (wN (PP s) (QQ s) op oq 1 (nI L.1) wi fa (nI k) st of F), 0)) (s2 := (74, [(4, .int 0), (0, .ref 10), (1, .int x1), (2, .int x2), (3, .int x3)], [], wP pre (wN (PP s) (QQ s) op oq 1 (nI L.1) wi fa (nI k) st of F), 0)) rfl (fun h => absurd h (by decide)) (fun _ => ?_)
              refine mm_skip (mm_call_mono _ _) 2 (st' := (87, [(4, .int 0), (0, .ref 10), (1, .int x1), (2, .int x2), (3, .int x3)], [.int 0], wP pre (wN (PP s) (QQ s) op oq 1 (nI L.1) wi fa (nI k) st of F), 0)) rfl ?_
              exact mm_ret (mm_call_mono _ _) (c := True) (r := .inl (some (.int 0))) (M := wP pre (wN (PP s) (QQ s) op oq 1 (nI L.1) wi fa (nI k) st of F)) (u := 0) rfl trivial (by decide) (hQ _ _ _ _ _ _ _ _ _ (1, 0) S k (mokN (fun z => z.2.2.2.1 zn)) ⟨hk, rfl, hS, hw, v, L, hR, rfl⟩)
            · skip
              refine mm_skip (mm_call_mono _ _) 2 (st' := (56, [(4, .int 0), (0, .ref 10), (1, .int x1), (2, .int x2), (3, .int x3)], [.int 0, .int x3, .ref 10], wP pre (wN (PP s) (QQ s) op oq tr (nI L.1) wi fa (nI k) st of F), 0)) rfl ?_
              refine mm_branch (mm_call_mono _ _) (c := x3 ≤ 0) (s1 := (63, [(4, .int 0), (0, .ref 10), (1, .int x1), (2, .int x2), (3, .int x3)], [.ref 10], wP pre (wN (PP s) (QQ s) op oq tr (nI L.1) wi fa (nI k) st of F), 0)) (s2 := (59, [(4, .int 0), (0, .ref 10), (1, .int x1), (2, .int x2), (3, .int x3)], [.ref 10], wP pre (wN (PP s) (QQ s) op oq tr (nI L.1) wi fa (nI k) st of F), 0)) rfl (fun zl => ?_) (fun zl => ?_)
              · have hmk : mok S k x1 x2 x3 := ⟨ckd_ge w1, ckd_ge w2, ze, zn, by rw [if_pos ⟨y1, y2⟩]; exact zl⟩
                refine mm_skip (mm_call_mono _ _) 4 (st' := (71, [(4, .int 0), (0, .ref 10), (1, .int x1), (2, .int x2), (3, .int x3)], [.int 0], wP pre (wN (PP s) (QQ s) op oq 0 (nI L.1) wi fa (nI k) st of F), 0)) rfl ?_
                refine mm_branch (mm_call_mono _ _) (c := (0 : Int32) ≤ 0) (s1 := (78, [(4, .int 0), (0, .ref 10), (1, .int x1), (2, .int x2), (3, .int x3)], [], wP pre (wN (PP s) (QQ s) op oq 0 (nI L.1) wi fa (nI k) st of F), 0)) (s2 := (74, [(4, .int 0), (0, .ref 10), (1, .int x1), (2, .int x2), (3, .int x3)], [], wP pre (wN (PP s) (QQ s) op oq 0 (nI L.1) wi fa (nI k) st of F), 0)) rfl (fun _ => ?_) (fun h => absurd (by decide) h)
                refine mm_skip (mm_call_mono _ _) 6 (st' := (84, [(4, .int 0), (0, .ref 10), (1, .int x1), (2, .int x2), (3, .int x3)], [.int 0, .int x3, .int x2, .int x1, .int 4, .ref 10], wP pre (wN (PP s) (QQ s) op oq 0 (nI L.1) wi fa (nI k) st of F), 0)) rfl ?_
                refine mm_inv (mm_call_mono _ _) (j := 99) (a := [.ref 10, .int 4, .int x1, .int x2, .int x3, .int 0]) (M := wP pre (wN (PP s) (QQ s) op oq 0 (nI L.1) wi fa (nI k) st of F)) (u := 0) rfl (by decide) (rk_fresh (s0 := mst S k x1 x2 x3) hk hS hw hR (mst_ok (st := st) (of := of) (e := 0) hk hw hmk).1 (mst_ok (st := st) (of := of) (e := 0) hk hw hmk).2.1 (mst_ok hk hw hmk).2.2 (fun s1 op1 oq1 dp1 w1_ fa1 ob1 st1 of1 r S1 k1 ea hm => ?_))
                show mm_W _ _ _ _ _ _ _ (87, [(4, .int 0), (0, .ref 10), (1, .int x1), (2, .int x2), (3, .int x3)], [.int (rv r)], wP pre (wN (PP s1) (QQ s1) op1 oq1 (nI r.1) dp1 w1_ fa1 ob1 st1 of1 F), 0)
                exact mm_ret (mm_call_mono _ _) (c := True) (r := .inl (some (.int (rv r)))) (M := wP pre (wN (PP s1) (QQ s1) op1 oq1 (nI r.1) dp1 w1_ fa1 ob1 st1 of1 F)) (u := 0) rfl trivial (by decide) (hQ _ _ _ _ _ _ _ _ _ r S1 k1 ((if_pos hmk).trans ea) hm)
              · skip
                refine mm_skip (mm_call_mono _ _) 5 (st' := (71, [(4, .int 0), (0, .ref 10), (1, .int x1), (2, .int x2), (3, .int x3)], [.int 1], wP pre (wN (PP s) (QQ s) op oq 1 (nI L.1) wi fa (nI k) st of F), 0)) rfl ?_
                refine mm_branch (mm_call_mono _ _) (c := (1 : Int32) ≤ 0) (s1 := (78, [(4, .int 0), (0, .ref 10), (1, .int x1), (2, .int x2), (3, .int x3)], [], wP pre (wN (PP s) (QQ s) op oq 1 (nI L.1) wi fa (nI k) st of F), 0)) (s2 := (74, [(4, .int 0), (0, .ref 10), (1, .int x1), (2, .int x2), (3, .int x3)], [], wP pre (wN (PP s) (QQ s) op oq 1 (nI L.1) wi fa (nI k) st of F), 0)) rfl (fun h => absurd h (by decide)) (fun _ => ?_)
                refine mm_skip (mm_call_mono _ _) 2 (st' := (87, [(4, .int 0), (0, .ref 10), (1, .int x1), (2, .int x2), (3, .int x3)], [.int 0], wP pre (wN (PP s) (QQ s) op oq 1 (nI L.1) wi fa (nI k) st of F), 0)) rfl ?_
                exact mm_ret (mm_call_mono _ _) (c := True) (r := .inl (some (.int 0))) (M := wP pre (wN (PP s) (QQ s) op oq 1 (nI L.1) wi fa (nI k) st of F)) (u := 0) rfl trivial (by decide) (hQ _ _ _ _ _ _ _ _ _ (1, 0) S k (mokN (fun z => zl (by have h := z.2.2.2.2; rw [if_pos ⟨y1, y2⟩] at h; exact h))) ⟨hk, rfl, hS, hw, v, L, hR, rfl⟩)
    · skip
      refine mm_skip (mm_call_mono _ _) 5 (st' := (28, [(4, .int 1), (0, .ref 10), (1, .int x1), (2, .int x2), (3, .int x3)], [.int x1, .ref 10, .ref 10], wP pre (wN (PP s) (QQ s) op oq tr (nI L.1) wi fa (nI k) st of F), 0)) rfl ?_
      refine mm_inv (mm_call_mono _ _) (j := 98) (a := [.ref 10, .int x1]) (M := wP pre (wN (PP s) (QQ s) op oq tr (nI L.1) wi fa (nI k) st of F)) (u := 0) rfl (by decide) (rk_kind hk hS hw ?_)
      show mm_W _ _ _ _ _ _ _ (31, [(4, .int 1), (0, .ref 10), (1, .int x1), (2, .int x2), (3, .int x3)], [.int (ckd S k x1), .ref 10], wP pre (wN (PP s) (QQ s) op oq tr (nI L.1) wi fa (nI k) st of F), 0)
      refine mm_skip (mm_call_mono _ _) 1 (st' := (32, [(4, .int 1), (0, .ref 10), (1, .int x1), (2, .int x2), (3, .int x3)], [.int 1, .int (ckd S k x1), .ref 10], wP pre (wN (PP s) (QQ s) op oq tr (nI L.1) wi fa (nI k) st of F), 0)) rfl ?_
      refine mm_branch (mm_call_mono _ _) (c := (ckd S k x1) < 1) (s1 := (59, [(4, .int 1), (0, .ref 10), (1, .int x1), (2, .int x2), (3, .int x3)], [.ref 10], wP pre (wN (PP s) (QQ s) op oq tr (nI L.1) wi fa (nI k) st of F), 0)) (s2 := (35, [(4, .int 1), (0, .ref 10), (1, .int x1), (2, .int x2), (3, .int x3)], [.ref 10], wP pre (wN (PP s) (QQ s) op oq tr (nI L.1) wi fa (nI k) st of F), 0)) rfl (fun w1 => ?_) (fun w1 => ?_)
      · skip
        refine mm_skip (mm_call_mono _ _) 5 (st' := (71, [(4, .int 1), (0, .ref 10), (1, .int x1), (2, .int x2), (3, .int x3)], [.int 1], wP pre (wN (PP s) (QQ s) op oq 1 (nI L.1) wi fa (nI k) st of F), 0)) rfl ?_
        refine mm_branch (mm_call_mono _ _) (c := (1 : Int32) ≤ 0) (s1 := (78, [(4, .int 1), (0, .ref 10), (1, .int x1), (2, .int x2), (3, .int x3)], [], wP pre (wN (PP s) (QQ s) op oq 1 (nI L.1) wi fa (nI k) st of F), 0)) (s2 := (74, [(4, .int 1), (0, .ref 10), (1, .int x1), (2, .int x2), (3, .int x3)], [], wP pre (wN (PP s) (QQ s) op oq 1 (nI L.1) wi fa (nI k) st of F), 0)) rfl (fun h => absurd h (by decide)) (fun _ => ?_)
        refine mm_skip (mm_call_mono _ _) 2 (st' := (87, [(4, .int 1), (0, .ref 10), (1, .int x1), (2, .int x2), (3, .int x3)], [.int 0], wP pre (wN (PP s) (QQ s) op oq 1 (nI L.1) wi fa (nI k) st of F), 0)) rfl ?_
        exact mm_ret (mm_call_mono _ _) (c := True) (r := .inl (some (.int 0))) (M := wP pre (wN (PP s) (QQ s) op oq 1 (nI L.1) wi fa (nI k) st of F)) (u := 0) rfl trivial (by decide) (hQ _ _ _ _ _ _ _ _ _ (1, 0) S k (mokN (fun z => z.1.elim (fun e => absurd w1 (by rw [e]; decide)) (fun e => absurd w1 (by rw [e]; decide)))) ⟨hk, rfl, hS, hw, v, L, hR, rfl⟩)
      · skip
        refine mm_skip (mm_call_mono _ _) 2 (st' := (37, [(4, .int 1), (0, .ref 10), (1, .int x1), (2, .int x2), (3, .int x3)], [.int x2, .ref 10, .ref 10], wP pre (wN (PP s) (QQ s) op oq tr (nI L.1) wi fa (nI k) st of F), 0)) rfl ?_
        refine mm_inv (mm_call_mono _ _) (j := 98) (a := [.ref 10, .int x2]) (M := wP pre (wN (PP s) (QQ s) op oq tr (nI L.1) wi fa (nI k) st of F)) (u := 0) rfl (by decide) (rk_kind hk hS hw ?_)
        show mm_W _ _ _ _ _ _ _ (40, [(4, .int 1), (0, .ref 10), (1, .int x1), (2, .int x2), (3, .int x3)], [.int (ckd S k x2), .ref 10], wP pre (wN (PP s) (QQ s) op oq tr (nI L.1) wi fa (nI k) st of F), 0)
        refine mm_skip (mm_call_mono _ _) 1 (st' := (41, [(4, .int 1), (0, .ref 10), (1, .int x1), (2, .int x2), (3, .int x3)], [.int 1, .int (ckd S k x2), .ref 10], wP pre (wN (PP s) (QQ s) op oq tr (nI L.1) wi fa (nI k) st of F), 0)) rfl ?_
        refine mm_branch (mm_call_mono _ _) (c := (ckd S k x2) < 1) (s1 := (59, [(4, .int 1), (0, .ref 10), (1, .int x1), (2, .int x2), (3, .int x3)], [.ref 10], wP pre (wN (PP s) (QQ s) op oq tr (nI L.1) wi fa (nI k) st of F), 0)) (s2 := (44, [(4, .int 1), (0, .ref 10), (1, .int x1), (2, .int x2), (3, .int x3)], [.ref 10], wP pre (wN (PP s) (QQ s) op oq tr (nI L.1) wi fa (nI k) st of F), 0)) rfl (fun w2 => ?_) (fun w2 => ?_)
        · skip
          refine mm_skip (mm_call_mono _ _) 5 (st' := (71, [(4, .int 1), (0, .ref 10), (1, .int x1), (2, .int x2), (3, .int x3)], [.int 1], wP pre (wN (PP s) (QQ s) op oq 1 (nI L.1) wi fa (nI k) st of F), 0)) rfl ?_
          refine mm_branch (mm_call_mono _ _) (c := (1 : Int32) ≤ 0) (s1 := (78, [(4, .int 1), (0, .ref 10), (1, .int x1), (2, .int x2), (3, .int x3)], [], wP pre (wN (PP s) (QQ s) op oq 1 (nI L.1) wi fa (nI k) st of F), 0)) (s2 := (74, [(4, .int 1), (0, .ref 10), (1, .int x1), (2, .int x2), (3, .int x3)], [], wP pre (wN (PP s) (QQ s) op oq 1 (nI L.1) wi fa (nI k) st of F), 0)) rfl (fun h => absurd h (by decide)) (fun _ => ?_)
          refine mm_skip (mm_call_mono _ _) 2 (st' := (87, [(4, .int 1), (0, .ref 10), (1, .int x1), (2, .int x2), (3, .int x3)], [.int 0], wP pre (wN (PP s) (QQ s) op oq 1 (nI L.1) wi fa (nI k) st of F), 0)) rfl ?_
          exact mm_ret (mm_call_mono _ _) (c := True) (r := .inl (some (.int 0))) (M := wP pre (wN (PP s) (QQ s) op oq 1 (nI L.1) wi fa (nI k) st of F)) (u := 0) rfl trivial (by decide) (hQ _ _ _ _ _ _ _ _ _ (1, 0) S k (mokN (fun z => z.2.1.elim (fun e => absurd w2 (by rw [e]; decide)) (fun e => absurd w2 (by rw [e]; decide)))) ⟨hk, rfl, hS, hw, v, L, hR, rfl⟩)
        · skip
          refine mm_skip (mm_call_mono _ _) 2 (st' := (46, [(4, .int 1), (0, .ref 10), (1, .int x1), (2, .int x2), (3, .int x3)], [.int x2, .int x1, .ref 10], wP pre (wN (PP s) (QQ s) op oq tr (nI L.1) wi fa (nI k) st of F), 0)) rfl ?_
          refine mm_branch (mm_call_mono _ _) (c := x1 = x2) (s1 := (59, [(4, .int 1), (0, .ref 10), (1, .int x1), (2, .int x2), (3, .int x3)], [.ref 10], wP pre (wN (PP s) (QQ s) op oq tr (nI L.1) wi fa (nI k) st of F), 0)) (s2 := (49, [(4, .int 1), (0, .ref 10), (1, .int x1), (2, .int x2), (3, .int x3)], [.ref 10], wP pre (wN (PP s) (QQ s) op oq tr (nI L.1) wi fa (nI k) st of F), 0)) rfl (fun ze => ?_) (fun ze => ?_)
          · skip
            refine mm_skip (mm_call_mono _ _) 5 (st' := (71, [(4, .int 1), (0, .ref 10), (1, .int x1), (2, .int x2), (3, .int x3)], [.int 1], wP pre (wN (PP s) (QQ s) op oq 1 (nI L.1) wi fa (nI k) st of F), 0)) rfl ?_
            refine mm_branch (mm_call_mono _ _) (c := (1 : Int32) ≤ 0) (s1 := (78, [(4, .int 1), (0, .ref 10), (1, .int x1), (2, .int x2), (3, .int x3)], [], wP pre (wN (PP s) (QQ s) op oq 1 (nI L.1) wi fa (nI k) st of F), 0)) (s2 := (74, [(4, .int 1), (0, .ref 10), (1, .int x1), (2, .int x2), (3, .int x3)], [], wP pre (wN (PP s) (QQ s) op oq 1 (nI L.1) wi fa (nI k) st of F), 0)) rfl (fun h => absurd h (by decide)) (fun _ => ?_)
            refine mm_skip (mm_call_mono _ _) 2 (st' := (87, [(4, .int 1), (0, .ref 10), (1, .int x1), (2, .int x2), (3, .int x3)], [.int 0], wP pre (wN (PP s) (QQ s) op oq 1 (nI L.1) wi fa (nI k) st of F), 0)) rfl ?_
            exact mm_ret (mm_call_mono _ _) (c := True) (r := .inl (some (.int 0))) (M := wP pre (wN (PP s) (QQ s) op oq 1 (nI L.1) wi fa (nI k) st of F)) (u := 0) rfl trivial (by decide) (hQ _ _ _ _ _ _ _ _ _ (1, 0) S k (mokN (fun z => z.2.2.1 ze)) ⟨hk, rfl, hS, hw, v, L, hR, rfl⟩)
          · skip
            refine mm_skip (mm_call_mono _ _) 1 (st' := (50, [(4, .int 1), (0, .ref 10), (1, .int x1), (2, .int x2), (3, .int x3)], [.int x3, .ref 10], wP pre (wN (PP s) (QQ s) op oq tr (nI L.1) wi fa (nI k) st of F), 0)) rfl ?_
            refine mm_branch (mm_call_mono _ _) (c := x3 < 0) (s1 := (59, [(4, .int 1), (0, .ref 10), (1, .int x1), (2, .int x2), (3, .int x3)], [.ref 10], wP pre (wN (PP s) (QQ s) op oq tr (nI L.1) wi fa (nI k) st of F), 0)) (s2 := (53, [(4, .int 1), (0, .ref 10), (1, .int x1), (2, .int x2), (3, .int x3)], [.ref 10], wP pre (wN (PP s) (QQ s) op oq tr (nI L.1) wi fa (nI k) st of F), 0)) rfl (fun zn => ?_) (fun zn => ?_)
            · skip
              refine mm_skip (mm_call_mono _ _) 5 (st' := (71, [(4, .int 1), (0, .ref 10), (1, .int x1), (2, .int x2), (3, .int x3)], [.int 1], wP pre (wN (PP s) (QQ s) op oq 1 (nI L.1) wi fa (nI k) st of F), 0)) rfl ?_
              refine mm_branch (mm_call_mono _ _) (c := (1 : Int32) ≤ 0) (s1 := (78, [(4, .int 1), (0, .ref 10), (1, .int x1), (2, .int x2), (3, .int x3)], [], wP pre (wN (PP s) (QQ s) op oq 1 (nI L.1) wi fa (nI k) st of F), 0)) (s2 := (74, [(4, .int 1), (0, .ref 10), (1, .int x1), (2, .int x2), (3, .int x3)], [], wP pre (wN (PP s) (QQ s) op oq 1 (nI L.1) wi fa (nI k) st of F), 0)) rfl (fun h => absurd h (by decide)) (fun _ => ?_)
              refine mm_skip (mm_call_mono _ _) 2 (st' := (87, [(4, .int 1), (0, .ref 10), (1, .int x1), (2, .int x2), (3, .int x3)], [.int 0], wP pre (wN (PP s) (QQ s) op oq 1 (nI L.1) wi fa (nI k) st of F), 0)) rfl ?_
              exact mm_ret (mm_call_mono _ _) (c := True) (r := .inl (some (.int 0))) (M := wP pre (wN (PP s) (QQ s) op oq 1 (nI L.1) wi fa (nI k) st of F)) (u := 0) rfl trivial (by decide) (hQ _ _ _ _ _ _ _ _ _ (1, 0) S k (mokN (fun z => z.2.2.2.1 zn)) ⟨hk, rfl, hS, hw, v, L, hR, rfl⟩)
            · skip
              refine mm_skip (mm_call_mono _ _) 2 (st' := (56, [(4, .int 1), (0, .ref 10), (1, .int x1), (2, .int x2), (3, .int x3)], [.int 1, .int x3, .ref 10], wP pre (wN (PP s) (QQ s) op oq tr (nI L.1) wi fa (nI k) st of F), 0)) rfl ?_
              refine mm_branch (mm_call_mono _ _) (c := x3 ≤ 1) (s1 := (63, [(4, .int 1), (0, .ref 10), (1, .int x1), (2, .int x2), (3, .int x3)], [.ref 10], wP pre (wN (PP s) (QQ s) op oq tr (nI L.1) wi fa (nI k) st of F), 0)) (s2 := (59, [(4, .int 1), (0, .ref 10), (1, .int x1), (2, .int x2), (3, .int x3)], [.ref 10], wP pre (wN (PP s) (QQ s) op oq tr (nI L.1) wi fa (nI k) st of F), 0)) rfl (fun zl => ?_) (fun zl => ?_)
              · have hmk : mok S k x1 x2 x3 := ⟨ckd_ge w1, ckd_ge w2, ze, zn, by rw [if_neg (fun q => y2 q.2)]; exact zl⟩
                refine mm_skip (mm_call_mono _ _) 4 (st' := (71, [(4, .int 1), (0, .ref 10), (1, .int x1), (2, .int x2), (3, .int x3)], [.int 0], wP pre (wN (PP s) (QQ s) op oq 0 (nI L.1) wi fa (nI k) st of F), 0)) rfl ?_
                refine mm_branch (mm_call_mono _ _) (c := (0 : Int32) ≤ 0) (s1 := (78, [(4, .int 1), (0, .ref 10), (1, .int x1), (2, .int x2), (3, .int x3)], [], wP pre (wN (PP s) (QQ s) op oq 0 (nI L.1) wi fa (nI k) st of F), 0)) (s2 := (74, [(4, .int 1), (0, .ref 10), (1, .int x1), (2, .int x2), (3, .int x3)], [], wP pre (wN (PP s) (QQ s) op oq 0 (nI L.1) wi fa (nI k) st of F), 0)) rfl (fun _ => ?_) (fun h => absurd (by decide) h)
                refine mm_skip (mm_call_mono _ _) 6 (st' := (84, [(4, .int 1), (0, .ref 10), (1, .int x1), (2, .int x2), (3, .int x3)], [.int 0, .int x3, .int x2, .int x1, .int 4, .ref 10], wP pre (wN (PP s) (QQ s) op oq 0 (nI L.1) wi fa (nI k) st of F), 0)) rfl ?_
                refine mm_inv (mm_call_mono _ _) (j := 99) (a := [.ref 10, .int 4, .int x1, .int x2, .int x3, .int 0]) (M := wP pre (wN (PP s) (QQ s) op oq 0 (nI L.1) wi fa (nI k) st of F)) (u := 0) rfl (by decide) (rk_fresh (s0 := mst S k x1 x2 x3) hk hS hw hR (mst_ok (st := st) (of := of) (e := 0) hk hw hmk).1 (mst_ok (st := st) (of := of) (e := 0) hk hw hmk).2.1 (mst_ok hk hw hmk).2.2 (fun s1 op1 oq1 dp1 w1_ fa1 ob1 st1 of1 r S1 k1 ea hm => ?_))
                show mm_W _ _ _ _ _ _ _ (87, [(4, .int 1), (0, .ref 10), (1, .int x1), (2, .int x2), (3, .int x3)], [.int (rv r)], wP pre (wN (PP s1) (QQ s1) op1 oq1 (nI r.1) dp1 w1_ fa1 ob1 st1 of1 F), 0)
                exact mm_ret (mm_call_mono _ _) (c := True) (r := .inl (some (.int (rv r)))) (M := wP pre (wN (PP s1) (QQ s1) op1 oq1 (nI r.1) dp1 w1_ fa1 ob1 st1 of1 F)) (u := 0) rfl trivial (by decide) (hQ _ _ _ _ _ _ _ _ _ r S1 k1 ((if_pos hmk).trans ea) hm)
              · skip
                refine mm_skip (mm_call_mono _ _) 5 (st' := (71, [(4, .int 1), (0, .ref 10), (1, .int x1), (2, .int x2), (3, .int x3)], [.int 1], wP pre (wN (PP s) (QQ s) op oq 1 (nI L.1) wi fa (nI k) st of F), 0)) rfl ?_
                refine mm_branch (mm_call_mono _ _) (c := (1 : Int32) ≤ 0) (s1 := (78, [(4, .int 1), (0, .ref 10), (1, .int x1), (2, .int x2), (3, .int x3)], [], wP pre (wN (PP s) (QQ s) op oq 1 (nI L.1) wi fa (nI k) st of F), 0)) (s2 := (74, [(4, .int 1), (0, .ref 10), (1, .int x1), (2, .int x2), (3, .int x3)], [], wP pre (wN (PP s) (QQ s) op oq 1 (nI L.1) wi fa (nI k) st of F), 0)) rfl (fun h => absurd h (by decide)) (fun _ => ?_)
                refine mm_skip (mm_call_mono _ _) 2 (st' := (87, [(4, .int 1), (0, .ref 10), (1, .int x1), (2, .int x2), (3, .int x3)], [.int 0], wP pre (wN (PP s) (QQ s) op oq 1 (nI L.1) wi fa (nI k) st of F), 0)) rfl ?_
                exact mm_ret (mm_call_mono _ _) (c := True) (r := .inl (some (.int 0))) (M := wP pre (wN (PP s) (QQ s) op oq 1 (nI L.1) wi fa (nI k) st of F)) (u := 0) rfl trivial (by decide) (hQ _ _ _ _ _ _ _ _ _ (1, 0) S k (mokN (fun z => zl (by have h := z.2.2.2.2; rw [if_neg (fun q => y2 q.2)] at h; exact h))) ⟨hk, rfl, hS, hw, v, L, hR, rfl⟩)
  · skip
    refine mm_skip (mm_call_mono _ _) 5 (st' := (28, [(4, .int 1), (0, .ref 10), (1, .int x1), (2, .int x2), (3, .int x3)], [.int x1, .ref 10, .ref 10], wP pre (wN (PP s) (QQ s) op oq tr (nI L.1) wi fa (nI k) st of F), 0)) rfl ?_
    refine mm_inv (mm_call_mono _ _) (j := 98) (a := [.ref 10, .int x1]) (M := wP pre (wN (PP s) (QQ s) op oq tr (nI L.1) wi fa (nI k) st of F)) (u := 0) rfl (by decide) (rk_kind hk hS hw ?_)
    show mm_W _ _ _ _ _ _ _ (31, [(4, .int 1), (0, .ref 10), (1, .int x1), (2, .int x2), (3, .int x3)], [.int (ckd S k x1), .ref 10], wP pre (wN (PP s) (QQ s) op oq tr (nI L.1) wi fa (nI k) st of F), 0)
    refine mm_skip (mm_call_mono _ _) 1 (st' := (32, [(4, .int 1), (0, .ref 10), (1, .int x1), (2, .int x2), (3, .int x3)], [.int 1, .int (ckd S k x1), .ref 10], wP pre (wN (PP s) (QQ s) op oq tr (nI L.1) wi fa (nI k) st of F), 0)) rfl ?_
    refine mm_branch (mm_call_mono _ _) (c := (ckd S k x1) < 1) (s1 := (59, [(4, .int 1), (0, .ref 10), (1, .int x1), (2, .int x2), (3, .int x3)], [.ref 10], wP pre (wN (PP s) (QQ s) op oq tr (nI L.1) wi fa (nI k) st of F), 0)) (s2 := (35, [(4, .int 1), (0, .ref 10), (1, .int x1), (2, .int x2), (3, .int x3)], [.ref 10], wP pre (wN (PP s) (QQ s) op oq tr (nI L.1) wi fa (nI k) st of F), 0)) rfl (fun w1 => ?_) (fun w1 => ?_)
    · skip
      refine mm_skip (mm_call_mono _ _) 5 (st' := (71, [(4, .int 1), (0, .ref 10), (1, .int x1), (2, .int x2), (3, .int x3)], [.int 1], wP pre (wN (PP s) (QQ s) op oq 1 (nI L.1) wi fa (nI k) st of F), 0)) rfl ?_
      refine mm_branch (mm_call_mono _ _) (c := (1 : Int32) ≤ 0) (s1 := (78, [(4, .int 1), (0, .ref 10), (1, .int x1), (2, .int x2), (3, .int x3)], [], wP pre (wN (PP s) (QQ s) op oq 1 (nI L.1) wi fa (nI k) st of F), 0)) (s2 := (74, [(4, .int 1), (0, .ref 10), (1, .int x1), (2, .int x2), (3, .int x3)], [], wP pre (wN (PP s) (QQ s) op oq 1 (nI L.1) wi fa (nI k) st of F), 0)) rfl (fun h => absurd h (by decide)) (fun _ => ?_)
      refine mm_skip (mm_call_mono _ _) 2 (st' := (87, [(4, .int 1), (0, .ref 10), (1, .int x1), (2, .int x2), (3, .int x3)], [.int 0], wP pre (wN (PP s) (QQ s) op oq 1 (nI L.1) wi fa (nI k) st of F), 0)) rfl ?_
      exact mm_ret (mm_call_mono _ _) (c := True) (r := .inl (some (.int 0))) (M := wP pre (wN (PP s) (QQ s) op oq 1 (nI L.1) wi fa (nI k) st of F)) (u := 0) rfl trivial (by decide) (hQ _ _ _ _ _ _ _ _ _ (1, 0) S k (mokN (fun z => z.1.elim (fun e => absurd w1 (by rw [e]; decide)) (fun e => absurd w1 (by rw [e]; decide)))) ⟨hk, rfl, hS, hw, v, L, hR, rfl⟩)
    · skip
      refine mm_skip (mm_call_mono _ _) 2 (st' := (37, [(4, .int 1), (0, .ref 10), (1, .int x1), (2, .int x2), (3, .int x3)], [.int x2, .ref 10, .ref 10], wP pre (wN (PP s) (QQ s) op oq tr (nI L.1) wi fa (nI k) st of F), 0)) rfl ?_
      refine mm_inv (mm_call_mono _ _) (j := 98) (a := [.ref 10, .int x2]) (M := wP pre (wN (PP s) (QQ s) op oq tr (nI L.1) wi fa (nI k) st of F)) (u := 0) rfl (by decide) (rk_kind hk hS hw ?_)
      show mm_W _ _ _ _ _ _ _ (40, [(4, .int 1), (0, .ref 10), (1, .int x1), (2, .int x2), (3, .int x3)], [.int (ckd S k x2), .ref 10], wP pre (wN (PP s) (QQ s) op oq tr (nI L.1) wi fa (nI k) st of F), 0)
      refine mm_skip (mm_call_mono _ _) 1 (st' := (41, [(4, .int 1), (0, .ref 10), (1, .int x1), (2, .int x2), (3, .int x3)], [.int 1, .int (ckd S k x2), .ref 10], wP pre (wN (PP s) (QQ s) op oq tr (nI L.1) wi fa (nI k) st of F), 0)) rfl ?_
      refine mm_branch (mm_call_mono _ _) (c := (ckd S k x2) < 1) (s1 := (59, [(4, .int 1), (0, .ref 10), (1, .int x1), (2, .int x2), (3, .int x3)], [.ref 10], wP pre (wN (PP s) (QQ s) op oq tr (nI L.1) wi fa (nI k) st of F), 0)) (s2 := (44, [(4, .int 1), (0, .ref 10), (1, .int x1), (2, .int x2), (3, .int x3)], [.ref 10], wP pre (wN (PP s) (QQ s) op oq tr (nI L.1) wi fa (nI k) st of F), 0)) rfl (fun w2 => ?_) (fun w2 => ?_)
      · skip
        refine mm_skip (mm_call_mono _ _) 5 (st' := (71, [(4, .int 1), (0, .ref 10), (1, .int x1), (2, .int x2), (3, .int x3)], [.int 1], wP pre (wN (PP s) (QQ s) op oq 1 (nI L.1) wi fa (nI k) st of F), 0)) rfl ?_
        refine mm_branch (mm_call_mono _ _) (c := (1 : Int32) ≤ 0) (s1 := (78, [(4, .int 1), (0, .ref 10), (1, .int x1), (2, .int x2), (3, .int x3)], [], wP pre (wN (PP s) (QQ s) op oq 1 (nI L.1) wi fa (nI k) st of F), 0)) (s2 := (74, [(4, .int 1), (0, .ref 10), (1, .int x1), (2, .int x2), (3, .int x3)], [], wP pre (wN (PP s) (QQ s) op oq 1 (nI L.1) wi fa (nI k) st of F), 0)) rfl (fun h => absurd h (by decide)) (fun _ => ?_)
        refine mm_skip (mm_call_mono _ _) 2 (st' := (87, [(4, .int 1), (0, .ref 10), (1, .int x1), (2, .int x2), (3, .int x3)], [.int 0], wP pre (wN (PP s) (QQ s) op oq 1 (nI L.1) wi fa (nI k) st of F), 0)) rfl ?_
        exact mm_ret (mm_call_mono _ _) (c := True) (r := .inl (some (.int 0))) (M := wP pre (wN (PP s) (QQ s) op oq 1 (nI L.1) wi fa (nI k) st of F)) (u := 0) rfl trivial (by decide) (hQ _ _ _ _ _ _ _ _ _ (1, 0) S k (mokN (fun z => z.2.1.elim (fun e => absurd w2 (by rw [e]; decide)) (fun e => absurd w2 (by rw [e]; decide)))) ⟨hk, rfl, hS, hw, v, L, hR, rfl⟩)
      · skip
        refine mm_skip (mm_call_mono _ _) 2 (st' := (46, [(4, .int 1), (0, .ref 10), (1, .int x1), (2, .int x2), (3, .int x3)], [.int x2, .int x1, .ref 10], wP pre (wN (PP s) (QQ s) op oq tr (nI L.1) wi fa (nI k) st of F), 0)) rfl ?_
        refine mm_branch (mm_call_mono _ _) (c := x1 = x2) (s1 := (59, [(4, .int 1), (0, .ref 10), (1, .int x1), (2, .int x2), (3, .int x3)], [.ref 10], wP pre (wN (PP s) (QQ s) op oq tr (nI L.1) wi fa (nI k) st of F), 0)) (s2 := (49, [(4, .int 1), (0, .ref 10), (1, .int x1), (2, .int x2), (3, .int x3)], [.ref 10], wP pre (wN (PP s) (QQ s) op oq tr (nI L.1) wi fa (nI k) st of F), 0)) rfl (fun ze => ?_) (fun ze => ?_)
        · skip
          refine mm_skip (mm_call_mono _ _) 5 (st' := (71, [(4, .int 1), (0, .ref 10), (1, .int x1), (2, .int x2), (3, .int x3)], [.int 1], wP pre (wN (PP s) (QQ s) op oq 1 (nI L.1) wi fa (nI k) st of F), 0)) rfl ?_
          refine mm_branch (mm_call_mono _ _) (c := (1 : Int32) ≤ 0) (s1 := (78, [(4, .int 1), (0, .ref 10), (1, .int x1), (2, .int x2), (3, .int x3)], [], wP pre (wN (PP s) (QQ s) op oq 1 (nI L.1) wi fa (nI k) st of F), 0)) (s2 := (74, [(4, .int 1), (0, .ref 10), (1, .int x1), (2, .int x2), (3, .int x3)], [], wP pre (wN (PP s) (QQ s) op oq 1 (nI L.1) wi fa (nI k) st of F), 0)) rfl (fun h => absurd h (by decide)) (fun _ => ?_)
          refine mm_skip (mm_call_mono _ _) 2 (st' := (87, [(4, .int 1), (0, .ref 10), (1, .int x1), (2, .int x2), (3, .int x3)], [.int 0], wP pre (wN (PP s) (QQ s) op oq 1 (nI L.1) wi fa (nI k) st of F), 0)) rfl ?_
          exact mm_ret (mm_call_mono _ _) (c := True) (r := .inl (some (.int 0))) (M := wP pre (wN (PP s) (QQ s) op oq 1 (nI L.1) wi fa (nI k) st of F)) (u := 0) rfl trivial (by decide) (hQ _ _ _ _ _ _ _ _ _ (1, 0) S k (mokN (fun z => z.2.2.1 ze)) ⟨hk, rfl, hS, hw, v, L, hR, rfl⟩)
        · skip
          refine mm_skip (mm_call_mono _ _) 1 (st' := (50, [(4, .int 1), (0, .ref 10), (1, .int x1), (2, .int x2), (3, .int x3)], [.int x3, .ref 10], wP pre (wN (PP s) (QQ s) op oq tr (nI L.1) wi fa (nI k) st of F), 0)) rfl ?_
          refine mm_branch (mm_call_mono _ _) (c := x3 < 0) (s1 := (59, [(4, .int 1), (0, .ref 10), (1, .int x1), (2, .int x2), (3, .int x3)], [.ref 10], wP pre (wN (PP s) (QQ s) op oq tr (nI L.1) wi fa (nI k) st of F), 0)) (s2 := (53, [(4, .int 1), (0, .ref 10), (1, .int x1), (2, .int x2), (3, .int x3)], [.ref 10], wP pre (wN (PP s) (QQ s) op oq tr (nI L.1) wi fa (nI k) st of F), 0)) rfl (fun zn => ?_) (fun zn => ?_)
          · skip
            refine mm_skip (mm_call_mono _ _) 5 (st' := (71, [(4, .int 1), (0, .ref 10), (1, .int x1), (2, .int x2), (3, .int x3)], [.int 1], wP pre (wN (PP s) (QQ s) op oq 1 (nI L.1) wi fa (nI k) st of F), 0)) rfl ?_
            refine mm_branch (mm_call_mono _ _) (c := (1 : Int32) ≤ 0) (s1 := (78, [(4, .int 1), (0, .ref 10), (1, .int x1), (2, .int x2), (3, .int x3)], [], wP pre (wN (PP s) (QQ s) op oq 1 (nI L.1) wi fa (nI k) st of F), 0)) (s2 := (74, [(4, .int 1), (0, .ref 10), (1, .int x1), (2, .int x2), (3, .int x3)], [], wP pre (wN (PP s) (QQ s) op oq 1 (nI L.1) wi fa (nI k) st of F), 0)) rfl (fun h => absurd h (by decide)) (fun _ => ?_)
            refine mm_skip (mm_call_mono _ _) 2 (st' := (87, [(4, .int 1), (0, .ref 10), (1, .int x1), (2, .int x2), (3, .int x3)], [.int 0], wP pre (wN (PP s) (QQ s) op oq 1 (nI L.1) wi fa (nI k) st of F), 0)) rfl ?_
            exact mm_ret (mm_call_mono _ _) (c := True) (r := .inl (some (.int 0))) (M := wP pre (wN (PP s) (QQ s) op oq 1 (nI L.1) wi fa (nI k) st of F)) (u := 0) rfl trivial (by decide) (hQ _ _ _ _ _ _ _ _ _ (1, 0) S k (mokN (fun z => z.2.2.2.1 zn)) ⟨hk, rfl, hS, hw, v, L, hR, rfl⟩)
          · skip
            refine mm_skip (mm_call_mono _ _) 2 (st' := (56, [(4, .int 1), (0, .ref 10), (1, .int x1), (2, .int x2), (3, .int x3)], [.int 1, .int x3, .ref 10], wP pre (wN (PP s) (QQ s) op oq tr (nI L.1) wi fa (nI k) st of F), 0)) rfl ?_
            refine mm_branch (mm_call_mono _ _) (c := x3 ≤ 1) (s1 := (63, [(4, .int 1), (0, .ref 10), (1, .int x1), (2, .int x2), (3, .int x3)], [.ref 10], wP pre (wN (PP s) (QQ s) op oq tr (nI L.1) wi fa (nI k) st of F), 0)) (s2 := (59, [(4, .int 1), (0, .ref 10), (1, .int x1), (2, .int x2), (3, .int x3)], [.ref 10], wP pre (wN (PP s) (QQ s) op oq tr (nI L.1) wi fa (nI k) st of F), 0)) rfl (fun zl => ?_) (fun zl => ?_)
            · have hmk : mok S k x1 x2 x3 := ⟨ckd_ge w1, ckd_ge w2, ze, zn, by rw [if_neg (fun q => y1 q.1)]; exact zl⟩
              refine mm_skip (mm_call_mono _ _) 4 (st' := (71, [(4, .int 1), (0, .ref 10), (1, .int x1), (2, .int x2), (3, .int x3)], [.int 0], wP pre (wN (PP s) (QQ s) op oq 0 (nI L.1) wi fa (nI k) st of F), 0)) rfl ?_
              refine mm_branch (mm_call_mono _ _) (c := (0 : Int32) ≤ 0) (s1 := (78, [(4, .int 1), (0, .ref 10), (1, .int x1), (2, .int x2), (3, .int x3)], [], wP pre (wN (PP s) (QQ s) op oq 0 (nI L.1) wi fa (nI k) st of F), 0)) (s2 := (74, [(4, .int 1), (0, .ref 10), (1, .int x1), (2, .int x2), (3, .int x3)], [], wP pre (wN (PP s) (QQ s) op oq 0 (nI L.1) wi fa (nI k) st of F), 0)) rfl (fun _ => ?_) (fun h => absurd (by decide) h)
              refine mm_skip (mm_call_mono _ _) 6 (st' := (84, [(4, .int 1), (0, .ref 10), (1, .int x1), (2, .int x2), (3, .int x3)], [.int 0, .int x3, .int x2, .int x1, .int 4, .ref 10], wP pre (wN (PP s) (QQ s) op oq 0 (nI L.1) wi fa (nI k) st of F), 0)) rfl ?_
              refine mm_inv (mm_call_mono _ _) (j := 99) (a := [.ref 10, .int 4, .int x1, .int x2, .int x3, .int 0]) (M := wP pre (wN (PP s) (QQ s) op oq 0 (nI L.1) wi fa (nI k) st of F)) (u := 0) rfl (by decide) (rk_fresh (s0 := mst S k x1 x2 x3) hk hS hw hR (mst_ok (st := st) (of := of) (e := 0) hk hw hmk).1 (mst_ok (st := st) (of := of) (e := 0) hk hw hmk).2.1 (mst_ok hk hw hmk).2.2 (fun s1 op1 oq1 dp1 w1_ fa1 ob1 st1 of1 r S1 k1 ea hm => ?_))
              show mm_W _ _ _ _ _ _ _ (87, [(4, .int 1), (0, .ref 10), (1, .int x1), (2, .int x2), (3, .int x3)], [.int (rv r)], wP pre (wN (PP s1) (QQ s1) op1 oq1 (nI r.1) dp1 w1_ fa1 ob1 st1 of1 F), 0)
              exact mm_ret (mm_call_mono _ _) (c := True) (r := .inl (some (.int (rv r)))) (M := wP pre (wN (PP s1) (QQ s1) op1 oq1 (nI r.1) dp1 w1_ fa1 ob1 st1 of1 F)) (u := 0) rfl trivial (by decide) (hQ _ _ _ _ _ _ _ _ _ r S1 k1 ((if_pos hmk).trans ea) hm)
            · skip
              refine mm_skip (mm_call_mono _ _) 5 (st' := (71, [(4, .int 1), (0, .ref 10), (1, .int x1), (2, .int x2), (3, .int x3)], [.int 1], wP pre (wN (PP s) (QQ s) op oq 1 (nI L.1) wi fa (nI k) st of F), 0)) rfl ?_
              refine mm_branch (mm_call_mono _ _) (c := (1 : Int32) ≤ 0) (s1 := (78, [(4, .int 1), (0, .ref 10), (1, .int x1), (2, .int x2), (3, .int x3)], [], wP pre (wN (PP s) (QQ s) op oq 1 (nI L.1) wi fa (nI k) st of F), 0)) (s2 := (74, [(4, .int 1), (0, .ref 10), (1, .int x1), (2, .int x2), (3, .int x3)], [], wP pre (wN (PP s) (QQ s) op oq 1 (nI L.1) wi fa (nI k) st of F), 0)) rfl (fun h => absurd h (by decide)) (fun _ => ?_)
              refine mm_skip (mm_call_mono _ _) 2 (st' := (87, [(4, .int 1), (0, .ref 10), (1, .int x1), (2, .int x2), (3, .int x3)], [.int 0], wP pre (wN (PP s) (QQ s) op oq 1 (nI L.1) wi fa (nI k) st of F), 0)) rfl ?_
              exact mm_ret (mm_call_mono _ _) (c := True) (r := .inl (some (.int 0))) (M := wP pre (wN (PP s) (QQ s) op oq 1 (nI L.1) wi fa (nI k) st of F)) (u := 0) rfl trivial (by decide) (hQ _ _ _ _ _ _ _ _ _ (1, 0) S k (mokN (fun z => zl (by have h := z.2.2.2.2; rw [if_neg (fun q => y1 q.1)] at h; exact h))) ⟨hk, rfl, hS, hw, v, L, hR, rfl⟩)

set_option maxRecDepth 100000 in
theorem rf_undo0 {d : Nat} {pre : mm_pre} {s : Nat → fr} {op oq : Nat → Int64} {tr wi fa : Int32} {st of : Nat → Int32} {F : mm_M} {S : Nat → stp} {L : lvR} {v : Nat → o3} {Q : mm_R → mm_M → Prop} (hk : 0 ≤ 24) (hS : ∀ i, i < 0 → stR st of S i) (hw : ∀ i, i < 0 → wf S i) (hR : rI S s 0 v L) (hQ : ∀ (s1 : Nat → fr) (op1 oq1 : Nat → Int64) (dp1 w1 fa1 ob1 : Int32) (st1 of1 : Nat → Int32) (r : oc) (S1 : Nat → stp) (k1 : Nat), aUndo S 0 = (r, S1, k1) → mI S1 k1 s1 dp1 ob1 st1 of1 → Q (.inl (some (.int (rv r)))) (wP pre (wN (PP s1) (QQ s1) op1 oq1 (nI r.1) dp1 w1 fa1 ob1 st1 of1 F))) : mm_call mm_Tb (d + 17) 108 [.ref 10] (wP pre (wN (PP s) (QQ s) op oq tr (nI L.1) wi fa (nI 0) st of F)) Q := by
  refine mm_in mt_108 (Nat.le_of_ble_eq_true rfl) ?_
  show mm_W _ _ _ _ _ _ _ (0, [(0, .ref 10)], [], wP pre (wN (PP s) (QQ s) op oq tr (nI L.1) wi fa (nI 0) st of F), 0)
  refine mm_skip (mm_call_mono _ _) 5 (st' := (9, [(0, .ref 10)], [.int (nI 0)], wP pre (wN (PP s) (QQ s) op oq 0 (nI L.1) wi fa (nI 0) st of F), 0)) rfl ?_
  refine mm_branch (mm_call_mono _ _) (c := (nI 0) = 0) (s1 := (12, [(0, .ref 10)], [], wP pre (wN (PP s) (QQ s) op oq 0 (nI L.1) wi fa (nI 0) st of F), 0)) (s2 := (14, [(0, .ref 10)], [], wP pre (wN (PP s) (QQ s) op oq 0 (nI L.1) wi fa (nI 0) st of F), 0)) rfl (fun _ => ?_) (fun h => absurd nI_0 h)
  refine mm_skip (mm_call_mono _ _) 1 (st' := (13, [(0, .ref 10)], [.int 0], wP pre (wN (PP s) (QQ s) op oq 0 (nI L.1) wi fa (nI 0) st of F), 0)) rfl ?_
  exact mm_ret (mm_call_mono _ _) (c := mm_z 0) (r := .inl (some (.int 0))) (M := wP pre (wN (PP s) (QQ s) op oq 0 (nI L.1) wi fa (nI 0) st of F)) (u := 0) rfl (by unfold mm_z; decide) (by decide) (hQ _ _ _ _ _ _ _ _ _ (0, 0) S 0 rfl ⟨hk, rfl, hS, hw, v, L, hR, rfl⟩)

theorem rw_un {S : Nat → stp} {k : Nat} {s1 : Nat → fr} {v : Nat → o3} {L : lvR} {dp1 r : Int32} {st of : Nat → Int32} (hk : k + 1 ≤ 24) (hS : ∀ i, i < k + 1 → stR st of S i) (hw : ∀ i, i < k + 1 → wf S i) (hd : dr S (k + 1) = some (v, L)) (h : rwF S k s1 dp1 r) : mI S k s1 dp1 (nI k) st of := by
  obtain ⟨o, v1, L1, h1, h2, h3⟩ := h
  rcases h3 with ⟨e1, e2, e3⟩ | ⟨e1, e2, e3⟩
  · subst e1
    exact ⟨by omega, rfl, fun i hi => hS i (by omega), fun i hi => hw i (by omega), v1, L1, h2, e3⟩
  · have := dr_none e3 (show o + 1 ≤ k + 1 by omega)
    rw [hd] at this; cases this
set_option maxRecDepth 100000 in
theorem rf_undo1 {d : Nat} {pre : mm_pre} {s : Nat → fr} {op oq : Nat → Int64} {tr wi fa : Int32} {st of : Nat → Int32} {F : mm_M} {S : Nat → stp} {k : Nat} {L : lvR} {v : Nat → o3} {Q : mm_R → mm_M → Prop} (hk : k + 1 ≤ 24) (hS : ∀ i, i < k + 1 → stR st of S i) (hw : ∀ i, i < k + 1 → wf S i) (hR : rI S s (k + 1) v L) (hQ : ∀ (s1 : Nat → fr) (op1 oq1 : Nat → Int64) (dp1 w1 fa1 ob1 : Int32) (st1 of1 : Nat → Int32) (r : oc) (S1 : Nat → stp) (k1 : Nat), aUndo S (k + 1) = (r, S1, k1) → mI S1 k1 s1 dp1 ob1 st1 of1 → Q (.inl (some (.int (rv r)))) (wP pre (wN (PP s1) (QQ s1) op1 oq1 (nI r.1) dp1 w1 fa1 ob1 st1 of1 F))) : mm_call mm_Tb (d + 17) 108 [.ref 10] (wP pre (wN (PP s) (QQ s) op oq tr (nI L.1) wi fa (nI (k + 1)) st of F)) Q := by
  refine mm_in mt_108 (Nat.le_of_ble_eq_true rfl) ?_
  show mm_W _ _ _ _ _ _ _ (0, [(0, .ref 10)], [], wP pre (wN (PP s) (QQ s) op oq tr (nI L.1) wi fa (nI (k + 1)) st of F), 0)
  refine mm_skip (mm_call_mono _ _) 5 (st' := (9, [(0, .ref 10)], [.int (nI (k + 1))], wP pre (wN (PP s) (QQ s) op oq 0 (nI L.1) wi fa (nI (k + 1)) st of F), 0)) rfl ?_
  refine mm_branch (mm_call_mono _ _) (c := (nI (k + 1)) = 0) (s1 := (12, [(0, .ref 10)], [], wP pre (wN (PP s) (QQ s) op oq 0 (nI L.1) wi fa (nI (k + 1)) st of F), 0)) (s2 := (14, [(0, .ref 10)], [], wP pre (wN (PP s) (QQ s) op oq 0 (nI L.1) wi fa (nI (k + 1)) st of F), 0)) rfl (fun h => absurd h (nI_ne0 (by omega) (by omega))) (fun _ => ?_)
  refine mm_skip (mm_call_mono _ _) 5 (st' := (21, [(0, .ref 10)], [.int ((nI (k + 1)) - 1), .ref 10], wP pre (wN (PP s) (QQ s) op oq 0 (nI L.1) wi fa (nI (k + 1)) st of F), 0)) rfl ?_
  rw [(nI_pred k)]
  show mm_W _ _ _ _ _ _ _ (21, [(0, .ref 10)], [.int (nI k), .ref 10], wP pre (wN (PP s) (QQ s) op oq 0 (nI L.1) wi fa (nI (k + 1)) st of F), 0)
  refine mm_skip (mm_call_mono _ _) 2 (st' := (25, [(0, .ref 10)], [.ref 10], wP pre (wN (PP s) (QQ s) op oq 0 (nI L.1) wi fa (nI k) st of F), 0)) rfl ?_
  refine mm_inv (mm_call_mono _ _) (j := 96) (a := [.ref 10]) (M := wP pre (wN (PP s) (QQ s) op oq 0 (nI L.1) wi fa (nI k) st of F)) (u := 0) rfl (by decide) (rk_redraw (by omega) (fun i hi => hS i (by omega)) (fun i hi => hw i (by omega)) hR.2.2.2.2.1 hR.2.2.2.2.2 (fun s1 dp1 w1 fa1 rr hF => ?_))
  show mm_W _ _ _ _ _ _ _ (28, [(0, .ref 10)], [.int rr], wP pre (wN (PP s1) (QQ s1) op oq 0 dp1 w1 fa1 (nI k) st of F), 0)
  refine mm_skip (mm_call_mono _ _) 2 (st' := (30, [(1, .int rr), (0, .ref 10)], [.int 1], wP pre (wN (PP s1) (QQ s1) op oq 0 dp1 w1 fa1 (nI k) st of F), 0)) rfl ?_
  exact mm_ret (mm_call_mono _ _) (c := mm_z 1) (r := .inl (some (.int 1))) (M := wP pre (wN (PP s1) (QQ s1) op oq 0 dp1 w1 fa1 (nI k) st of F)) (u := 0) rfl (by unfold mm_z; decide) (by decide) (hQ _ _ _ _ _ _ _ _ _ (0, 1) S k rfl (rw_un hk hS hw hR.1 hF))

