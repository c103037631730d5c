/-- a row copied as far as k -/
def cpm (f g : Nat → Int64) (k : Nat) : Nat → Int64 := fun j => if j < k then g j else f j
theorem cpm_0 {f g : Nat → Int64} : cpm f g 0 = f := by
  funext j
  exact if_neg (Nat.not_lt_zero j)
theorem cpm_s {f g : Nat → Int64} {k : Nat} : vp_updL (cpm f g k) k (g k) = cpm f g (k + 1) := by
  funext j
  by_cases e : j = k
  · rw [e, pk_uLs]
    exact (if_pos (Nat.lt_succ_self k)).symm
  · rw [pk_uLn e]
    unfold cpm
    by_cases h : j < k
    · rw [if_pos h, if_pos (by omega)]
    · rw [if_neg h, if_neg (by omega)]
/-- the old cells below 292 -/
def mx (s s1 : Nat → fr) : Nat → fr := fun j => if j < 292 then s j else s1 j
theorem cp_P {f : Nat → Int64} {s s1 : Nat → fr} : cpm (PP s1) (cpm f (PP s) 292) 292 = PP (mx s s1) := by
  funext j
  show (if j < 292 then (if j < 292 then PP s j else f j) else PP s1 j) = Int64.ofInt (mx s s1 j).1
  unfold mx
  by_cases h : j < 292
  · rw [if_pos h, if_pos h, if_pos h]; rfl
  · rw [if_neg h, if_neg h]; rfl
theorem cp_Q {f : Nat → Int64} {s s1 : Nat → fr} : cpm (QQ s1) (cpm f (QQ s) 292) 292 = QQ (mx s s1) := by
  funext j
  show (if j < 292 then (if j < 292 then QQ s j else f j) else QQ s1 j) = Int64.ofInt (mx s s1 j).2
  unfold mx
  by_cases h : j < 292
  · rw [if_pos h, if_pos h, if_pos h]; rfl
  · rw [if_neg h, if_neg h]; rfl
theorem rI_mx {S : Nat → stp} {s s1 : Nat → fr} {k : Nat} {v : Nat → o3} {L : lvR} (hk : k ≤ 24) (h : rI S s k v L) (hV : ∀ j, fv (s1 j)) (h9 : s1 299 = (1, 2)) : rI S (mx s s1) k v L := by
  obtain ⟨a1, a2, a3, a4, a5, a6⟩ := h
  have e : ∀ j, j < 292 → mx s s1 j = s j := fun j hj => if_pos hj
  refine ⟨a1, a2, rdM_e a2 a3 (fun j h1 h2 _ => e j (by omega)), fun i hi => hM_e (a4 i hi) (fun j h1 h2 => e j (by omega)), fun j => ?_, ?_⟩
  · unfold mx
    by_cases h : j < 292
    · rw [if_pos h]; exact a5 j
    · rw [if_neg h]; exact hV j
  · unfold mx
    rw [if_neg (by omega)]; exact h9
theorem mv_stR {st of : Nat → Int32} {S : Nat → stp} {p i : Nat} {a b c e : Int32} (h : stR st of S i) (hp : (S p).1 = 0) (h1 : inp a b) (h2 : inp c e) : stR st (o4 of p a b c e) (mvs S p (qf a b) (qf c e)) i := by
  by_cases e0 : i = p
  · subst e0
    have es : st i = nI 0 := by rw [h.1, hp]; rfl
    unfold stR
    rw [mv_1, hp, o4_0, o4_1, o4_2, o4_3]
    refine ⟨es, fun _ => ⟨h1, h2, ?_, ?_⟩, fun q => absurd q (by decide), fun q => absurd q (by decide), fun q => absurd q (by decide), fun q => absurd q (by decide)⟩
    · unfold mvs; rw [ext_k]
    · unfold mvs; rw [ext_k]
  · exact stR_k h (ext_n e0) rfl (fun j h3 h4 => o4_n (by omega))
theorem rw_mv {S : Nat → stp} {k : Nat} {s1 : Nat → fr} {dp1 r : Int32} {st of : Nat → Int32} (hk : k ≤ 24) (hS : ∀ i, i < k → stR st of S i) (hw : ∀ i, i < k → wf S i) (h : rwF S k s1 dp1 r) : (r < 0 → mI S k s1 dp1 (nI k) st of ∧ r = -1 ∧ ∃ q, dr S k = some q) ∧ (¬ r < 0 → dr S k = none ∧ r = nI (ff S k) ∧ (∀ j, fv (s1 j)) ∧ s1 299 = (1, 2)) := by
  obtain ⟨o, v1, L1, h1, h2, h3⟩ := h
  rcases h3 with ⟨e1, e2, e3⟩ | ⟨e1, e2, e3⟩
  · subst e1
    exact ⟨fun _ => ⟨⟨hk, rfl, hS, hw, v1, L1, h2, e3⟩, e2, _, h2.1⟩, fun q => absurd (by rw [e2]; decide) q⟩
  · refine ⟨fun q => ?_, fun _ => ⟨dr_none e3 (by omega), by rw [ff_of h2.1 e3 (by omega)]; exact e2, h2.2.2.2.2.1, h2.2.2.2.2.2⟩⟩
    rw [e2] at q
    exact absurd q (nI_pos (by omega))
set_option maxRecDepth 100000 in
theorem rk_become {d : Nat} {pre : mm_pre} {p q op oq : Nat → Int64} {tr dp wi fa ob : Int32} {st of : Nat → Int32} {F : mm_M} {i : Nat} {a b c e : Int32} {Q : mm_R → mm_M → Prop} (hi : i < 24) (hQ : Q (.inl none) (wP pre (wN p q op oq tr dp wi fa ob st (o4 of i a b c e) F))) : mm_call mm_Tb (d + 1) 107 [.ref 10, .int (nI i), .int a, .int b, .int c, .int e] (wP pre (wN p q op oq tr dp wi fa ob st of F)) Q := by
  refine mm_in mt_107 (Nat.le_of_ble_eq_true rfl) ?_
  show mm_W _ _ _ _ _ _ _ (0, [(0, .ref 10), (1, .int (nI i)), (2, .int a), (3, .int b), (4, .int c), (5, .int e)], [], wP pre (wN p q op oq tr dp wi fa ob st of F), 0)
  refine mm_skip (mm_call_mono _ _) 6 (st' := (8, [(0, .ref 10), (1, .int (nI i)), (2, .int a), (3, .int b), (4, .int c), (5, .int e)], [.int a, .int (4 * (nI i)), .ref 16], wP pre (wN p q op oq tr dp wi fa ob st of F), 0)) rfl ?_
  rw [nI_m4 i]
  show mm_W _ _ _ _ _ _ _ (8, [(0, .ref 10), (1, .int (nI i)), (2, .int a), (3, .int b), (4, .int c), (5, .int e)], [.int a, .int (nI (4 * i)), .ref 16], wP pre (wN p q op oq tr dp wi fa ob st of F), 0)
  refine mm_need (mm_call_mono _ _) (c := vp_in (nI (4 * i)) 96) (s' := (9, [(0, .ref 10), (1, .int (nI i)), (2, .int a), (3, .int b), (4, .int c), (5, .int e)], [], wP pre (wN p q op oq tr dp wi fa ob st (upd of (Int32.toNatClampNeg (nI (4 * i))) a) F), 0)) rfl (vp_in_nI (show (4 * i) < 96 by omega) (by decide)) ?_
  rw [nI_clamp (show (4 * i) < 2 ^ 31 by omega)]
  show mm_W _ _ _ _ _ _ _ (9, [(0, .ref 10), (1, .int (nI i)), (2, .int a), (3, .int b), (4, .int c), (5, .int e)], [], wP pre (wN p q op oq tr dp wi fa ob st (upd of (4 * i) a) F), 0)
  refine mm_skip (mm_call_mono _ _) 8 (st' := (19, [(0, .ref 10), (1, .int (nI i)), (2, .int a), (3, .int b), (4, .int c), (5, .int e)], [.int b, .int ((4 * (nI i)) + 1), .ref 16], wP pre (wN p q op oq tr dp wi fa ob st (upd of (4 * i) a) F), 0)) rfl ?_
  rw [nI_m4 i]
  rw [nI_p1 ((4 * i))]
  show mm_W _ _ _ _ _ _ _ (19, [(0, .ref 10), (1, .int (nI i)), (2, .int a), (3, .int b), (4, .int c), (5, .int e)], [.int b, .int (nI (4 * i + 1)), .ref 16], wP pre (wN p q op oq tr dp wi fa ob st (upd of (4 * i) a) F), 0)
  refine mm_need (mm_call_mono _ _) (c := vp_in (nI (4 * i + 1)) 96) (s' := (20, [(0, .ref 10), (1, .int (nI i)), (2, .int a), (3, .int b), (4, .int c), (5, .int e)], [], wP pre (wN p q op oq tr dp wi fa ob st (upd (upd of (4 * i) a) (Int32.toNatClampNeg (nI (4 * i + 1))) b) F), 0)) rfl (vp_in_nI (show (4 * i + 1) < 96 by omega) (by decide)) ?_
  rw [nI_clamp (show (4 * i + 1) < 2 ^ 31 by omega)]
  show mm_W _ _ _ _ _ _ _ (20, [(0, .ref 10), (1, .int (nI i)), (2, .int a), (3, .int b), (4, .int c), (5, .int e)], [], wP pre (wN p q op oq tr dp wi fa ob st (upd (upd of (4 * i) a) (4 * i + 1) b) F), 0)
  refine mm_skip (mm_call_mono _ _) 8 (st' := (31, [(0, .ref 10), (1, .int (nI i)), (2, .int a), (3, .int b), (4, .int c), (5, .int e)], [.int c, .int ((4 * (nI i)) + 2), .ref 16], wP pre (wN p q op oq tr dp wi fa ob st (upd (upd of (4 * i) a) (4 * i + 1) b) F), 0)) rfl ?_
  rw [nI_m4 i]
  rw [nI_p2 ((4 * i))]
  show mm_W _ _ _ _ _ _ _ (31, [(0, .ref 10), (1, .int (nI i)), (2, .int a), (3, .int b), (4, .int c), (5, .int e)], [.int c, .int (nI (4 * i + 2)), .ref 16], wP pre (wN p q op oq tr dp wi fa ob st (upd (upd of (4 * i) a) (4 * i + 1) b) F), 0)
  refine mm_need (mm_call_mono _ _) (c := vp_in (nI (4 * i + 2)) 96) (s' := (32, [(0, .ref 10), (1, .int (nI i)), (2, .int a), (3, .int b), (4, .int c), (5, .int e)], [], wP pre (wN p q op oq tr dp wi fa ob st (upd (upd (upd of (4 * i) a) (4 * i + 1) b) (Int32.toNatClampNeg (nI (4 * i + 2))) c) F), 0)) rfl (vp_in_nI (show (4 * i + 2) < 96 by omega) (by decide)) ?_
  rw [nI_clamp (show (4 * i + 2) < 2 ^ 31 by omega)]
  show mm_W _ _ _ _ _ _ _ (32, [(0, .ref 10), (1, .int (nI i)), (2, .int a), (3, .int b), (4, .int c), (5, .int e)], [], wP pre (wN p q op oq tr dp wi fa ob st (upd (upd (upd of (4 * i) a) (4 * i + 1) b) (4 * i + 2) c) F), 0)
  refine mm_skip (mm_call_mono _ _) 8 (st' := (43, [(0, .ref 10), (1, .int (nI i)), (2, .int a), (3, .int b), (4, .int c), (5, .int e)], [.int e, .int ((4 * (nI i)) + 3), .ref 16], wP pre (wN p q op oq tr dp wi fa ob st (upd (upd (upd of (4 * i) a) (4 * i + 1) b) (4 * i + 2) c) F), 0)) rfl ?_
  rw [nI_m4 i]
  rw [nI_p3 ((4 * i))]
  show mm_W _ _ _ _ _ _ _ (43, [(0, .ref 10), (1, .int (nI i)), (2, .int a), (3, .int b), (4, .int c), (5, .int e)], [.int e, .int (nI (4 * i + 3)), .ref 16], wP pre (wN p q op oq tr dp wi fa ob st (upd (upd (upd of (4 * i) a) (4 * i + 1) b) (4 * i + 2) c) F), 0)
  refine mm_need (mm_call_mono _ _) (c := vp_in (nI (4 * i + 3)) 96) (s' := (44, [(0, .ref 10), (1, .int (nI i)), (2, .int a), (3, .int b), (4, .int c), (5, .int e)], [], wP pre (wN p q op oq tr dp wi fa ob st (upd (upd (upd (upd of (4 * i) a) (4 * i + 1) b) (4 * i + 2) c) (Int32.toNatClampNeg (nI (4 * i + 3))) e) F), 0)) rfl (vp_in_nI (show (4 * i + 3) < 96 by omega) (by decide)) ?_
  rw [nI_clamp (show (4 * i + 3) < 2 ^ 31 by omega)]
  show mm_W _ _ _ _ _ _ _ (44, [(0, .ref 10), (1, .int (nI i)), (2, .int a), (3, .int b), (4, .int c), (5, .int e)], [], wP pre (wN p q op oq tr dp wi fa ob st (upd (upd (upd (upd of (4 * i) a) (4 * i + 1) b) (4 * i + 2) c) (4 * i + 3) e) F), 0)
  exact mm_ret (mm_call_mono _ _) (c := True) (r := .inl none) (M := wP pre (wN p q op oq tr dp wi fa ob st (upd (upd (upd (upd of (4 * i) a) (4 * i + 1) b) (4 * i + 2) c) (4 * i + 3) e) F)) (u := 0) rfl trivial (by decide) hQ

theorem rk_become2 {d : Nat} {pre : mm_pre} {p q op oq : Nat → Int64} {tr dp wi fa ob : Int32} {st of : Nat → Int32} {F : mm_M} {i : Nat} {a b c e : Int32} {of2 : Nat → Int32} {Q : mm_R → mm_M → Prop} (hi : i < 24) (he : o4 of i a b c e = of2) (hQ : Q (.inl none) (wP pre (wN p q op oq tr dp wi fa ob st of2 F))) : mm_call mm_Tb (d + 1) 107 [.ref 10, .int (nI i), .int a, .int b, .int c, .int e] (wP pre (wN p q op oq tr dp wi fa ob st of F)) Q := by
  subst he
  exact rk_become hi hQ
set_option maxRecDepth 100000 in
theorem mv_l1 {d : Nat} {pre : mm_pre} {p q op oq : Nat → Int64} {tr dp wi fa ob : Int32} {st of : Nat → Int32} {F : mm_M} {i : Nat} {x2 x3 x4 x5 y1 y2 y3 y4 yd : Int32} {Q : mm_R → mm_M → Prop} (hK : mm_W (mm_call mm_Tb d) mp_M_move (mm_bt mm_Tb) 0 (some .int) 13 Q (168, [(11, .int (nI 292)), (10, .int y4), (9, .int y3), (8, .int y2), (7, .int y1), (6, .int yd), (0, .ref 10), (1, .int (nI i)), (2, .int x2), (3, .int x3), (4, .int x4), (5, .int x5)], [], wP pre (wN p q (cpm op p 292) (cpm oq q 292) tr dp wi fa ob st of F), 0)) : ∀ (m k : Nat), k + m = 292 → mm_W (mm_call mm_Tb d) mp_M_move (mm_bt mm_Tb) 0 (some .int) 13 Q (126, [(11, .int (nI k)), (10, .int y4), (9, .int y3), (8, .int y2), (7, .int y1), (6, .int yd), (0, .ref 10), (1, .int (nI i)), (2, .int x2), (3, .int x3), (4, .int x4), (5, .int x5)], [], wP pre (wN p q (cpm op p k) (cpm oq q k) tr dp wi fa ob st of F), 0)
  | 0, k, hm => by
    have e : k = 292 := by omega
    subst e
    refine mm_skip (mm_call_mono _ _) 2 (st' := (131, [(11, .int (nI 292)), (10, .int y4), (9, .int y3), (8, .int y2), (7, .int y1), (6, .int yd), (0, .ref 10), (1, .int (nI i)), (2, .int x2), (3, .int x3), (4, .int x4), (5, .int x5)], [.int 292, .int (nI 292)], wP pre (wN p q (cpm op p 292) (cpm oq q 292) tr dp wi fa ob st of F), 0)) rfl ?_
    refine mm_branch (mm_call_mono _ _) (c := 292 ≤ (nI 292)) (s1 := (168, [(11, .int (nI 292)), (10, .int y4), (9, .int y3), (8, .int y2), (7, .int y1), (6, .int yd), (0, .ref 10), (1, .int (nI i)), (2, .int x2), (3, .int x3), (4, .int x4), (5, .int x5)], [], wP pre (wN p q (cpm op p 292) (cpm oq q 292) tr dp wi fa ob st of F), 0)) (s2 := (134, [(11, .int (nI 292)), (10, .int y4), (9, .int y3), (8, .int y2), (7, .int y1), (6, .int yd), (0, .ref 10), (1, .int (nI i)), (2, .int x2), (3, .int x3), (4, .int x4), (5, .int x5)], [], wP pre (wN p q (cpm op p 292) (cpm oq q 292) tr dp wi fa ob st of F), 0)) rfl (fun _ => ?_) (fun h => absurd (nI_le (show 292 ≤ 292 by omega) (by omega)) h)
    exact hK

  | m + 1, k, hm => by
    refine mm_skip (mm_call_mono _ _) 2 (st' := (131, [(11, .int (nI k)), (10, .int y4), (9, .int y3), (8, .int y2), (7, .int y1), (6, .int yd), (0, .ref 10), (1, .int (nI i)), (2, .int x2), (3, .int x3), (4, .int x4), (5, .int x5)], [.int 292, .int (nI k)], wP pre (wN p q (cpm op p k) (cpm oq q k) tr dp wi fa ob st of F), 0)) rfl ?_
    refine mm_branch (mm_call_mono _ _) (c := 292 ≤ (nI k)) (s1 := (168, [(11, .int (nI k)), (10, .int y4), (9, .int y3), (8, .int y2), (7, .int y1), (6, .int yd), (0, .ref 10), (1, .int (nI i)), (2, .int x2), (3, .int x3), (4, .int x4), (5, .int x5)], [], wP pre (wN p q (cpm op p k) (cpm oq q k) tr dp wi fa ob st of F), 0)) (s2 := (134, [(11, .int (nI k)), (10, .int y4), (9, .int y3), (8, .int y2), (7, .int y1), (6, .int yd), (0, .ref 10), (1, .int (nI i)), (2, .int x2), (3, .int x3), (4, .int x4), (5, .int x5)], [], wP pre (wN p q (cpm op p k) (cpm oq q k) tr dp wi fa ob st of F), 0)) rfl (fun h => absurd h (nI_ge (show k < 292 by omega) (by decide))) (fun _ => ?_)
    refine mm_skip (mm_call_mono _ _) 6 (st' := (146, [(11, .int (nI k)), (10, .int y4), (9, .int y3), (8, .int y2), (7, .int y1), (6, .int yd), (0, .ref 10), (1, .int (nI i)), (2, .int x2), (3, .int x3), (4, .int x4), (5, .int x5)], [.int (nI k), .ref 11, .int (nI k), .ref 13], wP pre (wN p q (cpm op p k) (cpm oq q k) tr dp wi fa ob st of F), 0)) rfl ?_
    refine mm_need (mm_call_mono _ _) (c := vp_in (nI k) 480) (s' := (147, [(11, .int (nI k)), (10, .int y4), (9, .int y3), (8, .int y2), (7, .int y1), (6, .int yd), (0, .ref 10), (1, .int (nI i)), (2, .int x2), (3, .int x3), (4, .int x4), (5, .int x5)], [.long (p (Int32.toNatClampNeg (nI k))), .int (nI k), .ref 13], wP pre (wN p q (cpm op p k) (cpm oq q k) tr dp wi fa ob st of F), 0)) rfl (vp_in_nI (show k < 480 by omega) (by decide)) ?_
    rw [nI_clamp (show k < 2 ^ 31 by omega)]
    show mm_W _ _ _ _ _ _ _ (147, [(11, .int (nI k)), (10, .int y4), (9, .int y3), (8, .int y2), (7, .int y1), (6, .int yd), (0, .ref 10), (1, .int (nI i)), (2, .int x2), (3, .int x3), (4, .int x4), (5, .int x5)], [.long (p k), .int (nI k), .ref 13], wP pre (wN p q (cpm op p k) (cpm oq q k) tr dp wi fa ob st of F), 0)
    refine mm_need (mm_call_mono _ _) (c := vp_in (nI k) 292) (s' := (148, [(11, .int (nI k)), (10, .int y4), (9, .int y3), (8, .int y2), (7, .int y1), (6, .int yd), (0, .ref 10), (1, .int (nI i)), (2, .int x2), (3, .int x3), (4, .int x4), (5, .int x5)], [], wP pre (wN p q (vp_updL (cpm op p k) (Int32.toNatClampNeg (nI k)) (p k)) (cpm oq q k) tr dp wi fa ob st of F), 0)) rfl (vp_in_nI (show k < 292 by omega) (by decide)) ?_
    rw [nI_clamp (show k < 2 ^ 31 by omega)]
    show mm_W _ _ _ _ _ _ _ (148, [(11, .int (nI k)), (10, .int y4), (9, .int y3), (8, .int y2), (7, .int y1), (6, .int yd), (0, .ref 10), (1, .int (nI i)), (2, .int x2), (3, .int x3), (4, .int x4), (5, .int x5)], [], wP pre (wN p q (vp_updL (cpm op p k) k (p k)) (cpm oq q k) tr dp wi fa ob st of F), 0)
    refine mm_skip (mm_call_mono _ _) 6 (st' := (160, [(11, .int (nI k)), (10, .int y4), (9, .int y3), (8, .int y2), (7, .int y1), (6, .int yd), (0, .ref 10), (1, .int (nI i)), (2, .int x2), (3, .int x3), (4, .int x4), (5, .int x5)], [.int (nI k), .ref 12, .int (nI k), .ref 14], wP pre (wN p q (vp_updL (cpm op p k) k (p k)) (cpm oq q k) tr dp wi fa ob st of F), 0)) rfl ?_
    refine mm_need (mm_call_mono _ _) (c := vp_in (nI k) 480) (s' := (161, [(11, .int (nI k)), (10, .int y4), (9, .int y3), (8, .int y2), (7, .int y1), (6, .int yd), (0, .ref 10), (1, .int (nI i)), (2, .int x2), (3, .int x3), (4, .int x4), (5, .int x5)], [.long (q (Int32.toNatClampNeg (nI k))), .int (nI k), .ref 14], wP pre (wN p q (vp_updL (cpm op p k) k (p k)) (cpm oq q k) tr dp wi fa ob st of F), 0)) rfl (vp_in_nI (show k < 480 by omega) (by decide)) ?_
    rw [nI_clamp (show k < 2 ^ 31 by omega)]
    show mm_W _ _ _ _ _ _ _ (161, [(11, .int (nI k)), (10, .int y4), (9, .int y3), (8, .int y2), (7, .int y1), (6, .int yd), (0, .ref 10), (1, .int (nI i)), (2, .int x2), (3, .int x3), (4, .int x4), (5, .int x5)], [.long (q k), .int (nI k), .ref 14], wP pre (wN p q (vp_updL (cpm op p k) k (p k)) (cpm oq q k) tr dp wi fa ob st of F), 0)
    refine mm_need (mm_call_mono _ _) (c := vp_in (nI k) 292) (s' := (162, [(11, .int (nI k)), (10, .int y4), (9, .int y3), (8, .int y2), (7, .int y1), (6, .int yd), (0, .ref 10), (1, .int (nI i)), (2, .int x2), (3, .int x3), (4, .int x4), (5, .int x5)], [], wP pre (wN p q (vp_updL (cpm op p k) k (p k)) (vp_updL (cpm oq q k) (Int32.toNatClampNeg (nI k)) (q k)) tr dp wi fa ob st of F), 0)) rfl (vp_in_nI (show k < 292 by omega) (by decide)) ?_
    rw [nI_clamp (show k < 2 ^ 31 by omega)]
    show mm_W _ _ _ _ _ _ _ (162, [(11, .int (nI k)), (10, .int y4), (9, .int y3), (8, .int y2), (7, .int y1), (6, .int yd), (0, .ref 10), (1, .int (nI i)), (2, .int x2), (3, .int x3), (4, .int x4), (5, .int x5)], [], wP pre (wN p q (vp_updL (cpm op p k) k (p k)) (vp_updL (cpm oq q k) k (q k)) tr dp wi fa ob st of F), 0)
    refine mm_skip (mm_call_mono _ _) 2 (st' := (126, [(11, .int ((nI k) + 1)), (10, .int y4), (9, .int y3), (8, .int y2), (7, .int y1), (6, .int yd), (0, .ref 10), (1, .int (nI i)), (2, .int x2), (3, .int x3), (4, .int x4), (5, .int x5)], [], wP pre (wN p q (vp_updL (cpm op p k) k (p k)) (vp_updL (cpm oq q k) k (q k)) tr dp wi fa ob st of F), 0)) rfl ?_
    rw [nI_p1 (k)]
    show mm_W _ _ _ _ _ _ _ (126, [(11, .int (nI (k + 1))), (10, .int y4), (9, .int y3), (8, .int y2), (7, .int y1), (6, .int yd), (0, .ref 10), (1, .int (nI i)), (2, .int x2), (3, .int x3), (4, .int x4), (5, .int x5)], [], wP pre (wN p q (vp_updL (cpm op p k) k (p k)) (vp_updL (cpm oq q k) k (q k)) tr dp wi fa ob st of F), 0)
    rw [cpm_s, cpm_s]
    exact mv_l1 hK m (k + 1) (by omega)

set_option maxRecDepth 100000 in
theorem mv_l2 {d : Nat} {pre : mm_pre} {p q op oq : Nat → Int64} {tr dp wi fa ob : Int32} {st of : Nat → Int32} {F : mm_M} {i : Nat} {x2 x3 x4 x5 y1 y2 y3 y4 yd : Int32} {rr : Int32} {Q : mm_R → mm_M → Prop} (hK : Q (.inl (some (.int rr))) (wP pre (wN (cpm p op 292) (cpm q oq 292) op oq tr dp wi fa ob st of F))) : ∀ (m k : Nat), k + m = 292 → mm_W (mm_call mm_Tb d) mp_M_move (mm_bt mm_Tb) 0 (some .int) 13 Q (212, [(12, .int (nI k)), (11, .int rr), (10, .int y4), (9, .int y3), (8, .int y2), (7, .int y1), (6, .int yd), (0, .ref 10), (1, .int (nI i)), (2, .int x2), (3, .int x3), (4, .int x4), (5, .int x5)], [], wP pre (wN (cpm p op k) (cpm q oq k) op oq tr dp wi fa ob st of F), 0)
  | 0, k, hm => by
    have e : k = 292 := by omega
    subst e
    refine mm_skip (mm_call_mono _ _) 2 (st' := (217, [(12, .int (nI 292)), (11, .int rr), (10, .int y4), (9, .int y3), (8, .int y2), (7, .int y1), (6, .int yd), (0, .ref 10), (1, .int (nI i)), (2, .int x2), (3, .int x3), (4, .int x4), (5, .int x5)], [.int 292, .int (nI 292)], wP pre (wN (cpm p op 292) (cpm q oq 292) op oq tr dp wi fa ob st of F), 0)) rfl ?_
    refine mm_branch (mm_call_mono _ _) (c := 292 ≤ (nI 292)) (s1 := (254, [(12, .int (nI 292)), (11, .int rr), (10, .int y4), (9, .int y3), (8, .int y2), (7, .int y1), (6, .int yd), (0, .ref 10), (1, .int (nI i)), (2, .int x2), (3, .int x3), (4, .int x4), (5, .int x5)], [], wP pre (wN (cpm p op 292) (cpm q oq 292) op oq tr dp wi fa ob st of F), 0)) (s2 := (220, [(12, .int (nI 292)), (11, .int rr), (10, .int y4), (9, .int y3), (8, .int y2), (7, .int y1), (6, .int yd), (0, .ref 10), (1, .int (nI i)), (2, .int x2), (3, .int x3), (4, .int x4), (5, .int x5)], [], wP pre (wN (cpm p op 292) (cpm q oq 292) op oq tr dp wi fa ob st of F), 0)) rfl (fun _ => ?_) (fun h => absurd (nI_le (show 292 ≤ 292 by omega) (by omega)) h)
    refine mm_skip (mm_call_mono _ _) 1 (st' := (256, [(12, .int (nI 292)), (11, .int rr), (10, .int y4), (9, .int y3), (8, .int y2), (7, .int y1), (6, .int yd), (0, .ref 10), (1, .int (nI i)), (2, .int x2), (3, .int x3), (4, .int x4), (5, .int x5)], [.int rr], wP pre (wN (cpm p op 292) (cpm q oq 292) op oq tr dp wi fa ob st of F), 0)) rfl ?_
    exact mm_ret (mm_call_mono _ _) (c := True) (r := .inl (some (.int rr))) (M := wP pre (wN (cpm p op 292) (cpm q oq 292) op oq tr dp wi fa ob st of F)) (u := 0) rfl trivial (by decide) hK

  | m + 1, k, hm => by
    refine mm_skip (mm_call_mono _ _) 2 (st' := (217, [(12, .int (nI k)), (11, .int rr), (10, .int y4), (9, .int y3), (8, .int y2), (7, .int y1), (6, .int yd), (0, .ref 10), (1, .int (nI i)), (2, .int x2), (3, .int x3), (4, .int x4), (5, .int x5)], [.int 292, .int (nI k)], wP pre (wN (cpm p op k) (cpm q oq k) op oq tr dp wi fa ob st of F), 0)) rfl ?_
    refine mm_branch (mm_call_mono _ _) (c := 292 ≤ (nI k)) (s1 := (254, [(12, .int (nI k)), (11, .int rr), (10, .int y4), (9, .int y3), (8, .int y2), (7, .int y1), (6, .int yd), (0, .ref 10), (1, .int (nI i)), (2, .int x2), (3, .int x3), (4, .int x4), (5, .int x5)], [], wP pre (wN (cpm p op k) (cpm q oq k) op oq tr dp wi fa ob st of F), 0)) (s2 := (220, [(12, .int (nI k)), (11, .int rr), (10, .int y4), (9, .int y3), (8, .int y2), (7, .int y1), (6, .int yd), (0, .ref 10), (1, .int (nI i)), (2, .int x2), (3, .int x3), (4, .int x4), (5, .int x5)], [], wP pre (wN (cpm p op k) (cpm q oq k) op oq tr dp wi fa ob st of F), 0)) rfl (fun h => absurd h (nI_ge (show k < 292 by omega) (by decide))) (fun _ => ?_)
    refine mm_skip (mm_call_mono _ _) 6 (st' := (232, [(12, .int (nI k)), (11, .int rr), (10, .int y4), (9, .int y3), (8, .int y2), (7, .int y1), (6, .int yd), (0, .ref 10), (1, .int (nI i)), (2, .int x2), (3, .int x3), (4, .int x4), (5, .int x5)], [.int (nI k), .ref 13, .int (nI k), .ref 11], wP pre (wN (cpm p op k) (cpm q oq k) op oq tr dp wi fa ob st of F), 0)) rfl ?_
    refine mm_need (mm_call_mono _ _) (c := vp_in (nI k) 292) (s' := (233, [(12, .int (nI k)), (11, .int rr), (10, .int y4), (9, .int y3), (8, .int y2), (7, .int y1), (6, .int yd), (0, .ref 10), (1, .int (nI i)), (2, .int x2), (3, .int x3), (4, .int x4), (5, .int x5)], [.long (op (Int32.toNatClampNeg (nI k))), .int (nI k), .ref 11], wP pre (wN (cpm p op k) (cpm q oq k) op oq tr dp wi fa ob st of F), 0)) rfl (vp_in_nI (show k < 292 by omega) (by decide)) ?_
    rw [nI_clamp (show k < 2 ^ 31 by omega)]
    show mm_W _ _ _ _ _ _ _ (233, [(12, .int (nI k)), (11, .int rr), (10, .int y4), (9, .int y3), (8, .int y2), (7, .int y1), (6, .int yd), (0, .ref 10), (1, .int (nI i)), (2, .int x2), (3, .int x3), (4, .int x4), (5, .int x5)], [.long (op k), .int (nI k), .ref 11], wP pre (wN (cpm p op k) (cpm q oq k) op oq tr dp wi fa ob st of F), 0)
    refine mm_need (mm_call_mono _ _) (c := vp_in (nI k) 480) (s' := (234, [(12, .int (nI k)), (11, .int rr), (10, .int y4), (9, .int y3), (8, .int y2), (7, .int y1), (6, .int yd), (0, .ref 10), (1, .int (nI i)), (2, .int x2), (3, .int x3), (4, .int x4), (5, .int x5)], [], wP pre (wN (vp_updL (cpm p op k) (Int32.toNatClampNeg (nI k)) (op k)) (cpm q oq k) op oq tr dp wi fa ob st of F), 0)) rfl (vp_in_nI (show k < 480 by omega) (by decide)) ?_
    rw [nI_clamp (show k < 2 ^ 31 by omega)]
    show mm_W _ _ _ _ _ _ _ (234, [(12, .int (nI k)), (11, .int rr), (10, .int y4), (9, .int y3), (8, .int y2), (7, .int y1), (6, .int yd), (0, .ref 10), (1, .int (nI i)), (2, .int x2), (3, .int x3), (4, .int x4), (5, .int x5)], [], wP pre (wN (vp_updL (cpm p op k) k (op k)) (cpm q oq k) op oq tr dp wi fa ob st of F), 0)
    refine mm_skip (mm_call_mono _ _) 6 (st' := (246, [(12, .int (nI k)), (11, .int rr), (10, .int y4), (9, .int y3), (8, .int y2), (7, .int y1), (6, .int yd), (0, .ref 10), (1, .int (nI i)), (2, .int x2), (3, .int x3), (4, .int x4), (5, .int x5)], [.int (nI k), .ref 14, .int (nI k), .ref 12], wP pre (wN (vp_updL (cpm p op k) k (op k)) (cpm q oq k) op oq tr dp wi fa ob st of F), 0)) rfl ?_
    refine mm_need (mm_call_mono _ _) (c := vp_in (nI k) 292) (s' := (247, [(12, .int (nI k)), (11, .int rr), (10, .int y4), (9, .int y3), (8, .int y2), (7, .int y1), (6, .int yd), (0, .ref 10), (1, .int (nI i)), (2, .int x2), (3, .int x3), (4, .int x4), (5, .int x5)], [.long (oq (Int32.toNatClampNeg (nI k))), .int (nI k), .ref 12], wP pre (wN (vp_updL (cpm p op k) k (op k)) (cpm q oq k) op oq tr dp wi fa ob st of F), 0)) rfl (vp_in_nI (show k < 292 by omega) (by decide)) ?_
    rw [nI_clamp (show k < 2 ^ 31 by omega)]
    show mm_W _ _ _ _ _ _ _ (247, [(12, .int (nI k)), (11, .int rr), (10, .int y4), (9, .int y3), (8, .int y2), (7, .int y1), (6, .int yd), (0, .ref 10), (1, .int (nI i)), (2, .int x2), (3, .int x3), (4, .int x4), (5, .int x5)], [.long (oq k), .int (nI k), .ref 12], wP pre (wN (vp_updL (cpm p op k) k (op k)) (cpm q oq k) op oq tr dp wi fa ob st of F), 0)
    refine mm_need (mm_call_mono _ _) (c := vp_in (nI k) 480) (s' := (248, [(12, .int (nI k)), (11, .int rr), (10, .int y4), (9, .int y3), (8, .int y2), (7, .int y1), (6, .int yd), (0, .ref 10), (1, .int (nI i)), (2, .int x2), (3, .int x3), (4, .int x4), (5, .int x5)], [], wP pre (wN (vp_updL (cpm p op k) k (op k)) (vp_updL (cpm q oq k) (Int32.toNatClampNeg (nI k)) (oq k)) op oq tr dp wi fa ob st of F), 0)) rfl (vp_in_nI (show k < 480 by omega) (by decide)) ?_
    rw [nI_clamp (show k < 2 ^ 31 by omega)]
    show mm_W _ _ _ _ _ _ _ (248, [(12, .int (nI k)), (11, .int rr), (10, .int y4), (9, .int y3), (8, .int y2), (7, .int y1), (6, .int yd), (0, .ref 10), (1, .int (nI i)), (2, .int x2), (3, .int x3), (4, .int x4), (5, .int x5)], [], wP pre (wN (vp_updL (cpm p op k) k (op k)) (vp_updL (cpm q oq k) k (oq k)) op oq tr dp wi fa ob st of F), 0)
    refine mm_skip (mm_call_mono _ _) 2 (st' := (212, [(12, .int ((nI k) + 1)), (11, .int rr), (10, .int y4), (9, .int y3), (8, .int y2), (7, .int y1), (6, .int yd), (0, .ref 10), (1, .int (nI i)), (2, .int x2), (3, .int x3), (4, .int x4), (5, .int x5)], [], wP pre (wN (vp_updL (cpm p op k) k (op k)) (vp_updL (cpm q oq k) k (oq k)) op oq tr dp wi fa ob st of F), 0)) rfl ?_
    rw [nI_p1 (k)]
    show mm_W _ _ _ _ _ _ _ (212, [(12, .int (nI (k + 1))), (11, .int rr), (10, .int y4), (9, .int y3), (8, .int y2), (7, .int y1), (6, .int yd), (0, .ref 10), (1, .int (nI i)), (2, .int x2), (3, .int x3), (4, .int x4), (5, .int x5)], [], wP pre (wN (vp_updL (cpm p op k) k (op k)) (vp_updL (cpm q oq k) k (oq k)) op oq tr dp wi fa ob st of F), 0)
    rw [cpm_s, cpm_s]
    exact mv_l2 hK m (k + 1) (by omega)

set_option maxRecDepth 100000 in
theorem mv_end {d : Nat} {pre : mm_pre} {s : Nat → fr} {op oq : Nat → Int64} {wi fa : Int32} {st of : Nat → Int32} {F : mm_M} {S : Nat → stp} {k : Nat} {L : lvR} {v : Nat → o3} {x2 x3 x4 x5 : Int32} {i : Nat} {Q : mm_R → mm_M → Prop} (hk : k ≤ 24) (hS : ∀ i, i < k → stR st of S i) (hw : ∀ i, i < k → wf S i) (hR : rI S s k v L) (hQ : ∀ (s1 : Nat → fr) (op1 oq1 : Nat → Int64) (dp1 w1 fa1 ob1 : Int32) (st1 of1 : Nat → Int32) (r : oc) (S1 : Nat → stp) (k1 : Nat), aMove S k (nI i) x2 x3 x4 x5 = (r, S1, k1) → mI S1 k1 s1 dp1 ob1 st1 of1 → Q (.inl (some (.int (rv r)))) (wP pre (wN (PP s1) (QQ s1) op1 oq1 (nI r.1) dp1 w1 fa1 ob1 st1 of1 F))) (hi : i < k) (y1 : ckd S k (nI i) = 0) (hz0 : (S i).1 = 0) (i1 : inp x2 x3) (i2 : inp x4 x5) : mm_W (mm_call mm_Tb (d + 16)) mp_M_move (mm_bt mm_Tb) 0 (some .int) 13 Q (168, [(11, .int (nI 292)), (10, .int (of (4 * i + 3))), (9, .int (of (4 * i + 2))), (8, .int (of (4 * i + 1))), (7, .int (of (4 * i))), (6, .int (nI L.1)), (0, .ref 10), (1, .int (nI i)), (2, .int x2), (3, .int x3), (4, .int x4), (5, .int x5)], [], wP pre (wN (PP s) (QQ s) (cpm op (PP s) 292) (cpm oq (QQ s) 292) 0 (nI L.1) wi fa (nI k) st of F), 0) := by
  refine mm_skip (mm_call_mono _ _) 6 (st' := (176, [(11, .int (nI 292)), (10, .int (of (4 * i + 3))), (9, .int (of (4 * i + 2))), (8, .int (of (4 * i + 1))), (7, .int (of (4 * i))), (6, .int (nI L.1)), (0, .ref 10), (1, .int (nI i)), (2, .int x2), (3, .int x3), (4, .int x4), (5, .int x5)], [.int x5, .int x4, .int x3, .int x2, .int (nI i), .ref 10], wP pre (wN (PP s) (QQ s) (cpm op (PP s) 292) (cpm oq (QQ s) 292) 0 (nI L.1) wi fa (nI k) st of F), 0)) rfl ?_
  refine mm_inv (mm_call_mono _ _) (j := 107) (a := [.ref 10, .int (nI i), .int x2, .int x3, .int x4, .int x5]) (M := wP pre (wN (PP s) (QQ s) (cpm op (PP s) 292) (cpm oq (QQ s) 292) 0 (nI L.1) wi fa (nI k) st of F)) (u := 0) rfl (by decide) (rk_become (by omega) ?_)
  show mm_W _ _ _ _ _ _ _ (179, [(11, .int (nI 292)), (10, .int (of (4 * i + 3))), (9, .int (of (4 * i + 2))), (8, .int (of (4 * i + 1))), (7, .int (of (4 * i))), (6, .int (nI L.1)), (0, .ref 10), (1, .int (nI i)), (2, .int x2), (3, .int x3), (4, .int x4), (5, .int x5)], [], wP pre (wN (PP s) (QQ s) (cpm op (PP s) 292) (cpm oq (QQ s) 292) 0 (nI L.1) wi fa (nI k) st (o4 of i x2 x3 x4 x5) F), 0)
  have hS1 : ∀ j, j < k → stR st (o4 of i x2 x3 x4 x5) (mvs S i (qf x2 x3) (qf x4 x5)) j := fun j hj => mv_stR (hS j hj) hz0 i1 i2
  have hw1 : ∀ j, j < k → wf (mvs S i (qf x2 x3) (qf x4 x5)) j := fun j hj => mv_wf (hw j hj) hz0 (inp_f i1).2 (inp_f i2).2
  refine mm_skip (mm_call_mono _ _) 1 (st' := (180, [(11, .int (nI 292)), (10, .int (of (4 * i + 3))), (9, .int (of (4 * i + 2))), (8, .int (of (4 * i + 1))), (7, .int (of (4 * i))), (6, .int (nI L.1)), (0, .ref 10), (1, .int (nI i)), (2, .int x2), (3, .int x3), (4, .int x4), (5, .int x5)], [.ref 10], wP pre (wN (PP s) (QQ s) (cpm op (PP s) 292) (cpm oq (QQ s) 292) 0 (nI L.1) wi fa (nI k) st (o4 of i x2 x3 x4 x5) F), 0)) rfl ?_
  refine mm_inv (mm_call_mono _ _) (j := 96) (a := [.ref 10]) (M := wP pre (wN (PP s) (QQ s) (cpm op (PP s) 292) (cpm oq (QQ s) 292) 0 (nI L.1) wi fa (nI k) st (o4 of i x2 x3 x4 x5) F)) (u := 0) rfl (by decide) (rk_redraw hk hS1 hw1 hR.2.2.2.2.1 hR.2.2.2.2.2 (fun s1 dp1 w1 fa1 rr hF => ?_))
  show mm_W _ _ _ _ _ _ _ (183, [(11, .int (nI 292)), (10, .int (of (4 * i + 3))), (9, .int (of (4 * i + 2))), (8, .int (of (4 * i + 1))), (7, .int (of (4 * i))), (6, .int (nI L.1)), (0, .ref 10), (1, .int (nI i)), (2, .int x2), (3, .int x3), (4, .int x4), (5, .int x5)], [.int rr], wP pre (wN (PP s1) (QQ s1) (cpm op (PP s) 292) (cpm oq (QQ s) 292) 0 dp1 w1 fa1 (nI k) st (o4 of i x2 x3 x4 x5) F), 0)
  obtain ⟨P1, P2⟩ := rw_mv hk hS1 hw1 hF
  refine mm_skip (mm_call_mono _ _) 2 (st' := (187, [(11, .int rr), (10, .int (of (4 * i + 3))), (9, .int (of (4 * i + 2))), (8, .int (of (4 * i + 1))), (7, .int (of (4 * i))), (6, .int (nI L.1)), (0, .ref 10), (1, .int (nI i)), (2, .int x2), (3, .int x3), (4, .int x4), (5, .int x5)], [.int rr], wP pre (wN (PP s1) (QQ s1) (cpm op (PP s) 292) (cpm oq (QQ s) 292) 0 dp1 w1 fa1 (nI k) st (o4 of i x2 x3 x4 x5) F), 0)) rfl ?_
  refine mm_branch (mm_call_mono _ _) (c := rr < 0) (s1 := (254, [(11, .int rr), (10, .int (of (4 * i + 3))), (9, .int (of (4 * i + 2))), (8, .int (of (4 * i + 1))), (7, .int (of (4 * i))), (6, .int (nI L.1)), (0, .ref 10), (1, .int (nI i)), (2, .int x2), (3, .int x3), (4, .int x4), (5, .int x5)], [], wP pre (wN (PP s1) (QQ s1) (cpm op (PP s) 292) (cpm oq (QQ s) 292) 0 dp1 w1 fa1 (nI k) st (o4 of i x2 x3 x4 x5) F), 0)) (s2 := (190, [(11, .int rr), (10, .int (of (4 * i + 3))), (9, .int (of (4 * i + 2))), (8, .int (of (4 * i + 1))), (7, .int (of (4 * i))), (6, .int (nI L.1)), (0, .ref 10), (1, .int (nI i)), (2, .int x2), (3, .int x3), (4, .int x4), (5, .int x5)], [], wP pre (wN (PP s1) (QQ s1) (cpm op (PP s) 292) (cpm oq (QQ s) 292) 0 dp1 w1 fa1 (nI k) st (o4 of i x2 x3 x4 x5) F), 0)) rfl (fun g1 => ?_) (fun g1 => ?_)
  · skip
    refine mm_skip (mm_call_mono _ _) 1 (st' := (256, [(11, .int rr), (10, .int (of (4 * i + 3))), (9, .int (of (4 * i + 2))), (8, .int (of (4 * i + 1))), (7, .int (of (4 * i))), (6, .int (nI L.1)), (0, .ref 10), (1, .int (nI i)), (2, .int x2), (3, .int x3), (4, .int x4), (5, .int x5)], [.int rr], wP pre (wN (PP s1) (QQ s1) (cpm op (PP s) 292) (cpm oq (QQ s) 292) 0 dp1 w1 fa1 (nI k) st (o4 of i x2 x3 x4 x5) F), 0)) rfl ?_
    exact mm_ret (mm_call_mono _ _) (c := True) (r := .inl (some (.int rr))) (M := wP pre (wN (PP s1) (QQ s1) (cpm op (PP s) 292) (cpm oq (QQ s) 292) 0 dp1 w1 fa1 (nI k) st (o4 of i x2 x3 x4 x5) F)) (u := 0) rfl trivial (by decide) (by rw [(P1 g1).2.1]; exact hQ _ _ _ _ _ _ _ _ _ (0, -1) _ _ (aMove_s (by omega) y1 hz0 i1 i2 (P1 g1).2.2) (P1 g1).1)
  · skip
    refine mm_skip (mm_call_mono _ _) 6 (st' := (200, [(11, .int rr), (10, .int (of (4 * i + 3))), (9, .int (of (4 * i + 2))), (8, .int (of (4 * i + 1))), (7, .int (of (4 * i))), (6, .int (nI L.1)), (0, .ref 10), (1, .int (nI i)), (2, .int x2), (3, .int x3), (4, .int x4), (5, .int x5)], [.int (of (4 * i + 3)), .int (of (4 * i + 2)), .int (of (4 * i + 1)), .int (of (4 * i)), .int (nI i), .ref 10], wP pre (wN (PP s1) (QQ s1) (cpm op (PP s) 292) (cpm oq (QQ s) 292) 0 dp1 w1 fa1 (nI k) st (o4 of i x2 x3 x4 x5) F), 0)) rfl ?_
    refine mm_inv (mm_call_mono _ _) (j := 107) (a := [.ref 10, .int (nI i), .int (of (4 * i)), .int (of (4 * i + 1)), .int (of (4 * i + 2)), .int (of (4 * i + 3))]) (M := wP pre (wN (PP s1) (QQ s1) (cpm op (PP s) 292) (cpm oq (QQ s) 292) 0 dp1 w1 fa1 (nI k) st (o4 of i x2 x3 x4 x5) F)) (u := 0) rfl (by decide) (rk_become2 (by omega) o4_id ?_)
    show mm_W _ _ _ _ _ _ _ (203, [(11, .int rr), (10, .int (of (4 * i + 3))), (9, .int (of (4 * i + 2))), (8, .int (of (4 * i + 1))), (7, .int (of (4 * i))), (6, .int (nI L.1)), (0, .ref 10), (1, .int (nI i)), (2, .int x2), (3, .int x3), (4, .int x4), (5, .int x5)], [], wP pre (wN (PP s1) (QQ s1) (cpm op (PP s) 292) (cpm oq (QQ s) 292) 0 dp1 w1 fa1 (nI k) st of F), 0)
    refine mm_skip (mm_call_mono _ _) 5 (st' := (212, [(12, .int 0), (11, .int rr), (10, .int (of (4 * i + 3))), (9, .int (of (4 * i + 2))), (8, .int (of (4 * i + 1))), (7, .int (of (4 * i))), (6, .int (nI L.1)), (0, .ref 10), (1, .int (nI i)), (2, .int x2), (3, .int x3), (4, .int x4), (5, .int x5)], [], wP pre (wN (PP s1) (QQ s1) (cpm op (PP s) 292) (cpm oq (QQ s) 292) 0 (nI L.1) w1 fa1 (nI k) st of F), 0)) rfl ?_
    have e0 := @cpm_0 (PP s1) (cpm op (PP s) 292)
    have e1 := @cpm_0 (QQ s1) (cpm oq (QQ s) 292)
    have hl2 := mv_l2 (d := d + 16) (pre := pre) (p := PP s1) (q := QQ s1) (op := cpm op (PP s) 292) (oq := cpm oq (QQ s) 292) (tr := 0) (dp := nI L.1) (wi := w1) (fa := fa1) (ob := nI k) (st := st) (of := of) (F := F) (i := i) (x2 := x2) (x3 := x3) (x4 := x4) (x5 := x5) (y1 := of (4 * i)) (y2 := of (4 * i + 1)) (y3 := of (4 * i + 2)) (y4 := of (4 * i + 3)) (yd := nI L.1) (rr := rr) (Q := Q) (by rw [cp_P, cp_Q, (P2 g1).2.1]; exact hQ _ _ _ _ _ _ _ _ _ (0, nI (ff (mvs S i (qf x2 x3) (qf x4 x5)) k)) S k ((aMove_n (by omega) y1 hz0 i1 i2 (P2 g1).1)) ⟨hk, rfl, hS, hw, v, L, rI_mx hk hR (P2 g1).2.2.1 (P2 g1).2.2.2, rfl⟩) 292 0 (by omega)
    rw [e0, e1] at hl2
    exact hl2

set_option maxRecDepth 100000 in
theorem rf_move {d : Nat} {pre : mm_pre} {s : Nat → fr} {op oq : Nat → Int64} {tr wi fa : Int32} {st of : Nat → Int32} {F : mm_M} {S : Nat → stp} {k : Nat} {L : lvR} {v : Nat → o3} {x1 x2 x3 x4 x5 : Int32} {Q : mm_R → mm_M → Prop} (hk : k ≤ 24) (hS : ∀ i, i < k → stR st of S i) (hw : ∀ i, i < k → wf S i) (hR : rI S s k v L) (hQ : ∀ (s1 : Nat → fr) (op1 oq1 : Nat → Int64) (dp1 w1 fa1 ob1 : Int32) (st1 of1 : Nat → Int32) (r : oc) (S1 : Nat → stp) (k1 : Nat), aMove S k x1 x2 x3 x4 x5 = (r, S1, k1) → mI S1 k1 s1 dp1 ob1 st1 of1 → Q (.inl (some (.int (rv r)))) (wP pre (wN (PP s1) (QQ s1) op1 oq1 (nI r.1) dp1 w1 fa1 ob1 st1 of1 F))) : mm_call mm_Tb (d + 17) 106 [.ref 10, .int x1, .int x2, .int x3, .int x4, .int x5] (wP pre (wN (PP s) (QQ s) op oq tr (nI L.1) wi fa (nI k) st of F)) Q := by
  refine mm_in mt_106 (Nat.le_of_ble_eq_true rfl) ?_
  show mm_W _ _ _ _ _ _ _ (0, [(0, .ref 10), (1, .int x1), (2, .int x2), (3, .int x3), (4, .int x4), (5, .int x5)], [], wP pre (wN (PP s) (QQ s) op oq tr (nI L.1) wi fa (nI k) st of F), 0)
  refine mm_skip (mm_call_mono _ _) 3 (st' := (3, [(0, .ref 10), (1, .int x1), (2, .int x2), (3, .int x3), (4, .int x4), (5, .int x5)], [.int x1, .ref 10, .ref 10], wP pre (wN (PP s) (QQ s) op oq tr (nI L.1) wi fa (nI k) st of F), 0)) rfl ?_
  refine mm_inv (mm_call_mono _ _) (j := 97) (a := [.ref 10, .int x1]) (M := wP pre (wN (PP s) (QQ s) op oq tr (nI L.1) wi fa (nI k) st of F)) (u := 0) rfl (by decide) (rk_isPoint hk hS hw ?_)
  show mm_W _ _ _ _ _ _ _ (6, [(0, .ref 10), (1, .int x1), (2, .int x2), (3, .int x3), (4, .int x4), (5, .int x5)], [.int (bz (ckd S k x1 = 0)), .ref 10], wP pre (wN (PP s) (QQ s) op oq tr (nI L.1) wi fa (nI k) st of F), 0)
  refine mm_branch (mm_call_mono _ _) (c := (bz (ckd S k x1 = 0)) = 0) (s1 := (31, [(0, .ref 10), (1, .int x1), (2, .int x2), (3, .int x3), (4, .int x4), (5, .int x5)], [.ref 10], wP pre (wN (PP s) (QQ s) op oq tr (nI L.1) wi fa (nI k) st of F), 0)) (s2 := (9, [(0, .ref 10), (1, .int x1), (2, .int x2), (3, .int x3), (4, .int x4), (5, .int x5)], [.ref 10], wP pre (wN (PP s) (QQ s) op oq tr (nI L.1) wi fa (nI k) st of F), 0)) rfl (fun z1 => ?_) (fun z1 => ?_)
  · skip
    refine mm_skip (mm_call_mono _ _) 4 (st' := (39, [(0, .ref 10), (1, .int x1), (2, .int x2), (3, .int x3), (4, .int x4), (5, .int x5)], [.int 1], wP pre (wN (PP s) (QQ s) op oq 1 (nI L.1) wi fa (nI k) st of F), 0)) rfl ?_
    refine mm_branch (mm_call_mono _ _) (c := (1 : Int32) ≤ 0) (s1 := (44, [(0, .ref 10), (1, .int x1), (2, .int x2), (3, .int x3), (4, .int x4), (5, .int x5)], [], wP pre (wN (PP s) (QQ s) op oq 1 (nI L.1) wi fa (nI k) st of F), 0)) (s2 := (42, [(0, .ref 10), (1, .int x1), (2, .int x2), (3, .int x3), (4, .int x4), (5, .int x5)], [], wP pre (wN (PP s) (QQ s) op oq 1 (nI L.1) wi fa (nI k) st of F), 0)) rfl (fun h => absurd h (by decide)) (fun _ => ?_)
    refine mm_skip (mm_call_mono _ _) 1 (st' := (43, [(0, .ref 10), (1, .int x1), (2, .int x2), (3, .int x3), (4, .int x4), (5, .int x5)], [.int 0], wP pre (wN (PP s) (QQ s) op oq 1 (nI L.1) wi fa (nI k) st of F), 0)) rfl ?_
    exact mm_ret (mm_call_mono _ _) (c := True) (r := .inl (some (.int 0))) (M := wP pre (wN (PP s) (QQ s) op oq 1 (nI L.1) wi fa (nI k) st of F)) (u := 0) rfl trivial (by decide) (hQ _ _ _ _ _ _ _ _ _ (1, 0) S k (if_neg (fun z => bz_0 z1 z.1.1)) ⟨hk, rfl, hS, hw, v, L, hR, rfl⟩)
  · skip
    have y1 := bz_1 z1
    obtain ⟨i, hi, rfl, pi⟩ := ckd_pt hk (bz_1 z1)
    refine mm_skip (mm_call_mono _ _) 2 (st' := (11, [(0, .ref 10), (1, .int (nI i)), (2, .int x2), (3, .int x3), (4, .int x4), (5, .int x5)], [.int x3, .int x2, .ref 10], wP pre (wN (PP s) (QQ s) op oq tr (nI L.1) wi fa (nI k) st of F), 0)) rfl ?_
    refine mm_inv (mm_call_mono _ _) (j := 100) (a := [.int x2, .int x3]) (M := wP pre (wN (PP s) (QQ s) op oq tr (nI L.1) wi fa (nI k) st of F)) (u := 0) rfl (by decide) (rk_isFrac ?_)
    show mm_W _ _ _ _ _ _ _ (14, [(0, .ref 10), (1, .int (nI i)), (2, .int x2), (3, .int x3), (4, .int x4), (5, .int x5)], [.int (bz (inp x2 x3)), .ref 10], wP pre (wN (PP s) (QQ s) op oq tr (nI L.1) wi fa (nI k) st of F), 0)
    refine mm_branch (mm_call_mono _ _) (c := (bz (inp x2 x3)) = 0) (s1 := (31, [(0, .ref 10), (1, .int (nI i)), (2, .int x2), (3, .int x3), (4, .int x4), (5, .int x5)], [.ref 10], wP pre (wN (PP s) (QQ s) op oq tr (nI L.1) wi fa (nI k) st of F), 0)) (s2 := (17, [(0, .ref 10), (1, .int (nI i)), (2, .int x2), (3, .int x3), (4, .int x4), (5, .int x5)], [.ref 10], wP pre (wN (PP s) (QQ s) op oq tr (nI L.1) wi fa (nI k) st of F), 0)) rfl (fun z2 => ?_) (fun z2 => ?_)
    · skip
      refine mm_skip (mm_call_mono _ _) 4 (st' := (39, [(0, .ref 10), (1, .int (nI i)), (2, .int x2), (3, .int x3), (4, .int x4), (5, .int x5)], [.int 1], wP pre (wN (PP s) (QQ s) op oq 1 (nI L.1) wi fa (nI k) st of F), 0)) rfl ?_
      refine mm_branch (mm_call_mono _ _) (c := (1 : Int32) ≤ 0) (s1 := (44, [(0, .ref 10), (1, .int (nI i)), (2, .int x2), (3, .int x3), (4, .int x4), (5, .int x5)], [], wP pre (wN (PP s) (QQ s) op oq 1 (nI L.1) wi fa (nI k) st of F), 0)) (s2 := (42, [(0, .ref 10), (1, .int (nI i)), (2, .int x2), (3, .int x3), (4, .int x4), (5, .int x5)], [], wP pre (wN (PP s) (QQ s) op oq 1 (nI L.1) wi fa (nI k) st of F), 0)) rfl (fun h => absurd h (by decide)) (fun _ => ?_)
      refine mm_skip (mm_call_mono _ _) 1 (st' := (43, [(0, .ref 10), (1, .int (nI i)), (2, .int x2), (3, .int x3), (4, .int x4), (5, .int x5)], [.int 0], wP pre (wN (PP s) (QQ s) op oq 1 (nI L.1) wi fa (nI k) st of F), 0)) rfl ?_
      exact mm_ret (mm_call_mono _ _) (c := True) (r := .inl (some (.int 0))) (M := wP pre (wN (PP s) (QQ s) op oq 1 (nI L.1) wi fa (nI k) st of F)) (u := 0) rfl trivial (by decide) (hQ _ _ _ _ _ _ _ _ _ (1, 0) S k (if_neg (fun z => bz_0 z2 z.2.1)) ⟨hk, rfl, hS, hw, v, L, hR, rfl⟩)
    · skip
      refine mm_skip (mm_call_mono _ _) 2 (st' := (21, [(0, .ref 10), (1, .int (nI i)), (2, .int x2), (3, .int x3), (4, .int x4), (5, .int x5)], [.int x5, .int x4, .ref 10], wP pre (wN (PP s) (QQ s) op oq tr (nI L.1) wi fa (nI k) st of F), 0)) rfl ?_
      refine mm_inv (mm_call_mono _ _) (j := 100) (a := [.int x4, .int x5]) (M := wP pre (wN (PP s) (QQ s) op oq tr (nI L.1) wi fa (nI k) st of F)) (u := 0) rfl (by decide) (rk_isFrac ?_)
      show mm_W _ _ _ _ _ _ _ (24, [(0, .ref 10), (1, .int (nI i)), (2, .int x2), (3, .int x3), (4, .int x4), (5, .int x5)], [.int (bz (inp x4 x5)), .ref 10], wP pre (wN (PP s) (QQ s) op oq tr (nI L.1) wi fa (nI k) st of F), 0)
      refine mm_branch (mm_call_mono _ _) (c := (bz (inp x4 x5)) = 0) (s1 := (31, [(0, .ref 10), (1, .int (nI i)), (2, .int x2), (3, .int x3), (4, .int x4), (5, .int x5)], [.ref 10], wP pre (wN (PP s) (QQ s) op oq tr (nI L.1) wi fa (nI k) st of F), 0)) (s2 := (27, [(0, .ref 10), (1, .int (nI i)), (2, .int x2), (3, .int x3), (4, .int x4), (5, .int x5)], [.ref 10], wP pre (wN (PP s) (QQ s) op oq tr (nI L.1) wi fa (nI k) st of F), 0)) rfl (fun z3 => ?_) (fun z3 => ?_)
      · skip
        refine mm_skip (mm_call_mono _ _) 4 (st' := (39, [(0, .ref 10), (1, .int (nI i)), (2, .int x2), (3, .int x3), (4, .int x4), (5, .int x5)], [.int 1], wP pre (wN (PP s) (QQ s) op oq 1 (nI L.1) wi fa (nI k) st of F), 0)) rfl ?_
        refine mm_branch (mm_call_mono _ _) (c := (1 : Int32) ≤ 0) (s1 := (44, [(0, .ref 10), (1, .int (nI i)), (2, .int x2), (3, .int x3), (4, .int x4), (5, .int x5)], [], wP pre (wN (PP s) (QQ s) op oq 1 (nI L.1) wi fa (nI k) st of F), 0)) (s2 := (42, [(0, .ref 10), (1, .int (nI i)), (2, .int x2), (3, .int x3), (4, .int x4), (5, .int x5)], [], wP pre (wN (PP s) (QQ s) op oq 1 (nI L.1) wi fa (nI k) st of F), 0)) rfl (fun h => absurd h (by decide)) (fun _ => ?_)
        refine mm_skip (mm_call_mono _ _) 1 (st' := (43, [(0, .ref 10), (1, .int (nI i)), (2, .int x2), (3, .int x3), (4, .int x4), (5, .int x5)], [.int 0], wP pre (wN (PP s) (QQ s) op oq 1 (nI L.1) wi fa (nI k) st of F), 0)) rfl ?_
        exact mm_ret (mm_call_mono _ _) (c := True) (r := .inl (some (.int 0))) (M := wP pre (wN (PP s) (QQ s) op oq 1 (nI L.1) wi fa (nI k) st of F)) (u := 0) rfl trivial (by decide) (hQ _ _ _ _ _ _ _ _ _ (1, 0) S k (if_neg (fun z => bz_0 z3 z.2.2)) ⟨hk, rfl, hS, hw, v, L, hR, rfl⟩)
      · skip
        refine mm_skip (mm_call_mono _ _) 5 (st' := (39, [(0, .ref 10), (1, .int (nI i)), (2, .int x2), (3, .int x3), (4, .int x4), (5, .int x5)], [.int 0], wP pre (wN (PP s) (QQ s) op oq 0 (nI L.1) wi fa (nI k) st of F), 0)) rfl ?_
        refine mm_branch (mm_call_mono _ _) (c := (0 : Int32) ≤ 0) (s1 := (44, [(0, .ref 10), (1, .int (nI i)), (2, .int x2), (3, .int x3), (4, .int x4), (5, .int x5)], [], wP pre (wN (PP s) (QQ s) op oq 0 (nI L.1) wi fa (nI k) st of F), 0)) (s2 := (42, [(0, .ref 10), (1, .int (nI i)), (2, .int x2), (3, .int x3), (4, .int x4), (5, .int x5)], [], wP pre (wN (PP s) (QQ s) op oq 0 (nI L.1) wi fa (nI k) st of F), 0)) rfl (fun _ => ?_) (fun h => absurd (by decide) h)
        refine mm_skip (mm_call_mono _ _) 4 (st' := (50, [(0, .ref 10), (1, .int (nI i)), (2, .int x2), (3, .int x3), (4, .int x4), (5, .int x5)], [.int (nI i), .ref 15, .ref 10], wP pre (wN (PP s) (QQ s) op oq 0 (nI L.1) wi fa (nI k) st of F), 0)) rfl ?_
        refine mm_need (mm_call_mono _ _) (c := vp_in (nI i) 24) (s' := (51, [(0, .ref 10), (1, .int (nI i)), (2, .int x2), (3, .int x3), (4, .int x4), (5, .int x5)], [.int (st (Int32.toNatClampNeg (nI i))), .ref 10], wP pre (wN (PP s) (QQ s) op oq 0 (nI L.1) wi fa (nI k) st of F), 0)) rfl (vp_in_nI (show i < 24 by omega) (by decide)) ?_
        rw [nI_clamp (show i < 2 ^ 31 by omega)]
        show mm_W _ _ _ _ _ _ _ (51, [(0, .ref 10), (1, .int (nI i)), (2, .int x2), (3, .int x3), (4, .int x4), (5, .int x5)], [.int (st i), .ref 10], wP pre (wN (PP s) (QQ s) op oq 0 (nI L.1) wi fa (nI k) st of F), 0)
        refine mm_branch (mm_call_mono _ _) (c := (st i) = 0) (s1 := (54, [(0, .ref 10), (1, .int (nI i)), (2, .int x2), (3, .int x3), (4, .int x4), (5, .int x5)], [.ref 10], wP pre (wN (PP s) (QQ s) op oq 0 (nI L.1) wi fa (nI k) st of F), 0)) (s2 := (58, [(0, .ref 10), (1, .int (nI i)), (2, .int x2), (3, .int x3), (4, .int x4), (5, .int x5)], [.ref 10], wP pre (wN (PP s) (QQ s) op oq 0 (nI L.1) wi fa (nI k) st of F), 0)) rfl (fun zf => ?_) (fun zf => ?_)
        · have hz0 : (S i).1 = 0 := rc_i (i := 0) (rc_of (hS i hi).1 (hw i hi).1 (by rw [zf]; rfl)) (by decide)
          refine mm_skip (mm_call_mono _ _) 5 (st' := (66, [(0, .ref 10), (1, .int (nI i)), (2, .int x2), (3, .int x3), (4, .int x4), (5, .int x5)], [.int 0], wP pre (wN (PP s) (QQ s) op oq 0 (nI L.1) wi fa (nI k) st of F), 0)) rfl ?_
          refine mm_branch (mm_call_mono _ _) (c := (0 : Int32) ≤ 0) (s1 := (71, [(0, .ref 10), (1, .int (nI i)), (2, .int x2), (3, .int x3), (4, .int x4), (5, .int x5)], [], wP pre (wN (PP s) (QQ s) op oq 0 (nI L.1) wi fa (nI k) st of F), 0)) (s2 := (69, [(0, .ref 10), (1, .int (nI i)), (2, .int x2), (3, .int x3), (4, .int x4), (5, .int x5)], [], wP pre (wN (PP s) (QQ s) op oq 0 (nI L.1) wi fa (nI k) st of F), 0)) rfl (fun _ => ?_) (fun h => absurd (by decide) h)
          refine mm_skip (mm_call_mono _ _) 8 (st' := (84, [(6, .int (nI L.1)), (0, .ref 10), (1, .int (nI i)), (2, .int x2), (3, .int x3), (4, .int x4), (5, .int x5)], [.int (4 * (nI i)), .ref 16], wP pre (wN (PP s) (QQ s) op oq 0 (nI L.1) wi fa (nI k) st of F), 0)) rfl ?_
          rw [nI_m4 i]
          show mm_W _ _ _ _ _ _ _ (84, [(6, .int (nI L.1)), (0, .ref 10), (1, .int (nI i)), (2, .int x2), (3, .int x3), (4, .int x4), (5, .int x5)], [.int (nI (4 * i)), .ref 16], wP pre (wN (PP s) (QQ s) op oq 0 (nI L.1) wi fa (nI k) st of F), 0)
          refine mm_need (mm_call_mono _ _) (c := vp_in (nI (4 * i)) 96) (s' := (85, [(6, .int (nI L.1)), (0, .ref 10), (1, .int (nI i)), (2, .int x2), (3, .int x3), (4, .int x4), (5, .int x5)], [.int (of (Int32.toNatClampNeg (nI (4 * i))))], wP pre (wN (PP s) (QQ s) op oq 0 (nI L.1) wi fa (nI k) st of F), 0)) rfl (vp_in_nI (show (4 * i) < 96 by omega) (by decide)) ?_
          rw [nI_clamp (show (4 * i) < 2 ^ 31 by omega)]
          show mm_W _ _ _ _ _ _ _ (85, [(6, .int (nI L.1)), (0, .ref 10), (1, .int (nI i)), (2, .int x2), (3, .int x3), (4, .int x4), (5, .int x5)], [.int (of (4 * i))], wP pre (wN (PP s) (QQ s) op oq 0 (nI L.1) wi fa (nI k) st of F), 0)
          refine mm_skip (mm_call_mono _ _) 8 (st' := (96, [(7, .int (of (4 * i))), (6, .int (nI L.1)), (0, .ref 10), (1, .int (nI i)), (2, .int x2), (3, .int x3), (4, .int x4), (5, .int x5)], [.int ((4 * (nI i)) + 1), .ref 16], wP pre (wN (PP s) (QQ s) op oq 0 (nI L.1) wi fa (nI k) st of F), 0)) rfl ?_
          rw [nI_m4 i]
          rw [nI_p1 ((4 * i))]
          show mm_W _ _ _ _ _ _ _ (96, [(7, .int (of (4 * i))), (6, .int (nI L.1)), (0, .ref 10), (1, .int (nI i)), (2, .int x2), (3, .int x3), (4, .int x4), (5, .int x5)], [.int (nI (4 * i + 1)), .ref 16], wP pre (wN (PP s) (QQ s) op oq 0 (nI L.1) wi fa (nI k) st of F), 0)
          refine mm_need (mm_call_mono _ _) (c := vp_in (nI (4 * i + 1)) 96) (s' := (97, [(7, .int (of (4 * i))), (6, .int (nI L.1)), (0, .ref 10), (1, .int (nI i)), (2, .int x2), (3, .int x3), (4, .int x4), (5, .int x5)], [.int (of (Int32.toNatClampNeg (nI (4 * i + 1))))], wP pre (wN (PP s) (QQ s) op oq 0 (nI L.1) wi fa (nI k) st of F), 0)) rfl (vp_in_nI (show (4 * i + 1) < 96 by omega) (by decide)) ?_
          rw [nI_clamp (show (4 * i + 1) < 2 ^ 31 by omega)]
          show mm_W _ _ _ _ _ _ _ (97, [(7, .int (of (4 * i))), (6, .int (nI L.1)), (0, .ref 10), (1, .int (nI i)), (2, .int x2), (3, .int x3), (4, .int x4), (5, .int x5)], [.int (of (4 * i + 1))], wP pre (wN (PP s) (QQ s) op oq 0 (nI L.1) wi fa (nI k) st of F), 0)
          refine mm_skip (mm_call_mono _ _) 8 (st' := (108, [(8, .int (of (4 * i + 1))), (7, .int (of (4 * i))), (6, .int (nI L.1)), (0, .ref 10), (1, .int (nI i)), (2, .int x2), (3, .int x3), (4, .int x4), (5, .int x5)], [.int ((4 * (nI i)) + 2), .ref 16], wP pre (wN (PP s) (QQ s) op oq 0 (nI L.1) wi fa (nI k) st of F), 0)) rfl ?_
          rw [nI_m4 i]
          rw [nI_p2 ((4 * i))]
          show mm_W _ _ _ _ _ _ _ (108, [(8, .int (of (4 * i + 1))), (7, .int (of (4 * i))), (6, .int (nI L.1)), (0, .ref 10), (1, .int (nI i)), (2, .int x2), (3, .int x3), (4, .int x4), (5, .int x5)], [.int (nI (4 * i + 2)), .ref 16], wP pre (wN (PP s) (QQ s) op oq 0 (nI L.1) wi fa (nI k) st of F), 0)
          refine mm_need (mm_call_mono _ _) (c := vp_in (nI (4 * i + 2)) 96) (s' := (109, [(8, .int (of (4 * i + 1))), (7, .int (of (4 * i))), (6, .int (nI L.1)), (0, .ref 10), (1, .int (nI i)), (2, .int x2), (3, .int x3), (4, .int x4), (5, .int x5)], [.int (of (Int32.toNatClampNeg (nI (4 * i + 2))))], wP pre (wN (PP s) (QQ s) op oq 0 (nI L.1) wi fa (nI k) st of F), 0)) rfl (vp_in_nI (show (4 * i + 2) < 96 by omega) (by decide)) ?_
          rw [nI_clamp (show (4 * i + 2) < 2 ^ 31 by omega)]
          show mm_W _ _ _ _ _ _ _ (109, [(8, .int (of (4 * i + 1))), (7, .int (of (4 * i))), (6, .int (nI L.1)), (0, .ref 10), (1, .int (nI i)), (2, .int x2), (3, .int x3), (4, .int x4), (5, .int x5)], [.int (of (4 * i + 2))], wP pre (wN (PP s) (QQ s) op oq 0 (nI L.1) wi fa (nI k) st of F), 0)
          refine mm_skip (mm_call_mono _ _) 8 (st' := (120, [(9, .int (of (4 * i + 2))), (8, .int (of (4 * i + 1))), (7, .int (of (4 * i))), (6, .int (nI L.1)), (0, .ref 10), (1, .int (nI i)), (2, .int x2), (3, .int x3), (4, .int x4), (5, .int x5)], [.int ((4 * (nI i)) + 3), .ref 16], wP pre (wN (PP s) (QQ s) op oq 0 (nI L.1) wi fa (nI k) st of F), 0)) rfl ?_
          rw [nI_m4 i]
          rw [nI_p3 ((4 * i))]
          show mm_W _ _ _ _ _ _ _ (120, [(9, .int (of (4 * i + 2))), (8, .int (of (4 * i + 1))), (7, .int (of (4 * i))), (6, .int (nI L.1)), (0, .ref 10), (1, .int (nI i)), (2, .int x2), (3, .int x3), (4, .int x4), (5, .int x5)], [.int (nI (4 * i + 3)), .ref 16], wP pre (wN (PP s) (QQ s) op oq 0 (nI L.1) wi fa (nI k) st of F), 0)
          refine mm_need (mm_call_mono _ _) (c := vp_in (nI (4 * i + 3)) 96) (s' := (121, [(9, .int (of (4 * i + 2))), (8, .int (of (4 * i + 1))), (7, .int (of (4 * i))), (6, .int (nI L.1)), (0, .ref 10), (1, .int (nI i)), (2, .int x2), (3, .int x3), (4, .int x4), (5, .int x5)], [.int (of (Int32.toNatClampNeg (nI (4 * i + 3))))], wP pre (wN (PP s) (QQ s) op oq 0 (nI L.1) wi fa (nI k) st of F), 0)) rfl (vp_in_nI (show (4 * i + 3) < 96 by omega) (by decide)) ?_
          rw [nI_clamp (show (4 * i + 3) < 2 ^ 31 by omega)]
          show mm_W _ _ _ _ _ _ _ (121, [(9, .int (of (4 * i + 2))), (8, .int (of (4 * i + 1))), (7, .int (of (4 * i))), (6, .int (nI L.1)), (0, .ref 10), (1, .int (nI i)), (2, .int x2), (3, .int x3), (4, .int x4), (5, .int x5)], [.int (of (4 * i + 3))], wP pre (wN (PP s) (QQ s) op oq 0 (nI L.1) wi fa (nI k) st of F), 0)
          refine mm_skip (mm_call_mono _ _) 3 (st' := (126, [(11, .int 0), (10, .int (of (4 * i + 3))), (9, .int (of (4 * i + 2))), (8, .int (of (4 * i + 1))), (7, .int (of (4 * i))), (6, .int (nI L.1)), (0, .ref 10), (1, .int (nI i)), (2, .int x2), (3, .int x3), (4, .int x4), (5, .int x5)], [], wP pre (wN (PP s) (QQ s) op oq 0 (nI L.1) wi fa (nI k) st of F), 0)) rfl ?_
          have e0 := @cpm_0 op (PP s)
          have e1 := @cpm_0 oq (QQ s)
          have hl1 := mv_l1 (d := d + 16) (pre := pre) (p := PP s) (q := QQ s) (op := op) (oq := oq) (tr := 0) (dp := nI L.1) (wi := wi) (fa := fa) (ob := nI k) (st := st) (of := of) (F := F) (i := i) (x2 := x2) (x3 := x3) (x4 := x4) (x5 := x5) (y1 := of (4 * i)) (y2 := of (4 * i + 1)) (y3 := of (4 * i + 2)) (y4 := of (4 * i + 3)) (yd := nI L.1) (Q := Q) (mv_end hk hS hw hR hQ hi y1 hz0 (bz_1 z2) (bz_1 z3)) 292 0 (by omega)
          rw [e0, e1] at hl1
          exact hl1
        · skip
          refine mm_skip (mm_call_mono _ _) 4 (st' := (66, [(0, .ref 10), (1, .int (nI i)), (2, .int x2), (3, .int x3), (4, .int x4), (5, .int x5)], [.int 1], wP pre (wN (PP s) (QQ s) op oq 1 (nI L.1) wi fa (nI k) st of F), 0)) rfl ?_
          refine mm_branch (mm_call_mono _ _) (c := (1 : Int32) ≤ 0) (s1 := (71, [(0, .ref 10), (1, .int (nI i)), (2, .int x2), (3, .int x3), (4, .int x4), (5, .int x5)], [], wP pre (wN (PP s) (QQ s) op oq 1 (nI L.1) wi fa (nI k) st of F), 0)) (s2 := (69, [(0, .ref 10), (1, .int (nI i)), (2, .int x2), (3, .int x3), (4, .int x4), (5, .int x5)], [], wP pre (wN (PP s) (QQ s) op oq 1 (nI L.1) wi fa (nI k) st of F), 0)) rfl (fun h => absurd h (by decide)) (fun _ => ?_)
          refine mm_skip (mm_call_mono _ _) 1 (st' := (70, [(0, .ref 10), (1, .int (nI i)), (2, .int x2), (3, .int x3), (4, .int x4), (5, .int x5)], [.int 0], wP pre (wN (PP s) (QQ s) op oq 1 (nI L.1) wi fa (nI k) st of F), 0)) rfl ?_
          exact mm_ret (mm_call_mono _ _) (c := True) (r := .inl (some (.int 0))) (M := wP pre (wN (PP s) (QQ s) op oq 1 (nI L.1) wi fa (nI k) st of F)) (u := 0) rfl trivial (by decide) (hQ _ _ _ _ _ _ _ _ _ (1, 0) S k (if_neg (fun z => zf (by rw [(hS i hi).1]; have h := z.1.2; rw [cl_n (by omega)] at h; rw [h]; rfl))) ⟨hk, rfl, hS, hw, v, L, hR, rfl⟩)

