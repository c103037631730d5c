theorem nI_m12 (a : Nat) : 12 * nI a = nI (12 * a) := pk_mul 12 a
theorem nI_m4 (a : Nat) : 4 * nI a = nI (4 * a) := pk_mul 4 a
def xprod (L : lvR) (a b c e : n4) : Option n4 := (xmul L a b).bind fun t => (xmul L c e).bind fun u => (xadd L.1 t u).bind fun r => some r
def xcr (L : lvR) (a b c e : n4) : Option n4 := (xmul L a b).bind fun t => (xmul L c e).bind fun u => (xsub L.1 t u).bind fun r => some r
theorem g_fin {s s1 : Nat → fr} {wi w1 : Int32} {Z : Nat → Prop} {l W D : Nat} {T : Option n4} (h : ms s wi Z s1 w1) (hZ : ∀ k, Z k → (300 ≤ k ∧ k < 368) ∨ W ≤ k ∨ (D ≤ k ∧ k < D + 4)) (E : w1 = 0 → T = some (pd 4 s1 D)) (F : w1 = 1 → wi = 0 → T = none) (hl : w1 = 0 → lz l (pd 4 s1 D)) : gR s wi l W D T s1 w1 :=
  ⟨h.1, h.2.1, fun k h1 h2 h3 => h.2.2.1 k (fun q => (hZ k q).elim h1 (fun q => q.elim h2 h3)), h.2.2.2.1, fun h0 => ⟨h.2.2.2.2 h0, E h0, hl h0⟩, F⟩
/-- the cells of radicands that a new level may set -/
def zr (L : lvR) (k : Nat) : Prop := 288 ≤ k ∧ k < 291 ∧ (L.1 = 0 ∨ (L.1 = 1 ∧ 289 ≤ k))
/-- behind takeRoot of the reference -/
def tkM (s : Nat → fr) (wi : Int32) (L : lvR) (D : Nat) (T : Option (n4 × lvR)) (s1 : Nat → fr) (w1 fa1 : Int32) (L1 : lvR) (v : n4) : Prop :=
  (∀ k, fv (s1 k)) ∧ mm_z w1 ∧ mm_z fa1 ∧ L1.1 ≤ 2 ∧ L.1 ≤ L1.1 ∧ (∀ k, ¬ (300 ≤ k ∧ k < 368) → ¬ (D ≤ k ∧ k < D + 4) → ¬ zr L k → s1 k = s k) ∧ (wi = 1 → w1 = 1) ∧ (w1 = 0 → wi = 0) ∧ (w1 = 0 → fa1 = 0 → T = some (v, L1) ∧ tM s1 w1 L1.1 D v ∧ rdM s1 w1 L1) ∧ (w1 = 1 ∨ fa1 = 1 → wi = 0 → T = none)
theorem qq_same {s : Nat → fr} {k : Nat} (h : (s k).2 = 1) : QQ s = QQ (up s k (1, 1)) := by
  funext j
  show Int64.ofInt (s j).2 = Int64.ofInt (up s k (1, 1) j).2
  by_cases e : j = k
  · rw [e, up_s, h]
  · rw [up_n e]
theorem fv_11 : fv (1, 1) := by unfold fv; decide
theorem xun_0 {s s1 : Nat → fr} {w : Int32} {D : Nat} (c : clM s D 0 s1) : isM (up s1 (D + 1) (1, 1)) w 4 D (g4 (xun 0)) := fun _ j hj => by
  rcases (show j = 0 ∨ j = 1 ∨ j = 2 ∨ j = 3 by omega) with rfl | rfl | rfl | rfl
  · rw [up_n (by omega)]; exact c.2.2 0 (by omega) (by omega)
  · exact up_s
  · rw [up_n (by omega)]; exact c.2.2 2 (by omega) (by omega)
  · rw [up_n (by omega)]; exact c.2.2 3 (by omega) (by omega)
theorem xun_1 {s s1 : Nat → fr} {w : Int32} {D : Nat} (c : clM s D 0 s1) : isM (up s1 (D + 2) (1, 1)) w 4 D (g4 (xun 1)) := fun _ j hj => by
  rcases (show j = 0 ∨ j = 1 ∨ j = 2 ∨ j = 3 by omega) with rfl | rfl | rfl | rfl
  · rw [up_n (by omega)]; exact c.2.2 0 (by omega) (by omega)
  · rw [up_n (by omega)]; exact c.2.2 1 (by omega) (by omega)
  · exact up_s
  · rw [up_n (by omega)]; exact c.2.2 3 (by omega) (by omega)
theorem lz_xun0 : lz 1 (xun 0) := fun j h1 h2 => by
  have h1 : 2 ≤ j := h1
  rcases (show j = 2 ∨ j = 3 by omega) with rfl | rfl <;> rfl
set_option maxRecDepth 100000 in
theorem rm_work {d : Nat} {pre : mm_pre} {p q op oq : Nat → Int64} {tr dp wi fa ob : Int32} {st of : Nat → Int32} {F : mm_M} {x : Int32} {Q : mm_R → mm_M → Prop} (hQ : Q (.inl (some (.int (368 + 4 * x)))) (wP pre (wN p q op oq tr dp wi fa ob st of F))) : mm_call mm_Tb (d + 1) 85 [.int x] (wP pre (wN p q op oq tr dp wi fa ob st of F)) Q := by
  refine mm_in mt_85 (Nat.le_of_ble_eq_true rfl) ?_
  show mm_W _ _ _ _ _ _ _ (0, [(0, .int x)], [], wP pre (wN p q op oq tr dp wi fa ob st of F), 0)
  refine mm_skip (mm_call_mono _ _) 5 (st' := (7, [(0, .int x)], [.int (368 + (4 * x))], wP pre (wN p q op oq tr dp wi fa ob st of F), 0)) rfl ?_
  exact mm_ret (mm_call_mono _ _) (c := True) (r := .inl (some (.int (368 + (4 * x))))) (M := wP pre (wN p q op oq tr dp wi fa ob st of F)) (u := 0) rfl trivial (by decide) hQ

set_option maxRecDepth 100000 in
theorem rm_xOf {d : Nat} {pre : mm_pre} {p q op oq : Nat → Int64} {tr dp wi fa ob : Int32} {st of : Nat → Int32} {F : mm_M} {o : Nat} {Q : mm_R → mm_M → Prop} (hQ : Q (.inl (some (.int (nI (12 * o))))) (wP pre (wN p q op oq tr dp wi fa ob st of F))) : mm_call mm_Tb (d + 1) 83 [.int (nI o)] (wP pre (wN p q op oq tr dp wi fa ob st of F)) Q := by
  refine mm_in mt_83 (Nat.le_of_ble_eq_true rfl) ?_
  show mm_W _ _ _ _ _ _ _ (0, [(0, .int (nI o))], [], wP pre (wN p q op oq tr dp wi fa ob st of F), 0)
  refine mm_skip (mm_call_mono _ _) 3 (st' := (4, [(0, .int (nI o))], [.int (12 * (nI o))], wP pre (wN p q op oq tr dp wi fa ob st of F), 0)) rfl ?_
  rw [nI_m12 o]
  show mm_W _ _ _ _ _ _ _ (4, [(0, .int (nI o))], [.int (nI (12 * o))], wP pre (wN p q op oq tr dp wi fa ob st of F), 0)
  exact mm_ret (mm_call_mono _ _) (c := True) (r := .inl (some (.int (nI (12 * o))))) (M := wP pre (wN p q op oq tr dp wi fa ob st of F)) (u := 0) rfl trivial (by decide) hQ

set_option maxRecDepth 100000 in
theorem rm_yOf {d : Nat} {pre : mm_pre} {p q op oq : Nat → Int64} {tr dp wi fa ob : Int32} {st of : Nat → Int32} {F : mm_M} {o : Nat} {Q : mm_R → mm_M → Prop} (hQ : Q (.inl (some (.int (nI (12 * o + 4))))) (wP pre (wN p q op oq tr dp wi fa ob st of F))) : mm_call mm_Tb (d + 1) 84 [.int (nI o)] (wP pre (wN p q op oq tr dp wi fa ob st of F)) Q := by
  refine mm_in mt_84 (Nat.le_of_ble_eq_true rfl) ?_
  show mm_W _ _ _ _ _ _ _ (0, [(0, .int (nI o))], [], wP pre (wN p q op oq tr dp wi fa ob st of F), 0)
  refine mm_skip (mm_call_mono _ _) 5 (st' := (6, [(0, .int (nI o))], [.int ((12 * (nI o)) + 4)], wP pre (wN p q op oq tr dp wi fa ob st of F), 0)) rfl ?_
  rw [nI_m12 o]
  rw [nI_p4 ((12 * o))]
  show mm_W _ _ _ _ _ _ _ (6, [(0, .int (nI o))], [.int (nI (12 * o + 4))], wP pre (wN p q op oq tr dp wi fa ob st of F), 0)
  exact mm_ret (mm_call_mono _ _) (c := True) (r := .inl (some (.int (nI (12 * o + 4))))) (M := wP pre (wN p q op oq tr dp wi fa ob st of F)) (u := 0) rfl trivial (by decide) hQ

set_option maxRecDepth 100000 in
theorem rg_take_0 {d : Nat} {pre : mm_pre} {s : Nat → fr} {op oq : Nat → Int64} {tr wi ob : Int32} {st of : Nat → Int32} {F : mm_M} {R1 R2 : n4} {D A : Nat} {x : n4} {Q : mm_R → mm_M → Prop} (hV : ∀ k, fv (s k)) (hz : mm_z wi) (hl : 0 ≤ 2) (hg : (D + 4 ≤ 288 ∨ (368 ≤ D ∧ D + 4 ≤ 480)) ∧ (A + 4 ≤ 288 ∨ (368 ≤ A ∧ A + 4 ≤ 480)) ∧ (D + 4 ≤ A ∨ A + 4 ≤ D)) (R : rdM s wi (0, R1, R2)) (Hf : isM s wi 1 299 (fun _ => (1, 2))) (X : tM s wi 0 A x) (hQ : ∀ (s1 : Nat → fr) (w1 fa1 : Int32) (L1 : lvR) (v : n4), tkM s wi (0, R1, R2) D (xtake (0, R1, R2) x) s1 w1 fa1 L1 v → Q (.inl none) (wP pre (wN (PP s1) (QQ s1) op oq tr (nI L1.1) w1 fa1 ob st of F))) : mm_call mm_Tb (d + 11) 82 [.ref 10, .int (nI D), .int (nI A)] (wP pre (wN (PP s) (QQ s) op oq tr 0 wi 0 ob st of F)) Q := by
  have S0 := ms_0 (Z := fun k => (300 ≤ k ∧ k < 368) ∨ (D ≤ k ∧ k < D + 4) ∨ (288 ≤ k ∧ k < 291 ∧ (0 = 0 ∨ (0 = 1 ∧ 289 ≤ k)))) hV hz
  have E0 : wi = 0 → xtake (0, R1, R2) x = Option.bind (xsg (0, R1, R2) x) _ := fun _ => rfl
  have F0 : wi = 1 → wi = 0 → xtake (0, R1, R2) x = none := fun h1 h0 => absurd (h1.symm.trans h0) z10
  refine mm_in mt_82 (Nat.le_of_ble_eq_true rfl) ?_
  show mm_W _ _ _ _ _ _ _ (0, [(0, .ref 10), (1, .int (nI D)), (2, .int (nI A))], [], wP pre (wN (PP s) (QQ s) op oq tr 0 wi 0 ob st of F), 0)
  refine mm_skip (mm_call_mono _ _) 3 (st' := (5, [(0, .ref 10), (1, .int (nI D)), (2, .int (nI A))], [.int 0, .ref 10], wP pre (wN (PP s) (QQ s) op oq tr 0 wi 0 ob st of F), 0)) rfl ?_
  refine mm_branch (mm_call_mono _ _) (c := (0 : Int32) = 0) (s1 := (8, [(0, .ref 10), (1, .int (nI D)), (2, .int (nI A))], [.ref 10], wP pre (wN (PP s) (QQ s) op oq tr 0 wi 0 ob st of F), 0)) (s2 := (16, [(0, .ref 10), (1, .int (nI D)), (2, .int (nI A))], [.ref 10], wP pre (wN (PP s) (QQ s) op oq tr 0 wi 0 ob st of F), 0)) rfl (fun _ => ?_) (fun h => absurd (by decide) h)
  refine mm_skip (mm_call_mono _ _) 2 (st' := (10, [(0, .ref 10), (1, .int (nI D)), (2, .int (nI A))], [.int (nI A), .ref 10, .ref 10], wP pre (wN (PP s) (QQ s) op oq tr 0 wi 0 ob st of F), 0)) rfl ?_
  refine mm_inv (mm_call_mono _ _) (j := 80) (a := [.ref 10, .int (nI A)]) (M := wP pre (wN (PP s) (QQ s) op oq tr 0 wi 0 ob st of F)) (u := 0) rfl (by decide) (rg_sign_0 (R1 := R1) (R2 := R2) (A := A) hV hz (by decide) (by omega) R X (fun s1 w1 v h1 => ?_))
  show mm_W _ _ _ _ _ _ _ (13, [(0, .ref 10), (1, .int (nI D)), (2, .int (nI A))], [.int v, .ref 10], wP pre (wN (PP s1) (QQ s1) op oq tr 0 w1 0 ob st of F), 0)
  have S1 := ms_g S0 h1 (fun k => by omega)
  have F1 := m_Fg S0 F0 E0 h1
  have E1 := m_Eg E0 h1
  have X1 := m_kg X.1 h1 (by omega)
  have Hf1 := m_kg Hf h1 (by omega)
  refine mm_branch (mm_call_mono _ _) (c := 0 ≤ v) (s1 := (20, [(0, .ref 10), (1, .int (nI D)), (2, .int (nI A))], [.ref 10], wP pre (wN (PP s1) (QQ s1) op oq tr 0 w1 0 ob st of F), 0)) (s2 := (16, [(0, .ref 10), (1, .int (nI D)), (2, .int (nI A))], [.ref 10], wP pre (wN (PP s1) (QQ s1) op oq tr 0 w1 0 ob st of F), 0)) rfl (fun g1 => ?_) (fun g1 => ?_)
  · have E1 := fun h0 => (E1 h0).trans (if_neg (i32_ge g1))
    refine mm_skip (mm_call_mono _ _) 1 (st' := (21, [(0, .ref 10), (1, .int (nI D)), (2, .int (nI A))], [.int 0, .ref 10], wP pre (wN (PP s1) (QQ s1) op oq tr 0 w1 0 ob st of F), 0)) rfl ?_
    refine mm_need (mm_call_mono _ _) (c := mm_z 0) (s' := (24, [(0, .ref 10), (1, .int (nI D)), (2, .int (nI A))], [], wP pre (wN (PP s1) (QQ s1) op oq tr 0 w1 0 ob st of F), 0)) rfl (by unfold mm_z; decide) ?_
    refine mm_skip (mm_call_mono _ _) 2 (st' := (28, [(0, .ref 10), (1, .int (nI D)), (2, .int (nI A))], [.int 0], wP pre (wN (PP s1) (QQ s1) op oq tr 0 w1 0 ob st of F), 0)) rfl ?_
    refine mm_branch (mm_call_mono _ _) (c := (0 : Int32) = 0) (s1 := (31, [(0, .ref 10), (1, .int (nI D)), (2, .int (nI A))], [], wP pre (wN (PP s1) (QQ s1) op oq tr 0 w1 0 ob st of F), 0)) (s2 := (40, [(0, .ref 10), (1, .int (nI D)), (2, .int (nI A))], [], wP pre (wN (PP s1) (QQ s1) op oq tr 0 w1 0 ob st of F), 0)) rfl (fun _ => ?_) (fun h => absurd (by decide) h)
    refine mm_skip (mm_call_mono _ _) 3 (st' := (34, [(0, .ref 10), (1, .int (nI D)), (2, .int (nI A))], [.int (nI A), .int (nI D), .ref 10], wP pre (wN (PP s1) (QQ s1) op oq tr 0 w1 0 ob st of F), 0)) rfl ?_
    refine mm_inv (mm_call_mono _ _) (j := 81) (a := [.ref 10, .int (nI D), .int (nI A)]) (M := wP pre (wN (PP s1) (QQ s1) op oq tr 0 w1 0 ob st of F)) (u := 0) rfl (by decide) (rg_root_0 (R1 := R1) (R2 := R2) (D := D) (A := A) S1.1 S1.2.1 (by decide) (by omega) ⟨fun q => absurd (show 1 ≤ 0 from q) (by decide), fun q => absurd (show 2 ≤ 0 from q) (by decide)⟩ Hf1 ⟨X1, fun h0 => X.2 (S1.2.2.2.2 h0)⟩ (fun s2 w2 b h2 hlz => ?_))
    show mm_W _ _ _ _ _ _ _ (37, [(0, .ref 10), (1, .int (nI D)), (2, .int (nI A))], [.int b], wP pre (wN (PP s2) (QQ s2) op oq tr 0 w2 0 ob st of F), 0)
    have S2 := ms_r S1 h2 (fun k => by omega)
    have F2 := m_Fr S1 F1 E1 h2
    have X2 := m_kr X1 h2 (by omega)
    refine mm_branch (mm_call_mono _ _) (c := b = 0) (s1 := (41, [(0, .ref 10), (1, .int (nI D)), (2, .int (nI A))], [], wP pre (wN (PP s2) (QQ s2) op oq tr 0 w2 0 ob st of F), 0)) (s2 := (40, [(0, .ref 10), (1, .int (nI D)), (2, .int (nI A))], [], wP pre (wN (PP s2) (QQ s2) op oq tr 0 w2 0 ob st of F), 0)) rfl (fun g2 => ?_) (fun g2 => ?_)
    · have E2 := m_Er0 E1 h2 g2
      refine mm_skip (mm_call_mono _ _) 4 (st' := (47, [(0, .ref 10), (1, .int (nI D)), (2, .int (nI A))], [.int 2, .int 0, .ref 10], wP pre (wN (PP s2) (QQ s2) op oq tr 0 w2 0 ob st of F), 0)) rfl ?_
      refine mm_branch (mm_call_mono _ _) (c := (0 : Int32) = 2) (s1 := (50, [(0, .ref 10), (1, .int (nI D)), (2, .int (nI A))], [.ref 10], wP pre (wN (PP s2) (QQ s2) op oq tr 0 w2 0 ob st of F), 0)) (s2 := (54, [(0, .ref 10), (1, .int (nI D)), (2, .int (nI A))], [.ref 10], wP pre (wN (PP s2) (QQ s2) op oq tr 0 w2 0 ob st of F), 0)) rfl (fun h => absurd h (by decide)) (fun _ => ?_)
      refine mm_skip (mm_call_mono _ _) 1 (st' := (55, [(0, .ref 10), (1, .int (nI D)), (2, .int (nI A))], [.int 0, .ref 10], wP pre (wN (PP s2) (QQ s2) op oq tr 0 w2 0 ob st of F), 0)) rfl ?_
      refine mm_need (mm_call_mono _ _) (c := mm_z 0) (s' := (58, [(0, .ref 10), (1, .int (nI D)), (2, .int (nI A))], [], wP pre (wN (PP s2) (QQ s2) op oq tr 0 w2 0 ob st of F), 0)) rfl (by unfold mm_z; decide) ?_
      refine mm_skip (mm_call_mono _ _) 2 (st' := (62, [(0, .ref 10), (1, .int (nI D)), (2, .int (nI A))], [.int 0], wP pre (wN (PP s2) (QQ s2) op oq tr 0 w2 0 ob st of F), 0)) rfl ?_
      refine mm_branch (mm_call_mono _ _) (c := (0 : Int32) = 0) (s1 := (66, [(0, .ref 10), (1, .int (nI D)), (2, .int (nI A))], [], wP pre (wN (PP s2) (QQ s2) op oq tr 0 w2 0 ob st of F), 0)) (s2 := (65, [(0, .ref 10), (1, .int (nI D)), (2, .int (nI A))], [], wP pre (wN (PP s2) (QQ s2) op oq tr 0 w2 0 ob st of F), 0)) rfl (fun _ => ?_) (fun h => absurd (by decide) h)
      refine mm_skip (mm_call_mono _ _) 3 (st' := (71, [(0, .ref 10), (1, .int (nI D)), (2, .int (nI A))], [.int 0, .ref 10], wP pre (wN (PP s2) (QQ s2) op oq tr 0 w2 0 ob st of F), 0)) rfl ?_
      refine mm_branch (mm_call_mono _ _) (c := (0 : Int32) = 0) (s1 := (74, [(0, .ref 10), (1, .int (nI D)), (2, .int (nI A))], [.ref 10], wP pre (wN (PP s2) (QQ s2) op oq tr 0 w2 0 ob st of F), 0)) (s2 := (80, [(0, .ref 10), (1, .int (nI D)), (2, .int (nI A))], [.ref 10], wP pre (wN (PP s2) (QQ s2) op oq tr 0 w2 0 ob st of F), 0)) rfl (fun _ => ?_) (fun h => absurd (by decide) h)
      refine mm_skip (mm_call_mono _ _) 5 (st' := (88, [(0, .ref 10), (1, .int (nI D)), (2, .int (nI A))], [.int 0, .int (nI A), .int 288, .ref 10], wP pre (wN (PP s2) (QQ s2) op oq tr 0 w2 0 ob st of F), 0)) rfl ?_
      refine mm_branch (mm_call_mono _ _) (c := (0 : Int32) = 0) (s1 := (91, [(0, .ref 10), (1, .int (nI D)), (2, .int (nI A))], [.int (nI A), .int 288, .ref 10], wP pre (wN (PP s2) (QQ s2) op oq tr 0 w2 0 ob st of F), 0)) (s2 := (95, [(0, .ref 10), (1, .int (nI D)), (2, .int (nI A))], [.int (nI A), .int 288, .ref 10], wP pre (wN (PP s2) (QQ s2) op oq tr 0 w2 0 ob st of F), 0)) rfl (fun _ => ?_) (fun h => absurd (by decide) h)
      refine mm_skip (mm_call_mono _ _) 2 (st' := (96, [(0, .ref 10), (1, .int (nI D)), (2, .int (nI A))], [.int 1, .int (nI A), .int 288, .ref 10], wP pre (wN (PP s2) (QQ s2) op oq tr 0 w2 0 ob st of F), 0)) rfl ?_
      refine mm_inv (mm_call_mono _ _) (j := 58) (a := [.ref 10, .int 288, .int (nI A), .int 1]) (M := wP pre (wN (PP s2) (QQ s2) op oq tr 0 w2 0 ob st of F)) (u := 0) rfl (by decide) (rm_set_1 (D := 288) (A := A) S2.1 S2.2.1 (by omega) (m_lo X2 (by omega)) (fun s3 w3 h3 => ?_))
      show mm_W _ _ _ _ _ _ _ (99, [(0, .ref 10), (1, .int (nI D)), (2, .int (nI A))], [], wP pre (wN (PP s3) (QQ s3) op oq tr 0 w3 0 ob st of F), 0)
      obtain ⟨q3, r3, N3⟩ := mR_set S2.2.1 h3 (by decide)
      have S3 := ms_s S2 h3 (fun k => by omega)
      have F3 := fun h9 h0 => F2 (r3 h9) h0
      have E3 : w3 = 0 → xtake (0, R1, R2) x = some (xun 0, xup (0, R1, R2) x) := fun h0 => E2 (q3 h0)
      refine mm_skip (mm_call_mono _ _) 9 (st' := (112, [(0, .ref 10), (1, .int (nI D)), (2, .int (nI A))], [.int 0, .int (nI D), .ref 10], wP pre (wN (PP s3) (QQ s3) op oq tr 1 w3 0 ob st of F), 0)) rfl ?_
      refine mm_inv (mm_call_mono _ _) (j := 65) (a := [.ref 10, .int (nI D), .int 0]) (M := wP pre (wN (PP s3) (QQ s3) op oq tr 1 w3 0 ob st of F)) (u := 0) rfl (by decide) (rm_clear_0 (D := D) S3.1 (by omega) (fun s4 c4 => ?_))
      show mm_W _ _ _ _ _ _ _ (115, [(0, .ref 10), (1, .int (nI D)), (2, .int (nI A))], [], wP pre (wN (PP s4) (QQ s4) op oq tr 1 w3 0 ob st of F), 0)
      have S4 := ms_c S3 c4 (fun k => by omega)
      have S5 : ms s wi _ (up s4 (D + 1) (1, 1)) w3 := ⟨V_up S4.1 fv_11, S4.2.1, fun k hk => (up_n (fun e => hk (by rw [e]; omega))).trans (S4.2.2.1 k hk), S4.2.2.2.1, S4.2.2.2.2⟩
      have N5 : isM (up s4 (D + 1) (1, 1)) w3 1 288 (g4 x) := fun h0 j hj => by rw [up_n (by omega), c4.2.1 _ (by omega)]; exact N3 h0 j hj
      refine mm_skip (mm_call_mono _ _) 7 (st' := (126, [(0, .ref 10), (1, .int (nI D)), (2, .int (nI A))], [.long 1, .int ((nI D) + 1), .ref 11], wP pre (wN (PP s4) (QQ s4) op oq tr 1 w3 0 ob st of F), 0)) rfl ?_
      rw [nI_p1 (D)]
      show mm_W _ _ _ _ _ _ _ (126, [(0, .ref 10), (1, .int (nI D)), (2, .int (nI A))], [.long 1, .int (nI (D + 1)), .ref 11], wP pre (wN (PP s4) (QQ s4) op oq tr 1 w3 0 ob st of F), 0)
      refine mm_need (mm_call_mono _ _) (c := vp_in (nI (D + 1)) 480) (s' := (127, [(0, .ref 10), (1, .int (nI D)), (2, .int (nI A))], [], wP pre (wN (vp_updL (PP s4) (Int32.toNatClampNeg (nI (D + 1))) 1) (QQ s4) op oq tr 1 w3 0 ob st of F), 0)) rfl (vp_in_nI (show (D + 1) < 480 by omega) (by decide)) ?_
      rw [nI_clamp (show (D + 1) < 2 ^ 31 by omega)]
      show mm_W _ _ _ _ _ _ _ (127, [(0, .ref 10), (1, .int (nI D)), (2, .int (nI A))], [], wP pre (wN (vp_updL (PP s4) (D + 1) 1) (QQ s4) op oq tr 1 w3 0 ob st of F), 0)
      exact mm_ret (mm_call_mono _ _) (c := True) (r := .inl none) (M := wP pre (wN (vp_updL (PP s4) (D + 1) 1) (QQ s4) op oq tr 1 w3 0 ob st of F)) (u := 0) rfl trivial (by decide) (by rw [pp_v (x := (1, 1)) (n := 1) rfl, qq_same (s := s4) (k := D + 1) (by rw [c4.2.2 1 (by omega) (by omega)]; rfl)]; exact hQ _ _ _ (xup (0, R1, R2) x) (xun 0) ⟨S5.1, S5.2.1, Or.inl rfl, (by decide : 1 ≤ 2), (by decide : 0 ≤ 1), (fun k h1 h2 h3 => S5.2.2.1 k (fun q => q.elim h1 (fun q => q.elim h2 h3))), S5.2.2.2.1, S5.2.2.2.2, fun h0 _ => ⟨E3 h0, ⟨xun_0 c4, fun _ => lz_xun0⟩, ⟨fun _ => N5, fun q => absurd (show 2 ≤ 1 from q) (by decide)⟩⟩, fun hc h0 => hc.elim (fun q => F3 q h0) (fun q => absurd q.symm z10)⟩)
    · have E2 := m_Er1 E1 h2 g2
      exact mm_ret (mm_call_mono _ _) (c := True) (r := .inl none) (M := wP pre (wN (PP s2) (QQ s2) op oq tr 0 w2 0 ob st of F)) (u := 0) rfl trivial (by decide) (hQ _ _ _ (0, R1, R2) (pd 4 s2 D) ⟨S2.1, S2.2.1, Or.inl rfl, (by decide : 0 ≤ 2), Nat.le_refl 0, (fun k h1 h2 h3 => S2.2.2.1 k (fun q => q.elim h1 (fun q => q.elim h2 h3))), S2.2.2.2.1, S2.2.2.2.2, fun h0 _ => ⟨E2 h0, ⟨pd_M (by decide), fun _ => hlz (mm_z1 h2.2.2.2.2.1 g2)⟩, ⟨fun q => absurd (show 1 ≤ 0 from q) (by decide), fun q => absurd (show 2 ≤ 0 from q) (by decide)⟩⟩, fun hc h0 => hc.elim (fun q => F2 q h0) (fun q => absurd q.symm z10)⟩)
  · skip
    refine mm_skip (mm_call_mono _ _) 2 (st' := (21, [(0, .ref 10), (1, .int (nI D)), (2, .int (nI A))], [.int 1, .ref 10], wP pre (wN (PP s1) (QQ s1) op oq tr 0 w1 0 ob st of F), 0)) rfl ?_
    refine mm_need (mm_call_mono _ _) (c := mm_z 1) (s' := (24, [(0, .ref 10), (1, .int (nI D)), (2, .int (nI A))], [], wP pre (wN (PP s1) (QQ s1) op oq tr 0 w1 1 ob st of F), 0)) rfl (by unfold mm_z; decide) ?_
    refine mm_skip (mm_call_mono _ _) 2 (st' := (28, [(0, .ref 10), (1, .int (nI D)), (2, .int (nI A))], [.int 1], wP pre (wN (PP s1) (QQ s1) op oq tr 0 w1 1 ob st of F), 0)) rfl ?_
    refine mm_branch (mm_call_mono _ _) (c := (1 : Int32) = 0) (s1 := (31, [(0, .ref 10), (1, .int (nI D)), (2, .int (nI A))], [], wP pre (wN (PP s1) (QQ s1) op oq tr 0 w1 1 ob st of F), 0)) (s2 := (40, [(0, .ref 10), (1, .int (nI D)), (2, .int (nI A))], [], wP pre (wN (PP s1) (QQ s1) op oq tr 0 w1 1 ob st of F), 0)) rfl (fun h => absurd h (by decide)) (fun _ => ?_)
    exact mm_ret (mm_call_mono _ _) (c := True) (r := .inl none) (M := wP pre (wN (PP s1) (QQ s1) op oq tr 0 w1 1 ob st of F)) (u := 0) rfl trivial (by decide) (hQ _ _ _ (0, R1, R2) zz ⟨S1.1, S1.2.1, Or.inr rfl, (by decide : 0 ≤ 2), Nat.le_refl 0, (fun k h1 h2 h3 => S1.2.2.1 k (fun q => q.elim h1 (fun q => q.elim h2 h3))), S1.2.2.2.1, S1.2.2.2.2, fun _ q => absurd q z10, (fun hc h0 => hc.elim (fun q => F1 q h0) (fun _ => (S1.2.1).elim (fun z => (E1 z).trans (if_pos (i32_lt g1))) (fun z => F1 z h0)))⟩)

set_option maxRecDepth 100000 in
theorem rg_take_1 {d : Nat} {pre : mm_pre} {s : Nat → fr} {op oq : Nat → Int64} {tr wi ob : Int32} {st of : Nat → Int32} {F : mm_M} {R1 R2 : n4} {D A : Nat} {x : n4} {Q : mm_R → mm_M → Prop} (hV : ∀ k, fv (s k)) (hz : mm_z wi) (hl : 1 ≤ 2) (hg : (D + 4 ≤ 288 ∨ (368 ≤ D ∧ D + 4 ≤ 480)) ∧ (A + 4 ≤ 288 ∨ (368 ≤ A ∧ A + 4 ≤ 480)) ∧ (D + 4 ≤ A ∨ A + 4 ≤ D)) (R : rdM s wi (1, R1, R2)) (Hf : isM s wi 1 299 (fun _ => (1, 2))) (X : tM s wi 1 A x) (hQ : ∀ (s1 : Nat → fr) (w1 fa1 : Int32) (L1 : lvR) (v : n4), tkM s wi (1, R1, R2) D (xtake (1, R1, R2) x) s1 w1 fa1 L1 v → Q (.inl none) (wP pre (wN (PP s1) (QQ s1) op oq tr (nI L1.1) w1 fa1 ob st of F))) : mm_call mm_Tb (d + 11) 82 [.ref 10, .int (nI D), .int (nI A)] (wP pre (wN (PP s) (QQ s) op oq tr 1 wi 0 ob st of F)) Q := by
  have S0 := ms_0 (Z := fun k => (300 ≤ k ∧ k < 368) ∨ (D ≤ k ∧ k < D + 4) ∨ (288 ≤ k ∧ k < 291 ∧ (1 = 0 ∨ (1 = 1 ∧ 289 ≤ k)))) hV hz
  have E0 : wi = 0 → xtake (1, R1, R2) x = Option.bind (xsg (1, R1, R2) x) _ := fun _ => rfl
  have F0 : wi = 1 → wi = 0 → xtake (1, R1, R2) x = none := fun h1 h0 => absurd (h1.symm.trans h0) z10
  have R1_0 := R.1 (show 1 ≤ 1 by decide)
  refine mm_in mt_82 (Nat.le_of_ble_eq_true rfl) ?_
  show mm_W _ _ _ _ _ _ _ (0, [(0, .ref 10), (1, .int (nI D)), (2, .int (nI A))], [], wP pre (wN (PP s) (QQ s) op oq tr 1 wi 0 ob st of F), 0)
  refine mm_skip (mm_call_mono _ _) 3 (st' := (5, [(0, .ref 10), (1, .int (nI D)), (2, .int (nI A))], [.int 0, .ref 10], wP pre (wN (PP s) (QQ s) op oq tr 1 wi 0 ob st of F), 0)) rfl ?_
  refine mm_branch (mm_call_mono _ _) (c := (0 : Int32) = 0) (s1 := (8, [(0, .ref 10), (1, .int (nI D)), (2, .int (nI A))], [.ref 10], wP pre (wN (PP s) (QQ s) op oq tr 1 wi 0 ob st of F), 0)) (s2 := (16, [(0, .ref 10), (1, .int (nI D)), (2, .int (nI A))], [.ref 10], wP pre (wN (PP s) (QQ s) op oq tr 1 wi 0 ob st of F), 0)) rfl (fun _ => ?_) (fun h => absurd (by decide) h)
  refine mm_skip (mm_call_mono _ _) 2 (st' := (10, [(0, .ref 10), (1, .int (nI D)), (2, .int (nI A))], [.int (nI A), .ref 10, .ref 10], wP pre (wN (PP s) (QQ s) op oq tr 1 wi 0 ob st of F), 0)) rfl ?_
  refine mm_inv (mm_call_mono _ _) (j := 80) (a := [.ref 10, .int (nI A)]) (M := wP pre (wN (PP s) (QQ s) op oq tr 1 wi 0 ob st of F)) (u := 0) rfl (by decide) (rg_sign_1 (R1 := R1) (R2 := R2) (A := A) hV hz (by decide) (by omega) R X (fun s1 w1 v h1 => ?_))
  show mm_W _ _ _ _ _ _ _ (13, [(0, .ref 10), (1, .int (nI D)), (2, .int (nI A))], [.int v, .ref 10], wP pre (wN (PP s1) (QQ s1) op oq tr 1 w1 0 ob st of F), 0)
  have S1 := ms_g S0 h1 (fun k => by omega)
  have F1 := m_Fg S0 F0 E0 h1
  have E1 := m_Eg E0 h1
  have X1 := m_kg X.1 h1 (by omega)
  have Hf1 := m_kg Hf h1 (by omega)
  have R1_1 := m_kg (R1_0) h1 (by omega)
  refine mm_branch (mm_call_mono _ _) (c := 0 ≤ v) (s1 := (20, [(0, .ref 10), (1, .int (nI D)), (2, .int (nI A))], [.ref 10], wP pre (wN (PP s1) (QQ s1) op oq tr 1 w1 0 ob st of F), 0)) (s2 := (16, [(0, .ref 10), (1, .int (nI D)), (2, .int (nI A))], [.ref 10], wP pre (wN (PP s1) (QQ s1) op oq tr 1 w1 0 ob st of F), 0)) rfl (fun g1 => ?_) (fun g1 => ?_)
  · have E1 := fun h0 => (E1 h0).trans (if_neg (i32_ge g1))
    refine mm_skip (mm_call_mono _ _) 1 (st' := (21, [(0, .ref 10), (1, .int (nI D)), (2, .int (nI A))], [.int 0, .ref 10], wP pre (wN (PP s1) (QQ s1) op oq tr 1 w1 0 ob st of F), 0)) rfl ?_
    refine mm_need (mm_call_mono _ _) (c := mm_z 0) (s' := (24, [(0, .ref 10), (1, .int (nI D)), (2, .int (nI A))], [], wP pre (wN (PP s1) (QQ s1) op oq tr 1 w1 0 ob st of F), 0)) rfl (by unfold mm_z; decide) ?_
    refine mm_skip (mm_call_mono _ _) 2 (st' := (28, [(0, .ref 10), (1, .int (nI D)), (2, .int (nI A))], [.int 0], wP pre (wN (PP s1) (QQ s1) op oq tr 1 w1 0 ob st of F), 0)) rfl ?_
    refine mm_branch (mm_call_mono _ _) (c := (0 : Int32) = 0) (s1 := (31, [(0, .ref 10), (1, .int (nI D)), (2, .int (nI A))], [], wP pre (wN (PP s1) (QQ s1) op oq tr 1 w1 0 ob st of F), 0)) (s2 := (40, [(0, .ref 10), (1, .int (nI D)), (2, .int (nI A))], [], wP pre (wN (PP s1) (QQ s1) op oq tr 1 w1 0 ob st of F), 0)) rfl (fun _ => ?_) (fun h => absurd (by decide) h)
    refine mm_skip (mm_call_mono _ _) 3 (st' := (34, [(0, .ref 10), (1, .int (nI D)), (2, .int (nI A))], [.int (nI A), .int (nI D), .ref 10], wP pre (wN (PP s1) (QQ s1) op oq tr 1 w1 0 ob st of F), 0)) rfl ?_
    refine mm_inv (mm_call_mono _ _) (j := 81) (a := [.ref 10, .int (nI D), .int (nI A)]) (M := wP pre (wN (PP s1) (QQ s1) op oq tr 1 w1 0 ob st of F)) (u := 0) rfl (by decide) (rg_root_1 (R1 := R1) (R2 := R2) (D := D) (A := A) S1.1 S1.2.1 (by decide) (by omega) ⟨fun _ => R1_1, fun q => absurd (show 2 ≤ 1 from q) (by decide)⟩ Hf1 ⟨X1, fun h0 => X.2 (S1.2.2.2.2 h0)⟩ (fun s2 w2 b h2 hlz => ?_))
    show mm_W _ _ _ _ _ _ _ (37, [(0, .ref 10), (1, .int (nI D)), (2, .int (nI A))], [.int b], wP pre (wN (PP s2) (QQ s2) op oq tr 1 w2 0 ob st of F), 0)
    have S2 := ms_r S1 h2 (fun k => by omega)
    have F2 := m_Fr S1 F1 E1 h2
    have R1_2 := m_kr (R1_1) h2 (by omega)
    have X2 := m_kr X1 h2 (by omega)
    refine mm_branch (mm_call_mono _ _) (c := b = 0) (s1 := (41, [(0, .ref 10), (1, .int (nI D)), (2, .int (nI A))], [], wP pre (wN (PP s2) (QQ s2) op oq tr 1 w2 0 ob st of F), 0)) (s2 := (40, [(0, .ref 10), (1, .int (nI D)), (2, .int (nI A))], [], wP pre (wN (PP s2) (QQ s2) op oq tr 1 w2 0 ob st of F), 0)) rfl (fun g2 => ?_) (fun g2 => ?_)
    · have E2 := m_Er0 E1 h2 g2
      refine mm_skip (mm_call_mono _ _) 4 (st' := (47, [(0, .ref 10), (1, .int (nI D)), (2, .int (nI A))], [.int 2, .int 1, .ref 10], wP pre (wN (PP s2) (QQ s2) op oq tr 1 w2 0 ob st of F), 0)) rfl ?_
      refine mm_branch (mm_call_mono _ _) (c := (1 : Int32) = 2) (s1 := (50, [(0, .ref 10), (1, .int (nI D)), (2, .int (nI A))], [.ref 10], wP pre (wN (PP s2) (QQ s2) op oq tr 1 w2 0 ob st of F), 0)) (s2 := (54, [(0, .ref 10), (1, .int (nI D)), (2, .int (nI A))], [.ref 10], wP pre (wN (PP s2) (QQ s2) op oq tr 1 w2 0 ob st of F), 0)) rfl (fun h => absurd h (by decide)) (fun _ => ?_)
      refine mm_skip (mm_call_mono _ _) 1 (st' := (55, [(0, .ref 10), (1, .int (nI D)), (2, .int (nI A))], [.int 0, .ref 10], wP pre (wN (PP s2) (QQ s2) op oq tr 1 w2 0 ob st of F), 0)) rfl ?_
      refine mm_need (mm_call_mono _ _) (c := mm_z 0) (s' := (58, [(0, .ref 10), (1, .int (nI D)), (2, .int (nI A))], [], wP pre (wN (PP s2) (QQ s2) op oq tr 1 w2 0 ob st of F), 0)) rfl (by unfold mm_z; decide) ?_
      refine mm_skip (mm_call_mono _ _) 2 (st' := (62, [(0, .ref 10), (1, .int (nI D)), (2, .int (nI A))], [.int 0], wP pre (wN (PP s2) (QQ s2) op oq tr 1 w2 0 ob st of F), 0)) rfl ?_
      refine mm_branch (mm_call_mono _ _) (c := (0 : Int32) = 0) (s1 := (66, [(0, .ref 10), (1, .int (nI D)), (2, .int (nI A))], [], wP pre (wN (PP s2) (QQ s2) op oq tr 1 w2 0 ob st of F), 0)) (s2 := (65, [(0, .ref 10), (1, .int (nI D)), (2, .int (nI A))], [], wP pre (wN (PP s2) (QQ s2) op oq tr 1 w2 0 ob st of F), 0)) rfl (fun _ => ?_) (fun h => absurd (by decide) h)
      refine mm_skip (mm_call_mono _ _) 3 (st' := (71, [(0, .ref 10), (1, .int (nI D)), (2, .int (nI A))], [.int 1, .ref 10], wP pre (wN (PP s2) (QQ s2) op oq tr 1 w2 0 ob st of F), 0)) rfl ?_
      refine mm_branch (mm_call_mono _ _) (c := (1 : Int32) = 0) (s1 := (74, [(0, .ref 10), (1, .int (nI D)), (2, .int (nI A))], [.ref 10], wP pre (wN (PP s2) (QQ s2) op oq tr 1 w2 0 ob st of F), 0)) (s2 := (80, [(0, .ref 10), (1, .int (nI D)), (2, .int (nI A))], [.ref 10], wP pre (wN (PP s2) (QQ s2) op oq tr 1 w2 0 ob st of F), 0)) rfl (fun h => absurd h (by decide)) (fun _ => ?_)
      refine mm_skip (mm_call_mono _ _) 4 (st' := (88, [(0, .ref 10), (1, .int (nI D)), (2, .int (nI A))], [.int 1, .int (nI A), .int 289, .ref 10], wP pre (wN (PP s2) (QQ s2) op oq tr 1 w2 0 ob st of F), 0)) rfl ?_
      refine mm_branch (mm_call_mono _ _) (c := (1 : Int32) = 0) (s1 := (91, [(0, .ref 10), (1, .int (nI D)), (2, .int (nI A))], [.int (nI A), .int 289, .ref 10], wP pre (wN (PP s2) (QQ s2) op oq tr 1 w2 0 ob st of F), 0)) (s2 := (95, [(0, .ref 10), (1, .int (nI D)), (2, .int (nI A))], [.int (nI A), .int 289, .ref 10], wP pre (wN (PP s2) (QQ s2) op oq tr 1 w2 0 ob st of F), 0)) rfl (fun h => absurd h (by decide)) (fun _ => ?_)
      refine mm_skip (mm_call_mono _ _) 1 (st' := (96, [(0, .ref 10), (1, .int (nI D)), (2, .int (nI A))], [.int 2, .int (nI A), .int 289, .ref 10], wP pre (wN (PP s2) (QQ s2) op oq tr 1 w2 0 ob st of F), 0)) rfl ?_
      refine mm_inv (mm_call_mono _ _) (j := 58) (a := [.ref 10, .int 289, .int (nI A), .int 2]) (M := wP pre (wN (PP s2) (QQ s2) op oq tr 1 w2 0 ob st of F)) (u := 0) rfl (by decide) (rm_set_2 (D := 289) (A := A) S2.1 S2.2.1 (by omega) (m_lo X2 (by omega)) (fun s3 w3 h3 => ?_))
      show mm_W _ _ _ _ _ _ _ (99, [(0, .ref 10), (1, .int (nI D)), (2, .int (nI A))], [], wP pre (wN (PP s3) (QQ s3) op oq tr 1 w3 0 ob st of F), 0)
      obtain ⟨q3, r3, N3⟩ := mR_set S2.2.1 h3 (by decide)
      have S3 := ms_s S2 h3 (fun k => by omega)
      have F3 := fun h9 h0 => F2 (r3 h9) h0
      have E3 : w3 = 0 → xtake (1, R1, R2) x = some (xun 1, xup (1, R1, R2) x) := fun h0 => E2 (q3 h0)
      have R1_3 := m_k R1_2 h3 (by omega)
      refine mm_skip (mm_call_mono _ _) 9 (st' := (112, [(0, .ref 10), (1, .int (nI D)), (2, .int (nI A))], [.int 0, .int (nI D), .ref 10], wP pre (wN (PP s3) (QQ s3) op oq tr 2 w3 0 ob st of F), 0)) rfl ?_
      refine mm_inv (mm_call_mono _ _) (j := 65) (a := [.ref 10, .int (nI D), .int 0]) (M := wP pre (wN (PP s3) (QQ s3) op oq tr 2 w3 0 ob st of F)) (u := 0) rfl (by decide) (rm_clear_0 (D := D) S3.1 (by omega) (fun s4 c4 => ?_))
      show mm_W _ _ _ _ _ _ _ (115, [(0, .ref 10), (1, .int (nI D)), (2, .int (nI A))], [], wP pre (wN (PP s4) (QQ s4) op oq tr 2 w3 0 ob st of F), 0)
      have S4 := ms_c S3 c4 (fun k => by omega)
      have S5 : ms s wi _ (up s4 (D + 2) (1, 1)) w3 := ⟨V_up S4.1 fv_11, S4.2.1, fun k hk => (up_n (fun e => hk (by rw [e]; omega))).trans (S4.2.2.1 k hk), S4.2.2.2.1, S4.2.2.2.2⟩
      have N5 : isM (up s4 (D + 2) (1, 1)) w3 2 289 (g4 x) := fun h0 j hj => by rw [up_n (by omega), c4.2.1 _ (by omega)]; exact N3 h0 j hj
      have R1_5 : isM (up s4 (D + 2) (1, 1)) w3 1 288 (g4 R1) := fun h0 j hj => by rw [up_n (by omega), c4.2.1 _ (by omega)]; exact R1_3 h0 j hj
      refine mm_skip (mm_call_mono _ _) 7 (st' := (126, [(0, .ref 10), (1, .int (nI D)), (2, .int (nI A))], [.long 1, .int ((nI D) + 2), .ref 11], wP pre (wN (PP s4) (QQ s4) op oq tr 2 w3 0 ob st of F), 0)) rfl ?_
      rw [nI_p2 (D)]
      show mm_W _ _ _ _ _ _ _ (126, [(0, .ref 10), (1, .int (nI D)), (2, .int (nI A))], [.long 1, .int (nI (D + 2)), .ref 11], wP pre (wN (PP s4) (QQ s4) op oq tr 2 w3 0 ob st of F), 0)
      refine mm_need (mm_call_mono _ _) (c := vp_in (nI (D + 2)) 480) (s' := (127, [(0, .ref 10), (1, .int (nI D)), (2, .int (nI A))], [], wP pre (wN (vp_updL (PP s4) (Int32.toNatClampNeg (nI (D + 2))) 1) (QQ s4) op oq tr 2 w3 0 ob st of F), 0)) rfl (vp_in_nI (show (D + 2) < 480 by omega) (by decide)) ?_
      rw [nI_clamp (show (D + 2) < 2 ^ 31 by omega)]
      show mm_W _ _ _ _ _ _ _ (127, [(0, .ref 10), (1, .int (nI D)), (2, .int (nI A))], [], wP pre (wN (vp_updL (PP s4) (D + 2) 1) (QQ s4) op oq tr 2 w3 0 ob st of F), 0)
      exact mm_ret (mm_call_mono _ _) (c := True) (r := .inl none) (M := wP pre (wN (vp_updL (PP s4) (D + 2) 1) (QQ s4) op oq tr 2 w3 0 ob st of F)) (u := 0) rfl trivial (by decide) (by rw [pp_v (x := (1, 1)) (n := 1) rfl, qq_same (s := s4) (k := D + 2) (by rw [c4.2.2 2 (by omega) (by omega)]; rfl)]; exact hQ _ _ _ (xup (1, R1, R2) x) (xun 1) ⟨S5.1, S5.2.1, Or.inl rfl, (by decide : 2 ≤ 2), (by decide : 1 ≤ 2), (fun k h1 h2 h3 => S5.2.2.1 k (fun q => q.elim h1 (fun q => q.elim h2 h3))), S5.2.2.2.1, S5.2.2.2.2, fun h0 _ => ⟨E3 h0, ⟨xun_1 c4, fun _ => lz_2⟩, ⟨fun _ => R1_5, fun _ => N5⟩⟩, fun hc h0 => hc.elim (fun q => F3 q h0) (fun q => absurd q.symm z10)⟩)
    · have E2 := m_Er1 E1 h2 g2
      exact mm_ret (mm_call_mono _ _) (c := True) (r := .inl none) (M := wP pre (wN (PP s2) (QQ s2) op oq tr 1 w2 0 ob st of F)) (u := 0) rfl trivial (by decide) (hQ _ _ _ (1, R1, R2) (pd 4 s2 D) ⟨S2.1, S2.2.1, Or.inl rfl, (by decide : 1 ≤ 2), Nat.le_refl 1, (fun k h1 h2 h3 => S2.2.2.1 k (fun q => q.elim h1 (fun q => q.elim h2 h3))), S2.2.2.2.1, S2.2.2.2.2, fun h0 _ => ⟨E2 h0, ⟨pd_M (by decide), fun _ => hlz (mm_z1 h2.2.2.2.2.1 g2)⟩, ⟨fun _ => R1_2, fun q => absurd (show 2 ≤ 1 from q) (by decide)⟩⟩, fun hc h0 => hc.elim (fun q => F2 q h0) (fun q => absurd q.symm z10)⟩)
  · skip
    refine mm_skip (mm_call_mono _ _) 2 (st' := (21, [(0, .ref 10), (1, .int (nI D)), (2, .int (nI A))], [.int 1, .ref 10], wP pre (wN (PP s1) (QQ s1) op oq tr 1 w1 0 ob st of F), 0)) rfl ?_
    refine mm_need (mm_call_mono _ _) (c := mm_z 1) (s' := (24, [(0, .ref 10), (1, .int (nI D)), (2, .int (nI A))], [], wP pre (wN (PP s1) (QQ s1) op oq tr 1 w1 1 ob st of F), 0)) rfl (by unfold mm_z; decide) ?_
    refine mm_skip (mm_call_mono _ _) 2 (st' := (28, [(0, .ref 10), (1, .int (nI D)), (2, .int (nI A))], [.int 1], wP pre (wN (PP s1) (QQ s1) op oq tr 1 w1 1 ob st of F), 0)) rfl ?_
    refine mm_branch (mm_call_mono _ _) (c := (1 : Int32) = 0) (s1 := (31, [(0, .ref 10), (1, .int (nI D)), (2, .int (nI A))], [], wP pre (wN (PP s1) (QQ s1) op oq tr 1 w1 1 ob st of F), 0)) (s2 := (40, [(0, .ref 10), (1, .int (nI D)), (2, .int (nI A))], [], wP pre (wN (PP s1) (QQ s1) op oq tr 1 w1 1 ob st of F), 0)) rfl (fun h => absurd h (by decide)) (fun _ => ?_)
    exact mm_ret (mm_call_mono _ _) (c := True) (r := .inl none) (M := wP pre (wN (PP s1) (QQ s1) op oq tr 1 w1 1 ob st of F)) (u := 0) rfl trivial (by decide) (hQ _ _ _ (1, R1, R2) zz ⟨S1.1, S1.2.1, Or.inr rfl, (by decide : 1 ≤ 2), Nat.le_refl 1, (fun k h1 h2 h3 => S1.2.2.1 k (fun q => q.elim h1 (fun q => q.elim h2 h3))), S1.2.2.2.1, S1.2.2.2.2, fun _ q => absurd q z10, (fun hc h0 => hc.elim (fun q => F1 q h0) (fun _ => (S1.2.1).elim (fun z => (E1 z).trans (if_pos (i32_lt g1))) (fun z => F1 z h0)))⟩)

set_option maxRecDepth 100000 in
theorem rg_take_2 {d : Nat} {pre : mm_pre} {s : Nat → fr} {op oq : Nat → Int64} {tr wi ob : Int32} {st of : Nat → Int32} {F : mm_M} {R1 R2 : n4} {D A : Nat} {x : n4} {Q : mm_R → mm_M → Prop} (hV : ∀ k, fv (s k)) (hz : mm_z wi) (hl : 2 ≤ 2) (hg : (D + 4 ≤ 288 ∨ (368 ≤ D ∧ D + 4 ≤ 480)) ∧ (A + 4 ≤ 288 ∨ (368 ≤ A ∧ A + 4 ≤ 480)) ∧ (D + 4 ≤ A ∨ A + 4 ≤ D)) (R : rdM s wi (2, R1, R2)) (Hf : isM s wi 1 299 (fun _ => (1, 2))) (X : tM s wi 2 A x) (hQ : ∀ (s1 : Nat → fr) (w1 fa1 : Int32) (L1 : lvR) (v : n4), tkM s wi (2, R1, R2) D (xtake (2, R1, R2) x) s1 w1 fa1 L1 v → Q (.inl none) (wP pre (wN (PP s1) (QQ s1) op oq tr (nI L1.1) w1 fa1 ob st of F))) : mm_call mm_Tb (d + 11) 82 [.ref 10, .int (nI D), .int (nI A)] (wP pre (wN (PP s) (QQ s) op oq tr 2 wi 0 ob st of F)) Q := by
  have S0 := ms_0 (Z := fun k => (300 ≤ k ∧ k < 368) ∨ (D ≤ k ∧ k < D + 4) ∨ (288 ≤ k ∧ k < 291 ∧ (2 = 0 ∨ (2 = 1 ∧ 289 ≤ k)))) hV hz
  have E0 : wi = 0 → xtake (2, R1, R2) x = Option.bind (xsg (2, R1, R2) x) _ := fun _ => rfl
  have F0 : wi = 1 → wi = 0 → xtake (2, R1, R2) x = none := fun h1 h0 => absurd (h1.symm.trans h0) z10
  have R1_0 := R.1 (show 1 ≤ 2 by decide)
  have R2_0 := R.2 (Nat.le_refl 2)
  refine mm_in mt_82 (Nat.le_of_ble_eq_true rfl) ?_
  show mm_W _ _ _ _ _ _ _ (0, [(0, .ref 10), (1, .int (nI D)), (2, .int (nI A))], [], wP pre (wN (PP s) (QQ s) op oq tr 2 wi 0 ob st of F), 0)
  refine mm_skip (mm_call_mono _ _) 3 (st' := (5, [(0, .ref 10), (1, .int (nI D)), (2, .int (nI A))], [.int 0, .ref 10], wP pre (wN (PP s) (QQ s) op oq tr 2 wi 0 ob st of F), 0)) rfl ?_
  refine mm_branch (mm_call_mono _ _) (c := (0 : Int32) = 0) (s1 := (8, [(0, .ref 10), (1, .int (nI D)), (2, .int (nI A))], [.ref 10], wP pre (wN (PP s) (QQ s) op oq tr 2 wi 0 ob st of F), 0)) (s2 := (16, [(0, .ref 10), (1, .int (nI D)), (2, .int (nI A))], [.ref 10], wP pre (wN (PP s) (QQ s) op oq tr 2 wi 0 ob st of F), 0)) rfl (fun _ => ?_) (fun h => absurd (by decide) h)
  refine mm_skip (mm_call_mono _ _) 2 (st' := (10, [(0, .ref 10), (1, .int (nI D)), (2, .int (nI A))], [.int (nI A), .ref 10, .ref 10], wP pre (wN (PP s) (QQ s) op oq tr 2 wi 0 ob st of F), 0)) rfl ?_
  refine mm_inv (mm_call_mono _ _) (j := 80) (a := [.ref 10, .int (nI A)]) (M := wP pre (wN (PP s) (QQ s) op oq tr 2 wi 0 ob st of F)) (u := 0) rfl (by decide) (rg_sign_2 (R1 := R1) (R2 := R2) (A := A) hV hz (by decide) (by omega) R X (fun s1 w1 v h1 => ?_))
  show mm_W _ _ _ _ _ _ _ (13, [(0, .ref 10), (1, .int (nI D)), (2, .int (nI A))], [.int v, .ref 10], wP pre (wN (PP s1) (QQ s1) op oq tr 2 w1 0 ob st of F), 0)
  have S1 := ms_g S0 h1 (fun k => by omega)
  have F1 := m_Fg S0 F0 E0 h1
  have E1 := m_Eg E0 h1
  have X1 := m_kg X.1 h1 (by omega)
  have Hf1 := m_kg Hf h1 (by omega)
  have R1_1 := m_kg (R1_0) h1 (by omega)
  have R2_1 := m_kg (R2_0) h1 (by omega)
  refine mm_branch (mm_call_mono _ _) (c := 0 ≤ v) (s1 := (20, [(0, .ref 10), (1, .int (nI D)), (2, .int (nI A))], [.ref 10], wP pre (wN (PP s1) (QQ s1) op oq tr 2 w1 0 ob st of F), 0)) (s2 := (16, [(0, .ref 10), (1, .int (nI D)), (2, .int (nI A))], [.ref 10], wP pre (wN (PP s1) (QQ s1) op oq tr 2 w1 0 ob st of F), 0)) rfl (fun g1 => ?_) (fun g1 => ?_)
  · have E1 := fun h0 => (E1 h0).trans (if_neg (i32_ge g1))
    refine mm_skip (mm_call_mono _ _) 1 (st' := (21, [(0, .ref 10), (1, .int (nI D)), (2, .int (nI A))], [.int 0, .ref 10], wP pre (wN (PP s1) (QQ s1) op oq tr 2 w1 0 ob st of F), 0)) rfl ?_
    refine mm_need (mm_call_mono _ _) (c := mm_z 0) (s' := (24, [(0, .ref 10), (1, .int (nI D)), (2, .int (nI A))], [], wP pre (wN (PP s1) (QQ s1) op oq tr 2 w1 0 ob st of F), 0)) rfl (by unfold mm_z; decide) ?_
    refine mm_skip (mm_call_mono _ _) 2 (st' := (28, [(0, .ref 10), (1, .int (nI D)), (2, .int (nI A))], [.int 0], wP pre (wN (PP s1) (QQ s1) op oq tr 2 w1 0 ob st of F), 0)) rfl ?_
    refine mm_branch (mm_call_mono _ _) (c := (0 : Int32) = 0) (s1 := (31, [(0, .ref 10), (1, .int (nI D)), (2, .int (nI A))], [], wP pre (wN (PP s1) (QQ s1) op oq tr 2 w1 0 ob st of F), 0)) (s2 := (40, [(0, .ref 10), (1, .int (nI D)), (2, .int (nI A))], [], wP pre (wN (PP s1) (QQ s1) op oq tr 2 w1 0 ob st of F), 0)) rfl (fun _ => ?_) (fun h => absurd (by decide) h)
    refine mm_skip (mm_call_mono _ _) 3 (st' := (34, [(0, .ref 10), (1, .int (nI D)), (2, .int (nI A))], [.int (nI A), .int (nI D), .ref 10], wP pre (wN (PP s1) (QQ s1) op oq tr 2 w1 0 ob st of F), 0)) rfl ?_
    refine mm_inv (mm_call_mono _ _) (j := 81) (a := [.ref 10, .int (nI D), .int (nI A)]) (M := wP pre (wN (PP s1) (QQ s1) op oq tr 2 w1 0 ob st of F)) (u := 0) rfl (by decide) (rg_root_2 (R1 := R1) (R2 := R2) (D := D) (A := A) S1.1 S1.2.1 (by decide) (by omega) ⟨fun _ => R1_1, fun _ => R2_1⟩ Hf1 ⟨X1, fun h0 => X.2 (S1.2.2.2.2 h0)⟩ (fun s2 w2 b h2 hlz => ?_))
    show mm_W _ _ _ _ _ _ _ (37, [(0, .ref 10), (1, .int (nI D)), (2, .int (nI A))], [.int b], wP pre (wN (PP s2) (QQ s2) op oq tr 2 w2 0 ob st of F), 0)
    have S2 := ms_r S1 h2 (fun k => by omega)
    have F2 := m_Fr S1 F1 E1 h2
    have R1_2 := m_kr (R1_1) h2 (by omega)
    have R2_2 := m_kr (R2_1) h2 (by omega)
    have X2 := m_kr X1 h2 (by omega)
    refine mm_branch (mm_call_mono _ _) (c := b = 0) (s1 := (41, [(0, .ref 10), (1, .int (nI D)), (2, .int (nI A))], [], wP pre (wN (PP s2) (QQ s2) op oq tr 2 w2 0 ob st of F), 0)) (s2 := (40, [(0, .ref 10), (1, .int (nI D)), (2, .int (nI A))], [], wP pre (wN (PP s2) (QQ s2) op oq tr 2 w2 0 ob st of F), 0)) rfl (fun g2 => ?_) (fun g2 => ?_)
    · have E2 := m_Er0 E1 h2 g2
      refine mm_skip (mm_call_mono _ _) 4 (st' := (47, [(0, .ref 10), (1, .int (nI D)), (2, .int (nI A))], [.int 2, .int 2, .ref 10], wP pre (wN (PP s2) (QQ s2) op oq tr 2 w2 0 ob st of F), 0)) rfl ?_
      refine mm_branch (mm_call_mono _ _) (c := (2 : Int32) = 2) (s1 := (50, [(0, .ref 10), (1, .int (nI D)), (2, .int (nI A))], [.ref 10], wP pre (wN (PP s2) (QQ s2) op oq tr 2 w2 0 ob st of F), 0)) (s2 := (54, [(0, .ref 10), (1, .int (nI D)), (2, .int (nI A))], [.ref 10], wP pre (wN (PP s2) (QQ s2) op oq tr 2 w2 0 ob st of F), 0)) rfl (fun _ => ?_) (fun h => absurd (by decide) h)
      refine mm_skip (mm_call_mono _ _) 2 (st' := (55, [(0, .ref 10), (1, .int (nI D)), (2, .int (nI A))], [.int 1, .ref 10], wP pre (wN (PP s2) (QQ s2) op oq tr 2 w2 0 ob st of F), 0)) rfl ?_
      refine mm_need (mm_call_mono _ _) (c := mm_z 1) (s' := (58, [(0, .ref 10), (1, .int (nI D)), (2, .int (nI A))], [], wP pre (wN (PP s2) (QQ s2) op oq tr 2 w2 1 ob st of F), 0)) rfl (by unfold mm_z; decide) ?_
      refine mm_skip (mm_call_mono _ _) 2 (st' := (62, [(0, .ref 10), (1, .int (nI D)), (2, .int (nI A))], [.int 1], wP pre (wN (PP s2) (QQ s2) op oq tr 2 w2 1 ob st of F), 0)) rfl ?_
      refine mm_branch (mm_call_mono _ _) (c := (1 : Int32) = 0) (s1 := (66, [(0, .ref 10), (1, .int (nI D)), (2, .int (nI A))], [], wP pre (wN (PP s2) (QQ s2) op oq tr 2 w2 1 ob st of F), 0)) (s2 := (65, [(0, .ref 10), (1, .int (nI D)), (2, .int (nI A))], [], wP pre (wN (PP s2) (QQ s2) op oq tr 2 w2 1 ob st of F), 0)) rfl (fun h => absurd h (by decide)) (fun _ => ?_)
      exact mm_ret (mm_call_mono _ _) (c := True) (r := .inl none) (M := wP pre (wN (PP s2) (QQ s2) op oq tr 2 w2 1 ob st of F)) (u := 0) rfl trivial (by decide) (hQ _ _ _ (2, R1, R2) zz ⟨S2.1, S2.2.1, Or.inr rfl, Nat.le_refl 2, Nat.le_refl 2, (fun k h1 h2 h3 => S2.2.2.1 k (fun q => q.elim h1 (fun q => q.elim h2 h3))), S2.2.2.2.1, S2.2.2.2.2, fun _ q => absurd q z10, (fun hc h0 => hc.elim (fun q => F2 q h0) (fun _ => (S2.2.1).elim (fun z => (E2 z)) (fun z => F2 z h0)))⟩)
    · have E2 := m_Er1 E1 h2 g2
      exact mm_ret (mm_call_mono _ _) (c := True) (r := .inl none) (M := wP pre (wN (PP s2) (QQ s2) op oq tr 2 w2 0 ob st of F)) (u := 0) rfl trivial (by decide) (hQ _ _ _ (2, R1, R2) (pd 4 s2 D) ⟨S2.1, S2.2.1, Or.inl rfl, (by decide : 2 ≤ 2), Nat.le_refl 2, (fun k h1 h2 h3 => S2.2.2.1 k (fun q => q.elim h1 (fun q => q.elim h2 h3))), S2.2.2.2.1, S2.2.2.2.2, fun h0 _ => ⟨E2 h0, ⟨pd_M (by decide), fun _ => hlz (mm_z1 h2.2.2.2.2.1 g2)⟩, ⟨fun _ => R1_2, fun _ => R2_2⟩⟩, fun hc h0 => hc.elim (fun q => F2 q h0) (fun q => absurd q.symm z10)⟩)
  · skip
    refine mm_skip (mm_call_mono _ _) 2 (st' := (21, [(0, .ref 10), (1, .int (nI D)), (2, .int (nI A))], [.int 1, .ref 10], wP pre (wN (PP s1) (QQ s1) op oq tr 2 w1 0 ob st of F), 0)) rfl ?_
    refine mm_need (mm_call_mono _ _) (c := mm_z 1) (s' := (24, [(0, .ref 10), (1, .int (nI D)), (2, .int (nI A))], [], wP pre (wN (PP s1) (QQ s1) op oq tr 2 w1 1 ob st of F), 0)) rfl (by unfold mm_z; decide) ?_
    refine mm_skip (mm_call_mono _ _) 2 (st' := (28, [(0, .ref 10), (1, .int (nI D)), (2, .int (nI A))], [.int 1], wP pre (wN (PP s1) (QQ s1) op oq tr 2 w1 1 ob st of F), 0)) rfl ?_
    refine mm_branch (mm_call_mono _ _) (c := (1 : Int32) = 0) (s1 := (31, [(0, .ref 10), (1, .int (nI D)), (2, .int (nI A))], [], wP pre (wN (PP s1) (QQ s1) op oq tr 2 w1 1 ob st of F), 0)) (s2 := (40, [(0, .ref 10), (1, .int (nI D)), (2, .int (nI A))], [], wP pre (wN (PP s1) (QQ s1) op oq tr 2 w1 1 ob st of F), 0)) rfl (fun h => absurd h (by decide)) (fun _ => ?_)
    exact mm_ret (mm_call_mono _ _) (c := True) (r := .inl none) (M := wP pre (wN (PP s1) (QQ s1) op oq tr 2 w1 1 ob st of F)) (u := 0) rfl trivial (by decide) (hQ _ _ _ (2, R1, R2) zz ⟨S1.1, S1.2.1, Or.inr rfl, (by decide : 2 ≤ 2), Nat.le_refl 2, (fun k h1 h2 h3 => S1.2.2.1 k (fun q => q.elim h1 (fun q => q.elim h2 h3))), S1.2.2.2.1, S1.2.2.2.2, fun _ q => absurd q z10, (fun hc h0 => hc.elim (fun q => F1 q h0) (fun _ => (S1.2.1).elim (fun z => (E1 z).trans (if_pos (i32_lt g1))) (fun z => F1 z h0)))⟩)

theorem rg_take {d : Nat} {pre : mm_pre} {s : Nat → fr} {op oq : Nat → Int64} {tr wi ob : Int32} {st of : Nat → Int32} {F : mm_M} {L : lvR} {D A : Nat} {x : n4} {Q : mm_R → mm_M → Prop} (hV : ∀ k, fv (s k)) (hz : mm_z wi) (hl : L.1 ≤ 2) (hg : (D + 4 ≤ 288 ∨ (368 ≤ D ∧ D + 4 ≤ 480)) ∧ (A + 4 ≤ 288 ∨ (368 ≤ A ∧ A + 4 ≤ 480)) ∧ (D + 4 ≤ A ∨ A + 4 ≤ D)) (R : rdM s wi L) (Hf : isM s wi 1 299 (fun _ => (1, 2))) (X : tM s wi L.1 A x) (hQ : ∀ (s1 : Nat → fr) (w1 fa1 : Int32) (L1 : lvR) (v : n4), tkM s wi L D (xtake L x) s1 w1 fa1 L1 v → Q (.inl none) (wP pre (wN (PP s1) (QQ s1) op oq tr (nI L1.1) w1 fa1 ob st of F))) : mm_call mm_Tb (d + 11) 82 [.ref 10, .int (nI D), .int (nI A)] (wP pre (wN (PP s) (QQ s) op oq tr (nI L.1) wi 0 ob st of F)) Q := by
  obtain ⟨l, R1, R2⟩ := L
  have hl2 : l ≤ 2 := hl
  rcases (show l = 0 ∨ l = 1 ∨ l = 2 by omega) with rfl | rfl | rfl
  · exact rg_take_0 hV hz hl2 hg R Hf X hQ
  · exact rg_take_1 hV hz hl2 hg R Hf X hQ
  · exact rg_take_2 hV hz hl2 hg R Hf X hQ
set_option maxRecDepth 100000 in
theorem rg_products {d : Nat} {pre : mm_pre} {s : Nat → fr} {op oq : Nat → Int64} {tr wi fa ob : Int32} {st of : Nat → Int32} {F : mm_M} {L : lvR} {D A B C E : Nat} {x y u v : n4} {Q : mm_R → mm_M → Prop} (hV : ∀ k, fv (s k)) (hz : mm_z wi) (hl : L.1 ≤ 2) (hg : (D + 4 ≤ 288 ∨ (368 ≤ D ∧ D + 4 ≤ 448)) ∧ (A + 4 ≤ 288 ∨ (368 ≤ A ∧ A + 4 ≤ 448) ∨ (456 ≤ A ∧ A + 4 ≤ 480)) ∧ (B + 4 ≤ 288 ∨ (368 ≤ B ∧ B + 4 ≤ 448) ∨ (456 ≤ B ∧ B + 4 ≤ 480)) ∧ (C + 4 ≤ 288 ∨ (368 ≤ C ∧ C + 4 ≤ 448) ∨ (456 ≤ C ∧ C + 4 ≤ 480)) ∧ (E + 4 ≤ 288 ∨ (368 ≤ E ∧ E + 4 ≤ 448) ∨ (456 ≤ E ∧ E + 4 ≤ 480))) (R : rdM s wi L) (X : tM s wi L.1 A x) (Y : tM s wi L.1 B y) (U : tM s wi L.1 C u) (Vv : tM s wi L.1 E v) (hQ : ∀ (s1 : Nat → fr) (w1 : Int32), gR s wi L.1 448 D (xprod L x y u v) s1 w1 → Q (.inl none) (wP pre (wN (PP s1) (QQ s1) op oq tr (nI L.1) w1 fa ob st of F))) : mm_call mm_Tb (d + 8) 86 [.ref 10, .int (nI D), .int (nI A), .int (nI B), .int (nI C), .int (nI E)] (wP pre (wN (PP s) (QQ s) op oq tr (nI L.1) wi fa ob st of F)) Q := by
  have S0 := ms_0 (wi := wi) (Z := fun k => (300 ≤ k ∧ k < 368) ∨ 448 ≤ k ∨ (D ≤ k ∧ k < D + 4)) hV hz
  have E0 : wi = 0 → xprod L x y u v = Option.bind (xmul L x y) _ := fun _ => rfl
  have F0 : wi = 1 → wi = 0 → xprod L x y u v = none := fun h1 h0 => absurd (h1.symm.trans h0) z10
  refine mm_in mt_86 (Nat.le_of_ble_eq_true rfl) ?_
  show mm_W _ _ _ _ _ _ _ (0, [(0, .ref 10), (1, .int (nI D)), (2, .int (nI A)), (3, .int (nI B)), (4, .int (nI C)), (5, .int (nI E))], [], wP pre (wN (PP s) (QQ s) op oq tr (nI L.1) wi fa ob st of F), 0)
  refine mm_skip (mm_call_mono _ _) 2 (st' := (3, [(0, .ref 10), (1, .int (nI D)), (2, .int (nI A)), (3, .int (nI B)), (4, .int (nI C)), (5, .int (nI E))], [.int 20, .ref 10], wP pre (wN (PP s) (QQ s) op oq tr (nI L.1) wi fa ob st of F), 0)) rfl ?_
  refine mm_inv (mm_call_mono _ _) (j := 85) (a := [.int 20]) (M := wP pre (wN (PP s) (QQ s) op oq tr (nI L.1) wi fa ob st of F)) (u := 0) rfl (by decide) (rm_work ?_)
  show mm_W _ _ _ _ _ _ _ (6, [(0, .ref 10), (1, .int (nI D)), (2, .int (nI A)), (3, .int (nI B)), (4, .int (nI C)), (5, .int (nI E))], [.int 448, .ref 10], wP pre (wN (PP s) (QQ s) op oq tr (nI L.1) wi fa ob st of F), 0)
  refine mm_skip (mm_call_mono _ _) 2 (st' := (8, [(0, .ref 10), (1, .int (nI D)), (2, .int (nI A)), (3, .int (nI B)), (4, .int (nI C)), (5, .int (nI E))], [.int (nI B), .int (nI A), .int 448, .ref 10], wP pre (wN (PP s) (QQ s) op oq tr (nI L.1) wi fa ob st of F), 0)) rfl ?_
  refine mm_inv (mm_call_mono _ _) (j := 78) (a := [.ref 10, .int 448, .int (nI A), .int (nI B)]) (M := wP pre (wN (PP s) (QQ s) op oq tr (nI L.1) wi fa ob st of F)) (u := 0) rfl (by decide) (rg_mul (D := 448) (A := A) (B := B) hV hz hl (by omega) R X Y (fun s1 w1 h1 => ?_))
  show mm_W _ _ _ _ _ _ _ (11, [(0, .ref 10), (1, .int (nI D)), (2, .int (nI A)), (3, .int (nI B)), (4, .int (nI C)), (5, .int (nI E))], [], wP pre (wN (PP s1) (QQ s1) op oq tr (nI L.1) w1 fa ob st of F), 0)
  have V1 := h1.1
  have z1 := h1.2.1
  have S1 := gs_s S0 h1 (fun k => by omega)
  have F1 := g_F S0 F0 E0 h1
  have E1 := g_E E0 h1
  have R_1 := r_k R h1 (by omega)
  have U_1 := t_k U h1 (by omega)
  have Vv_1 := t_k Vv h1 (by omega)
  have W1_1 := t_new h1
  refine mm_skip (mm_call_mono _ _) 2 (st' := (14, [(0, .ref 10), (1, .int (nI D)), (2, .int (nI A)), (3, .int (nI B)), (4, .int (nI C)), (5, .int (nI E))], [.int 21, .ref 10], wP pre (wN (PP s1) (QQ s1) op oq tr (nI L.1) w1 fa ob st of F), 0)) rfl ?_
  refine mm_inv (mm_call_mono _ _) (j := 85) (a := [.int 21]) (M := wP pre (wN (PP s1) (QQ s1) op oq tr (nI L.1) w1 fa ob st of F)) (u := 0) rfl (by decide) (rm_work ?_)
  show mm_W _ _ _ _ _ _ _ (17, [(0, .ref 10), (1, .int (nI D)), (2, .int (nI A)), (3, .int (nI B)), (4, .int (nI C)), (5, .int (nI E))], [.int 452, .ref 10], wP pre (wN (PP s1) (QQ s1) op oq tr (nI L.1) w1 fa ob st of F), 0)
  refine mm_skip (mm_call_mono _ _) 2 (st' := (21, [(0, .ref 10), (1, .int (nI D)), (2, .int (nI A)), (3, .int (nI B)), (4, .int (nI C)), (5, .int (nI E))], [.int (nI E), .int (nI C), .int 452, .ref 10], wP pre (wN (PP s1) (QQ s1) op oq tr (nI L.1) w1 fa ob st of F), 0)) rfl ?_
  refine mm_inv (mm_call_mono _ _) (j := 78) (a := [.ref 10, .int 452, .int (nI C), .int (nI E)]) (M := wP pre (wN (PP s1) (QQ s1) op oq tr (nI L.1) w1 fa ob st of F)) (u := 0) rfl (by decide) (rg_mul (D := 452) (A := C) (B := E) V1 z1 hl (by omega) R_1 U_1 Vv_1 (fun s2 w2 h2 => ?_))
  show mm_W _ _ _ _ _ _ _ (24, [(0, .ref 10), (1, .int (nI D)), (2, .int (nI A)), (3, .int (nI B)), (4, .int (nI C)), (5, .int (nI E))], [], wP pre (wN (PP s2) (QQ s2) op oq tr (nI L.1) w2 fa ob st of F), 0)
  have V2 := h2.1
  have z2 := h2.2.1
  have S2 := gs_s S1 h2 (fun k => by omega)
  have F2 := g_F S1 F1 E1 h2
  have E2 := g_E E1 h2
  have R_2 := r_k R_1 h2 (by omega)
  have W1_2 := t_k W1_1 h2 (by omega)
  have W2_2 := t_new h2
  refine mm_skip (mm_call_mono _ _) 3 (st' := (28, [(0, .ref 10), (1, .int (nI D)), (2, .int (nI A)), (3, .int (nI B)), (4, .int (nI C)), (5, .int (nI E))], [.int 20, .int (nI D), .ref 10], wP pre (wN (PP s2) (QQ s2) op oq tr (nI L.1) w2 fa ob st of F), 0)) rfl ?_
  refine mm_inv (mm_call_mono _ _) (j := 85) (a := [.int 20]) (M := wP pre (wN (PP s2) (QQ s2) op oq tr (nI L.1) w2 fa ob st of F)) (u := 0) rfl (by decide) (rm_work ?_)
  show mm_W _ _ _ _ _ _ _ (31, [(0, .ref 10), (1, .int (nI D)), (2, .int (nI A)), (3, .int (nI B)), (4, .int (nI C)), (5, .int (nI E))], [.int 448, .int (nI D), .ref 10], wP pre (wN (PP s2) (QQ s2) op oq tr (nI L.1) w2 fa ob st of F), 0)
  refine mm_skip (mm_call_mono _ _) 1 (st' := (33, [(0, .ref 10), (1, .int (nI D)), (2, .int (nI A)), (3, .int (nI B)), (4, .int (nI C)), (5, .int (nI E))], [.int 21, .int 448, .int (nI D), .ref 10], wP pre (wN (PP s2) (QQ s2) op oq tr (nI L.1) w2 fa ob st of F), 0)) rfl ?_
  refine mm_inv (mm_call_mono _ _) (j := 85) (a := [.int 21]) (M := wP pre (wN (PP s2) (QQ s2) op oq tr (nI L.1) w2 fa ob st of F)) (u := 0) rfl (by decide) (rm_work ?_)
  show mm_W _ _ _ _ _ _ _ (36, [(0, .ref 10), (1, .int (nI D)), (2, .int (nI A)), (3, .int (nI B)), (4, .int (nI C)), (5, .int (nI E))], [.int 452, .int 448, .int (nI D), .ref 10], wP pre (wN (PP s2) (QQ s2) op oq tr (nI L.1) w2 fa ob st of F), 0)
  refine mm_skip (mm_call_mono _ _) 1 (st' := (37, [(0, .ref 10), (1, .int (nI D)), (2, .int (nI A)), (3, .int (nI B)), (4, .int (nI C)), (5, .int (nI E))], [.int 4, .int 452, .int 448, .int (nI D), .ref 10], wP pre (wN (PP s2) (QQ s2) op oq tr (nI L.1) w2 fa ob st of F), 0)) rfl ?_
  refine mm_inv (mm_call_mono _ _) (j := 59) (a := [.ref 10, .int (nI D), .int 448, .int 452, .int 4]) (M := wP pre (wN (PP s2) (QQ s2) op oq tr (nI L.1) w2 fa ob st of F)) (u := 0) rfl (by decide) (rg_add (D := D) (A := 448) (B := 452) V2 z2 hl (by omega) W1_2 W2_2 (fun s3 w3 h3 => ?_))
  show mm_W _ _ _ _ _ _ _ (40, [(0, .ref 10), (1, .int (nI D)), (2, .int (nI A)), (3, .int (nI B)), (4, .int (nI C)), (5, .int (nI E))], [], wP pre (wN (PP s3) (QQ s3) op oq tr (nI L.1) w3 fa ob st of F), 0)
  have V3 := h3.1
  have z3 := h3.2.1
  have S3 := gs_s S2 h3 (fun k => by omega)
  have F3 := g_F S2 F2 E2 h3
  have E3 := g_E E2 h3
  have R_3 := r_k R_2 h3 (by omega)
  have W3_3 := t_new h3
  exact mm_ret (mm_call_mono _ _) (c := True) (r := .inl none) (M := wP pre (wN (PP s3) (QQ s3) op oq tr (nI L.1) w3 fa ob st of F)) (u := 0) rfl trivial (by decide) (hQ _ _ (g_fin (W := 448) (D := D) S3 (fun k => by omega) E3 F3 (fun h0 => (W3_3).2 h0)))

set_option maxRecDepth 100000 in
theorem rg_cross {d : Nat} {pre : mm_pre} {s : Nat → fr} {op oq : Nat → Int64} {tr wi fa ob : Int32} {st of : Nat → Int32} {F : mm_M} {L : lvR} {D A B C E : Nat} {x y u v : n4} {Q : mm_R → mm_M → Prop} (hV : ∀ k, fv (s k)) (hz : mm_z wi) (hl : L.1 ≤ 2) (hg : (D + 4 ≤ 288 ∨ (368 ≤ D ∧ D + 4 ≤ 448)) ∧ (A + 4 ≤ 288 ∨ (368 ≤ A ∧ A + 4 ≤ 448) ∨ (456 ≤ A ∧ A + 4 ≤ 480)) ∧ (B + 4 ≤ 288 ∨ (368 ≤ B ∧ B + 4 ≤ 448) ∨ (456 ≤ B ∧ B + 4 ≤ 480)) ∧ (C + 4 ≤ 288 ∨ (368 ≤ C ∧ C + 4 ≤ 448) ∨ (456 ≤ C ∧ C + 4 ≤ 480)) ∧ (E + 4 ≤ 288 ∨ (368 ≤ E ∧ E + 4 ≤ 448) ∨ (456 ≤ E ∧ E + 4 ≤ 480))) (R : rdM s wi L) (X : tM s wi L.1 A x) (Y : tM s wi L.1 B y) (U : tM s wi L.1 C u) (Vv : tM s wi L.1 E v) (hQ : ∀ (s1 : Nat → fr) (w1 : Int32), gR s wi L.1 448 D (xcr L x y u v) s1 w1 → Q (.inl none) (wP pre (wN (PP s1) (QQ s1) op oq tr (nI L.1) w1 fa ob st of F))) : mm_call mm_Tb (d + 8) 87 [.ref 10, .int (nI D), .int (nI A), .int (nI B), .int (nI C), .int (nI E)] (wP pre (wN (PP s) (QQ s) op oq tr (nI L.1) wi fa ob st of F)) Q := by
  have S0 := ms_0 (wi := wi) (Z := fun k => (300 ≤ k ∧ k < 368) ∨ 448 ≤ k ∨ (D ≤ k ∧ k < D + 4)) hV hz
  have E0 : wi = 0 → xcr L x y u v = Option.bind (xmul L x y) _ := fun _ => rfl
  have F0 : wi = 1 → wi = 0 → xcr L x y u v = none := fun h1 h0 => absurd (h1.symm.trans h0) z10
  refine mm_in mt_87 (Nat.le_of_ble_eq_true rfl) ?_
  show mm_W _ _ _ _ _ _ _ (0, [(0, .ref 10), (1, .int (nI D)), (2, .int (nI A)), (3, .int (nI B)), (4, .int (nI C)), (5, .int (nI E))], [], wP pre (wN (PP s) (QQ s) op oq tr (nI L.1) wi fa ob st of F), 0)
  refine mm_skip (mm_call_mono _ _) 2 (st' := (3, [(0, .ref 10), (1, .int (nI D)), (2, .int (nI A)), (3, .int (nI B)), (4, .int (nI C)), (5, .int (nI E))], [.int 20, .ref 10], wP pre (wN (PP s) (QQ s) op oq tr (nI L.1) wi fa ob st of F), 0)) rfl ?_
  refine mm_inv (mm_call_mono _ _) (j := 85) (a := [.int 20]) (M := wP pre (wN (PP s) (QQ s) op oq tr (nI L.1) wi fa ob st of F)) (u := 0) rfl (by decide) (rm_work ?_)
  show mm_W _ _ _ _ _ _ _ (6, [(0, .ref 10), (1, .int (nI D)), (2, .int (nI A)), (3, .int (nI B)), (4, .int (nI C)), (5, .int (nI E))], [.int 448, .ref 10], wP pre (wN (PP s) (QQ s) op oq tr (nI L.1) wi fa ob st of F), 0)
  refine mm_skip (mm_call_mono _ _) 2 (st' := (8, [(0, .ref 10), (1, .int (nI D)), (2, .int (nI A)), (3, .int (nI B)), (4, .int (nI C)), (5, .int (nI E))], [.int (nI B), .int (nI A), .int 448, .ref 10], wP pre (wN (PP s) (QQ s) op oq tr (nI L.1) wi fa ob st of F), 0)) rfl ?_
  refine mm_inv (mm_call_mono _ _) (j := 78) (a := [.ref 10, .int 448, .int (nI A), .int (nI B)]) (M := wP pre (wN (PP s) (QQ s) op oq tr (nI L.1) wi fa ob st of F)) (u := 0) rfl (by decide) (rg_mul (D := 448) (A := A) (B := B) hV hz hl (by omega) R X Y (fun s1 w1 h1 => ?_))
  show mm_W _ _ _ _ _ _ _ (11, [(0, .ref 10), (1, .int (nI D)), (2, .int (nI A)), (3, .int (nI B)), (4, .int (nI C)), (5, .int (nI E))], [], wP pre (wN (PP s1) (QQ s1) op oq tr (nI L.1) w1 fa ob st of F), 0)
  have V1 := h1.1
  have z1 := h1.2.1
  have S1 := gs_s S0 h1 (fun k => by omega)
  have F1 := g_F S0 F0 E0 h1
  have E1 := g_E E0 h1
  have R_1 := r_k R h1 (by omega)
  have U_1 := t_k U h1 (by omega)
  have Vv_1 := t_k Vv h1 (by omega)
  have W1_1 := t_new h1
  refine mm_skip (mm_call_mono _ _) 2 (st' := (14, [(0, .ref 10), (1, .int (nI D)), (2, .int (nI A)), (3, .int (nI B)), (4, .int (nI C)), (5, .int (nI E))], [.int 21, .ref 10], wP pre (wN (PP s1) (QQ s1) op oq tr (nI L.1) w1 fa ob st of F), 0)) rfl ?_
  refine mm_inv (mm_call_mono _ _) (j := 85) (a := [.int 21]) (M := wP pre (wN (PP s1) (QQ s1) op oq tr (nI L.1) w1 fa ob st of F)) (u := 0) rfl (by decide) (rm_work ?_)
  show mm_W _ _ _ _ _ _ _ (17, [(0, .ref 10), (1, .int (nI D)), (2, .int (nI A)), (3, .int (nI B)), (4, .int (nI C)), (5, .int (nI E))], [.int 452, .ref 10], wP pre (wN (PP s1) (QQ s1) op oq tr (nI L.1) w1 fa ob st of F), 0)
  refine mm_skip (mm_call_mono _ _) 2 (st' := (21, [(0, .ref 10), (1, .int (nI D)), (2, .int (nI A)), (3, .int (nI B)), (4, .int (nI C)), (5, .int (nI E))], [.int (nI E), .int (nI C), .int 452, .ref 10], wP pre (wN (PP s1) (QQ s1) op oq tr (nI L.1) w1 fa ob st of F), 0)) rfl ?_
  refine mm_inv (mm_call_mono _ _) (j := 78) (a := [.ref 10, .int 452, .int (nI C), .int (nI E)]) (M := wP pre (wN (PP s1) (QQ s1) op oq tr (nI L.1) w1 fa ob st of F)) (u := 0) rfl (by decide) (rg_mul (D := 452) (A := C) (B := E) V1 z1 hl (by omega) R_1 U_1 Vv_1 (fun s2 w2 h2 => ?_))
  show mm_W _ _ _ _ _ _ _ (24, [(0, .ref 10), (1, .int (nI D)), (2, .int (nI A)), (3, .int (nI B)), (4, .int (nI C)), (5, .int (nI E))], [], wP pre (wN (PP s2) (QQ s2) op oq tr (nI L.1) w2 fa ob st of F), 0)
  have V2 := h2.1
  have z2 := h2.2.1
  have S2 := gs_s S1 h2 (fun k => by omega)
  have F2 := g_F S1 F1 E1 h2
  have E2 := g_E E1 h2
  have R_2 := r_k R_1 h2 (by omega)
  have W1_2 := t_k W1_1 h2 (by omega)
  have W2_2 := t_new h2
  refine mm_skip (mm_call_mono _ _) 3 (st' := (28, [(0, .ref 10), (1, .int (nI D)), (2, .int (nI A)), (3, .int (nI B)), (4, .int (nI C)), (5, .int (nI E))], [.int 20, .int (nI D), .ref 10], wP pre (wN (PP s2) (QQ s2) op oq tr (nI L.1) w2 fa ob st of F), 0)) rfl ?_
  refine mm_inv (mm_call_mono _ _) (j := 85) (a := [.int 20]) (M := wP pre (wN (PP s2) (QQ s2) op oq tr (nI L.1) w2 fa ob st of F)) (u := 0) rfl (by decide) (rm_work ?_)
  show mm_W _ _ _ _ _ _ _ (31, [(0, .ref 10), (1, .int (nI D)), (2, .int (nI A)), (3, .int (nI B)), (4, .int (nI C)), (5, .int (nI E))], [.int 448, .int (nI D), .ref 10], wP pre (wN (PP s2) (QQ s2) op oq tr (nI L.1) w2 fa ob st of F), 0)
  refine mm_skip (mm_call_mono _ _) 1 (st' := (33, [(0, .ref 10), (1, .int (nI D)), (2, .int (nI A)), (3, .int (nI B)), (4, .int (nI C)), (5, .int (nI E))], [.int 21, .int 448, .int (nI D), .ref 10], wP pre (wN (PP s2) (QQ s2) op oq tr (nI L.1) w2 fa ob st of F), 0)) rfl ?_
  refine mm_inv (mm_call_mono _ _) (j := 85) (a := [.int 21]) (M := wP pre (wN (PP s2) (QQ s2) op oq tr (nI L.1) w2 fa ob st of F)) (u := 0) rfl (by decide) (rm_work ?_)
  show mm_W _ _ _ _ _ _ _ (36, [(0, .ref 10), (1, .int (nI D)), (2, .int (nI A)), (3, .int (nI B)), (4, .int (nI C)), (5, .int (nI E))], [.int 452, .int 448, .int (nI D), .ref 10], wP pre (wN (PP s2) (QQ s2) op oq tr (nI L.1) w2 fa ob st of F), 0)
  refine mm_skip (mm_call_mono _ _) 1 (st' := (37, [(0, .ref 10), (1, .int (nI D)), (2, .int (nI A)), (3, .int (nI B)), (4, .int (nI C)), (5, .int (nI E))], [.int 4, .int 452, .int 448, .int (nI D), .ref 10], wP pre (wN (PP s2) (QQ s2) op oq tr (nI L.1) w2 fa ob st of F), 0)) rfl ?_
  refine mm_inv (mm_call_mono _ _) (j := 60) (a := [.ref 10, .int (nI D), .int 448, .int 452, .int 4]) (M := wP pre (wN (PP s2) (QQ s2) op oq tr (nI L.1) w2 fa ob st of F)) (u := 0) rfl (by decide) (rg_sub (D := D) (A := 448) (B := 452) V2 z2 hl (by omega) W1_2 W2_2 (fun s3 w3 h3 => ?_))
  show mm_W _ _ _ _ _ _ _ (40, [(0, .ref 10), (1, .int (nI D)), (2, .int (nI A)), (3, .int (nI B)), (4, .int (nI C)), (5, .int (nI E))], [], wP pre (wN (PP s3) (QQ s3) op oq tr (nI L.1) w3 fa ob st of F), 0)
  have V3 := h3.1
  have z3 := h3.2.1
  have S3 := gs_s S2 h3 (fun k => by omega)
  have F3 := g_F S2 F2 E2 h3
  have E3 := g_E E2 h3
  have R_3 := r_k R_2 h3 (by omega)
  have W3_3 := t_new h3
  exact mm_ret (mm_call_mono _ _) (c := True) (r := .inl none) (M := wP pre (wN (PP s3) (QQ s3) op oq tr (nI L.1) w3 fa ob st of F)) (u := 0) rfl trivial (by decide) (hQ _ _ (g_fin (W := 448) (D := D) S3 (fun k => by omega) E3 F3 (fun h0 => (W3_3).2 h0)))

theorem prod_b {L : lvR} {a b c e : n4} {X : Type} (k : n4 → Option X) : (xprod L a b c e).bind k = (xmul L a b).bind fun t => (xmul L c e).bind fun u => (xadd L.1 t u).bind k := by
  unfold xprod
  cases xmul L a b with
  | none => rfl
  | some t =>
    show (((xmul L c e).bind fun u => (xadd L.1 t u).bind fun r => some r).bind k) = (xmul L c e).bind fun u => (xadd L.1 t u).bind k
    cases xmul L c e with
    | none => rfl
    | some u =>
      show (((xadd L.1 t u).bind fun r => some r).bind k) = (xadd L.1 t u).bind k
      cases xadd L.1 t u <;> rfl
theorem cr_b {L : lvR} {a b c e : n4} {X : Type} (k : n4 → Option X) : (xcr L a b c e).bind k = (xmul L a b).bind fun t => (xmul L c e).bind fun u => (xsub L.1 t u).bind k := by
  unfold xcr
  cases xmul L a b with
  | none => rfl
  | some t =>
    show (((xmul L c e).bind fun u => (xsub L.1 t u).bind fun r => some r).bind k) = (xmul L c e).bind fun u => (xsub L.1 t u).bind k
    cases xmul L c e with
    | none => rfl
    | some u =>
      show (((xsub L.1 t u).bind fun r => some r).bind k) = (xsub L.1 t u).bind k
      cases xsub L.1 t u <;> rfl
def rdist (L : lvR) (xp yp xq yq : n4) : Option n4 := (xsub L.1 xq xp).bind fun u => (xsub L.1 yq yp).bind fun v => (xprod L u u v v).bind fun r => some r
theorem rdist_eq {L : lvR} {xp yp xq yq : n4} : rdist L xp yp xq yq = xdist L xp yp xq yq := by
  unfold rdist xdist
  simp only [prod_b]
set_option maxRecDepth 100000 in
theorem rg_squared {d : Nat} {pre : mm_pre} {s : Nat → fr} {op oq : Nat → Int64} {tr wi fa ob : Int32} {st of : Nat → Int32} {F : mm_M} {L : lvR} {D0 p q : Nat} {xp yp xq yq : n4} {Q : mm_R → mm_M → Prop} (hV : ∀ k, fv (s k)) (hz : mm_z wi) (hl : L.1 ≤ 2) (hg : (D0 + 4 ≤ 288 ∨ (368 ≤ D0 ∧ D0 + 4 ≤ 448)) ∧ p < 24 ∧ q < 24) (R : rdM s wi L) (A : tM s wi L.1 (12 * p) xp) (B : tM s wi L.1 (12 * p + 4) yp) (C : tM s wi L.1 (12 * q) xq) (D : tM s wi L.1 (12 * q + 4) yq) (hQ : ∀ (s1 : Nat → fr) (w1 : Int32), gR s wi L.1 448 D0 (xdist L xp yp xq yq) s1 w1 → Q (.inl none) (wP pre (wN (PP s1) (QQ s1) op oq tr (nI L.1) w1 fa ob st of F))) : mm_call mm_Tb (d + 9) 88 [.ref 10, .int (nI D0), .int (nI p), .int (nI q)] (wP pre (wN (PP s) (QQ s) op oq tr (nI L.1) wi fa ob st of F)) Q := by
  have S0 := ms_0 (wi := wi) (Z := fun k => (300 ≤ k ∧ k < 368) ∨ 448 ≤ k ∨ (D0 ≤ k ∧ k < D0 + 4)) hV hz
  have E0 : wi = 0 → rdist L xp yp xq yq = Option.bind (xsub L.1 xq xp) _ := fun _ => rfl
  have F0 : wi = 1 → wi = 0 → rdist L xp yp xq yq = none := fun h1 h0 => absurd (h1.symm.trans h0) z10
  refine mm_in mt_88 (Nat.le_of_ble_eq_true rfl) ?_
  show mm_W _ _ _ _ _ _ _ (0, [(0, .ref 10), (1, .int (nI D0)), (2, .int (nI p)), (3, .int (nI q))], [], wP pre (wN (PP s) (QQ s) op oq tr (nI L.1) wi fa ob st of F), 0)
  refine mm_skip (mm_call_mono _ _) 2 (st' := (3, [(0, .ref 10), (1, .int (nI D0)), (2, .int (nI p)), (3, .int (nI q))], [.int 22, .ref 10], wP pre (wN (PP s) (QQ s) op oq tr (nI L.1) wi fa ob st of F), 0)) rfl ?_
  refine mm_inv (mm_call_mono _ _) (j := 85) (a := [.int 22]) (M := wP pre (wN (PP s) (QQ s) op oq tr (nI L.1) wi fa ob st of F)) (u := 0) rfl (by decide) (rm_work ?_)
  show mm_W _ _ _ _ _ _ _ (6, [(0, .ref 10), (1, .int (nI D0)), (2, .int (nI p)), (3, .int (nI q))], [.int 456, .ref 10], wP pre (wN (PP s) (QQ s) op oq tr (nI L.1) wi fa ob st of F), 0)
  refine mm_skip (mm_call_mono _ _) 1 (st' := (7, [(0, .ref 10), (1, .int (nI D0)), (2, .int (nI p)), (3, .int (nI q))], [.int (nI q), .int 456, .ref 10], wP pre (wN (PP s) (QQ s) op oq tr (nI L.1) wi fa ob st of F), 0)) rfl ?_
  refine mm_inv (mm_call_mono _ _) (j := 83) (a := [.int (nI q)]) (M := wP pre (wN (PP s) (QQ s) op oq tr (nI L.1) wi fa ob st of F)) (u := 0) rfl (by decide) (rm_xOf (o := q) ?_)
  show mm_W _ _ _ _ _ _ _ (10, [(0, .ref 10), (1, .int (nI D0)), (2, .int (nI p)), (3, .int (nI q))], [.int (nI (12 * q)), .int 456, .ref 10], wP pre (wN (PP s) (QQ s) op oq tr (nI L.1) wi fa ob st of F), 0)
  refine mm_skip (mm_call_mono _ _) 1 (st' := (11, [(0, .ref 10), (1, .int (nI D0)), (2, .int (nI p)), (3, .int (nI q))], [.int (nI p), .int (nI (12 * q)), .int 456, .ref 10], wP pre (wN (PP s) (QQ s) op oq tr (nI L.1) wi fa ob st of F), 0)) rfl ?_
  refine mm_inv (mm_call_mono _ _) (j := 83) (a := [.int (nI p)]) (M := wP pre (wN (PP s) (QQ s) op oq tr (nI L.1) wi fa ob st of F)) (u := 0) rfl (by decide) (rm_xOf (o := p) ?_)
  show mm_W _ _ _ _ _ _ _ (14, [(0, .ref 10), (1, .int (nI D0)), (2, .int (nI p)), (3, .int (nI q))], [.int (nI (12 * p)), .int (nI (12 * q)), .int 456, .ref 10], wP pre (wN (PP s) (QQ s) op oq tr (nI L.1) wi fa ob st of F), 0)
  refine mm_skip (mm_call_mono _ _) 1 (st' := (15, [(0, .ref 10), (1, .int (nI D0)), (2, .int (nI p)), (3, .int (nI q))], [.int 4, .int (nI (12 * p)), .int (nI (12 * q)), .int 456, .ref 10], wP pre (wN (PP s) (QQ s) op oq tr (nI L.1) wi fa ob st of F), 0)) rfl ?_
  refine mm_inv (mm_call_mono _ _) (j := 60) (a := [.ref 10, .int 456, .int (nI (12 * q)), .int (nI (12 * p)), .int 4]) (M := wP pre (wN (PP s) (QQ s) op oq tr (nI L.1) wi fa ob st of F)) (u := 0) rfl (by decide) (rg_sub (D := 456) (A := 12 * q) (B := 12 * p) hV hz hl (by omega) C A (fun s1 w1 h1 => ?_))
  show mm_W _ _ _ _ _ _ _ (18, [(0, .ref 10), (1, .int (nI D0)), (2, .int (nI p)), (3, .int (nI q))], [], wP pre (wN (PP s1) (QQ s1) op oq tr (nI L.1) w1 fa ob st of F), 0)
  have V1 := h1.1
  have z1 := h1.2.1
  have S1 := gs_s S0 h1 (fun k => by omega)
  have F1 := g_F S0 F0 E0 h1
  have E1 := g_E E0 h1
  have R_1 := r_k R h1 (by omega)
  have B_1 := t_k B h1 (by omega)
  have D_1 := t_k D h1 (by omega)
  have W1_1 := t_new h1
  refine mm_skip (mm_call_mono _ _) 2 (st' := (21, [(0, .ref 10), (1, .int (nI D0)), (2, .int (nI p)), (3, .int (nI q))], [.int 23, .ref 10], wP pre (wN (PP s1) (QQ s1) op oq tr (nI L.1) w1 fa ob st of F), 0)) rfl ?_
  refine mm_inv (mm_call_mono _ _) (j := 85) (a := [.int 23]) (M := wP pre (wN (PP s1) (QQ s1) op oq tr (nI L.1) w1 fa ob st of F)) (u := 0) rfl (by decide) (rm_work ?_)
  show mm_W _ _ _ _ _ _ _ (24, [(0, .ref 10), (1, .int (nI D0)), (2, .int (nI p)), (3, .int (nI q))], [.int 460, .ref 10], wP pre (wN (PP s1) (QQ s1) op oq tr (nI L.1) w1 fa ob st of F), 0)
  refine mm_skip (mm_call_mono _ _) 1 (st' := (25, [(0, .ref 10), (1, .int (nI D0)), (2, .int (nI p)), (3, .int (nI q))], [.int (nI q), .int 460, .ref 10], wP pre (wN (PP s1) (QQ s1) op oq tr (nI L.1) w1 fa ob st of F), 0)) rfl ?_
  refine mm_inv (mm_call_mono _ _) (j := 84) (a := [.int (nI q)]) (M := wP pre (wN (PP s1) (QQ s1) op oq tr (nI L.1) w1 fa ob st of F)) (u := 0) rfl (by decide) (rm_yOf (o := q) ?_)
  show mm_W _ _ _ _ _ _ _ (28, [(0, .ref 10), (1, .int (nI D0)), (2, .int (nI p)), (3, .int (nI q))], [.int (nI (12 * q + 4)), .int 460, .ref 10], wP pre (wN (PP s1) (QQ s1) op oq tr (nI L.1) w1 fa ob st of F), 0)
  refine mm_skip (mm_call_mono _ _) 1 (st' := (29, [(0, .ref 10), (1, .int (nI D0)), (2, .int (nI p)), (3, .int (nI q))], [.int (nI p), .int (nI (12 * q + 4)), .int 460, .ref 10], wP pre (wN (PP s1) (QQ s1) op oq tr (nI L.1) w1 fa ob st of F), 0)) rfl ?_
  refine mm_inv (mm_call_mono _ _) (j := 84) (a := [.int (nI p)]) (M := wP pre (wN (PP s1) (QQ s1) op oq tr (nI L.1) w1 fa ob st of F)) (u := 0) rfl (by decide) (rm_yOf (o := p) ?_)
  show mm_W _ _ _ _ _ _ _ (32, [(0, .ref 10), (1, .int (nI D0)), (2, .int (nI p)), (3, .int (nI q))], [.int (nI (12 * p + 4)), .int (nI (12 * q + 4)), .int 460, .ref 10], wP pre (wN (PP s1) (QQ s1) op oq tr (nI L.1) w1 fa ob st of F), 0)
  refine mm_skip (mm_call_mono _ _) 1 (st' := (33, [(0, .ref 10), (1, .int (nI D0)), (2, .int (nI p)), (3, .int (nI q))], [.int 4, .int (nI (12 * p + 4)), .int (nI (12 * q + 4)), .int 460, .ref 10], wP pre (wN (PP s1) (QQ s1) op oq tr (nI L.1) w1 fa ob st of F), 0)) rfl ?_
  refine mm_inv (mm_call_mono _ _) (j := 60) (a := [.ref 10, .int 460, .int (nI (12 * q + 4)), .int (nI (12 * p + 4)), .int 4]) (M := wP pre (wN (PP s1) (QQ s1) op oq tr (nI L.1) w1 fa ob st of F)) (u := 0) rfl (by decide) (rg_sub (D := 460) (A := (12 * q + 4)) (B := (12 * p + 4)) V1 z1 hl (by omega) D_1 B_1 (fun s2 w2 h2 => ?_))
  show mm_W _ _ _ _ _ _ _ (36, [(0, .ref 10), (1, .int (nI D0)), (2, .int (nI p)), (3, .int (nI q))], [], wP pre (wN (PP s2) (QQ s2) op oq tr (nI L.1) w2 fa ob st of F), 0)
  have V2 := h2.1
  have z2 := h2.2.1
  have S2 := gs_s S1 h2 (fun k => by omega)
  have F2 := g_F S1 F1 E1 h2
  have E2 := g_E E1 h2
  have R_2 := r_k R_1 h2 (by omega)
  have W1_2 := t_k W1_1 h2 (by omega)
  have W2_2 := t_new h2
  refine mm_skip (mm_call_mono _ _) 3 (st' := (40, [(0, .ref 10), (1, .int (nI D0)), (2, .int (nI p)), (3, .int (nI q))], [.int 22, .int (nI D0), .ref 10], wP pre (wN (PP s2) (QQ s2) op oq tr (nI L.1) w2 fa ob st of F), 0)) rfl ?_
  refine mm_inv (mm_call_mono _ _) (j := 85) (a := [.int 22]) (M := wP pre (wN (PP s2) (QQ s2) op oq tr (nI L.1) w2 fa ob st of F)) (u := 0) rfl (by decide) (rm_work ?_)
  show mm_W _ _ _ _ _ _ _ (43, [(0, .ref 10), (1, .int (nI D0)), (2, .int (nI p)), (3, .int (nI q))], [.int 456, .int (nI D0), .ref 10], wP pre (wN (PP s2) (QQ s2) op oq tr (nI L.1) w2 fa ob st of F), 0)
  refine mm_skip (mm_call_mono _ _) 1 (st' := (45, [(0, .ref 10), (1, .int (nI D0)), (2, .int (nI p)), (3, .int (nI q))], [.int 22, .int 456, .int (nI D0), .ref 10], wP pre (wN (PP s2) (QQ s2) op oq tr (nI L.1) w2 fa ob st of F), 0)) rfl ?_
  refine mm_inv (mm_call_mono _ _) (j := 85) (a := [.int 22]) (M := wP pre (wN (PP s2) (QQ s2) op oq tr (nI L.1) w2 fa ob st of F)) (u := 0) rfl (by decide) (rm_work ?_)
  show mm_W _ _ _ _ _ _ _ (48, [(0, .ref 10), (1, .int (nI D0)), (2, .int (nI p)), (3, .int (nI q))], [.int 456, .int 456, .int (nI D0), .ref 10], wP pre (wN (PP s2) (QQ s2) op oq tr (nI L.1) w2 fa ob st of F), 0)
  refine mm_skip (mm_call_mono _ _) 1 (st' := (50, [(0, .ref 10), (1, .int (nI D0)), (2, .int (nI p)), (3, .int (nI q))], [.int 23, .int 456, .int 456, .int (nI D0), .ref 10], wP pre (wN (PP s2) (QQ s2) op oq tr (nI L.1) w2 fa ob st of F), 0)) rfl ?_
  refine mm_inv (mm_call_mono _ _) (j := 85) (a := [.int 23]) (M := wP pre (wN (PP s2) (QQ s2) op oq tr (nI L.1) w2 fa ob st of F)) (u := 0) rfl (by decide) (rm_work ?_)
  show mm_W _ _ _ _ _ _ _ (53, [(0, .ref 10), (1, .int (nI D0)), (2, .int (nI p)), (3, .int (nI q))], [.int 460, .int 456, .int 456, .int (nI D0), .ref 10], wP pre (wN (PP s2) (QQ s2) op oq tr (nI L.1) w2 fa ob st of F), 0)
  refine mm_skip (mm_call_mono _ _) 1 (st' := (55, [(0, .ref 10), (1, .int (nI D0)), (2, .int (nI p)), (3, .int (nI q))], [.int 23, .int 460, .int 456, .int 456, .int (nI D0), .ref 10], wP pre (wN (PP s2) (QQ s2) op oq tr (nI L.1) w2 fa ob st of F), 0)) rfl ?_
  refine mm_inv (mm_call_mono _ _) (j := 85) (a := [.int 23]) (M := wP pre (wN (PP s2) (QQ s2) op oq tr (nI L.1) w2 fa ob st of F)) (u := 0) rfl (by decide) (rm_work ?_)
  show mm_W _ _ _ _ _ _ _ (58, [(0, .ref 10), (1, .int (nI D0)), (2, .int (nI p)), (3, .int (nI q))], [.int 460, .int 460, .int 456, .int 456, .int (nI D0), .ref 10], wP pre (wN (PP s2) (QQ s2) op oq tr (nI L.1) w2 fa ob st of F), 0)
  refine mm_inv (mm_call_mono _ _) (j := 86) (a := [.ref 10, .int (nI D0), .int 456, .int 456, .int 460, .int 460]) (M := wP pre (wN (PP s2) (QQ s2) op oq tr (nI L.1) w2 fa ob st of F)) (u := 0) rfl (by decide) (rg_products (D := D0) (A := 456) (B := 456) (C := 460) (E := 460) V2 z2 hl (by omega) R_2 W1_2 W1_2 W2_2 W2_2 (fun s3 w3 h3 => ?_))
  show mm_W _ _ _ _ _ _ _ (61, [(0, .ref 10), (1, .int (nI D0)), (2, .int (nI p)), (3, .int (nI q))], [], wP pre (wN (PP s3) (QQ s3) op oq tr (nI L.1) w3 fa ob st of F), 0)
  have V3 := h3.1
  have z3 := h3.2.1
  have S3 := gs_s S2 h3 (fun k => by omega)
  have F3 := g_F S2 F2 E2 h3
  have E3 := g_E E2 h3
  have R_3 := r_k R_2 h3 (by omega)
  have W3_3 := t_new h3
  exact mm_ret (mm_call_mono _ _) (c := True) (r := .inl none) (M := wP pre (wN (PP s3) (QQ s3) op oq tr (nI L.1) w3 fa ob st of F)) (u := 0) rfl trivial (by decide) (hQ _ _ (by have e9 := g_fin (W := 448) (D := D0) S3 (fun k => by omega) E3 F3 (fun h0 => (W3_3).2 h0); rw [rdist_eq] at e9; exact e9))

