theorem m_lo {s : Nat → fr} {wi : Int32} {m h a : Nat} {x : Nat → fr} (H : isM s wi m a x) (hm : h ≤ m) : isM s wi h a x := fun h0 j hj => H h0 j (by omega)
theorem m_hi {s : Nat → fr} {wi : Int32} {m h a : Nat} {x : Nat → fr} (H : isM s wi m a x) (k : Nat) (hm : k + h ≤ m) : isM s wi h (a + k) (sh k x) := fun h0 j hj => by
  rw [Nat.add_assoc]; exact H h0 (k + j) (by omega)
theorem m_k {s s1 : Nat → fr} {wi w1 : Int32} {m a U d n : Nat} {x : Nat → fr} {T : Option n4} (H : isM s wi m a x) (h : mR s wi U d n T s1 w1) (hd : (a + m ≤ 300 ∨ U ≤ a) ∧ (a + m ≤ d ∨ d + n ≤ a)) : isM s1 w1 m a x := fun h0 j hj => by
  rw [h.2.2.1 (a + j) (by omega) (by omega)]; exact H (h.2.2.2.2.1 h0).1 j hj
theorem m_kg {s s1 : Nat → fr} {wi w1 v : Int32} {m a U : Nat} {x : Nat → fr} {T : Option Int} (H : isM s wi m a x) (h : sgM s wi U T s1 w1 v) (hd : a + m ≤ 300 ∨ U ≤ a) : isM s1 w1 m a x := fun h0 j hj => by
  rw [h.2.2.1 (a + j) (by omega)]; exact H (h.2.2.2.2.1 h0).1 j hj
theorem g4_pd {s : Nat → fr} {d m j : Nat} (hm : lv m) (hj : j < m) : g4 (pd m s d) j = s (d + j) := by
  rcases hm with rfl | rfl | rfl
  · rw [show j = 0 by omega]; rfl
  · rcases (show j = 0 ∨ j = 1 by omega) with rfl | rfl <;> rfl
  · rcases (show j = 0 ∨ j = 1 ∨ j = 2 ∨ j = 3 by omega) with rfl | rfl | rfl | rfl <;> rfl
theorem m_new {s s1 : Nat → fr} {wi w1 : Int32} {U d m : Nat} {T : Option n4} (h : mR s wi U d m T s1 w1) (hm : m = 1 ∨ m = 2 ∨ m = 4) : isM s1 w1 m d (g4 (pd m s1 d)) := fun _ j hj => (g4_pd hm hj).symm
/-- where the work stands; cells kept but those of Z -/
def ms (s : Nat → fr) (wi : Int32) (Z : Nat → Prop) (s1 : Nat → fr) (w1 : Int32) : Prop := (∀ k, fv (s1 k)) ∧ mm_z w1 ∧ (∀ k, ¬ Z k → s1 k = s k) ∧ (wi = 1 → w1 = 1) ∧ (w1 = 0 → wi = 0)
theorem ms_0 {s : Nat → fr} {wi : Int32} {Z : Nat → Prop} (hV : ∀ k, fv (s k)) (hz : mm_z wi) : ms s wi Z s wi := ⟨hV, hz, fun _ _ => rfl, id, id⟩
theorem ms_s {s s1 s2 : Nat → fr} {wi w1 w2 : Int32} {Z : Nat → Prop} {U d m : Nat} {T : Option n4} (h : ms s wi Z s1 w1) (h2 : mR s1 w1 U d m T s2 w2) (hZ : ∀ k, (300 ≤ k ∧ k < U) ∨ (d ≤ k ∧ k < d + m) → Z k) : ms s wi Z s2 w2 := by
  obtain ⟨a1, a2, a3, a4, a5⟩ := h
  obtain ⟨b1, b2, b3, b4, b5, b6⟩ := h2
  exact ⟨b1, b2, fun k hk => (b3 k (fun q => hk (hZ k (Or.inl q))) (fun q => hk (hZ k (Or.inr q)))).trans (a3 k hk), fun q => b4 (a4 q), fun q => a5 (b5 q).1⟩
theorem ms_g {s s1 s2 : Nat → fr} {wi w1 w2 v : Int32} {Z : Nat → Prop} {U : Nat} {T : Option Int} (h : ms s wi Z s1 w1) (h2 : sgM s1 w1 U T s2 w2 v) (hZ : ∀ k, 300 ≤ k ∧ k < U → Z k) : ms s wi Z s2 w2 := by
  obtain ⟨a1, a2, a3, a4, a5⟩ := h
  obtain ⟨b1, b2, b3, b4, b5, b6, b7⟩ := h2
  exact ⟨b1, b2, fun k hk => (b3 k (fun q => hk (hZ k q))).trans (a3 k hk), fun q => b4 (a4 q), fun q => a5 (b5 q).1⟩
theorem m_F {s s1 s2 : Nat → fr} {wi w1 w2 : Int32} {Z : Nat → Prop} {U d m : Nat} {X : Type} {T : Option n4} {spec : Option X} {k : n4 → Option X} (h : ms s wi Z s1 w1) (F : w1 = 1 → wi = 0 → spec = none) (E : w1 = 0 → spec = T.bind k) (h2 : mR s1 w1 U d m T s2 w2) : w2 = 1 → wi = 0 → spec = none := fun h9 h0 => by
  rcases h.2.1 with hz | hz
  · rw [E hz, h2.2.2.2.2.2 h9 hz]; rfl
  · exact F hz h0
theorem m_E {s1 s2 : Nat → fr} {w1 w2 : Int32} {U d m : Nat} {X : Type} {T : Option n4} {spec : Option X} {k : n4 → Option X} (E : w1 = 0 → spec = T.bind k) (h2 : mR s1 w1 U d m T s2 w2) : w2 = 0 → spec = k (pd m s2 d) := fun h0 => by
  obtain ⟨q1, q2⟩ := h2.2.2.2.2.1 h0
  rw [E q1, q2]; rfl
theorem m_Fg {s s1 s2 : Nat → fr} {wi w1 w2 v : Int32} {Z : Nat → Prop} {U : Nat} {X : Type} {T : Option Int} {spec : Option X} {k : Int → Option X} (h : ms s wi Z s1 w1) (F : w1 = 1 → wi = 0 → spec = none) (E : w1 = 0 → spec = T.bind k) (h2 : sgM s1 w1 U T s2 w2 v) : w2 = 1 → wi = 0 → spec = none := fun h9 h0 => by
  rcases h.2.1 with hz | hz
  · rw [E hz, h2.2.2.2.2.2.1 h9 hz]; rfl
  · exact F hz h0
theorem m_Eg {s1 s2 : Nat → fr} {w1 w2 v : Int32} {U : Nat} {X : Type} {T : Option Int} {spec : Option X} {k : Int → Option X} (E : w1 = 0 → spec = T.bind k) (h2 : sgM s1 w1 U T s2 w2 v) : w2 = 0 → spec = k v.toInt := fun h0 => by
  obtain ⟨q1, q2⟩ := h2.2.2.2.2.1 h0
  rw [E q1, q2]; rfl
theorem mR_fin {s s1 : Nat → fr} {wi w1 : Int32} {Z : Nat → Prop} {U d m : Nat} {T : Option n4} {v : n4} (h : ms s wi Z s1 w1) (hZ : ∀ k, Z k → (300 ≤ k ∧ k < U) ∨ (d ≤ k ∧ k < d + m)) (E : w1 = 0 → T = some v) (F : w1 = 1 → wi = 0 → T = none) (hv : w1 = 0 → pd m s1 d = v) : mR s wi U d m T s1 w1 :=
  ⟨h.1, h.2.1, fun k h1 h2 => h.2.2.1 k (fun q => (hZ k q).elim h1 h2), h.2.2.2.1, fun h0 => ⟨h.2.2.2.2 h0, by rw [hv h0]; exact E h0⟩, F⟩
theorem jn_1 {s : Nat → fr} {wi : Int32} {d : Nat} {p q : n4} (A : isM s wi 1 d (g4 p)) (B : isM s wi 1 (d + 1) (g4 q)) (h0 : wi = 0) : pd 2 s d = jn 1 p q := by
  show (s d, s (d + 1), z0, z0) = (p.1, q.1, z0, z0)
  rw [show s d = p.1 from A h0 0 (by omega), show s (d + 1) = q.1 from B h0 0 (by omega)]
theorem jn_2 {s : Nat → fr} {wi : Int32} {d : Nat} {p q : n4} (A : isM s wi 2 d (g4 p)) (B : isM s wi 2 (d + 2) (g4 q)) (h0 : wi = 0) : pd 4 s d = jn 2 p q := by
  show (s d, s (d + 1), s (d + 2), s (d + 3)) = (p.1, p.2.1, q.1, q.2.1)
  rw [show s d = p.1 from A h0 0 (by omega), show s (d + 1) = p.2.1 from A h0 1 (by omega), show s (d + 2) = q.1 from B h0 0 (by omega), show s (d + 3) = q.2.1 from B h0 1 (by omega)]
theorem m_jn1 {s : Nat → fr} {wi : Int32} {d : Nat} {p q : n4} (A : isM s wi 1 d (g4 p)) (B : isM s wi 1 (d + 1) (g4 q)) : isM s wi 2 d (g4 (jn 1 p q)) := fun h0 j hj => by
  rcases (show j = 0 ∨ j = 1 by omega) with rfl | rfl
  · exact A h0 0 (by omega)
  · exact B h0 0 (by omega)
theorem m_jn2 {s : Nat → fr} {wi : Int32} {d : Nat} {p q : n4} (A : isM s wi 2 d (g4 p)) (B : isM s wi 2 (d + 2) (g4 q)) : isM s wi 4 d (g4 (jn 2 p q)) := fun h0 j hj => by
  rcases (show j = 0 ∨ j = 1 ∨ j = 2 ∨ j = 3 by omega) with rfl | rfl | rfl | rfl
  · exact A h0 0 (by omega)
  · exact A h0 1 (by omega)
  · exact B h0 0 (by omega)
  · exact B h0 1 (by omega)
/-- fraction by fraction -/
theorem vec_2 {s s1 s2 : Nat → fr} {wi w1 w2 : Int32} {d : Nat} {f : Nat → Option fr} (h1 : mR s wi 300 d 1 ((f 0).map em) s1 w1) (h2 : mR s1 w1 300 (d + 1) 1 ((f 1).map em) s2 w2) : mR s wi 300 d 2 (nS 2 f) s2 w2 := by
  obtain ⟨a1, a2, a3, a4, a5, a6⟩ := h1
  obtain ⟨b1, b2, b3, b4, b5, b6⟩ := h2
  refine ⟨b1, b2, fun k _ hk => (b3 k (by omega) (by omega)).trans (a3 k (by omega) (by omega)), fun q => b4 (a4 q), fun h0 => ?_, fun h9 h0 => ?_⟩
  · obtain ⟨c1, c2⟩ := b5 h0
    obtain ⟨c3, c4⟩ := a5 c1
    refine ⟨c3, ?_⟩
    cases e0 : f 0 with
    | none => rw [e0] at c4; cases c4
    | some x0 =>
      cases e1 : f 1 with
      | none => rw [e1] at c2; cases c2
      | some x1 =>
        rw [e0] at c4; rw [e1] at c2
        have u0 : x0 = s1 d := congrArg Prod.fst (Option.some.inj c4)
        have u1 : x1 = s2 (d + 1) := congrArg Prod.fst (Option.some.inj c2)
        show ((f 0).bind fun a => (f 1).map fun b => ((a, b, z0, z0) : n4)) = some (s2 d, s2 (d + 1), z0, z0)
        rw [e0, e1, b3 d (by omega) (by omega), ← u0, ← u1]; rfl
  · show ((f 0).bind fun a => (f 1).map fun b => ((a, b, z0, z0) : n4)) = none
    rcases a2 with hz | hz
    · have e := b6 h9 hz
      cases e1 : f 1 with
      | none => cases f 0 <;> rfl
      | some x => rw [e1] at e; cases e
    · have e := a6 hz h0
      cases e1 : f 0 with
      | none => rfl
      | some x => rw [e1] at e; cases e
theorem vec_4 {s s1 s2 : Nat → fr} {wi w1 w2 : Int32} {d : Nat} {f : Nat → Option fr} (h1 : mR s wi 300 d 2 (nS 2 f) s1 w1) (h2 : mR s1 w1 300 (d + 2) 2 (nS 2 (fun j => f (2 + j))) s2 w2) : mR s wi 300 d 4 (nS 4 f) s2 w2 := by
  obtain ⟨a1, a2, a3, a4, a5, a6⟩ := h1
  obtain ⟨b1, b2, b3, b4, b5, b6⟩ := h2
  have key : nS 4 f = (nS 2 f).bind fun p => (nS 2 (fun j => f (2 + j))).map fun q => ((p.1, p.2.1, q.1, q.2.1) : n4) := by
    show ((f 0).bind fun a => (f 1).bind fun b => (f 2).bind fun c => (f 3).map fun e => ((a, b, c, e) : n4)) = (((f 0).bind fun a => (f 1).map fun b => ((a, b, z0, z0) : n4)).bind fun p => ((f 2).bind fun a => (f 3).map fun b => ((a, b, z0, z0) : n4)).map fun q => ((p.1, p.2.1, q.1, q.2.1) : n4))
    cases f 0 with
    | none => rfl
    | some a =>
      cases f 1 with
      | none => rfl
      | some b =>
        cases f 2 with
        | none => rfl
        | some c => cases f 3 <;> rfl
  refine ⟨b1, b2, fun k _ hk => (b3 k (by omega) (by omega)).trans (a3 k (by omega) (by omega)), fun q => b4 (a4 q), fun h0 => ?_, fun h9 h0 => ?_⟩
  · obtain ⟨c1, c2⟩ := b5 h0
    obtain ⟨c3, c4⟩ := a5 c1
    refine ⟨c3, ?_⟩
    rw [key, c4, c2]
    show some (s1 d, s1 (d + 1), s2 (d + 2), s2 (d + 2 + 1)) = some (s2 d, s2 (d + 1), s2 (d + 2), s2 (d + 3))
    rw [b3 d (by omega) (by omega), b3 (d + 1) (by omega) (by omega)]
  · rw [key]
    rcases a2 with hz | hz
    · rw [b6 h9 hz]
      cases nS 2 f <;> rfl
    · rw [a6 hz h0]; rfl
theorem nmul_half {x : Nat → fr} : nmul0 x (fun _ => ((1, 2) : fr)) = (fhalf (x 0)).map em := by
  show (fmul (x 0) (1, 2)).map em = _
  unfold fmul fhalf
  show (fmk ((x 0).1 * 1) ((x 0).2 * 2)).map em = _
  rw [Int.mul_one, Int.mul_comm (x 0).2 2]
theorem nsub_f {m : Nat} {x y : Nat → fr} (hm : lv m) : nsub m x y = nS m (fun j => fadd (x j) (fneg (y j))) := by
  unfold nsub nneg nadd
  rcases hm with rfl | rfl | rfl
  · show ((nS 1 (fun j => fadd (x j) (fneg (y j)))).bind some) = _
    cases nS 1 (fun j => fadd (x j) (fneg (y j))) <;> rfl
  · show ((nS 2 (fun j => fadd (x j) (g4 (fneg (y 0), fneg (y 1), z0, z0) j))).bind some) = nS 2 (fun j => fadd (x j) (fneg (y j)))
    have e : nS 2 (fun j => fadd (x j) (g4 (fneg (y 0), fneg (y 1), z0, z0) j)) = nS 2 (fun j => fadd (x j) (fneg (y j))) := rfl
    rw [e]
    cases nS 2 (fun j => fadd (x j) (fneg (y j))) <;> rfl
  · show ((nS 4 (fun j => fadd (x j) (g4 (fneg (y 0), fneg (y 1), fneg (y 2), fneg (y 3)) j))).bind some) = nS 4 (fun j => fadd (x j) (fneg (y j)))
    have e : nS 4 (fun j => fadd (x j) (g4 (fneg (y 0), fneg (y 1), fneg (y 2), fneg (y 3)) j)) = nS 4 (fun j => fadd (x j) (fneg (y j))) := rfl
    rw [e]
    cases nS 4 (fun j => fadd (x j) (fneg (y j))) <;> rfl
set_option maxRecDepth 100000 in
theorem rm_add_2 {d : Nat} {pre : mm_pre} {s : Nat → fr} {op oq : Nat → Int64} {tr dp wi fa ob : Int32} {st of : Nat → Int32} {F : mm_M} {D A B : Nat} {x y : Nat → fr} {Q : mm_R → mm_M → Prop} (hV : ∀ k, fv (s k)) (hz : mm_z wi) (hg : D + 2 ≤ 480 ∧ (D + 2 ≤ 299 ∨ 300 ≤ D) ∧ A + 2 ≤ 480 ∧ (A = D ∨ A + 2 ≤ D ∨ D + 2 ≤ A) ∧ B + 2 ≤ 480 ∧ (B = D ∨ B + 2 ≤ D ∨ D + 2 ≤ B)) (X : isM s wi 2 A x) (Y : isM s wi 2 B y) (hQ : ∀ (s1 : Nat → fr) (w1 : Int32), mR s wi 300 D 2 (nadd 2 x y) s1 w1 → Q (.inl none) (wP pre (wN (PP s1) (QQ s1) op oq tr dp w1 fa ob st of F))) : mm_call mm_Tb (d + 4) 59 [.ref 10, .int (nI D), .int (nI A), .int (nI B), .int 2] (wP pre (wN (PP s) (QQ s) op oq tr dp wi fa ob st of F)) Q := by
  have X0_0 := m_hi (h := 1) X 0 (by omega)
  have Y0_0 := m_hi (h := 1) Y 0 (by omega)
  have X1_0 := m_hi (h := 1) X 1 (by omega)
  have Y1_0 := m_hi (h := 1) Y 1 (by omega)
  refine mm_in mt_59 (Nat.le_of_ble_eq_true rfl) ?_
  show mm_W _ _ _ _ _ _ _ (0, [(0, .ref 10), (1, .int (nI D)), (2, .int (nI A)), (3, .int (nI B)), (4, .int 2)], [], wP pre (wN (PP s) (QQ s) op oq tr dp wi fa ob st of F), 0)
  refine mm_skip (mm_call_mono _ _) 4 (st' := (7, [(5, .int 0), (0, .ref 10), (1, .int (nI D)), (2, .int (nI A)), (3, .int (nI B)), (4, .int 2)], [.int 2, .int 0], wP pre (wN (PP s) (QQ s) op oq tr dp wi fa ob st of F), 0)) rfl ?_
  refine mm_branch (mm_call_mono _ _) (c := (2 : Int32) ≤ 0) (s1 := (32, [(5, .int 0), (0, .ref 10), (1, .int (nI D)), (2, .int (nI A)), (3, .int (nI B)), (4, .int 2)], [], wP pre (wN (PP s) (QQ s) op oq tr dp wi fa ob st of F), 0)) (s2 := (10, [(5, .int 0), (0, .ref 10), (1, .int (nI D)), (2, .int (nI A)), (3, .int (nI B)), (4, .int 2)], [], wP pre (wN (PP s) (QQ s) op oq tr dp wi fa ob st of F), 0)) rfl (fun h => absurd h (by decide)) (fun _ => ?_)
  refine mm_skip (mm_call_mono _ _) 10 (st' := (23, [(5, .int 0), (0, .ref 10), (1, .int (nI D)), (2, .int (nI A)), (3, .int (nI B)), (4, .int 2)], [.int ((nI B) + 0), .int ((nI A) + 0), .int ((nI D) + 0), .ref 10], wP pre (wN (PP s) (QQ s) op oq tr dp wi fa ob st of F), 0)) rfl ?_
  rw [nI_p0 (B)]
  rw [nI_p0 (A)]
  rw [nI_p0 (D)]
  show mm_W _ _ _ _ _ _ _ (23, [(5, .int 0), (0, .ref 10), (1, .int (nI D)), (2, .int (nI A)), (3, .int (nI B)), (4, .int 2)], [.int (nI B), .int (nI A), .int (nI D), .ref 10], wP pre (wN (PP s) (QQ s) op oq tr dp wi fa ob st of F), 0)
  refine mm_inv (mm_call_mono _ _) (j := 50) (a := [.ref 10, .int (nI D), .int (nI A), .int (nI B)]) (M := wP pre (wN (PP s) (QQ s) op oq tr dp wi fa ob st of F)) (u := 0) rfl (by decide) (rm_add0 (D := D + 0) (A := A + 0) (B := B + 0) hV hz (by omega) (by omega) (by omega) X0_0 Y0_0 (fun s1 w1 h1 => ?_))
  show mm_W _ _ _ _ _ _ _ (26, [(5, .int 0), (0, .ref 10), (1, .int (nI D)), (2, .int (nI A)), (3, .int (nI B)), (4, .int 2)], [], wP pre (wN (PP s1) (QQ s1) op oq tr dp w1 fa ob st of F), 0)
  have X1_1 := m_k X1_0 h1 (by omega)
  have Y1_1 := m_k Y1_0 h1 (by omega)
  refine mm_skip (mm_call_mono _ _) 4 (st' := (7, [(5, .int 1), (0, .ref 10), (1, .int (nI D)), (2, .int (nI A)), (3, .int (nI B)), (4, .int 2)], [.int 2, .int 1], wP pre (wN (PP s1) (QQ s1) op oq tr dp w1 fa ob st of F), 0)) rfl ?_
  refine mm_branch (mm_call_mono _ _) (c := (2 : Int32) ≤ 1) (s1 := (32, [(5, .int 1), (0, .ref 10), (1, .int (nI D)), (2, .int (nI A)), (3, .int (nI B)), (4, .int 2)], [], wP pre (wN (PP s1) (QQ s1) op oq tr dp w1 fa ob st of F), 0)) (s2 := (10, [(5, .int 1), (0, .ref 10), (1, .int (nI D)), (2, .int (nI A)), (3, .int (nI B)), (4, .int 2)], [], wP pre (wN (PP s1) (QQ s1) op oq tr dp w1 fa ob st of F), 0)) rfl (fun h => absurd h (by decide)) (fun _ => ?_)
  refine mm_skip (mm_call_mono _ _) 10 (st' := (23, [(5, .int 1), (0, .ref 10), (1, .int (nI D)), (2, .int (nI A)), (3, .int (nI B)), (4, .int 2)], [.int ((nI B) + 1), .int ((nI A) + 1), .int ((nI D) + 1), .ref 10], wP pre (wN (PP s1) (QQ s1) op oq tr dp w1 fa ob st of F), 0)) rfl ?_
  rw [nI_p1 (B)]
  rw [nI_p1 (A)]
  rw [nI_p1 (D)]
  show mm_W _ _ _ _ _ _ _ (23, [(5, .int 1), (0, .ref 10), (1, .int (nI D)), (2, .int (nI A)), (3, .int (nI B)), (4, .int 2)], [.int (nI (B + 1)), .int (nI (A + 1)), .int (nI (D + 1)), .ref 10], wP pre (wN (PP s1) (QQ s1) op oq tr dp w1 fa ob st of F), 0)
  refine mm_inv (mm_call_mono _ _) (j := 50) (a := [.ref 10, .int (nI (D + 1)), .int (nI (A + 1)), .int (nI (B + 1))]) (M := wP pre (wN (PP s1) (QQ s1) op oq tr dp w1 fa ob st of F)) (u := 0) rfl (by decide) (rm_add0 (D := D + 1) (A := A + 1) (B := B + 1) h1.1 h1.2.1 (by omega) (by omega) (by omega) X1_1 Y1_1 (fun s2 w2 h2 => ?_))
  show mm_W _ _ _ _ _ _ _ (26, [(5, .int 1), (0, .ref 10), (1, .int (nI D)), (2, .int (nI A)), (3, .int (nI B)), (4, .int 2)], [], wP pre (wN (PP s2) (QQ s2) op oq tr dp w2 fa ob st of F), 0)
  refine mm_skip (mm_call_mono _ _) 4 (st' := (7, [(5, .int 2), (0, .ref 10), (1, .int (nI D)), (2, .int (nI A)), (3, .int (nI B)), (4, .int 2)], [.int 2, .int 2], wP pre (wN (PP s2) (QQ s2) op oq tr dp w2 fa ob st of F), 0)) rfl ?_
  refine mm_branch (mm_call_mono _ _) (c := (2 : Int32) ≤ 2) (s1 := (32, [(5, .int 2), (0, .ref 10), (1, .int (nI D)), (2, .int (nI A)), (3, .int (nI B)), (4, .int 2)], [], wP pre (wN (PP s2) (QQ s2) op oq tr dp w2 fa ob st of F), 0)) (s2 := (10, [(5, .int 2), (0, .ref 10), (1, .int (nI D)), (2, .int (nI A)), (3, .int (nI B)), (4, .int 2)], [], wP pre (wN (PP s2) (QQ s2) op oq tr dp w2 fa ob st of F), 0)) rfl (fun _ => ?_) (fun h => absurd (by decide) h)
  exact mm_ret (mm_call_mono _ _) (c := True) (r := .inl none) (M := wP pre (wN (PP s2) (QQ s2) op oq tr dp w2 fa ob st of F)) (u := 0) rfl trivial (by decide) (hQ _ _ (mR_T (vec_2 (f := (fun j => fadd (x j) (y j))) (mR_T h1 (fun _ => rfl)) (mR_T h2 (fun _ => rfl))) (fun _ => rfl)))

set_option maxRecDepth 100000 in
theorem rm_sub_2 {d : Nat} {pre : mm_pre} {s : Nat → fr} {op oq : Nat → Int64} {tr dp wi fa ob : Int32} {st of : Nat → Int32} {F : mm_M} {D A B : Nat} {x y : Nat → fr} {Q : mm_R → mm_M → Prop} (hV : ∀ k, fv (s k)) (hz : mm_z wi) (hg : D + 2 ≤ 480 ∧ (D + 2 ≤ 299 ∨ 300 ≤ D) ∧ A + 2 ≤ 480 ∧ (A = D ∨ A + 2 ≤ D ∨ D + 2 ≤ A) ∧ B + 2 ≤ 480 ∧ (B = D ∨ B + 2 ≤ D ∨ D + 2 ≤ B)) (X : isM s wi 2 A x) (Y : isM s wi 2 B y) (hQ : ∀ (s1 : Nat → fr) (w1 : Int32), mR s wi 300 D 2 (nsub 2 x y) s1 w1 → Q (.inl none) (wP pre (wN (PP s1) (QQ s1) op oq tr dp w1 fa ob st of F))) : mm_call mm_Tb (d + 4) 60 [.ref 10, .int (nI D), .int (nI A), .int (nI B), .int 2] (wP pre (wN (PP s) (QQ s) op oq tr dp wi fa ob st of F)) Q := by
  have X0_0 := m_hi (h := 1) X 0 (by omega)
  have Y0_0 := m_hi (h := 1) Y 0 (by omega)
  have X1_0 := m_hi (h := 1) X 1 (by omega)
  have Y1_0 := m_hi (h := 1) Y 1 (by omega)
  refine mm_in mt_60 (Nat.le_of_ble_eq_true rfl) ?_
  show mm_W _ _ _ _ _ _ _ (0, [(0, .ref 10), (1, .int (nI D)), (2, .int (nI A)), (3, .int (nI B)), (4, .int 2)], [], wP pre (wN (PP s) (QQ s) op oq tr dp wi fa ob st of F), 0)
  refine mm_skip (mm_call_mono _ _) 4 (st' := (7, [(5, .int 0), (0, .ref 10), (1, .int (nI D)), (2, .int (nI A)), (3, .int (nI B)), (4, .int 2)], [.int 2, .int 0], wP pre (wN (PP s) (QQ s) op oq tr dp wi fa ob st of F), 0)) rfl ?_
  refine mm_branch (mm_call_mono _ _) (c := (2 : Int32) ≤ 0) (s1 := (32, [(5, .int 0), (0, .ref 10), (1, .int (nI D)), (2, .int (nI A)), (3, .int (nI B)), (4, .int 2)], [], wP pre (wN (PP s) (QQ s) op oq tr dp wi fa ob st of F), 0)) (s2 := (10, [(5, .int 0), (0, .ref 10), (1, .int (nI D)), (2, .int (nI A)), (3, .int (nI B)), (4, .int 2)], [], wP pre (wN (PP s) (QQ s) op oq tr dp wi fa ob st of F), 0)) rfl (fun h => absurd h (by decide)) (fun _ => ?_)
  refine mm_skip (mm_call_mono _ _) 10 (st' := (23, [(5, .int 0), (0, .ref 10), (1, .int (nI D)), (2, .int (nI A)), (3, .int (nI B)), (4, .int 2)], [.int ((nI B) + 0), .int ((nI A) + 0), .int ((nI D) + 0), .ref 10], wP pre (wN (PP s) (QQ s) op oq tr dp wi fa ob st of F), 0)) rfl ?_
  rw [nI_p0 (B)]
  rw [nI_p0 (A)]
  rw [nI_p0 (D)]
  show mm_W _ _ _ _ _ _ _ (23, [(5, .int 0), (0, .ref 10), (1, .int (nI D)), (2, .int (nI A)), (3, .int (nI B)), (4, .int 2)], [.int (nI B), .int (nI A), .int (nI D), .ref 10], wP pre (wN (PP s) (QQ s) op oq tr dp wi fa ob st of F), 0)
  refine mm_inv (mm_call_mono _ _) (j := 51) (a := [.ref 10, .int (nI D), .int (nI A), .int (nI B)]) (M := wP pre (wN (PP s) (QQ s) op oq tr dp wi fa ob st of F)) (u := 0) rfl (by decide) (rm_sub0 (D := D + 0) (A := A + 0) (B := B + 0) hV hz (by omega) (by omega) (by omega) X0_0 Y0_0 (fun s1 w1 h1 => ?_))
  show mm_W _ _ _ _ _ _ _ (26, [(5, .int 0), (0, .ref 10), (1, .int (nI D)), (2, .int (nI A)), (3, .int (nI B)), (4, .int 2)], [], wP pre (wN (PP s1) (QQ s1) op oq tr dp w1 fa ob st of F), 0)
  have X1_1 := m_k X1_0 h1 (by omega)
  have Y1_1 := m_k Y1_0 h1 (by omega)
  refine mm_skip (mm_call_mono _ _) 4 (st' := (7, [(5, .int 1), (0, .ref 10), (1, .int (nI D)), (2, .int (nI A)), (3, .int (nI B)), (4, .int 2)], [.int 2, .int 1], wP pre (wN (PP s1) (QQ s1) op oq tr dp w1 fa ob st of F), 0)) rfl ?_
  refine mm_branch (mm_call_mono _ _) (c := (2 : Int32) ≤ 1) (s1 := (32, [(5, .int 1), (0, .ref 10), (1, .int (nI D)), (2, .int (nI A)), (3, .int (nI B)), (4, .int 2)], [], wP pre (wN (PP s1) (QQ s1) op oq tr dp w1 fa ob st of F), 0)) (s2 := (10, [(5, .int 1), (0, .ref 10), (1, .int (nI D)), (2, .int (nI A)), (3, .int (nI B)), (4, .int 2)], [], wP pre (wN (PP s1) (QQ s1) op oq tr dp w1 fa ob st of F), 0)) rfl (fun h => absurd h (by decide)) (fun _ => ?_)
  refine mm_skip (mm_call_mono _ _) 10 (st' := (23, [(5, .int 1), (0, .ref 10), (1, .int (nI D)), (2, .int (nI A)), (3, .int (nI B)), (4, .int 2)], [.int ((nI B) + 1), .int ((nI A) + 1), .int ((nI D) + 1), .ref 10], wP pre (wN (PP s1) (QQ s1) op oq tr dp w1 fa ob st of F), 0)) rfl ?_
  rw [nI_p1 (B)]
  rw [nI_p1 (A)]
  rw [nI_p1 (D)]
  show mm_W _ _ _ _ _ _ _ (23, [(5, .int 1), (0, .ref 10), (1, .int (nI D)), (2, .int (nI A)), (3, .int (nI B)), (4, .int 2)], [.int (nI (B + 1)), .int (nI (A + 1)), .int (nI (D + 1)), .ref 10], wP pre (wN (PP s1) (QQ s1) op oq tr dp w1 fa ob st of F), 0)
  refine mm_inv (mm_call_mono _ _) (j := 51) (a := [.ref 10, .int (nI (D + 1)), .int (nI (A + 1)), .int (nI (B + 1))]) (M := wP pre (wN (PP s1) (QQ s1) op oq tr dp w1 fa ob st of F)) (u := 0) rfl (by decide) (rm_sub0 (D := D + 1) (A := A + 1) (B := B + 1) h1.1 h1.2.1 (by omega) (by omega) (by omega) X1_1 Y1_1 (fun s2 w2 h2 => ?_))
  show mm_W _ _ _ _ _ _ _ (26, [(5, .int 1), (0, .ref 10), (1, .int (nI D)), (2, .int (nI A)), (3, .int (nI B)), (4, .int 2)], [], wP pre (wN (PP s2) (QQ s2) op oq tr dp w2 fa ob st of F), 0)
  refine mm_skip (mm_call_mono _ _) 4 (st' := (7, [(5, .int 2), (0, .ref 10), (1, .int (nI D)), (2, .int (nI A)), (3, .int (nI B)), (4, .int 2)], [.int 2, .int 2], wP pre (wN (PP s2) (QQ s2) op oq tr dp w2 fa ob st of F), 0)) rfl ?_
  refine mm_branch (mm_call_mono _ _) (c := (2 : Int32) ≤ 2) (s1 := (32, [(5, .int 2), (0, .ref 10), (1, .int (nI D)), (2, .int (nI A)), (3, .int (nI B)), (4, .int 2)], [], wP pre (wN (PP s2) (QQ s2) op oq tr dp w2 fa ob st of F), 0)) (s2 := (10, [(5, .int 2), (0, .ref 10), (1, .int (nI D)), (2, .int (nI A)), (3, .int (nI B)), (4, .int 2)], [], wP pre (wN (PP s2) (QQ s2) op oq tr dp w2 fa ob st of F), 0)) rfl (fun _ => ?_) (fun h => absurd (by decide) h)
  exact mm_ret (mm_call_mono _ _) (c := True) (r := .inl none) (M := wP pre (wN (PP s2) (QQ s2) op oq tr dp w2 fa ob st of F)) (u := 0) rfl trivial (by decide) (hQ _ _ (mR_T (vec_2 (f := (fun j => fadd (x j) (fneg (y j)))) (mR_T h1 (fun _ => (nsub_1 _ _).trans (congrArg (Option.map em) (show _ = fmk ((x 0).1 * (y 0).2 + -(y 0).1 * (x 0).2) ((x 0).2 * (y 0).2) by rw [Int.neg_mul, ← Int.sub_eq_add_neg]; rfl)))) (mR_T h2 (fun _ => (nsub_1 _ _).trans (congrArg (Option.map em) (show _ = fmk ((x 1).1 * (y 1).2 + -(y 1).1 * (x 1).2) ((x 1).2 * (y 1).2) by rw [Int.neg_mul, ← Int.sub_eq_add_neg]; rfl))))) (fun _ => (nsub_f (by unfold lv; decide)).symm)))

set_option maxRecDepth 100000 in
theorem rm_neg_2 {d : Nat} {pre : mm_pre} {s : Nat → fr} {op oq : Nat → Int64} {tr dp wi fa ob : Int32} {st of : Nat → Int32} {F : mm_M} {D A : Nat} {x : Nat → fr} {Q : mm_R → mm_M → Prop} (hV : ∀ k, fv (s k)) (hz : mm_z wi) (hg : D + 2 ≤ 480 ∧ (D + 2 ≤ 299 ∨ 300 ≤ D) ∧ A + 2 ≤ 480 ∧ (A = D ∨ A + 2 ≤ D ∨ D + 2 ≤ A)) (X : isM s wi 2 A x) (hQ : ∀ (s1 : Nat → fr) (w1 : Int32), mR s wi 300 D 2 (nneg 2 x) s1 w1 → Q (.inl none) (wP pre (wN (PP s1) (QQ s1) op oq tr dp w1 fa ob st of F))) : mm_call mm_Tb (d + 4) 61 [.ref 10, .int (nI D), .int (nI A), .int 2] (wP pre (wN (PP s) (QQ s) op oq tr dp wi fa ob st of F)) Q := by
  have X0_0 := m_hi (h := 1) X 0 (by omega)
  have X1_0 := m_hi (h := 1) X 1 (by omega)
  refine mm_in mt_61 (Nat.le_of_ble_eq_true rfl) ?_
  show mm_W _ _ _ _ _ _ _ (0, [(0, .ref 10), (1, .int (nI D)), (2, .int (nI A)), (3, .int 2)], [], wP pre (wN (PP s) (QQ s) op oq tr dp wi fa ob st of F), 0)
  refine mm_skip (mm_call_mono _ _) 4 (st' := (6, [(4, .int 0), (0, .ref 10), (1, .int (nI D)), (2, .int (nI A)), (3, .int 2)], [.int 2, .int 0], wP pre (wN (PP s) (QQ s) op oq tr dp wi fa ob st of F), 0)) rfl ?_
  refine mm_branch (mm_call_mono _ _) (c := (2 : Int32) ≤ 0) (s1 := (27, [(4, .int 0), (0, .ref 10), (1, .int (nI D)), (2, .int (nI A)), (3, .int 2)], [], wP pre (wN (PP s) (QQ s) op oq tr dp wi fa ob st of F), 0)) (s2 := (9, [(4, .int 0), (0, .ref 10), (1, .int (nI D)), (2, .int (nI A)), (3, .int 2)], [], wP pre (wN (PP s) (QQ s) op oq tr dp wi fa ob st of F), 0)) rfl (fun h => absurd h (by decide)) (fun _ => ?_)
  refine mm_skip (mm_call_mono _ _) 7 (st' := (18, [(4, .int 0), (0, .ref 10), (1, .int (nI D)), (2, .int (nI A)), (3, .int 2)], [.int ((nI A) + 0), .int ((nI D) + 0), .ref 10], wP pre (wN (PP s) (QQ s) op oq tr dp wi fa ob st of F), 0)) rfl ?_
  rw [nI_p0 (A)]
  rw [nI_p0 (D)]
  show mm_W _ _ _ _ _ _ _ (18, [(4, .int 0), (0, .ref 10), (1, .int (nI D)), (2, .int (nI A)), (3, .int 2)], [.int (nI A), .int (nI D), .ref 10], wP pre (wN (PP s) (QQ s) op oq tr dp wi fa ob st of F), 0)
  refine mm_inv (mm_call_mono _ _) (j := 53) (a := [.ref 10, .int (nI D), .int (nI A)]) (M := wP pre (wN (PP s) (QQ s) op oq tr dp wi fa ob st of F)) (u := 0) rfl (by decide) (rm_neg0 (D := D + 0) (A := A + 0)  hV hz (by omega) (by omega)  X0_0 (fun s1 w1 h1 => ?_))
  show mm_W _ _ _ _ _ _ _ (21, [(4, .int 0), (0, .ref 10), (1, .int (nI D)), (2, .int (nI A)), (3, .int 2)], [], wP pre (wN (PP s1) (QQ s1) op oq tr dp w1 fa ob st of F), 0)
  have X1_1 := m_k X1_0 h1 (by omega)
  refine mm_skip (mm_call_mono _ _) 4 (st' := (6, [(4, .int 1), (0, .ref 10), (1, .int (nI D)), (2, .int (nI A)), (3, .int 2)], [.int 2, .int 1], wP pre (wN (PP s1) (QQ s1) op oq tr dp w1 fa ob st of F), 0)) rfl ?_
  refine mm_branch (mm_call_mono _ _) (c := (2 : Int32) ≤ 1) (s1 := (27, [(4, .int 1), (0, .ref 10), (1, .int (nI D)), (2, .int (nI A)), (3, .int 2)], [], wP pre (wN (PP s1) (QQ s1) op oq tr dp w1 fa ob st of F), 0)) (s2 := (9, [(4, .int 1), (0, .ref 10), (1, .int (nI D)), (2, .int (nI A)), (3, .int 2)], [], wP pre (wN (PP s1) (QQ s1) op oq tr dp w1 fa ob st of F), 0)) rfl (fun h => absurd h (by decide)) (fun _ => ?_)
  refine mm_skip (mm_call_mono _ _) 7 (st' := (18, [(4, .int 1), (0, .ref 10), (1, .int (nI D)), (2, .int (nI A)), (3, .int 2)], [.int ((nI A) + 1), .int ((nI D) + 1), .ref 10], wP pre (wN (PP s1) (QQ s1) op oq tr dp w1 fa ob st of F), 0)) rfl ?_
  rw [nI_p1 (A)]
  rw [nI_p1 (D)]
  show mm_W _ _ _ _ _ _ _ (18, [(4, .int 1), (0, .ref 10), (1, .int (nI D)), (2, .int (nI A)), (3, .int 2)], [.int (nI (A + 1)), .int (nI (D + 1)), .ref 10], wP pre (wN (PP s1) (QQ s1) op oq tr dp w1 fa ob st of F), 0)
  refine mm_inv (mm_call_mono _ _) (j := 53) (a := [.ref 10, .int (nI (D + 1)), .int (nI (A + 1))]) (M := wP pre (wN (PP s1) (QQ s1) op oq tr dp w1 fa ob st of F)) (u := 0) rfl (by decide) (rm_neg0 (D := D + 1) (A := A + 1)  h1.1 h1.2.1 (by omega) (by omega)  X1_1 (fun s2 w2 h2 => ?_))
  show mm_W _ _ _ _ _ _ _ (21, [(4, .int 1), (0, .ref 10), (1, .int (nI D)), (2, .int (nI A)), (3, .int 2)], [], wP pre (wN (PP s2) (QQ s2) op oq tr dp w2 fa ob st of F), 0)
  refine mm_skip (mm_call_mono _ _) 4 (st' := (6, [(4, .int 2), (0, .ref 10), (1, .int (nI D)), (2, .int (nI A)), (3, .int 2)], [.int 2, .int 2], wP pre (wN (PP s2) (QQ s2) op oq tr dp w2 fa ob st of F), 0)) rfl ?_
  refine mm_branch (mm_call_mono _ _) (c := (2 : Int32) ≤ 2) (s1 := (27, [(4, .int 2), (0, .ref 10), (1, .int (nI D)), (2, .int (nI A)), (3, .int 2)], [], wP pre (wN (PP s2) (QQ s2) op oq tr dp w2 fa ob st of F), 0)) (s2 := (9, [(4, .int 2), (0, .ref 10), (1, .int (nI D)), (2, .int (nI A)), (3, .int 2)], [], wP pre (wN (PP s2) (QQ s2) op oq tr dp w2 fa ob st of F), 0)) rfl (fun _ => ?_) (fun h => absurd (by decide) h)
  exact mm_ret (mm_call_mono _ _) (c := True) (r := .inl none) (M := wP pre (wN (PP s2) (QQ s2) op oq tr dp w2 fa ob st of F)) (u := 0) rfl trivial (by decide) (hQ _ _ (mR_T (vec_2 (f := (fun j => some (fneg (x j)))) (mR_T h1 (fun _ => rfl)) (mR_T h2 (fun _ => rfl))) (fun _ => rfl)))

set_option maxRecDepth 100000 in
theorem rm_halve_2 {d : Nat} {pre : mm_pre} {s : Nat → fr} {op oq : Nat → Int64} {tr dp wi fa ob : Int32} {st of : Nat → Int32} {F : mm_M} {D A : Nat} {x : Nat → fr} {Q : mm_R → mm_M → Prop} (hV : ∀ k, fv (s k)) (hz : mm_z wi) (hg : D + 2 ≤ 480 ∧ (D + 2 ≤ 299 ∨ 300 ≤ D) ∧ A + 2 ≤ 480 ∧ (A = D ∨ A + 2 ≤ D ∨ D + 2 ≤ A)) (X : isM s wi 2 A x) (Hf : isM s wi 1 299 (fun _ => (1, 2))) (hQ : ∀ (s1 : Nat → fr) (w1 : Int32), mR s wi 300 D 2 (nhalf 2 x) s1 w1 → Q (.inl none) (wP pre (wN (PP s1) (QQ s1) op oq tr dp w1 fa ob st of F))) : mm_call mm_Tb (d + 4) 62 [.ref 10, .int (nI D), .int (nI A), .int 2] (wP pre (wN (PP s) (QQ s) op oq tr dp wi fa ob st of F)) Q := by
  have X0_0 := m_hi (h := 1) X 0 (by omega)
  have X1_0 := m_hi (h := 1) X 1 (by omega)
  have Hf_0 := Hf
  refine mm_in mt_62 (Nat.le_of_ble_eq_true rfl) ?_
  show mm_W _ _ _ _ _ _ _ (0, [(0, .ref 10), (1, .int (nI D)), (2, .int (nI A)), (3, .int 2)], [], wP pre (wN (PP s) (QQ s) op oq tr dp wi fa ob st of F), 0)
  refine mm_skip (mm_call_mono _ _) 4 (st' := (6, [(4, .int 0), (0, .ref 10), (1, .int (nI D)), (2, .int (nI A)), (3, .int 2)], [.int 2, .int 0], wP pre (wN (PP s) (QQ s) op oq tr dp wi fa ob st of F), 0)) rfl ?_
  refine mm_branch (mm_call_mono _ _) (c := (2 : Int32) ≤ 0) (s1 := (30, [(4, .int 0), (0, .ref 10), (1, .int (nI D)), (2, .int (nI A)), (3, .int 2)], [], wP pre (wN (PP s) (QQ s) op oq tr dp wi fa ob st of F), 0)) (s2 := (9, [(4, .int 0), (0, .ref 10), (1, .int (nI D)), (2, .int (nI A)), (3, .int 2)], [], wP pre (wN (PP s) (QQ s) op oq tr dp wi fa ob st of F), 0)) rfl (fun h => absurd h (by decide)) (fun _ => ?_)
  refine mm_skip (mm_call_mono _ _) 8 (st' := (21, [(4, .int 0), (0, .ref 10), (1, .int (nI D)), (2, .int (nI A)), (3, .int 2)], [.int 299, .int ((nI A) + 0), .int ((nI D) + 0), .ref 10], wP pre (wN (PP s) (QQ s) op oq tr dp wi fa ob st of F), 0)) rfl ?_
  rw [nI_p0 (A)]
  rw [nI_p0 (D)]
  show mm_W _ _ _ _ _ _ _ (21, [(4, .int 0), (0, .ref 10), (1, .int (nI D)), (2, .int (nI A)), (3, .int 2)], [.int 299, .int (nI A), .int (nI D), .ref 10], wP pre (wN (PP s) (QQ s) op oq tr dp wi fa ob st of F), 0)
  refine mm_inv (mm_call_mono _ _) (j := 52) (a := [.ref 10, .int (nI D), .int (nI A), .int 299]) (M := wP pre (wN (PP s) (QQ s) op oq tr dp wi fa ob st of F)) (u := 0) rfl (by decide) (rm_mul0 (D := D + 0) (A := A + 0) (B := 299) hV hz (by omega) (by omega) (by omega) X0_0 Hf_0 (fun s1 w1 h1 => ?_))
  show mm_W _ _ _ _ _ _ _ (24, [(4, .int 0), (0, .ref 10), (1, .int (nI D)), (2, .int (nI A)), (3, .int 2)], [], wP pre (wN (PP s1) (QQ s1) op oq tr dp w1 fa ob st of F), 0)
  have X1_1 := m_k X1_0 h1 (by omega)
  have Hf_1 := m_k Hf_0 h1 (by omega)
  refine mm_skip (mm_call_mono _ _) 4 (st' := (6, [(4, .int 1), (0, .ref 10), (1, .int (nI D)), (2, .int (nI A)), (3, .int 2)], [.int 2, .int 1], wP pre (wN (PP s1) (QQ s1) op oq tr dp w1 fa ob st of F), 0)) rfl ?_
  refine mm_branch (mm_call_mono _ _) (c := (2 : Int32) ≤ 1) (s1 := (30, [(4, .int 1), (0, .ref 10), (1, .int (nI D)), (2, .int (nI A)), (3, .int 2)], [], wP pre (wN (PP s1) (QQ s1) op oq tr dp w1 fa ob st of F), 0)) (s2 := (9, [(4, .int 1), (0, .ref 10), (1, .int (nI D)), (2, .int (nI A)), (3, .int 2)], [], wP pre (wN (PP s1) (QQ s1) op oq tr dp w1 fa ob st of F), 0)) rfl (fun h => absurd h (by decide)) (fun _ => ?_)
  refine mm_skip (mm_call_mono _ _) 8 (st' := (21, [(4, .int 1), (0, .ref 10), (1, .int (nI D)), (2, .int (nI A)), (3, .int 2)], [.int 299, .int ((nI A) + 1), .int ((nI D) + 1), .ref 10], wP pre (wN (PP s1) (QQ s1) op oq tr dp w1 fa ob st of F), 0)) rfl ?_
  rw [nI_p1 (A)]
  rw [nI_p1 (D)]
  show mm_W _ _ _ _ _ _ _ (21, [(4, .int 1), (0, .ref 10), (1, .int (nI D)), (2, .int (nI A)), (3, .int 2)], [.int 299, .int (nI (A + 1)), .int (nI (D + 1)), .ref 10], wP pre (wN (PP s1) (QQ s1) op oq tr dp w1 fa ob st of F), 0)
  refine mm_inv (mm_call_mono _ _) (j := 52) (a := [.ref 10, .int (nI (D + 1)), .int (nI (A + 1)), .int 299]) (M := wP pre (wN (PP s1) (QQ s1) op oq tr dp w1 fa ob st of F)) (u := 0) rfl (by decide) (rm_mul0 (D := D + 1) (A := A + 1) (B := 299) h1.1 h1.2.1 (by omega) (by omega) (by omega) X1_1 Hf_1 (fun s2 w2 h2 => ?_))
  show mm_W _ _ _ _ _ _ _ (24, [(4, .int 1), (0, .ref 10), (1, .int (nI D)), (2, .int (nI A)), (3, .int 2)], [], wP pre (wN (PP s2) (QQ s2) op oq tr dp w2 fa ob st of F), 0)
  refine mm_skip (mm_call_mono _ _) 4 (st' := (6, [(4, .int 2), (0, .ref 10), (1, .int (nI D)), (2, .int (nI A)), (3, .int 2)], [.int 2, .int 2], wP pre (wN (PP s2) (QQ s2) op oq tr dp w2 fa ob st of F), 0)) rfl ?_
  refine mm_branch (mm_call_mono _ _) (c := (2 : Int32) ≤ 2) (s1 := (30, [(4, .int 2), (0, .ref 10), (1, .int (nI D)), (2, .int (nI A)), (3, .int 2)], [], wP pre (wN (PP s2) (QQ s2) op oq tr dp w2 fa ob st of F), 0)) (s2 := (9, [(4, .int 2), (0, .ref 10), (1, .int (nI D)), (2, .int (nI A)), (3, .int 2)], [], wP pre (wN (PP s2) (QQ s2) op oq tr dp w2 fa ob st of F), 0)) rfl (fun _ => ?_) (fun h => absurd (by decide) h)
  exact mm_ret (mm_call_mono _ _) (c := True) (r := .inl none) (M := wP pre (wN (PP s2) (QQ s2) op oq tr dp w2 fa ob st of F)) (u := 0) rfl trivial (by decide) (hQ _ _ (mR_T (vec_2 (f := (fun j => fhalf (x j))) (mR_T h1 (fun _ => nmul_half)) (mR_T h2 (fun _ => nmul_half))) (fun _ => rfl)))

set_option maxRecDepth 100000 in
theorem rm_add_4 {d : Nat} {pre : mm_pre} {s : Nat → fr} {op oq : Nat → Int64} {tr dp wi fa ob : Int32} {st of : Nat → Int32} {F : mm_M} {D A B : Nat} {x y : Nat → fr} {Q : mm_R → mm_M → Prop} (hV : ∀ k, fv (s k)) (hz : mm_z wi) (hg : D + 4 ≤ 480 ∧ (D + 4 ≤ 299 ∨ 300 ≤ D) ∧ A + 4 ≤ 480 ∧ (A = D ∨ A + 4 ≤ D ∨ D + 4 ≤ A) ∧ B + 4 ≤ 480 ∧ (B = D ∨ B + 4 ≤ D ∨ D + 4 ≤ B)) (X : isM s wi 4 A x) (Y : isM s wi 4 B y) (hQ : ∀ (s1 : Nat → fr) (w1 : Int32), mR s wi 300 D 4 (nadd 4 x y) s1 w1 → Q (.inl none) (wP pre (wN (PP s1) (QQ s1) op oq tr dp w1 fa ob st of F))) : mm_call mm_Tb (d + 4) 59 [.ref 10, .int (nI D), .int (nI A), .int (nI B), .int 4] (wP pre (wN (PP s) (QQ s) op oq tr dp wi fa ob st of F)) Q := by
  have X0_0 := m_hi (h := 1) X 0 (by omega)
  have Y0_0 := m_hi (h := 1) Y 0 (by omega)
  have X1_0 := m_hi (h := 1) X 1 (by omega)
  have Y1_0 := m_hi (h := 1) Y 1 (by omega)
  have X2_0 := m_hi (h := 1) X 2 (by omega)
  have Y2_0 := m_hi (h := 1) Y 2 (by omega)
  have X3_0 := m_hi (h := 1) X 3 (by omega)
  have Y3_0 := m_hi (h := 1) Y 3 (by omega)
  refine mm_in mt_59 (Nat.le_of_ble_eq_true rfl) ?_
  show mm_W _ _ _ _ _ _ _ (0, [(0, .ref 10), (1, .int (nI D)), (2, .int (nI A)), (3, .int (nI B)), (4, .int 4)], [], wP pre (wN (PP s) (QQ s) op oq tr dp wi fa ob st of F), 0)
  refine mm_skip (mm_call_mono _ _) 4 (st' := (7, [(5, .int 0), (0, .ref 10), (1, .int (nI D)), (2, .int (nI A)), (3, .int (nI B)), (4, .int 4)], [.int 4, .int 0], wP pre (wN (PP s) (QQ s) op oq tr dp wi fa ob st of F), 0)) rfl ?_
  refine mm_branch (mm_call_mono _ _) (c := (4 : Int32) ≤ 0) (s1 := (32, [(5, .int 0), (0, .ref 10), (1, .int (nI D)), (2, .int (nI A)), (3, .int (nI B)), (4, .int 4)], [], wP pre (wN (PP s) (QQ s) op oq tr dp wi fa ob st of F), 0)) (s2 := (10, [(5, .int 0), (0, .ref 10), (1, .int (nI D)), (2, .int (nI A)), (3, .int (nI B)), (4, .int 4)], [], wP pre (wN (PP s) (QQ s) op oq tr dp wi fa ob st of F), 0)) rfl (fun h => absurd h (by decide)) (fun _ => ?_)
  refine mm_skip (mm_call_mono _ _) 10 (st' := (23, [(5, .int 0), (0, .ref 10), (1, .int (nI D)), (2, .int (nI A)), (3, .int (nI B)), (4, .int 4)], [.int ((nI B) + 0), .int ((nI A) + 0), .int ((nI D) + 0), .ref 10], wP pre (wN (PP s) (QQ s) op oq tr dp wi fa ob st of F), 0)) rfl ?_
  rw [nI_p0 (B)]
  rw [nI_p0 (A)]
  rw [nI_p0 (D)]
  show mm_W _ _ _ _ _ _ _ (23, [(5, .int 0), (0, .ref 10), (1, .int (nI D)), (2, .int (nI A)), (3, .int (nI B)), (4, .int 4)], [.int (nI B), .int (nI A), .int (nI D), .ref 10], wP pre (wN (PP s) (QQ s) op oq tr dp wi fa ob st of F), 0)
  refine mm_inv (mm_call_mono _ _) (j := 50) (a := [.ref 10, .int (nI D), .int (nI A), .int (nI B)]) (M := wP pre (wN (PP s) (QQ s) op oq tr dp wi fa ob st of F)) (u := 0) rfl (by decide) (rm_add0 (D := D + 0) (A := A + 0) (B := B + 0) hV hz (by omega) (by omega) (by omega) X0_0 Y0_0 (fun s1 w1 h1 => ?_))
  show mm_W _ _ _ _ _ _ _ (26, [(5, .int 0), (0, .ref 10), (1, .int (nI D)), (2, .int (nI A)), (3, .int (nI B)), (4, .int 4)], [], wP pre (wN (PP s1) (QQ s1) op oq tr dp w1 fa ob st of F), 0)
  have X1_1 := m_k X1_0 h1 (by omega)
  have Y1_1 := m_k Y1_0 h1 (by omega)
  have X2_1 := m_k X2_0 h1 (by omega)
  have Y2_1 := m_k Y2_0 h1 (by omega)
  have X3_1 := m_k X3_0 h1 (by omega)
  have Y3_1 := m_k Y3_0 h1 (by omega)
  refine mm_skip (mm_call_mono _ _) 4 (st' := (7, [(5, .int 1), (0, .ref 10), (1, .int (nI D)), (2, .int (nI A)), (3, .int (nI B)), (4, .int 4)], [.int 4, .int 1], wP pre (wN (PP s1) (QQ s1) op oq tr dp w1 fa ob st of F), 0)) rfl ?_
  refine mm_branch (mm_call_mono _ _) (c := (4 : Int32) ≤ 1) (s1 := (32, [(5, .int 1), (0, .ref 10), (1, .int (nI D)), (2, .int (nI A)), (3, .int (nI B)), (4, .int 4)], [], wP pre (wN (PP s1) (QQ s1) op oq tr dp w1 fa ob st of F), 0)) (s2 := (10, [(5, .int 1), (0, .ref 10), (1, .int (nI D)), (2, .int (nI A)), (3, .int (nI B)), (4, .int 4)], [], wP pre (wN (PP s1) (QQ s1) op oq tr dp w1 fa ob st of F), 0)) rfl (fun h => absurd h (by decide)) (fun _ => ?_)
  refine mm_skip (mm_call_mono _ _) 10 (st' := (23, [(5, .int 1), (0, .ref 10), (1, .int (nI D)), (2, .int (nI A)), (3, .int (nI B)), (4, .int 4)], [.int ((nI B) + 1), .int ((nI A) + 1), .int ((nI D) + 1), .ref 10], wP pre (wN (PP s1) (QQ s1) op oq tr dp w1 fa ob st of F), 0)) rfl ?_
  rw [nI_p1 (B)]
  rw [nI_p1 (A)]
  rw [nI_p1 (D)]
  show mm_W _ _ _ _ _ _ _ (23, [(5, .int 1), (0, .ref 10), (1, .int (nI D)), (2, .int (nI A)), (3, .int (nI B)), (4, .int 4)], [.int (nI (B + 1)), .int (nI (A + 1)), .int (nI (D + 1)), .ref 10], wP pre (wN (PP s1) (QQ s1) op oq tr dp w1 fa ob st of F), 0)
  refine mm_inv (mm_call_mono _ _) (j := 50) (a := [.ref 10, .int (nI (D + 1)), .int (nI (A + 1)), .int (nI (B + 1))]) (M := wP pre (wN (PP s1) (QQ s1) op oq tr dp w1 fa ob st of F)) (u := 0) rfl (by decide) (rm_add0 (D := D + 1) (A := A + 1) (B := B + 1) h1.1 h1.2.1 (by omega) (by omega) (by omega) X1_1 Y1_1 (fun s2 w2 h2 => ?_))
  show mm_W _ _ _ _ _ _ _ (26, [(5, .int 1), (0, .ref 10), (1, .int (nI D)), (2, .int (nI A)), (3, .int (nI B)), (4, .int 4)], [], wP pre (wN (PP s2) (QQ s2) op oq tr dp w2 fa ob st of F), 0)
  have X2_2 := m_k X2_1 h2 (by omega)
  have Y2_2 := m_k Y2_1 h2 (by omega)
  have X3_2 := m_k X3_1 h2 (by omega)
  have Y3_2 := m_k Y3_1 h2 (by omega)
  refine mm_skip (mm_call_mono _ _) 4 (st' := (7, [(5, .int 2), (0, .ref 10), (1, .int (nI D)), (2, .int (nI A)), (3, .int (nI B)), (4, .int 4)], [.int 4, .int 2], wP pre (wN (PP s2) (QQ s2) op oq tr dp w2 fa ob st of F), 0)) rfl ?_
  refine mm_branch (mm_call_mono _ _) (c := (4 : Int32) ≤ 2) (s1 := (32, [(5, .int 2), (0, .ref 10), (1, .int (nI D)), (2, .int (nI A)), (3, .int (nI B)), (4, .int 4)], [], wP pre (wN (PP s2) (QQ s2) op oq tr dp w2 fa ob st of F), 0)) (s2 := (10, [(5, .int 2), (0, .ref 10), (1, .int (nI D)), (2, .int (nI A)), (3, .int (nI B)), (4, .int 4)], [], wP pre (wN (PP s2) (QQ s2) op oq tr dp w2 fa ob st of F), 0)) rfl (fun h => absurd h (by decide)) (fun _ => ?_)
  refine mm_skip (mm_call_mono _ _) 10 (st' := (23, [(5, .int 2), (0, .ref 10), (1, .int (nI D)), (2, .int (nI A)), (3, .int (nI B)), (4, .int 4)], [.int ((nI B) + 2), .int ((nI A) + 2), .int ((nI D) + 2), .ref 10], wP pre (wN (PP s2) (QQ s2) op oq tr dp w2 fa ob st of F), 0)) rfl ?_
  rw [nI_p2 (B)]
  rw [nI_p2 (A)]
  rw [nI_p2 (D)]
  show mm_W _ _ _ _ _ _ _ (23, [(5, .int 2), (0, .ref 10), (1, .int (nI D)), (2, .int (nI A)), (3, .int (nI B)), (4, .int 4)], [.int (nI (B + 2)), .int (nI (A + 2)), .int (nI (D + 2)), .ref 10], wP pre (wN (PP s2) (QQ s2) op oq tr dp w2 fa ob st of F), 0)
  refine mm_inv (mm_call_mono _ _) (j := 50) (a := [.ref 10, .int (nI (D + 2)), .int (nI (A + 2)), .int (nI (B + 2))]) (M := wP pre (wN (PP s2) (QQ s2) op oq tr dp w2 fa ob st of F)) (u := 0) rfl (by decide) (rm_add0 (D := D + 2) (A := A + 2) (B := B + 2) h2.1 h2.2.1 (by omega) (by omega) (by omega) X2_2 Y2_2 (fun s3 w3 h3 => ?_))
  show mm_W _ _ _ _ _ _ _ (26, [(5, .int 2), (0, .ref 10), (1, .int (nI D)), (2, .int (nI A)), (3, .int (nI B)), (4, .int 4)], [], wP pre (wN (PP s3) (QQ s3) op oq tr dp w3 fa ob st of F), 0)
  have X3_3 := m_k X3_2 h3 (by omega)
  have Y3_3 := m_k Y3_2 h3 (by omega)
  refine mm_skip (mm_call_mono _ _) 4 (st' := (7, [(5, .int 3), (0, .ref 10), (1, .int (nI D)), (2, .int (nI A)), (3, .int (nI B)), (4, .int 4)], [.int 4, .int 3], wP pre (wN (PP s3) (QQ s3) op oq tr dp w3 fa ob st of F), 0)) rfl ?_
  refine mm_branch (mm_call_mono _ _) (c := (4 : Int32) ≤ 3) (s1 := (32, [(5, .int 3), (0, .ref 10), (1, .int (nI D)), (2, .int (nI A)), (3, .int (nI B)), (4, .int 4)], [], wP pre (wN (PP s3) (QQ s3) op oq tr dp w3 fa ob st of F), 0)) (s2 := (10, [(5, .int 3), (0, .ref 10), (1, .int (nI D)), (2, .int (nI A)), (3, .int (nI B)), (4, .int 4)], [], wP pre (wN (PP s3) (QQ s3) op oq tr dp w3 fa ob st of F), 0)) rfl (fun h => absurd h (by decide)) (fun _ => ?_)
  refine mm_skip (mm_call_mono _ _) 10 (st' := (23, [(5, .int 3), (0, .ref 10), (1, .int (nI D)), (2, .int (nI A)), (3, .int (nI B)), (4, .int 4)], [.int ((nI B) + 3), .int ((nI A) + 3), .int ((nI D) + 3), .ref 10], wP pre (wN (PP s3) (QQ s3) op oq tr dp w3 fa ob st of F), 0)) rfl ?_
  rw [nI_p3 (B)]
  rw [nI_p3 (A)]
  rw [nI_p3 (D)]
  show mm_W _ _ _ _ _ _ _ (23, [(5, .int 3), (0, .ref 10), (1, .int (nI D)), (2, .int (nI A)), (3, .int (nI B)), (4, .int 4)], [.int (nI (B + 3)), .int (nI (A + 3)), .int (nI (D + 3)), .ref 10], wP pre (wN (PP s3) (QQ s3) op oq tr dp w3 fa ob st of F), 0)
  refine mm_inv (mm_call_mono _ _) (j := 50) (a := [.ref 10, .int (nI (D + 3)), .int (nI (A + 3)), .int (nI (B + 3))]) (M := wP pre (wN (PP s3) (QQ s3) op oq tr dp w3 fa ob st of F)) (u := 0) rfl (by decide) (rm_add0 (D := D + 3) (A := A + 3) (B := B + 3) h3.1 h3.2.1 (by omega) (by omega) (by omega) X3_3 Y3_3 (fun s4 w4 h4 => ?_))
  show mm_W _ _ _ _ _ _ _ (26, [(5, .int 3), (0, .ref 10), (1, .int (nI D)), (2, .int (nI A)), (3, .int (nI B)), (4, .int 4)], [], wP pre (wN (PP s4) (QQ s4) op oq tr dp w4 fa ob st of F), 0)
  refine mm_skip (mm_call_mono _ _) 4 (st' := (7, [(5, .int 4), (0, .ref 10), (1, .int (nI D)), (2, .int (nI A)), (3, .int (nI B)), (4, .int 4)], [.int 4, .int 4], wP pre (wN (PP s4) (QQ s4) op oq tr dp w4 fa ob st of F), 0)) rfl ?_
  refine mm_branch (mm_call_mono _ _) (c := (4 : Int32) ≤ 4) (s1 := (32, [(5, .int 4), (0, .ref 10), (1, .int (nI D)), (2, .int (nI A)), (3, .int (nI B)), (4, .int 4)], [], wP pre (wN (PP s4) (QQ s4) op oq tr dp w4 fa ob st of F), 0)) (s2 := (10, [(5, .int 4), (0, .ref 10), (1, .int (nI D)), (2, .int (nI A)), (3, .int (nI B)), (4, .int 4)], [], wP pre (wN (PP s4) (QQ s4) op oq tr dp w4 fa ob st of F), 0)) rfl (fun _ => ?_) (fun h => absurd (by decide) h)
  exact mm_ret (mm_call_mono _ _) (c := True) (r := .inl none) (M := wP pre (wN (PP s4) (QQ s4) op oq tr dp w4 fa ob st of F)) (u := 0) rfl trivial (by decide) (hQ _ _ (mR_T (vec_4 (f := (fun j => fadd (x j) (y j))) (vec_2 (f := (fun j => fadd (x j) (y j))) (mR_T h1 (fun _ => rfl)) (mR_T h2 (fun _ => rfl))) (vec_2 (f := (fun j => (fun j => fadd (x j) (y j)) (2 + j))) (mR_T h3 (fun _ => rfl)) (mR_T h4 (fun _ => rfl)))) (fun _ => rfl)))

set_option maxRecDepth 100000 in
theorem rm_sub_4 {d : Nat} {pre : mm_pre} {s : Nat → fr} {op oq : Nat → Int64} {tr dp wi fa ob : Int32} {st of : Nat → Int32} {F : mm_M} {D A B : Nat} {x y : Nat → fr} {Q : mm_R → mm_M → Prop} (hV : ∀ k, fv (s k)) (hz : mm_z wi) (hg : D + 4 ≤ 480 ∧ (D + 4 ≤ 299 ∨ 300 ≤ D) ∧ A + 4 ≤ 480 ∧ (A = D ∨ A + 4 ≤ D ∨ D + 4 ≤ A) ∧ B + 4 ≤ 480 ∧ (B = D ∨ B + 4 ≤ D ∨ D + 4 ≤ B)) (X : isM s wi 4 A x) (Y : isM s wi 4 B y) (hQ : ∀ (s1 : Nat → fr) (w1 : Int32), mR s wi 300 D 4 (nsub 4 x y) s1 w1 → Q (.inl none) (wP pre (wN (PP s1) (QQ s1) op oq tr dp w1 fa ob st of F))) : mm_call mm_Tb (d + 4) 60 [.ref 10, .int (nI D), .int (nI A), .int (nI B), .int 4] (wP pre (wN (PP s) (QQ s) op oq tr dp wi fa ob st of F)) Q := by
  have X0_0 := m_hi (h := 1) X 0 (by omega)
  have Y0_0 := m_hi (h := 1) Y 0 (by omega)
  have X1_0 := m_hi (h := 1) X 1 (by omega)
  have Y1_0 := m_hi (h := 1) Y 1 (by omega)
  have X2_0 := m_hi (h := 1) X 2 (by omega)
  have Y2_0 := m_hi (h := 1) Y 2 (by omega)
  have X3_0 := m_hi (h := 1) X 3 (by omega)
  have Y3_0 := m_hi (h := 1) Y 3 (by omega)
  refine mm_in mt_60 (Nat.le_of_ble_eq_true rfl) ?_
  show mm_W _ _ _ _ _ _ _ (0, [(0, .ref 10), (1, .int (nI D)), (2, .int (nI A)), (3, .int (nI B)), (4, .int 4)], [], wP pre (wN (PP s) (QQ s) op oq tr dp wi fa ob st of F), 0)
  refine mm_skip (mm_call_mono _ _) 4 (st' := (7, [(5, .int 0), (0, .ref 10), (1, .int (nI D)), (2, .int (nI A)), (3, .int (nI B)), (4, .int 4)], [.int 4, .int 0], wP pre (wN (PP s) (QQ s) op oq tr dp wi fa ob st of F), 0)) rfl ?_
  refine mm_branch (mm_call_mono _ _) (c := (4 : Int32) ≤ 0) (s1 := (32, [(5, .int 0), (0, .ref 10), (1, .int (nI D)), (2, .int (nI A)), (3, .int (nI B)), (4, .int 4)], [], wP pre (wN (PP s) (QQ s) op oq tr dp wi fa ob st of F), 0)) (s2 := (10, [(5, .int 0), (0, .ref 10), (1, .int (nI D)), (2, .int (nI A)), (3, .int (nI B)), (4, .int 4)], [], wP pre (wN (PP s) (QQ s) op oq tr dp wi fa ob st of F), 0)) rfl (fun h => absurd h (by decide)) (fun _ => ?_)
  refine mm_skip (mm_call_mono _ _) 10 (st' := (23, [(5, .int 0), (0, .ref 10), (1, .int (nI D)), (2, .int (nI A)), (3, .int (nI B)), (4, .int 4)], [.int ((nI B) + 0), .int ((nI A) + 0), .int ((nI D) + 0), .ref 10], wP pre (wN (PP s) (QQ s) op oq tr dp wi fa ob st of F), 0)) rfl ?_
  rw [nI_p0 (B)]
  rw [nI_p0 (A)]
  rw [nI_p0 (D)]
  show mm_W _ _ _ _ _ _ _ (23, [(5, .int 0), (0, .ref 10), (1, .int (nI D)), (2, .int (nI A)), (3, .int (nI B)), (4, .int 4)], [.int (nI B), .int (nI A), .int (nI D), .ref 10], wP pre (wN (PP s) (QQ s) op oq tr dp wi fa ob st of F), 0)
  refine mm_inv (mm_call_mono _ _) (j := 51) (a := [.ref 10, .int (nI D), .int (nI A), .int (nI B)]) (M := wP pre (wN (PP s) (QQ s) op oq tr dp wi fa ob st of F)) (u := 0) rfl (by decide) (rm_sub0 (D := D + 0) (A := A + 0) (B := B + 0) hV hz (by omega) (by omega) (by omega) X0_0 Y0_0 (fun s1 w1 h1 => ?_))
  show mm_W _ _ _ _ _ _ _ (26, [(5, .int 0), (0, .ref 10), (1, .int (nI D)), (2, .int (nI A)), (3, .int (nI B)), (4, .int 4)], [], wP pre (wN (PP s1) (QQ s1) op oq tr dp w1 fa ob st of F), 0)
  have X1_1 := m_k X1_0 h1 (by omega)
  have Y1_1 := m_k Y1_0 h1 (by omega)
  have X2_1 := m_k X2_0 h1 (by omega)
  have Y2_1 := m_k Y2_0 h1 (by omega)
  have X3_1 := m_k X3_0 h1 (by omega)
  have Y3_1 := m_k Y3_0 h1 (by omega)
  refine mm_skip (mm_call_mono _ _) 4 (st' := (7, [(5, .int 1), (0, .ref 10), (1, .int (nI D)), (2, .int (nI A)), (3, .int (nI B)), (4, .int 4)], [.int 4, .int 1], wP pre (wN (PP s1) (QQ s1) op oq tr dp w1 fa ob st of F), 0)) rfl ?_
  refine mm_branch (mm_call_mono _ _) (c := (4 : Int32) ≤ 1) (s1 := (32, [(5, .int 1), (0, .ref 10), (1, .int (nI D)), (2, .int (nI A)), (3, .int (nI B)), (4, .int 4)], [], wP pre (wN (PP s1) (QQ s1) op oq tr dp w1 fa ob st of F), 0)) (s2 := (10, [(5, .int 1), (0, .ref 10), (1, .int (nI D)), (2, .int (nI A)), (3, .int (nI B)), (4, .int 4)], [], wP pre (wN (PP s1) (QQ s1) op oq tr dp w1 fa ob st of F), 0)) rfl (fun h => absurd h (by decide)) (fun _ => ?_)
  refine mm_skip (mm_call_mono _ _) 10 (st' := (23, [(5, .int 1), (0, .ref 10), (1, .int (nI D)), (2, .int (nI A)), (3, .int (nI B)), (4, .int 4)], [.int ((nI B) + 1), .int ((nI A) + 1), .int ((nI D) + 1), .ref 10], wP pre (wN (PP s1) (QQ s1) op oq tr dp w1 fa ob st of F), 0)) rfl ?_
  rw [nI_p1 (B)]
  rw [nI_p1 (A)]
  rw [nI_p1 (D)]
  show mm_W _ _ _ _ _ _ _ (23, [(5, .int 1), (0, .ref 10), (1, .int (nI D)), (2, .int (nI A)), (3, .int (nI B)), (4, .int 4)], [.int (nI (B + 1)), .int (nI (A + 1)), .int (nI (D + 1)), .ref 10], wP pre (wN (PP s1) (QQ s1) op oq tr dp w1 fa ob st of F), 0)
  refine mm_inv (mm_call_mono _ _) (j := 51) (a := [.ref 10, .int (nI (D + 1)), .int (nI (A + 1)), .int (nI (B + 1))]) (M := wP pre (wN (PP s1) (QQ s1) op oq tr dp w1 fa ob st of F)) (u := 0) rfl (by decide) (rm_sub0 (D := D + 1) (A := A + 1) (B := B + 1) h1.1 h1.2.1 (by omega) (by omega) (by omega) X1_1 Y1_1 (fun s2 w2 h2 => ?_))
  show mm_W _ _ _ _ _ _ _ (26, [(5, .int 1), (0, .ref 10), (1, .int (nI D)), (2, .int (nI A)), (3, .int (nI B)), (4, .int 4)], [], wP pre (wN (PP s2) (QQ s2) op oq tr dp w2 fa ob st of F), 0)
  have X2_2 := m_k X2_1 h2 (by omega)
  have Y2_2 := m_k Y2_1 h2 (by omega)
  have X3_2 := m_k X3_1 h2 (by omega)
  have Y3_2 := m_k Y3_1 h2 (by omega)
  refine mm_skip (mm_call_mono _ _) 4 (st' := (7, [(5, .int 2), (0, .ref 10), (1, .int (nI D)), (2, .int (nI A)), (3, .int (nI B)), (4, .int 4)], [.int 4, .int 2], wP pre (wN (PP s2) (QQ s2) op oq tr dp w2 fa ob st of F), 0)) rfl ?_
  refine mm_branch (mm_call_mono _ _) (c := (4 : Int32) ≤ 2) (s1 := (32, [(5, .int 2), (0, .ref 10), (1, .int (nI D)), (2, .int (nI A)), (3, .int (nI B)), (4, .int 4)], [], wP pre (wN (PP s2) (QQ s2) op oq tr dp w2 fa ob st of F), 0)) (s2 := (10, [(5, .int 2), (0, .ref 10), (1, .int (nI D)), (2, .int (nI A)), (3, .int (nI B)), (4, .int 4)], [], wP pre (wN (PP s2) (QQ s2) op oq tr dp w2 fa ob st of F), 0)) rfl (fun h => absurd h (by decide)) (fun _ => ?_)
  refine mm_skip (mm_call_mono _ _) 10 (st' := (23, [(5, .int 2), (0, .ref 10), (1, .int (nI D)), (2, .int (nI A)), (3, .int (nI B)), (4, .int 4)], [.int ((nI B) + 2), .int ((nI A) + 2), .int ((nI D) + 2), .ref 10], wP pre (wN (PP s2) (QQ s2) op oq tr dp w2 fa ob st of F), 0)) rfl ?_
  rw [nI_p2 (B)]
  rw [nI_p2 (A)]
  rw [nI_p2 (D)]
  show mm_W _ _ _ _ _ _ _ (23, [(5, .int 2), (0, .ref 10), (1, .int (nI D)), (2, .int (nI A)), (3, .int (nI B)), (4, .int 4)], [.int (nI (B + 2)), .int (nI (A + 2)), .int (nI (D + 2)), .ref 10], wP pre (wN (PP s2) (QQ s2) op oq tr dp w2 fa ob st of F), 0)
  refine mm_inv (mm_call_mono _ _) (j := 51) (a := [.ref 10, .int (nI (D + 2)), .int (nI (A + 2)), .int (nI (B + 2))]) (M := wP pre (wN (PP s2) (QQ s2) op oq tr dp w2 fa ob st of F)) (u := 0) rfl (by decide) (rm_sub0 (D := D + 2) (A := A + 2) (B := B + 2) h2.1 h2.2.1 (by omega) (by omega) (by omega) X2_2 Y2_2 (fun s3 w3 h3 => ?_))
  show mm_W _ _ _ _ _ _ _ (26, [(5, .int 2), (0, .ref 10), (1, .int (nI D)), (2, .int (nI A)), (3, .int (nI B)), (4, .int 4)], [], wP pre (wN (PP s3) (QQ s3) op oq tr dp w3 fa ob st of F), 0)
  have X3_3 := m_k X3_2 h3 (by omega)
  have Y3_3 := m_k Y3_2 h3 (by omega)
  refine mm_skip (mm_call_mono _ _) 4 (st' := (7, [(5, .int 3), (0, .ref 10), (1, .int (nI D)), (2, .int (nI A)), (3, .int (nI B)), (4, .int 4)], [.int 4, .int 3], wP pre (wN (PP s3) (QQ s3) op oq tr dp w3 fa ob st of F), 0)) rfl ?_
  refine mm_branch (mm_call_mono _ _) (c := (4 : Int32) ≤ 3) (s1 := (32, [(5, .int 3), (0, .ref 10), (1, .int (nI D)), (2, .int (nI A)), (3, .int (nI B)), (4, .int 4)], [], wP pre (wN (PP s3) (QQ s3) op oq tr dp w3 fa ob st of F), 0)) (s2 := (10, [(5, .int 3), (0, .ref 10), (1, .int (nI D)), (2, .int (nI A)), (3, .int (nI B)), (4, .int 4)], [], wP pre (wN (PP s3) (QQ s3) op oq tr dp w3 fa ob st of F), 0)) rfl (fun h => absurd h (by decide)) (fun _ => ?_)
  refine mm_skip (mm_call_mono _ _) 10 (st' := (23, [(5, .int 3), (0, .ref 10), (1, .int (nI D)), (2, .int (nI A)), (3, .int (nI B)), (4, .int 4)], [.int ((nI B) + 3), .int ((nI A) + 3), .int ((nI D) + 3), .ref 10], wP pre (wN (PP s3) (QQ s3) op oq tr dp w3 fa ob st of F), 0)) rfl ?_
  rw [nI_p3 (B)]
  rw [nI_p3 (A)]
  rw [nI_p3 (D)]
  show mm_W _ _ _ _ _ _ _ (23, [(5, .int 3), (0, .ref 10), (1, .int (nI D)), (2, .int (nI A)), (3, .int (nI B)), (4, .int 4)], [.int (nI (B + 3)), .int (nI (A + 3)), .int (nI (D + 3)), .ref 10], wP pre (wN (PP s3) (QQ s3) op oq tr dp w3 fa ob st of F), 0)
  refine mm_inv (mm_call_mono _ _) (j := 51) (a := [.ref 10, .int (nI (D + 3)), .int (nI (A + 3)), .int (nI (B + 3))]) (M := wP pre (wN (PP s3) (QQ s3) op oq tr dp w3 fa ob st of F)) (u := 0) rfl (by decide) (rm_sub0 (D := D + 3) (A := A + 3) (B := B + 3) h3.1 h3.2.1 (by omega) (by omega) (by omega) X3_3 Y3_3 (fun s4 w4 h4 => ?_))
  show mm_W _ _ _ _ _ _ _ (26, [(5, .int 3), (0, .ref 10), (1, .int (nI D)), (2, .int (nI A)), (3, .int (nI B)), (4, .int 4)], [], wP pre (wN (PP s4) (QQ s4) op oq tr dp w4 fa ob st of F), 0)
  refine mm_skip (mm_call_mono _ _) 4 (st' := (7, [(5, .int 4), (0, .ref 10), (1, .int (nI D)), (2, .int (nI A)), (3, .int (nI B)), (4, .int 4)], [.int 4, .int 4], wP pre (wN (PP s4) (QQ s4) op oq tr dp w4 fa ob st of F), 0)) rfl ?_
  refine mm_branch (mm_call_mono _ _) (c := (4 : Int32) ≤ 4) (s1 := (32, [(5, .int 4), (0, .ref 10), (1, .int (nI D)), (2, .int (nI A)), (3, .int (nI B)), (4, .int 4)], [], wP pre (wN (PP s4) (QQ s4) op oq tr dp w4 fa ob st of F), 0)) (s2 := (10, [(5, .int 4), (0, .ref 10), (1, .int (nI D)), (2, .int (nI A)), (3, .int (nI B)), (4, .int 4)], [], wP pre (wN (PP s4) (QQ s4) op oq tr dp w4 fa ob st of F), 0)) rfl (fun _ => ?_) (fun h => absurd (by decide) h)
  exact mm_ret (mm_call_mono _ _) (c := True) (r := .inl none) (M := wP pre (wN (PP s4) (QQ s4) op oq tr dp w4 fa ob st of F)) (u := 0) rfl trivial (by decide) (hQ _ _ (mR_T (vec_4 (f := (fun j => fadd (x j) (fneg (y j)))) (vec_2 (f := (fun j => fadd (x j) (fneg (y j)))) (mR_T h1 (fun _ => (nsub_1 _ _).trans (congrArg (Option.map em) (show _ = fmk ((x 0).1 * (y 0).2 + -(y 0).1 * (x 0).2) ((x 0).2 * (y 0).2) by rw [Int.neg_mul, ← Int.sub_eq_add_neg]; rfl)))) (mR_T h2 (fun _ => (nsub_1 _ _).trans (congrArg (Option.map em) (show _ = fmk ((x 1).1 * (y 1).2 + -(y 1).1 * (x 1).2) ((x 1).2 * (y 1).2) by rw [Int.neg_mul, ← Int.sub_eq_add_neg]; rfl))))) (vec_2 (f := (fun j => (fun j => fadd (x j) (fneg (y j))) (2 + j))) (mR_T h3 (fun _ => (nsub_1 _ _).trans (congrArg (Option.map em) (show _ = fmk ((x 2).1 * (y 2).2 + -(y 2).1 * (x 2).2) ((x 2).2 * (y 2).2) by rw [Int.neg_mul, ← Int.sub_eq_add_neg]; rfl)))) (mR_T h4 (fun _ => (nsub_1 _ _).trans (congrArg (Option.map em) (show _ = fmk ((x 3).1 * (y 3).2 + -(y 3).1 * (x 3).2) ((x 3).2 * (y 3).2) by rw [Int.neg_mul, ← Int.sub_eq_add_neg]; rfl)))))) (fun _ => (nsub_f (by unfold lv; decide)).symm)))

set_option maxRecDepth 100000 in
theorem rm_neg_4 {d : Nat} {pre : mm_pre} {s : Nat → fr} {op oq : Nat → Int64} {tr dp wi fa ob : Int32} {st of : Nat → Int32} {F : mm_M} {D A : Nat} {x : Nat → fr} {Q : mm_R → mm_M → Prop} (hV : ∀ k, fv (s k)) (hz : mm_z wi) (hg : D + 4 ≤ 480 ∧ (D + 4 ≤ 299 ∨ 300 ≤ D) ∧ A + 4 ≤ 480 ∧ (A = D ∨ A + 4 ≤ D ∨ D + 4 ≤ A)) (X : isM s wi 4 A x) (hQ : ∀ (s1 : Nat → fr) (w1 : Int32), mR s wi 300 D 4 (nneg 4 x) s1 w1 → Q (.inl none) (wP pre (wN (PP s1) (QQ s1) op oq tr dp w1 fa ob st of F))) : mm_call mm_Tb (d + 4) 61 [.ref 10, .int (nI D), .int (nI A), .int 4] (wP pre (wN (PP s) (QQ s) op oq tr dp wi fa ob st of F)) Q := by
  have X0_0 := m_hi (h := 1) X 0 (by omega)
  have X1_0 := m_hi (h := 1) X 1 (by omega)
  have X2_0 := m_hi (h := 1) X 2 (by omega)
  have X3_0 := m_hi (h := 1) X 3 (by omega)
  refine mm_in mt_61 (Nat.le_of_ble_eq_true rfl) ?_
  show mm_W _ _ _ _ _ _ _ (0, [(0, .ref 10), (1, .int (nI D)), (2, .int (nI A)), (3, .int 4)], [], wP pre (wN (PP s) (QQ s) op oq tr dp wi fa ob st of F), 0)
  refine mm_skip (mm_call_mono _ _) 4 (st' := (6, [(4, .int 0), (0, .ref 10), (1, .int (nI D)), (2, .int (nI A)), (3, .int 4)], [.int 4, .int 0], wP pre (wN (PP s) (QQ s) op oq tr dp wi fa ob st of F), 0)) rfl ?_
  refine mm_branch (mm_call_mono _ _) (c := (4 : Int32) ≤ 0) (s1 := (27, [(4, .int 0), (0, .ref 10), (1, .int (nI D)), (2, .int (nI A)), (3, .int 4)], [], wP pre (wN (PP s) (QQ s) op oq tr dp wi fa ob st of F), 0)) (s2 := (9, [(4, .int 0), (0, .ref 10), (1, .int (nI D)), (2, .int (nI A)), (3, .int 4)], [], wP pre (wN (PP s) (QQ s) op oq tr dp wi fa ob st of F), 0)) rfl (fun h => absurd h (by decide)) (fun _ => ?_)
  refine mm_skip (mm_call_mono _ _) 7 (st' := (18, [(4, .int 0), (0, .ref 10), (1, .int (nI D)), (2, .int (nI A)), (3, .int 4)], [.int ((nI A) + 0), .int ((nI D) + 0), .ref 10], wP pre (wN (PP s) (QQ s) op oq tr dp wi fa ob st of F), 0)) rfl ?_
  rw [nI_p0 (A)]
  rw [nI_p0 (D)]
  show mm_W _ _ _ _ _ _ _ (18, [(4, .int 0), (0, .ref 10), (1, .int (nI D)), (2, .int (nI A)), (3, .int 4)], [.int (nI A), .int (nI D), .ref 10], wP pre (wN (PP s) (QQ s) op oq tr dp wi fa ob st of F), 0)
  refine mm_inv (mm_call_mono _ _) (j := 53) (a := [.ref 10, .int (nI D), .int (nI A)]) (M := wP pre (wN (PP s) (QQ s) op oq tr dp wi fa ob st of F)) (u := 0) rfl (by decide) (rm_neg0 (D := D + 0) (A := A + 0)  hV hz (by omega) (by omega)  X0_0 (fun s1 w1 h1 => ?_))
  show mm_W _ _ _ _ _ _ _ (21, [(4, .int 0), (0, .ref 10), (1, .int (nI D)), (2, .int (nI A)), (3, .int 4)], [], wP pre (wN (PP s1) (QQ s1) op oq tr dp w1 fa ob st of F), 0)
  have X1_1 := m_k X1_0 h1 (by omega)
  have X2_1 := m_k X2_0 h1 (by omega)
  have X3_1 := m_k X3_0 h1 (by omega)
  refine mm_skip (mm_call_mono _ _) 4 (st' := (6, [(4, .int 1), (0, .ref 10), (1, .int (nI D)), (2, .int (nI A)), (3, .int 4)], [.int 4, .int 1], wP pre (wN (PP s1) (QQ s1) op oq tr dp w1 fa ob st of F), 0)) rfl ?_
  refine mm_branch (mm_call_mono _ _) (c := (4 : Int32) ≤ 1) (s1 := (27, [(4, .int 1), (0, .ref 10), (1, .int (nI D)), (2, .int (nI A)), (3, .int 4)], [], wP pre (wN (PP s1) (QQ s1) op oq tr dp w1 fa ob st of F), 0)) (s2 := (9, [(4, .int 1), (0, .ref 10), (1, .int (nI D)), (2, .int (nI A)), (3, .int 4)], [], wP pre (wN (PP s1) (QQ s1) op oq tr dp w1 fa ob st of F), 0)) rfl (fun h => absurd h (by decide)) (fun _ => ?_)
  refine mm_skip (mm_call_mono _ _) 7 (st' := (18, [(4, .int 1), (0, .ref 10), (1, .int (nI D)), (2, .int (nI A)), (3, .int 4)], [.int ((nI A) + 1), .int ((nI D) + 1), .ref 10], wP pre (wN (PP s1) (QQ s1) op oq tr dp w1 fa ob st of F), 0)) rfl ?_
  rw [nI_p1 (A)]
  rw [nI_p1 (D)]
  show mm_W _ _ _ _ _ _ _ (18, [(4, .int 1), (0, .ref 10), (1, .int (nI D)), (2, .int (nI A)), (3, .int 4)], [.int (nI (A + 1)), .int (nI (D + 1)), .ref 10], wP pre (wN (PP s1) (QQ s1) op oq tr dp w1 fa ob st of F), 0)
  refine mm_inv (mm_call_mono _ _) (j := 53) (a := [.ref 10, .int (nI (D + 1)), .int (nI (A + 1))]) (M := wP pre (wN (PP s1) (QQ s1) op oq tr dp w1 fa ob st of F)) (u := 0) rfl (by decide) (rm_neg0 (D := D + 1) (A := A + 1)  h1.1 h1.2.1 (by omega) (by omega)  X1_1 (fun s2 w2 h2 => ?_))
  show mm_W _ _ _ _ _ _ _ (21, [(4, .int 1), (0, .ref 10), (1, .int (nI D)), (2, .int (nI A)), (3, .int 4)], [], wP pre (wN (PP s2) (QQ s2) op oq tr dp w2 fa ob st of F), 0)
  have X2_2 := m_k X2_1 h2 (by omega)
  have X3_2 := m_k X3_1 h2 (by omega)
  refine mm_skip (mm_call_mono _ _) 4 (st' := (6, [(4, .int 2), (0, .ref 10), (1, .int (nI D)), (2, .int (nI A)), (3, .int 4)], [.int 4, .int 2], wP pre (wN (PP s2) (QQ s2) op oq tr dp w2 fa ob st of F), 0)) rfl ?_
  refine mm_branch (mm_call_mono _ _) (c := (4 : Int32) ≤ 2) (s1 := (27, [(4, .int 2), (0, .ref 10), (1, .int (nI D)), (2, .int (nI A)), (3, .int 4)], [], wP pre (wN (PP s2) (QQ s2) op oq tr dp w2 fa ob st of F), 0)) (s2 := (9, [(4, .int 2), (0, .ref 10), (1, .int (nI D)), (2, .int (nI A)), (3, .int 4)], [], wP pre (wN (PP s2) (QQ s2) op oq tr dp w2 fa ob st of F), 0)) rfl (fun h => absurd h (by decide)) (fun _ => ?_)
  refine mm_skip (mm_call_mono _ _) 7 (st' := (18, [(4, .int 2), (0, .ref 10), (1, .int (nI D)), (2, .int (nI A)), (3, .int 4)], [.int ((nI A) + 2), .int ((nI D) + 2), .ref 10], wP pre (wN (PP s2) (QQ s2) op oq tr dp w2 fa ob st of F), 0)) rfl ?_
  rw [nI_p2 (A)]
  rw [nI_p2 (D)]
  show mm_W _ _ _ _ _ _ _ (18, [(4, .int 2), (0, .ref 10), (1, .int (nI D)), (2, .int (nI A)), (3, .int 4)], [.int (nI (A + 2)), .int (nI (D + 2)), .ref 10], wP pre (wN (PP s2) (QQ s2) op oq tr dp w2 fa ob st of F), 0)
  refine mm_inv (mm_call_mono _ _) (j := 53) (a := [.ref 10, .int (nI (D + 2)), .int (nI (A + 2))]) (M := wP pre (wN (PP s2) (QQ s2) op oq tr dp w2 fa ob st of F)) (u := 0) rfl (by decide) (rm_neg0 (D := D + 2) (A := A + 2)  h2.1 h2.2.1 (by omega) (by omega)  X2_2 (fun s3 w3 h3 => ?_))
  show mm_W _ _ _ _ _ _ _ (21, [(4, .int 2), (0, .ref 10), (1, .int (nI D)), (2, .int (nI A)), (3, .int 4)], [], wP pre (wN (PP s3) (QQ s3) op oq tr dp w3 fa ob st of F), 0)
  have X3_3 := m_k X3_2 h3 (by omega)
  refine mm_skip (mm_call_mono _ _) 4 (st' := (6, [(4, .int 3), (0, .ref 10), (1, .int (nI D)), (2, .int (nI A)), (3, .int 4)], [.int 4, .int 3], wP pre (wN (PP s3) (QQ s3) op oq tr dp w3 fa ob st of F), 0)) rfl ?_
  refine mm_branch (mm_call_mono _ _) (c := (4 : Int32) ≤ 3) (s1 := (27, [(4, .int 3), (0, .ref 10), (1, .int (nI D)), (2, .int (nI A)), (3, .int 4)], [], wP pre (wN (PP s3) (QQ s3) op oq tr dp w3 fa ob st of F), 0)) (s2 := (9, [(4, .int 3), (0, .ref 10), (1, .int (nI D)), (2, .int (nI A)), (3, .int 4)], [], wP pre (wN (PP s3) (QQ s3) op oq tr dp w3 fa ob st of F), 0)) rfl (fun h => absurd h (by decide)) (fun _ => ?_)
  refine mm_skip (mm_call_mono _ _) 7 (st' := (18, [(4, .int 3), (0, .ref 10), (1, .int (nI D)), (2, .int (nI A)), (3, .int 4)], [.int ((nI A) + 3), .int ((nI D) + 3), .ref 10], wP pre (wN (PP s3) (QQ s3) op oq tr dp w3 fa ob st of F), 0)) rfl ?_
  rw [nI_p3 (A)]
  rw [nI_p3 (D)]
  show mm_W _ _ _ _ _ _ _ (18, [(4, .int 3), (0, .ref 10), (1, .int (nI D)), (2, .int (nI A)), (3, .int 4)], [.int (nI (A + 3)), .int (nI (D + 3)), .ref 10], wP pre (wN (PP s3) (QQ s3) op oq tr dp w3 fa ob st of F), 0)
  refine mm_inv (mm_call_mono _ _) (j := 53) (a := [.ref 10, .int (nI (D + 3)), .int (nI (A + 3))]) (M := wP pre (wN (PP s3) (QQ s3) op oq tr dp w3 fa ob st of F)) (u := 0) rfl (by decide) (rm_neg0 (D := D + 3) (A := A + 3)  h3.1 h3.2.1 (by omega) (by omega)  X3_3 (fun s4 w4 h4 => ?_))
  show mm_W _ _ _ _ _ _ _ (21, [(4, .int 3), (0, .ref 10), (1, .int (nI D)), (2, .int (nI A)), (3, .int 4)], [], wP pre (wN (PP s4) (QQ s4) op oq tr dp w4 fa ob st of F), 0)
  refine mm_skip (mm_call_mono _ _) 4 (st' := (6, [(4, .int 4), (0, .ref 10), (1, .int (nI D)), (2, .int (nI A)), (3, .int 4)], [.int 4, .int 4], wP pre (wN (PP s4) (QQ s4) op oq tr dp w4 fa ob st of F), 0)) rfl ?_
  refine mm_branch (mm_call_mono _ _) (c := (4 : Int32) ≤ 4) (s1 := (27, [(4, .int 4), (0, .ref 10), (1, .int (nI D)), (2, .int (nI A)), (3, .int 4)], [], wP pre (wN (PP s4) (QQ s4) op oq tr dp w4 fa ob st of F), 0)) (s2 := (9, [(4, .int 4), (0, .ref 10), (1, .int (nI D)), (2, .int (nI A)), (3, .int 4)], [], wP pre (wN (PP s4) (QQ s4) op oq tr dp w4 fa ob st of F), 0)) rfl (fun _ => ?_) (fun h => absurd (by decide) h)
  exact mm_ret (mm_call_mono _ _) (c := True) (r := .inl none) (M := wP pre (wN (PP s4) (QQ s4) op oq tr dp w4 fa ob st of F)) (u := 0) rfl trivial (by decide) (hQ _ _ (mR_T (vec_4 (f := (fun j => some (fneg (x j)))) (vec_2 (f := (fun j => some (fneg (x j)))) (mR_T h1 (fun _ => rfl)) (mR_T h2 (fun _ => rfl))) (vec_2 (f := (fun j => (fun j => some (fneg (x j))) (2 + j))) (mR_T h3 (fun _ => rfl)) (mR_T h4 (fun _ => rfl)))) (fun _ => rfl)))

set_option maxRecDepth 100000 in
theorem rm_halve_4 {d : Nat} {pre : mm_pre} {s : Nat → fr} {op oq : Nat → Int64} {tr dp wi fa ob : Int32} {st of : Nat → Int32} {F : mm_M} {D A : Nat} {x : Nat → fr} {Q : mm_R → mm_M → Prop} (hV : ∀ k, fv (s k)) (hz : mm_z wi) (hg : D + 4 ≤ 480 ∧ (D + 4 ≤ 299 ∨ 300 ≤ D) ∧ A + 4 ≤ 480 ∧ (A = D ∨ A + 4 ≤ D ∨ D + 4 ≤ A)) (X : isM s wi 4 A x) (Hf : isM s wi 1 299 (fun _ => (1, 2))) (hQ : ∀ (s1 : Nat → fr) (w1 : Int32), mR s wi 300 D 4 (nhalf 4 x) s1 w1 → Q (.inl none) (wP pre (wN (PP s1) (QQ s1) op oq tr dp w1 fa ob st of F))) : mm_call mm_Tb (d + 4) 62 [.ref 10, .int (nI D), .int (nI A), .int 4] (wP pre (wN (PP s) (QQ s) op oq tr dp wi fa ob st of F)) Q := by
  have X0_0 := m_hi (h := 1) X 0 (by omega)
  have X1_0 := m_hi (h := 1) X 1 (by omega)
  have X2_0 := m_hi (h := 1) X 2 (by omega)
  have X3_0 := m_hi (h := 1) X 3 (by omega)
  have Hf_0 := Hf
  refine mm_in mt_62 (Nat.le_of_ble_eq_true rfl) ?_
  show mm_W _ _ _ _ _ _ _ (0, [(0, .ref 10), (1, .int (nI D)), (2, .int (nI A)), (3, .int 4)], [], wP pre (wN (PP s) (QQ s) op oq tr dp wi fa ob st of F), 0)
  refine mm_skip (mm_call_mono _ _) 4 (st' := (6, [(4, .int 0), (0, .ref 10), (1, .int (nI D)), (2, .int (nI A)), (3, .int 4)], [.int 4, .int 0], wP pre (wN (PP s) (QQ s) op oq tr dp wi fa ob st of F), 0)) rfl ?_
  refine mm_branch (mm_call_mono _ _) (c := (4 : Int32) ≤ 0) (s1 := (30, [(4, .int 0), (0, .ref 10), (1, .int (nI D)), (2, .int (nI A)), (3, .int 4)], [], wP pre (wN (PP s) (QQ s) op oq tr dp wi fa ob st of F), 0)) (s2 := (9, [(4, .int 0), (0, .ref 10), (1, .int (nI D)), (2, .int (nI A)), (3, .int 4)], [], wP pre (wN (PP s) (QQ s) op oq tr dp wi fa ob st of F), 0)) rfl (fun h => absurd h (by decide)) (fun _ => ?_)
  refine mm_skip (mm_call_mono _ _) 8 (st' := (21, [(4, .int 0), (0, .ref 10), (1, .int (nI D)), (2, .int (nI A)), (3, .int 4)], [.int 299, .int ((nI A) + 0), .int ((nI D) + 0), .ref 10], wP pre (wN (PP s) (QQ s) op oq tr dp wi fa ob st of F), 0)) rfl ?_
  rw [nI_p0 (A)]
  rw [nI_p0 (D)]
  show mm_W _ _ _ _ _ _ _ (21, [(4, .int 0), (0, .ref 10), (1, .int (nI D)), (2, .int (nI A)), (3, .int 4)], [.int 299, .int (nI A), .int (nI D), .ref 10], wP pre (wN (PP s) (QQ s) op oq tr dp wi fa ob st of F), 0)
  refine mm_inv (mm_call_mono _ _) (j := 52) (a := [.ref 10, .int (nI D), .int (nI A), .int 299]) (M := wP pre (wN (PP s) (QQ s) op oq tr dp wi fa ob st of F)) (u := 0) rfl (by decide) (rm_mul0 (D := D + 0) (A := A + 0) (B := 299) hV hz (by omega) (by omega) (by omega) X0_0 Hf_0 (fun s1 w1 h1 => ?_))
  show mm_W _ _ _ _ _ _ _ (24, [(4, .int 0), (0, .ref 10), (1, .int (nI D)), (2, .int (nI A)), (3, .int 4)], [], wP pre (wN (PP s1) (QQ s1) op oq tr dp w1 fa ob st of F), 0)
  have X1_1 := m_k X1_0 h1 (by omega)
  have X2_1 := m_k X2_0 h1 (by omega)
  have X3_1 := m_k X3_0 h1 (by omega)
  have Hf_1 := m_k Hf_0 h1 (by omega)
  refine mm_skip (mm_call_mono _ _) 4 (st' := (6, [(4, .int 1), (0, .ref 10), (1, .int (nI D)), (2, .int (nI A)), (3, .int 4)], [.int 4, .int 1], wP pre (wN (PP s1) (QQ s1) op oq tr dp w1 fa ob st of F), 0)) rfl ?_
  refine mm_branch (mm_call_mono _ _) (c := (4 : Int32) ≤ 1) (s1 := (30, [(4, .int 1), (0, .ref 10), (1, .int (nI D)), (2, .int (nI A)), (3, .int 4)], [], wP pre (wN (PP s1) (QQ s1) op oq tr dp w1 fa ob st of F), 0)) (s2 := (9, [(4, .int 1), (0, .ref 10), (1, .int (nI D)), (2, .int (nI A)), (3, .int 4)], [], wP pre (wN (PP s1) (QQ s1) op oq tr dp w1 fa ob st of F), 0)) rfl (fun h => absurd h (by decide)) (fun _ => ?_)
  refine mm_skip (mm_call_mono _ _) 8 (st' := (21, [(4, .int 1), (0, .ref 10), (1, .int (nI D)), (2, .int (nI A)), (3, .int 4)], [.int 299, .int ((nI A) + 1), .int ((nI D) + 1), .ref 10], wP pre (wN (PP s1) (QQ s1) op oq tr dp w1 fa ob st of F), 0)) rfl ?_
  rw [nI_p1 (A)]
  rw [nI_p1 (D)]
  show mm_W _ _ _ _ _ _ _ (21, [(4, .int 1), (0, .ref 10), (1, .int (nI D)), (2, .int (nI A)), (3, .int 4)], [.int 299, .int (nI (A + 1)), .int (nI (D + 1)), .ref 10], wP pre (wN (PP s1) (QQ s1) op oq tr dp w1 fa ob st of F), 0)
  refine mm_inv (mm_call_mono _ _) (j := 52) (a := [.ref 10, .int (nI (D + 1)), .int (nI (A + 1)), .int 299]) (M := wP pre (wN (PP s1) (QQ s1) op oq tr dp w1 fa ob st of F)) (u := 0) rfl (by decide) (rm_mul0 (D := D + 1) (A := A + 1) (B := 299) h1.1 h1.2.1 (by omega) (by omega) (by omega) X1_1 Hf_1 (fun s2 w2 h2 => ?_))
  show mm_W _ _ _ _ _ _ _ (24, [(4, .int 1), (0, .ref 10), (1, .int (nI D)), (2, .int (nI A)), (3, .int 4)], [], wP pre (wN (PP s2) (QQ s2) op oq tr dp w2 fa ob st of F), 0)
  have X2_2 := m_k X2_1 h2 (by omega)
  have X3_2 := m_k X3_1 h2 (by omega)
  have Hf_2 := m_k Hf_1 h2 (by omega)
  refine mm_skip (mm_call_mono _ _) 4 (st' := (6, [(4, .int 2), (0, .ref 10), (1, .int (nI D)), (2, .int (nI A)), (3, .int 4)], [.int 4, .int 2], wP pre (wN (PP s2) (QQ s2) op oq tr dp w2 fa ob st of F), 0)) rfl ?_
  refine mm_branch (mm_call_mono _ _) (c := (4 : Int32) ≤ 2) (s1 := (30, [(4, .int 2), (0, .ref 10), (1, .int (nI D)), (2, .int (nI A)), (3, .int 4)], [], wP pre (wN (PP s2) (QQ s2) op oq tr dp w2 fa ob st of F), 0)) (s2 := (9, [(4, .int 2), (0, .ref 10), (1, .int (nI D)), (2, .int (nI A)), (3, .int 4)], [], wP pre (wN (PP s2) (QQ s2) op oq tr dp w2 fa ob st of F), 0)) rfl (fun h => absurd h (by decide)) (fun _ => ?_)
  refine mm_skip (mm_call_mono _ _) 8 (st' := (21, [(4, .int 2), (0, .ref 10), (1, .int (nI D)), (2, .int (nI A)), (3, .int 4)], [.int 299, .int ((nI A) + 2), .int ((nI D) + 2), .ref 10], wP pre (wN (PP s2) (QQ s2) op oq tr dp w2 fa ob st of F), 0)) rfl ?_
  rw [nI_p2 (A)]
  rw [nI_p2 (D)]
  show mm_W _ _ _ _ _ _ _ (21, [(4, .int 2), (0, .ref 10), (1, .int (nI D)), (2, .int (nI A)), (3, .int 4)], [.int 299, .int (nI (A + 2)), .int (nI (D + 2)), .ref 10], wP pre (wN (PP s2) (QQ s2) op oq tr dp w2 fa ob st of F), 0)
  refine mm_inv (mm_call_mono _ _) (j := 52) (a := [.ref 10, .int (nI (D + 2)), .int (nI (A + 2)), .int 299]) (M := wP pre (wN (PP s2) (QQ s2) op oq tr dp w2 fa ob st of F)) (u := 0) rfl (by decide) (rm_mul0 (D := D + 2) (A := A + 2) (B := 299) h2.1 h2.2.1 (by omega) (by omega) (by omega) X2_2 Hf_2 (fun s3 w3 h3 => ?_))
  show mm_W _ _ _ _ _ _ _ (24, [(4, .int 2), (0, .ref 10), (1, .int (nI D)), (2, .int (nI A)), (3, .int 4)], [], wP pre (wN (PP s3) (QQ s3) op oq tr dp w3 fa ob st of F), 0)
  have X3_3 := m_k X3_2 h3 (by omega)
  have Hf_3 := m_k Hf_2 h3 (by omega)
  refine mm_skip (mm_call_mono _ _) 4 (st' := (6, [(4, .int 3), (0, .ref 10), (1, .int (nI D)), (2, .int (nI A)), (3, .int 4)], [.int 4, .int 3], wP pre (wN (PP s3) (QQ s3) op oq tr dp w3 fa ob st of F), 0)) rfl ?_
  refine mm_branch (mm_call_mono _ _) (c := (4 : Int32) ≤ 3) (s1 := (30, [(4, .int 3), (0, .ref 10), (1, .int (nI D)), (2, .int (nI A)), (3, .int 4)], [], wP pre (wN (PP s3) (QQ s3) op oq tr dp w3 fa ob st of F), 0)) (s2 := (9, [(4, .int 3), (0, .ref 10), (1, .int (nI D)), (2, .int (nI A)), (3, .int 4)], [], wP pre (wN (PP s3) (QQ s3) op oq tr dp w3 fa ob st of F), 0)) rfl (fun h => absurd h (by decide)) (fun _ => ?_)
  refine mm_skip (mm_call_mono _ _) 8 (st' := (21, [(4, .int 3), (0, .ref 10), (1, .int (nI D)), (2, .int (nI A)), (3, .int 4)], [.int 299, .int ((nI A) + 3), .int ((nI D) + 3), .ref 10], wP pre (wN (PP s3) (QQ s3) op oq tr dp w3 fa ob st of F), 0)) rfl ?_
  rw [nI_p3 (A)]
  rw [nI_p3 (D)]
  show mm_W _ _ _ _ _ _ _ (21, [(4, .int 3), (0, .ref 10), (1, .int (nI D)), (2, .int (nI A)), (3, .int 4)], [.int 299, .int (nI (A + 3)), .int (nI (D + 3)), .ref 10], wP pre (wN (PP s3) (QQ s3) op oq tr dp w3 fa ob st of F), 0)
  refine mm_inv (mm_call_mono _ _) (j := 52) (a := [.ref 10, .int (nI (D + 3)), .int (nI (A + 3)), .int 299]) (M := wP pre (wN (PP s3) (QQ s3) op oq tr dp w3 fa ob st of F)) (u := 0) rfl (by decide) (rm_mul0 (D := D + 3) (A := A + 3) (B := 299) h3.1 h3.2.1 (by omega) (by omega) (by omega) X3_3 Hf_3 (fun s4 w4 h4 => ?_))
  show mm_W _ _ _ _ _ _ _ (24, [(4, .int 3), (0, .ref 10), (1, .int (nI D)), (2, .int (nI A)), (3, .int 4)], [], wP pre (wN (PP s4) (QQ s4) op oq tr dp w4 fa ob st of F), 0)
  refine mm_skip (mm_call_mono _ _) 4 (st' := (6, [(4, .int 4), (0, .ref 10), (1, .int (nI D)), (2, .int (nI A)), (3, .int 4)], [.int 4, .int 4], wP pre (wN (PP s4) (QQ s4) op oq tr dp w4 fa ob st of F), 0)) rfl ?_
  refine mm_branch (mm_call_mono _ _) (c := (4 : Int32) ≤ 4) (s1 := (30, [(4, .int 4), (0, .ref 10), (1, .int (nI D)), (2, .int (nI A)), (3, .int 4)], [], wP pre (wN (PP s4) (QQ s4) op oq tr dp w4 fa ob st of F), 0)) (s2 := (9, [(4, .int 4), (0, .ref 10), (1, .int (nI D)), (2, .int (nI A)), (3, .int 4)], [], wP pre (wN (PP s4) (QQ s4) op oq tr dp w4 fa ob st of F), 0)) rfl (fun _ => ?_) (fun h => absurd (by decide) h)
  exact mm_ret (mm_call_mono _ _) (c := True) (r := .inl none) (M := wP pre (wN (PP s4) (QQ s4) op oq tr dp w4 fa ob st of F)) (u := 0) rfl trivial (by decide) (hQ _ _ (mR_T (vec_4 (f := (fun j => fhalf (x j))) (vec_2 (f := (fun j => fhalf (x j))) (mR_T h1 (fun _ => nmul_half)) (mR_T h2 (fun _ => nmul_half))) (vec_2 (f := (fun j => (fun j => fhalf (x j)) (2 + j))) (mR_T h3 (fun _ => nmul_half)) (mR_T h4 (fun _ => nmul_half)))) (fun _ => rfl)))

