/-- a number of level l: its fractions beyond are 0 / 1 -/
def lz (l : Nat) (v : n4) : Prop := ∀ j, lm l ≤ j → j < 4 → g4 v j = z0
theorem lm_le {l k : Nat} (h : l ≤ k) (hk : k ≤ 2) : lm l ≤ lm k := by
  rcases (show (l = 0 ∨ l = 1 ∨ l = 2) ∧ (k = 0 ∨ k = 1 ∨ k = 2) by omega) with ⟨rfl | rfl | rfl, rfl | rfl | rfl⟩ <;> first | decide | omega
theorem lz_le {l k : Nat} {v : n4} (h : lz l v) (hl : l ≤ k) (hk : k ≤ 2) : lz k v := fun j h1 h2 => h j (Nat.le_trans (lm_le hl hk) h1) h2
theorem lz_zz {l : Nat} : lz l zz := fun j _ _ => g4_zz j
theorem lz_nS {l : Nat} {f : Nat → Option fr} {v : n4} (hl : l ≤ 2) (h : nS (lm l) f = some v) : lz l v := by
  intro j h1 h2
  rcases (show l = 0 ∨ l = 1 ∨ l = 2 by omega) with rfl | rfl | rfl
  · have h : (f 0).map (fun a => ((a, z0, z0, z0) : n4)) = some v := h
    have h1 : 1 ≤ j := h1
    cases e : f 0 with
    | none => rw [e] at h; cases h
    | some a =>
      rw [e] at h; cases h
      rcases (show j = 1 ∨ j = 2 ∨ j = 3 by omega) with rfl | rfl | rfl <;> rfl
  · have h : ((f 0).bind fun a => (f 1).map fun b => ((a, b, z0, z0) : n4)) = some v := h
    have h1 : 2 ≤ j := h1
    cases e : f 0 with
    | none => rw [e] at h; cases h
    | some a =>
      cases e1 : f 1 with
      | none => rw [e, e1] at h; cases h
      | some b =>
        rw [e, e1] at h; cases h
        rcases (show j = 2 ∨ j = 3 by omega) with rfl | rfl <;> rfl
  · have h1 : 4 ≤ j := h1
    omega
theorem lz_sub {l : Nat} {x y v : n4} (hl : l ≤ 2) (h : xsub l x y = some v) : lz l v := by
  have e : xsub l x y = nS (lm l) (fun j => fadd (g4 x j) (fneg (g4 y j))) := nsub_f (by rcases (show l = 0 ∨ l = 1 ∨ l = 2 by omega) with rfl | rfl | rfl <;> (unfold lv lm; decide))
  rw [e] at h
  exact lz_nS hl h
theorem lz_jn {l : Nat} {p q : n4} (hl : 1 ≤ l) (h2 : l ≤ 2) : lz l (jn (lm (l - 1)) p q) := by
  intro j h3 h4
  rcases (show l = 1 ∨ l = 2 by omega) with rfl | rfl
  · have h3 : 2 ≤ j := h3
    rcases (show j = 2 ∨ j = 3 by omega) with rfl | rfl <;> rfl
  · have h3 : 4 ≤ j := h3
    omega
theorem lz_2 {v : n4} : lz 2 v := fun j h1 h2 => absurd (show 4 ≤ j from h1) (by omega)
theorem lz_mul {L : lvR} {x y v : n4} (hl : L.1 ≤ 2) (h : xmul L x y = some v) : lz L.1 v := by
  obtain ⟨l, R1, R2⟩ := L
  have hl : l ≤ 2 := hl
  rcases (show l = 0 ∨ l = 1 ∨ l = 2 by omega) with rfl | rfl | rfl
  · exact lz_nS (l := 0) (f := fun j => fmul (g4 x j) (g4 y j)) (by omega) h
  · refine bd (show (nmulS 1 nmul0 (g4 R1) (g4 x) (g4 y)) = some v from h) (fun _ h => bd h (fun _ h => bd h (fun _ h => bd h (fun _ h => bd h (fun _ h => bd h (fun _ h => bd h (fun _ h => ?_)))))))
    cases h
    exact lz_jn (l := 1) (by omega) (by omega)
  · exact lz_2
theorem lz_inv {L : lvR} {x v : n4} (hl : L.1 ≤ 2) (h : xinv L x = some v) : lz L.1 v := by
  obtain ⟨l, R1, R2⟩ := L
  have hl : l ≤ 2 := hl
  rcases (show l = 0 ∨ l = 1 ∨ l = 2 by omega) with rfl | rfl | rfl
  · have h : (if (g4 x 0).1 = 0 then none else some ((finv (g4 x 0), z0, z0, z0) : n4)) = some v := h
    by_cases e : (g4 x 0).1 = 0
    · rw [if_pos e] at h; cases h
    · rw [if_neg e] at h; cases h
      intro j h1 h2
      have h1 : 1 ≤ j := h1
      rcases (show j = 1 ∨ j = 2 ∨ j = 3 by omega) with rfl | rfl | rfl <;> rfl
  · refine bd (show (ninvS 1 nmul0 ninv0 (g4 R1) (g4 x)) = some v from h) (fun _ h => bd h (fun _ h => bd h (fun _ h => bd h (fun _ h => bd h (fun _ h => bd h (fun _ h => bd h (fun _ h => bd h (fun _ h => bd h (fun _ h => ?_)))))))))
    cases h
    exact lz_jn (l := 1) (by omega) (by omega)
  · exact lz_2
theorem ff0 : fadd z0 z0 = some z0 := by decide
theorem n4_of {l : Nat} {f : Nat → Option fr} (hl : l ≤ 2) (h : ∀ j, lm l ≤ j → j < 4 → f j = some z0) : nS 4 f = nS (lm l) f := by
  rcases (show l = 0 ∨ l = 1 ∨ l = 2 by omega) with rfl | rfl | rfl
  · show ((f 0).bind fun a => (f 1).bind fun b => (f 2).bind fun c => (f 3).map fun e => ((a, b, c, e) : n4)) = (f 0).map fun a => ((a, z0, z0, z0) : n4)
    rw [h 1 (by decide) (by omega), h 2 (by decide) (by omega), h 3 (by decide) (by omega)]
    cases f 0 <;> rfl
  · show ((f 0).bind fun a => (f 1).bind fun b => (f 2).bind fun c => (f 3).map fun e => ((a, b, c, e) : n4)) = (f 0).bind fun a => (f 1).map fun b => ((a, b, z0, z0) : n4)
    rw [h 2 (by decide) (by omega), h 3 (by decide) (by omega)]
    cases f 0 with
    | none => rfl
    | some a => cases f 1 <;> rfl
  · rfl
theorem fz_half : fhalf z0 = some z0 := by decide
theorem fz_neg : fneg z0 = z0 := by decide
theorem add4 {l : Nat} {x y : n4} (hl : l ≤ 2) (hx : lz l x) (hy : lz l y) : nadd 4 (g4 x) (g4 y) = xadd l x y := n4_of hl (fun j h1 h2 => by rw [hx j h1 h2, hy j h1 h2]; exact ff0)
theorem lvm {l : Nat} (hl : l ≤ 2) : lv (lm l) := by rcases (show l = 0 ∨ l = 1 ∨ l = 2 by omega) with rfl | rfl | rfl <;> (unfold lv lm; decide)
theorem sub4 {l : Nat} {x y : n4} (hl : l ≤ 2) (hx : lz l x) (hy : lz l y) : nsub 4 (g4 x) (g4 y) = xsub l x y := by
  unfold xsub
  rw [nsub_f (by unfold lv; decide), nsub_f (lvm hl)]
  exact n4_of hl (fun j h1 h2 => by rw [hx j h1 h2, hy j h1 h2, fz_neg]; exact ff0)
theorem neg4 {l : Nat} {x : n4} (hl : l ≤ 2) (hx : lz l x) : nneg 4 (g4 x) = xneg l x := n4_of hl (fun j h1 h2 => by rw [hx j h1 h2, fz_neg])
theorem half4 {l : Nat} {x : n4} (hl : l ≤ 2) (hx : lz l x) : nhalf 4 (g4 x) = xhalf l x := n4_of hl (fun j h1 h2 => by rw [hx j h1 h2]; exact fz_half)
/-- a number of level l at a -/
def tM (s : Nat → fr) (wi : Int32) (l a : Nat) (v : n4) : Prop := isM s wi 4 a (g4 v) ∧ (wi = 0 → lz l v)
/-- behind an operation on whole numbers: spec T at D; scratch 300 .. 367 and from W on -/
def gR0 : Nat := 0
theorem lz_cl {s s2 : Nat → fr} {D l : Nat} (c : clM s D (lm l) s2) : lz l (pd 4 s2 D) := fun j h1 h2 => by rw [g4_pd (by unfold lv; decide) h2]; exact c.2.2 j h1 h2
def gR (s : Nat → fr) (wi : Int32) (l W D : Nat) (T : Option n4) (s1 : Nat → fr) (w1 : Int32) : Prop :=
  (∀ k, fv (s1 k)) ∧ mm_z w1 ∧ (∀ k, ¬ (300 ≤ k ∧ k < 368) → ¬ W ≤ k → ¬ (D ≤ k ∧ k < D + 4) → s1 k = s k) ∧ (wi = 1 → w1 = 1) ∧ (w1 = 0 → wi = 0 ∧ T = some (pd 4 s1 D) ∧ lz l (pd 4 s1 D)) ∧ (w1 = 1 → wi = 0 → T = none)
theorem g_of {s s1 : Nat → fr} {wi w1 : Int32} {l U D : Nat} {T T' : Option n4} (h : mR s wi U D 4 T s1 w1) (hU : U ≤ 368) (e : wi = 0 → T = T') (hz : ∀ v, T' = some v → lz l v) : gR s wi l 480 D T' s1 w1 := by
  obtain ⟨a1, a2, a3, a4, a5, a6⟩ := h
  refine ⟨a1, a2, fun k h1 _ h2 => a3 k (by omega) h2, a4, fun h0 => ?_, fun h1 h0 => (e h0).symm.trans (a6 h1 h0)⟩
  obtain ⟨b1, b2⟩ := a5 h0
  rw [e b1] at b2
  exact ⟨b1, b2, hz _ b2⟩
theorem g_cl {s s1 s2 : Nat → fr} {wi w1 : Int32} {l U D m : Nat} {T : Option n4} (hm : m = 1 ∨ m = 2 ∨ m = 4) (h : mR s wi U D m T s1 w1) (c : clM s1 D m s2) (hU : U ≤ 368) (hz : ∀ v, T = some v → lz l v) : gR s wi l 480 D T s2 w1 := by
  obtain ⟨a1, a2, a3, a4, a5, a6⟩ := h
  have e : pd m s1 D = pd 4 s2 D := by
    rcases hm with rfl | rfl | rfl
    · show (s1 D, z0, z0, z0) = (s2 D, s2 (D + 1), s2 (D + 2), s2 (D + 3))
      rw [c.2.1 D (by omega), c.2.2 1 (by omega) (by omega), c.2.2 2 (by omega) (by omega), c.2.2 3 (by omega) (by omega)]
    · show (s1 D, s1 (D + 1), z0, z0) = (s2 D, s2 (D + 1), s2 (D + 2), s2 (D + 3))
      rw [c.2.1 D (by omega), c.2.1 (D + 1) (by omega), c.2.2 2 (by omega) (by omega), c.2.2 3 (by omega) (by omega)]
    · show (s1 D, s1 (D + 1), s1 (D + 2), s1 (D + 3)) = (s2 D, s2 (D + 1), s2 (D + 2), s2 (D + 3))
      rw [c.2.1 D (by omega), c.2.1 (D + 1) (by omega), c.2.1 (D + 2) (by omega), c.2.1 (D + 3) (by omega)]
  refine ⟨c.1, a2, fun k h1 _ h2 => (c.2.1 k (by omega)).trans (a3 k (by omega) (by omega)), a4, fun h0 => ?_, a6⟩
  obtain ⟨b1, b2⟩ := a5 h0
  rw [e] at b2
  exact ⟨b1, b2, hz _ b2⟩
/-- the radicands of the level -/
def rdM (s : Nat → fr) (wi : Int32) (L : lvR) : Prop := (1 ≤ L.1 → isM s wi 1 288 (g4 L.2.1)) ∧ (2 ≤ L.1 → isM s wi 2 289 (g4 L.2.2))
theorem t_k {s s1 : Nat → fr} {wi w1 : Int32} {l a l1 W D : Nat} {v : n4} {T : Option n4} (H : tM s wi l a v) (h : gR s wi l1 W D T s1 w1) (hd : (a + 4 ≤ 300 ∨ 368 ≤ a) ∧ a + 4 ≤ W ∧ (a + 4 ≤ D ∨ D + 4 ≤ a)) : tM s1 w1 l a v := ⟨fun h0 j hj => by
  rw [h.2.2.1 (a + j) (by omega) (by omega) (by omega)]; exact H.1 (h.2.2.2.2.1 h0).1 j hj, fun h0 => H.2 (h.2.2.2.2.1 h0).1⟩
theorem r_k {s s1 : Nat → fr} {wi w1 : Int32} {L : lvR} {l1 W D : Nat} {T : Option n4} (H : rdM s wi L) (h : gR s wi l1 W D T s1 w1) (hd : 300 ≤ W ∧ (D + 4 ≤ 288 ∨ 300 ≤ D)) : rdM s1 w1 L :=
  ⟨fun q h0 j hj => by rw [h.2.2.1 (288 + j) (by omega) (by omega) (by omega)]; exact H.1 q (h.2.2.2.2.1 h0).1 j hj, fun q h0 j hj => by rw [h.2.2.1 (289 + j) (by omega) (by omega) (by omega)]; exact H.2 q (h.2.2.2.2.1 h0).1 j hj⟩
theorem f_k {s s1 : Nat → fr} {wi w1 : Int32} {x : Nat → fr} {l1 W D : Nat} {T : Option n4} (H : isM s wi 1 299 x) (h : gR s wi l1 W D T s1 w1) (hd : 300 ≤ W ∧ (D + 4 ≤ 288 ∨ 300 ≤ D)) : isM s1 w1 1 299 x := fun h0 j hj => by
  rw [h.2.2.1 (299 + j) (by omega) (by omega) (by omega)]; exact H (h.2.2.2.2.1 h0).1 j hj
theorem t_new {s s1 : Nat → fr} {wi w1 : Int32} {l W D : Nat} {T : Option n4} (h : gR s wi l W D T s1 w1) : tM s1 w1 l D (pd 4 s1 D) := ⟨pd_M (by decide), fun h0 => (h.2.2.2.2.1 h0).2.2⟩
theorem gs_s {s s1 s2 : Nat → fr} {wi w1 w2 : Int32} {Z : Nat → Prop} {l W D : Nat} {T : Option n4} (h : ms s wi Z s1 w1) (h2 : gR s1 w1 l W D T s2 w2) (hZ : ∀ k, (300 ≤ k ∧ k < 368) ∨ W ≤ k ∨ (D ≤ k ∧ k < D + 4) → Z k) : ms s wi Z s2 w2 := by
  obtain ⟨a1, a2, a3, a4, a5⟩ := h
  obtain ⟨b1, b2, b3, b4, b5, b6⟩ := h2
  exact ⟨b1, b2, fun k hk => (b3 k (fun q => hk (hZ k (Or.inl q))) (fun q => hk (hZ k (Or.inr (Or.inl q)))) (fun q => hk (hZ k (Or.inr (Or.inr q))))).trans (a3 k hk), fun q => b4 (a4 q), fun q => a5 (b5 q).1⟩
theorem g_F {s s1 s2 : Nat → fr} {wi w1 w2 : Int32} {Z : Nat → Prop} {l W D : Nat} {X : Type} {T : Option n4} {spec : Option X} {k : n4 → Option X} (h : ms s wi Z s1 w1) (F : w1 = 1 → wi = 0 → spec = none) (E : w1 = 0 → spec = T.bind k) (h2 : gR s1 w1 l W D T s2 w2) : w2 = 1 → wi = 0 → spec = none := fun h9 h0 => by
  rcases h.2.1 with hz | hz
  · rw [E hz, h2.2.2.2.2.2 h9 hz]; rfl
  · exact F hz h0
theorem g_E {s1 s2 : Nat → fr} {w1 w2 : Int32} {l W D : Nat} {X : Type} {T : Option n4} {spec : Option X} {k : n4 → Option X} (E : w1 = 0 → spec = T.bind k) (h2 : gR s1 w1 l W D T s2 w2) : w2 = 0 → spec = k (pd 4 s2 D) := fun h0 => by
  obtain ⟨q1, q2, -⟩ := h2.2.2.2.2.1 h0
  rw [E q1, q2]; rfl
theorem sg_U {s s1 : Nat → fr} {wi w1 v : Int32} {U : Nat} {T : Option Int} (h : sgM s wi U T s1 w1 v) (hU : U ≤ 368) : sgM s wi 368 T s1 w1 v := by
  obtain ⟨a1, a2, a3, a4, a5, a6, a7⟩ := h
  exact ⟨a1, a2, fun k hk => a3 k (by omega), a4, a5, a6, a7⟩
theorem rt_cl0 {s s1 : Nat → fr} {wi w1 : Int32} {U D m : Nat} {T : Option (Option n4)} (h : rtM s wi U D m T s1 w1 0) (hU : U ≤ 368) (hm : m ≤ 4) : rtM s wi 368 D 4 T s1 w1 0 := by
  obtain ⟨a1, a2, a3, a4, a5, a6, a7⟩ := h
  exact ⟨a1, a2, fun k h1 h2 => a3 k (by omega) (by omega), a4, a5, fun h0 => ⟨(a6 h0).1, (a6 h0).2.1, fun q => absurd q.symm z10⟩, a7⟩
theorem rt_cl1 {s s1 s2 : Nat → fr} {wi w1 : Int32} {U D m : Nat} {T : Option (Option n4)} (hm : m = 1 ∨ m = 2 ∨ m = 4) (h : rtM s wi U D m T s1 w1 1) (c : clM s1 D m s2) (hU : U ≤ 368) : rtM s wi 368 D 4 T s2 w1 1 := by
  obtain ⟨a1, a2, a3, a4, a5, a6, a7⟩ := h
  have e : pd m s1 D = pd 4 s2 D := by
    rcases hm with rfl | rfl | rfl
    · show (s1 D, z0, z0, z0) = (s2 D, s2 (D + 1), s2 (D + 2), s2 (D + 3))
      rw [c.2.1 D (by omega), c.2.2 1 (by omega) (by omega), c.2.2 2 (by omega) (by omega), c.2.2 3 (by omega) (by omega)]
    · show (s1 D, s1 (D + 1), z0, z0) = (s2 D, s2 (D + 1), s2 (D + 2), s2 (D + 3))
      rw [c.2.1 D (by omega), c.2.1 (D + 1) (by omega), c.2.2 2 (by omega) (by omega), c.2.2 3 (by omega) (by omega)]
    · show (s1 D, s1 (D + 1), s1 (D + 2), s1 (D + 3)) = (s2 D, s2 (D + 1), s2 (D + 2), s2 (D + 3))
      rw [c.2.1 D (by omega), c.2.1 (D + 1) (by omega), c.2.1 (D + 2) (by omega), c.2.1 (D + 3) (by omega)]
  exact ⟨c.1, a2, fun k h1 h2 => (c.2.1 k (by omega)).trans (a3 k (by omega) (by omega)), a4, a5, fun h0 => ⟨(a6 h0).1, fun q => absurd q z10, fun q => by rw [← e]; exact (a6 h0).2.2 q⟩, a7⟩
theorem rg_add {d : Nat} {pre : mm_pre} {s : Nat → fr} {op oq : Nat → Int64} {tr wi fa ob : Int32} {st of : Nat → Int32} {F : mm_M} {L : lvR} {D A B : Nat} {x y : n4} {Q : mm_R → mm_M → Prop} (hV : ∀ k, fv (s k)) (hz : mm_z wi) (hl : L.1 ≤ 2) (hg : (D + 4 ≤ 288 ∨ (368 ≤ D ∧ D + 4 ≤ 480)) ∧ (A + 4 ≤ 288 ∨ (368 ≤ A ∧ A + 4 ≤ 480)) ∧ (A = D ∨ A + 4 ≤ D ∨ D + 4 ≤ A) ∧ (B + 4 ≤ 288 ∨ (368 ≤ B ∧ B + 4 ≤ 480)) ∧ (B = D ∨ B + 4 ≤ D ∨ D + 4 ≤ B)) (X : tM s wi L.1 A x)  (Y : tM s wi L.1 B y) (hQ : ∀ (s1 : Nat → fr) (w1 : Int32), gR s wi L.1 480 D (xadd L.1 x y) s1 w1 → Q (.inl none) (wP pre (wN (PP s1) (QQ s1) op oq tr (nI L.1) w1 fa ob st of F))) : mm_call mm_Tb (d + 4) 59 [.ref 10, .int (nI D), .int (nI A), .int (nI B), .int 4] (wP pre (wN (PP s) (QQ s) op oq tr (nI L.1) wi fa ob st of F)) Q := rm_add_4 hV hz (by omega) X.1 Y.1 (fun s1 w1 h1 => hQ s1 w1 (g_of h1 (by omega) (fun h0 => add4 hl (X.2 h0) (Y.2 h0)) (fun v h => lz_nS (f := fun j => fadd (g4 x j) (g4 y j)) hl h)))
theorem rg_sub {d : Nat} {pre : mm_pre} {s : Nat → fr} {op oq : Nat → Int64} {tr wi fa ob : Int32} {st of : Nat → Int32} {F : mm_M} {L : lvR} {D A B : Nat} {x y : n4} {Q : mm_R → mm_M → Prop} (hV : ∀ k, fv (s k)) (hz : mm_z wi) (hl : L.1 ≤ 2) (hg : (D + 4 ≤ 288 ∨ (368 ≤ D ∧ D + 4 ≤ 480)) ∧ (A + 4 ≤ 288 ∨ (368 ≤ A ∧ A + 4 ≤ 480)) ∧ (A = D ∨ A + 4 ≤ D ∨ D + 4 ≤ A) ∧ (B + 4 ≤ 288 ∨ (368 ≤ B ∧ B + 4 ≤ 480)) ∧ (B = D ∨ B + 4 ≤ D ∨ D + 4 ≤ B)) (X : tM s wi L.1 A x)  (Y : tM s wi L.1 B y) (hQ : ∀ (s1 : Nat → fr) (w1 : Int32), gR s wi L.1 480 D (xsub L.1 x y) s1 w1 → Q (.inl none) (wP pre (wN (PP s1) (QQ s1) op oq tr (nI L.1) w1 fa ob st of F))) : mm_call mm_Tb (d + 4) 60 [.ref 10, .int (nI D), .int (nI A), .int (nI B), .int 4] (wP pre (wN (PP s) (QQ s) op oq tr (nI L.1) wi fa ob st of F)) Q := rm_sub_4 hV hz (by omega) X.1 Y.1 (fun s1 w1 h1 => hQ s1 w1 (g_of h1 (by omega) (fun h0 => sub4 hl (X.2 h0) (Y.2 h0)) (fun v h => lz_sub hl h)))
theorem rg_neg {d : Nat} {pre : mm_pre} {s : Nat → fr} {op oq : Nat → Int64} {tr wi fa ob : Int32} {st of : Nat → Int32} {F : mm_M} {L : lvR} {D A : Nat} {x : n4} {Q : mm_R → mm_M → Prop} (hV : ∀ k, fv (s k)) (hz : mm_z wi) (hl : L.1 ≤ 2) (hg : (D + 4 ≤ 288 ∨ (368 ≤ D ∧ D + 4 ≤ 480)) ∧ (A + 4 ≤ 288 ∨ (368 ≤ A ∧ A + 4 ≤ 480)) ∧ (A = D ∨ A + 4 ≤ D ∨ D + 4 ≤ A)) (X : tM s wi L.1 A x) (hQ : ∀ (s1 : Nat → fr) (w1 : Int32), gR s wi L.1 480 D (xneg L.1 x) s1 w1 → Q (.inl none) (wP pre (wN (PP s1) (QQ s1) op oq tr (nI L.1) w1 fa ob st of F))) : mm_call mm_Tb (d + 4) 61 [.ref 10, .int (nI D), .int (nI A), .int 4] (wP pre (wN (PP s) (QQ s) op oq tr (nI L.1) wi fa ob st of F)) Q := rm_neg_4 hV hz (by omega) X.1 (fun s1 w1 h1 => hQ s1 w1 (g_of h1 (by omega) (fun h0 => neg4 hl (X.2 h0)) (fun v h => lz_nS (f := fun j => some (fneg (g4 x j))) hl h)))
theorem rg_halve {d : Nat} {pre : mm_pre} {s : Nat → fr} {op oq : Nat → Int64} {tr wi fa ob : Int32} {st of : Nat → Int32} {F : mm_M} {L : lvR} {D A : Nat} {x : n4} {Q : mm_R → mm_M → Prop} (hV : ∀ k, fv (s k)) (hz : mm_z wi) (hl : L.1 ≤ 2) (hg : (D + 4 ≤ 288 ∨ (368 ≤ D ∧ D + 4 ≤ 480)) ∧ (A + 4 ≤ 288 ∨ (368 ≤ A ∧ A + 4 ≤ 480)) ∧ (A = D ∨ A + 4 ≤ D ∨ D + 4 ≤ A)) (Hf : isM s wi 1 299 (fun _ => (1, 2))) (X : tM s wi L.1 A x) (hQ : ∀ (s1 : Nat → fr) (w1 : Int32), gR s wi L.1 480 D (xhalf L.1 x) s1 w1 → Q (.inl none) (wP pre (wN (PP s1) (QQ s1) op oq tr (nI L.1) w1 fa ob st of F))) : mm_call mm_Tb (d + 4) 62 [.ref 10, .int (nI D), .int (nI A), .int 4] (wP pre (wN (PP s) (QQ s) op oq tr (nI L.1) wi fa ob st of F)) Q := rm_halve_4 hV hz (by omega) X.1 Hf (fun s1 w1 h1 => hQ s1 w1 (g_of h1 (by omega) (fun h0 => half4 hl (X.2 h0)) (fun v h => lz_nS (f := fun j => fhalf (g4 x j)) hl h)))
set_option maxRecDepth 100000 in
theorem rg_mul_0 {d : Nat} {pre : mm_pre} {s : Nat → fr} {op oq : Nat → Int64} {tr wi fa ob : Int32} {st of : Nat → Int32} {F : mm_M} {R1 R2 : n4} {D A B : Nat} {x y : n4} {Q : mm_R → mm_M → Prop} (hV : ∀ k, fv (s k)) (hz : mm_z wi) (hl : 0 ≤ 2) (hg : (D + 4 ≤ 288 ∨ (368 ≤ D ∧ D + 4 ≤ 480)) ∧ (A + 4 ≤ 288 ∨ (368 ≤ A ∧ A + 4 ≤ 480)) ∧ (B + 4 ≤ 288 ∨ (368 ≤ B ∧ B + 4 ≤ 480))) (R : rdM s wi (0, R1, R2)) (X : tM s wi 0 A x)  (Y : tM s wi 0 B y) (hQ : ∀ (s1 : Nat → fr) (w1 : Int32), gR s wi 0 480 D (xmul (0, R1, R2) x y) s1 w1 → Q (.inl none) (wP pre (wN (PP s1) (QQ s1) op oq tr 0 w1 fa ob st of F))) : mm_call mm_Tb (d + 7) 78 [.ref 10, .int (nI D), .int (nI A), .int (nI B)] (wP pre (wN (PP s) (QQ s) op oq tr 0 wi fa ob st of F)) Q := by
  refine mm_in mt_78 (Nat.le_of_ble_eq_true rfl) ?_
  show mm_W _ _ _ _ _ _ _ (0, [(0, .ref 10), (1, .int (nI D)), (2, .int (nI A)), (3, .int (nI B))], [], wP pre (wN (PP s) (QQ s) op oq tr 0 wi fa ob st of F), 0)
  refine mm_skip (mm_call_mono _ _) 2 (st' := (4, [(0, .ref 10), (1, .int (nI D)), (2, .int (nI A)), (3, .int (nI B))], [.int 0], wP pre (wN (PP s) (QQ s) op oq tr 0 wi fa ob st of F), 0)) rfl ?_
  refine mm_branch (mm_call_mono _ _) (c := (0 : Int32) = 0) (s1 := (7, [(0, .ref 10), (1, .int (nI D)), (2, .int (nI A)), (3, .int (nI B))], [], wP pre (wN (PP s) (QQ s) op oq tr 0 wi fa ob st of F), 0)) (s2 := (17, [(0, .ref 10), (1, .int (nI D)), (2, .int (nI A)), (3, .int (nI B))], [], wP pre (wN (PP s) (QQ s) op oq tr 0 wi fa ob st of F), 0)) rfl (fun _ => ?_) (fun h => absurd (by decide) h)
  refine mm_skip (mm_call_mono _ _) 4 (st' := (11, [(0, .ref 10), (1, .int (nI D)), (2, .int (nI A)), (3, .int (nI B))], [.int (nI B), .int (nI A), .int (nI D), .ref 10], wP pre (wN (PP s) (QQ s) op oq tr 0 wi fa ob st of F), 0)) rfl ?_
  refine mm_inv (mm_call_mono _ _) (j := 52) (a := [.ref 10, .int (nI D), .int (nI A), .int (nI B)]) (M := wP pre (wN (PP s) (QQ s) op oq tr 0 wi fa ob st of F)) (u := 0) rfl (by decide) (rm_mul0 (D := D) (A := A) (B := B) hV hz (by omega) (by omega) (by omega) (m_lo X.1 (by omega)) (m_lo Y.1 (by omega)) (fun s1 w1 h1 => ?_))
  show mm_W _ _ _ _ _ _ _ (14, [(0, .ref 10), (1, .int (nI D)), (2, .int (nI A)), (3, .int (nI B))], [], wP pre (wN (PP s1) (QQ s1) op oq tr 0 w1 fa ob st of F), 0)
  refine mm_skip (mm_call_mono _ _) 7 (st' := (50, [(0, .ref 10), (1, .int (nI D)), (2, .int (nI A)), (3, .int (nI B))], [.int 1, .int (nI D), .ref 10], wP pre (wN (PP s1) (QQ s1) op oq tr 0 w1 fa ob st of F), 0)) rfl ?_
  refine mm_inv (mm_call_mono _ _) (j := 65) (a := [.ref 10, .int (nI D), .int 1]) (M := wP pre (wN (PP s1) (QQ s1) op oq tr 0 w1 fa ob st of F)) (u := 0) rfl (by decide) (rm_clear_1 (D := D) h1.1 (by omega) (fun s2 c2 => ?_))
  show mm_W _ _ _ _ _ _ _ (53, [(0, .ref 10), (1, .int (nI D)), (2, .int (nI A)), (3, .int (nI B))], [], wP pre (wN (PP s2) (QQ s2) op oq tr 0 w1 fa ob st of F), 0)
  exact mm_ret (mm_call_mono _ _) (c := True) (r := .inl none) (M := wP pre (wN (PP s2) (QQ s2) op oq tr 0 w1 fa ob st of F)) (u := 0) rfl trivial (by decide) (hQ _ _ (g_cl (l := 0) (by decide) h1 c2 (by omega) (fun v h => lz_mul (L := (0, R1, R2)) (show 0 ≤ 2 by decide) h)))

set_option maxRecDepth 100000 in
theorem rg_mul_1 {d : Nat} {pre : mm_pre} {s : Nat → fr} {op oq : Nat → Int64} {tr wi fa ob : Int32} {st of : Nat → Int32} {F : mm_M} {R1 R2 : n4} {D A B : Nat} {x y : n4} {Q : mm_R → mm_M → Prop} (hV : ∀ k, fv (s k)) (hz : mm_z wi) (hl : 1 ≤ 2) (hg : (D + 4 ≤ 288 ∨ (368 ≤ D ∧ D + 4 ≤ 480)) ∧ (A + 4 ≤ 288 ∨ (368 ≤ A ∧ A + 4 ≤ 480)) ∧ (B + 4 ≤ 288 ∨ (368 ≤ B ∧ B + 4 ≤ 480))) (R : rdM s wi (1, R1, R2)) (X : tM s wi 1 A x)  (Y : tM s wi 1 B y) (hQ : ∀ (s1 : Nat → fr) (w1 : Int32), gR s wi 1 480 D (xmul (1, R1, R2) x y) s1 w1 → Q (.inl none) (wP pre (wN (PP s1) (QQ s1) op oq tr 1 w1 fa ob st of F))) : mm_call mm_Tb (d + 7) 78 [.ref 10, .int (nI D), .int (nI A), .int (nI B)] (wP pre (wN (PP s) (QQ s) op oq tr 1 wi fa ob st of F)) Q := by
  refine mm_in mt_78 (Nat.le_of_ble_eq_true rfl) ?_
  show mm_W _ _ _ _ _ _ _ (0, [(0, .ref 10), (1, .int (nI D)), (2, .int (nI A)), (3, .int (nI B))], [], wP pre (wN (PP s) (QQ s) op oq tr 1 wi fa ob st of F), 0)
  refine mm_skip (mm_call_mono _ _) 2 (st' := (4, [(0, .ref 10), (1, .int (nI D)), (2, .int (nI A)), (3, .int (nI B))], [.int 1], wP pre (wN (PP s) (QQ s) op oq tr 1 wi fa ob st of F), 0)) rfl ?_
  refine mm_branch (mm_call_mono _ _) (c := (1 : Int32) = 0) (s1 := (7, [(0, .ref 10), (1, .int (nI D)), (2, .int (nI A)), (3, .int (nI B))], [], wP pre (wN (PP s) (QQ s) op oq tr 1 wi fa ob st of F), 0)) (s2 := (17, [(0, .ref 10), (1, .int (nI D)), (2, .int (nI A)), (3, .int (nI B))], [], wP pre (wN (PP s) (QQ s) op oq tr 1 wi fa ob st of F), 0)) rfl (fun h => absurd h (by decide)) (fun _ => ?_)
  refine mm_skip (mm_call_mono _ _) 3 (st' := (22, [(0, .ref 10), (1, .int (nI D)), (2, .int (nI A)), (3, .int (nI B))], [.int 1, .int 1], wP pre (wN (PP s) (QQ s) op oq tr 1 wi fa ob st of F), 0)) rfl ?_
  refine mm_branch (mm_call_mono _ _) (c := (1 : Int32) = 1) (s1 := (25, [(0, .ref 10), (1, .int (nI D)), (2, .int (nI A)), (3, .int (nI B))], [], wP pre (wN (PP s) (QQ s) op oq tr 1 wi fa ob st of F), 0)) (s2 := (35, [(0, .ref 10), (1, .int (nI D)), (2, .int (nI A)), (3, .int (nI B))], [], wP pre (wN (PP s) (QQ s) op oq tr 1 wi fa ob st of F), 0)) rfl (fun _ => ?_) (fun h => absurd (by decide) h)
  refine mm_skip (mm_call_mono _ _) 4 (st' := (29, [(0, .ref 10), (1, .int (nI D)), (2, .int (nI A)), (3, .int (nI B))], [.int (nI B), .int (nI A), .int (nI D), .ref 10], wP pre (wN (PP s) (QQ s) op oq tr 1 wi fa ob st of F), 0)) rfl ?_
  refine mm_inv (mm_call_mono _ _) (j := 66) (a := [.ref 10, .int (nI D), .int (nI A), .int (nI B)]) (M := wP pre (wN (PP s) (QQ s) op oq tr 1 wi fa ob st of F)) (u := 0) rfl (by decide) (rm_mul1 (D := D) (A := A) (B := B) hV hz (by omega) (R.1 (Nat.le_refl 1)) (m_lo X.1 (by omega)) (m_lo Y.1 (by omega)) (fun s1 w1 h1 => ?_))
  show mm_W _ _ _ _ _ _ _ (32, [(0, .ref 10), (1, .int (nI D)), (2, .int (nI A)), (3, .int (nI B))], [], wP pre (wN (PP s1) (QQ s1) op oq tr 1 w1 fa ob st of F), 0)
  refine mm_skip (mm_call_mono _ _) 7 (st' := (50, [(0, .ref 10), (1, .int (nI D)), (2, .int (nI A)), (3, .int (nI B))], [.int 2, .int (nI D), .ref 10], wP pre (wN (PP s1) (QQ s1) op oq tr 1 w1 fa ob st of F), 0)) rfl ?_
  refine mm_inv (mm_call_mono _ _) (j := 65) (a := [.ref 10, .int (nI D), .int 2]) (M := wP pre (wN (PP s1) (QQ s1) op oq tr 1 w1 fa ob st of F)) (u := 0) rfl (by decide) (rm_clear_2 (D := D) h1.1 (by omega) (fun s2 c2 => ?_))
  show mm_W _ _ _ _ _ _ _ (53, [(0, .ref 10), (1, .int (nI D)), (2, .int (nI A)), (3, .int (nI B))], [], wP pre (wN (PP s2) (QQ s2) op oq tr 1 w1 fa ob st of F), 0)
  exact mm_ret (mm_call_mono _ _) (c := True) (r := .inl none) (M := wP pre (wN (PP s2) (QQ s2) op oq tr 1 w1 fa ob st of F)) (u := 0) rfl trivial (by decide) (hQ _ _ (g_cl (l := 1) (by decide) h1 c2 (by omega) (fun v h => lz_mul (L := (1, R1, R2)) (show 1 ≤ 2 by decide) h)))

set_option maxRecDepth 100000 in
theorem rg_mul_2 {d : Nat} {pre : mm_pre} {s : Nat → fr} {op oq : Nat → Int64} {tr wi fa ob : Int32} {st of : Nat → Int32} {F : mm_M} {R1 R2 : n4} {D A B : Nat} {x y : n4} {Q : mm_R → mm_M → Prop} (hV : ∀ k, fv (s k)) (hz : mm_z wi) (hl : 2 ≤ 2) (hg : (D + 4 ≤ 288 ∨ (368 ≤ D ∧ D + 4 ≤ 480)) ∧ (A + 4 ≤ 288 ∨ (368 ≤ A ∧ A + 4 ≤ 480)) ∧ (B + 4 ≤ 288 ∨ (368 ≤ B ∧ B + 4 ≤ 480))) (R : rdM s wi (2, R1, R2)) (X : tM s wi 2 A x)  (Y : tM s wi 2 B y) (hQ : ∀ (s1 : Nat → fr) (w1 : Int32), gR s wi 2 480 D (xmul (2, R1, R2) x y) s1 w1 → Q (.inl none) (wP pre (wN (PP s1) (QQ s1) op oq tr 2 w1 fa ob st of F))) : mm_call mm_Tb (d + 7) 78 [.ref 10, .int (nI D), .int (nI A), .int (nI B)] (wP pre (wN (PP s) (QQ s) op oq tr 2 wi fa ob st of F)) Q := by
  refine mm_in mt_78 (Nat.le_of_ble_eq_true rfl) ?_
  show mm_W _ _ _ _ _ _ _ (0, [(0, .ref 10), (1, .int (nI D)), (2, .int (nI A)), (3, .int (nI B))], [], wP pre (wN (PP s) (QQ s) op oq tr 2 wi fa ob st of F), 0)
  refine mm_skip (mm_call_mono _ _) 2 (st' := (4, [(0, .ref 10), (1, .int (nI D)), (2, .int (nI A)), (3, .int (nI B))], [.int 2], wP pre (wN (PP s) (QQ s) op oq tr 2 wi fa ob st of F), 0)) rfl ?_
  refine mm_branch (mm_call_mono _ _) (c := (2 : Int32) = 0) (s1 := (7, [(0, .ref 10), (1, .int (nI D)), (2, .int (nI A)), (3, .int (nI B))], [], wP pre (wN (PP s) (QQ s) op oq tr 2 wi fa ob st of F), 0)) (s2 := (17, [(0, .ref 10), (1, .int (nI D)), (2, .int (nI A)), (3, .int (nI B))], [], wP pre (wN (PP s) (QQ s) op oq tr 2 wi fa ob st of F), 0)) rfl (fun h => absurd h (by decide)) (fun _ => ?_)
  refine mm_skip (mm_call_mono _ _) 3 (st' := (22, [(0, .ref 10), (1, .int (nI D)), (2, .int (nI A)), (3, .int (nI B))], [.int 1, .int 2], wP pre (wN (PP s) (QQ s) op oq tr 2 wi fa ob st of F), 0)) rfl ?_
  refine mm_branch (mm_call_mono _ _) (c := (2 : Int32) = 1) (s1 := (25, [(0, .ref 10), (1, .int (nI D)), (2, .int (nI A)), (3, .int (nI B))], [], wP pre (wN (PP s) (QQ s) op oq tr 2 wi fa ob st of F), 0)) (s2 := (35, [(0, .ref 10), (1, .int (nI D)), (2, .int (nI A)), (3, .int (nI B))], [], wP pre (wN (PP s) (QQ s) op oq tr 2 wi fa ob st of F), 0)) rfl (fun h => absurd h (by decide)) (fun _ => ?_)
  refine mm_skip (mm_call_mono _ _) 4 (st' := (39, [(0, .ref 10), (1, .int (nI D)), (2, .int (nI A)), (3, .int (nI B))], [.int (nI B), .int (nI A), .int (nI D), .ref 10], wP pre (wN (PP s) (QQ s) op oq tr 2 wi fa ob st of F), 0)) rfl ?_
  refine mm_inv (mm_call_mono _ _) (j := 72) (a := [.ref 10, .int (nI D), .int (nI A), .int (nI B)]) (M := wP pre (wN (PP s) (QQ s) op oq tr 2 wi fa ob st of F)) (u := 0) rfl (by decide) (rm_mul2 (D := D) (A := A) (B := B) hV hz (by omega) (R.1 (show 1 ≤ 2 by decide)) (R.2 (Nat.le_refl 2)) X.1 Y.1 (fun s1 w1 h1 => ?_))
  show mm_W _ _ _ _ _ _ _ (42, [(0, .ref 10), (1, .int (nI D)), (2, .int (nI A)), (3, .int (nI B))], [], wP pre (wN (PP s1) (QQ s1) op oq tr 2 w1 fa ob st of F), 0)
  refine mm_skip (mm_call_mono _ _) 6 (st' := (50, [(0, .ref 10), (1, .int (nI D)), (2, .int (nI A)), (3, .int (nI B))], [.int 4, .int (nI D), .ref 10], wP pre (wN (PP s1) (QQ s1) op oq tr 2 w1 fa ob st of F), 0)) rfl ?_
  refine mm_inv (mm_call_mono _ _) (j := 65) (a := [.ref 10, .int (nI D), .int 4]) (M := wP pre (wN (PP s1) (QQ s1) op oq tr 2 w1 fa ob st of F)) (u := 0) rfl (by decide) (rm_clear_4 (D := D) h1.1 (by omega) (fun s2 c2 => ?_))
  show mm_W _ _ _ _ _ _ _ (53, [(0, .ref 10), (1, .int (nI D)), (2, .int (nI A)), (3, .int (nI B))], [], wP pre (wN (PP s2) (QQ s2) op oq tr 2 w1 fa ob st of F), 0)
  exact mm_ret (mm_call_mono _ _) (c := True) (r := .inl none) (M := wP pre (wN (PP s2) (QQ s2) op oq tr 2 w1 fa ob st of F)) (u := 0) rfl trivial (by decide) (hQ _ _ (g_cl (l := 2) (by decide) h1 c2 (by omega) (fun v h => lz_mul (L := (2, R1, R2)) (show 2 ≤ 2 by decide) h)))

theorem rg_mul {d : Nat} {pre : mm_pre} {s : Nat → fr} {op oq : Nat → Int64} {tr wi fa ob : Int32} {st of : Nat → Int32} {F : mm_M} {L : lvR} {D A B : Nat} {x y : n4} {Q : mm_R → mm_M → Prop} (hV : ∀ k, fv (s k)) (hz : mm_z wi) (hl : L.1 ≤ 2) (hg : (D + 4 ≤ 288 ∨ (368 ≤ D ∧ D + 4 ≤ 480)) ∧ (A + 4 ≤ 288 ∨ (368 ≤ A ∧ A + 4 ≤ 480)) ∧ (B + 4 ≤ 288 ∨ (368 ≤ B ∧ B + 4 ≤ 480))) (R : rdM s wi L) (X : tM s wi L.1 A x)  (Y : tM s wi L.1 B y) (hQ : ∀ (s1 : Nat → fr) (w1 : Int32), gR s wi L.1 480 D (xmul L x y) s1 w1 → Q (.inl none) (wP pre (wN (PP s1) (QQ s1) op oq tr (nI L.1) w1 fa ob st of F))) : mm_call mm_Tb (d + 7) 78 [.ref 10, .int (nI D), .int (nI A), .int (nI B)] (wP pre (wN (PP s) (QQ s) op oq tr (nI L.1) wi fa ob st of F)) Q := by
  obtain ⟨l, R1, R2⟩ := L
  have hl2 : l ≤ 2 := hl
  rcases (show l = 0 ∨ l = 1 ∨ l = 2 by omega) with rfl | rfl | rfl
  · exact rg_mul_0 hV hz hl2 hg R X Y hQ
  · exact rg_mul_1 hV hz hl2 hg R X Y hQ
  · exact rg_mul_2 hV hz hl2 hg R X Y hQ
set_option maxRecDepth 100000 in
theorem rg_inv_0 {d : Nat} {pre : mm_pre} {s : Nat → fr} {op oq : Nat → Int64} {tr wi fa ob : Int32} {st of : Nat → Int32} {F : mm_M} {R1 R2 : n4} {D A : Nat} {x : n4} {Q : mm_R → mm_M → Prop} (hV : ∀ k, fv (s k)) (hz : mm_z wi) (hl : 0 ≤ 2) (hg : (D + 4 ≤ 288 ∨ (368 ≤ D ∧ D + 4 ≤ 480)) ∧ (A + 4 ≤ 288 ∨ (368 ≤ A ∧ A + 4 ≤ 480))) (R : rdM s wi (0, R1, R2)) (X : tM s wi 0 A x) (hQ : ∀ (s1 : Nat → fr) (w1 : Int32), gR s wi 0 480 D (xinv (0, R1, R2) x) s1 w1 → Q (.inl none) (wP pre (wN (PP s1) (QQ s1) op oq tr 0 w1 fa ob st of F))) : mm_call mm_Tb (d + 8) 79 [.ref 10, .int (nI D), .int (nI A)] (wP pre (wN (PP s) (QQ s) op oq tr 0 wi fa ob st of F)) Q := by
  refine mm_in mt_79 (Nat.le_of_ble_eq_true rfl) ?_
  show mm_W _ _ _ _ _ _ _ (0, [(0, .ref 10), (1, .int (nI D)), (2, .int (nI A))], [], wP pre (wN (PP s) (QQ s) op oq tr 0 wi fa ob st of F), 0)
  refine mm_skip (mm_call_mono _ _) 2 (st' := (4, [(0, .ref 10), (1, .int (nI D)), (2, .int (nI A))], [.int 0], wP pre (wN (PP s) (QQ s) op oq tr 0 wi fa ob st of F), 0)) rfl ?_
  refine mm_branch (mm_call_mono _ _) (c := (0 : Int32) = 0) (s1 := (7, [(0, .ref 10), (1, .int (nI D)), (2, .int (nI A))], [], wP pre (wN (PP s) (QQ s) op oq tr 0 wi fa ob st of F), 0)) (s2 := (16, [(0, .ref 10), (1, .int (nI D)), (2, .int (nI A))], [], wP pre (wN (PP s) (QQ s) op oq tr 0 wi fa ob st of F), 0)) rfl (fun _ => ?_) (fun h => absurd (by decide) h)
  refine mm_skip (mm_call_mono _ _) 3 (st' := (10, [(0, .ref 10), (1, .int (nI D)), (2, .int (nI A))], [.int (nI A), .int (nI D), .ref 10], wP pre (wN (PP s) (QQ s) op oq tr 0 wi fa ob st of F), 0)) rfl ?_
  refine mm_inv (mm_call_mono _ _) (j := 54) (a := [.ref 10, .int (nI D), .int (nI A)]) (M := wP pre (wN (PP s) (QQ s) op oq tr 0 wi fa ob st of F)) (u := 0) rfl (by decide) (rm_inv0 (D := D) (A := A)  hV hz (by omega) (by omega) (m_lo X.1 (by omega)) (fun s1 w1 h1 => ?_))
  show mm_W _ _ _ _ _ _ _ (13, [(0, .ref 10), (1, .int (nI D)), (2, .int (nI A))], [], wP pre (wN (PP s1) (QQ s1) op oq tr 0 w1 fa ob st of F), 0)
  refine mm_skip (mm_call_mono _ _) 7 (st' := (47, [(0, .ref 10), (1, .int (nI D)), (2, .int (nI A))], [.int 1, .int (nI D), .ref 10], wP pre (wN (PP s1) (QQ s1) op oq tr 0 w1 fa ob st of F), 0)) rfl ?_
  refine mm_inv (mm_call_mono _ _) (j := 65) (a := [.ref 10, .int (nI D), .int 1]) (M := wP pre (wN (PP s1) (QQ s1) op oq tr 0 w1 fa ob st of F)) (u := 0) rfl (by decide) (rm_clear_1 (D := D) h1.1 (by omega) (fun s2 c2 => ?_))
  show mm_W _ _ _ _ _ _ _ (50, [(0, .ref 10), (1, .int (nI D)), (2, .int (nI A))], [], wP pre (wN (PP s2) (QQ s2) op oq tr 0 w1 fa ob st of F), 0)
  exact mm_ret (mm_call_mono _ _) (c := True) (r := .inl none) (M := wP pre (wN (PP s2) (QQ s2) op oq tr 0 w1 fa ob st of F)) (u := 0) rfl trivial (by decide) (hQ _ _ (g_cl (l := 0) (by decide) h1 c2 (by omega) (fun v h => lz_inv (L := (0, R1, R2)) (show 0 ≤ 2 by decide) h)))

set_option maxRecDepth 100000 in
theorem rg_inv_1 {d : Nat} {pre : mm_pre} {s : Nat → fr} {op oq : Nat → Int64} {tr wi fa ob : Int32} {st of : Nat → Int32} {F : mm_M} {R1 R2 : n4} {D A : Nat} {x : n4} {Q : mm_R → mm_M → Prop} (hV : ∀ k, fv (s k)) (hz : mm_z wi) (hl : 1 ≤ 2) (hg : (D + 4 ≤ 288 ∨ (368 ≤ D ∧ D + 4 ≤ 480)) ∧ (A + 4 ≤ 288 ∨ (368 ≤ A ∧ A + 4 ≤ 480))) (R : rdM s wi (1, R1, R2)) (X : tM s wi 1 A x) (hQ : ∀ (s1 : Nat → fr) (w1 : Int32), gR s wi 1 480 D (xinv (1, R1, R2) x) s1 w1 → Q (.inl none) (wP pre (wN (PP s1) (QQ s1) op oq tr 1 w1 fa ob st of F))) : mm_call mm_Tb (d + 8) 79 [.ref 10, .int (nI D), .int (nI A)] (wP pre (wN (PP s) (QQ s) op oq tr 1 wi fa ob st of F)) Q := by
  refine mm_in mt_79 (Nat.le_of_ble_eq_true rfl) ?_
  show mm_W _ _ _ _ _ _ _ (0, [(0, .ref 10), (1, .int (nI D)), (2, .int (nI A))], [], wP pre (wN (PP s) (QQ s) op oq tr 1 wi fa ob st of F), 0)
  refine mm_skip (mm_call_mono _ _) 2 (st' := (4, [(0, .ref 10), (1, .int (nI D)), (2, .int (nI A))], [.int 1], wP pre (wN (PP s) (QQ s) op oq tr 1 wi fa ob st of F), 0)) rfl ?_
  refine mm_branch (mm_call_mono _ _) (c := (1 : Int32) = 0) (s1 := (7, [(0, .ref 10), (1, .int (nI D)), (2, .int (nI A))], [], wP pre (wN (PP s) (QQ s) op oq tr 1 wi fa ob st of F), 0)) (s2 := (16, [(0, .ref 10), (1, .int (nI D)), (2, .int (nI A))], [], wP pre (wN (PP s) (QQ s) op oq tr 1 wi fa ob st of F), 0)) rfl (fun h => absurd h (by decide)) (fun _ => ?_)
  refine mm_skip (mm_call_mono _ _) 3 (st' := (21, [(0, .ref 10), (1, .int (nI D)), (2, .int (nI A))], [.int 1, .int 1], wP pre (wN (PP s) (QQ s) op oq tr 1 wi fa ob st of F), 0)) rfl ?_
  refine mm_branch (mm_call_mono _ _) (c := (1 : Int32) = 1) (s1 := (24, [(0, .ref 10), (1, .int (nI D)), (2, .int (nI A))], [], wP pre (wN (PP s) (QQ s) op oq tr 1 wi fa ob st of F), 0)) (s2 := (33, [(0, .ref 10), (1, .int (nI D)), (2, .int (nI A))], [], wP pre (wN (PP s) (QQ s) op oq tr 1 wi fa ob st of F), 0)) rfl (fun _ => ?_) (fun h => absurd (by decide) h)
  refine mm_skip (mm_call_mono _ _) 3 (st' := (27, [(0, .ref 10), (1, .int (nI D)), (2, .int (nI A))], [.int (nI A), .int (nI D), .ref 10], wP pre (wN (PP s) (QQ s) op oq tr 1 wi fa ob st of F), 0)) rfl ?_
  refine mm_inv (mm_call_mono _ _) (j := 68) (a := [.ref 10, .int (nI D), .int (nI A)]) (M := wP pre (wN (PP s) (QQ s) op oq tr 1 wi fa ob st of F)) (u := 0) rfl (by decide) (rm_inv1 (D := D) (A := A)  hV hz (by omega) (R.1 (Nat.le_refl 1)) (m_lo X.1 (by omega)) (fun s1 w1 h1 => ?_))
  show mm_W _ _ _ _ _ _ _ (30, [(0, .ref 10), (1, .int (nI D)), (2, .int (nI A))], [], wP pre (wN (PP s1) (QQ s1) op oq tr 1 w1 fa ob st of F), 0)
  refine mm_skip (mm_call_mono _ _) 7 (st' := (47, [(0, .ref 10), (1, .int (nI D)), (2, .int (nI A))], [.int 2, .int (nI D), .ref 10], wP pre (wN (PP s1) (QQ s1) op oq tr 1 w1 fa ob st of F), 0)) rfl ?_
  refine mm_inv (mm_call_mono _ _) (j := 65) (a := [.ref 10, .int (nI D), .int 2]) (M := wP pre (wN (PP s1) (QQ s1) op oq tr 1 w1 fa ob st of F)) (u := 0) rfl (by decide) (rm_clear_2 (D := D) h1.1 (by omega) (fun s2 c2 => ?_))
  show mm_W _ _ _ _ _ _ _ (50, [(0, .ref 10), (1, .int (nI D)), (2, .int (nI A))], [], wP pre (wN (PP s2) (QQ s2) op oq tr 1 w1 fa ob st of F), 0)
  exact mm_ret (mm_call_mono _ _) (c := True) (r := .inl none) (M := wP pre (wN (PP s2) (QQ s2) op oq tr 1 w1 fa ob st of F)) (u := 0) rfl trivial (by decide) (hQ _ _ (g_cl (l := 1) (by decide) h1 c2 (by omega) (fun v h => lz_inv (L := (1, R1, R2)) (show 1 ≤ 2 by decide) h)))

set_option maxRecDepth 100000 in
theorem rg_inv_2 {d : Nat} {pre : mm_pre} {s : Nat → fr} {op oq : Nat → Int64} {tr wi fa ob : Int32} {st of : Nat → Int32} {F : mm_M} {R1 R2 : n4} {D A : Nat} {x : n4} {Q : mm_R → mm_M → Prop} (hV : ∀ k, fv (s k)) (hz : mm_z wi) (hl : 2 ≤ 2) (hg : (D + 4 ≤ 288 ∨ (368 ≤ D ∧ D + 4 ≤ 480)) ∧ (A + 4 ≤ 288 ∨ (368 ≤ A ∧ A + 4 ≤ 480))) (R : rdM s wi (2, R1, R2)) (X : tM s wi 2 A x) (hQ : ∀ (s1 : Nat → fr) (w1 : Int32), gR s wi 2 480 D (xinv (2, R1, R2) x) s1 w1 → Q (.inl none) (wP pre (wN (PP s1) (QQ s1) op oq tr 2 w1 fa ob st of F))) : mm_call mm_Tb (d + 8) 79 [.ref 10, .int (nI D), .int (nI A)] (wP pre (wN (PP s) (QQ s) op oq tr 2 wi fa ob st of F)) Q := by
  refine mm_in mt_79 (Nat.le_of_ble_eq_true rfl) ?_
  show mm_W _ _ _ _ _ _ _ (0, [(0, .ref 10), (1, .int (nI D)), (2, .int (nI A))], [], wP pre (wN (PP s) (QQ s) op oq tr 2 wi fa ob st of F), 0)
  refine mm_skip (mm_call_mono _ _) 2 (st' := (4, [(0, .ref 10), (1, .int (nI D)), (2, .int (nI A))], [.int 2], wP pre (wN (PP s) (QQ s) op oq tr 2 wi fa ob st of F), 0)) rfl ?_
  refine mm_branch (mm_call_mono _ _) (c := (2 : Int32) = 0) (s1 := (7, [(0, .ref 10), (1, .int (nI D)), (2, .int (nI A))], [], wP pre (wN (PP s) (QQ s) op oq tr 2 wi fa ob st of F), 0)) (s2 := (16, [(0, .ref 10), (1, .int (nI D)), (2, .int (nI A))], [], wP pre (wN (PP s) (QQ s) op oq tr 2 wi fa ob st of F), 0)) rfl (fun h => absurd h (by decide)) (fun _ => ?_)
  refine mm_skip (mm_call_mono _ _) 3 (st' := (21, [(0, .ref 10), (1, .int (nI D)), (2, .int (nI A))], [.int 1, .int 2], wP pre (wN (PP s) (QQ s) op oq tr 2 wi fa ob st of F), 0)) rfl ?_
  refine mm_branch (mm_call_mono _ _) (c := (2 : Int32) = 1) (s1 := (24, [(0, .ref 10), (1, .int (nI D)), (2, .int (nI A))], [], wP pre (wN (PP s) (QQ s) op oq tr 2 wi fa ob st of F), 0)) (s2 := (33, [(0, .ref 10), (1, .int (nI D)), (2, .int (nI A))], [], wP pre (wN (PP s) (QQ s) op oq tr 2 wi fa ob st of F), 0)) rfl (fun h => absurd h (by decide)) (fun _ => ?_)
  refine mm_skip (mm_call_mono _ _) 3 (st' := (36, [(0, .ref 10), (1, .int (nI D)), (2, .int (nI A))], [.int (nI A), .int (nI D), .ref 10], wP pre (wN (PP s) (QQ s) op oq tr 2 wi fa ob st of F), 0)) rfl ?_
  refine mm_inv (mm_call_mono _ _) (j := 74) (a := [.ref 10, .int (nI D), .int (nI A)]) (M := wP pre (wN (PP s) (QQ s) op oq tr 2 wi fa ob st of F)) (u := 0) rfl (by decide) (rm_inv2 (D := D) (A := A)  hV hz (by omega) (R.1 (show 1 ≤ 2 by decide)) (R.2 (Nat.le_refl 2)) X.1 (fun s1 w1 h1 => ?_))
  show mm_W _ _ _ _ _ _ _ (39, [(0, .ref 10), (1, .int (nI D)), (2, .int (nI A))], [], wP pre (wN (PP s1) (QQ s1) op oq tr 2 w1 fa ob st of F), 0)
  refine mm_skip (mm_call_mono _ _) 6 (st' := (47, [(0, .ref 10), (1, .int (nI D)), (2, .int (nI A))], [.int 4, .int (nI D), .ref 10], wP pre (wN (PP s1) (QQ s1) op oq tr 2 w1 fa ob st of F), 0)) rfl ?_
  refine mm_inv (mm_call_mono _ _) (j := 65) (a := [.ref 10, .int (nI D), .int 4]) (M := wP pre (wN (PP s1) (QQ s1) op oq tr 2 w1 fa ob st of F)) (u := 0) rfl (by decide) (rm_clear_4 (D := D) h1.1 (by omega) (fun s2 c2 => ?_))
  show mm_W _ _ _ _ _ _ _ (50, [(0, .ref 10), (1, .int (nI D)), (2, .int (nI A))], [], wP pre (wN (PP s2) (QQ s2) op oq tr 2 w1 fa ob st of F), 0)
  exact mm_ret (mm_call_mono _ _) (c := True) (r := .inl none) (M := wP pre (wN (PP s2) (QQ s2) op oq tr 2 w1 fa ob st of F)) (u := 0) rfl trivial (by decide) (hQ _ _ (g_cl (l := 2) (by decide) h1 c2 (by omega) (fun v h => lz_inv (L := (2, R1, R2)) (show 2 ≤ 2 by decide) h)))

theorem rg_inv {d : Nat} {pre : mm_pre} {s : Nat → fr} {op oq : Nat → Int64} {tr wi fa ob : Int32} {st of : Nat → Int32} {F : mm_M} {L : lvR} {D A : Nat} {x : n4} {Q : mm_R → mm_M → Prop} (hV : ∀ k, fv (s k)) (hz : mm_z wi) (hl : L.1 ≤ 2) (hg : (D + 4 ≤ 288 ∨ (368 ≤ D ∧ D + 4 ≤ 480)) ∧ (A + 4 ≤ 288 ∨ (368 ≤ A ∧ A + 4 ≤ 480))) (R : rdM s wi L) (X : tM s wi L.1 A x) (hQ : ∀ (s1 : Nat → fr) (w1 : Int32), gR s wi L.1 480 D (xinv L x) s1 w1 → Q (.inl none) (wP pre (wN (PP s1) (QQ s1) op oq tr (nI L.1) w1 fa ob st of F))) : mm_call mm_Tb (d + 8) 79 [.ref 10, .int (nI D), .int (nI A)] (wP pre (wN (PP s) (QQ s) op oq tr (nI L.1) wi fa ob st of F)) Q := by
  obtain ⟨l, R1, R2⟩ := L
  have hl2 : l ≤ 2 := hl
  rcases (show l = 0 ∨ l = 1 ∨ l = 2 by omega) with rfl | rfl | rfl
  · exact rg_inv_0 hV hz hl2 hg R X hQ
  · exact rg_inv_1 hV hz hl2 hg R X hQ
  · exact rg_inv_2 hV hz hl2 hg R X hQ
set_option maxRecDepth 100000 in
theorem rg_sign_0 {d : Nat} {pre : mm_pre} {s : Nat → fr} {op oq : Nat → Int64} {tr wi fa ob : Int32} {st of : Nat → Int32} {F : mm_M} {R1 R2 : n4} {A : Nat} {x : n4} {Q : mm_R → mm_M → Prop} (hV : ∀ k, fv (s k)) (hz : mm_z wi) (hl : 0 ≤ 2) (hg : (A + 4 ≤ 288 ∨ (368 ≤ A ∧ A + 4 ≤ 480))) (R : rdM s wi (0, R1, R2)) (X : tM s wi 0 A x) (hQ : ∀ (s1 : Nat → fr) (w1 v : Int32), sgM s wi 368 (xsg (0, R1, R2) x) s1 w1 v → Q (.inl (some (.int v))) (wP pre (wN (PP s1) (QQ s1) op oq tr 0 w1 fa ob st of F))) : mm_call mm_Tb (d + 7) 80 [.ref 10, .int (nI A)] (wP pre (wN (PP s) (QQ s) op oq tr 0 wi fa ob st of F)) Q := by
  refine mm_in mt_80 (Nat.le_of_ble_eq_true rfl) ?_
  show mm_W _ _ _ _ _ _ _ (0, [(0, .ref 10), (1, .int (nI A))], [], wP pre (wN (PP s) (QQ s) op oq tr 0 wi fa ob st of F), 0)
  refine mm_skip (mm_call_mono _ _) 2 (st' := (4, [(0, .ref 10), (1, .int (nI A))], [.int 0], wP pre (wN (PP s) (QQ s) op oq tr 0 wi fa ob st of F), 0)) rfl ?_
  refine mm_branch (mm_call_mono _ _) (c := (0 : Int32) = 0) (s1 := (7, [(0, .ref 10), (1, .int (nI A))], [], wP pre (wN (PP s) (QQ s) op oq tr 0 wi fa ob st of F), 0)) (s2 := (15, [(0, .ref 10), (1, .int (nI A))], [], wP pre (wN (PP s) (QQ s) op oq tr 0 wi fa ob st of F), 0)) rfl (fun _ => ?_) (fun h => absurd (by decide) h)
  refine mm_skip (mm_call_mono _ _) 2 (st' := (9, [(0, .ref 10), (1, .int (nI A))], [.int (nI A), .ref 10], wP pre (wN (PP s) (QQ s) op oq tr 0 wi fa ob st of F), 0)) rfl ?_
  refine mm_inv (mm_call_mono _ _) (j := 55) (a := [.ref 10, .int (nI A)]) (M := wP pre (wN (PP s) (QQ s) op oq tr 0 wi fa ob st of F)) (u := 0) rfl (by decide) (rm_sign0 (A := A) hV hz (by omega) (m_lo X.1 (by omega))  (fun s1 w1 v h1 => ?_))
  show mm_W _ _ _ _ _ _ _ (12, [(0, .ref 10), (1, .int (nI A))], [.int v], wP pre (wN (PP s1) (QQ s1) op oq tr 0 w1 fa ob st of F), 0)
  refine mm_skip (mm_call_mono _ _) 1 (st' := (36, [(0, .ref 10), (1, .int (nI A))], [.int v], wP pre (wN (PP s1) (QQ s1) op oq tr 0 w1 fa ob st of F), 0)) rfl ?_
  exact mm_ret (mm_call_mono _ _) (c := True) (r := .inl (some (.int v))) (M := wP pre (wN (PP s1) (QQ s1) op oq tr 0 w1 fa ob st of F)) (u := 0) rfl trivial (by decide) (hQ _ _ _ (sg_U h1 (by omega)))

set_option maxRecDepth 100000 in
theorem rg_sign_1 {d : Nat} {pre : mm_pre} {s : Nat → fr} {op oq : Nat → Int64} {tr wi fa ob : Int32} {st of : Nat → Int32} {F : mm_M} {R1 R2 : n4} {A : Nat} {x : n4} {Q : mm_R → mm_M → Prop} (hV : ∀ k, fv (s k)) (hz : mm_z wi) (hl : 1 ≤ 2) (hg : (A + 4 ≤ 288 ∨ (368 ≤ A ∧ A + 4 ≤ 480))) (R : rdM s wi (1, R1, R2)) (X : tM s wi 1 A x) (hQ : ∀ (s1 : Nat → fr) (w1 v : Int32), sgM s wi 368 (xsg (1, R1, R2) x) s1 w1 v → Q (.inl (some (.int v))) (wP pre (wN (PP s1) (QQ s1) op oq tr 1 w1 fa ob st of F))) : mm_call mm_Tb (d + 7) 80 [.ref 10, .int (nI A)] (wP pre (wN (PP s) (QQ s) op oq tr 1 wi fa ob st of F)) Q := by
  refine mm_in mt_80 (Nat.le_of_ble_eq_true rfl) ?_
  show mm_W _ _ _ _ _ _ _ (0, [(0, .ref 10), (1, .int (nI A))], [], wP pre (wN (PP s) (QQ s) op oq tr 1 wi fa ob st of F), 0)
  refine mm_skip (mm_call_mono _ _) 2 (st' := (4, [(0, .ref 10), (1, .int (nI A))], [.int 1], wP pre (wN (PP s) (QQ s) op oq tr 1 wi fa ob st of F), 0)) rfl ?_
  refine mm_branch (mm_call_mono _ _) (c := (1 : Int32) = 0) (s1 := (7, [(0, .ref 10), (1, .int (nI A))], [], wP pre (wN (PP s) (QQ s) op oq tr 1 wi fa ob st of F), 0)) (s2 := (15, [(0, .ref 10), (1, .int (nI A))], [], wP pre (wN (PP s) (QQ s) op oq tr 1 wi fa ob st of F), 0)) rfl (fun h => absurd h (by decide)) (fun _ => ?_)
  refine mm_skip (mm_call_mono _ _) 3 (st' := (20, [(0, .ref 10), (1, .int (nI A))], [.int 1, .int 1], wP pre (wN (PP s) (QQ s) op oq tr 1 wi fa ob st of F), 0)) rfl ?_
  refine mm_branch (mm_call_mono _ _) (c := (1 : Int32) = 1) (s1 := (23, [(0, .ref 10), (1, .int (nI A))], [], wP pre (wN (PP s) (QQ s) op oq tr 1 wi fa ob st of F), 0)) (s2 := (31, [(0, .ref 10), (1, .int (nI A))], [], wP pre (wN (PP s) (QQ s) op oq tr 1 wi fa ob st of F), 0)) rfl (fun _ => ?_) (fun h => absurd (by decide) h)
  refine mm_skip (mm_call_mono _ _) 2 (st' := (25, [(0, .ref 10), (1, .int (nI A))], [.int (nI A), .ref 10], wP pre (wN (PP s) (QQ s) op oq tr 1 wi fa ob st of F), 0)) rfl ?_
  refine mm_inv (mm_call_mono _ _) (j := 69) (a := [.ref 10, .int (nI A)]) (M := wP pre (wN (PP s) (QQ s) op oq tr 1 wi fa ob st of F)) (u := 0) rfl (by decide) (rm_sign1 (A := A) hV hz (by omega) (R.1 (Nat.le_refl 1)) (m_lo X.1 (by omega))  (fun s1 w1 v h1 => ?_))
  show mm_W _ _ _ _ _ _ _ (28, [(0, .ref 10), (1, .int (nI A))], [.int v], wP pre (wN (PP s1) (QQ s1) op oq tr 1 w1 fa ob st of F), 0)
  refine mm_skip (mm_call_mono _ _) 1 (st' := (36, [(0, .ref 10), (1, .int (nI A))], [.int v], wP pre (wN (PP s1) (QQ s1) op oq tr 1 w1 fa ob st of F), 0)) rfl ?_
  exact mm_ret (mm_call_mono _ _) (c := True) (r := .inl (some (.int v))) (M := wP pre (wN (PP s1) (QQ s1) op oq tr 1 w1 fa ob st of F)) (u := 0) rfl trivial (by decide) (hQ _ _ _ (sg_U h1 (by omega)))

set_option maxRecDepth 100000 in
theorem rg_sign_2 {d : Nat} {pre : mm_pre} {s : Nat → fr} {op oq : Nat → Int64} {tr wi fa ob : Int32} {st of : Nat → Int32} {F : mm_M} {R1 R2 : n4} {A : Nat} {x : n4} {Q : mm_R → mm_M → Prop} (hV : ∀ k, fv (s k)) (hz : mm_z wi) (hl : 2 ≤ 2) (hg : (A + 4 ≤ 288 ∨ (368 ≤ A ∧ A + 4 ≤ 480))) (R : rdM s wi (2, R1, R2)) (X : tM s wi 2 A x) (hQ : ∀ (s1 : Nat → fr) (w1 v : Int32), sgM s wi 368 (xsg (2, R1, R2) x) s1 w1 v → Q (.inl (some (.int v))) (wP pre (wN (PP s1) (QQ s1) op oq tr 2 w1 fa ob st of F))) : mm_call mm_Tb (d + 7) 80 [.ref 10, .int (nI A)] (wP pre (wN (PP s) (QQ s) op oq tr 2 wi fa ob st of F)) Q := by
  refine mm_in mt_80 (Nat.le_of_ble_eq_true rfl) ?_
  show mm_W _ _ _ _ _ _ _ (0, [(0, .ref 10), (1, .int (nI A))], [], wP pre (wN (PP s) (QQ s) op oq tr 2 wi fa ob st of F), 0)
  refine mm_skip (mm_call_mono _ _) 2 (st' := (4, [(0, .ref 10), (1, .int (nI A))], [.int 2], wP pre (wN (PP s) (QQ s) op oq tr 2 wi fa ob st of F), 0)) rfl ?_
  refine mm_branch (mm_call_mono _ _) (c := (2 : Int32) = 0) (s1 := (7, [(0, .ref 10), (1, .int (nI A))], [], wP pre (wN (PP s) (QQ s) op oq tr 2 wi fa ob st of F), 0)) (s2 := (15, [(0, .ref 10), (1, .int (nI A))], [], wP pre (wN (PP s) (QQ s) op oq tr 2 wi fa ob st of F), 0)) rfl (fun h => absurd h (by decide)) (fun _ => ?_)
  refine mm_skip (mm_call_mono _ _) 3 (st' := (20, [(0, .ref 10), (1, .int (nI A))], [.int 1, .int 2], wP pre (wN (PP s) (QQ s) op oq tr 2 wi fa ob st of F), 0)) rfl ?_
  refine mm_branch (mm_call_mono _ _) (c := (2 : Int32) = 1) (s1 := (23, [(0, .ref 10), (1, .int (nI A))], [], wP pre (wN (PP s) (QQ s) op oq tr 2 wi fa ob st of F), 0)) (s2 := (31, [(0, .ref 10), (1, .int (nI A))], [], wP pre (wN (PP s) (QQ s) op oq tr 2 wi fa ob st of F), 0)) rfl (fun h => absurd h (by decide)) (fun _ => ?_)
  refine mm_skip (mm_call_mono _ _) 2 (st' := (33, [(0, .ref 10), (1, .int (nI A))], [.int (nI A), .ref 10], wP pre (wN (PP s) (QQ s) op oq tr 2 wi fa ob st of F), 0)) rfl ?_
  refine mm_inv (mm_call_mono _ _) (j := 75) (a := [.ref 10, .int (nI A)]) (M := wP pre (wN (PP s) (QQ s) op oq tr 2 wi fa ob st of F)) (u := 0) rfl (by decide) (rm_sign2 (A := A) hV hz (by omega) (R.1 (show 1 ≤ 2 by decide)) (R.2 (Nat.le_refl 2)) X.1  (fun s1 w1 v h1 => ?_))
  show mm_W _ _ _ _ _ _ _ (36, [(0, .ref 10), (1, .int (nI A))], [.int v], wP pre (wN (PP s1) (QQ s1) op oq tr 2 w1 fa ob st of F), 0)
  exact mm_ret (mm_call_mono _ _) (c := True) (r := .inl (some (.int v))) (M := wP pre (wN (PP s1) (QQ s1) op oq tr 2 w1 fa ob st of F)) (u := 0) rfl trivial (by decide) (hQ _ _ _ (sg_U h1 (by omega)))

theorem rg_sign {d : Nat} {pre : mm_pre} {s : Nat → fr} {op oq : Nat → Int64} {tr wi fa ob : Int32} {st of : Nat → Int32} {F : mm_M} {L : lvR} {A : Nat} {x : n4} {Q : mm_R → mm_M → Prop} (hV : ∀ k, fv (s k)) (hz : mm_z wi) (hl : L.1 ≤ 2) (hg : (A + 4 ≤ 288 ∨ (368 ≤ A ∧ A + 4 ≤ 480))) (R : rdM s wi L) (X : tM s wi L.1 A x) (hQ : ∀ (s1 : Nat → fr) (w1 v : Int32), sgM s wi 368 (xsg L x) s1 w1 v → Q (.inl (some (.int v))) (wP pre (wN (PP s1) (QQ s1) op oq tr (nI L.1) w1 fa ob st of F))) : mm_call mm_Tb (d + 7) 80 [.ref 10, .int (nI A)] (wP pre (wN (PP s) (QQ s) op oq tr (nI L.1) wi fa ob st of F)) Q := by
  obtain ⟨l, R1, R2⟩ := L
  have hl2 : l ≤ 2 := hl
  rcases (show l = 0 ∨ l = 1 ∨ l = 2 by omega) with rfl | rfl | rfl
  · exact rg_sign_0 hV hz hl2 hg R X hQ
  · exact rg_sign_1 hV hz hl2 hg R X hQ
  · exact rg_sign_2 hV hz hl2 hg R X hQ
set_option maxRecDepth 100000 in
theorem rg_root_0 {d : Nat} {pre : mm_pre} {s : Nat → fr} {op oq : Nat → Int64} {tr wi fa ob : Int32} {st of : Nat → Int32} {F : mm_M} {R1 R2 : n4} {D A : Nat} {x : n4} {Q : mm_R → mm_M → Prop} (hV : ∀ k, fv (s k)) (hz : mm_z wi) (hl : 0 ≤ 2) (hg : (D + 4 ≤ 288 ∨ (368 ≤ D ∧ D + 4 ≤ 480)) ∧ (A + 4 ≤ 288 ∨ (368 ≤ A ∧ A + 4 ≤ 480)) ∧ (D + 4 ≤ A ∨ A + 4 ≤ D)) (R : rdM s wi (0, R1, R2)) (Hf : isM s wi 1 299 (fun _ => (1, 2))) (X : tM s wi 0 A x) (hQ : ∀ (s1 : Nat → fr) (w1 b : Int32), rtM s wi 368 D 4 (xrt (0, R1, R2) x) s1 w1 b → (b = 1 → lz 0 (pd 4 s1 D)) → Q (.inl (some (.int b))) (wP pre (wN (PP s1) (QQ s1) op oq tr 0 w1 fa ob st of F))) : mm_call mm_Tb (d + 10) 81 [.ref 10, .int (nI D), .int (nI A)] (wP pre (wN (PP s) (QQ s) op oq tr 0 wi fa ob st of F)) Q := by
  refine mm_in mt_81 (Nat.le_of_ble_eq_true rfl) ?_
  show mm_W _ _ _ _ _ _ _ (0, [(0, .ref 10), (1, .int (nI D)), (2, .int (nI A))], [], wP pre (wN (PP s) (QQ s) op oq tr 0 wi fa ob st of F), 0)
  refine mm_skip (mm_call_mono _ _) 2 (st' := (4, [(0, .ref 10), (1, .int (nI D)), (2, .int (nI A))], [.int 0], wP pre (wN (PP s) (QQ s) op oq tr 0 wi fa ob st of F), 0)) rfl ?_
  refine mm_branch (mm_call_mono _ _) (c := (0 : Int32) = 0) (s1 := (7, [(0, .ref 10), (1, .int (nI D)), (2, .int (nI A))], [], wP pre (wN (PP s) (QQ s) op oq tr 0 wi fa ob st of F), 0)) (s2 := (16, [(0, .ref 10), (1, .int (nI D)), (2, .int (nI A))], [], wP pre (wN (PP s) (QQ s) op oq tr 0 wi fa ob st of F), 0)) rfl (fun _ => ?_) (fun h => absurd (by decide) h)
  refine mm_skip (mm_call_mono _ _) 3 (st' := (10, [(0, .ref 10), (1, .int (nI D)), (2, .int (nI A))], [.int (nI A), .int (nI D), .ref 10], wP pre (wN (PP s) (QQ s) op oq tr 0 wi fa ob st of F), 0)) rfl ?_
  refine mm_inv (mm_call_mono _ _) (j := 57) (a := [.ref 10, .int (nI D), .int (nI A)]) (M := wP pre (wN (PP s) (QQ s) op oq tr 0 wi fa ob st of F)) (u := 0) rfl (by decide) (rm_root0 (D := D) (A := A) hV hz (by omega) (by omega) (m_lo X.1 (by omega))  (fun s1 w1 b h1 => ?_))
  show mm_W _ _ _ _ _ _ _ (13, [(0, .ref 10), (1, .int (nI D)), (2, .int (nI A))], [.int b], wP pre (wN (PP s1) (QQ s1) op oq tr 0 w1 fa ob st of F), 0)
  have hbz := h1.2.2.2.2.1
  refine mm_skip (mm_call_mono _ _) 3 (st' := (41, [(3, .int b), (0, .ref 10), (1, .int (nI D)), (2, .int (nI A))], [.int b], wP pre (wN (PP s1) (QQ s1) op oq tr 0 w1 fa ob st of F), 0)) rfl ?_
  refine mm_branch (mm_call_mono _ _) (c := b = 0) (s1 := (55, [(3, .int b), (0, .ref 10), (1, .int (nI D)), (2, .int (nI A))], [], wP pre (wN (PP s1) (QQ s1) op oq tr 0 w1 fa ob st of F), 0)) (s2 := (44, [(3, .int b), (0, .ref 10), (1, .int (nI D)), (2, .int (nI A))], [], wP pre (wN (PP s1) (QQ s1) op oq tr 0 w1 fa ob st of F), 0)) rfl (fun g1 => ?_) (fun g1 => ?_)
  · skip
    refine mm_skip (mm_call_mono _ _) 1 (st' := (56, [(3, .int b), (0, .ref 10), (1, .int (nI D)), (2, .int (nI A))], [.int b], wP pre (wN (PP s1) (QQ s1) op oq tr 0 w1 fa ob st of F), 0)) rfl ?_
    exact mm_ret (mm_call_mono _ _) (c := mm_z b) (r := .inl (some (.int b))) (M := wP pre (wN (PP s1) (QQ s1) op oq tr 0 w1 fa ob st of F)) (u := 0) rfl hbz (by decide) (by rw [g1]; rw [g1] at h1; exact hQ _ _ _ (rt_cl0 h1 (by omega) (by omega)) (fun q => absurd q.symm z10))
  · skip
    refine mm_skip (mm_call_mono _ _) 6 (st' := (52, [(3, .int b), (0, .ref 10), (1, .int (nI D)), (2, .int (nI A))], [.int 1, .int (nI D), .ref 10], wP pre (wN (PP s1) (QQ s1) op oq tr 0 w1 fa ob st of F), 0)) rfl ?_
    refine mm_inv (mm_call_mono _ _) (j := 65) (a := [.ref 10, .int (nI D), .int 1]) (M := wP pre (wN (PP s1) (QQ s1) op oq tr 0 w1 fa ob st of F)) (u := 0) rfl (by decide) (rm_clear_1 (D := D) h1.1 (by omega) (fun s2 c2 => ?_))
    show mm_W _ _ _ _ _ _ _ (55, [(3, .int b), (0, .ref 10), (1, .int (nI D)), (2, .int (nI A))], [], wP pre (wN (PP s2) (QQ s2) op oq tr 0 w1 fa ob st of F), 0)
    have g2 := mm_z1 hbz g1
    refine mm_skip (mm_call_mono _ _) 1 (st' := (56, [(3, .int b), (0, .ref 10), (1, .int (nI D)), (2, .int (nI A))], [.int b], wP pre (wN (PP s2) (QQ s2) op oq tr 0 w1 fa ob st of F), 0)) rfl ?_
    exact mm_ret (mm_call_mono _ _) (c := mm_z b) (r := .inl (some (.int b))) (M := wP pre (wN (PP s2) (QQ s2) op oq tr 0 w1 fa ob st of F)) (u := 0) rfl hbz (by decide) (by rw [g2]; rw [g2] at h1; exact hQ _ _ _ (rt_cl1 (by decide) h1 c2 (by omega)) (fun _ => lz_cl (l := 0) c2))

set_option maxRecDepth 100000 in
theorem rg_root_1 {d : Nat} {pre : mm_pre} {s : Nat → fr} {op oq : Nat → Int64} {tr wi fa ob : Int32} {st of : Nat → Int32} {F : mm_M} {R1 R2 : n4} {D A : Nat} {x : n4} {Q : mm_R → mm_M → Prop} (hV : ∀ k, fv (s k)) (hz : mm_z wi) (hl : 1 ≤ 2) (hg : (D + 4 ≤ 288 ∨ (368 ≤ D ∧ D + 4 ≤ 480)) ∧ (A + 4 ≤ 288 ∨ (368 ≤ A ∧ A + 4 ≤ 480)) ∧ (D + 4 ≤ A ∨ A + 4 ≤ D)) (R : rdM s wi (1, R1, R2)) (Hf : isM s wi 1 299 (fun _ => (1, 2))) (X : tM s wi 1 A x) (hQ : ∀ (s1 : Nat → fr) (w1 b : Int32), rtM s wi 368 D 4 (xrt (1, R1, R2) x) s1 w1 b → (b = 1 → lz 1 (pd 4 s1 D)) → Q (.inl (some (.int b))) (wP pre (wN (PP s1) (QQ s1) op oq tr 1 w1 fa ob st of F))) : mm_call mm_Tb (d + 10) 81 [.ref 10, .int (nI D), .int (nI A)] (wP pre (wN (PP s) (QQ s) op oq tr 1 wi fa ob st of F)) Q := by
  refine mm_in mt_81 (Nat.le_of_ble_eq_true rfl) ?_
  show mm_W _ _ _ _ _ _ _ (0, [(0, .ref 10), (1, .int (nI D)), (2, .int (nI A))], [], wP pre (wN (PP s) (QQ s) op oq tr 1 wi fa ob st of F), 0)
  refine mm_skip (mm_call_mono _ _) 2 (st' := (4, [(0, .ref 10), (1, .int (nI D)), (2, .int (nI A))], [.int 1], wP pre (wN (PP s) (QQ s) op oq tr 1 wi fa ob st of F), 0)) rfl ?_
  refine mm_branch (mm_call_mono _ _) (c := (1 : Int32) = 0) (s1 := (7, [(0, .ref 10), (1, .int (nI D)), (2, .int (nI A))], [], wP pre (wN (PP s) (QQ s) op oq tr 1 wi fa ob st of F), 0)) (s2 := (16, [(0, .ref 10), (1, .int (nI D)), (2, .int (nI A))], [], wP pre (wN (PP s) (QQ s) op oq tr 1 wi fa ob st of F), 0)) rfl (fun h => absurd h (by decide)) (fun _ => ?_)
  refine mm_skip (mm_call_mono _ _) 3 (st' := (21, [(0, .ref 10), (1, .int (nI D)), (2, .int (nI A))], [.int 1, .int 1], wP pre (wN (PP s) (QQ s) op oq tr 1 wi fa ob st of F), 0)) rfl ?_
  refine mm_branch (mm_call_mono _ _) (c := (1 : Int32) = 1) (s1 := (24, [(0, .ref 10), (1, .int (nI D)), (2, .int (nI A))], [], wP pre (wN (PP s) (QQ s) op oq tr 1 wi fa ob st of F), 0)) (s2 := (33, [(0, .ref 10), (1, .int (nI D)), (2, .int (nI A))], [], wP pre (wN (PP s) (QQ s) op oq tr 1 wi fa ob st of F), 0)) rfl (fun _ => ?_) (fun h => absurd (by decide) h)
  refine mm_skip (mm_call_mono _ _) 3 (st' := (27, [(0, .ref 10), (1, .int (nI D)), (2, .int (nI A))], [.int (nI A), .int (nI D), .ref 10], wP pre (wN (PP s) (QQ s) op oq tr 1 wi fa ob st of F), 0)) rfl ?_
  refine mm_inv (mm_call_mono _ _) (j := 71) (a := [.ref 10, .int (nI D), .int (nI A)]) (M := wP pre (wN (PP s) (QQ s) op oq tr 1 wi fa ob st of F)) (u := 0) rfl (by decide) (rm_root1 (D := D) (A := A) hV hz (by omega) (R.1 (Nat.le_refl 1)) Hf (m_lo X.1 (by omega))  (fun s1 w1 b h1 => ?_))
  show mm_W _ _ _ _ _ _ _ (30, [(0, .ref 10), (1, .int (nI D)), (2, .int (nI A))], [.int b], wP pre (wN (PP s1) (QQ s1) op oq tr 1 w1 fa ob st of F), 0)
  have hbz := h1.2.2.2.2.1
  refine mm_skip (mm_call_mono _ _) 3 (st' := (41, [(3, .int b), (0, .ref 10), (1, .int (nI D)), (2, .int (nI A))], [.int b], wP pre (wN (PP s1) (QQ s1) op oq tr 1 w1 fa ob st of F), 0)) rfl ?_
  refine mm_branch (mm_call_mono _ _) (c := b = 0) (s1 := (55, [(3, .int b), (0, .ref 10), (1, .int (nI D)), (2, .int (nI A))], [], wP pre (wN (PP s1) (QQ s1) op oq tr 1 w1 fa ob st of F), 0)) (s2 := (44, [(3, .int b), (0, .ref 10), (1, .int (nI D)), (2, .int (nI A))], [], wP pre (wN (PP s1) (QQ s1) op oq tr 1 w1 fa ob st of F), 0)) rfl (fun g1 => ?_) (fun g1 => ?_)
  · skip
    refine mm_skip (mm_call_mono _ _) 1 (st' := (56, [(3, .int b), (0, .ref 10), (1, .int (nI D)), (2, .int (nI A))], [.int b], wP pre (wN (PP s1) (QQ s1) op oq tr 1 w1 fa ob st of F), 0)) rfl ?_
    exact mm_ret (mm_call_mono _ _) (c := mm_z b) (r := .inl (some (.int b))) (M := wP pre (wN (PP s1) (QQ s1) op oq tr 1 w1 fa ob st of F)) (u := 0) rfl hbz (by decide) (by rw [g1]; rw [g1] at h1; exact hQ _ _ _ (rt_cl0 h1 (by omega) (by omega)) (fun q => absurd q.symm z10))
  · skip
    refine mm_skip (mm_call_mono _ _) 6 (st' := (52, [(3, .int b), (0, .ref 10), (1, .int (nI D)), (2, .int (nI A))], [.int 2, .int (nI D), .ref 10], wP pre (wN (PP s1) (QQ s1) op oq tr 1 w1 fa ob st of F), 0)) rfl ?_
    refine mm_inv (mm_call_mono _ _) (j := 65) (a := [.ref 10, .int (nI D), .int 2]) (M := wP pre (wN (PP s1) (QQ s1) op oq tr 1 w1 fa ob st of F)) (u := 0) rfl (by decide) (rm_clear_2 (D := D) h1.1 (by omega) (fun s2 c2 => ?_))
    show mm_W _ _ _ _ _ _ _ (55, [(3, .int b), (0, .ref 10), (1, .int (nI D)), (2, .int (nI A))], [], wP pre (wN (PP s2) (QQ s2) op oq tr 1 w1 fa ob st of F), 0)
    have g2 := mm_z1 hbz g1
    refine mm_skip (mm_call_mono _ _) 1 (st' := (56, [(3, .int b), (0, .ref 10), (1, .int (nI D)), (2, .int (nI A))], [.int b], wP pre (wN (PP s2) (QQ s2) op oq tr 1 w1 fa ob st of F), 0)) rfl ?_
    exact mm_ret (mm_call_mono _ _) (c := mm_z b) (r := .inl (some (.int b))) (M := wP pre (wN (PP s2) (QQ s2) op oq tr 1 w1 fa ob st of F)) (u := 0) rfl hbz (by decide) (by rw [g2]; rw [g2] at h1; exact hQ _ _ _ (rt_cl1 (by decide) h1 c2 (by omega)) (fun _ => lz_cl (l := 1) c2))

set_option maxRecDepth 100000 in
theorem rg_root_2 {d : Nat} {pre : mm_pre} {s : Nat → fr} {op oq : Nat → Int64} {tr wi fa ob : Int32} {st of : Nat → Int32} {F : mm_M} {R1 R2 : n4} {D A : Nat} {x : n4} {Q : mm_R → mm_M → Prop} (hV : ∀ k, fv (s k)) (hz : mm_z wi) (hl : 2 ≤ 2) (hg : (D + 4 ≤ 288 ∨ (368 ≤ D ∧ D + 4 ≤ 480)) ∧ (A + 4 ≤ 288 ∨ (368 ≤ A ∧ A + 4 ≤ 480)) ∧ (D + 4 ≤ A ∨ A + 4 ≤ D)) (R : rdM s wi (2, R1, R2)) (Hf : isM s wi 1 299 (fun _ => (1, 2))) (X : tM s wi 2 A x) (hQ : ∀ (s1 : Nat → fr) (w1 b : Int32), rtM s wi 368 D 4 (xrt (2, R1, R2) x) s1 w1 b → (b = 1 → lz 2 (pd 4 s1 D)) → Q (.inl (some (.int b))) (wP pre (wN (PP s1) (QQ s1) op oq tr 2 w1 fa ob st of F))) : mm_call mm_Tb (d + 10) 81 [.ref 10, .int (nI D), .int (nI A)] (wP pre (wN (PP s) (QQ s) op oq tr 2 wi fa ob st of F)) Q := by
  refine mm_in mt_81 (Nat.le_of_ble_eq_true rfl) ?_
  show mm_W _ _ _ _ _ _ _ (0, [(0, .ref 10), (1, .int (nI D)), (2, .int (nI A))], [], wP pre (wN (PP s) (QQ s) op oq tr 2 wi fa ob st of F), 0)
  refine mm_skip (mm_call_mono _ _) 2 (st' := (4, [(0, .ref 10), (1, .int (nI D)), (2, .int (nI A))], [.int 2], wP pre (wN (PP s) (QQ s) op oq tr 2 wi fa ob st of F), 0)) rfl ?_
  refine mm_branch (mm_call_mono _ _) (c := (2 : Int32) = 0) (s1 := (7, [(0, .ref 10), (1, .int (nI D)), (2, .int (nI A))], [], wP pre (wN (PP s) (QQ s) op oq tr 2 wi fa ob st of F), 0)) (s2 := (16, [(0, .ref 10), (1, .int (nI D)), (2, .int (nI A))], [], wP pre (wN (PP s) (QQ s) op oq tr 2 wi fa ob st of F), 0)) rfl (fun h => absurd h (by decide)) (fun _ => ?_)
  refine mm_skip (mm_call_mono _ _) 3 (st' := (21, [(0, .ref 10), (1, .int (nI D)), (2, .int (nI A))], [.int 1, .int 2], wP pre (wN (PP s) (QQ s) op oq tr 2 wi fa ob st of F), 0)) rfl ?_
  refine mm_branch (mm_call_mono _ _) (c := (2 : Int32) = 1) (s1 := (24, [(0, .ref 10), (1, .int (nI D)), (2, .int (nI A))], [], wP pre (wN (PP s) (QQ s) op oq tr 2 wi fa ob st of F), 0)) (s2 := (33, [(0, .ref 10), (1, .int (nI D)), (2, .int (nI A))], [], wP pre (wN (PP s) (QQ s) op oq tr 2 wi fa ob st of F), 0)) rfl (fun h => absurd h (by decide)) (fun _ => ?_)
  refine mm_skip (mm_call_mono _ _) 3 (st' := (36, [(0, .ref 10), (1, .int (nI D)), (2, .int (nI A))], [.int (nI A), .int (nI D), .ref 10], wP pre (wN (PP s) (QQ s) op oq tr 2 wi fa ob st of F), 0)) rfl ?_
  refine mm_inv (mm_call_mono _ _) (j := 77) (a := [.ref 10, .int (nI D), .int (nI A)]) (M := wP pre (wN (PP s) (QQ s) op oq tr 2 wi fa ob st of F)) (u := 0) rfl (by decide) (rm_root2 (D := D) (A := A) hV hz (by omega) (R.1 (show 1 ≤ 2 by decide)) (R.2 (Nat.le_refl 2)) Hf X.1  (fun s1 w1 b h1 => ?_))
  show mm_W _ _ _ _ _ _ _ (39, [(0, .ref 10), (1, .int (nI D)), (2, .int (nI A))], [.int b], wP pre (wN (PP s1) (QQ s1) op oq tr 2 w1 fa ob st of F), 0)
  have hbz := h1.2.2.2.2.1
  refine mm_skip (mm_call_mono _ _) 2 (st' := (41, [(3, .int b), (0, .ref 10), (1, .int (nI D)), (2, .int (nI A))], [.int b], wP pre (wN (PP s1) (QQ s1) op oq tr 2 w1 fa ob st of F), 0)) rfl ?_
  refine mm_branch (mm_call_mono _ _) (c := b = 0) (s1 := (55, [(3, .int b), (0, .ref 10), (1, .int (nI D)), (2, .int (nI A))], [], wP pre (wN (PP s1) (QQ s1) op oq tr 2 w1 fa ob st of F), 0)) (s2 := (44, [(3, .int b), (0, .ref 10), (1, .int (nI D)), (2, .int (nI A))], [], wP pre (wN (PP s1) (QQ s1) op oq tr 2 w1 fa ob st of F), 0)) rfl (fun g1 => ?_) (fun g1 => ?_)
  · skip
    refine mm_skip (mm_call_mono _ _) 1 (st' := (56, [(3, .int b), (0, .ref 10), (1, .int (nI D)), (2, .int (nI A))], [.int b], wP pre (wN (PP s1) (QQ s1) op oq tr 2 w1 fa ob st of F), 0)) rfl ?_
    exact mm_ret (mm_call_mono _ _) (c := mm_z b) (r := .inl (some (.int b))) (M := wP pre (wN (PP s1) (QQ s1) op oq tr 2 w1 fa ob st of F)) (u := 0) rfl hbz (by decide) (by rw [g1]; rw [g1] at h1; exact hQ _ _ _ (rt_cl0 h1 (by omega) (by omega)) (fun q => absurd q.symm z10))
  · skip
    refine mm_skip (mm_call_mono _ _) 6 (st' := (52, [(3, .int b), (0, .ref 10), (1, .int (nI D)), (2, .int (nI A))], [.int 4, .int (nI D), .ref 10], wP pre (wN (PP s1) (QQ s1) op oq tr 2 w1 fa ob st of F), 0)) rfl ?_
    refine mm_inv (mm_call_mono _ _) (j := 65) (a := [.ref 10, .int (nI D), .int 4]) (M := wP pre (wN (PP s1) (QQ s1) op oq tr 2 w1 fa ob st of F)) (u := 0) rfl (by decide) (rm_clear_4 (D := D) h1.1 (by omega) (fun s2 c2 => ?_))
    show mm_W _ _ _ _ _ _ _ (55, [(3, .int b), (0, .ref 10), (1, .int (nI D)), (2, .int (nI A))], [], wP pre (wN (PP s2) (QQ s2) op oq tr 2 w1 fa ob st of F), 0)
    have g2 := mm_z1 hbz g1
    refine mm_skip (mm_call_mono _ _) 1 (st' := (56, [(3, .int b), (0, .ref 10), (1, .int (nI D)), (2, .int (nI A))], [.int b], wP pre (wN (PP s2) (QQ s2) op oq tr 2 w1 fa ob st of F), 0)) rfl ?_
    exact mm_ret (mm_call_mono _ _) (c := mm_z b) (r := .inl (some (.int b))) (M := wP pre (wN (PP s2) (QQ s2) op oq tr 2 w1 fa ob st of F)) (u := 0) rfl hbz (by decide) (by rw [g2]; rw [g2] at h1; exact hQ _ _ _ (rt_cl1 (by decide) h1 c2 (by omega)) (fun _ => lz_cl (l := 2) c2))

theorem rg_root {d : Nat} {pre : mm_pre} {s : Nat → fr} {op oq : Nat → Int64} {tr wi fa ob : Int32} {st of : Nat → Int32} {F : mm_M} {L : lvR} {D A : Nat} {x : n4} {Q : mm_R → mm_M → Prop} (hV : ∀ k, fv (s k)) (hz : mm_z wi) (hl : L.1 ≤ 2) (hg : (D + 4 ≤ 288 ∨ (368 ≤ D ∧ D + 4 ≤ 480)) ∧ (A + 4 ≤ 288 ∨ (368 ≤ A ∧ A + 4 ≤ 480)) ∧ (D + 4 ≤ A ∨ A + 4 ≤ D)) (R : rdM s wi L) (Hf : isM s wi 1 299 (fun _ => (1, 2))) (X : tM s wi L.1 A x) (hQ : ∀ (s1 : Nat → fr) (w1 b : Int32), rtM s wi 368 D 4 (xrt L x) s1 w1 b → (b = 1 → lz L.1 (pd 4 s1 D)) → Q (.inl (some (.int b))) (wP pre (wN (PP s1) (QQ s1) op oq tr (nI L.1) w1 fa ob st of F))) : mm_call mm_Tb (d + 10) 81 [.ref 10, .int (nI D), .int (nI A)] (wP pre (wN (PP s) (QQ s) op oq tr (nI L.1) wi fa ob st of F)) Q := by
  obtain ⟨l, R1, R2⟩ := L
  have hl2 : l ≤ 2 := hl
  rcases (show l = 0 ∨ l = 1 ∨ l = 2 by omega) with rfl | rfl | rfl
  · exact rg_root_0 hV hz hl2 hg R Hf X hQ
  · exact rg_root_1 hV hz hl2 hg R Hf X hQ
  · exact rg_root_2 hV hz hl2 hg R Hf X hQ
