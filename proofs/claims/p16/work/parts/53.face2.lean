def cl (x : Int32) : Nat := x.toNatClampNeg
theorem cl_n {j : Nat} (h : j < 24) : cl (nI j) = j := nI_clamp (by omega)
noncomputable def aFree (S : Nat → stp) (k : Nat) (a b c e : Int32) : aSt := if inp a b ∧ inp c e then aAdd S k (0, 0, 0, 0, 0, 0, qf a b, qf c e) else ((1, 0), S, k)
noncomputable def aLine (t : Nat) (S : Nat → stp) (k : Nat) (x y : Int32) : aSt := if ckd S k x = 0 ∧ ckd S k y = 0 then aAdd S k (t, cl x, cl y, 0, 0, 0, z0, z0) else ((1, 0), S, k)
noncomputable def aCirc (S : Nat → stp) (k : Nat) (w x y : Int32) : aSt := if ckd S k w = 0 ∧ ckd S k x = 0 ∧ ckd S k y = 0 then aAdd S k (2, cl w, cl x, cl y, 0, 0, z0, z0) else ((1, 0), S, k)
def mst (S : Nat → stp) (k : Nat) (x y w : Int32) : stp := if ckd S k x = 1 then (if ckd S k y = 1 then (4, cl x, cl y, cl w, 0, 0, z0, z0) else (5, cl x, cl y, cl w, (S (cl y)).2.1, 0, z0, z0)) else (if ckd S k y = 1 then (5, cl y, cl x, cl w, (S (cl x)).2.1, 0, z0, z0) else (6, cl x, cl y, cl w, (S (cl x)).2.1, (S (cl y)).2.1, z0, z0))
abbrev mok (S : Nat → stp) (k : Nat) (x y w : Int32) : Prop := (ckd S k x = 1 ∨ ckd S k x = 2) ∧ (ckd S k y = 1 ∨ ckd S k y = 2) ∧ ¬ x = y ∧ ¬ w < 0 ∧ w ≤ (if ckd S k x = 1 ∧ ckd S k y = 1 then 0 else 1)
noncomputable def aMeet (S : Nat → stp) (k : Nat) (x y w : Int32) : aSt := if mok S k x y w then aAdd S k (mst S k x y w) else ((1, 0), S, k)
noncomputable def aUndo (S : Nat → stp) (k : Nat) : aSt := match k with
  | 0 => ((0, 0), S, 0)
  | j + 1 => ((0, 1), S, j)
def mvs (S : Nat → stp) (p : Nat) (x y : fr) : Nat → stp := ext S p ((S p).1, (S p).2.1, (S p).2.2.1, (S p).2.2.2.1, (S p).2.2.2.2.1, (S p).2.2.2.2.2.1, x, y)
/-- how many objects can be drawn -/
noncomputable def ff (S : Nat → stp) : Nat → Nat
  | 0 => 0
  | k + 1 => match dr S (k + 1) with
    | some _ => k + 1
    | none => ff S k
noncomputable def aMove (S : Nat → stp) (k : Nat) (x a b c e : Int32) : aSt := if (ckd S k x = 0 ∧ (S (cl x)).1 = 0) ∧ inp a b ∧ inp c e then (match dr (mvs S (cl x) (qf a b) (qf c e)) k with
  | some _ => ((0, -1), mvs S (cl x) (qf a b) (qf c e), k)
  | none => ((0, nI (ff (mvs S (cl x) (qf a b) (qf c e)) k)), S, k)) else ((1, 0), S, k)
theorem pt_e {S : Nat → stp} {k j : Nat} {s : stp} (h : pt S j) (hj : j < k) : pt (ext S k s) j := by unfold pt; rw [ext_n (by omega)]; exact h
theorem no {P : Prop} {a b : Nat} (q : a = b) (h : ¬ a = b) : P := absurd q h
theorem wf_fr {S : Nat → stp} {k : Nat} {x y : fr} (hx : fv x) (hy : fv y) : wf (ext S k (0, 0, 0, 0, 0, 0, x, y)) k := by
  unfold wf; rw [ext_k]
  exact ⟨(by decide : 0 ≤ 6), fun _ => ⟨hx, hy⟩, fun q => absurd q (by decide : ¬ (0 = 1 ∨ 0 = 3)), fun q => absurd q (by decide : ¬ 0 = 2), fun q => absurd q (by decide : ¬ 0 = 4), fun q => absurd q (by decide : ¬ 0 = 5), fun q => absurd q (by decide : ¬ 0 = 6)⟩
theorem wf_ln {S : Nat → stp} {k t p q : Nat} (ht : t = 1 ∨ t = 3) (hp : p < k) (hq : q < k) (h1 : pt S p) (h2 : pt S q) : wf (ext S k (t, p, q, 0, 0, 0, z0, z0)) k := by
  unfold wf; rw [ext_k]
  refine ⟨show t ≤ 6 by omega, fun (q : t = 0) => ?_, fun _ => ⟨hp, hq, pt_e h1 hp, pt_e h2 hq⟩, fun (q : t = 2) => ?_, fun (q : t = 4) => ?_, fun (q : t = 5) => ?_, fun (q : t = 6) => ?_⟩ <;> omega
theorem wf_ci {S : Nat → stp} {k c p q : Nat} (hc : c < k) (hp : p < k) (hq : q < k) (h0 : pt S c) (h1 : pt S p) (h2 : pt S q) : wf (ext S k (2, c, p, q, 0, 0, z0, z0)) k := by
  unfold wf; rw [ext_k]
  exact ⟨(by decide : 2 ≤ 6), fun q => absurd q (by decide : ¬ 2 = 0), fun q => absurd q (by decide : ¬ (2 = 1 ∨ 2 = 3)), fun _ => ⟨hc, hp, hq, pt_e h0 hc, pt_e h1 hp, pt_e h2 hq⟩, fun q => absurd q (by decide : ¬ 2 = 4), fun q => absurd q (by decide : ¬ 2 = 5), fun q => absurd q (by decide : ¬ 2 = 6)⟩
theorem wf_4 {S : Nat → stp} {k p q w : Nat} (hp : p < k) (hq : q < k) (h1 : (S p).1 = 1) (h2 : (S q).1 = 1) : wf (ext S k (4, p, q, w, 0, 0, z0, z0)) k := by
  unfold wf; rw [ext_k]
  exact ⟨(by decide : 4 ≤ 6), fun q => absurd q (by decide : ¬ 4 = 0), fun q => absurd q (by decide : ¬ (4 = 1 ∨ 4 = 3)), fun q => absurd q (by decide : ¬ 4 = 2), fun _ => ⟨hp, hq, by rw [ext_n (by show ¬ p = k; omega)]; exact h1, by rw [ext_n (by show ¬ q = k; omega)]; exact h2⟩, fun q => absurd q (by decide : ¬ 4 = 5), fun q => absurd q (by decide : ¬ 4 = 6)⟩
theorem ctr_of {S : Nat → stp} {q : Nat} (hw : wf S q) (h : (S q).1 = 2) : (S q).2.1 < q ∧ pt S (S q).2.1 := ⟨(hw.2.2.2.1 h).1, (hw.2.2.2.1 h).2.2.2.1⟩
theorem wf_5 {S : Nat → stp} {k p q w : Nat} (hp : p < k) (hq : q < k) (h1 : (S p).1 = 1) (h2 : (S q).1 = 2) (hw : wf S q) (hl : w ≤ 1) : wf (ext S k (5, p, q, w, (S q).2.1, 0, z0, z0)) k := by
  have hc := ctr_of hw h2
  unfold wf; rw [ext_k]
  exact ⟨(by decide : 5 ≤ 6), fun q => absurd q (by decide : ¬ 5 = 0), fun q => absurd q (by decide : ¬ (5 = 1 ∨ 5 = 3)), fun q => absurd q (by decide : ¬ 5 = 2), fun q => absurd q (by decide : ¬ 5 = 4), fun _ => ⟨hp, hq, by rw [ext_n (by show ¬ p = k; omega)]; exact h1, by rw [ext_n (by show ¬ q = k; omega)]; exact h2, by rw [ext_n (by show ¬ q = k; omega)], by show (S q).2.1 < k; omega, pt_e hc.2 (by show (S q).2.1 < k; omega), hl⟩, fun q => absurd q (by decide : ¬ 5 = 6)⟩
theorem wf_6 {S : Nat → stp} {k p q w : Nat} (hp : p < k) (hq : q < k) (h1 : (S p).1 = 2) (h2 : (S q).1 = 2) (hw1 : wf S p) (hw2 : wf S q) (hl : w ≤ 1) : wf (ext S k (6, p, q, w, (S p).2.1, (S q).2.1, z0, z0)) k := by
  have hc := ctr_of hw1 h1
  have he := ctr_of hw2 h2
  unfold wf; rw [ext_k]
  exact ⟨(by decide : 6 ≤ 6), fun q => absurd q (by decide : ¬ 6 = 0), fun q => absurd q (by decide : ¬ (6 = 1 ∨ 6 = 3)), fun q => absurd q (by decide : ¬ 6 = 2), fun q => absurd q (by decide : ¬ 6 = 4), fun q => absurd q (by decide : ¬ 6 = 5), fun _ => ⟨hp, hq, by rw [ext_n (by show ¬ p = k; omega)]; exact h1, by rw [ext_n (by show ¬ q = k; omega)]; exact h2, by rw [ext_n (by show ¬ p = k; omega)], by rw [ext_n (by show ¬ q = k; omega)], by show (S p).2.1 < k; omega, by show (S q).2.1 < k; omega, pt_e hc.2 (by show (S p).2.1 < k; omega), pt_e he.2 (by show (S q).2.1 < k; omega), hl⟩⟩
theorem aLine_t {S : Nat → stp} {k t p q : Nat} (h1 : ckd S k (nI p) = 0) (h2 : ckd S k (nI q) = 0) (hp : p < 24) (hq : q < 24) : aLine t S k (nI p) (nI q) = aAdd S k (t, p, q, 0, 0, 0, z0, z0) := by
  unfold aLine; rw [if_pos ⟨h1, h2⟩, cl_n hp, cl_n hq]
theorem aCirc_t {S : Nat → stp} {k c p q : Nat} (h0 : ckd S k (nI c) = 0) (h1 : ckd S k (nI p) = 0) (h2 : ckd S k (nI q) = 0) (hc : c < 24) (hp : p < 24) (hq : q < 24) : aCirc S k (nI c) (nI p) (nI q) = aAdd S k (2, c, p, q, 0, 0, z0, z0) := by
  unfold aCirc; rw [if_pos ⟨h0, h1, h2⟩, cl_n hc, cl_n hp, cl_n hq]
theorem dr_pre {S : Nat → stp} {v : Nat → o3} {L : lvR} : ∀ {k i : Nat}, i ≤ k → dr S k = some (v, L) → ∃ (v0 : Nat → o3) (L0 : lvR), dr S i = some (v0, L0) ∧ lvle L0 L ∧ L0.1 ≤ 2 ∧ ∀ j, j < i → v j = v0 j := by
  intro k
  induction k generalizing v L with
  | zero =>
    intro i hi h
    have e : i = 0 := by omega
    subst e
    exact ⟨v, L, h, lvle_r L, dr_lv h, fun _ _ => rfl⟩
  | succ k ih =>
    intro i hi h
    by_cases e : i = k + 1
    · subst e
      exact ⟨v, L, h, lvle_r L, dr_lv h, fun _ _ => rfl⟩
    · obtain ⟨v1, L1, c1, c2, c3, c4⟩ := dr_p h
      obtain ⟨v0, L0, d1, d2, d3, d4⟩ := ih (show i ≤ k by omega) c1
      exact ⟨v0, L0, d1, lvle_t d2 c2, d3, fun j hj => (c4 j (by omega)).trans (d4 j hj)⟩
theorem dr_free {S : Nat → stp} {k i : Nat} {v : Nat → o3} {L : lvR} (h : dr S k = some (v, L)) (hi : i < k) (h0 : (S i).1 = 0) : v i = (em (S i).2.2.2.2.2.2.1, em (S i).2.2.2.2.2.2.2, zz) := by
  obtain ⟨v1, L1, c1, c2, c3, c4⟩ := dr_pre (show i + 1 ≤ k from hi) h
  obtain ⟨v0, L0, d1, d2, d3, d4⟩ := dr_pre (show i ≤ k by omega) h
  have hm : mk (S i) v0 L0 = some ((em (S i).2.2.2.2.2.2.1, em (S i).2.2.2.2.2.2.2, zz), L0) := by unfold mk; rw [h0]; rfl
  have e := dr_s d1 hm
  rw [c1] at e
  have e2 := congrArg Prod.fst (Option.some.inj e)
  rw [c4 i (by omega)]
  have e3 := congrFun e2 i
  exact e3.trans (if_pos rfl)
theorem ff_of {S : Nat → stp} {o : Nat} {p : (Nat → o3) × lvR} (h1 : dr S o = some p) (h2 : dr S (o + 1) = none) : ∀ {k : Nat}, o ≤ k → ff S k = o := by
  intro k
  induction k with
  | zero => intro h; show 0 = o; omega
  | succ k ih =>
    intro h
    by_cases e : o = k + 1
    · subst e
      show (match dr S (k + 1) with | some _ => k + 1 | none => ff S k) = k + 1
      rw [h1]
    · have hn : dr S (k + 1) = none := by
        cases hd : dr S (k + 1) with
        | none => rfl
        | some q =>
          obtain ⟨v0, L0, d1, -⟩ := dr_pre (v := q.1) (L := q.2) (show o + 1 ≤ k + 1 by omega) hd
          rw [h2] at d1; cases d1
      show (match dr S (k + 1) with | some _ => k + 1 | none => ff S k) = o
      rw [hn]
      exact ih (by omega)
theorem dr_none {S : Nat → stp} {o k : Nat} (h : dr S o = none) (ho : o ≤ k) : dr S k = none := by
  cases hd : dr S k with
  | none => rfl
  | some q =>
    obtain ⟨v0, L0, d1, -⟩ := dr_pre (v := q.1) (L := q.2) ho hd
    rw [h] at d1; cases d1
theorem mv_1 {S : Nat → stp} {p i : Nat} {x y : fr} : (mvs S p x y i).1 = (S i).1 := by
  unfold mvs
  by_cases e : i = p
  · rw [e, ext_k]
  · rw [ext_n e]
theorem mv_a {S : Nat → stp} {p i : Nat} {x y : fr} : (mvs S p x y i).2.1 = (S i).2.1 := by
  unfold mvs
  by_cases e : i = p
  · rw [e, ext_k]
  · rw [ext_n e]
theorem mv_st {S : Nat → stp} {p i : Nat} {x y : fr} {st fi se th : Nat → Int32} (h : stM st fi se th S i) : stM st fi se th (mvs S p x y) i := by
  unfold mvs
  by_cases e : i = p
  · unfold stM
    rw [e, ext_k]
    rw [e] at h
    exact h
  · unfold stM
    rw [ext_n e]
    exact h
theorem mv_wf {S : Nat → stp} {p i : Nat} {x y : fr} (h : wf S i) (hp : (S p).1 = 0) (hx : fv x) (hy : fv y) : wf (mvs S p x y) i := by
  have pe : ∀ j, pt S j → pt (mvs S p x y) j := fun j h => by unfold pt; rw [mv_1]; exact h
  by_cases e : i = p
  · subst e
    unfold wf
    rw [mv_1, hp]
    refine ⟨by decide, fun _ => ?_, fun q => absurd q (by decide), fun q => absurd q (by decide), fun q => absurd q (by decide), fun q => absurd q (by decide), fun q => absurd q (by decide)⟩
    unfold mvs
    rw [ext_k]
    exact ⟨hx, hy⟩
  · have ei : mvs S p x y i = S i := ext_n e
    obtain ⟨h1, h2, h3, h4, h5, h6, h7⟩ := h
    unfold wf
    rw [ei]
    refine ⟨h1, h2, fun q => ?_, fun q => ?_, fun q => ?_, fun q => ?_, fun q => ?_⟩
    · obtain ⟨a1, a2, a3, a4⟩ := h3 q
      exact ⟨a1, a2, pe _ a3, pe _ a4⟩
    · obtain ⟨a1, a2, a3, a4, a5, a6⟩ := h4 q
      exact ⟨a1, a2, a3, pe _ a4, pe _ a5, pe _ a6⟩
    · rw [mv_1, mv_1]; exact h5 q
    · obtain ⟨a1, a2, a3, a4, a5, a6, a7, a8⟩ := h6 q
      rw [mv_1, mv_1, mv_a]
      exact ⟨a1, a2, a3, a4, a5, a6, pe _ a7, a8⟩
    · obtain ⟨a1, a2, a3, a4, a5, a6, a7, a8, a9, a10, a11⟩ := h7 q
      rw [mv_1, mv_1, mv_a, mv_a]
      exact ⟨a1, a2, a3, a4, a5, a6, a7, a8, pe _ a9, pe _ a10, a11⟩
/-- before the objects are drawn anew with a point moved -/
theorem mv_pre {S : Nat → stp} {k p : Nat} {x y : fr} {ov un ov1 un1 st fi se th db : Nat → Int32} {dp cn : Int32} (h : cI S k ov un dp st fi se th db cn) (hp : p < k) (h0 : (S p).1 = 0) (hf : ∀ j, j < 296 → ¬ (4 * lvl S p ≤ j ∧ j < 8) → (∀ i, p ≤ i → i < k → ¬ (S i).1 = 0 → j < 8 + 12 * i ∨ 20 + 12 * i ≤ j) → (j < 8 + 12 * p ∨ 20 + 12 * p ≤ j) → ov1 j = ov j ∧ un1 j = un j) (hh : hold 2 ov1 un1 p (em x, em y, zz)) :
    ∃ (v : Nat → o3) (L : lvR), (∀ db1 : Nat → Int32, (∀ i, i ≤ p → db1 i = db i) → rdI (mvs S p x y) k L.1 p ov1 un1 db1 ov1 un1 db1 p v L) ∧ dr S p = some (v, L) := by
  obtain ⟨a1, a2, a3, a4, a5, v, L, a6, a7, a8, a9, a10⟩ := h
  obtain ⟨v0, L0, d1, d2, d3, d4⟩ := dr_pre (show p ≤ k by omega) a6
  have ec : dr (mvs S p x y) p = dr S p := dr_congr (fun j hj => ext_n (by omega))
  refine ⟨v0, L0, fun db1 hdb => ⟨ec.trans d1, d3, Nat.le_refl _, rdA_k d3 (rdA_le a8 d2) (fun j hj => hf j (by omega) (by rw [lvl_s d1]; omega) (fun i _ _ _ => by omega) (by omega)), fun i hi => ?_, fun i h1 h2 h3 => ?_, fun i h1 h2 => ?_, fun _ _ => rfl, fun _ _ _ _ => ⟨rfl, rfl⟩⟩, d1⟩
  · rw [mv_1, ← d4 i hi]
    exact hold_k (a9 i (by omega)) (fun j h1 h2 => hf j (by omega) (by omega) (fun i2 _ _ _ => by omega) (by omega))
  · by_cases e : i = p
    · subst e
      unfold mvs
      rw [ext_k]
      exact hh
    · have ei : mvs S p x y i = S i := ext_n e
      rw [mv_1] at h3
      rw [ei]
      have z := a9 i h2
      rw [dr_free a6 h2 h3, h3] at z
      exact hold_k z (fun j q1 q2 => hf j (by omega) (by omega) (fun i2 r1 r2 r3 => by have : ¬ i2 = i := (fun e => r3 (by rw [e]; exact h3)); omega) (by omega))
  · rw [show i = p by omega, hdb p (Nat.le_refl _), a5 p (by omega)]
    unfold lvl
    rw [ec]
theorem mv_id {S : Nat → stp} {p : Nat} : mvs S p (S p).2.2.2.2.2.2.1 (S p).2.2.2.2.2.2.2 = S := by
  funext i
  unfold mvs
  by_cases e : i = p
  · rw [e, ext_k]
  · rw [ext_n e]
theorem mv_ok {S : Nat → stp} {k p : Nat} {x y : fr} {ov un ov1 un1 ov2 un2 st fi se th db db1 db2 : Nat → Int32} {dp dp2 cn r : Int32} {L : lvR} (h : cI S k ov un dp st fi se th db cn) (hp : p < k) (h0 : (S p).1 = 0) (hx : fv x) (hy : fv y) (hdb : ∀ i, i ≤ p → db1 i = db i) (hF : rdF (mvs S p x y) k L.1 p ov1 un1 db1 ov2 un2 db2 dp2 r) :
    (r = -1 → cI (mvs S p x y) k ov2 un2 dp2 st fi se th db2 (nI k) ∧ ∃ q, dr (mvs S p x y) k = some q) ∧ (¬ r = -1 → dr (mvs S p x y) k = none ∧ r = nI (ff (mvs S p x y) k)) := by
  obtain ⟨a1, a2, a3, a4, a5, v0, L0, a6, a7, a8, a9, a10⟩ := h
  obtain ⟨o, v, L1, f1, f2, ⟨b1, b2, b3, b4, b5, b6, b7, b8, b9⟩, b10⟩ := hF
  refine ⟨fun hr => ?_, fun hr => ?_⟩
  · rcases b10 with ⟨e1, e2, e3⟩ | ⟨e1, e2, e3⟩
    · subst e1
      refine ⟨⟨a1, rfl, fun i hi => mv_st (a3 i hi), fun i hi => mv_wf (a4 i hi) h0 hx hy, fun i hi => ?_, v, L1, b1, b2, b4, b5, e3⟩, _, b1⟩
      by_cases e : p ≤ i
      · exact b7 i e hi
      · rw [b8 i (by omega), hdb i (by omega), a5 i (by omega)]
        exact congrArg nI (lvl_c (fun j hj => (ext_n (by omega)).symm))
    · exact absurd (e2.symm.trans hr) (nI_m1 (by omega))
  · rcases b10 with ⟨e1, e2, e3⟩ | ⟨e1, e2, e3⟩
    · exact absurd e2 hr
    · exact ⟨dr_none e3 (by omega), by rw [ff_of b1 e3 (by omega)]; exact e2⟩
theorem aMove_t {S : Nat → stp} {k p : Nat} {a b c e : Int32} (hp : p < 24) (h1 : ckd S k (nI p) = 0) (h2 : (S p).1 = 0) (h3 : inp a b) (h4 : inp c e) : aMove S k (nI p) a b c e = match dr (mvs S p (qf a b) (qf c e)) k with
  | some _ => ((0, -1), mvs S p (qf a b) (qf c e), k)
  | none => ((0, nI (ff (mvs S p (qf a b) (qf c e)) k)), S, k) := by
  unfold aMove
  rw [cl_n hp, if_pos ⟨⟨h1, h2⟩, h3, h4⟩]
theorem aMove_s {S : Nat → stp} {k p : Nat} {a b c e : Int32} (hp : p < 24) (h1 : ckd S k (nI p) = 0) (h2 : (S p).1 = 0) (h3 : inp a b) (h4 : inp c e) (h : ∃ q, dr (mvs S p (qf a b) (qf c e)) k = some q) : aMove S k (nI p) a b c e = ((0, -1), mvs S p (qf a b) (qf c e), k) := by
  obtain ⟨q, h⟩ := h
  rw [aMove_t hp h1 h2 h3 h4, h]
theorem aMove_n {S : Nat → stp} {k p : Nat} {a b c e : Int32} (hp : p < 24) (h1 : ckd S k (nI p) = 0) (h2 : (S p).1 = 0) (h3 : inp a b) (h4 : inp c e) (h : dr (mvs S p (qf a b) (qf c e)) k = none) : aMove S k (nI p) a b c e = ((0, nI (ff (mvs S p (qf a b) (qf c e)) k)), S, k) := by
  rw [aMove_t hp h1 h2 h3 h4, h]
theorem kp_c {ov un ov1 un1 : Nat → Int32} {a b : Nat} {v : n4} (h : kp ov un a v) (c : cpR ov un a b ov1 un1) : kp ov1 un1 b v := by
  refine ⟨h.1, ?_⟩
  rw [← h.2]
  have e : ∀ j, j < 4 → rf ov1 un1 (b + j) = rf ov un (a + j) := fun j hj => by unfold rf; rw [(c.2 j hj).1, (c.2 j hj).2]
  unfold r4
  rw [e 1 (by omega), e 2 (by omega), e 3 (by omega), show rf ov1 un1 b = rf ov un a from e 0 (by omega)]
set_option maxRecDepth 100000 in
theorem gf_free {d : Nat} {ov un : Nat → Int32} {nx dp fa : Int32} {cu : mm_cu} {st fi se th db : Nat → Int32} {F : mm_M} {S : Nat → stp} {k : Nat} {x1 x2 x3 x4 : Int32} {Q : mm_R → mm_M → Prop} (hI : cI S k ov un dp st fi se th db (nI k)) (hQ : ∀ (ov1 un1 st1 fi1 se1 th1 db1 : Nat → Int32) (nx1 dp1 fa1 cn1 : Int32) (cu1 : mm_cu) (r : oc) (S1 : Nat → stp) (k1 : Nat), aFree S k x1 x2 x3 x4 = (r, S1, k1) → cI S1 k1 ov1 un1 dp1 st1 fi1 se1 th1 db1 cn1 → Q (toR r) (wC ov1 un1 nx1 dp1 fa1 cu1 st1 fi1 se1 th1 db1 cn1 F)) : mm_call mm_Tb (d + 10) 0 [.ref 0, .int x1, .int x2, .int x3, .int x4] (wC ov un nx dp fa cu st fi se th db (nI k) F) Q := by
  have hk := hI.1
  have hS := hI.2.2.1
  have hw := hI.2.2.2.1
  refine mm_in mt_0 (Nat.le_of_ble_eq_true rfl) ?_
  show mm_W _ _ _ _ _ _ _ (0, [(0, .ref 0), (1, .int x1), (2, .int x2), (3, .int x3), (4, .int x4)], [], wC ov un nx dp fa cu st fi se th db (nI k) F, 0)
  refine mm_skip (mm_call_mono _ _) 4 (st' := (5, [(0, .ref 0), (1, .int x1), (2, .int x2), (3, .int x3), (4, .int x4)], [.int x4, .int x3, .int x2, .int x1], wC ov un nx dp fa cu st fi se th db (nI k) F, 0)) rfl ?_
  refine mm_inv (mm_call_mono _ _) (j := 22) (a := [.int x1, .int x2, .int x3, .int x4]) (M := wC ov un nx dp fa cu st fi se th db (nI k) F) (u := 0) rfl (by decide) (gd_isPlace ?_)
  show mm_W _ _ _ _ _ _ _ (8, [(0, .ref 0), (1, .int x1), (2, .int x2), (3, .int x3), (4, .int x4)], [.int (bz (inp x1 x2 ∧ inp x3 x4))], wC ov un nx dp fa cu st fi se th db (nI k) F, 0)
  refine mm_branch (mm_call_mono _ _) (c := (bz (inp x1 x2 ∧ inp x3 x4)) = 0) (s1 := (11, [(0, .ref 0), (1, .int x1), (2, .int x2), (3, .int x3), (4, .int x4)], [], wC ov un nx dp fa cu st fi se th db (nI k) F, 0)) (s2 := (21, [(0, .ref 0), (1, .int x1), (2, .int x2), (3, .int x3), (4, .int x4)], [], wC ov un nx dp fa cu st fi se th db (nI k) F, 0)) rfl (fun z1 => ?_) (fun z1 => ?_)
  · skip
    exact mm_ret (mm_call_mono _ _) (c := True) (r := .inr "java/lang/IllegalArgumentException") (M := wC ov un nx dp fa cu st fi se th db (nI k) F) (u := 1) rfl trivial (by decide) (hQ _ _ _ _ _ _ _ _ _ _ _ _ (1, 0) S k (if_neg (bz_0 z1)) hI)
  · have hin := bz_1 z1
    refine mm_skip (mm_call_mono _ _) 5 (st' := (26, [(0, .ref 0), (1, .int x1), (2, .int x2), (3, .int x3), (4, .int x4)], [.int 0, .int 0, .int 0, .int 0, .ref 0], wC ov un nx dp fa cu st fi se th db (nI k) F, 0)) rfl ?_
    refine mm_inv (mm_call_mono _ _) (j := 24) (a := [.ref 0, .int 0, .int 0, .int 0, .int 0]) (M := wC ov un nx dp fa cu st fi se th db (nI k) F) (u := 1) rfl (by decide) (gd_addStep hk (fun h24 => (hQ _ _ _ _ _ _ _ _ _ _ _ _ (2, 0) S k ((if_pos hin).trans (aAdd_24 h24)) hI)) (fun hk24 => ?_))
    show mm_W _ _ _ _ _ _ _ (29, [(0, .ref 0), (1, .int x1), (2, .int x2), (3, .int x3), (4, .int x4)], [.int (nI k)], wC ov un nx dp fa cu (upd st k (nI 0)) (upd fi k (nI 0)) (upd se k (nI 0)) (upd th k (nI 0)) db (nI (k + 1)) F, 1)
    refine mm_skip (mm_call_mono _ _) 7 (st' := (39, [(5, .int (nI k)), (0, .ref 0), (1, .int x1), (2, .int x2), (3, .int x3), (4, .int x4)], [.int x4, .int x3, .int x2, .int x1, .int (nI k), .ref 0], wC ov un nx dp fa cu (upd st k (nI 0)) (upd fi k (nI 0)) (upd se k (nI 0)) (upd th k (nI 0)) db (nI (k + 1)) F, 1)) rfl ?_
    refine mm_inv (mm_call_mono _ _) (j := 39) (a := [.ref 0, .int (nI k), .int x1, .int x2, .int x3, .int x4]) (M := wC ov un nx dp fa cu (upd st k (nI 0)) (upd fi k (nI 0)) (upd se k (nI 0)) (upd th k (nI 0)) db (nI (k + 1)) F) (u := 1) rfl (by decide) (gd_place hk24 hin.1 hin.2 (fun ov1 un1 n1 pf ph => ?_))
    show mm_W _ _ _ _ _ _ _ (42, [(5, .int (nI k)), (0, .ref 0), (1, .int x1), (2, .int x2), (3, .int x3), (4, .int x4)], [], wC ov1 un1 (nI n1) dp 0 cu (upd st k (nI 0)) (upd fi k (nI 0)) (upd se k (nI 0)) (upd th k (nI 0)) db (nI (k + 1)) F, 1)
    obtain ⟨hS1, hw1, v, L, hdp, hI1⟩ := ad_pre (s := (0, 0, 0, 0, 0, 0, qf x1 x2, qf x3 x4)) hI hk24 (wf_fr (inp_f hin.1).2 (inp_f hin.2).2) pf (fun _ => ph)
    refine mm_skip (mm_call_mono _ _) 3 (st' := (46, [(5, .int (nI k)), (0, .ref 0), (1, .int x1), (2, .int x2), (3, .int x3), (4, .int x4)], [.int (nI k), .ref 0, .ref 0], wC ov1 un1 (nI n1) dp 0 cu (upd st k (nI 0)) (upd fi k (nI 0)) (upd se k (nI 0)) (upd th k (nI 0)) db (nI (k + 1)) F, 1)) rfl ?_
    refine mm_inv (mm_call_mono _ _) (j := 27) (a := [.ref 0, .int (nI k)]) (M := wC ov1 un1 (nI n1) dp 0 cu (upd st k (nI 0)) (upd fi k (nI 0)) (upd se k (nI 0)) (upd th k (nI 0)) db (nI (k + 1)) F) (u := 1) rfl (by decide) (gd_redraw (by omega) (by omega) hS1 hw1 hI1 (fun ov2 un2 nx2 dp2 fa2 cu2 db2 rr hF => ?_))
    show mm_W _ _ _ _ _ _ _ (49, [(5, .int (nI k)), (0, .ref 0), (1, .int x1), (2, .int x2), (3, .int x3), (4, .int x4)], [.int rr, .ref 0], wC ov2 un2 nx2 dp2 fa2 cu2 (upd st k (nI 0)) (upd fi k (nI 0)) (upd se k (nI 0)) (upd th k (nI 0)) db2 (nI (k + 1)) F, 1)
    obtain ⟨P1, P2⟩ := ad_post hI hk24 hS1 hw1 hF
    refine mm_inv (mm_call_mono _ _) (j := 25) (a := [.ref 0, .int rr]) (M := wC ov2 un2 nx2 dp2 fa2 cu2 (upd st k (nI 0)) (upd fi k (nI 0)) (upd se k (nI 0)) (upd th k (nI 0)) db2 (nI (k + 1)) F) (u := 2) rfl (by decide) (gd_settle hk24 (fun hr => (hQ _ _ _ _ _ _ _ _ _ _ _ _ (3, 0) S k ((if_pos hin).trans (P2 hr).2) (P2 hr).1)) (fun hr => ?_))
    show mm_W _ _ _ _ _ _ _ (52, [(5, .int (nI k)), (0, .ref 0), (1, .int x1), (2, .int x2), (3, .int x3), (4, .int x4)], [.int (nI k)], wC ov2 un2 nx2 dp2 fa2 cu2 (upd st k (nI 0)) (upd fi k (nI 0)) (upd se k (nI 0)) (upd th k (nI 0)) db2 (nI (k + 1)) F, 2)
    exact mm_ret (mm_call_mono _ _) (c := True) (r := .inl (some (.int (nI k)))) (M := wC ov2 un2 nx2 dp2 fa2 cu2 (upd st k (nI 0)) (upd fi k (nI 0)) (upd se k (nI 0)) (upd th k (nI 0)) db2 (nI (k + 1)) F) (u := 2) rfl trivial (by decide) (hQ _ _ _ _ _ _ _ _ _ _ _ _ (0, nI k) _ _ ((if_pos hin).trans (P1 hr).2) (P1 hr).1)

set_option maxRecDepth 100000 in
theorem gf_line {d : Nat} {ov un : Nat → Int32} {nx dp fa : Int32} {cu : mm_cu} {st fi se th db : Nat → Int32} {F : mm_M} {S : Nat → stp} {k : Nat} {x1 x2 : Int32} {Q : mm_R → mm_M → Prop} (hI : cI S k ov un dp st fi se th db (nI k)) (hQ : ∀ (ov1 un1 st1 fi1 se1 th1 db1 : Nat → Int32) (nx1 dp1 fa1 cn1 : Int32) (cu1 : mm_cu) (r : oc) (S1 : Nat → stp) (k1 : Nat), aLine 1 S k x1 x2 = (r, S1, k1) → cI S1 k1 ov1 un1 dp1 st1 fi1 se1 th1 db1 cn1 → Q (toR r) (wC ov1 un1 nx1 dp1 fa1 cu1 st1 fi1 se1 th1 db1 cn1 F)) : mm_call mm_Tb (d + 10) 1 [.ref 0, .int x1, .int x2] (wC ov un nx dp fa cu st fi se th db (nI k) F) Q := by
  have hk := hI.1
  have hS := hI.2.2.1
  have hw := hI.2.2.2.1
  refine mm_in mt_1 (Nat.le_of_ble_eq_true rfl) ?_
  show mm_W _ _ _ _ _ _ _ (0, [(0, .ref 0), (1, .int x1), (2, .int x2)], [], wC ov un nx dp fa cu st fi se th db (nI k) F, 0)
  refine mm_skip (mm_call_mono _ _) 2 (st' := (2, [(0, .ref 0), (1, .int x1), (2, .int x2)], [.int x1, .ref 0], wC ov un nx dp fa cu st fi se th db (nI k) F, 0)) rfl ?_
  refine mm_inv (mm_call_mono _ _) (j := 18) (a := [.ref 0, .int x1]) (M := wC ov un nx dp fa cu st fi se th db (nI k) F) (u := 0) rfl (by decide) (gd_isPoint hk hS hw ?_)
  show mm_W _ _ _ _ _ _ _ (5, [(0, .ref 0), (1, .int x1), (2, .int x2)], [.int (bz (ckd S k x1 = 0))], wC ov un nx dp fa cu st fi se th db (nI k) F, 0)
  refine mm_branch (mm_call_mono _ _) (c := (bz (ckd S k x1 = 0)) = 0) (s1 := (16, [(0, .ref 0), (1, .int x1), (2, .int x2)], [], wC ov un nx dp fa cu st fi se th db (nI k) F, 0)) (s2 := (8, [(0, .ref 0), (1, .int x1), (2, .int x2)], [], wC ov un nx dp fa cu st fi se th db (nI k) F, 0)) rfl (fun z1 => ?_) (fun z1 => ?_)
  · skip
    exact mm_ret (mm_call_mono _ _) (c := True) (r := .inr "java/lang/IllegalArgumentException") (M := wC ov un nx dp fa cu st fi se th db (nI k) F) (u := 1) rfl trivial (by decide) (hQ _ _ _ _ _ _ _ _ _ _ _ _ (1, 0) S k (if_neg (fun z => bz_0 z1 z.1)) hI)
  · skip
    refine mm_skip (mm_call_mono _ _) 2 (st' := (10, [(0, .ref 0), (1, .int x1), (2, .int x2)], [.int x2, .ref 0], wC ov un nx dp fa cu st fi se th db (nI k) F, 0)) rfl ?_
    refine mm_inv (mm_call_mono _ _) (j := 18) (a := [.ref 0, .int x2]) (M := wC ov un nx dp fa cu st fi se th db (nI k) F) (u := 0) rfl (by decide) (gd_isPoint hk hS hw ?_)
    show mm_W _ _ _ _ _ _ _ (13, [(0, .ref 0), (1, .int x1), (2, .int x2)], [.int (bz (ckd S k x2 = 0))], wC ov un nx dp fa cu st fi se th db (nI k) F, 0)
    refine mm_branch (mm_call_mono _ _) (c := (bz (ckd S k x2 = 0)) = 0) (s1 := (16, [(0, .ref 0), (1, .int x1), (2, .int x2)], [], wC ov un nx dp fa cu st fi se th db (nI k) F, 0)) (s2 := (26, [(0, .ref 0), (1, .int x1), (2, .int x2)], [], wC ov un nx dp fa cu st fi se th db (nI k) F, 0)) rfl (fun z2 => ?_) (fun z2 => ?_)
    · skip
      exact mm_ret (mm_call_mono _ _) (c := True) (r := .inr "java/lang/IllegalArgumentException") (M := wC ov un nx dp fa cu st fi se th db (nI k) F) (u := 1) rfl trivial (by decide) (hQ _ _ _ _ _ _ _ _ _ _ _ _ (1, 0) S k (if_neg (fun z => bz_0 z2 z.2)) hI)
    · skip
      have y1 := bz_1 z1
      have y2 := bz_1 z2
      obtain ⟨i, hi, rfl, pi⟩ := ckd_pt hk (bz_1 z1)
      obtain ⟨j, hj, rfl, pj⟩ := ckd_pt hk (bz_1 z2)
      refine mm_skip (mm_call_mono _ _) 7 (st' := (33, [(0, .ref 0), (1, .int (nI i)), (2, .int (nI j))], [.int 0, .int (nI j), .int (nI i), .int 1, .ref 0, .ref 0, .ref 0], wC ov un nx dp fa cu st fi se th db (nI k) F, 0)) rfl ?_
      refine mm_inv (mm_call_mono _ _) (j := 24) (a := [.ref 0, .int 1, .int (nI i), .int (nI j), .int 0]) (M := wC ov un nx dp fa cu st fi se th db (nI k) F) (u := 1) rfl (by decide) (gd_addStep hk (fun h24 => (hQ _ _ _ _ _ _ _ _ _ _ _ _ (2, 0) S k ((aLine_t y1 y2 (by omega) (by omega)).trans (aAdd_24 h24)) hI)) (fun hk24 => ?_))
      show mm_W _ _ _ _ _ _ _ (36, [(0, .ref 0), (1, .int (nI i)), (2, .int (nI j))], [.int (nI k), .ref 0, .ref 0], wC ov un nx dp fa cu (upd st k (nI 1)) (upd fi k (nI i)) (upd se k (nI j)) (upd th k (nI 0)) db (nI (k + 1)) F, 1)
      obtain ⟨hS1, hw1, v, L, hdp, hI1⟩ := ad_pre (s := (1, i, j, 0, 0, 0, z0, z0)) hI hk24 (wf_ln (by decide) hi hj pi pj) (fun _ _ _ => ⟨rfl, rfl⟩) (fun q => absurd (show 1 = 0 from q) (by decide))
      refine mm_inv (mm_call_mono _ _) (j := 27) (a := [.ref 0, .int (nI k)]) (M := wC ov un nx dp fa cu (upd st k (nI 1)) (upd fi k (nI i)) (upd se k (nI j)) (upd th k (nI 0)) db (nI (k + 1)) F) (u := 1) rfl (by decide) (gd_redraw (by omega) (by omega) hS1 hw1 hI1 (fun ov2 un2 nx2 dp2 fa2 cu2 db2 rr hF => ?_))
      show mm_W _ _ _ _ _ _ _ (39, [(0, .ref 0), (1, .int (nI i)), (2, .int (nI j))], [.int rr, .ref 0], wC ov2 un2 nx2 dp2 fa2 cu2 (upd st k (nI 1)) (upd fi k (nI i)) (upd se k (nI j)) (upd th k (nI 0)) db2 (nI (k + 1)) F, 1)
      obtain ⟨P1, P2⟩ := ad_post hI hk24 hS1 hw1 hF
      refine mm_inv (mm_call_mono _ _) (j := 25) (a := [.ref 0, .int rr]) (M := wC ov2 un2 nx2 dp2 fa2 cu2 (upd st k (nI 1)) (upd fi k (nI i)) (upd se k (nI j)) (upd th k (nI 0)) db2 (nI (k + 1)) F) (u := 2) rfl (by decide) (gd_settle hk24 (fun hr => (hQ _ _ _ _ _ _ _ _ _ _ _ _ (3, 0) S k ((aLine_t y1 y2 (by omega) (by omega)).trans (P2 hr).2) (P2 hr).1)) (fun hr => ?_))
      show mm_W _ _ _ _ _ _ _ (42, [(0, .ref 0), (1, .int (nI i)), (2, .int (nI j))], [.int (nI k)], wC ov2 un2 nx2 dp2 fa2 cu2 (upd st k (nI 1)) (upd fi k (nI i)) (upd se k (nI j)) (upd th k (nI 0)) db2 (nI (k + 1)) F, 2)
      exact mm_ret (mm_call_mono _ _) (c := True) (r := .inl (some (.int (nI k)))) (M := wC ov2 un2 nx2 dp2 fa2 cu2 (upd st k (nI 1)) (upd fi k (nI i)) (upd se k (nI j)) (upd th k (nI 0)) db2 (nI (k + 1)) F) (u := 2) rfl trivial (by decide) (hQ _ _ _ _ _ _ _ _ _ _ _ _ (0, nI k) _ _ ((aLine_t y1 y2 (by omega) (by omega)).trans (P1 hr).2) (P1 hr).1)

set_option maxRecDepth 100000 in
theorem gf_middle {d : Nat} {ov un : Nat → Int32} {nx dp fa : Int32} {cu : mm_cu} {st fi se th db : Nat → Int32} {F : mm_M} {S : Nat → stp} {k : Nat} {x1 x2 : Int32} {Q : mm_R → mm_M → Prop} (hI : cI S k ov un dp st fi se th db (nI k)) (hQ : ∀ (ov1 un1 st1 fi1 se1 th1 db1 : Nat → Int32) (nx1 dp1 fa1 cn1 : Int32) (cu1 : mm_cu) (r : oc) (S1 : Nat → stp) (k1 : Nat), aLine 3 S k x1 x2 = (r, S1, k1) → cI S1 k1 ov1 un1 dp1 st1 fi1 se1 th1 db1 cn1 → Q (toR r) (wC ov1 un1 nx1 dp1 fa1 cu1 st1 fi1 se1 th1 db1 cn1 F)) : mm_call mm_Tb (d + 10) 3 [.ref 0, .int x1, .int x2] (wC ov un nx dp fa cu st fi se th db (nI k) F) Q := by
  have hk := hI.1
  have hS := hI.2.2.1
  have hw := hI.2.2.2.1
  refine mm_in mt_3 (Nat.le_of_ble_eq_true rfl) ?_
  show mm_W _ _ _ _ _ _ _ (0, [(0, .ref 0), (1, .int x1), (2, .int x2)], [], wC ov un nx dp fa cu st fi se th db (nI k) F, 0)
  refine mm_skip (mm_call_mono _ _) 2 (st' := (2, [(0, .ref 0), (1, .int x1), (2, .int x2)], [.int x1, .ref 0], wC ov un nx dp fa cu st fi se th db (nI k) F, 0)) rfl ?_
  refine mm_inv (mm_call_mono _ _) (j := 18) (a := [.ref 0, .int x1]) (M := wC ov un nx dp fa cu st fi se th db (nI k) F) (u := 0) rfl (by decide) (gd_isPoint hk hS hw ?_)
  show mm_W _ _ _ _ _ _ _ (5, [(0, .ref 0), (1, .int x1), (2, .int x2)], [.int (bz (ckd S k x1 = 0))], wC ov un nx dp fa cu st fi se th db (nI k) F, 0)
  refine mm_branch (mm_call_mono _ _) (c := (bz (ckd S k x1 = 0)) = 0) (s1 := (16, [(0, .ref 0), (1, .int x1), (2, .int x2)], [], wC ov un nx dp fa cu st fi se th db (nI k) F, 0)) (s2 := (8, [(0, .ref 0), (1, .int x1), (2, .int x2)], [], wC ov un nx dp fa cu st fi se th db (nI k) F, 0)) rfl (fun z1 => ?_) (fun z1 => ?_)
  · skip
    exact mm_ret (mm_call_mono _ _) (c := True) (r := .inr "java/lang/IllegalArgumentException") (M := wC ov un nx dp fa cu st fi se th db (nI k) F) (u := 1) rfl trivial (by decide) (hQ _ _ _ _ _ _ _ _ _ _ _ _ (1, 0) S k (if_neg (fun z => bz_0 z1 z.1)) hI)
  · skip
    refine mm_skip (mm_call_mono _ _) 2 (st' := (10, [(0, .ref 0), (1, .int x1), (2, .int x2)], [.int x2, .ref 0], wC ov un nx dp fa cu st fi se th db (nI k) F, 0)) rfl ?_
    refine mm_inv (mm_call_mono _ _) (j := 18) (a := [.ref 0, .int x2]) (M := wC ov un nx dp fa cu st fi se th db (nI k) F) (u := 0) rfl (by decide) (gd_isPoint hk hS hw ?_)
    show mm_W _ _ _ _ _ _ _ (13, [(0, .ref 0), (1, .int x1), (2, .int x2)], [.int (bz (ckd S k x2 = 0))], wC ov un nx dp fa cu st fi se th db (nI k) F, 0)
    refine mm_branch (mm_call_mono _ _) (c := (bz (ckd S k x2 = 0)) = 0) (s1 := (16, [(0, .ref 0), (1, .int x1), (2, .int x2)], [], wC ov un nx dp fa cu st fi se th db (nI k) F, 0)) (s2 := (26, [(0, .ref 0), (1, .int x1), (2, .int x2)], [], wC ov un nx dp fa cu st fi se th db (nI k) F, 0)) rfl (fun z2 => ?_) (fun z2 => ?_)
    · skip
      exact mm_ret (mm_call_mono _ _) (c := True) (r := .inr "java/lang/IllegalArgumentException") (M := wC ov un nx dp fa cu st fi se th db (nI k) F) (u := 1) rfl trivial (by decide) (hQ _ _ _ _ _ _ _ _ _ _ _ _ (1, 0) S k (if_neg (fun z => bz_0 z2 z.2)) hI)
    · skip
      have y1 := bz_1 z1
      have y2 := bz_1 z2
      obtain ⟨i, hi, rfl, pi⟩ := ckd_pt hk (bz_1 z1)
      obtain ⟨j, hj, rfl, pj⟩ := ckd_pt hk (bz_1 z2)
      refine mm_skip (mm_call_mono _ _) 7 (st' := (33, [(0, .ref 0), (1, .int (nI i)), (2, .int (nI j))], [.int 0, .int (nI j), .int (nI i), .int 3, .ref 0, .ref 0, .ref 0], wC ov un nx dp fa cu st fi se th db (nI k) F, 0)) rfl ?_
      refine mm_inv (mm_call_mono _ _) (j := 24) (a := [.ref 0, .int 3, .int (nI i), .int (nI j), .int 0]) (M := wC ov un nx dp fa cu st fi se th db (nI k) F) (u := 1) rfl (by decide) (gd_addStep hk (fun h24 => (hQ _ _ _ _ _ _ _ _ _ _ _ _ (2, 0) S k ((aLine_t y1 y2 (by omega) (by omega)).trans (aAdd_24 h24)) hI)) (fun hk24 => ?_))
      show mm_W _ _ _ _ _ _ _ (36, [(0, .ref 0), (1, .int (nI i)), (2, .int (nI j))], [.int (nI k), .ref 0, .ref 0], wC ov un nx dp fa cu (upd st k (nI 3)) (upd fi k (nI i)) (upd se k (nI j)) (upd th k (nI 0)) db (nI (k + 1)) F, 1)
      obtain ⟨hS1, hw1, v, L, hdp, hI1⟩ := ad_pre (s := (3, i, j, 0, 0, 0, z0, z0)) hI hk24 (wf_ln (by decide) hi hj pi pj) (fun _ _ _ => ⟨rfl, rfl⟩) (fun q => absurd (show 3 = 0 from q) (by decide))
      refine mm_inv (mm_call_mono _ _) (j := 27) (a := [.ref 0, .int (nI k)]) (M := wC ov un nx dp fa cu (upd st k (nI 3)) (upd fi k (nI i)) (upd se k (nI j)) (upd th k (nI 0)) db (nI (k + 1)) F) (u := 1) rfl (by decide) (gd_redraw (by omega) (by omega) hS1 hw1 hI1 (fun ov2 un2 nx2 dp2 fa2 cu2 db2 rr hF => ?_))
      show mm_W _ _ _ _ _ _ _ (39, [(0, .ref 0), (1, .int (nI i)), (2, .int (nI j))], [.int rr, .ref 0], wC ov2 un2 nx2 dp2 fa2 cu2 (upd st k (nI 3)) (upd fi k (nI i)) (upd se k (nI j)) (upd th k (nI 0)) db2 (nI (k + 1)) F, 1)
      obtain ⟨P1, P2⟩ := ad_post hI hk24 hS1 hw1 hF
      refine mm_inv (mm_call_mono _ _) (j := 25) (a := [.ref 0, .int rr]) (M := wC ov2 un2 nx2 dp2 fa2 cu2 (upd st k (nI 3)) (upd fi k (nI i)) (upd se k (nI j)) (upd th k (nI 0)) db2 (nI (k + 1)) F) (u := 2) rfl (by decide) (gd_settle hk24 (fun hr => (hQ _ _ _ _ _ _ _ _ _ _ _ _ (3, 0) S k ((aLine_t y1 y2 (by omega) (by omega)).trans (P2 hr).2) (P2 hr).1)) (fun hr => ?_))
      show mm_W _ _ _ _ _ _ _ (42, [(0, .ref 0), (1, .int (nI i)), (2, .int (nI j))], [.int (nI k)], wC ov2 un2 nx2 dp2 fa2 cu2 (upd st k (nI 3)) (upd fi k (nI i)) (upd se k (nI j)) (upd th k (nI 0)) db2 (nI (k + 1)) F, 2)
      exact mm_ret (mm_call_mono _ _) (c := True) (r := .inl (some (.int (nI k)))) (M := wC ov2 un2 nx2 dp2 fa2 cu2 (upd st k (nI 3)) (upd fi k (nI i)) (upd se k (nI j)) (upd th k (nI 0)) db2 (nI (k + 1)) F) (u := 2) rfl trivial (by decide) (hQ _ _ _ _ _ _ _ _ _ _ _ _ (0, nI k) _ _ ((aLine_t y1 y2 (by omega) (by omega)).trans (P1 hr).2) (P1 hr).1)

set_option maxRecDepth 100000 in
theorem gf_circle {d : Nat} {ov un : Nat → Int32} {nx dp fa : Int32} {cu : mm_cu} {st fi se th db : Nat → Int32} {F : mm_M} {S : Nat → stp} {k : Nat} {x1 x2 x3 : Int32} {Q : mm_R → mm_M → Prop} (hI : cI S k ov un dp st fi se th db (nI k)) (hQ : ∀ (ov1 un1 st1 fi1 se1 th1 db1 : Nat → Int32) (nx1 dp1 fa1 cn1 : Int32) (cu1 : mm_cu) (r : oc) (S1 : Nat → stp) (k1 : Nat), aCirc S k x1 x2 x3 = (r, S1, k1) → cI S1 k1 ov1 un1 dp1 st1 fi1 se1 th1 db1 cn1 → Q (toR r) (wC ov1 un1 nx1 dp1 fa1 cu1 st1 fi1 se1 th1 db1 cn1 F)) : mm_call mm_Tb (d + 10) 2 [.ref 0, .int x1, .int x2, .int x3] (wC ov un nx dp fa cu st fi se th db (nI k) F) Q := by
  have hk := hI.1
  have hS := hI.2.2.1
  have hw := hI.2.2.2.1
  refine mm_in mt_2 (Nat.le_of_ble_eq_true rfl) ?_
  show mm_W _ _ _ _ _ _ _ (0, [(0, .ref 0), (1, .int x1), (2, .int x2), (3, .int x3)], [], wC ov un nx dp fa cu st fi se th db (nI k) F, 0)
  refine mm_skip (mm_call_mono _ _) 2 (st' := (2, [(0, .ref 0), (1, .int x1), (2, .int x2), (3, .int x3)], [.int x1, .ref 0], wC ov un nx dp fa cu st fi se th db (nI k) F, 0)) rfl ?_
  refine mm_inv (mm_call_mono _ _) (j := 18) (a := [.ref 0, .int x1]) (M := wC ov un nx dp fa cu st fi se th db (nI k) F) (u := 0) rfl (by decide) (gd_isPoint hk hS hw ?_)
  show mm_W _ _ _ _ _ _ _ (5, [(0, .ref 0), (1, .int x1), (2, .int x2), (3, .int x3)], [.int (bz (ckd S k x1 = 0))], wC ov un nx dp fa cu st fi se th db (nI k) F, 0)
  refine mm_branch (mm_call_mono _ _) (c := (bz (ckd S k x1 = 0)) = 0) (s1 := (24, [(0, .ref 0), (1, .int x1), (2, .int x2), (3, .int x3)], [], wC ov un nx dp fa cu st fi se th db (nI k) F, 0)) (s2 := (8, [(0, .ref 0), (1, .int x1), (2, .int x2), (3, .int x3)], [], wC ov un nx dp fa cu st fi se th db (nI k) F, 0)) rfl (fun z1 => ?_) (fun z1 => ?_)
  · skip
    exact mm_ret (mm_call_mono _ _) (c := True) (r := .inr "java/lang/IllegalArgumentException") (M := wC ov un nx dp fa cu st fi se th db (nI k) F) (u := 1) rfl trivial (by decide) (hQ _ _ _ _ _ _ _ _ _ _ _ _ (1, 0) S k (if_neg (fun z => bz_0 z1 z.1)) hI)
  · skip
    refine mm_skip (mm_call_mono _ _) 2 (st' := (10, [(0, .ref 0), (1, .int x1), (2, .int x2), (3, .int x3)], [.int x2, .ref 0], wC ov un nx dp fa cu st fi se th db (nI k) F, 0)) rfl ?_
    refine mm_inv (mm_call_mono _ _) (j := 18) (a := [.ref 0, .int x2]) (M := wC ov un nx dp fa cu st fi se th db (nI k) F) (u := 0) rfl (by decide) (gd_isPoint hk hS hw ?_)
    show mm_W _ _ _ _ _ _ _ (13, [(0, .ref 0), (1, .int x1), (2, .int x2), (3, .int x3)], [.int (bz (ckd S k x2 = 0))], wC ov un nx dp fa cu st fi se th db (nI k) F, 0)
    refine mm_branch (mm_call_mono _ _) (c := (bz (ckd S k x2 = 0)) = 0) (s1 := (24, [(0, .ref 0), (1, .int x1), (2, .int x2), (3, .int x3)], [], wC ov un nx dp fa cu st fi se th db (nI k) F, 0)) (s2 := (16, [(0, .ref 0), (1, .int x1), (2, .int x2), (3, .int x3)], [], wC ov un nx dp fa cu st fi se th db (nI k) F, 0)) rfl (fun z2 => ?_) (fun z2 => ?_)
    · skip
      exact mm_ret (mm_call_mono _ _) (c := True) (r := .inr "java/lang/IllegalArgumentException") (M := wC ov un nx dp fa cu st fi se th db (nI k) F) (u := 1) rfl trivial (by decide) (hQ _ _ _ _ _ _ _ _ _ _ _ _ (1, 0) S k (if_neg (fun z => bz_0 z2 z.2.1)) hI)
    · skip
      refine mm_skip (mm_call_mono _ _) 2 (st' := (18, [(0, .ref 0), (1, .int x1), (2, .int x2), (3, .int x3)], [.int x3, .ref 0], wC ov un nx dp fa cu st fi se th db (nI k) F, 0)) rfl ?_
      refine mm_inv (mm_call_mono _ _) (j := 18) (a := [.ref 0, .int x3]) (M := wC ov un nx dp fa cu st fi se th db (nI k) F) (u := 0) rfl (by decide) (gd_isPoint hk hS hw ?_)
      show mm_W _ _ _ _ _ _ _ (21, [(0, .ref 0), (1, .int x1), (2, .int x2), (3, .int x3)], [.int (bz (ckd S k x3 = 0))], wC ov un nx dp fa cu st fi se th db (nI k) F, 0)
      refine mm_branch (mm_call_mono _ _) (c := (bz (ckd S k x3 = 0)) = 0) (s1 := (24, [(0, .ref 0), (1, .int x1), (2, .int x2), (3, .int x3)], [], wC ov un nx dp fa cu st fi se th db (nI k) F, 0)) (s2 := (34, [(0, .ref 0), (1, .int x1), (2, .int x2), (3, .int x3)], [], wC ov un nx dp fa cu st fi se th db (nI k) F, 0)) rfl (fun z3 => ?_) (fun z3 => ?_)
      · skip
        exact mm_ret (mm_call_mono _ _) (c := True) (r := .inr "java/lang/IllegalArgumentException") (M := wC ov un nx dp fa cu st fi se th db (nI k) F) (u := 1) rfl trivial (by decide) (hQ _ _ _ _ _ _ _ _ _ _ _ _ (1, 0) S k (if_neg (fun z => bz_0 z3 z.2.2)) hI)
      · skip
        have y1 := bz_1 z1
        have y2 := bz_1 z2
        have y3 := bz_1 z3
        obtain ⟨i, hi, rfl, pi⟩ := ckd_pt hk (bz_1 z1)
        obtain ⟨j, hj, rfl, pj⟩ := ckd_pt hk (bz_1 z2)
        obtain ⟨l, hl, rfl, pl⟩ := ckd_pt hk (bz_1 z3)
        refine mm_skip (mm_call_mono _ _) 7 (st' := (41, [(0, .ref 0), (1, .int (nI i)), (2, .int (nI j)), (3, .int (nI l))], [.int (nI l), .int (nI j), .int (nI i), .int 2, .ref 0, .ref 0, .ref 0], wC ov un nx dp fa cu st fi se th db (nI k) F, 0)) rfl ?_
        refine mm_inv (mm_call_mono _ _) (j := 24) (a := [.ref 0, .int 2, .int (nI i), .int (nI j), .int (nI l)]) (M := wC ov un nx dp fa cu st fi se th db (nI k) F) (u := 1) rfl (by decide) (gd_addStep hk (fun h24 => (hQ _ _ _ _ _ _ _ _ _ _ _ _ (2, 0) S k ((aCirc_t y1 y2 y3 (by omega) (by omega) (by omega)).trans (aAdd_24 h24)) hI)) (fun hk24 => ?_))
        show mm_W _ _ _ _ _ _ _ (44, [(0, .ref 0), (1, .int (nI i)), (2, .int (nI j)), (3, .int (nI l))], [.int (nI k), .ref 0, .ref 0], wC ov un nx dp fa cu (upd st k (nI 2)) (upd fi k (nI i)) (upd se k (nI j)) (upd th k (nI l)) db (nI (k + 1)) F, 1)
        obtain ⟨hS1, hw1, v, L, hdp, hI1⟩ := ad_pre (s := (2, i, j, l, 0, 0, z0, z0)) hI hk24 (wf_ci hi hj hl pi pj pl) (fun _ _ _ => ⟨rfl, rfl⟩) (fun q => absurd (show 2 = 0 from q) (by decide))
        refine mm_inv (mm_call_mono _ _) (j := 27) (a := [.ref 0, .int (nI k)]) (M := wC ov un nx dp fa cu (upd st k (nI 2)) (upd fi k (nI i)) (upd se k (nI j)) (upd th k (nI l)) db (nI (k + 1)) F) (u := 1) rfl (by decide) (gd_redraw (by omega) (by omega) hS1 hw1 hI1 (fun ov2 un2 nx2 dp2 fa2 cu2 db2 rr hF => ?_))
        show mm_W _ _ _ _ _ _ _ (47, [(0, .ref 0), (1, .int (nI i)), (2, .int (nI j)), (3, .int (nI l))], [.int rr, .ref 0], wC ov2 un2 nx2 dp2 fa2 cu2 (upd st k (nI 2)) (upd fi k (nI i)) (upd se k (nI j)) (upd th k (nI l)) db2 (nI (k + 1)) F, 1)
        obtain ⟨P1, P2⟩ := ad_post hI hk24 hS1 hw1 hF
        refine mm_inv (mm_call_mono _ _) (j := 25) (a := [.ref 0, .int rr]) (M := wC ov2 un2 nx2 dp2 fa2 cu2 (upd st k (nI 2)) (upd fi k (nI i)) (upd se k (nI j)) (upd th k (nI l)) db2 (nI (k + 1)) F) (u := 2) rfl (by decide) (gd_settle hk24 (fun hr => (hQ _ _ _ _ _ _ _ _ _ _ _ _ (3, 0) S k ((aCirc_t y1 y2 y3 (by omega) (by omega) (by omega)).trans (P2 hr).2) (P2 hr).1)) (fun hr => ?_))
        show mm_W _ _ _ _ _ _ _ (50, [(0, .ref 0), (1, .int (nI i)), (2, .int (nI j)), (3, .int (nI l))], [.int (nI k)], wC ov2 un2 nx2 dp2 fa2 cu2 (upd st k (nI 2)) (upd fi k (nI i)) (upd se k (nI j)) (upd th k (nI l)) db2 (nI (k + 1)) F, 2)
        exact mm_ret (mm_call_mono _ _) (c := True) (r := .inl (some (.int (nI k)))) (M := wC ov2 un2 nx2 dp2 fa2 cu2 (upd st k (nI 2)) (upd fi k (nI i)) (upd se k (nI j)) (upd th k (nI l)) db2 (nI (k + 1)) F) (u := 2) rfl trivial (by decide) (hQ _ _ _ _ _ _ _ _ _ _ _ _ (0, nI k) _ _ ((aCirc_t y1 y2 y3 (by omega) (by omega) (by omega)).trans (P1 hr).2) (P1 hr).1)

set_option maxRecDepth 100000 in
theorem gf_undo0 {d : Nat} {ov un : Nat → Int32} {nx dp fa : Int32} {cu : mm_cu} {st fi se th db : Nat → Int32} {F : mm_M} {S : Nat → stp} {Q : mm_R → mm_M → Prop} (hI : cI S 0 ov un dp st fi se th db (nI 0)) (hQ : ∀ (ov1 un1 st1 fi1 se1 th1 db1 : Nat → Int32) (nx1 dp1 fa1 cn1 : Int32) (cu1 : mm_cu) (r : oc) (S1 : Nat → stp) (k1 : Nat), aUndo S 0 = (r, S1, k1) → cI S1 k1 ov1 un1 dp1 st1 fi1 se1 th1 db1 cn1 → Q (toR r) (wC ov1 un1 nx1 dp1 fa1 cu1 st1 fi1 se1 th1 db1 cn1 F)) : mm_call mm_Tb (d + 10) 6 [.ref 0] (wC ov un nx dp fa cu st fi se th db (nI 0) F) Q := by
  refine mm_in mt_6 (Nat.le_of_ble_eq_true rfl) ?_
  show mm_W _ _ _ _ _ _ _ (0, [(0, .ref 0)], [], wC ov un nx dp fa cu st fi se th db (nI 0) F, 0)
  refine mm_skip (mm_call_mono _ _) 2 (st' := (4, [(0, .ref 0)], [.int (nI 0)], wC ov un nx dp fa cu st fi se th db (nI 0) F, 0)) rfl ?_
  refine mm_branch (mm_call_mono _ _) (c := (nI 0) = 0) (s1 := (7, [(0, .ref 0)], [], wC ov un nx dp fa cu st fi se th db (nI 0) F, 0)) (s2 := (9, [(0, .ref 0)], [], wC ov un nx dp fa cu st fi se th db (nI 0) F, 0)) rfl (fun _ => ?_) (fun h => absurd nI_0 h)
  refine mm_skip (mm_call_mono _ _) 1 (st' := (8, [(0, .ref 0)], [.int 0], wC ov un nx dp fa cu st fi se th db (nI 0) F, 0)) rfl ?_
  exact mm_ret (mm_call_mono _ _) (c := mm_z 0) (r := .inl (some (.int 0))) (M := wC ov un nx dp fa cu st fi se th db (nI 0) F) (u := 0) rfl (by unfold mm_z; decide) (by decide) (hQ _ _ _ _ _ _ _ _ _ _ _ _ (0, 0) S 0 rfl hI)

set_option maxRecDepth 100000 in
theorem gf_undo1 {d : Nat} {ov un : Nat → Int32} {nx dp fa : Int32} {cu : mm_cu} {st fi se th db : Nat → Int32} {F : mm_M} {S : Nat → stp} {k : Nat} {Q : mm_R → mm_M → Prop} (hI : cI S (k + 1) ov un dp st fi se th db (nI (k + 1))) (hQ : ∀ (ov1 un1 st1 fi1 se1 th1 db1 : Nat → Int32) (nx1 dp1 fa1 cn1 : Int32) (cu1 : mm_cu) (r : oc) (S1 : Nat → stp) (k1 : Nat), aUndo S (k + 1) = (r, S1, k1) → cI S1 k1 ov1 un1 dp1 st1 fi1 se1 th1 db1 cn1 → Q (toR r) (wC ov1 un1 nx1 dp1 fa1 cu1 st1 fi1 se1 th1 db1 cn1 F)) : mm_call mm_Tb (d + 10) 6 [.ref 0] (wC ov un nx dp fa cu st fi se th db (nI (k + 1)) F) Q := by
  have hk := hI.1
  refine mm_in mt_6 (Nat.le_of_ble_eq_true rfl) ?_
  show mm_W _ _ _ _ _ _ _ (0, [(0, .ref 0)], [], wC ov un nx dp fa cu st fi se th db (nI (k + 1)) F, 0)
  refine mm_skip (mm_call_mono _ _) 2 (st' := (4, [(0, .ref 0)], [.int (nI (k + 1))], wC ov un nx dp fa cu st fi se th db (nI (k + 1)) F, 0)) rfl ?_
  refine mm_branch (mm_call_mono _ _) (c := (nI (k + 1)) = 0) (s1 := (7, [(0, .ref 0)], [], wC ov un nx dp fa cu st fi se th db (nI (k + 1)) F, 0)) (s2 := (9, [(0, .ref 0)], [], wC ov un nx dp fa cu st fi se th db (nI (k + 1)) F, 0)) rfl (fun h => absurd h (nI_ne0 (by omega) (by omega))) (fun _ => ?_)
  refine mm_skip (mm_call_mono _ _) 5 (st' := (16, [(0, .ref 0)], [.int ((nI (k + 1)) - 1), .ref 0], wC ov un nx dp fa cu st fi se th db (nI (k + 1)) F, 0)) rfl ?_
  rw [(nI_pred k)]
  show mm_W _ _ _ _ _ _ _ (16, [(0, .ref 0)], [.int (nI k), .ref 0], wC ov un nx dp fa cu st fi se th db (nI (k + 1)) F, 0)
  refine mm_skip (mm_call_mono _ _) 7 (st' := (31, [(0, .ref 0)], [.int (nI k), .ref 7, .ref 1], wC ov un nx dp fa cu st fi se th db (nI k) F, 0)) rfl ?_
  refine mm_need (mm_call_mono _ _) (c := vp_in (nI k) 25) (s' := (32, [(0, .ref 0)], [.int (db (Int32.toNatClampNeg (nI k))), .ref 1], wC ov un nx dp fa cu st fi se th db (nI k) F, 0)) rfl (vp_in_nI (show k < 25 by omega) (by decide)) ?_
  rw [nI_clamp (show k < 2 ^ 31 by omega)]
  show mm_W _ _ _ _ _ _ _ (32, [(0, .ref 0)], [.int (db k), .ref 1], wC ov un nx dp fa cu st fi se th db (nI k) F, 0)
  refine mm_skip (mm_call_mono _ _) 2 (st' := (36, [(0, .ref 0)], [.int 1], wC ov un nx (db k) fa cu st fi se th db (nI k) F, 0)) rfl ?_
  exact mm_ret (mm_call_mono _ _) (c := mm_z 1) (r := .inl (some (.int 1))) (M := wC ov un nx (db k) fa cu st fi se th db (nI k) F) (u := 0) rfl (by unfold mm_z; decide) (by decide) (hQ _ _ _ _ _ _ _ _ _ _ _ _ (0, 1) S k rfl (cI_un hI))

set_option maxRecDepth 100000 in
theorem gd_copyPlace {d : Nat} {ov un : Nat → Int32} {nx dp fa : Int32} {cu : mm_cu} {st fi se th db : Nat → Int32} {cn : Int32} {F : mm_M} {p t : Nat} {x y : n4} {Q : mm_R → mm_M → Prop} (hp : p < 25) (ht : t < 25) (hpt : ¬ p = t) (hx : kp ov un (8 + 12 * p) x) (hy : kp ov un (12 + 12 * p) y) (hQ : ∀ ov1 un1 : Nat → Int32, (∀ j, ¬ (8 + 12 * t ≤ j ∧ j < 16 + 12 * t) → ov1 j = ov j ∧ un1 j = un j) → kp ov1 un1 (8 + 12 * t) x → kp ov1 un1 (12 + 12 * t) y → Q (.inl none) (wC ov1 un1 nx dp fa cu st fi se th db cn F)) : mm_call mm_Tb (d + 3) 40 [.ref 0, .int (nI p), .int (nI t)] (wC ov un nx dp fa cu st fi se th db cn F) Q := by
  refine mm_in mt_40 (Nat.le_of_ble_eq_true rfl) ?_
  show mm_W _ _ _ _ _ _ _ (0, [(0, .ref 0), (1, .int (nI p)), (2, .int (nI t))], [], wC ov un nx dp fa cu st fi se th db cn F, 0)
  refine mm_skip (mm_call_mono _ _) 3 (st' := (5, [(0, .ref 0), (1, .int (nI p)), (2, .int (nI t))], [.int (nI p), .ref 1], wC ov un nx dp fa cu st fi se th db cn F, 0)) rfl ?_
  refine mm_inv (mm_call_mono _ _) (j := 41) (a := [.int (nI p)]) (M := wC ov un nx dp fa cu st fi se th db cn F) (u := 0) rfl (by decide) (ct_C_xOf ?_)
  show mm_W _ _ _ _ _ _ _ (8, [(0, .ref 0), (1, .int (nI p)), (2, .int (nI t))], [.int (nI (8 + 12 * p)), .ref 1], wC ov un nx dp fa cu st fi se th db cn F, 0)
  refine mm_skip (mm_call_mono _ _) 1 (st' := (9, [(0, .ref 0), (1, .int (nI p)), (2, .int (nI t))], [.int (nI t), .int (nI (8 + 12 * p)), .ref 1], wC ov un nx dp fa cu st fi se th db cn F, 0)) rfl ?_
  refine mm_inv (mm_call_mono _ _) (j := 41) (a := [.int (nI t)]) (M := wC ov un nx dp fa cu st fi se th db cn F) (u := 0) rfl (by decide) (ct_C_xOf ?_)
  show mm_W _ _ _ _ _ _ _ (12, [(0, .ref 0), (1, .int (nI p)), (2, .int (nI t))], [.int (nI (8 + 12 * t)), .int (nI (8 + 12 * p)), .ref 1], wC ov un nx dp fa cu st fi se th db cn F, 0)
  refine mm_inv (mm_call_mono _ _) (j := 124) (a := [.ref 1, .int (nI (8 + 12 * p)), .int (nI (8 + 12 * t))]) (M := wC ov un nx dp fa cu st fi se th db cn F) (u := 0) rfl (by decide) (gw_copy (x := 8 + 12 * p) (y := 8 + 12 * t) (by omega) (by omega) (fun ov1 un1 c1 => ?_))
  show mm_W _ _ _ _ _ _ _ (15, [(0, .ref 0), (1, .int (nI p)), (2, .int (nI t))], [], wC ov1 un1 nx dp fa cu st fi se th db cn F, 0)
  refine mm_skip (mm_call_mono _ _) 3 (st' := (20, [(0, .ref 0), (1, .int (nI p)), (2, .int (nI t))], [.int (nI p), .ref 1], wC ov1 un1 nx dp fa cu st fi se th db cn F, 0)) rfl ?_
  refine mm_inv (mm_call_mono _ _) (j := 42) (a := [.int (nI p)]) (M := wC ov1 un1 nx dp fa cu st fi se th db cn F) (u := 0) rfl (by decide) (ct_C_yOf ?_)
  show mm_W _ _ _ _ _ _ _ (23, [(0, .ref 0), (1, .int (nI p)), (2, .int (nI t))], [.int (nI (12 + 12 * p)), .ref 1], wC ov1 un1 nx dp fa cu st fi se th db cn F, 0)
  refine mm_skip (mm_call_mono _ _) 1 (st' := (24, [(0, .ref 0), (1, .int (nI p)), (2, .int (nI t))], [.int (nI t), .int (nI (12 + 12 * p)), .ref 1], wC ov1 un1 nx dp fa cu st fi se th db cn F, 0)) rfl ?_
  refine mm_inv (mm_call_mono _ _) (j := 42) (a := [.int (nI t)]) (M := wC ov1 un1 nx dp fa cu st fi se th db cn F) (u := 0) rfl (by decide) (ct_C_yOf ?_)
  show mm_W _ _ _ _ _ _ _ (27, [(0, .ref 0), (1, .int (nI p)), (2, .int (nI t))], [.int (nI (12 + 12 * t)), .int (nI (12 + 12 * p)), .ref 1], wC ov1 un1 nx dp fa cu st fi se th db cn F, 0)
  refine mm_inv (mm_call_mono _ _) (j := 124) (a := [.ref 1, .int (nI (12 + 12 * p)), .int (nI (12 + 12 * t))]) (M := wC ov1 un1 nx dp fa cu st fi se th db cn F) (u := 0) rfl (by decide) (gw_copy (x := 12 + 12 * p) (y := 12 + 12 * t) (by omega) (by omega) (fun ov2 un2 c2 => ?_))
  show mm_W _ _ _ _ _ _ _ (30, [(0, .ref 0), (1, .int (nI p)), (2, .int (nI t))], [], wC ov2 un2 nx dp fa cu st fi se th db cn F, 0)
  exact mm_ret (mm_call_mono _ _) (c := True) (r := .inl none) (M := wC ov2 un2 nx dp fa cu st fi se th db cn F) (u := 0) rfl trivial (by decide) (hQ _ _ (fun j hj => by have e1 := c2.1 j (by omega); have e2 := c1.1 j (by omega); exact ⟨e1.1.trans e2.1, e1.2.trans e2.2⟩) (kp_k (kp_c hx c1) (fun j hj => c2.1 _ (by omega))) (kp_c (kp_k hy (fun j hj => c1.1 _ (by omega))) c2))

theorem rdF_fr {S : Nat → stp} {k l f : Nat} {ov0 un0 db0 ov un db : Nat → Int32} {dp r : Int32} (h : rdF S k l f ov0 un0 db0 ov un db dp r) : (∀ i, i ≤ f → db i = db0 i) ∧ ∀ j, j < 308 → ¬ (4 * l ≤ j ∧ j < 8) → (∀ i, f ≤ i → i < k → ¬ (S i).1 = 0 → j < 8 + 12 * i ∨ 20 + 12 * i ≤ j) → ov j = ov0 j ∧ un j = un0 j := by
  obtain ⟨o, v, L, -, -, hI, -⟩ := h
  exact ⟨hI.2.2.2.2.2.2.2.1, hI.2.2.2.2.2.2.2.2⟩
theorem cI_mv {S : Nat → stp} {k p : Nat} {ov un ov1 un1 ov2 un2 st fi se th db db1 db2 : Nat → Int32} {dp dp2 cn r : Int32} {L : lvR} (h : cI S k ov un dp st fi se th db cn) (hp : p < k) (h0 : (S p).1 = 0) (hdb : ∀ i, i ≤ p → db1 i = db i) (hF : rdF S k L.1 p ov1 un1 db1 ov2 un2 db2 dp2 r) : cI S k ov2 un2 dp2 st fi se th db2 (nI k) := by
  have hw := (h.2.2.2.1 p hp).2.1 h0
  obtain ⟨v, L0, hdr, -⟩ := h.2.2.2.2.2
  have P := mv_ok (x := (S p).2.2.2.2.2.2.1) (y := (S p).2.2.2.2.2.2.2) h hp h0 hw.1 hw.2 hdb (by rw [mv_id]; exact hF)
  rw [mv_id] at P
  have hr : r = -1 := Decidable.byContradiction (fun q => by have e := (P.2 q).1; rw [hdr] at e; cases e)
  exact (P.1 hr).1
theorem mst_w {w : Nat} (h : w ≤ 1) : cl (nI w) = w := nI_clamp (by omega)
theorem aMeet_4 {S : Nat → stp} {k i j w : Nat} (h1 : ckd S k (nI i) = 1) (h2 : ckd S k (nI j) = 1) (h3 : ¬ nI i = nI j) (hi : i < 24) (hj : j < 24) (h5 : w ≤ 1) (h6 : nI w ≤ 0) : aMeet S k (nI i) (nI j) (nI w) = aAdd S k (4, i, j, w, 0, 0, z0, z0) := by
  unfold aMeet
  rw [if_pos ⟨Or.inl h1, Or.inl h2, h3, nI_pos (by omega), by rw [if_pos ⟨h1, h2⟩]; exact h6⟩]
  unfold mst
  rw [if_pos h1, if_pos h2, cl_n hi, cl_n hj, mst_w h5]
theorem ck12 {x : Int32} (h : x = 2) : ¬ x = 1 := by rw [h]; decide
theorem aMeet_6 {S : Nat → stp} {k i j w : Nat} (h1 : ckd S k (nI i) = 2) (h2 : ckd S k (nI j) = 2) (h3 : ¬ nI i = nI j) (hi : i < 24) (hj : j < 24) (h5 : w ≤ 1) : aMeet S k (nI i) (nI j) (nI w) = aAdd S k (6, i, j, w, (S i).2.1, (S j).2.1, z0, z0) := by
  unfold aMeet
  rw [if_pos ⟨Or.inr h1, Or.inr h2, h3, nI_pos (by omega), by rw [if_neg (fun q => ck12 h1 q.1)]; exact (nI_le h5 (by decide) : nI w ≤ nI 1)⟩]
  unfold mst
  rw [if_neg (ck12 h1), if_neg (ck12 h2), cl_n hi, cl_n hj, mst_w h5]
theorem aMeet_5 {S : Nat → stp} {k i j w : Nat} (h1 : ckd S k (nI i) = 1) (h2 : ckd S k (nI j) = 2) (h3 : ¬ nI i = nI j) (hi : i < 24) (hj : j < 24) (h5 : w ≤ 1) : aMeet S k (nI i) (nI j) (nI w) = aAdd S k (5, i, j, w, (S j).2.1, 0, z0, z0) := by
  unfold aMeet
  rw [if_pos ⟨Or.inl h1, Or.inr h2, h3, nI_pos (by omega), by rw [if_neg (fun q => ck12 h2 q.2)]; exact (nI_le h5 (by decide) : nI w ≤ nI 1)⟩]
  unfold mst
  rw [if_pos h1, if_neg (ck12 h2), cl_n hi, cl_n hj, mst_w h5]
theorem aMeet_5b {S : Nat → stp} {k i j w : Nat} (h1 : ckd S k (nI i) = 2) (h2 : ckd S k (nI j) = 1) (h3 : ¬ nI i = nI j) (hi : i < 24) (hj : j < 24) (h5 : w ≤ 1) : aMeet S k (nI i) (nI j) (nI w) = aAdd S k (5, j, i, w, (S i).2.1, 0, z0, z0) := by
  unfold aMeet
  rw [if_pos ⟨Or.inr h1, Or.inl h2, h3, nI_pos (by omega), by rw [if_neg (fun q => ck12 h1 q.1)]; exact (nI_le h5 (by decide) : nI w ≤ nI 1)⟩]
  unfold mst
  rw [if_neg (ck12 h1), if_pos h2, cl_n hi, cl_n hj, mst_w h5]
theorem mokN {S : Nat → stp} {k : Nat} {x y w : Int32} (h : ¬ mok S k x y w) : aMeet S k x y w = ((1, 0), S, k) := if_neg h
set_option maxRecDepth 100000 in
theorem gf_move {d : Nat} {ov un : Nat → Int32} {nx dp fa : Int32} {cu : mm_cu} {st fi se th db : Nat → Int32} {F : mm_M} {S : Nat → stp} {k : Nat} {x1 x2 x3 x4 x5 : Int32} {Q : mm_R → mm_M → Prop} (hI : cI S k ov un dp st fi se th db (nI k)) (hQ : ∀ (ov1 un1 st1 fi1 se1 th1 db1 : Nat → Int32) (nx1 dp1 fa1 cn1 : Int32) (cu1 : mm_cu) (r : oc) (S1 : Nat → stp) (k1 : Nat), aMove S k x1 x2 x3 x4 x5 = (r, S1, k1) → cI S1 k1 ov1 un1 dp1 st1 fi1 se1 th1 db1 cn1 → Q (toR r) (wC ov1 un1 nx1 dp1 fa1 cu1 st1 fi1 se1 th1 db1 cn1 F)) : mm_call mm_Tb (d + 10) 5 [.ref 0, .int x1, .int x2, .int x3, .int x4, .int x5] (wC ov un nx dp fa cu st fi se th db (nI k) F) Q := by
  have hk := hI.1
  have hS := hI.2.2.1
  have hw := hI.2.2.2.1
  refine mm_in mt_5 (Nat.le_of_ble_eq_true rfl) ?_
  show mm_W _ _ _ _ _ _ _ (0, [(0, .ref 0), (1, .int x1), (2, .int x2), (3, .int x3), (4, .int x4), (5, .int x5)], [], wC ov un nx dp fa cu st fi se th db (nI k) F, 0)
  refine mm_skip (mm_call_mono _ _) 2 (st' := (2, [(0, .ref 0), (1, .int x1), (2, .int x2), (3, .int x3), (4, .int x4), (5, .int x5)], [.int x1, .ref 0], wC ov un nx dp fa cu st fi se th db (nI k) F, 0)) rfl ?_
  refine mm_inv (mm_call_mono _ _) (j := 18) (a := [.ref 0, .int x1]) (M := wC ov un nx dp fa cu st fi se th db (nI k) F) (u := 0) rfl (by decide) (gd_isPoint hk hS hw ?_)
  show mm_W _ _ _ _ _ _ _ (5, [(0, .ref 0), (1, .int x1), (2, .int x2), (3, .int x3), (4, .int x4), (5, .int x5)], [.int (bz (ckd S k x1 = 0))], wC ov un nx dp fa cu st fi se th db (nI k) F, 0)
  refine mm_branch (mm_call_mono _ _) (c := (bz (ckd S k x1 = 0)) = 0) (s1 := (17, [(0, .ref 0), (1, .int x1), (2, .int x2), (3, .int x3), (4, .int x4), (5, .int x5)], [], wC ov un nx dp fa cu st fi se th db (nI k) F, 0)) (s2 := (8, [(0, .ref 0), (1, .int x1), (2, .int x2), (3, .int x3), (4, .int x4), (5, .int x5)], [], wC ov un nx dp fa cu st fi se th db (nI k) F, 0)) rfl (fun z1 => ?_) (fun z1 => ?_)
  · skip
    exact mm_ret (mm_call_mono _ _) (c := True) (r := .inr "java/lang/IllegalArgumentException") (M := wC ov un nx dp fa cu st fi se th db (nI k) F) (u := 1) rfl trivial (by decide) (hQ _ _ _ _ _ _ _ _ _ _ _ _ (1, 0) S k (if_neg (fun z => bz_0 z1 z.1.1)) hI)
  · skip
    have y1 := bz_1 z1
    obtain ⟨i, hi, rfl, pi⟩ := ckd_pt hk (bz_1 z1)
    refine mm_skip (mm_call_mono _ _) 3 (st' := (13, [(0, .ref 0), (1, .int (nI i)), (2, .int x2), (3, .int x3), (4, .int x4), (5, .int x5)], [.int (nI i), .ref 3], wC ov un nx dp fa cu st fi se th db (nI k) F, 0)) rfl ?_
    refine mm_need (mm_call_mono _ _) (c := vp_in (nI i) 24) (s' := (14, [(0, .ref 0), (1, .int (nI i)), (2, .int x2), (3, .int x3), (4, .int x4), (5, .int x5)], [.int (st (Int32.toNatClampNeg (nI i)))], wC ov un nx dp fa cu st fi se th db (nI k) F, 0)) rfl (vp_in_nI (show i < 24 by omega) (by decide)) ?_
    rw [nI_clamp (show i < 2 ^ 31 by omega)]
    show mm_W _ _ _ _ _ _ _ (14, [(0, .ref 0), (1, .int (nI i)), (2, .int x2), (3, .int x3), (4, .int x4), (5, .int x5)], [.int (st i)], wC ov un nx dp fa cu st fi se th db (nI k) F, 0)
    refine mm_branch (mm_call_mono _ _) (c := (st i) = 0) (s1 := (27, [(0, .ref 0), (1, .int (nI i)), (2, .int x2), (3, .int x3), (4, .int x4), (5, .int x5)], [], wC ov un nx dp fa cu st fi se th db (nI k) F, 0)) (s2 := (17, [(0, .ref 0), (1, .int (nI i)), (2, .int x2), (3, .int x3), (4, .int x4), (5, .int x5)], [], wC ov un nx dp fa cu st fi se th db (nI k) F, 0)) rfl (fun zf => ?_) (fun zf => ?_)
    · have hz0 : (S i).1 = 0 := (nI_eq (by have := (hw i hi).1; omega) (by omega)).mp (((hS i hi).1).symm.trans (zf.trans nI_0.symm))
      refine mm_skip (mm_call_mono _ _) 4 (st' := (33, [(0, .ref 0), (1, .int (nI i)), (2, .int x2), (3, .int x3), (4, .int x4), (5, .int x5)], [.int x5, .int x4, .int x3, .int x2], wC ov un nx dp fa cu st fi se th db (nI k) F, 0)) rfl ?_
      refine mm_inv (mm_call_mono _ _) (j := 22) (a := [.int x2, .int x3, .int x4, .int x5]) (M := wC ov un nx dp fa cu st fi se th db (nI k) F) (u := 0) rfl (by decide) (gd_isPlace ?_)
      show mm_W _ _ _ _ _ _ _ (36, [(0, .ref 0), (1, .int (nI i)), (2, .int x2), (3, .int x3), (4, .int x4), (5, .int x5)], [.int (bz (inp x2 x3 ∧ inp x4 x5))], wC ov un nx dp fa cu st fi se th db (nI k) F, 0)
      refine mm_branch (mm_call_mono _ _) (c := (bz (inp x2 x3 ∧ inp x4 x5)) = 0) (s1 := (39, [(0, .ref 0), (1, .int (nI i)), (2, .int x2), (3, .int x3), (4, .int x4), (5, .int x5)], [], wC ov un nx dp fa cu st fi se th db (nI k) F, 0)) (s2 := (49, [(0, .ref 0), (1, .int (nI i)), (2, .int x2), (3, .int x3), (4, .int x4), (5, .int x5)], [], wC ov un nx dp fa cu st fi se th db (nI k) F, 0)) rfl (fun z2 => ?_) (fun z2 => ?_)
      · skip
        exact mm_ret (mm_call_mono _ _) (c := True) (r := .inr "java/lang/IllegalArgumentException") (M := wC ov un nx dp fa cu st fi se th db (nI k) F) (u := 1) rfl trivial (by decide) (hQ _ _ _ _ _ _ _ _ _ _ _ _ (1, 0) S k (if_neg (fun z => bz_0 z2 z.2)) hI)
      · skip
        have hin := bz_1 z2
        obtain ⟨v, L, hdr, hdv, hrd, hhd, hdp⟩ := hI.2.2.2.2.2
        have hh := hhd i hi
        rw [dr_free hdr hi hz0, hz0] at hh
        refine mm_skip (mm_call_mono _ _) 3 (st' := (53, [(0, .ref 0), (1, .int (nI i)), (2, .int x2), (3, .int x3), (4, .int x4), (5, .int x5)], [.int 24, .int (nI i), .ref 0], wC ov un nx dp fa cu st fi se th db (nI k) F, 0)) rfl ?_
        refine mm_inv (mm_call_mono _ _) (j := 40) (a := [.ref 0, .int (nI i), .int 24]) (M := wC ov un nx dp fa cu st fi se th db (nI k) F) (u := 0) rfl (by decide) (gd_copyPlace (p := i) (t := 24) (by omega) (by omega) (by omega) hh.1 (hh.2.1 (by decide)) (fun ov1 un1 c1 k1 k2 => ?_))
        show mm_W _ _ _ _ _ _ _ (56, [(0, .ref 0), (1, .int (nI i)), (2, .int x2), (3, .int x3), (4, .int x4), (5, .int x5)], [], wC ov1 un1 nx dp fa cu st fi se th db (nI k) F, 0)
        refine mm_skip (mm_call_mono _ _) 6 (st' := (64, [(0, .ref 0), (1, .int (nI i)), (2, .int x2), (3, .int x3), (4, .int x4), (5, .int x5)], [.int x5, .int x4, .int x3, .int x2, .int (nI i), .ref 0], wC ov1 un1 nx dp fa cu st fi se th db (nI k) F, 0)) rfl ?_
        refine mm_inv (mm_call_mono _ _) (j := 39) (a := [.ref 0, .int (nI i), .int x2, .int x3, .int x4, .int x5]) (M := wC ov1 un1 nx dp fa cu st fi se th db (nI k) F) (u := 0) rfl (by decide) (gd_place (p := i) (by omega) hin.1 hin.2 (fun ov2 un2 n2 c2 k3 => ?_))
        show mm_W _ _ _ _ _ _ _ (67, [(0, .ref 0), (1, .int (nI i)), (2, .int x2), (3, .int x3), (4, .int x4), (5, .int x5)], [], wC ov2 un2 (nI n2) dp 0 cu st fi se th db (nI k) F, 0)
        obtain ⟨v1, L1, hP, hdi⟩ := mv_pre hI hi hz0 (fun j h1 _ _ h2 => by have e1 := c2 j (by omega) h2; have e2 := c1 j (by omega); exact ⟨e1.1.trans e2.1, e1.2.trans e2.2⟩) k3
        refine mm_skip (mm_call_mono _ _) 2 (st' := (69, [(0, .ref 0), (1, .int (nI i)), (2, .int x2), (3, .int x3), (4, .int x4), (5, .int x5)], [.int (nI i), .ref 0], wC ov2 un2 (nI n2) dp 0 cu st fi se th db (nI k) F, 0)) rfl ?_
        refine mm_inv (mm_call_mono _ _) (j := 27) (a := [.ref 0, .int (nI i)]) (M := wC ov2 un2 (nI n2) dp 0 cu st fi se th db (nI k) F) (u := 0) rfl (by decide) (gd_redraw hk (by omega) (fun l hl => mv_st (hS l hl)) (fun l hl => mv_wf (hw l hl) hz0 (inp_f hin.1).2 (inp_f hin.2).2) (hP db (fun _ _ => rfl)) (fun ov3 un3 nx3 dp3 fa3 cu3 db3 rr hF => ?_))
        show mm_W _ _ _ _ _ _ _ (72, [(0, .ref 0), (1, .int (nI i)), (2, .int x2), (3, .int x3), (4, .int x4), (5, .int x5)], [.int rr], wC ov3 un3 nx3 dp3 fa3 cu3 st fi se th db3 (nI k) F, 0)
        obtain ⟨P1, P2⟩ := mv_ok hI hi hz0 (inp_f hin.1).2 (inp_f hin.2).2 (fun _ _ => rfl) hF
        obtain ⟨hd3, fr9⟩ := rdF_fr hF
        have fr3 : ∀ j, j < 308 → 296 ≤ j → ov3 j = ov2 j ∧ un3 j = un2 j := fun j h1 h2 => fr9 j h1 (by omega) (fun l _ q _ => by omega)
        refine mm_skip (mm_call_mono _ _) 3 (st' := (77, [(6, .int rr), (0, .ref 0), (1, .int (nI i)), (2, .int x2), (3, .int x3), (4, .int x4), (5, .int x5)], [.int (-1), .int rr], wC ov3 un3 nx3 dp3 fa3 cu3 st fi se th db3 (nI k) F, 0)) rfl ?_
        refine mm_branch (mm_call_mono _ _) (c := rr = (-1)) (s1 := (93, [(6, .int rr), (0, .ref 0), (1, .int (nI i)), (2, .int x2), (3, .int x3), (4, .int x4), (5, .int x5)], [], wC ov3 un3 nx3 dp3 fa3 cu3 st fi se th db3 (nI k) F, 0)) (s2 := (80, [(6, .int rr), (0, .ref 0), (1, .int (nI i)), (2, .int x2), (3, .int x3), (4, .int x4), (5, .int x5)], [], wC ov3 un3 nx3 dp3 fa3 cu3 st fi se th db3 (nI k) F, 0)) rfl (fun hr => ?_) (fun hr => ?_)
        · skip
          refine mm_skip (mm_call_mono _ _) 1 (st' := (95, [(6, .int rr), (0, .ref 0), (1, .int (nI i)), (2, .int x2), (3, .int x3), (4, .int x4), (5, .int x5)], [.int rr], wC ov3 un3 nx3 dp3 fa3 cu3 st fi se th db3 (nI k) F, 0)) rfl ?_
          exact mm_ret (mm_call_mono _ _) (c := True) (r := .inl (some (.int rr))) (M := wC ov3 un3 nx3 dp3 fa3 cu3 st fi se th db3 (nI k) F) (u := 0) rfl trivial (by decide) (hQ _ _ _ _ _ _ _ _ _ _ _ _ (0, rr) _ _ ((aMove_s (by omega) y1 hz0 hin.1 hin.2 (P1 hr).2).trans (by rw [hr])) (P1 hr).1)
        · skip
          refine mm_skip (mm_call_mono _ _) 3 (st' := (84, [(6, .int rr), (0, .ref 0), (1, .int (nI i)), (2, .int x2), (3, .int x3), (4, .int x4), (5, .int x5)], [.int (nI i), .int 24, .ref 0], wC ov3 un3 nx3 dp3 fa3 cu3 st fi se th db3 (nI k) F, 0)) rfl ?_
          refine mm_inv (mm_call_mono _ _) (j := 40) (a := [.ref 0, .int 24, .int (nI i)]) (M := wC ov3 un3 nx3 dp3 fa3 cu3 st fi se th db3 (nI k) F) (u := 0) rfl (by decide) (gd_copyPlace (p := 24) (t := i) (by omega) (by omega) (by omega) (kp_k (kp_k k1 (fun j hj => c2 _ (by omega) (by omega))) (fun j hj => fr3 _ (by omega) (by omega))) (kp_k (kp_k k2 (fun j hj => c2 _ (by omega) (by omega))) (fun j hj => fr3 _ (by omega) (by omega))) (fun ov4 un4 c4 k4 k5 => ?_))
          show mm_W _ _ _ _ _ _ _ (87, [(6, .int rr), (0, .ref 0), (1, .int (nI i)), (2, .int x2), (3, .int x3), (4, .int x4), (5, .int x5)], [], wC ov4 un4 nx3 dp3 fa3 cu3 st fi se th db3 (nI k) F, 0)
          obtain ⟨v5, L5, hP5, hdi5⟩ := mv_pre (x := (S i).2.2.2.2.2.2.1) (y := (S i).2.2.2.2.2.2.2) (ov1 := ov4) (un1 := un4) hI hi hz0 (fun j h1 h2 h3 h4 => by have e1 := c4 j (by omega); have e2 := fr9 j (by omega) (by rw [← lvl_s hdi]; exact h2) (fun l q1 q2 q3 => h3 l q1 q2 (by rw [mv_1] at q3; exact q3)); have e3 := c2 j (by omega) h4; have e4 := c1 j (by omega); exact ⟨e1.1.trans (e2.1.trans (e3.1.trans e4.1)), e1.2.trans (e2.2.trans (e3.2.trans e4.2))⟩) ⟨k4, fun _ => k5, fun q => absurd q (by decide)⟩
          rw [mv_id] at hP5
          refine mm_skip (mm_call_mono _ _) 2 (st' := (89, [(6, .int rr), (0, .ref 0), (1, .int (nI i)), (2, .int x2), (3, .int x3), (4, .int x4), (5, .int x5)], [.int (nI i), .ref 0], wC ov4 un4 nx3 dp3 fa3 cu3 st fi se th db3 (nI k) F, 0)) rfl ?_
          refine mm_inv (mm_call_mono _ _) (j := 27) (a := [.ref 0, .int (nI i)]) (M := wC ov4 un4 nx3 dp3 fa3 cu3 st fi se th db3 (nI k) F) (u := 0) rfl (by decide) (gd_redraw hk (by omega) hS hw (hP5 db3 hd3) (fun ov6 un6 nx6 dp6 fa6 cu6 db6 r6 hF6 => ?_))
          show mm_W _ _ _ _ _ _ _ (92, [(6, .int rr), (0, .ref 0), (1, .int (nI i)), (2, .int x2), (3, .int x3), (4, .int x4), (5, .int x5)], [.int r6], wC ov6 un6 nx6 dp6 fa6 cu6 st fi se th db6 (nI k) F, 0)
          refine mm_skip (mm_call_mono _ _) 2 (st' := (95, [(6, .int rr), (0, .ref 0), (1, .int (nI i)), (2, .int x2), (3, .int x3), (4, .int x4), (5, .int x5)], [.int rr], wC ov6 un6 nx6 dp6 fa6 cu6 st fi se th db6 (nI k) F, 0)) rfl ?_
          exact mm_ret (mm_call_mono _ _) (c := True) (r := .inl (some (.int rr))) (M := wC ov6 un6 nx6 dp6 fa6 cu6 st fi se th db6 (nI k) F) (u := 0) rfl trivial (by decide) (hQ _ _ _ _ _ _ _ _ _ _ _ _ (0, rr) S k ((aMove_n (by omega) y1 hz0 hin.1 hin.2 (P2 hr).1).trans (by rw [(P2 hr).2])) (cI_mv hI hi hz0 hd3 hF6))
    · skip
      exact mm_ret (mm_call_mono _ _) (c := True) (r := .inr "java/lang/IllegalArgumentException") (M := wC ov un nx dp fa cu st fi se th db (nI k) F) (u := 1) rfl trivial (by decide) (hQ _ _ _ _ _ _ _ _ _ _ _ _ (1, 0) S k (if_neg (fun z => zf (by rw [(hS i hi).1]; have h := z.1.2; rw [cl_n (by omega)] at h; rw [h]; rfl))) hI)

set_option maxRecDepth 100000 in
theorem gf_meet {d : Nat} {ov un : Nat → Int32} {nx dp fa : Int32} {cu : mm_cu} {st fi se th db : Nat → Int32} {F : mm_M} {S : Nat → stp} {k : Nat} {x1 x2 x3 : Int32} {Q : mm_R → mm_M → Prop} (hI : cI S k ov un dp st fi se th db (nI k)) (hQ : ∀ (ov1 un1 st1 fi1 se1 th1 db1 : Nat → Int32) (nx1 dp1 fa1 cn1 : Int32) (cu1 : mm_cu) (r : oc) (S1 : Nat → stp) (k1 : Nat), aMeet S k x1 x2 x3 = (r, S1, k1) → cI S1 k1 ov1 un1 dp1 st1 fi1 se1 th1 db1 cn1 → Q (toR r) (wC ov1 un1 nx1 dp1 fa1 cu1 st1 fi1 se1 th1 db1 cn1 F)) : mm_call mm_Tb (d + 10) 4 [.ref 0, .int x1, .int x2, .int x3] (wC ov un nx dp fa cu st fi se th db (nI k) F) Q := by
  have hk := hI.1
  have hS := hI.2.2.1
  have hw := hI.2.2.2.1
  refine mm_in mt_4 (Nat.le_of_ble_eq_true rfl) ?_
  show mm_W _ _ _ _ _ _ _ (0, [(0, .ref 0), (1, .int x1), (2, .int x2), (3, .int x3)], [], wC ov un nx dp fa cu st fi se th db (nI k) F, 0)
  refine mm_skip (mm_call_mono _ _) 2 (st' := (2, [(0, .ref 0), (1, .int x1), (2, .int x2), (3, .int x3)], [.int x1, .ref 0], wC ov un nx dp fa cu st fi se th db (nI k) F, 0)) rfl ?_
  refine mm_inv (mm_call_mono _ _) (j := 21) (a := [.ref 0, .int x1]) (M := wC ov un nx dp fa cu st fi se th db (nI k) F) (u := 0) rfl (by decide) (gd_isCurve hk hS hw ?_)
  show mm_W _ _ _ _ _ _ _ (5, [(0, .ref 0), (1, .int x1), (2, .int x2), (3, .int x3)], [.int (bz (ckd S k x1 = 1 ∨ ckd S k x1 = 2))], wC ov un nx dp fa cu st fi se th db (nI k) F, 0)
  refine mm_branch (mm_call_mono _ _) (c := (bz (ckd S k x1 = 1 ∨ ckd S k x1 = 2)) = 0) (s1 := (21, [(0, .ref 0), (1, .int x1), (2, .int x2), (3, .int x3)], [], wC ov un nx dp fa cu st fi se th db (nI k) F, 0)) (s2 := (8, [(0, .ref 0), (1, .int x1), (2, .int x2), (3, .int x3)], [], wC ov un nx dp fa cu st fi se th db (nI k) F, 0)) rfl (fun z1 => ?_) (fun z1 => ?_)
  · skip
    exact mm_ret (mm_call_mono _ _) (c := True) (r := .inr "java/lang/IllegalArgumentException") (M := wC ov un nx dp fa cu st fi se th db (nI k) F) (u := 1) rfl trivial (by decide) (hQ _ _ _ _ _ _ _ _ _ _ _ _ (1, 0) S k (mokN (fun z => bz_0 z1 z.1)) hI)
  · skip
    refine mm_skip (mm_call_mono _ _) 2 (st' := (10, [(0, .ref 0), (1, .int x1), (2, .int x2), (3, .int x3)], [.int x2, .ref 0], wC ov un nx dp fa cu st fi se th db (nI k) F, 0)) rfl ?_
    refine mm_inv (mm_call_mono _ _) (j := 21) (a := [.ref 0, .int x2]) (M := wC ov un nx dp fa cu st fi se th db (nI k) F) (u := 0) rfl (by decide) (gd_isCurve hk hS hw ?_)
    show mm_W _ _ _ _ _ _ _ (13, [(0, .ref 0), (1, .int x1), (2, .int x2), (3, .int x3)], [.int (bz (ckd S k x2 = 1 ∨ ckd S k x2 = 2))], wC ov un nx dp fa cu st fi se th db (nI k) F, 0)
    refine mm_branch (mm_call_mono _ _) (c := (bz (ckd S k x2 = 1 ∨ ckd S k x2 = 2)) = 0) (s1 := (21, [(0, .ref 0), (1, .int x1), (2, .int x2), (3, .int x3)], [], wC ov un nx dp fa cu st fi se th db (nI k) F, 0)) (s2 := (16, [(0, .ref 0), (1, .int x1), (2, .int x2), (3, .int x3)], [], wC ov un nx dp fa cu st fi se th db (nI k) F, 0)) rfl (fun z2 => ?_) (fun z2 => ?_)
    · skip
      exact mm_ret (mm_call_mono _ _) (c := True) (r := .inr "java/lang/IllegalArgumentException") (M := wC ov un nx dp fa cu st fi se th db (nI k) F) (u := 1) rfl trivial (by decide) (hQ _ _ _ _ _ _ _ _ _ _ _ _ (1, 0) S k (mokN (fun z => bz_0 z2 z.2.1)) hI)
    · skip
      refine mm_skip (mm_call_mono _ _) 2 (st' := (18, [(0, .ref 0), (1, .int x1), (2, .int x2), (3, .int x3)], [.int x2, .int x1], wC ov un nx dp fa cu st fi se th db (nI k) F, 0)) rfl ?_
      refine mm_branch (mm_call_mono _ _) (c := x1 = x2) (s1 := (21, [(0, .ref 0), (1, .int x1), (2, .int x2), (3, .int x3)], [], wC ov un nx dp fa cu st fi se th db (nI k) F, 0)) (s2 := (31, [(0, .ref 0), (1, .int x1), (2, .int x2), (3, .int x3)], [], wC ov un nx dp fa cu st fi se th db (nI k) F, 0)) rfl (fun ze => ?_) (fun ze => ?_)
      · skip
        exact mm_ret (mm_call_mono _ _) (c := True) (r := .inr "java/lang/IllegalArgumentException") (M := wC ov un nx dp fa cu st fi se th db (nI k) F) (u := 1) rfl trivial (by decide) (hQ _ _ _ _ _ _ _ _ _ _ _ _ (1, 0) S k (mokN (fun z => z.2.2.1 ze)) hI)
      · skip
        refine mm_skip (mm_call_mono _ _) 2 (st' := (33, [(0, .ref 0), (1, .int x1), (2, .int x2), (3, .int x3)], [.int x1, .ref 0], wC ov un nx dp fa cu st fi se th db (nI k) F, 0)) rfl ?_
        refine mm_inv (mm_call_mono _ _) (j := 20) (a := [.ref 0, .int x1]) (M := wC ov un nx dp fa cu st fi se th db (nI k) F) (u := 0) rfl (by decide) (gd_isCircle hk hS hw ?_)
        show mm_W _ _ _ _ _ _ _ (36, [(0, .ref 0), (1, .int x1), (2, .int x2), (3, .int x3)], [.int (bz (ckd S k x1 = 2))], wC ov un nx dp fa cu st fi se th db (nI k) F, 0)
        refine mm_branch (mm_call_mono _ _) (c := (bz (ckd S k x1 = 2)) = 0) (s1 := (43, [(0, .ref 0), (1, .int x1), (2, .int x2), (3, .int x3)], [], wC ov un nx dp fa cu st fi se th db (nI k) F, 0)) (s2 := (39, [(0, .ref 0), (1, .int x1), (2, .int x2), (3, .int x3)], [], wC ov un nx dp fa cu st fi se th db (nI k) F, 0)) rfl (fun w1 => ?_) (fun w1 => ?_)
        · skip
          refine mm_skip (mm_call_mono _ _) 3 (st' := (46, [(0, .ref 0), (1, .int x1), (2, .int x2), (3, .int x3)], [.int x2, .ref 0, .int 0], wC ov un nx dp fa cu st fi se th db (nI k) F, 0)) rfl ?_
          refine mm_inv (mm_call_mono _ _) (j := 20) (a := [.ref 0, .int x2]) (M := wC ov un nx dp fa cu st fi se th db (nI k) F) (u := 0) rfl (by decide) (gd_isCircle hk hS hw ?_)
          show mm_W _ _ _ _ _ _ _ (49, [(0, .ref 0), (1, .int x1), (2, .int x2), (3, .int x3)], [.int (bz (ckd S k x2 = 2)), .int 0], wC ov un nx dp fa cu st fi se th db (nI k) F, 0)
          refine mm_branch (mm_call_mono _ _) (c := (bz (ckd S k x2 = 2)) = 0) (s1 := (56, [(0, .ref 0), (1, .int x1), (2, .int x2), (3, .int x3)], [.int 0], wC ov un nx dp fa cu st fi se th db (nI k) F, 0)) (s2 := (52, [(0, .ref 0), (1, .int x1), (2, .int x2), (3, .int x3)], [.int 0], wC ov un nx dp fa cu st fi se th db (nI k) F, 0)) rfl (fun w2 => ?_) (fun w2 => ?_)
          · skip
            refine mm_skip (mm_call_mono _ _) 4 (st' := (61, [(4, .int 0), (0, .ref 0), (1, .int x1), (2, .int x2), (3, .int x3)], [.int x3], wC ov un nx dp fa cu st fi se th db (nI k) F, 0)) rfl ?_
            refine mm_branch (mm_call_mono _ _) (c := x3 < 0) (s1 := (78, [(4, .int 0), (0, .ref 0), (1, .int x1), (2, .int x2), (3, .int x3)], [], wC ov un nx dp fa cu st fi se th db (nI k) F, 0)) (s2 := (64, [(4, .int 0), (0, .ref 0), (1, .int x1), (2, .int x2), (3, .int x3)], [], wC ov un nx dp fa cu st fi se th db (nI k) F, 0)) rfl (fun zn => ?_) (fun zn => ?_)
            · skip
              exact mm_ret (mm_call_mono _ _) (c := True) (r := .inr "java/lang/IllegalArgumentException") (M := wC ov un nx dp fa cu st fi se th db (nI k) F) (u := 1) rfl trivial (by decide) (hQ _ _ _ _ _ _ _ _ _ _ _ _ (1, 0) S k (mokN (fun z => z.2.2.2.1 zn)) hI)
            · skip
              refine mm_skip (mm_call_mono _ _) 2 (st' := (67, [(4, .int 0), (0, .ref 0), (1, .int x1), (2, .int x2), (3, .int x3)], [.int 0, .int x3], wC ov un nx dp fa cu st fi se th db (nI k) F, 0)) rfl ?_
              refine mm_branch (mm_call_mono _ _) (c := (0 : Int32) = 0) (s1 := (70, [(4, .int 0), (0, .ref 0), (1, .int x1), (2, .int x2), (3, .int x3)], [.int x3], wC ov un nx dp fa cu st fi se th db (nI k) F, 0)) (s2 := (74, [(4, .int 0), (0, .ref 0), (1, .int x1), (2, .int x2), (3, .int x3)], [.int x3], wC ov un nx dp fa cu st fi se th db (nI k) F, 0)) rfl (fun _ => ?_) (fun h => absurd (by decide) h)
              refine mm_skip (mm_call_mono _ _) 2 (st' := (75, [(4, .int 0), (0, .ref 0), (1, .int x1), (2, .int x2), (3, .int x3)], [.int 0, .int x3], wC ov un nx dp fa cu st fi se th db (nI k) F, 0)) rfl ?_
              refine mm_branch (mm_call_mono _ _) (c := x3 ≤ 0) (s1 := (88, [(4, .int 0), (0, .ref 0), (1, .int x1), (2, .int x2), (3, .int x3)], [], wC ov un nx dp fa cu st fi se th db (nI k) F, 0)) (s2 := (78, [(4, .int 0), (0, .ref 0), (1, .int x1), (2, .int x2), (3, .int x3)], [], wC ov un nx dp fa cu st fi se th db (nI k) F, 0)) rfl (fun zl => ?_) (fun zl => ?_)
              · skip
                have y1 : ckd S k x1 = 1 := (bz_1 z1).resolve_right (bz_0 w1)
                have y2 : ckd S k x2 = 1 := (bz_1 z2).resolve_right (bz_0 w2)
                obtain ⟨i, hi, rfl, ci⟩ := ckd_c (c := 1) hk (by decide) y1
                obtain ⟨j, hj, rfl, cj⟩ := ckd_c (c := 1) hk (by decide) y2
                obtain ⟨w, hwl, rfl⟩ := nI_of2 (M := 0) (n := 0) (by decide) zn zl
                refine mm_skip (mm_call_mono _ _) 2 (st' := (91, [(4, .int 0), (0, .ref 0), (1, .int (nI i)), (2, .int (nI j)), (3, .int (nI w))], [.int 1, .int 0], wC ov un nx dp fa cu st fi se th db (nI k) F, 0)) rfl ?_
                refine mm_branch (mm_call_mono _ _) (c := (0 : Int32) = 1) (s1 := (121, [(4, .int 0), (0, .ref 0), (1, .int (nI i)), (2, .int (nI j)), (3, .int (nI w))], [], wC ov un nx dp fa cu st fi se th db (nI k) F, 0)) (s2 := (94, [(4, .int 0), (0, .ref 0), (1, .int (nI i)), (2, .int (nI j)), (3, .int (nI w))], [], wC ov un nx dp fa cu st fi se th db (nI k) F, 0)) rfl (fun h => absurd h (by decide)) (fun _ => ?_)
                refine mm_skip (mm_call_mono _ _) 4 (st' := (99, [(4, .int 0), (0, .ref 0), (1, .int (nI i)), (2, .int (nI j)), (3, .int (nI w))], [.int 0, .ref 0, .ref 0, .ref 0], wC ov un nx dp fa cu st fi se th db (nI k) F, 0)) rfl ?_
                refine mm_branch (mm_call_mono _ _) (c := (0 : Int32) = 0) (s1 := (102, [(4, .int 0), (0, .ref 0), (1, .int (nI i)), (2, .int (nI j)), (3, .int (nI w))], [.ref 0, .ref 0, .ref 0], wC ov un nx dp fa cu st fi se th db (nI k) F, 0)) (s2 := (106, [(4, .int 0), (0, .ref 0), (1, .int (nI i)), (2, .int (nI j)), (3, .int (nI w))], [.ref 0, .ref 0, .ref 0], wC ov un nx dp fa cu st fi se th db (nI k) F, 0)) rfl (fun _ => ?_) (fun h => absurd (by decide) h)
                refine mm_skip (mm_call_mono _ _) 5 (st' := (111, [(4, .int 0), (0, .ref 0), (1, .int (nI i)), (2, .int (nI j)), (3, .int (nI w))], [.int (nI w), .int (nI j), .int (nI i), .int 4, .ref 0, .ref 0, .ref 0], wC ov un nx dp fa cu st fi se th db (nI k) F, 0)) rfl ?_
                refine mm_inv (mm_call_mono _ _) (j := 24) (a := [.ref 0, .int 4, .int (nI i), .int (nI j), .int (nI w)]) (M := wC ov un nx dp fa cu st fi se th db (nI k) F) (u := 1) rfl (by decide) (gd_addStep hk (fun h24 => (hQ _ _ _ _ _ _ _ _ _ _ _ _ (2, 0) S k ((aMeet_4 y1 y2 ze (by omega) (by omega) (by omega) zl).trans (aAdd_24 h24)) hI)) (fun hk24 => ?_))
                show mm_W _ _ _ _ _ _ _ (114, [(4, .int 0), (0, .ref 0), (1, .int (nI i)), (2, .int (nI j)), (3, .int (nI w))], [.int (nI k), .ref 0, .ref 0], wC ov un nx dp fa cu (upd st k (nI 4)) (upd fi k (nI i)) (upd se k (nI j)) (upd th k (nI w)) db (nI (k + 1)) F, 1)
                obtain ⟨hS1, hw1, v, L, hdp, hI1⟩ := ad_pre (s := (4, i, j, w, 0, 0, z0, z0)) hI hk24 (wf_4 hi hj ci cj) (fun _ _ _ => ⟨rfl, rfl⟩) (fun q => absurd (show 4 = 0 from q) (by decide))
                refine mm_inv (mm_call_mono _ _) (j := 27) (a := [.ref 0, .int (nI k)]) (M := wC ov un nx dp fa cu (upd st k (nI 4)) (upd fi k (nI i)) (upd se k (nI j)) (upd th k (nI w)) db (nI (k + 1)) F) (u := 1) rfl (by decide) (gd_redraw (by omega) (by omega) hS1 hw1 hI1 (fun ov2 un2 nx2 dp2 fa2 cu2 db2 rr hF => ?_))
                show mm_W _ _ _ _ _ _ _ (117, [(4, .int 0), (0, .ref 0), (1, .int (nI i)), (2, .int (nI j)), (3, .int (nI w))], [.int rr, .ref 0], wC ov2 un2 nx2 dp2 fa2 cu2 (upd st k (nI 4)) (upd fi k (nI i)) (upd se k (nI j)) (upd th k (nI w)) db2 (nI (k + 1)) F, 1)
                obtain ⟨P1, P2⟩ := ad_post hI hk24 hS1 hw1 hF
                refine mm_inv (mm_call_mono _ _) (j := 25) (a := [.ref 0, .int rr]) (M := wC ov2 un2 nx2 dp2 fa2 cu2 (upd st k (nI 4)) (upd fi k (nI i)) (upd se k (nI j)) (upd th k (nI w)) db2 (nI (k + 1)) F) (u := 2) rfl (by decide) (gd_settle hk24 (fun hr => (hQ _ _ _ _ _ _ _ _ _ _ _ _ (3, 0) S k ((aMeet_4 y1 y2 ze (by omega) (by omega) (by omega) zl).trans (P2 hr).2) (P2 hr).1)) (fun hr => ?_))
                show mm_W _ _ _ _ _ _ _ (120, [(4, .int 0), (0, .ref 0), (1, .int (nI i)), (2, .int (nI j)), (3, .int (nI w))], [.int (nI k)], wC ov2 un2 nx2 dp2 fa2 cu2 (upd st k (nI 4)) (upd fi k (nI i)) (upd se k (nI j)) (upd th k (nI w)) db2 (nI (k + 1)) F, 2)
                exact mm_ret (mm_call_mono _ _) (c := True) (r := .inl (some (.int (nI k)))) (M := wC ov2 un2 nx2 dp2 fa2 cu2 (upd st k (nI 4)) (upd fi k (nI i)) (upd se k (nI j)) (upd th k (nI w)) db2 (nI (k + 1)) F) (u := 2) rfl trivial (by decide) (hQ _ _ _ _ _ _ _ _ _ _ _ _ (0, nI k) _ _ ((aMeet_4 y1 y2 ze (by omega) (by omega) (by omega) zl).trans (P1 hr).2) (P1 hr).1)
              · skip
                exact mm_ret (mm_call_mono _ _) (c := True) (r := .inr "java/lang/IllegalArgumentException") (M := wC ov un nx dp fa cu st fi se th db (nI k) F) (u := 1) rfl trivial (by decide) (hQ _ _ _ _ _ _ _ _ _ _ _ _ (1, 0) S k (mokN (fun z => zl (by have h := z.2.2.2.2; rw [if_pos (⟨(bz_1 z1).resolve_right (bz_0 w1), (bz_1 z2).resolve_right (bz_0 w2)⟩)] at h; exact h))) hI)
          · skip
            refine mm_skip (mm_call_mono _ _) 5 (st' := (61, [(4, .int 1), (0, .ref 0), (1, .int x1), (2, .int x2), (3, .int x3)], [.int x3], wC ov un nx dp fa cu st fi se th db (nI k) F, 0)) rfl ?_
            refine mm_branch (mm_call_mono _ _) (c := x3 < 0) (s1 := (78, [(4, .int 1), (0, .ref 0), (1, .int x1), (2, .int x2), (3, .int x3)], [], wC ov un nx dp fa cu st fi se th db (nI k) F, 0)) (s2 := (64, [(4, .int 1), (0, .ref 0), (1, .int x1), (2, .int x2), (3, .int x3)], [], wC ov un nx dp fa cu st fi se th db (nI k) F, 0)) rfl (fun zn => ?_) (fun zn => ?_)
            · skip
              exact mm_ret (mm_call_mono _ _) (c := True) (r := .inr "java/lang/IllegalArgumentException") (M := wC ov un nx dp fa cu st fi se th db (nI k) F) (u := 1) rfl trivial (by decide) (hQ _ _ _ _ _ _ _ _ _ _ _ _ (1, 0) S k (mokN (fun z => z.2.2.2.1 zn)) hI)
            · skip
              refine mm_skip (mm_call_mono _ _) 2 (st' := (67, [(4, .int 1), (0, .ref 0), (1, .int x1), (2, .int x2), (3, .int x3)], [.int 1, .int x3], wC ov un nx dp fa cu st fi se th db (nI k) F, 0)) rfl ?_
              refine mm_branch (mm_call_mono _ _) (c := (1 : Int32) = 0) (s1 := (70, [(4, .int 1), (0, .ref 0), (1, .int x1), (2, .int x2), (3, .int x3)], [.int x3], wC ov un nx dp fa cu st fi se th db (nI k) F, 0)) (s2 := (74, [(4, .int 1), (0, .ref 0), (1, .int x1), (2, .int x2), (3, .int x3)], [.int x3], wC ov un nx dp fa cu st fi se th db (nI k) F, 0)) rfl (fun h => absurd h (by decide)) (fun _ => ?_)
              refine mm_skip (mm_call_mono _ _) 1 (st' := (75, [(4, .int 1), (0, .ref 0), (1, .int x1), (2, .int x2), (3, .int x3)], [.int 1, .int x3], wC ov un nx dp fa cu st fi se th db (nI k) F, 0)) rfl ?_
              refine mm_branch (mm_call_mono _ _) (c := x3 ≤ 1) (s1 := (88, [(4, .int 1), (0, .ref 0), (1, .int x1), (2, .int x2), (3, .int x3)], [], wC ov un nx dp fa cu st fi se th db (nI k) F, 0)) (s2 := (78, [(4, .int 1), (0, .ref 0), (1, .int x1), (2, .int x2), (3, .int x3)], [], wC ov un nx dp fa cu st fi se th db (nI k) F, 0)) rfl (fun zl => ?_) (fun zl => ?_)
              · skip
                have y1 : ckd S k x1 = 1 := (bz_1 z1).resolve_right (bz_0 w1)
                have y2 : ckd S k x2 = 2 := bz_1 w2
                obtain ⟨i, hi, rfl, ci⟩ := ckd_c (c := 1) hk (by decide) y1
                obtain ⟨j, hj, rfl, cj⟩ := ckd_c (c := 2) hk (by decide) y2
                obtain ⟨w, hwl, rfl⟩ := nI_of2 (M := 1) (n := 1) (by decide) zn zl
                refine mm_skip (mm_call_mono _ _) 2 (st' := (91, [(4, .int 1), (0, .ref 0), (1, .int (nI i)), (2, .int (nI j)), (3, .int (nI w))], [.int 1, .int 1], wC ov un nx dp fa cu st fi se th db (nI k) F, 0)) rfl ?_
                refine mm_branch (mm_call_mono _ _) (c := (1 : Int32) = 1) (s1 := (121, [(4, .int 1), (0, .ref 0), (1, .int (nI i)), (2, .int (nI j)), (3, .int (nI w))], [], wC ov un nx dp fa cu st fi se th db (nI k) F, 0)) (s2 := (94, [(4, .int 1), (0, .ref 0), (1, .int (nI i)), (2, .int (nI j)), (3, .int (nI w))], [], wC ov un nx dp fa cu st fi se th db (nI k) F, 0)) rfl (fun _ => ?_) (fun h => absurd (by decide) h)
                refine mm_skip (mm_call_mono _ _) 6 (st' := (127, [(4, .int 1), (0, .ref 0), (1, .int (nI i)), (2, .int (nI j)), (3, .int (nI w))], [.int (nI i), .ref 0, .int 5, .ref 0, .ref 0, .ref 0], wC ov un nx dp fa cu st fi se th db (nI k) F, 0)) rfl ?_
                refine mm_inv (mm_call_mono _ _) (j := 19) (a := [.ref 0, .int (nI i)]) (M := wC ov un nx dp fa cu st fi se th db (nI k) F) (u := 0) rfl (by decide) (gd_isLine hk hS hw ?_)
                show mm_W _ _ _ _ _ _ _ (130, [(4, .int 1), (0, .ref 0), (1, .int (nI i)), (2, .int (nI j)), (3, .int (nI w))], [.int (bz (ckd S k (nI i) = 1)), .int 5, .ref 0, .ref 0, .ref 0], wC ov un nx dp fa cu st fi se th db (nI k) F, 0)
                refine mm_branch (mm_call_mono _ _) (c := (bz (ckd S k (nI i) = 1)) = 0) (s1 := (137, [(4, .int 1), (0, .ref 0), (1, .int (nI i)), (2, .int (nI j)), (3, .int (nI w))], [.int 5, .ref 0, .ref 0, .ref 0], wC ov un nx dp fa cu st fi se th db (nI k) F, 0)) (s2 := (133, [(4, .int 1), (0, .ref 0), (1, .int (nI i)), (2, .int (nI j)), (3, .int (nI w))], [.int 5, .ref 0, .ref 0, .ref 0], wC ov un nx dp fa cu st fi se th db (nI k) F, 0)) rfl (fun h => absurd h (fun z => bz_0 z y1)) (fun _ => ?_)
                refine mm_skip (mm_call_mono _ _) 4 (st' := (140, [(4, .int 1), (0, .ref 0), (1, .int (nI i)), (2, .int (nI j)), (3, .int (nI w))], [.int (nI i), .ref 0, .int (nI i), .int 5, .ref 0, .ref 0, .ref 0], wC ov un nx dp fa cu st fi se th db (nI k) F, 0)) rfl ?_
                refine mm_inv (mm_call_mono _ _) (j := 19) (a := [.ref 0, .int (nI i)]) (M := wC ov un nx dp fa cu st fi se th db (nI k) F) (u := 0) rfl (by decide) (gd_isLine hk hS hw ?_)
                show mm_W _ _ _ _ _ _ _ (143, [(4, .int 1), (0, .ref 0), (1, .int (nI i)), (2, .int (nI j)), (3, .int (nI w))], [.int (bz (ckd S k (nI i) = 1)), .int (nI i), .int 5, .ref 0, .ref 0, .ref 0], wC ov un nx dp fa cu st fi se th db (nI k) F, 0)
                refine mm_branch (mm_call_mono _ _) (c := (bz (ckd S k (nI i) = 1)) = 0) (s1 := (150, [(4, .int 1), (0, .ref 0), (1, .int (nI i)), (2, .int (nI j)), (3, .int (nI w))], [.int (nI i), .int 5, .ref 0, .ref 0, .ref 0], wC ov un nx dp fa cu st fi se th db (nI k) F, 0)) (s2 := (146, [(4, .int 1), (0, .ref 0), (1, .int (nI i)), (2, .int (nI j)), (3, .int (nI w))], [.int (nI i), .int 5, .ref 0, .ref 0, .ref 0], wC ov un nx dp fa cu st fi se th db (nI k) F, 0)) rfl (fun h => absurd h (fun z => bz_0 z y1)) (fun _ => ?_)
                refine mm_skip (mm_call_mono _ _) 3 (st' := (152, [(4, .int 1), (0, .ref 0), (1, .int (nI i)), (2, .int (nI j)), (3, .int (nI w))], [.int (nI w), .int (nI j), .int (nI i), .int 5, .ref 0, .ref 0, .ref 0], wC ov un nx dp fa cu st fi se th db (nI k) F, 0)) rfl ?_
                refine mm_inv (mm_call_mono _ _) (j := 24) (a := [.ref 0, .int 5, .int (nI i), .int (nI j), .int (nI w)]) (M := wC ov un nx dp fa cu st fi se th db (nI k) F) (u := 1) rfl (by decide) (gd_addStep hk (fun h24 => (hQ _ _ _ _ _ _ _ _ _ _ _ _ (2, 0) S k ((aMeet_5 y1 y2 ze (by omega) (by omega) (by omega)).trans (aAdd_24 h24)) hI)) (fun hk24 => ?_))
                show mm_W _ _ _ _ _ _ _ (155, [(4, .int 1), (0, .ref 0), (1, .int (nI i)), (2, .int (nI j)), (3, .int (nI w))], [.int (nI k), .ref 0, .ref 0], wC ov un nx dp fa cu (upd st k (nI 5)) (upd fi k (nI i)) (upd se k (nI j)) (upd th k (nI w)) db (nI (k + 1)) F, 1)
                obtain ⟨hS1, hw1, v, L, hdp, hI1⟩ := ad_pre (s := (5, i, j, w, (S j).2.1, 0, z0, z0)) hI hk24 (wf_5 hi hj ci cj (hw j hj) hwl) (fun _ _ _ => ⟨rfl, rfl⟩) (fun q => absurd (show 5 = 0 from q) (by decide))
                refine mm_inv (mm_call_mono _ _) (j := 27) (a := [.ref 0, .int (nI k)]) (M := wC ov un nx dp fa cu (upd st k (nI 5)) (upd fi k (nI i)) (upd se k (nI j)) (upd th k (nI w)) db (nI (k + 1)) F) (u := 1) rfl (by decide) (gd_redraw (by omega) (by omega) hS1 hw1 hI1 (fun ov2 un2 nx2 dp2 fa2 cu2 db2 rr hF => ?_))
                show mm_W _ _ _ _ _ _ _ (158, [(4, .int 1), (0, .ref 0), (1, .int (nI i)), (2, .int (nI j)), (3, .int (nI w))], [.int rr, .ref 0], wC ov2 un2 nx2 dp2 fa2 cu2 (upd st k (nI 5)) (upd fi k (nI i)) (upd se k (nI j)) (upd th k (nI w)) db2 (nI (k + 1)) F, 1)
                obtain ⟨P1, P2⟩ := ad_post hI hk24 hS1 hw1 hF
                refine mm_inv (mm_call_mono _ _) (j := 25) (a := [.ref 0, .int rr]) (M := wC ov2 un2 nx2 dp2 fa2 cu2 (upd st k (nI 5)) (upd fi k (nI i)) (upd se k (nI j)) (upd th k (nI w)) db2 (nI (k + 1)) F) (u := 2) rfl (by decide) (gd_settle hk24 (fun hr => (hQ _ _ _ _ _ _ _ _ _ _ _ _ (3, 0) S k ((aMeet_5 y1 y2 ze (by omega) (by omega) (by omega)).trans (P2 hr).2) (P2 hr).1)) (fun hr => ?_))
                show mm_W _ _ _ _ _ _ _ (161, [(4, .int 1), (0, .ref 0), (1, .int (nI i)), (2, .int (nI j)), (3, .int (nI w))], [.int (nI k)], wC ov2 un2 nx2 dp2 fa2 cu2 (upd st k (nI 5)) (upd fi k (nI i)) (upd se k (nI j)) (upd th k (nI w)) db2 (nI (k + 1)) F, 2)
                exact mm_ret (mm_call_mono _ _) (c := True) (r := .inl (some (.int (nI k)))) (M := wC ov2 un2 nx2 dp2 fa2 cu2 (upd st k (nI 5)) (upd fi k (nI i)) (upd se k (nI j)) (upd th k (nI w)) db2 (nI (k + 1)) F) (u := 2) rfl trivial (by decide) (hQ _ _ _ _ _ _ _ _ _ _ _ _ (0, nI k) _ _ ((aMeet_5 y1 y2 ze (by omega) (by omega) (by omega)).trans (P1 hr).2) (P1 hr).1)
              · skip
                exact mm_ret (mm_call_mono _ _) (c := True) (r := .inr "java/lang/IllegalArgumentException") (M := wC ov un nx dp fa cu st fi se th db (nI k) F) (u := 1) rfl trivial (by decide) (hQ _ _ _ _ _ _ _ _ _ _ _ _ (1, 0) S k (mokN (fun z => zl (by have h := z.2.2.2.2; rw [if_neg (fun q => ck12 (bz_1 w2) q.2)] at h; exact h))) hI)
        · skip
          refine mm_skip (mm_call_mono _ _) 4 (st' := (46, [(0, .ref 0), (1, .int x1), (2, .int x2), (3, .int x3)], [.int x2, .ref 0, .int 1], wC ov un nx dp fa cu st fi se th db (nI k) F, 0)) rfl ?_
          refine mm_inv (mm_call_mono _ _) (j := 20) (a := [.ref 0, .int x2]) (M := wC ov un nx dp fa cu st fi se th db (nI k) F) (u := 0) rfl (by decide) (gd_isCircle hk hS hw ?_)
          show mm_W _ _ _ _ _ _ _ (49, [(0, .ref 0), (1, .int x1), (2, .int x2), (3, .int x3)], [.int (bz (ckd S k x2 = 2)), .int 1], wC ov un nx dp fa cu st fi se th db (nI k) F, 0)
          refine mm_branch (mm_call_mono _ _) (c := (bz (ckd S k x2 = 2)) = 0) (s1 := (56, [(0, .ref 0), (1, .int x1), (2, .int x2), (3, .int x3)], [.int 1], wC ov un nx dp fa cu st fi se th db (nI k) F, 0)) (s2 := (52, [(0, .ref 0), (1, .int x1), (2, .int x2), (3, .int x3)], [.int 1], wC ov un nx dp fa cu st fi se th db (nI k) F, 0)) rfl (fun w2 => ?_) (fun w2 => ?_)
          · skip
            refine mm_skip (mm_call_mono _ _) 4 (st' := (61, [(4, .int 1), (0, .ref 0), (1, .int x1), (2, .int x2), (3, .int x3)], [.int x3], wC ov un nx dp fa cu st fi se th db (nI k) F, 0)) rfl ?_
            refine mm_branch (mm_call_mono _ _) (c := x3 < 0) (s1 := (78, [(4, .int 1), (0, .ref 0), (1, .int x1), (2, .int x2), (3, .int x3)], [], wC ov un nx dp fa cu st fi se th db (nI k) F, 0)) (s2 := (64, [(4, .int 1), (0, .ref 0), (1, .int x1), (2, .int x2), (3, .int x3)], [], wC ov un nx dp fa cu st fi se th db (nI k) F, 0)) rfl (fun zn => ?_) (fun zn => ?_)
            · skip
              exact mm_ret (mm_call_mono _ _) (c := True) (r := .inr "java/lang/IllegalArgumentException") (M := wC ov un nx dp fa cu st fi se th db (nI k) F) (u := 1) rfl trivial (by decide) (hQ _ _ _ _ _ _ _ _ _ _ _ _ (1, 0) S k (mokN (fun z => z.2.2.2.1 zn)) hI)
            · skip
              refine mm_skip (mm_call_mono _ _) 2 (st' := (67, [(4, .int 1), (0, .ref 0), (1, .int x1), (2, .int x2), (3, .int x3)], [.int 1, .int x3], wC ov un nx dp fa cu st fi se th db (nI k) F, 0)) rfl ?_
              refine mm_branch (mm_call_mono _ _) (c := (1 : Int32) = 0) (s1 := (70, [(4, .int 1), (0, .ref 0), (1, .int x1), (2, .int x2), (3, .int x3)], [.int x3], wC ov un nx dp fa cu st fi se th db (nI k) F, 0)) (s2 := (74, [(4, .int 1), (0, .ref 0), (1, .int x1), (2, .int x2), (3, .int x3)], [.int x3], wC ov un nx dp fa cu st fi se th db (nI k) F, 0)) rfl (fun h => absurd h (by decide)) (fun _ => ?_)
              refine mm_skip (mm_call_mono _ _) 1 (st' := (75, [(4, .int 1), (0, .ref 0), (1, .int x1), (2, .int x2), (3, .int x3)], [.int 1, .int x3], wC ov un nx dp fa cu st fi se th db (nI k) F, 0)) rfl ?_
              refine mm_branch (mm_call_mono _ _) (c := x3 ≤ 1) (s1 := (88, [(4, .int 1), (0, .ref 0), (1, .int x1), (2, .int x2), (3, .int x3)], [], wC ov un nx dp fa cu st fi se th db (nI k) F, 0)) (s2 := (78, [(4, .int 1), (0, .ref 0), (1, .int x1), (2, .int x2), (3, .int x3)], [], wC ov un nx dp fa cu st fi se th db (nI k) F, 0)) rfl (fun zl => ?_) (fun zl => ?_)
              · skip
                have y1 : ckd S k x1 = 2 := bz_1 w1
                have y2 : ckd S k x2 = 1 := (bz_1 z2).resolve_right (bz_0 w2)
                obtain ⟨i, hi, rfl, ci⟩ := ckd_c (c := 2) hk (by decide) y1
                obtain ⟨j, hj, rfl, cj⟩ := ckd_c (c := 1) hk (by decide) y2
                obtain ⟨w, hwl, rfl⟩ := nI_of2 (M := 1) (n := 1) (by decide) zn zl
                refine mm_skip (mm_call_mono _ _) 2 (st' := (91, [(4, .int 1), (0, .ref 0), (1, .int (nI i)), (2, .int (nI j)), (3, .int (nI w))], [.int 1, .int 1], wC ov un nx dp fa cu st fi se th db (nI k) F, 0)) rfl ?_
                refine mm_branch (mm_call_mono _ _) (c := (1 : Int32) = 1) (s1 := (121, [(4, .int 1), (0, .ref 0), (1, .int (nI i)), (2, .int (nI j)), (3, .int (nI w))], [], wC ov un nx dp fa cu st fi se th db (nI k) F, 0)) (s2 := (94, [(4, .int 1), (0, .ref 0), (1, .int (nI i)), (2, .int (nI j)), (3, .int (nI w))], [], wC ov un nx dp fa cu st fi se th db (nI k) F, 0)) rfl (fun _ => ?_) (fun h => absurd (by decide) h)
                refine mm_skip (mm_call_mono _ _) 6 (st' := (127, [(4, .int 1), (0, .ref 0), (1, .int (nI i)), (2, .int (nI j)), (3, .int (nI w))], [.int (nI i), .ref 0, .int 5, .ref 0, .ref 0, .ref 0], wC ov un nx dp fa cu st fi se th db (nI k) F, 0)) rfl ?_
                refine mm_inv (mm_call_mono _ _) (j := 19) (a := [.ref 0, .int (nI i)]) (M := wC ov un nx dp fa cu st fi se th db (nI k) F) (u := 0) rfl (by decide) (gd_isLine hk hS hw ?_)
                show mm_W _ _ _ _ _ _ _ (130, [(4, .int 1), (0, .ref 0), (1, .int (nI i)), (2, .int (nI j)), (3, .int (nI w))], [.int (bz (ckd S k (nI i) = 1)), .int 5, .ref 0, .ref 0, .ref 0], wC ov un nx dp fa cu st fi se th db (nI k) F, 0)
                refine mm_branch (mm_call_mono _ _) (c := (bz (ckd S k (nI i) = 1)) = 0) (s1 := (137, [(4, .int 1), (0, .ref 0), (1, .int (nI i)), (2, .int (nI j)), (3, .int (nI w))], [.int 5, .ref 0, .ref 0, .ref 0], wC ov un nx dp fa cu st fi se th db (nI k) F, 0)) (s2 := (133, [(4, .int 1), (0, .ref 0), (1, .int (nI i)), (2, .int (nI j)), (3, .int (nI w))], [.int 5, .ref 0, .ref 0, .ref 0], wC ov un nx dp fa cu st fi se th db (nI k) F, 0)) rfl (fun _ => ?_) (fun h => absurd (bz_f (ck12 y1)) h)
                refine mm_skip (mm_call_mono _ _) 3 (st' := (140, [(4, .int 1), (0, .ref 0), (1, .int (nI i)), (2, .int (nI j)), (3, .int (nI w))], [.int (nI i), .ref 0, .int (nI j), .int 5, .ref 0, .ref 0, .ref 0], wC ov un nx dp fa cu st fi se th db (nI k) F, 0)) rfl ?_
                refine mm_inv (mm_call_mono _ _) (j := 19) (a := [.ref 0, .int (nI i)]) (M := wC ov un nx dp fa cu st fi se th db (nI k) F) (u := 0) rfl (by decide) (gd_isLine hk hS hw ?_)
                show mm_W _ _ _ _ _ _ _ (143, [(4, .int 1), (0, .ref 0), (1, .int (nI i)), (2, .int (nI j)), (3, .int (nI w))], [.int (bz (ckd S k (nI i) = 1)), .int (nI j), .int 5, .ref 0, .ref 0, .ref 0], wC ov un nx dp fa cu st fi se th db (nI k) F, 0)
                refine mm_branch (mm_call_mono _ _) (c := (bz (ckd S k (nI i) = 1)) = 0) (s1 := (150, [(4, .int 1), (0, .ref 0), (1, .int (nI i)), (2, .int (nI j)), (3, .int (nI w))], [.int (nI j), .int 5, .ref 0, .ref 0, .ref 0], wC ov un nx dp fa cu st fi se th db (nI k) F, 0)) (s2 := (146, [(4, .int 1), (0, .ref 0), (1, .int (nI i)), (2, .int (nI j)), (3, .int (nI w))], [.int (nI j), .int 5, .ref 0, .ref 0, .ref 0], wC ov un nx dp fa cu st fi se th db (nI k) F, 0)) rfl (fun _ => ?_) (fun h => absurd (bz_f (ck12 y1)) h)
                refine mm_skip (mm_call_mono _ _) 2 (st' := (152, [(4, .int 1), (0, .ref 0), (1, .int (nI i)), (2, .int (nI j)), (3, .int (nI w))], [.int (nI w), .int (nI i), .int (nI j), .int 5, .ref 0, .ref 0, .ref 0], wC ov un nx dp fa cu st fi se th db (nI k) F, 0)) rfl ?_
                refine mm_inv (mm_call_mono _ _) (j := 24) (a := [.ref 0, .int 5, .int (nI j), .int (nI i), .int (nI w)]) (M := wC ov un nx dp fa cu st fi se th db (nI k) F) (u := 1) rfl (by decide) (gd_addStep hk (fun h24 => (hQ _ _ _ _ _ _ _ _ _ _ _ _ (2, 0) S k ((aMeet_5b y1 y2 ze (by omega) (by omega) (by omega)).trans (aAdd_24 h24)) hI)) (fun hk24 => ?_))
                show mm_W _ _ _ _ _ _ _ (155, [(4, .int 1), (0, .ref 0), (1, .int (nI i)), (2, .int (nI j)), (3, .int (nI w))], [.int (nI k), .ref 0, .ref 0], wC ov un nx dp fa cu (upd st k (nI 5)) (upd fi k (nI j)) (upd se k (nI i)) (upd th k (nI w)) db (nI (k + 1)) F, 1)
                obtain ⟨hS1, hw1, v, L, hdp, hI1⟩ := ad_pre (s := (5, j, i, w, (S i).2.1, 0, z0, z0)) hI hk24 (wf_5 hj hi cj ci (hw i hi) hwl) (fun _ _ _ => ⟨rfl, rfl⟩) (fun q => absurd (show 5 = 0 from q) (by decide))
                refine mm_inv (mm_call_mono _ _) (j := 27) (a := [.ref 0, .int (nI k)]) (M := wC ov un nx dp fa cu (upd st k (nI 5)) (upd fi k (nI j)) (upd se k (nI i)) (upd th k (nI w)) db (nI (k + 1)) F) (u := 1) rfl (by decide) (gd_redraw (by omega) (by omega) hS1 hw1 hI1 (fun ov2 un2 nx2 dp2 fa2 cu2 db2 rr hF => ?_))
                show mm_W _ _ _ _ _ _ _ (158, [(4, .int 1), (0, .ref 0), (1, .int (nI i)), (2, .int (nI j)), (3, .int (nI w))], [.int rr, .ref 0], wC ov2 un2 nx2 dp2 fa2 cu2 (upd st k (nI 5)) (upd fi k (nI j)) (upd se k (nI i)) (upd th k (nI w)) db2 (nI (k + 1)) F, 1)
                obtain ⟨P1, P2⟩ := ad_post hI hk24 hS1 hw1 hF
                refine mm_inv (mm_call_mono _ _) (j := 25) (a := [.ref 0, .int rr]) (M := wC ov2 un2 nx2 dp2 fa2 cu2 (upd st k (nI 5)) (upd fi k (nI j)) (upd se k (nI i)) (upd th k (nI w)) db2 (nI (k + 1)) F) (u := 2) rfl (by decide) (gd_settle hk24 (fun hr => (hQ _ _ _ _ _ _ _ _ _ _ _ _ (3, 0) S k ((aMeet_5b y1 y2 ze (by omega) (by omega) (by omega)).trans (P2 hr).2) (P2 hr).1)) (fun hr => ?_))
                show mm_W _ _ _ _ _ _ _ (161, [(4, .int 1), (0, .ref 0), (1, .int (nI i)), (2, .int (nI j)), (3, .int (nI w))], [.int (nI k)], wC ov2 un2 nx2 dp2 fa2 cu2 (upd st k (nI 5)) (upd fi k (nI j)) (upd se k (nI i)) (upd th k (nI w)) db2 (nI (k + 1)) F, 2)
                exact mm_ret (mm_call_mono _ _) (c := True) (r := .inl (some (.int (nI k)))) (M := wC ov2 un2 nx2 dp2 fa2 cu2 (upd st k (nI 5)) (upd fi k (nI j)) (upd se k (nI i)) (upd th k (nI w)) db2 (nI (k + 1)) F) (u := 2) rfl trivial (by decide) (hQ _ _ _ _ _ _ _ _ _ _ _ _ (0, nI k) _ _ ((aMeet_5b y1 y2 ze (by omega) (by omega) (by omega)).trans (P1 hr).2) (P1 hr).1)
              · skip
                exact mm_ret (mm_call_mono _ _) (c := True) (r := .inr "java/lang/IllegalArgumentException") (M := wC ov un nx dp fa cu st fi se th db (nI k) F) (u := 1) rfl trivial (by decide) (hQ _ _ _ _ _ _ _ _ _ _ _ _ (1, 0) S k (mokN (fun z => zl (by have h := z.2.2.2.2; rw [if_neg (fun q => ck12 (bz_1 w1) q.1)] at h; exact h))) hI)
          · skip
            refine mm_skip (mm_call_mono _ _) 5 (st' := (61, [(4, .int 2), (0, .ref 0), (1, .int x1), (2, .int x2), (3, .int x3)], [.int x3], wC ov un nx dp fa cu st fi se th db (nI k) F, 0)) rfl ?_
            refine mm_branch (mm_call_mono _ _) (c := x3 < 0) (s1 := (78, [(4, .int 2), (0, .ref 0), (1, .int x1), (2, .int x2), (3, .int x3)], [], wC ov un nx dp fa cu st fi se th db (nI k) F, 0)) (s2 := (64, [(4, .int 2), (0, .ref 0), (1, .int x1), (2, .int x2), (3, .int x3)], [], wC ov un nx dp fa cu st fi se th db (nI k) F, 0)) rfl (fun zn => ?_) (fun zn => ?_)
            · skip
              exact mm_ret (mm_call_mono _ _) (c := True) (r := .inr "java/lang/IllegalArgumentException") (M := wC ov un nx dp fa cu st fi se th db (nI k) F) (u := 1) rfl trivial (by decide) (hQ _ _ _ _ _ _ _ _ _ _ _ _ (1, 0) S k (mokN (fun z => z.2.2.2.1 zn)) hI)
            · skip
              refine mm_skip (mm_call_mono _ _) 2 (st' := (67, [(4, .int 2), (0, .ref 0), (1, .int x1), (2, .int x2), (3, .int x3)], [.int 2, .int x3], wC ov un nx dp fa cu st fi se th db (nI k) F, 0)) rfl ?_
              refine mm_branch (mm_call_mono _ _) (c := (2 : Int32) = 0) (s1 := (70, [(4, .int 2), (0, .ref 0), (1, .int x1), (2, .int x2), (3, .int x3)], [.int x3], wC ov un nx dp fa cu st fi se th db (nI k) F, 0)) (s2 := (74, [(4, .int 2), (0, .ref 0), (1, .int x1), (2, .int x2), (3, .int x3)], [.int x3], wC ov un nx dp fa cu st fi se th db (nI k) F, 0)) rfl (fun h => absurd h (by decide)) (fun _ => ?_)
              refine mm_skip (mm_call_mono _ _) 1 (st' := (75, [(4, .int 2), (0, .ref 0), (1, .int x1), (2, .int x2), (3, .int x3)], [.int 1, .int x3], wC ov un nx dp fa cu st fi se th db (nI k) F, 0)) rfl ?_
              refine mm_branch (mm_call_mono _ _) (c := x3 ≤ 1) (s1 := (88, [(4, .int 2), (0, .ref 0), (1, .int x1), (2, .int x2), (3, .int x3)], [], wC ov un nx dp fa cu st fi se th db (nI k) F, 0)) (s2 := (78, [(4, .int 2), (0, .ref 0), (1, .int x1), (2, .int x2), (3, .int x3)], [], wC ov un nx dp fa cu st fi se th db (nI k) F, 0)) rfl (fun zl => ?_) (fun zl => ?_)
              · skip
                have y1 : ckd S k x1 = 2 := bz_1 w1
                have y2 : ckd S k x2 = 2 := bz_1 w2
                obtain ⟨i, hi, rfl, ci⟩ := ckd_c (c := 2) hk (by decide) y1
                obtain ⟨j, hj, rfl, cj⟩ := ckd_c (c := 2) hk (by decide) y2
                obtain ⟨w, hwl, rfl⟩ := nI_of2 (M := 1) (n := 1) (by decide) zn zl
                refine mm_skip (mm_call_mono _ _) 2 (st' := (91, [(4, .int 2), (0, .ref 0), (1, .int (nI i)), (2, .int (nI j)), (3, .int (nI w))], [.int 1, .int 2], wC ov un nx dp fa cu st fi se th db (nI k) F, 0)) rfl ?_
                refine mm_branch (mm_call_mono _ _) (c := (2 : Int32) = 1) (s1 := (121, [(4, .int 2), (0, .ref 0), (1, .int (nI i)), (2, .int (nI j)), (3, .int (nI w))], [], wC ov un nx dp fa cu st fi se th db (nI k) F, 0)) (s2 := (94, [(4, .int 2), (0, .ref 0), (1, .int (nI i)), (2, .int (nI j)), (3, .int (nI w))], [], wC ov un nx dp fa cu st fi se th db (nI k) F, 0)) rfl (fun h => absurd h (by decide)) (fun _ => ?_)
                refine mm_skip (mm_call_mono _ _) 4 (st' := (99, [(4, .int 2), (0, .ref 0), (1, .int (nI i)), (2, .int (nI j)), (3, .int (nI w))], [.int 2, .ref 0, .ref 0, .ref 0], wC ov un nx dp fa cu st fi se th db (nI k) F, 0)) rfl ?_
                refine mm_branch (mm_call_mono _ _) (c := (2 : Int32) = 0) (s1 := (102, [(4, .int 2), (0, .ref 0), (1, .int (nI i)), (2, .int (nI j)), (3, .int (nI w))], [.ref 0, .ref 0, .ref 0], wC ov un nx dp fa cu st fi se th db (nI k) F, 0)) (s2 := (106, [(4, .int 2), (0, .ref 0), (1, .int (nI i)), (2, .int (nI j)), (3, .int (nI w))], [.ref 0, .ref 0, .ref 0], wC ov un nx dp fa cu st fi se th db (nI k) F, 0)) rfl (fun h => absurd h (by decide)) (fun _ => ?_)
                refine mm_skip (mm_call_mono _ _) 4 (st' := (111, [(4, .int 2), (0, .ref 0), (1, .int (nI i)), (2, .int (nI j)), (3, .int (nI w))], [.int (nI w), .int (nI j), .int (nI i), .int 6, .ref 0, .ref 0, .ref 0], wC ov un nx dp fa cu st fi se th db (nI k) F, 0)) rfl ?_
                refine mm_inv (mm_call_mono _ _) (j := 24) (a := [.ref 0, .int 6, .int (nI i), .int (nI j), .int (nI w)]) (M := wC ov un nx dp fa cu st fi se th db (nI k) F) (u := 1) rfl (by decide) (gd_addStep hk (fun h24 => (hQ _ _ _ _ _ _ _ _ _ _ _ _ (2, 0) S k ((aMeet_6 y1 y2 ze (by omega) (by omega) (by omega)).trans (aAdd_24 h24)) hI)) (fun hk24 => ?_))
                show mm_W _ _ _ _ _ _ _ (114, [(4, .int 2), (0, .ref 0), (1, .int (nI i)), (2, .int (nI j)), (3, .int (nI w))], [.int (nI k), .ref 0, .ref 0], wC ov un nx dp fa cu (upd st k (nI 6)) (upd fi k (nI i)) (upd se k (nI j)) (upd th k (nI w)) db (nI (k + 1)) F, 1)
                obtain ⟨hS1, hw1, v, L, hdp, hI1⟩ := ad_pre (s := (6, i, j, w, (S i).2.1, (S j).2.1, z0, z0)) hI hk24 (wf_6 hi hj ci cj (hw i hi) (hw j hj) hwl) (fun _ _ _ => ⟨rfl, rfl⟩) (fun q => absurd (show 6 = 0 from q) (by decide))
                refine mm_inv (mm_call_mono _ _) (j := 27) (a := [.ref 0, .int (nI k)]) (M := wC ov un nx dp fa cu (upd st k (nI 6)) (upd fi k (nI i)) (upd se k (nI j)) (upd th k (nI w)) db (nI (k + 1)) F) (u := 1) rfl (by decide) (gd_redraw (by omega) (by omega) hS1 hw1 hI1 (fun ov2 un2 nx2 dp2 fa2 cu2 db2 rr hF => ?_))
                show mm_W _ _ _ _ _ _ _ (117, [(4, .int 2), (0, .ref 0), (1, .int (nI i)), (2, .int (nI j)), (3, .int (nI w))], [.int rr, .ref 0], wC ov2 un2 nx2 dp2 fa2 cu2 (upd st k (nI 6)) (upd fi k (nI i)) (upd se k (nI j)) (upd th k (nI w)) db2 (nI (k + 1)) F, 1)
                obtain ⟨P1, P2⟩ := ad_post hI hk24 hS1 hw1 hF
                refine mm_inv (mm_call_mono _ _) (j := 25) (a := [.ref 0, .int rr]) (M := wC ov2 un2 nx2 dp2 fa2 cu2 (upd st k (nI 6)) (upd fi k (nI i)) (upd se k (nI j)) (upd th k (nI w)) db2 (nI (k + 1)) F) (u := 2) rfl (by decide) (gd_settle hk24 (fun hr => (hQ _ _ _ _ _ _ _ _ _ _ _ _ (3, 0) S k ((aMeet_6 y1 y2 ze (by omega) (by omega) (by omega)).trans (P2 hr).2) (P2 hr).1)) (fun hr => ?_))
                show mm_W _ _ _ _ _ _ _ (120, [(4, .int 2), (0, .ref 0), (1, .int (nI i)), (2, .int (nI j)), (3, .int (nI w))], [.int (nI k)], wC ov2 un2 nx2 dp2 fa2 cu2 (upd st k (nI 6)) (upd fi k (nI i)) (upd se k (nI j)) (upd th k (nI w)) db2 (nI (k + 1)) F, 2)
                exact mm_ret (mm_call_mono _ _) (c := True) (r := .inl (some (.int (nI k)))) (M := wC ov2 un2 nx2 dp2 fa2 cu2 (upd st k (nI 6)) (upd fi k (nI i)) (upd se k (nI j)) (upd th k (nI w)) db2 (nI (k + 1)) F) (u := 2) rfl trivial (by decide) (hQ _ _ _ _ _ _ _ _ _ _ _ _ (0, nI k) _ _ ((aMeet_6 y1 y2 ze (by omega) (by omega) (by omega)).trans (P1 hr).2) (P1 hr).1)
              · skip
                exact mm_ret (mm_call_mono _ _) (c := True) (r := .inr "java/lang/IllegalArgumentException") (M := wC ov un nx dp fa cu st fi se th db (nI k) F) (u := 1) rfl trivial (by decide) (hQ _ _ _ _ _ _ _ _ _ _ _ _ (1, 0) S k (mokN (fun z => zl (by have h := z.2.2.2.2; rw [if_neg (fun q => ck12 (bz_1 w1) q.1)] at h; exact h))) hI)

