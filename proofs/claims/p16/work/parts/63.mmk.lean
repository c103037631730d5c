/-- the reference's code of a step -/
def rc (c : Nat) : Nat := if c ≤ 3 then c else 4
/-- a step in the reference's rows -/
def stR (st of : Nat → Int32) (S : Nat → stp) (i : Nat) : Prop := st i = nI (rc (S i).1) ∧
  ((S i).1 = 0 → inp (of (4 * i)) (of (4 * i + 1)) ∧ inp (of (4 * i + 2)) (of (4 * i + 3)) ∧ (S i).2.2.2.2.2.2.1 = qf (of (4 * i)) (of (4 * i + 1)) ∧ (S i).2.2.2.2.2.2.2 = qf (of (4 * i + 2)) (of (4 * i + 3))) ∧
  ((S i).1 = 1 ∨ (S i).1 = 3 → of (4 * i) = nI (S i).2.1 ∧ of (4 * i + 1) = nI (S i).2.2.1) ∧
  ((S i).1 = 2 → of (4 * i) = nI (S i).2.1 ∧ of (4 * i + 1) = nI (S i).2.2.1 ∧ of (4 * i + 2) = nI (S i).2.2.2.1) ∧
  ((S i).1 = 4 ∨ (S i).1 = 6 → of (4 * i) = nI (S i).2.1 ∧ of (4 * i + 1) = nI (S i).2.2.1 ∧ of (4 * i + 2) = nI (S i).2.2.2.1) ∧
  ((S i).1 = 5 → ((of (4 * i) = nI (S i).2.1 ∧ of (4 * i + 1) = nI (S i).2.2.1) ∨ (of (4 * i) = nI (S i).2.2.1 ∧ of (4 * i + 1) = nI (S i).2.1)) ∧ of (4 * i + 2) = nI (S i).2.2.2.1)
def mkR (s : Nat → fr) (L : lvR) (o : Nat) (T : Option (o3 × lvR)) (s1 : Nat → fr) (dp1 b : Int32) : Prop :=
  (∀ k, fv (s1 k)) ∧ (∀ k, k < 300 → ¬ (12 * o ≤ k ∧ k < 12 * o + 12) → ¬ zr L k → s1 k = s k) ∧ ((b = 1 ∧ ∃ v L1, T = some (v, L1) ∧ dp1 = nI L1.1 ∧ L1.1 ≤ 2 ∧ hM s1 L1.1 o v ∧ rdM s1 0 L1) ∨ (b = 0 ∧ T = none))
theorem mk_of {s s0 s1 : Nat → fr} {L L1 : lvR} {o : Nat} {T : Option (o3 × lvR)} {w1 fa1 : Int32} (hc : ∀ k, k < 300 → ¬ (12 * o ≤ k ∧ k < 12 * o + 12) → s0 k = s k) (h : drM s0 L o T s1 w1 fa1 L1) : (w1 = 0 → fa1 = 0 → mkR s L o T s1 (nI L1.1) 1) ∧ (¬ (w1 = 0 ∧ fa1 = 0) → mkR s L o T s1 (nI L1.1) 0) := by
  obtain ⟨a1, a2, a3, a4, a5, a6, a7⟩ := h
  have fr : ∀ k, k < 300 → ¬ (12 * o ≤ k ∧ k < 12 * o + 12) → ¬ zr L k → s1 k = s k := fun k h1 h2 h3 => (a4 k h1 h2 h3).trans (hc k h1 h2)
  refine ⟨fun h0 h1 => ?_, fun hn => ⟨a1, fr, Or.inr ⟨rfl, a7 ?_⟩⟩⟩
  · obtain ⟨v, e1, e2, e3⟩ := a6 h0 h1
    exact ⟨a1, fr, Or.inl ⟨rfl, v, L1, e1, rfl, a5, e2, e3⟩⟩
  · rcases a2 with h0 | h0
    · rcases a3 with h1 | h1
      · exact absurd ⟨h0, h1⟩ hn
      · exact Or.inr h1
    · exact Or.inl h0
theorem t_cl {s s1 : Nat → fr} {l a D f : Nat} {v : n4} (H : tM s 0 l a v) (c : clM s D f s1) (hd : a + 4 ≤ D ∨ D + 4 ≤ a) : tM s1 0 l a v := ⟨m_c H.1 c (by omega), H.2⟩
theorem t_z {s s1 : Nat → fr} {l D : Nat} (c : clM s D 0 s1) : tM s1 0 l D zz := ⟨fun _ j hj => by rw [g4_zz]; exact c.2.2 j (by omega) hj, fun _ => lz_zz⟩
theorem r_cl {s s1 : Nat → fr} {L : lvR} {D f : Nat} (H : rdM s 0 L) (c : clM s D f s1) (hd : D + 4 ≤ 288) : rdM s1 0 L := ⟨fun q => m_c (H.1 q) c (by omega), fun q => m_c (H.2 q) c (by omega)⟩
theorem h_cl {s s1 : Nat → fr} {l i D f : Nat} {v : o3} (H : hM s l i v) (c : clM s D f s1) (hd : 12 * i + 12 ≤ D) : hM s1 l i v := ⟨t_cl H.1 c (by omega), t_cl H.2.1 c (by omega), t_cl H.2.2 c (by omega)⟩
theorem mR_z {s s1 : Nat → fr} {w1 : Int32} {D : Nat} {x : fr} {T : Option n4} (h : mR s 0 300 D 1 T s1 w1) (e : T = some (em x)) : w1 = 0 ∧ s1 D = x := by
  have h0 : w1 = 0 := h.2.1.elim id (fun h1 => by have := h.2.2.2.2.2 h1 rfl; rw [e] at this; cases this)
  have e2 := (h.2.2.2.2.1 h0).2
  rw [e] at e2
  exact ⟨h0, (congrArg Prod.fst (Option.some.inj e2)).symm⟩
theorem t_em {s : Nat → fr} {l D : Nat} {x : fr} (h0 : s D = x) (h1 : s (D + 1) = z0) (h2 : s (D + 2) = z0) (h3 : s (D + 3) = z0) : tM s 0 l D (em x) := by
  refine ⟨fun _ j hj => ?_, fun _ j h4 h5 => ?_⟩
  · rcases (show j = 0 ∨ j = 1 ∨ j = 2 ∨ j = 3 by omega) with rfl | rfl | rfl | rfl
    · exact h0
    · exact h1
    · exact h2
    · exact h3
  · have : 1 ≤ lm l := by unfold lm; split <;> omega
    rcases (show j = 1 ∨ j = 2 ∨ j = 3 by omega) with rfl | rfl | rfl <;> rfl
theorem i64b (x : Int32) : x.toInt64.toInt.natAbs < 2 ^ 63 := by have := x.toInt_lt; have := x.le_toInt; rw [Int32.toInt_toInt64]; omega
theorem i64p {p q : Int32} (h : inp p q) : 0 < q.toInt64.toInt := by have := inp_i h; rw [Int32.toInt_toInt64]; omega
theorem qf_T {p q : Int32} (h : inp p q) : (fmk p.toInt64.toInt q.toInt64.toInt).map em = some (em (qf p q)) := by rw [Int32.toInt_toInt64, Int32.toInt_toInt64]; exact map_f (inp_f h).1
theorem rk_cut {d : Nat} {pre : mm_pre} {s : Nat → fr} {op oq : Nat → Int64} {tr ob : Int32} {st of : Nat → Int32} {F : mm_M} {L : lvR} {o : Nat} {LN kc ct wh : Nat} {va vb vc x y sq : n4} {Q : mm_R → mm_M → Prop} (hV : ∀ k, fv (s k)) (hl : L.1 ≤ 2) (hw : wh ≤ 1) (hg : kc < o ∧ ct < o ∧ o < 24 ∧ (LN + 12 ≤ 288 ∨ LN = 368) ∧ (LN + 12 ≤ 12 * o ∨ 12 * o + 12 ≤ LN)) (hof : of (4 * kc) = nI ct) (R : rdM s 0 L) (Hf : isM s 0 1 299 (fun _ => (1, 2))) (A : tM s 0 L.1 (LN) va) (B : tM s 0 L.1 ((LN + 4)) vb) (C : tM s 0 L.1 ((LN + 8)) vc) (D : tM s 0 L.1 (12 * ct) x) (G : tM s 0 L.1 ((12 * ct + 4)) y) (H : tM s 0 L.1 (12 * kc) sq) (I : tM s 0 L.1 ((12 * o + 8)) zz) (hQ : ∀ (s1 : Nat → fr) (w1 fa1 : Int32) (L1 : lvR), drM s L o (mCut L va vb vc x y sq (decide (wh = 0))) s1 w1 fa1 L1 → Q (.inl none) (wP pre (wN (PP s1) (QQ s1) op oq tr (nI L1.1) w1 fa1 ob st of F))) : mm_call mm_Tb (d + 12) 92 [.ref 10, .int (nI o), .int (nI LN), .int (nI kc), .int (nI wh)] (wP pre (wN (PP s) (QQ s) op oq tr (nI L.1) 0 0 ob st of F)) Q := by
  rcases (show wh = 0 ∨ wh = 1 by omega) with rfl | rfl
  · exact rk_cut_0 hV hl hg hof R Hf A B C D G H I hQ
  · exact rk_cut_1 hV hl hg hof R Hf A B C D G H I hQ
theorem rk_circles {d : Nat} {pre : mm_pre} {s : Nat → fr} {op oq : Nat → Int64} {tr ob : Int32} {st of : Nat → Int32} {F : mm_M} {L : lvR} {o : Nat} {p q c e wh : Nat} {xp yp sa xq yq sb : n4} {Q : mm_R → mm_M → Prop} (hV : ∀ k, fv (s k)) (hl : L.1 ≤ 2) (hw : wh ≤ 1) (hg : p < o ∧ q < o ∧ c < o ∧ e < o ∧ o < 24) (hofp : of (4 * p) = nI c) (hofq : of (4 * q) = nI e) (R : rdM s 0 L) (Hf : isM s 0 1 299 (fun _ => (1, 2))) (A : tM s 0 L.1 (12 * c) xp) (B : tM s 0 L.1 ((12 * c + 4)) yp) (C : tM s 0 L.1 (12 * e) xq) (D : tM s 0 L.1 ((12 * e + 4)) yq) (G : tM s 0 L.1 (12 * p) sa) (H : tM s 0 L.1 (12 * q) sb) (I : tM s 0 L.1 ((12 * o + 8)) zz) (hQ : ∀ (s1 : Nat → fr) (w1 fa1 : Int32) (L1 : lvR), drM s L o (mCir L xp yp sa xq yq sb (decide (wh = 0))) s1 w1 fa1 L1 → Q (.inl none) (wP pre (wN (PP s1) (QQ s1) op oq tr (nI L1.1) w1 fa1 ob st of F))) : mm_call mm_Tb (d + 13) 93 [.ref 10, .int (nI o), .int (nI p), .int (nI q), .int (nI wh)] (wP pre (wN (PP s) (QQ s) op oq tr (nI L.1) 0 0 ob st of F)) Q := by
  rcases (show wh = 0 ∨ wh = 1 by omega) with rfl | rfl
  · exact rk_circles_0 hV hl hg hofp hofq R Hf A B C D G H I hQ
  · exact rk_circles_1 hV hl hg hofp hofq R Hf A B C D G H I hQ
set_option maxRecDepth 100000 in
theorem rk_mt4 {d : Nat} {pre : mm_pre} {s : Nat → fr} {op oq : Nat → Int64} {tr ob : Int32} {st of : Nat → Int32} {F : mm_M} {L : lvR} {o : Nat} {p q : Nat} {xw : Int32} {a1 b1 c1 a2 b2 c2 : n4} {Q : mm_R → mm_M → Prop} (hV : ∀ k, fv (s k)) (hl : L.1 ≤ 2) (hg : p < o ∧ q < o ∧ o < 24) (hsp : st p = 1) (hsq : st q = 1) (R : rdM s 0 L) (A : tM s 0 L.1 (12 * p) a1) (B : tM s 0 L.1 ((12 * p + 4)) b1) (C : tM s 0 L.1 ((12 * p + 8)) c1) (D : tM s 0 L.1 (12 * q) a2) (G : tM s 0 L.1 ((12 * q + 4)) b2) (H : tM s 0 L.1 ((12 * q + 8)) c2) (I : tM s 0 L.1 ((12 * o + 8)) zz) (hQ : ∀ (s1 : Nat → fr) (w1 fa1 : Int32) (L1 : lvR), drM s L o (mMeet L a1 b1 c1 a2 b2 c2) s1 w1 fa1 L1 → Q (.inl none) (wP pre (wN (PP s1) (QQ s1) op oq tr (nI L1.1) w1 fa1 ob st of F))) : mm_call mm_Tb (d + 14) 94 [.ref 10, .int (nI o), .int (nI p), .int (nI q), .int xw] (wP pre (wN (PP s) (QQ s) op oq tr (nI L.1) 0 0 ob st of F)) Q := by
  refine mm_in mt_94 (Nat.le_of_ble_eq_true rfl) ?_
  show mm_W _ _ _ _ _ _ _ (0, [(0, .ref 10), (1, .int (nI o)), (2, .int (nI p)), (3, .int (nI q)), (4, .int xw)], [], wP pre (wN (PP s) (QQ s) op oq tr (nI L.1) 0 0 ob st of F), 0)
  refine mm_skip (mm_call_mono _ _) 3 (st' := (5, [(0, .ref 10), (1, .int (nI o)), (2, .int (nI p)), (3, .int (nI q)), (4, .int xw)], [.int (nI p), .ref 15], wP pre (wN (PP s) (QQ s) op oq tr (nI L.1) 0 0 ob st of F), 0)) rfl ?_
  refine mm_need (mm_call_mono _ _) (c := vp_in (nI p) 24) (s' := (6, [(0, .ref 10), (1, .int (nI o)), (2, .int (nI p)), (3, .int (nI q)), (4, .int xw)], [.int (st (Int32.toNatClampNeg (nI p)))], wP pre (wN (PP s) (QQ s) op oq tr (nI L.1) 0 0 ob st of F), 0)) rfl (vp_in_nI (show p < 24 by omega) (by decide)) ?_
  rw [nI_clamp (show p < 2 ^ 31 by omega)]
  show mm_W _ _ _ _ _ _ _ (6, [(0, .ref 10), (1, .int (nI o)), (2, .int (nI p)), (3, .int (nI q)), (4, .int xw)], [.int (st p)], wP pre (wN (PP s) (QQ s) op oq tr (nI L.1) 0 0 ob st of F), 0)
  rw [hsp]
  show mm_W _ _ _ _ _ _ _ (6, [(0, .ref 10), (1, .int (nI o)), (2, .int (nI p)), (3, .int (nI q)), (4, .int xw)], [.int 1], wP pre (wN (PP s) (QQ s) op oq tr (nI L.1) 0 0 ob st of F), 0)
  refine mm_skip (mm_call_mono _ _) 1 (st' := (7, [(0, .ref 10), (1, .int (nI o)), (2, .int (nI p)), (3, .int (nI q)), (4, .int xw)], [.int 1, .int 1], wP pre (wN (PP s) (QQ s) op oq tr (nI L.1) 0 0 ob st of F), 0)) rfl ?_
  refine mm_branch (mm_call_mono _ _) (c := (1 : Int32) = 1) (s1 := (10, [(0, .ref 10), (1, .int (nI o)), (2, .int (nI p)), (3, .int (nI q)), (4, .int xw)], [], wP pre (wN (PP s) (QQ s) op oq tr (nI L.1) 0 0 ob st of F), 0)) (s2 := (30, [(0, .ref 10), (1, .int (nI o)), (2, .int (nI p)), (3, .int (nI q)), (4, .int xw)], [], wP pre (wN (PP s) (QQ s) op oq tr (nI L.1) 0 0 ob st of F), 0)) rfl (fun _ => ?_) (fun h => absurd (by decide) h)
  refine mm_skip (mm_call_mono _ _) 3 (st' := (15, [(0, .ref 10), (1, .int (nI o)), (2, .int (nI p)), (3, .int (nI q)), (4, .int xw)], [.int (nI q), .ref 15], wP pre (wN (PP s) (QQ s) op oq tr (nI L.1) 0 0 ob st of F), 0)) rfl ?_
  refine mm_need (mm_call_mono _ _) (c := vp_in (nI q) 24) (s' := (16, [(0, .ref 10), (1, .int (nI o)), (2, .int (nI p)), (3, .int (nI q)), (4, .int xw)], [.int (st (Int32.toNatClampNeg (nI q)))], wP pre (wN (PP s) (QQ s) op oq tr (nI L.1) 0 0 ob st of F), 0)) rfl (vp_in_nI (show q < 24 by omega) (by decide)) ?_
  rw [nI_clamp (show q < 2 ^ 31 by omega)]
  show mm_W _ _ _ _ _ _ _ (16, [(0, .ref 10), (1, .int (nI o)), (2, .int (nI p)), (3, .int (nI q)), (4, .int xw)], [.int (st q)], wP pre (wN (PP s) (QQ s) op oq tr (nI L.1) 0 0 ob st of F), 0)
  rw [hsq]
  show mm_W _ _ _ _ _ _ _ (16, [(0, .ref 10), (1, .int (nI o)), (2, .int (nI p)), (3, .int (nI q)), (4, .int xw)], [.int 1], wP pre (wN (PP s) (QQ s) op oq tr (nI L.1) 0 0 ob st of F), 0)
  refine mm_skip (mm_call_mono _ _) 1 (st' := (17, [(0, .ref 10), (1, .int (nI o)), (2, .int (nI p)), (3, .int (nI q)), (4, .int xw)], [.int 1, .int 1], wP pre (wN (PP s) (QQ s) op oq tr (nI L.1) 0 0 ob st of F), 0)) rfl ?_
  refine mm_branch (mm_call_mono _ _) (c := (1 : Int32) = 1) (s1 := (20, [(0, .ref 10), (1, .int (nI o)), (2, .int (nI p)), (3, .int (nI q)), (4, .int xw)], [], wP pre (wN (PP s) (QQ s) op oq tr (nI L.1) 0 0 ob st of F), 0)) (s2 := (30, [(0, .ref 10), (1, .int (nI o)), (2, .int (nI p)), (3, .int (nI q)), (4, .int xw)], [], wP pre (wN (PP s) (QQ s) op oq tr (nI L.1) 0 0 ob st of F), 0)) rfl (fun _ => ?_) (fun h => absurd (by decide) h)
  refine mm_skip (mm_call_mono _ _) 4 (st' := (24, [(0, .ref 10), (1, .int (nI o)), (2, .int (nI p)), (3, .int (nI q)), (4, .int xw)], [.int (nI q), .int (nI p), .int (nI o), .ref 10], wP pre (wN (PP s) (QQ s) op oq tr (nI L.1) 0 0 ob st of F), 0)) rfl ?_
  refine mm_inv (mm_call_mono _ _) (j := 91) (a := [.ref 10, .int (nI o), .int (nI p), .int (nI q)]) (M := wP pre (wN (PP s) (QQ s) op oq tr (nI L.1) 0 0 ob st of F)) (u := 0) rfl (by decide) (rk_meet hV hl hg R A B C D G H I (fun s1 w1 fa1 hd => ?_))
  show mm_W _ _ _ _ _ _ _ (27, [(0, .ref 10), (1, .int (nI o)), (2, .int (nI p)), (3, .int (nI q)), (4, .int xw)], [], wP pre (wN (PP s1) (QQ s1) op oq tr (nI L.1) w1 fa1 ob st of F), 0)
  refine mm_skip (mm_call_mono _ _) 1 (st' := (102, [(0, .ref 10), (1, .int (nI o)), (2, .int (nI p)), (3, .int (nI q)), (4, .int xw)], [], wP pre (wN (PP s1) (QQ s1) op oq tr (nI L.1) w1 fa1 ob st of F), 0)) rfl ?_
  exact mm_ret (mm_call_mono _ _) (c := True) (r := .inl none) (M := wP pre (wN (PP s1) (QQ s1) op oq tr (nI L.1) w1 fa1 ob st of F)) (u := 0) rfl trivial (by decide) (hQ _ _ _ _ hd)

set_option maxRecDepth 100000 in
theorem rk_mt6 {d : Nat} {pre : mm_pre} {s : Nat → fr} {op oq : Nat → Int64} {tr ob : Int32} {st of : Nat → Int32} {F : mm_M} {L : lvR} {o : Nat} {p q c e wh : Nat} {xp yp sa xq yq sb : n4} {Q : mm_R → mm_M → Prop} (hV : ∀ k, fv (s k)) (hl : L.1 ≤ 2) (hw : wh ≤ 1) (hsp : st p = 2) (hsq : st q = 2) (hg : p < o ∧ q < o ∧ c < o ∧ e < o ∧ o < 24) (hofp : of (4 * p) = nI c) (hofq : of (4 * q) = nI e) (R : rdM s 0 L) (Hf : isM s 0 1 299 (fun _ => (1, 2))) (A : tM s 0 L.1 (12 * c) xp) (B : tM s 0 L.1 ((12 * c + 4)) yp) (C : tM s 0 L.1 (12 * e) xq) (D : tM s 0 L.1 ((12 * e + 4)) yq) (G : tM s 0 L.1 (12 * p) sa) (H : tM s 0 L.1 (12 * q) sb) (I : tM s 0 L.1 ((12 * o + 8)) zz) (hQ : ∀ (s1 : Nat → fr) (w1 fa1 : Int32) (L1 : lvR), drM s L o (mCir L xp yp sa xq yq sb (decide (wh = 0))) s1 w1 fa1 L1 → Q (.inl none) (wP pre (wN (PP s1) (QQ s1) op oq tr (nI L1.1) w1 fa1 ob st of F))) : mm_call mm_Tb (d + 14) 94 [.ref 10, .int (nI o), .int (nI p), .int (nI q), .int (nI wh)] (wP pre (wN (PP s) (QQ s) op oq tr (nI L.1) 0 0 ob st of F)) Q := by
  refine mm_in mt_94 (Nat.le_of_ble_eq_true rfl) ?_
  show mm_W _ _ _ _ _ _ _ (0, [(0, .ref 10), (1, .int (nI o)), (2, .int (nI p)), (3, .int (nI q)), (4, .int (nI wh))], [], wP pre (wN (PP s) (QQ s) op oq tr (nI L.1) 0 0 ob st of F), 0)
  refine mm_skip (mm_call_mono _ _) 3 (st' := (5, [(0, .ref 10), (1, .int (nI o)), (2, .int (nI p)), (3, .int (nI q)), (4, .int (nI wh))], [.int (nI p), .ref 15], wP pre (wN (PP s) (QQ s) op oq tr (nI L.1) 0 0 ob st of F), 0)) rfl ?_
  refine mm_need (mm_call_mono _ _) (c := vp_in (nI p) 24) (s' := (6, [(0, .ref 10), (1, .int (nI o)), (2, .int (nI p)), (3, .int (nI q)), (4, .int (nI wh))], [.int (st (Int32.toNatClampNeg (nI p)))], wP pre (wN (PP s) (QQ s) op oq tr (nI L.1) 0 0 ob st of F), 0)) rfl (vp_in_nI (show p < 24 by omega) (by decide)) ?_
  rw [nI_clamp (show p < 2 ^ 31 by omega)]
  show mm_W _ _ _ _ _ _ _ (6, [(0, .ref 10), (1, .int (nI o)), (2, .int (nI p)), (3, .int (nI q)), (4, .int (nI wh))], [.int (st p)], wP pre (wN (PP s) (QQ s) op oq tr (nI L.1) 0 0 ob st of F), 0)
  rw [hsp]
  show mm_W _ _ _ _ _ _ _ (6, [(0, .ref 10), (1, .int (nI o)), (2, .int (nI p)), (3, .int (nI q)), (4, .int (nI wh))], [.int 2], wP pre (wN (PP s) (QQ s) op oq tr (nI L.1) 0 0 ob st of F), 0)
  refine mm_skip (mm_call_mono _ _) 1 (st' := (7, [(0, .ref 10), (1, .int (nI o)), (2, .int (nI p)), (3, .int (nI q)), (4, .int (nI wh))], [.int 1, .int 2], wP pre (wN (PP s) (QQ s) op oq tr (nI L.1) 0 0 ob st of F), 0)) rfl ?_
  refine mm_branch (mm_call_mono _ _) (c := (2 : Int32) = 1) (s1 := (10, [(0, .ref 10), (1, .int (nI o)), (2, .int (nI p)), (3, .int (nI q)), (4, .int (nI wh))], [], wP pre (wN (PP s) (QQ s) op oq tr (nI L.1) 0 0 ob st of F), 0)) (s2 := (30, [(0, .ref 10), (1, .int (nI o)), (2, .int (nI p)), (3, .int (nI q)), (4, .int (nI wh))], [], wP pre (wN (PP s) (QQ s) op oq tr (nI L.1) 0 0 ob st of F), 0)) rfl (fun h => absurd h (by decide)) (fun _ => ?_)
  refine mm_skip (mm_call_mono _ _) 3 (st' := (35, [(0, .ref 10), (1, .int (nI o)), (2, .int (nI p)), (3, .int (nI q)), (4, .int (nI wh))], [.int (nI p), .ref 15], wP pre (wN (PP s) (QQ s) op oq tr (nI L.1) 0 0 ob st of F), 0)) rfl ?_
  refine mm_need (mm_call_mono _ _) (c := vp_in (nI p) 24) (s' := (36, [(0, .ref 10), (1, .int (nI o)), (2, .int (nI p)), (3, .int (nI q)), (4, .int (nI wh))], [.int (st (Int32.toNatClampNeg (nI p)))], wP pre (wN (PP s) (QQ s) op oq tr (nI L.1) 0 0 ob st of F), 0)) rfl (vp_in_nI (show p < 24 by omega) (by decide)) ?_
  rw [nI_clamp (show p < 2 ^ 31 by omega)]
  show mm_W _ _ _ _ _ _ _ (36, [(0, .ref 10), (1, .int (nI o)), (2, .int (nI p)), (3, .int (nI q)), (4, .int (nI wh))], [.int (st p)], wP pre (wN (PP s) (QQ s) op oq tr (nI L.1) 0 0 ob st of F), 0)
  rw [hsp]
  show mm_W _ _ _ _ _ _ _ (36, [(0, .ref 10), (1, .int (nI o)), (2, .int (nI p)), (3, .int (nI q)), (4, .int (nI wh))], [.int 2], wP pre (wN (PP s) (QQ s) op oq tr (nI L.1) 0 0 ob st of F), 0)
  refine mm_skip (mm_call_mono _ _) 1 (st' := (37, [(0, .ref 10), (1, .int (nI o)), (2, .int (nI p)), (3, .int (nI q)), (4, .int (nI wh))], [.int 2, .int 2], wP pre (wN (PP s) (QQ s) op oq tr (nI L.1) 0 0 ob st of F), 0)) rfl ?_
  refine mm_branch (mm_call_mono _ _) (c := (2 : Int32) = 2) (s1 := (40, [(0, .ref 10), (1, .int (nI o)), (2, .int (nI p)), (3, .int (nI q)), (4, .int (nI wh))], [], wP pre (wN (PP s) (QQ s) op oq tr (nI L.1) 0 0 ob st of F), 0)) (s2 := (62, [(0, .ref 10), (1, .int (nI o)), (2, .int (nI p)), (3, .int (nI q)), (4, .int (nI wh))], [], wP pre (wN (PP s) (QQ s) op oq tr (nI L.1) 0 0 ob st of F), 0)) rfl (fun _ => ?_) (fun h => absurd (by decide) h)
  refine mm_skip (mm_call_mono _ _) 3 (st' := (45, [(0, .ref 10), (1, .int (nI o)), (2, .int (nI p)), (3, .int (nI q)), (4, .int (nI wh))], [.int (nI q), .ref 15], wP pre (wN (PP s) (QQ s) op oq tr (nI L.1) 0 0 ob st of F), 0)) rfl ?_
  refine mm_need (mm_call_mono _ _) (c := vp_in (nI q) 24) (s' := (46, [(0, .ref 10), (1, .int (nI o)), (2, .int (nI p)), (3, .int (nI q)), (4, .int (nI wh))], [.int (st (Int32.toNatClampNeg (nI q)))], wP pre (wN (PP s) (QQ s) op oq tr (nI L.1) 0 0 ob st of F), 0)) rfl (vp_in_nI (show q < 24 by omega) (by decide)) ?_
  rw [nI_clamp (show q < 2 ^ 31 by omega)]
  show mm_W _ _ _ _ _ _ _ (46, [(0, .ref 10), (1, .int (nI o)), (2, .int (nI p)), (3, .int (nI q)), (4, .int (nI wh))], [.int (st q)], wP pre (wN (PP s) (QQ s) op oq tr (nI L.1) 0 0 ob st of F), 0)
  rw [hsq]
  show mm_W _ _ _ _ _ _ _ (46, [(0, .ref 10), (1, .int (nI o)), (2, .int (nI p)), (3, .int (nI q)), (4, .int (nI wh))], [.int 2], wP pre (wN (PP s) (QQ s) op oq tr (nI L.1) 0 0 ob st of F), 0)
  refine mm_skip (mm_call_mono _ _) 1 (st' := (47, [(0, .ref 10), (1, .int (nI o)), (2, .int (nI p)), (3, .int (nI q)), (4, .int (nI wh))], [.int 2, .int 2], wP pre (wN (PP s) (QQ s) op oq tr (nI L.1) 0 0 ob st of F), 0)) rfl ?_
  refine mm_branch (mm_call_mono _ _) (c := (2 : Int32) = 2) (s1 := (50, [(0, .ref 10), (1, .int (nI o)), (2, .int (nI p)), (3, .int (nI q)), (4, .int (nI wh))], [], wP pre (wN (PP s) (QQ s) op oq tr (nI L.1) 0 0 ob st of F), 0)) (s2 := (62, [(0, .ref 10), (1, .int (nI o)), (2, .int (nI p)), (3, .int (nI q)), (4, .int (nI wh))], [], wP pre (wN (PP s) (QQ s) op oq tr (nI L.1) 0 0 ob st of F), 0)) rfl (fun _ => ?_) (fun h => absurd (by decide) h)
  refine mm_skip (mm_call_mono _ _) 5 (st' := (56, [(0, .ref 10), (1, .int (nI o)), (2, .int (nI p)), (3, .int (nI q)), (4, .int (nI wh))], [.int (nI wh), .int (nI q), .int (nI p), .int (nI o), .ref 10], wP pre (wN (PP s) (QQ s) op oq tr (nI L.1) 0 0 ob st of F), 0)) rfl ?_
  refine mm_inv (mm_call_mono _ _) (j := 93) (a := [.ref 10, .int (nI o), .int (nI p), .int (nI q), .int (nI wh)]) (M := wP pre (wN (PP s) (QQ s) op oq tr (nI L.1) 0 0 ob st of F)) (u := 0) rfl (by decide) (rk_circles hV hl hw hg hofp hofq R Hf A B C D G H I (fun s1 w1 fa1 L1 hd => ?_))
  show mm_W _ _ _ _ _ _ _ (59, [(0, .ref 10), (1, .int (nI o)), (2, .int (nI p)), (3, .int (nI q)), (4, .int (nI wh))], [], wP pre (wN (PP s1) (QQ s1) op oq tr (nI L1.1) w1 fa1 ob st of F), 0)
  refine mm_skip (mm_call_mono _ _) 1 (st' := (102, [(0, .ref 10), (1, .int (nI o)), (2, .int (nI p)), (3, .int (nI q)), (4, .int (nI wh))], [], wP pre (wN (PP s1) (QQ s1) op oq tr (nI L1.1) w1 fa1 ob st of F), 0)) rfl ?_
  exact mm_ret (mm_call_mono _ _) (c := True) (r := .inl none) (M := wP pre (wN (PP s1) (QQ s1) op oq tr (nI L1.1) w1 fa1 ob st of F)) (u := 0) rfl trivial (by decide) (hQ _ _ _ _ hd)

set_option maxRecDepth 100000 in
theorem rk_mt5a {d : Nat} {pre : mm_pre} {s : Nat → fr} {op oq : Nat → Int64} {tr ob : Int32} {st of : Nat → Int32} {F : mm_M} {L : lvR} {o : Nat} {p q ct wh : Nat} {va vb vc x y sq : n4} {Q : mm_R → mm_M → Prop} (hV : ∀ k, fv (s k)) (hl : L.1 ≤ 2) (hw : wh ≤ 1) (hsp : st p = 1) (hsq : st q = 2) (hg : p < o ∧ q < o ∧ ct < o ∧ o < 24) (hof : of (4 * q) = nI ct) (R : rdM s 0 L) (Hf : isM s 0 1 299 (fun _ => (1, 2))) (A : tM s 0 L.1 (12 * p) va) (B : tM s 0 L.1 ((12 * p + 4)) vb) (C : tM s 0 L.1 ((12 * p + 8)) vc) (D : tM s 0 L.1 (12 * ct) x) (G : tM s 0 L.1 ((12 * ct + 4)) y) (H : tM s 0 L.1 (12 * q) sq) (I : tM s 0 L.1 ((12 * o + 8)) zz) (hQ : ∀ (s1 : Nat → fr) (w1 fa1 : Int32) (L1 : lvR), drM s L o (mCut L va vb vc x y sq (decide (wh = 0))) s1 w1 fa1 L1 → Q (.inl none) (wP pre (wN (PP s1) (QQ s1) op oq tr (nI L1.1) w1 fa1 ob st of F))) : mm_call mm_Tb (d + 14) 94 [.ref 10, .int (nI o), .int (nI p), .int (nI q), .int (nI wh)] (wP pre (wN (PP s) (QQ s) op oq tr (nI L.1) 0 0 ob st of F)) Q := by
  refine mm_in mt_94 (Nat.le_of_ble_eq_true rfl) ?_
  show mm_W _ _ _ _ _ _ _ (0, [(0, .ref 10), (1, .int (nI o)), (2, .int (nI p)), (3, .int (nI q)), (4, .int (nI wh))], [], wP pre (wN (PP s) (QQ s) op oq tr (nI L.1) 0 0 ob st of F), 0)
  refine mm_skip (mm_call_mono _ _) 3 (st' := (5, [(0, .ref 10), (1, .int (nI o)), (2, .int (nI p)), (3, .int (nI q)), (4, .int (nI wh))], [.int (nI p), .ref 15], wP pre (wN (PP s) (QQ s) op oq tr (nI L.1) 0 0 ob st of F), 0)) rfl ?_
  refine mm_need (mm_call_mono _ _) (c := vp_in (nI p) 24) (s' := (6, [(0, .ref 10), (1, .int (nI o)), (2, .int (nI p)), (3, .int (nI q)), (4, .int (nI wh))], [.int (st (Int32.toNatClampNeg (nI p)))], wP pre (wN (PP s) (QQ s) op oq tr (nI L.1) 0 0 ob st of F), 0)) rfl (vp_in_nI (show p < 24 by omega) (by decide)) ?_
  rw [nI_clamp (show p < 2 ^ 31 by omega)]
  show mm_W _ _ _ _ _ _ _ (6, [(0, .ref 10), (1, .int (nI o)), (2, .int (nI p)), (3, .int (nI q)), (4, .int (nI wh))], [.int (st p)], wP pre (wN (PP s) (QQ s) op oq tr (nI L.1) 0 0 ob st of F), 0)
  rw [hsp]
  show mm_W _ _ _ _ _ _ _ (6, [(0, .ref 10), (1, .int (nI o)), (2, .int (nI p)), (3, .int (nI q)), (4, .int (nI wh))], [.int 1], wP pre (wN (PP s) (QQ s) op oq tr (nI L.1) 0 0 ob st of F), 0)
  refine mm_skip (mm_call_mono _ _) 1 (st' := (7, [(0, .ref 10), (1, .int (nI o)), (2, .int (nI p)), (3, .int (nI q)), (4, .int (nI wh))], [.int 1, .int 1], wP pre (wN (PP s) (QQ s) op oq tr (nI L.1) 0 0 ob st of F), 0)) rfl ?_
  refine mm_branch (mm_call_mono _ _) (c := (1 : Int32) = 1) (s1 := (10, [(0, .ref 10), (1, .int (nI o)), (2, .int (nI p)), (3, .int (nI q)), (4, .int (nI wh))], [], wP pre (wN (PP s) (QQ s) op oq tr (nI L.1) 0 0 ob st of F), 0)) (s2 := (30, [(0, .ref 10), (1, .int (nI o)), (2, .int (nI p)), (3, .int (nI q)), (4, .int (nI wh))], [], wP pre (wN (PP s) (QQ s) op oq tr (nI L.1) 0 0 ob st of F), 0)) rfl (fun _ => ?_) (fun h => absurd (by decide) h)
  refine mm_skip (mm_call_mono _ _) 3 (st' := (15, [(0, .ref 10), (1, .int (nI o)), (2, .int (nI p)), (3, .int (nI q)), (4, .int (nI wh))], [.int (nI q), .ref 15], wP pre (wN (PP s) (QQ s) op oq tr (nI L.1) 0 0 ob st of F), 0)) rfl ?_
  refine mm_need (mm_call_mono _ _) (c := vp_in (nI q) 24) (s' := (16, [(0, .ref 10), (1, .int (nI o)), (2, .int (nI p)), (3, .int (nI q)), (4, .int (nI wh))], [.int (st (Int32.toNatClampNeg (nI q)))], wP pre (wN (PP s) (QQ s) op oq tr (nI L.1) 0 0 ob st of F), 0)) rfl (vp_in_nI (show q < 24 by omega) (by decide)) ?_
  rw [nI_clamp (show q < 2 ^ 31 by omega)]
  show mm_W _ _ _ _ _ _ _ (16, [(0, .ref 10), (1, .int (nI o)), (2, .int (nI p)), (3, .int (nI q)), (4, .int (nI wh))], [.int (st q)], wP pre (wN (PP s) (QQ s) op oq tr (nI L.1) 0 0 ob st of F), 0)
  rw [hsq]
  show mm_W _ _ _ _ _ _ _ (16, [(0, .ref 10), (1, .int (nI o)), (2, .int (nI p)), (3, .int (nI q)), (4, .int (nI wh))], [.int 2], wP pre (wN (PP s) (QQ s) op oq tr (nI L.1) 0 0 ob st of F), 0)
  refine mm_skip (mm_call_mono _ _) 1 (st' := (17, [(0, .ref 10), (1, .int (nI o)), (2, .int (nI p)), (3, .int (nI q)), (4, .int (nI wh))], [.int 1, .int 2], wP pre (wN (PP s) (QQ s) op oq tr (nI L.1) 0 0 ob st of F), 0)) rfl ?_
  refine mm_branch (mm_call_mono _ _) (c := (2 : Int32) = 1) (s1 := (20, [(0, .ref 10), (1, .int (nI o)), (2, .int (nI p)), (3, .int (nI q)), (4, .int (nI wh))], [], wP pre (wN (PP s) (QQ s) op oq tr (nI L.1) 0 0 ob st of F), 0)) (s2 := (30, [(0, .ref 10), (1, .int (nI o)), (2, .int (nI p)), (3, .int (nI q)), (4, .int (nI wh))], [], wP pre (wN (PP s) (QQ s) op oq tr (nI L.1) 0 0 ob st of F), 0)) rfl (fun h => absurd h (by decide)) (fun _ => ?_)
  refine mm_skip (mm_call_mono _ _) 3 (st' := (35, [(0, .ref 10), (1, .int (nI o)), (2, .int (nI p)), (3, .int (nI q)), (4, .int (nI wh))], [.int (nI p), .ref 15], wP pre (wN (PP s) (QQ s) op oq tr (nI L.1) 0 0 ob st of F), 0)) rfl ?_
  refine mm_need (mm_call_mono _ _) (c := vp_in (nI p) 24) (s' := (36, [(0, .ref 10), (1, .int (nI o)), (2, .int (nI p)), (3, .int (nI q)), (4, .int (nI wh))], [.int (st (Int32.toNatClampNeg (nI p)))], wP pre (wN (PP s) (QQ s) op oq tr (nI L.1) 0 0 ob st of F), 0)) rfl (vp_in_nI (show p < 24 by omega) (by decide)) ?_
  rw [nI_clamp (show p < 2 ^ 31 by omega)]
  show mm_W _ _ _ _ _ _ _ (36, [(0, .ref 10), (1, .int (nI o)), (2, .int (nI p)), (3, .int (nI q)), (4, .int (nI wh))], [.int (st p)], wP pre (wN (PP s) (QQ s) op oq tr (nI L.1) 0 0 ob st of F), 0)
  rw [hsp]
  show mm_W _ _ _ _ _ _ _ (36, [(0, .ref 10), (1, .int (nI o)), (2, .int (nI p)), (3, .int (nI q)), (4, .int (nI wh))], [.int 1], wP pre (wN (PP s) (QQ s) op oq tr (nI L.1) 0 0 ob st of F), 0)
  refine mm_skip (mm_call_mono _ _) 1 (st' := (37, [(0, .ref 10), (1, .int (nI o)), (2, .int (nI p)), (3, .int (nI q)), (4, .int (nI wh))], [.int 2, .int 1], wP pre (wN (PP s) (QQ s) op oq tr (nI L.1) 0 0 ob st of F), 0)) rfl ?_
  refine mm_branch (mm_call_mono _ _) (c := (1 : Int32) = 2) (s1 := (40, [(0, .ref 10), (1, .int (nI o)), (2, .int (nI p)), (3, .int (nI q)), (4, .int (nI wh))], [], wP pre (wN (PP s) (QQ s) op oq tr (nI L.1) 0 0 ob st of F), 0)) (s2 := (62, [(0, .ref 10), (1, .int (nI o)), (2, .int (nI p)), (3, .int (nI q)), (4, .int (nI wh))], [], wP pre (wN (PP s) (QQ s) op oq tr (nI L.1) 0 0 ob st of F), 0)) rfl (fun h => absurd h (by decide)) (fun _ => ?_)
  refine mm_skip (mm_call_mono _ _) 6 (st' := (71, [(0, .ref 10), (1, .int (nI o)), (2, .int (nI p)), (3, .int (nI q)), (4, .int (nI wh))], [.int (nI p), .ref 15, .int 12, .int (nI o), .ref 10], wP pre (wN (PP s) (QQ s) op oq tr (nI L.1) 0 0 ob st of F), 0)) rfl ?_
  refine mm_need (mm_call_mono _ _) (c := vp_in (nI p) 24) (s' := (72, [(0, .ref 10), (1, .int (nI o)), (2, .int (nI p)), (3, .int (nI q)), (4, .int (nI wh))], [.int (st (Int32.toNatClampNeg (nI p))), .int 12, .int (nI o), .ref 10], wP pre (wN (PP s) (QQ s) op oq tr (nI L.1) 0 0 ob st of F), 0)) rfl (vp_in_nI (show p < 24 by omega) (by decide)) ?_
  rw [nI_clamp (show p < 2 ^ 31 by omega)]
  show mm_W _ _ _ _ _ _ _ (72, [(0, .ref 10), (1, .int (nI o)), (2, .int (nI p)), (3, .int (nI q)), (4, .int (nI wh))], [.int (st p), .int 12, .int (nI o), .ref 10], wP pre (wN (PP s) (QQ s) op oq tr (nI L.1) 0 0 ob st of F), 0)
  rw [hsp]
  show mm_W _ _ _ _ _ _ _ (72, [(0, .ref 10), (1, .int (nI o)), (2, .int (nI p)), (3, .int (nI q)), (4, .int (nI wh))], [.int 1, .int 12, .int (nI o), .ref 10], wP pre (wN (PP s) (QQ s) op oq tr (nI L.1) 0 0 ob st of F), 0)
  refine mm_skip (mm_call_mono _ _) 1 (st' := (73, [(0, .ref 10), (1, .int (nI o)), (2, .int (nI p)), (3, .int (nI q)), (4, .int (nI wh))], [.int 1, .int 1, .int 12, .int (nI o), .ref 10], wP pre (wN (PP s) (QQ s) op oq tr (nI L.1) 0 0 ob st of F), 0)) rfl ?_
  refine mm_branch (mm_call_mono _ _) (c := (1 : Int32) = 1) (s1 := (76, [(0, .ref 10), (1, .int (nI o)), (2, .int (nI p)), (3, .int (nI q)), (4, .int (nI wh))], [.int 12, .int (nI o), .ref 10], wP pre (wN (PP s) (QQ s) op oq tr (nI L.1) 0 0 ob st of F), 0)) (s2 := (80, [(0, .ref 10), (1, .int (nI o)), (2, .int (nI p)), (3, .int (nI q)), (4, .int (nI wh))], [.int 12, .int (nI o), .ref 10], wP pre (wN (PP s) (QQ s) op oq tr (nI L.1) 0 0 ob st of F), 0)) rfl (fun _ => ?_) (fun h => absurd (by decide) h)
  refine mm_skip (mm_call_mono _ _) 6 (st' := (87, [(0, .ref 10), (1, .int (nI o)), (2, .int (nI p)), (3, .int (nI q)), (4, .int (nI wh))], [.int (nI p), .ref 15, .int (12 * (nI p)), .int (nI o), .ref 10], wP pre (wN (PP s) (QQ s) op oq tr (nI L.1) 0 0 ob st of F), 0)) rfl ?_
  rw [nI_m12 p]
  show mm_W _ _ _ _ _ _ _ (87, [(0, .ref 10), (1, .int (nI o)), (2, .int (nI p)), (3, .int (nI q)), (4, .int (nI wh))], [.int (nI p), .ref 15, .int (nI (12 * p)), .int (nI o), .ref 10], wP pre (wN (PP s) (QQ s) op oq tr (nI L.1) 0 0 ob st of F), 0)
  refine mm_need (mm_call_mono _ _) (c := vp_in (nI p) 24) (s' := (88, [(0, .ref 10), (1, .int (nI o)), (2, .int (nI p)), (3, .int (nI q)), (4, .int (nI wh))], [.int (st (Int32.toNatClampNeg (nI p))), .int (nI (12 * p)), .int (nI o), .ref 10], wP pre (wN (PP s) (QQ s) op oq tr (nI L.1) 0 0 ob st of F), 0)) rfl (vp_in_nI (show p < 24 by omega) (by decide)) ?_
  rw [nI_clamp (show p < 2 ^ 31 by omega)]
  show mm_W _ _ _ _ _ _ _ (88, [(0, .ref 10), (1, .int (nI o)), (2, .int (nI p)), (3, .int (nI q)), (4, .int (nI wh))], [.int (st p), .int (nI (12 * p)), .int (nI o), .ref 10], wP pre (wN (PP s) (QQ s) op oq tr (nI L.1) 0 0 ob st of F), 0)
  rw [hsp]
  show mm_W _ _ _ _ _ _ _ (88, [(0, .ref 10), (1, .int (nI o)), (2, .int (nI p)), (3, .int (nI q)), (4, .int (nI wh))], [.int 1, .int (nI (12 * p)), .int (nI o), .ref 10], wP pre (wN (PP s) (QQ s) op oq tr (nI L.1) 0 0 ob st of F), 0)
  refine mm_skip (mm_call_mono _ _) 1 (st' := (89, [(0, .ref 10), (1, .int (nI o)), (2, .int (nI p)), (3, .int (nI q)), (4, .int (nI wh))], [.int 1, .int 1, .int (nI (12 * p)), .int (nI o), .ref 10], wP pre (wN (PP s) (QQ s) op oq tr (nI L.1) 0 0 ob st of F), 0)) rfl ?_
  refine mm_branch (mm_call_mono _ _) (c := (1 : Int32) = 1) (s1 := (92, [(0, .ref 10), (1, .int (nI o)), (2, .int (nI p)), (3, .int (nI q)), (4, .int (nI wh))], [.int (nI (12 * p)), .int (nI o), .ref 10], wP pre (wN (PP s) (QQ s) op oq tr (nI L.1) 0 0 ob st of F), 0)) (s2 := (96, [(0, .ref 10), (1, .int (nI o)), (2, .int (nI p)), (3, .int (nI q)), (4, .int (nI wh))], [.int (nI (12 * p)), .int (nI o), .ref 10], wP pre (wN (PP s) (QQ s) op oq tr (nI L.1) 0 0 ob st of F), 0)) rfl (fun _ => ?_) (fun h => absurd (by decide) h)
  refine mm_skip (mm_call_mono _ _) 3 (st' := (99, [(0, .ref 10), (1, .int (nI o)), (2, .int (nI p)), (3, .int (nI q)), (4, .int (nI wh))], [.int (nI wh), .int (nI q), .int (nI (12 * p)), .int (nI o), .ref 10], wP pre (wN (PP s) (QQ s) op oq tr (nI L.1) 0 0 ob st of F), 0)) rfl ?_
  refine mm_inv (mm_call_mono _ _) (j := 92) (a := [.ref 10, .int (nI o), .int (nI (12 * p)), .int (nI q), .int (nI wh)]) (M := wP pre (wN (PP s) (QQ s) op oq tr (nI L.1) 0 0 ob st of F)) (u := 0) rfl (by decide) (rk_cut (LN := 12 * p) (kc := q) (ct := ct) hV hl hw (by omega) hof R Hf A B C D G H I (fun s1 w1 fa1 L1 hd => ?_))
  show mm_W _ _ _ _ _ _ _ (102, [(0, .ref 10), (1, .int (nI o)), (2, .int (nI p)), (3, .int (nI q)), (4, .int (nI wh))], [], wP pre (wN (PP s1) (QQ s1) op oq tr (nI L1.1) w1 fa1 ob st of F), 0)
  exact mm_ret (mm_call_mono _ _) (c := True) (r := .inl none) (M := wP pre (wN (PP s1) (QQ s1) op oq tr (nI L1.1) w1 fa1 ob st of F)) (u := 0) rfl trivial (by decide) (hQ _ _ _ _ hd)

set_option maxRecDepth 100000 in
theorem rk_mt5b {d : Nat} {pre : mm_pre} {s : Nat → fr} {op oq : Nat → Int64} {tr ob : Int32} {st of : Nat → Int32} {F : mm_M} {L : lvR} {o : Nat} {p q ct wh : Nat} {va vb vc x y sq : n4} {Q : mm_R → mm_M → Prop} (hV : ∀ k, fv (s k)) (hl : L.1 ≤ 2) (hw : wh ≤ 1) (hsp : st p = 1) (hsq : st q = 2) (hg : p < o ∧ q < o ∧ ct < o ∧ o < 24) (hof : of (4 * q) = nI ct) (R : rdM s 0 L) (Hf : isM s 0 1 299 (fun _ => (1, 2))) (A : tM s 0 L.1 (12 * p) va) (B : tM s 0 L.1 ((12 * p + 4)) vb) (C : tM s 0 L.1 ((12 * p + 8)) vc) (D : tM s 0 L.1 (12 * ct) x) (G : tM s 0 L.1 ((12 * ct + 4)) y) (H : tM s 0 L.1 (12 * q) sq) (I : tM s 0 L.1 ((12 * o + 8)) zz) (hQ : ∀ (s1 : Nat → fr) (w1 fa1 : Int32) (L1 : lvR), drM s L o (mCut L va vb vc x y sq (decide (wh = 0))) s1 w1 fa1 L1 → Q (.inl none) (wP pre (wN (PP s1) (QQ s1) op oq tr (nI L1.1) w1 fa1 ob st of F))) : mm_call mm_Tb (d + 14) 94 [.ref 10, .int (nI o), .int (nI q), .int (nI p), .int (nI wh)] (wP pre (wN (PP s) (QQ s) op oq tr (nI L.1) 0 0 ob st of F)) Q := by
  refine mm_in mt_94 (Nat.le_of_ble_eq_true rfl) ?_
  show mm_W _ _ _ _ _ _ _ (0, [(0, .ref 10), (1, .int (nI o)), (2, .int (nI q)), (3, .int (nI p)), (4, .int (nI wh))], [], wP pre (wN (PP s) (QQ s) op oq tr (nI L.1) 0 0 ob st of F), 0)
  refine mm_skip (mm_call_mono _ _) 3 (st' := (5, [(0, .ref 10), (1, .int (nI o)), (2, .int (nI q)), (3, .int (nI p)), (4, .int (nI wh))], [.int (nI q), .ref 15], wP pre (wN (PP s) (QQ s) op oq tr (nI L.1) 0 0 ob st of F), 0)) rfl ?_
  refine mm_need (mm_call_mono _ _) (c := vp_in (nI q) 24) (s' := (6, [(0, .ref 10), (1, .int (nI o)), (2, .int (nI q)), (3, .int (nI p)), (4, .int (nI wh))], [.int (st (Int32.toNatClampNeg (nI q)))], wP pre (wN (PP s) (QQ s) op oq tr (nI L.1) 0 0 ob st of F), 0)) rfl (vp_in_nI (show q < 24 by omega) (by decide)) ?_
  rw [nI_clamp (show q < 2 ^ 31 by omega)]
  show mm_W _ _ _ _ _ _ _ (6, [(0, .ref 10), (1, .int (nI o)), (2, .int (nI q)), (3, .int (nI p)), (4, .int (nI wh))], [.int (st q)], wP pre (wN (PP s) (QQ s) op oq tr (nI L.1) 0 0 ob st of F), 0)
  rw [hsq]
  show mm_W _ _ _ _ _ _ _ (6, [(0, .ref 10), (1, .int (nI o)), (2, .int (nI q)), (3, .int (nI p)), (4, .int (nI wh))], [.int 2], wP pre (wN (PP s) (QQ s) op oq tr (nI L.1) 0 0 ob st of F), 0)
  refine mm_skip (mm_call_mono _ _) 1 (st' := (7, [(0, .ref 10), (1, .int (nI o)), (2, .int (nI q)), (3, .int (nI p)), (4, .int (nI wh))], [.int 1, .int 2], wP pre (wN (PP s) (QQ s) op oq tr (nI L.1) 0 0 ob st of F), 0)) rfl ?_
  refine mm_branch (mm_call_mono _ _) (c := (2 : Int32) = 1) (s1 := (10, [(0, .ref 10), (1, .int (nI o)), (2, .int (nI q)), (3, .int (nI p)), (4, .int (nI wh))], [], wP pre (wN (PP s) (QQ s) op oq tr (nI L.1) 0 0 ob st of F), 0)) (s2 := (30, [(0, .ref 10), (1, .int (nI o)), (2, .int (nI q)), (3, .int (nI p)), (4, .int (nI wh))], [], wP pre (wN (PP s) (QQ s) op oq tr (nI L.1) 0 0 ob st of F), 0)) rfl (fun h => absurd h (by decide)) (fun _ => ?_)
  refine mm_skip (mm_call_mono _ _) 3 (st' := (35, [(0, .ref 10), (1, .int (nI o)), (2, .int (nI q)), (3, .int (nI p)), (4, .int (nI wh))], [.int (nI q), .ref 15], wP pre (wN (PP s) (QQ s) op oq tr (nI L.1) 0 0 ob st of F), 0)) rfl ?_
  refine mm_need (mm_call_mono _ _) (c := vp_in (nI q) 24) (s' := (36, [(0, .ref 10), (1, .int (nI o)), (2, .int (nI q)), (3, .int (nI p)), (4, .int (nI wh))], [.int (st (Int32.toNatClampNeg (nI q)))], wP pre (wN (PP s) (QQ s) op oq tr (nI L.1) 0 0 ob st of F), 0)) rfl (vp_in_nI (show q < 24 by omega) (by decide)) ?_
  rw [nI_clamp (show q < 2 ^ 31 by omega)]
  show mm_W _ _ _ _ _ _ _ (36, [(0, .ref 10), (1, .int (nI o)), (2, .int (nI q)), (3, .int (nI p)), (4, .int (nI wh))], [.int (st q)], wP pre (wN (PP s) (QQ s) op oq tr (nI L.1) 0 0 ob st of F), 0)
  rw [hsq]
  show mm_W _ _ _ _ _ _ _ (36, [(0, .ref 10), (1, .int (nI o)), (2, .int (nI q)), (3, .int (nI p)), (4, .int (nI wh))], [.int 2], wP pre (wN (PP s) (QQ s) op oq tr (nI L.1) 0 0 ob st of F), 0)
  refine mm_skip (mm_call_mono _ _) 1 (st' := (37, [(0, .ref 10), (1, .int (nI o)), (2, .int (nI q)), (3, .int (nI p)), (4, .int (nI wh))], [.int 2, .int 2], wP pre (wN (PP s) (QQ s) op oq tr (nI L.1) 0 0 ob st of F), 0)) rfl ?_
  refine mm_branch (mm_call_mono _ _) (c := (2 : Int32) = 2) (s1 := (40, [(0, .ref 10), (1, .int (nI o)), (2, .int (nI q)), (3, .int (nI p)), (4, .int (nI wh))], [], wP pre (wN (PP s) (QQ s) op oq tr (nI L.1) 0 0 ob st of F), 0)) (s2 := (62, [(0, .ref 10), (1, .int (nI o)), (2, .int (nI q)), (3, .int (nI p)), (4, .int (nI wh))], [], wP pre (wN (PP s) (QQ s) op oq tr (nI L.1) 0 0 ob st of F), 0)) rfl (fun _ => ?_) (fun h => absurd (by decide) h)
  refine mm_skip (mm_call_mono _ _) 3 (st' := (45, [(0, .ref 10), (1, .int (nI o)), (2, .int (nI q)), (3, .int (nI p)), (4, .int (nI wh))], [.int (nI p), .ref 15], wP pre (wN (PP s) (QQ s) op oq tr (nI L.1) 0 0 ob st of F), 0)) rfl ?_
  refine mm_need (mm_call_mono _ _) (c := vp_in (nI p) 24) (s' := (46, [(0, .ref 10), (1, .int (nI o)), (2, .int (nI q)), (3, .int (nI p)), (4, .int (nI wh))], [.int (st (Int32.toNatClampNeg (nI p)))], wP pre (wN (PP s) (QQ s) op oq tr (nI L.1) 0 0 ob st of F), 0)) rfl (vp_in_nI (show p < 24 by omega) (by decide)) ?_
  rw [nI_clamp (show p < 2 ^ 31 by omega)]
  show mm_W _ _ _ _ _ _ _ (46, [(0, .ref 10), (1, .int (nI o)), (2, .int (nI q)), (3, .int (nI p)), (4, .int (nI wh))], [.int (st p)], wP pre (wN (PP s) (QQ s) op oq tr (nI L.1) 0 0 ob st of F), 0)
  rw [hsp]
  show mm_W _ _ _ _ _ _ _ (46, [(0, .ref 10), (1, .int (nI o)), (2, .int (nI q)), (3, .int (nI p)), (4, .int (nI wh))], [.int 1], wP pre (wN (PP s) (QQ s) op oq tr (nI L.1) 0 0 ob st of F), 0)
  refine mm_skip (mm_call_mono _ _) 1 (st' := (47, [(0, .ref 10), (1, .int (nI o)), (2, .int (nI q)), (3, .int (nI p)), (4, .int (nI wh))], [.int 2, .int 1], wP pre (wN (PP s) (QQ s) op oq tr (nI L.1) 0 0 ob st of F), 0)) rfl ?_
  refine mm_branch (mm_call_mono _ _) (c := (1 : Int32) = 2) (s1 := (50, [(0, .ref 10), (1, .int (nI o)), (2, .int (nI q)), (3, .int (nI p)), (4, .int (nI wh))], [], wP pre (wN (PP s) (QQ s) op oq tr (nI L.1) 0 0 ob st of F), 0)) (s2 := (62, [(0, .ref 10), (1, .int (nI o)), (2, .int (nI q)), (3, .int (nI p)), (4, .int (nI wh))], [], wP pre (wN (PP s) (QQ s) op oq tr (nI L.1) 0 0 ob st of F), 0)) rfl (fun h => absurd h (by decide)) (fun _ => ?_)
  refine mm_skip (mm_call_mono _ _) 6 (st' := (71, [(0, .ref 10), (1, .int (nI o)), (2, .int (nI q)), (3, .int (nI p)), (4, .int (nI wh))], [.int (nI q), .ref 15, .int 12, .int (nI o), .ref 10], wP pre (wN (PP s) (QQ s) op oq tr (nI L.1) 0 0 ob st of F), 0)) rfl ?_
  refine mm_need (mm_call_mono _ _) (c := vp_in (nI q) 24) (s' := (72, [(0, .ref 10), (1, .int (nI o)), (2, .int (nI q)), (3, .int (nI p)), (4, .int (nI wh))], [.int (st (Int32.toNatClampNeg (nI q))), .int 12, .int (nI o), .ref 10], wP pre (wN (PP s) (QQ s) op oq tr (nI L.1) 0 0 ob st of F), 0)) rfl (vp_in_nI (show q < 24 by omega) (by decide)) ?_
  rw [nI_clamp (show q < 2 ^ 31 by omega)]
  show mm_W _ _ _ _ _ _ _ (72, [(0, .ref 10), (1, .int (nI o)), (2, .int (nI q)), (3, .int (nI p)), (4, .int (nI wh))], [.int (st q), .int 12, .int (nI o), .ref 10], wP pre (wN (PP s) (QQ s) op oq tr (nI L.1) 0 0 ob st of F), 0)
  rw [hsq]
  show mm_W _ _ _ _ _ _ _ (72, [(0, .ref 10), (1, .int (nI o)), (2, .int (nI q)), (3, .int (nI p)), (4, .int (nI wh))], [.int 2, .int 12, .int (nI o), .ref 10], wP pre (wN (PP s) (QQ s) op oq tr (nI L.1) 0 0 ob st of F), 0)
  refine mm_skip (mm_call_mono _ _) 1 (st' := (73, [(0, .ref 10), (1, .int (nI o)), (2, .int (nI q)), (3, .int (nI p)), (4, .int (nI wh))], [.int 1, .int 2, .int 12, .int (nI o), .ref 10], wP pre (wN (PP s) (QQ s) op oq tr (nI L.1) 0 0 ob st of F), 0)) rfl ?_
  refine mm_branch (mm_call_mono _ _) (c := (2 : Int32) = 1) (s1 := (76, [(0, .ref 10), (1, .int (nI o)), (2, .int (nI q)), (3, .int (nI p)), (4, .int (nI wh))], [.int 12, .int (nI o), .ref 10], wP pre (wN (PP s) (QQ s) op oq tr (nI L.1) 0 0 ob st of F), 0)) (s2 := (80, [(0, .ref 10), (1, .int (nI o)), (2, .int (nI q)), (3, .int (nI p)), (4, .int (nI wh))], [.int 12, .int (nI o), .ref 10], wP pre (wN (PP s) (QQ s) op oq tr (nI L.1) 0 0 ob st of F), 0)) rfl (fun h => absurd h (by decide)) (fun _ => ?_)
  refine mm_skip (mm_call_mono _ _) 5 (st' := (87, [(0, .ref 10), (1, .int (nI o)), (2, .int (nI q)), (3, .int (nI p)), (4, .int (nI wh))], [.int (nI q), .ref 15, .int (12 * (nI p)), .int (nI o), .ref 10], wP pre (wN (PP s) (QQ s) op oq tr (nI L.1) 0 0 ob st of F), 0)) rfl ?_
  rw [nI_m12 p]
  show mm_W _ _ _ _ _ _ _ (87, [(0, .ref 10), (1, .int (nI o)), (2, .int (nI q)), (3, .int (nI p)), (4, .int (nI wh))], [.int (nI q), .ref 15, .int (nI (12 * p)), .int (nI o), .ref 10], wP pre (wN (PP s) (QQ s) op oq tr (nI L.1) 0 0 ob st of F), 0)
  refine mm_need (mm_call_mono _ _) (c := vp_in (nI q) 24) (s' := (88, [(0, .ref 10), (1, .int (nI o)), (2, .int (nI q)), (3, .int (nI p)), (4, .int (nI wh))], [.int (st (Int32.toNatClampNeg (nI q))), .int (nI (12 * p)), .int (nI o), .ref 10], wP pre (wN (PP s) (QQ s) op oq tr (nI L.1) 0 0 ob st of F), 0)) rfl (vp_in_nI (show q < 24 by omega) (by decide)) ?_
  rw [nI_clamp (show q < 2 ^ 31 by omega)]
  show mm_W _ _ _ _ _ _ _ (88, [(0, .ref 10), (1, .int (nI o)), (2, .int (nI q)), (3, .int (nI p)), (4, .int (nI wh))], [.int (st q), .int (nI (12 * p)), .int (nI o), .ref 10], wP pre (wN (PP s) (QQ s) op oq tr (nI L.1) 0 0 ob st of F), 0)
  rw [hsq]
  show mm_W _ _ _ _ _ _ _ (88, [(0, .ref 10), (1, .int (nI o)), (2, .int (nI q)), (3, .int (nI p)), (4, .int (nI wh))], [.int 2, .int (nI (12 * p)), .int (nI o), .ref 10], wP pre (wN (PP s) (QQ s) op oq tr (nI L.1) 0 0 ob st of F), 0)
  refine mm_skip (mm_call_mono _ _) 1 (st' := (89, [(0, .ref 10), (1, .int (nI o)), (2, .int (nI q)), (3, .int (nI p)), (4, .int (nI wh))], [.int 1, .int 2, .int (nI (12 * p)), .int (nI o), .ref 10], wP pre (wN (PP s) (QQ s) op oq tr (nI L.1) 0 0 ob st of F), 0)) rfl ?_
  refine mm_branch (mm_call_mono _ _) (c := (2 : Int32) = 1) (s1 := (92, [(0, .ref 10), (1, .int (nI o)), (2, .int (nI q)), (3, .int (nI p)), (4, .int (nI wh))], [.int (nI (12 * p)), .int (nI o), .ref 10], wP pre (wN (PP s) (QQ s) op oq tr (nI L.1) 0 0 ob st of F), 0)) (s2 := (96, [(0, .ref 10), (1, .int (nI o)), (2, .int (nI q)), (3, .int (nI p)), (4, .int (nI wh))], [.int (nI (12 * p)), .int (nI o), .ref 10], wP pre (wN (PP s) (QQ s) op oq tr (nI L.1) 0 0 ob st of F), 0)) rfl (fun h => absurd h (by decide)) (fun _ => ?_)
  refine mm_skip (mm_call_mono _ _) 2 (st' := (99, [(0, .ref 10), (1, .int (nI o)), (2, .int (nI q)), (3, .int (nI p)), (4, .int (nI wh))], [.int (nI wh), .int (nI q), .int (nI (12 * p)), .int (nI o), .ref 10], wP pre (wN (PP s) (QQ s) op oq tr (nI L.1) 0 0 ob st of F), 0)) rfl ?_
  refine mm_inv (mm_call_mono _ _) (j := 92) (a := [.ref 10, .int (nI o), .int (nI (12 * p)), .int (nI q), .int (nI wh)]) (M := wP pre (wN (PP s) (QQ s) op oq tr (nI L.1) 0 0 ob st of F)) (u := 0) rfl (by decide) (rk_cut (LN := 12 * p) (kc := q) (ct := ct) hV hl hw (by omega) hof R Hf A B C D G H I (fun s1 w1 fa1 L1 hd => ?_))
  show mm_W _ _ _ _ _ _ _ (102, [(0, .ref 10), (1, .int (nI o)), (2, .int (nI q)), (3, .int (nI p)), (4, .int (nI wh))], [], wP pre (wN (PP s1) (QQ s1) op oq tr (nI L1.1) w1 fa1 ob st of F), 0)
  exact mm_ret (mm_call_mono _ _) (c := True) (r := .inl none) (M := wP pre (wN (PP s1) (QQ s1) op oq tr (nI L1.1) w1 fa1 ob st of F)) (u := 0) rfl trivial (by decide) (hQ _ _ _ _ hd)

set_option maxRecDepth 100000 in
theorem mkw_1 {d : Nat} {pre : mm_pre} {s : Nat → fr} {op oq : Nat → Int64} {tr ob : Int32} {st of : Nat → Int32} {F : mm_M} {L : lvR} {o : Nat} {p q : Nat} {xp yp xq yq : n4} {Q : mm_R → mm_M → Prop} (hV : ∀ k, fv (s k)) (hl : L.1 ≤ 2) (ho : o < 24) (R : rdM s 0 L) (Hf : isM s 0 1 299 (fun _ => (1, 2))) (I : tM s 0 L.1 (12 * o + 8) zz) (hp : p < o) (hq : q < o) (h1 : of (4 * o) = nI p) (h2 : of (4 * o + 1) = nI q) (A : tM s 0 L.1 (12 * p) xp) (B : tM s 0 L.1 ((12 * p + 4)) yp) (C : tM s 0 L.1 (12 * q) xq) (D : tM s 0 L.1 ((12 * q + 4)) yq)  (hT : ∀ (s1 : Nat → fr) (w1 fa1 : Int32) (L1 : lvR), drM s L o (mLine L xp yp xq yq) s1 w1 fa1 L1 → mm_W (mm_call mm_Tb (d + 14)) mp_M_make (mm_bt mm_Tb) 0 (some .boolean) 3 Q (250, [(2, .int (nI (4 * o))), (0, .ref 10), (1, .int (nI o))], [], wP pre (wN (PP s1) (QQ s1) op oq tr (nI L1.1) w1 fa1 ob st of F), 0)) : mm_W (mm_call mm_Tb (d + 14)) mp_M_make (mm_bt mm_Tb) 0 (some .boolean) 3 Q (139, [(2, .int (nI (4 * o))), (0, .ref 10), (1, .int (nI o))], [], wP pre (wN (PP s) (QQ s) op oq tr (nI L.1) 0 0 ob st of F), 0) := by
  refine mm_skip (mm_call_mono _ _) 5 (st' := (146, [(2, .int (nI (4 * o))), (0, .ref 10), (1, .int (nI o))], [.int (nI (4 * o)), .ref 16, .int (nI o), .ref 10], wP pre (wN (PP s) (QQ s) op oq tr (nI L.1) 0 0 ob st of F), 0)) rfl ?_
  refine mm_need (mm_call_mono _ _) (c := vp_in (nI (4 * o)) 96) (s' := (147, [(2, .int (nI (4 * o))), (0, .ref 10), (1, .int (nI o))], [.int (of (Int32.toNatClampNeg (nI (4 * o)))), .int (nI o), .ref 10], wP pre (wN (PP s) (QQ s) op oq tr (nI L.1) 0 0 ob st of F), 0)) rfl (vp_in_nI (show (4 * o) < 96 by omega) (by decide)) ?_
  rw [nI_clamp (show (4 * o) < 2 ^ 31 by omega)]
  show mm_W _ _ _ _ _ _ _ (147, [(2, .int (nI (4 * o))), (0, .ref 10), (1, .int (nI o))], [.int (of (4 * o)), .int (nI o), .ref 10], wP pre (wN (PP s) (QQ s) op oq tr (nI L.1) 0 0 ob st of F), 0)
  rw [h1]
  show mm_W _ _ _ _ _ _ _ (147, [(2, .int (nI (4 * o))), (0, .ref 10), (1, .int (nI o))], [.int (nI p), .int (nI o), .ref 10], wP pre (wN (PP s) (QQ s) op oq tr (nI L.1) 0 0 ob st of F), 0)
  refine mm_skip (mm_call_mono _ _) 5 (st' := (154, [(2, .int (nI (4 * o))), (0, .ref 10), (1, .int (nI o))], [.int ((nI (4 * o)) + 1), .ref 16, .int (nI p), .int (nI o), .ref 10], wP pre (wN (PP s) (QQ s) op oq tr (nI L.1) 0 0 ob st of F), 0)) rfl ?_
  rw [nI_p1 ((4 * o))]
  show mm_W _ _ _ _ _ _ _ (154, [(2, .int (nI (4 * o))), (0, .ref 10), (1, .int (nI o))], [.int (nI (4 * o + 1)), .ref 16, .int (nI p), .int (nI o), .ref 10], wP pre (wN (PP s) (QQ s) op oq tr (nI L.1) 0 0 ob st of F), 0)
  refine mm_need (mm_call_mono _ _) (c := vp_in (nI (4 * o + 1)) 96) (s' := (155, [(2, .int (nI (4 * o))), (0, .ref 10), (1, .int (nI o))], [.int (of (Int32.toNatClampNeg (nI (4 * o + 1)))), .int (nI p), .int (nI o), .ref 10], wP pre (wN (PP s) (QQ s) op oq tr (nI L.1) 0 0 ob st of F), 0)) rfl (vp_in_nI (show (4 * o + 1) < 96 by omega) (by decide)) ?_
  rw [nI_clamp (show (4 * o + 1) < 2 ^ 31 by omega)]
  show mm_W _ _ _ _ _ _ _ (155, [(2, .int (nI (4 * o))), (0, .ref 10), (1, .int (nI o))], [.int (of (4 * o + 1)), .int (nI p), .int (nI o), .ref 10], wP pre (wN (PP s) (QQ s) op oq tr (nI L.1) 0 0 ob st of F), 0)
  rw [h2]
  show mm_W _ _ _ _ _ _ _ (155, [(2, .int (nI (4 * o))), (0, .ref 10), (1, .int (nI o))], [.int (nI q), .int (nI p), .int (nI o), .ref 10], wP pre (wN (PP s) (QQ s) op oq tr (nI L.1) 0 0 ob st of F), 0)
  refine mm_inv (mm_call_mono _ _) (j := 89) (a := [.ref 10, .int (nI o), .int (nI p), .int (nI q)]) (M := wP pre (wN (PP s) (QQ s) op oq tr (nI L.1) 0 0 ob st of F)) (u := 0) rfl (by decide) (rk_line hV hl (by omega) R A B C D (fun s1 w1 fa1 hd => ?_))
  show mm_W _ _ _ _ _ _ _ (158, [(2, .int (nI (4 * o))), (0, .ref 10), (1, .int (nI o))], [], wP pre (wN (PP s1) (QQ s1) op oq tr (nI L.1) w1 fa1 ob st of F), 0)
  refine mm_skip (mm_call_mono _ _) 1 (st' := (250, [(2, .int (nI (4 * o))), (0, .ref 10), (1, .int (nI o))], [], wP pre (wN (PP s1) (QQ s1) op oq tr (nI L.1) w1 fa1 ob st of F), 0)) rfl ?_
  exact hT _ _ _ _ hd

set_option maxRecDepth 100000 in
theorem mkw_3 {d : Nat} {pre : mm_pre} {s : Nat → fr} {op oq : Nat → Int64} {tr ob : Int32} {st of : Nat → Int32} {F : mm_M} {L : lvR} {o : Nat} {p q : Nat} {xp yp xq yq : n4} {Q : mm_R → mm_M → Prop} (hV : ∀ k, fv (s k)) (hl : L.1 ≤ 2) (ho : o < 24) (R : rdM s 0 L) (Hf : isM s 0 1 299 (fun _ => (1, 2))) (I : tM s 0 L.1 (12 * o + 8) zz) (hp : p < o) (hq : q < o) (h1 : of (4 * o) = nI p) (h2 : of (4 * o + 1) = nI q) (A : tM s 0 L.1 (12 * p) xp) (B : tM s 0 L.1 ((12 * p + 4)) yp) (C : tM s 0 L.1 (12 * q) xq) (D : tM s 0 L.1 ((12 * q + 4)) yq)  (hT : ∀ (s1 : Nat → fr) (w1 fa1 : Int32) (L1 : lvR), drM s L o (mMid L xp yp xq yq) s1 w1 fa1 L1 → mm_W (mm_call mm_Tb (d + 14)) mp_M_make (mm_bt mm_Tb) 0 (some .boolean) 3 Q (250, [(2, .int (nI (4 * o))), (0, .ref 10), (1, .int (nI o))], [], wP pre (wN (PP s1) (QQ s1) op oq tr (nI L1.1) w1 fa1 ob st of F), 0)) : mm_W (mm_call mm_Tb (d + 14)) mp_M_make (mm_bt mm_Tb) 0 (some .boolean) 3 Q (201, [(2, .int (nI (4 * o))), (0, .ref 10), (1, .int (nI o))], [], wP pre (wN (PP s) (QQ s) op oq tr (nI L.1) 0 0 ob st of F), 0) := by
  refine mm_skip (mm_call_mono _ _) 5 (st' := (208, [(2, .int (nI (4 * o))), (0, .ref 10), (1, .int (nI o))], [.int (nI (4 * o)), .ref 16, .int (nI o), .ref 10], wP pre (wN (PP s) (QQ s) op oq tr (nI L.1) 0 0 ob st of F), 0)) rfl ?_
  refine mm_need (mm_call_mono _ _) (c := vp_in (nI (4 * o)) 96) (s' := (209, [(2, .int (nI (4 * o))), (0, .ref 10), (1, .int (nI o))], [.int (of (Int32.toNatClampNeg (nI (4 * o)))), .int (nI o), .ref 10], wP pre (wN (PP s) (QQ s) op oq tr (nI L.1) 0 0 ob st of F), 0)) rfl (vp_in_nI (show (4 * o) < 96 by omega) (by decide)) ?_
  rw [nI_clamp (show (4 * o) < 2 ^ 31 by omega)]
  show mm_W _ _ _ _ _ _ _ (209, [(2, .int (nI (4 * o))), (0, .ref 10), (1, .int (nI o))], [.int (of (4 * o)), .int (nI o), .ref 10], wP pre (wN (PP s) (QQ s) op oq tr (nI L.1) 0 0 ob st of F), 0)
  rw [h1]
  show mm_W _ _ _ _ _ _ _ (209, [(2, .int (nI (4 * o))), (0, .ref 10), (1, .int (nI o))], [.int (nI p), .int (nI o), .ref 10], wP pre (wN (PP s) (QQ s) op oq tr (nI L.1) 0 0 ob st of F), 0)
  refine mm_skip (mm_call_mono _ _) 5 (st' := (216, [(2, .int (nI (4 * o))), (0, .ref 10), (1, .int (nI o))], [.int ((nI (4 * o)) + 1), .ref 16, .int (nI p), .int (nI o), .ref 10], wP pre (wN (PP s) (QQ s) op oq tr (nI L.1) 0 0 ob st of F), 0)) rfl ?_
  rw [nI_p1 ((4 * o))]
  show mm_W _ _ _ _ _ _ _ (216, [(2, .int (nI (4 * o))), (0, .ref 10), (1, .int (nI o))], [.int (nI (4 * o + 1)), .ref 16, .int (nI p), .int (nI o), .ref 10], wP pre (wN (PP s) (QQ s) op oq tr (nI L.1) 0 0 ob st of F), 0)
  refine mm_need (mm_call_mono _ _) (c := vp_in (nI (4 * o + 1)) 96) (s' := (217, [(2, .int (nI (4 * o))), (0, .ref 10), (1, .int (nI o))], [.int (of (Int32.toNatClampNeg (nI (4 * o + 1)))), .int (nI p), .int (nI o), .ref 10], wP pre (wN (PP s) (QQ s) op oq tr (nI L.1) 0 0 ob st of F), 0)) rfl (vp_in_nI (show (4 * o + 1) < 96 by omega) (by decide)) ?_
  rw [nI_clamp (show (4 * o + 1) < 2 ^ 31 by omega)]
  show mm_W _ _ _ _ _ _ _ (217, [(2, .int (nI (4 * o))), (0, .ref 10), (1, .int (nI o))], [.int (of (4 * o + 1)), .int (nI p), .int (nI o), .ref 10], wP pre (wN (PP s) (QQ s) op oq tr (nI L.1) 0 0 ob st of F), 0)
  rw [h2]
  show mm_W _ _ _ _ _ _ _ (217, [(2, .int (nI (4 * o))), (0, .ref 10), (1, .int (nI o))], [.int (nI q), .int (nI p), .int (nI o), .ref 10], wP pre (wN (PP s) (QQ s) op oq tr (nI L.1) 0 0 ob st of F), 0)
  refine mm_inv (mm_call_mono _ _) (j := 90) (a := [.ref 10, .int (nI o), .int (nI p), .int (nI q)]) (M := wP pre (wN (PP s) (QQ s) op oq tr (nI L.1) 0 0 ob st of F)) (u := 0) rfl (by decide) (rk_middle hV hl (by omega) R Hf A B C D I (fun s1 w1 fa1 hd => ?_))
  show mm_W _ _ _ _ _ _ _ (220, [(2, .int (nI (4 * o))), (0, .ref 10), (1, .int (nI o))], [], wP pre (wN (PP s1) (QQ s1) op oq tr (nI L.1) w1 fa1 ob st of F), 0)
  refine mm_skip (mm_call_mono _ _) 1 (st' := (250, [(2, .int (nI (4 * o))), (0, .ref 10), (1, .int (nI o))], [], wP pre (wN (PP s1) (QQ s1) op oq tr (nI L.1) w1 fa1 ob st of F), 0)) rfl ?_
  exact hT _ _ _ _ hd

theorem ci_of {s s1 : Nat → fr} {L : lvR} {o : Nat} {w1 : Int32} {X : Option n4} (hl : L.1 ≤ 2) (ho : o < 24) (R : rdM s 0 L) (Y : tM s 0 L.1 (12 * o + 4) zz) (I : tM s 0 L.1 (12 * o + 8) zz) (h : gR s 0 L.1 448 (12 * o) X s1 w1) : drM s L o (X.bind fun q => if n4z q then none else some ((q, zz, zz), L)) s1 w1 (bz (iszm 4 s1 (12 * o))) L := by
  have R1 := r_k R h (by omega)
  have Y1 := t_k Y h (by omega)
  have I1 := t_k I h (by omega)
  have W := t_new h
  obtain ⟨a1, a2, a3, a4, a5, a6⟩ := h
  refine ⟨a1, a2, bz_z _, fun k h1 h2 _ => a3 k (by omega) (by omega) (by omega), hl, fun h0 hf => ?_, fun hc => ?_⟩
  · obtain ⟨b1, b2, b3⟩ := a5 h0
    subst h0
    refine ⟨(pd 4 s1 (12 * o), zz, zz), ?_, ⟨W, Y1, I1⟩, R1⟩
    rw [b2]
    exact if_neg (fun z => bz_0 hf (isz_n4.mpr z))
  · rcases a2 with h0 | h0
    · obtain ⟨b1, b2, b3⟩ := a5 h0
      rw [b2]
      refine if_pos (isz_n4.mp ?_)
      rcases hc with hc | hc
      · exact absurd (h0.symm.trans hc).symm z10
      · exact bz_1 (by rw [hc]; decide)
    · rw [a6 h0 rfl]; rfl
/-- a free point -/
theorem fr_of {s s1 s2 : Nat → fr} {w1 w2 : Int32} {L : lvR} {o : Nat} {x y : fr} {T1 T2 : Option n4} (hl : L.1 ≤ 2) (ho : o < 24) (R : rdM s 0 L) (Xz : tM s 0 L.1 (12 * o) zz) (Y : tM s 0 L.1 (12 * o + 4) zz) (I : tM s 0 L.1 (12 * o + 8) zz) (h1 : mR s 0 300 (12 * o) 1 T1 s1 w1) (e1 : T1 = some (em x)) (h2 : mR s1 w1 300 (12 * o + 4) 1 T2 s2 w2) (e2 : T2 = some (em y)) : drM s L o (some ((em x, em y, zz), L)) s2 w2 0 L := by
  obtain ⟨z1, v1⟩ := mR_z h1 e1
  subst z1
  obtain ⟨z2, v2⟩ := mR_z h2 e2
  subst z2
  have k1 : ∀ k, ¬ k = 12 * o → s1 k = s k := fun k hk => h1.2.2.1 k (by omega) (by omega)
  have k2 : ∀ k, ¬ k = 12 * o + 4 → s2 k = s1 k := fun k hk => h2.2.2.1 k (by omega) (by omega)
  have zc : ∀ D, tM s 0 L.1 D zz → ∀ j, j < 4 → s (D + j) = z0 := fun D H j hj => by rw [H.1 rfl j hj, g4_zz]
  refine ⟨h2.1, Or.inl rfl, Or.inl rfl, fun k q1 q2 _ => (k2 k (by omega)).trans (k1 k (by omega)), hl, fun _ _ => ⟨_, rfl, ⟨?_, ?_, ?_⟩, ?_⟩, fun hc => by rcases hc with hc | hc <;> exact absurd hc.symm z10⟩
  · refine t_em ((k2 _ (by omega)).trans v1) ?_ ?_ ?_
    · rw [k2 _ (by omega), k1 _ (by omega)]; exact zc _ Xz 1 (by omega)
    · rw [k2 _ (by omega), k1 _ (by omega)]; exact zc _ Xz 2 (by omega)
    · rw [k2 _ (by omega), k1 _ (by omega)]; exact zc _ Xz 3 (by omega)
  · refine t_em v2 ?_ ?_ ?_
    · rw [k2 _ (by omega), k1 _ (by omega)]; exact zc _ Y 1 (by omega)
    · rw [k2 _ (by omega), k1 _ (by omega)]; exact zc _ Y 2 (by omega)
    · rw [k2 _ (by omega), k1 _ (by omega)]; exact zc _ Y 3 (by omega)
  · exact ⟨fun _ j hj => by rw [k2 _ (by omega), k1 _ (by omega)]; exact I.1 rfl j hj, I.2⟩
  · exact ⟨fun q _ j hj => by rw [k2 _ (by omega), k1 _ (by omega)]; exact R.1 q rfl j hj, fun q _ j hj => by rw [k2 _ (by omega), k1 _ (by omega)]; exact R.2 q rfl j hj⟩
set_option maxRecDepth 100000 in
theorem mkw_2 {d : Nat} {pre : mm_pre} {s : Nat → fr} {op oq : Nat → Int64} {tr ob : Int32} {st of : Nat → Int32} {F : mm_M} {L : lvR} {o : Nat} {p q : Nat} {xp yp xq yq : n4} {Q : mm_R → mm_M → Prop} (hV : ∀ k, fv (s k)) (hl : L.1 ≤ 2) (ho : o < 24) (R : rdM s 0 L) (Hf : isM s 0 1 299 (fun _ => (1, 2))) (I : tM s 0 L.1 (12 * o + 8) zz) (hp : p < o) (hq : q < o) (h1 : of (4 * o + 1) = nI p) (h2 : of (4 * o + 2) = nI q) (Y : tM s 0 L.1 (12 * o + 4) zz) (A : tM s 0 L.1 (12 * p) xp) (B : tM s 0 L.1 ((12 * p + 4)) yp) (C : tM s 0 L.1 (12 * q) xq) (D : tM s 0 L.1 ((12 * q + 4)) yq)  (hT : ∀ (s1 : Nat → fr) (w1 fa1 : Int32) (L1 : lvR), drM s L o (mCirc L xp yp xq yq) s1 w1 fa1 L1 → mm_W (mm_call mm_Tb (d + 14)) mp_M_make (mm_bt mm_Tb) 0 (some .boolean) 3 Q (250, [(2, .int (nI (4 * o))), (0, .ref 10), (1, .int (nI o))], [], wP pre (wN (PP s1) (QQ s1) op oq tr (nI L1.1) w1 fa1 ob st of F), 0)) : mm_W (mm_call mm_Tb (d + 14)) mp_M_make (mm_bt mm_Tb) 0 (some .boolean) 3 Q (161, [(2, .int (nI (4 * o))), (0, .ref 10), (1, .int (nI o))], [], wP pre (wN (PP s) (QQ s) op oq tr (nI L.1) 0 0 ob st of F), 0) := by
  refine mm_skip (mm_call_mono _ _) 9 (st' := (173, [(2, .int (nI (4 * o))), (0, .ref 10), (1, .int (nI o))], [.int ((nI (4 * o)) + 1), .ref 16, .int (12 * (nI o)), .ref 10], wP pre (wN (PP s) (QQ s) op oq tr (nI L.1) 0 0 ob st of F), 0)) rfl ?_
  rw [nI_p1 ((4 * o))]
  rw [nI_m12 o]
  show mm_W _ _ _ _ _ _ _ (173, [(2, .int (nI (4 * o))), (0, .ref 10), (1, .int (nI o))], [.int (nI (4 * o + 1)), .ref 16, .int (nI (12 * o)), .ref 10], wP pre (wN (PP s) (QQ s) op oq tr (nI L.1) 0 0 ob st of F), 0)
  refine mm_need (mm_call_mono _ _) (c := vp_in (nI (4 * o + 1)) 96) (s' := (174, [(2, .int (nI (4 * o))), (0, .ref 10), (1, .int (nI o))], [.int (of (Int32.toNatClampNeg (nI (4 * o + 1)))), .int (nI (12 * o)), .ref 10], wP pre (wN (PP s) (QQ s) op oq tr (nI L.1) 0 0 ob st of F), 0)) rfl (vp_in_nI (show (4 * o + 1) < 96 by omega) (by decide)) ?_
  rw [nI_clamp (show (4 * o + 1) < 2 ^ 31 by omega)]
  show mm_W _ _ _ _ _ _ _ (174, [(2, .int (nI (4 * o))), (0, .ref 10), (1, .int (nI o))], [.int (of (4 * o + 1)), .int (nI (12 * o)), .ref 10], wP pre (wN (PP s) (QQ s) op oq tr (nI L.1) 0 0 ob st of F), 0)
  rw [h1]
  show mm_W _ _ _ _ _ _ _ (174, [(2, .int (nI (4 * o))), (0, .ref 10), (1, .int (nI o))], [.int (nI p), .int (nI (12 * o)), .ref 10], wP pre (wN (PP s) (QQ s) op oq tr (nI L.1) 0 0 ob st of F), 0)
  refine mm_skip (mm_call_mono _ _) 5 (st' := (181, [(2, .int (nI (4 * o))), (0, .ref 10), (1, .int (nI o))], [.int ((nI (4 * o)) + 2), .ref 16, .int (nI p), .int (nI (12 * o)), .ref 10], wP pre (wN (PP s) (QQ s) op oq tr (nI L.1) 0 0 ob st of F), 0)) rfl ?_
  rw [nI_p2 ((4 * o))]
  show mm_W _ _ _ _ _ _ _ (181, [(2, .int (nI (4 * o))), (0, .ref 10), (1, .int (nI o))], [.int (nI (4 * o + 2)), .ref 16, .int (nI p), .int (nI (12 * o)), .ref 10], wP pre (wN (PP s) (QQ s) op oq tr (nI L.1) 0 0 ob st of F), 0)
  refine mm_need (mm_call_mono _ _) (c := vp_in (nI (4 * o + 2)) 96) (s' := (182, [(2, .int (nI (4 * o))), (0, .ref 10), (1, .int (nI o))], [.int (of (Int32.toNatClampNeg (nI (4 * o + 2)))), .int (nI p), .int (nI (12 * o)), .ref 10], wP pre (wN (PP s) (QQ s) op oq tr (nI L.1) 0 0 ob st of F), 0)) rfl (vp_in_nI (show (4 * o + 2) < 96 by omega) (by decide)) ?_
  rw [nI_clamp (show (4 * o + 2) < 2 ^ 31 by omega)]
  show mm_W _ _ _ _ _ _ _ (182, [(2, .int (nI (4 * o))), (0, .ref 10), (1, .int (nI o))], [.int (of (4 * o + 2)), .int (nI p), .int (nI (12 * o)), .ref 10], wP pre (wN (PP s) (QQ s) op oq tr (nI L.1) 0 0 ob st of F), 0)
  rw [h2]
  show mm_W _ _ _ _ _ _ _ (182, [(2, .int (nI (4 * o))), (0, .ref 10), (1, .int (nI o))], [.int (nI q), .int (nI p), .int (nI (12 * o)), .ref 10], wP pre (wN (PP s) (QQ s) op oq tr (nI L.1) 0 0 ob st of F), 0)
  refine mm_inv (mm_call_mono _ _) (j := 88) (a := [.ref 10, .int (nI (12 * o)), .int (nI p), .int (nI q)]) (M := wP pre (wN (PP s) (QQ s) op oq tr (nI L.1) 0 0 ob st of F)) (u := 0) rfl (by decide) (rg_squared (D0 := 12 * o) (p := p) (q := q) hV (Or.inl rfl) hl (by omega) R A B C D (fun s1 w1 h9 => ?_))
  show mm_W _ _ _ _ _ _ _ (185, [(2, .int (nI (4 * o))), (0, .ref 10), (1, .int (nI o))], [], wP pre (wN (PP s1) (QQ s1) op oq tr (nI L.1) w1 0 ob st of F), 0)
  refine mm_skip (mm_call_mono _ _) 6 (st' := (192, [(2, .int (nI (4 * o))), (0, .ref 10), (1, .int (nI o))], [.int 4, .int (12 * (nI o)), .ref 10, .ref 10], wP pre (wN (PP s1) (QQ s1) op oq tr (nI L.1) w1 0 ob st of F), 0)) rfl ?_
  rw [nI_m12 o]
  show mm_W _ _ _ _ _ _ _ (192, [(2, .int (nI (4 * o))), (0, .ref 10), (1, .int (nI o))], [.int 4, .int (nI (12 * o)), .ref 10, .ref 10], wP pre (wN (PP s1) (QQ s1) op oq tr (nI L.1) w1 0 ob st of F), 0)
  refine mm_inv (mm_call_mono _ _) (j := 63) (a := [.ref 10, .int (nI (12 * o)), .int 4]) (M := wP pre (wN (PP s1) (QQ s1) op oq tr (nI L.1) w1 0 ob st of F)) (u := 0) rfl (by decide) (rm_isZero_4 (A := 12 * o) h9.1 (by omega) ?_)
  show mm_W _ _ _ _ _ _ _ (195, [(2, .int (nI (4 * o))), (0, .ref 10), (1, .int (nI o))], [.int (bz (iszm 4 s1 (12 * o))), .ref 10], wP pre (wN (PP s1) (QQ s1) op oq tr (nI L.1) w1 0 ob st of F), 0)
  have hd := ci_of hl ho R Y I h9
  refine mm_need (mm_call_mono _ _) (c := mm_z (bz (iszm 4 s1 (12 * o)))) (s' := (198, [(2, .int (nI (4 * o))), (0, .ref 10), (1, .int (nI o))], [], wP pre (wN (PP s1) (QQ s1) op oq tr (nI L.1) w1 (bz (iszm 4 s1 (12 * o))) ob st of F), 0)) rfl (bz_z _) ?_
  refine mm_skip (mm_call_mono _ _) 1 (st' := (250, [(2, .int (nI (4 * o))), (0, .ref 10), (1, .int (nI o))], [], wP pre (wN (PP s1) (QQ s1) op oq tr (nI L.1) w1 (bz (iszm 4 s1 (12 * o))) ob st of F), 0)) rfl ?_
  exact hT _ _ _ _ hd

set_option maxRecDepth 100000 in
theorem mkw_0 {d : Nat} {pre : mm_pre} {s : Nat → fr} {op oq : Nat → Int64} {tr ob : Int32} {st of : Nat → Int32} {F : mm_M} {L : lvR} {o : Nat}  {Q : mm_R → mm_M → Prop} (hV : ∀ k, fv (s k)) (hl : L.1 ≤ 2) (ho : o < 24) (R : rdM s 0 L) (Hf : isM s 0 1 299 (fun _ => (1, 2))) (I : tM s 0 L.1 (12 * o + 8) zz) (Xz : tM s 0 L.1 (12 * o) zz) (Y : tM s 0 L.1 (12 * o + 4) zz) (i1 : inp (of (4 * o)) (of (4 * o + 1))) (i2 : inp (of (4 * o + 2)) (of (4 * o + 3))) (hT : ∀ (s1 : Nat → fr) (w1 fa1 : Int32) (L1 : lvR), drM s L o (some ((em (qf (of (4 * o)) (of (4 * o + 1))), em (qf (of (4 * o + 2)) (of (4 * o + 3))), zz), L)) s1 w1 fa1 L1 → mm_W (mm_call mm_Tb (d + 14)) mp_M_make (mm_bt mm_Tb) 0 (some .boolean) 3 Q (250, [(2, .int (nI (4 * o))), (0, .ref 10), (1, .int (nI o))], [], wP pre (wN (PP s1) (QQ s1) op oq tr (nI L1.1) w1 fa1 ob st of F), 0)) : mm_W (mm_call mm_Tb (d + 14)) mp_M_make (mm_bt mm_Tb) 0 (some .boolean) 3 Q (84, [(2, .int (nI (4 * o))), (0, .ref 10), (1, .int (nI o))], [], wP pre (wN (PP s) (QQ s) op oq tr (nI L.1) 0 0 ob st of F), 0) := by
  refine mm_skip (mm_call_mono _ _) 7 (st' := (94, [(2, .int (nI (4 * o))), (0, .ref 10), (1, .int (nI o))], [.int (nI (4 * o)), .ref 16, .int (12 * (nI o)), .ref 10], wP pre (wN (PP s) (QQ s) op oq tr (nI L.1) 0 0 ob st of F), 0)) rfl ?_
  rw [nI_m12 o]
  show mm_W _ _ _ _ _ _ _ (94, [(2, .int (nI (4 * o))), (0, .ref 10), (1, .int (nI o))], [.int (nI (4 * o)), .ref 16, .int (nI (12 * o)), .ref 10], wP pre (wN (PP s) (QQ s) op oq tr (nI L.1) 0 0 ob st of F), 0)
  refine mm_need (mm_call_mono _ _) (c := vp_in (nI (4 * o)) 96) (s' := (95, [(2, .int (nI (4 * o))), (0, .ref 10), (1, .int (nI o))], [.int (of (Int32.toNatClampNeg (nI (4 * o)))), .int (nI (12 * o)), .ref 10], wP pre (wN (PP s) (QQ s) op oq tr (nI L.1) 0 0 ob st of F), 0)) rfl (vp_in_nI (show (4 * o) < 96 by omega) (by decide)) ?_
  rw [nI_clamp (show (4 * o) < 2 ^ 31 by omega)]
  show mm_W _ _ _ _ _ _ _ (95, [(2, .int (nI (4 * o))), (0, .ref 10), (1, .int (nI o))], [.int (of (4 * o)), .int (nI (12 * o)), .ref 10], wP pre (wN (PP s) (QQ s) op oq tr (nI L.1) 0 0 ob st of F), 0)
  refine mm_skip (mm_call_mono _ _) 6 (st' := (103, [(2, .int (nI (4 * o))), (0, .ref 10), (1, .int (nI o))], [.int ((nI (4 * o)) + 1), .ref 16, .long (Int32.toInt64 (of (4 * o))), .int (nI (12 * o)), .ref 10], wP pre (wN (PP s) (QQ s) op oq tr (nI L.1) 0 0 ob st of F), 0)) rfl ?_
  rw [nI_p1 ((4 * o))]
  show mm_W _ _ _ _ _ _ _ (103, [(2, .int (nI (4 * o))), (0, .ref 10), (1, .int (nI o))], [.int (nI (4 * o + 1)), .ref 16, .long (Int32.toInt64 (of (4 * o))), .int (nI (12 * o)), .ref 10], wP pre (wN (PP s) (QQ s) op oq tr (nI L.1) 0 0 ob st of F), 0)
  refine mm_need (mm_call_mono _ _) (c := vp_in (nI (4 * o + 1)) 96) (s' := (104, [(2, .int (nI (4 * o))), (0, .ref 10), (1, .int (nI o))], [.int (of (Int32.toNatClampNeg (nI (4 * o + 1)))), .long (Int32.toInt64 (of (4 * o))), .int (nI (12 * o)), .ref 10], wP pre (wN (PP s) (QQ s) op oq tr (nI L.1) 0 0 ob st of F), 0)) rfl (vp_in_nI (show (4 * o + 1) < 96 by omega) (by decide)) ?_
  rw [nI_clamp (show (4 * o + 1) < 2 ^ 31 by omega)]
  show mm_W _ _ _ _ _ _ _ (104, [(2, .int (nI (4 * o))), (0, .ref 10), (1, .int (nI o))], [.int (of (4 * o + 1)), .long (Int32.toInt64 (of (4 * o))), .int (nI (12 * o)), .ref 10], wP pre (wN (PP s) (QQ s) op oq tr (nI L.1) 0 0 ob st of F), 0)
  refine mm_skip (mm_call_mono _ _) 1 (st' := (105, [(2, .int (nI (4 * o))), (0, .ref 10), (1, .int (nI o))], [.long (Int32.toInt64 (of (4 * o + 1))), .long (Int32.toInt64 (of (4 * o))), .int (nI (12 * o)), .ref 10], wP pre (wN (PP s) (QQ s) op oq tr (nI L.1) 0 0 ob st of F), 0)) rfl ?_
  refine mm_inv (mm_call_mono _ _) (j := 49) (a := [.ref 10, .int (nI (12 * o)), .long (Int32.toInt64 (of (4 * o))), .long (Int32.toInt64 (of (4 * o + 1)))]) (M := wP pre (wN (PP s) (QQ s) op oq tr (nI L.1) 0 0 ob st of F)) (u := 0) rfl (by decide) (rm_put (D := 12 * o) hV (Or.inl rfl) (by omega) (i64b _) (i64p i1) (fun s1 w1 h8 => ?_))
  show mm_W _ _ _ _ _ _ _ (108, [(2, .int (nI (4 * o))), (0, .ref 10), (1, .int (nI o))], [], wP pre (wN (PP s1) (QQ s1) op oq tr (nI L.1) w1 0 ob st of F), 0)
  refine mm_skip (mm_call_mono _ _) 11 (st' := (122, [(2, .int (nI (4 * o))), (0, .ref 10), (1, .int (nI o))], [.int ((nI (4 * o)) + 2), .ref 16, .int ((12 * (nI o)) + 4), .ref 10], wP pre (wN (PP s1) (QQ s1) op oq tr (nI L.1) w1 0 ob st of F), 0)) rfl ?_
  rw [nI_p2 ((4 * o))]
  rw [nI_m12 o]
  rw [nI_p4 ((12 * o))]
  show mm_W _ _ _ _ _ _ _ (122, [(2, .int (nI (4 * o))), (0, .ref 10), (1, .int (nI o))], [.int (nI (4 * o + 2)), .ref 16, .int (nI (12 * o + 4)), .ref 10], wP pre (wN (PP s1) (QQ s1) op oq tr (nI L.1) w1 0 ob st of F), 0)
  refine mm_need (mm_call_mono _ _) (c := vp_in (nI (4 * o + 2)) 96) (s' := (123, [(2, .int (nI (4 * o))), (0, .ref 10), (1, .int (nI o))], [.int (of (Int32.toNatClampNeg (nI (4 * o + 2)))), .int (nI (12 * o + 4)), .ref 10], wP pre (wN (PP s1) (QQ s1) op oq tr (nI L.1) w1 0 ob st of F), 0)) rfl (vp_in_nI (show (4 * o + 2) < 96 by omega) (by decide)) ?_
  rw [nI_clamp (show (4 * o + 2) < 2 ^ 31 by omega)]
  show mm_W _ _ _ _ _ _ _ (123, [(2, .int (nI (4 * o))), (0, .ref 10), (1, .int (nI o))], [.int (of (4 * o + 2)), .int (nI (12 * o + 4)), .ref 10], wP pre (wN (PP s1) (QQ s1) op oq tr (nI L.1) w1 0 ob st of F), 0)
  refine mm_skip (mm_call_mono _ _) 6 (st' := (131, [(2, .int (nI (4 * o))), (0, .ref 10), (1, .int (nI o))], [.int ((nI (4 * o)) + 3), .ref 16, .long (Int32.toInt64 (of (4 * o + 2))), .int (nI (12 * o + 4)), .ref 10], wP pre (wN (PP s1) (QQ s1) op oq tr (nI L.1) w1 0 ob st of F), 0)) rfl ?_
  rw [nI_p3 ((4 * o))]
  show mm_W _ _ _ _ _ _ _ (131, [(2, .int (nI (4 * o))), (0, .ref 10), (1, .int (nI o))], [.int (nI (4 * o + 3)), .ref 16, .long (Int32.toInt64 (of (4 * o + 2))), .int (nI (12 * o + 4)), .ref 10], wP pre (wN (PP s1) (QQ s1) op oq tr (nI L.1) w1 0 ob st of F), 0)
  refine mm_need (mm_call_mono _ _) (c := vp_in (nI (4 * o + 3)) 96) (s' := (132, [(2, .int (nI (4 * o))), (0, .ref 10), (1, .int (nI o))], [.int (of (Int32.toNatClampNeg (nI (4 * o + 3)))), .long (Int32.toInt64 (of (4 * o + 2))), .int (nI (12 * o + 4)), .ref 10], wP pre (wN (PP s1) (QQ s1) op oq tr (nI L.1) w1 0 ob st of F), 0)) rfl (vp_in_nI (show (4 * o + 3) < 96 by omega) (by decide)) ?_
  rw [nI_clamp (show (4 * o + 3) < 2 ^ 31 by omega)]
  show mm_W _ _ _ _ _ _ _ (132, [(2, .int (nI (4 * o))), (0, .ref 10), (1, .int (nI o))], [.int (of (4 * o + 3)), .long (Int32.toInt64 (of (4 * o + 2))), .int (nI (12 * o + 4)), .ref 10], wP pre (wN (PP s1) (QQ s1) op oq tr (nI L.1) w1 0 ob st of F), 0)
  refine mm_skip (mm_call_mono _ _) 1 (st' := (133, [(2, .int (nI (4 * o))), (0, .ref 10), (1, .int (nI o))], [.long (Int32.toInt64 (of (4 * o + 3))), .long (Int32.toInt64 (of (4 * o + 2))), .int (nI (12 * o + 4)), .ref 10], wP pre (wN (PP s1) (QQ s1) op oq tr (nI L.1) w1 0 ob st of F), 0)) rfl ?_
  refine mm_inv (mm_call_mono _ _) (j := 49) (a := [.ref 10, .int (nI (12 * o + 4)), .long (Int32.toInt64 (of (4 * o + 2))), .long (Int32.toInt64 (of (4 * o + 3)))]) (M := wP pre (wN (PP s1) (QQ s1) op oq tr (nI L.1) w1 0 ob st of F)) (u := 0) rfl (by decide) (rm_put (D := 12 * o + 4) h8.1 h8.2.1 (by omega) (i64b _) (i64p i2) (fun s2 w2 h9 => ?_))
  show mm_W _ _ _ _ _ _ _ (136, [(2, .int (nI (4 * o))), (0, .ref 10), (1, .int (nI o))], [], wP pre (wN (PP s2) (QQ s2) op oq tr (nI L.1) w2 0 ob st of F), 0)
  have hd := fr_of hl ho R Xz Y I h8 (qf_T i1) h9 (qf_T i2)
  refine mm_skip (mm_call_mono _ _) 1 (st' := (250, [(2, .int (nI (4 * o))), (0, .ref 10), (1, .int (nI o))], [], wP pre (wN (PP s2) (QQ s2) op oq tr (nI L.1) w2 0 ob st of F), 0)) rfl ?_
  exact hT _ _ _ _ hd

set_option maxRecDepth 100000 in
theorem mkw_4 {d : Nat} {pre : mm_pre} {s : Nat → fr} {op oq : Nat → Int64} {tr ob : Int32} {st of : Nat → Int32} {F : mm_M} {L : lvR} {o : Nat} {p q wh : Nat} {a1 b1 c1 a2 b2 c2 : n4} {Q : mm_R → mm_M → Prop} (hV : ∀ k, fv (s k)) (hl : L.1 ≤ 2) (ho : o < 24) (R : rdM s 0 L) (Hf : isM s 0 1 299 (fun _ => (1, 2))) (I : tM s 0 L.1 (12 * o + 8) zz) (hp : p < o) (hq : q < o) (h1 : of (4 * o) = nI p) (h2 : of (4 * o + 1) = nI q) (h3 : of (4 * o + 2) = nI wh) (hsp : st p = 1) (hsq : st q = 1) (A : tM s 0 L.1 (12 * p) a1) (B : tM s 0 L.1 ((12 * p + 4)) b1) (C : tM s 0 L.1 ((12 * p + 8)) c1) (D : tM s 0 L.1 (12 * q) a2) (G : tM s 0 L.1 ((12 * q + 4)) b2) (H : tM s 0 L.1 ((12 * q + 8)) c2)  (hT : ∀ (s1 : Nat → fr) (w1 fa1 : Int32) (L1 : lvR), drM s L o (mMeet L a1 b1 c1 a2 b2 c2) s1 w1 fa1 L1 → mm_W (mm_call mm_Tb (d + 14)) mp_M_make (mm_bt mm_Tb) 0 (some .boolean) 3 Q (250, [(2, .int (nI (4 * o))), (0, .ref 10), (1, .int (nI o))], [], wP pre (wN (PP s1) (QQ s1) op oq tr (nI L1.1) w1 fa1 ob st of F), 0)) : mm_W (mm_call mm_Tb (d + 14)) mp_M_make (mm_bt mm_Tb) 0 (some .boolean) 3 Q (223, [(2, .int (nI (4 * o))), (0, .ref 10), (1, .int (nI o))], [], wP pre (wN (PP s) (QQ s) op oq tr (nI L.1) 0 0 ob st of F), 0) := by
  refine mm_skip (mm_call_mono _ _) 5 (st' := (230, [(2, .int (nI (4 * o))), (0, .ref 10), (1, .int (nI o))], [.int (nI (4 * o)), .ref 16, .int (nI o), .ref 10], wP pre (wN (PP s) (QQ s) op oq tr (nI L.1) 0 0 ob st of F), 0)) rfl ?_
  refine mm_need (mm_call_mono _ _) (c := vp_in (nI (4 * o)) 96) (s' := (231, [(2, .int (nI (4 * o))), (0, .ref 10), (1, .int (nI o))], [.int (of (Int32.toNatClampNeg (nI (4 * o)))), .int (nI o), .ref 10], wP pre (wN (PP s) (QQ s) op oq tr (nI L.1) 0 0 ob st of F), 0)) rfl (vp_in_nI (show (4 * o) < 96 by omega) (by decide)) ?_
  rw [nI_clamp (show (4 * o) < 2 ^ 31 by omega)]
  show mm_W _ _ _ _ _ _ _ (231, [(2, .int (nI (4 * o))), (0, .ref 10), (1, .int (nI o))], [.int (of (4 * o)), .int (nI o), .ref 10], wP pre (wN (PP s) (QQ s) op oq tr (nI L.1) 0 0 ob st of F), 0)
  rw [h1]
  show mm_W _ _ _ _ _ _ _ (231, [(2, .int (nI (4 * o))), (0, .ref 10), (1, .int (nI o))], [.int (nI p), .int (nI o), .ref 10], wP pre (wN (PP s) (QQ s) op oq tr (nI L.1) 0 0 ob st of F), 0)
  refine mm_skip (mm_call_mono _ _) 5 (st' := (238, [(2, .int (nI (4 * o))), (0, .ref 10), (1, .int (nI o))], [.int ((nI (4 * o)) + 1), .ref 16, .int (nI p), .int (nI o), .ref 10], wP pre (wN (PP s) (QQ s) op oq tr (nI L.1) 0 0 ob st of F), 0)) rfl ?_
  rw [nI_p1 ((4 * o))]
  show mm_W _ _ _ _ _ _ _ (238, [(2, .int (nI (4 * o))), (0, .ref 10), (1, .int (nI o))], [.int (nI (4 * o + 1)), .ref 16, .int (nI p), .int (nI o), .ref 10], wP pre (wN (PP s) (QQ s) op oq tr (nI L.1) 0 0 ob st of F), 0)
  refine mm_need (mm_call_mono _ _) (c := vp_in (nI (4 * o + 1)) 96) (s' := (239, [(2, .int (nI (4 * o))), (0, .ref 10), (1, .int (nI o))], [.int (of (Int32.toNatClampNeg (nI (4 * o + 1)))), .int (nI p), .int (nI o), .ref 10], wP pre (wN (PP s) (QQ s) op oq tr (nI L.1) 0 0 ob st of F), 0)) rfl (vp_in_nI (show (4 * o + 1) < 96 by omega) (by decide)) ?_
  rw [nI_clamp (show (4 * o + 1) < 2 ^ 31 by omega)]
  show mm_W _ _ _ _ _ _ _ (239, [(2, .int (nI (4 * o))), (0, .ref 10), (1, .int (nI o))], [.int (of (4 * o + 1)), .int (nI p), .int (nI o), .ref 10], wP pre (wN (PP s) (QQ s) op oq tr (nI L.1) 0 0 ob st of F), 0)
  rw [h2]
  show mm_W _ _ _ _ _ _ _ (239, [(2, .int (nI (4 * o))), (0, .ref 10), (1, .int (nI o))], [.int (nI q), .int (nI p), .int (nI o), .ref 10], wP pre (wN (PP s) (QQ s) op oq tr (nI L.1) 0 0 ob st of F), 0)
  refine mm_skip (mm_call_mono _ _) 5 (st' := (246, [(2, .int (nI (4 * o))), (0, .ref 10), (1, .int (nI o))], [.int ((nI (4 * o)) + 2), .ref 16, .int (nI q), .int (nI p), .int (nI o), .ref 10], wP pre (wN (PP s) (QQ s) op oq tr (nI L.1) 0 0 ob st of F), 0)) rfl ?_
  rw [nI_p2 ((4 * o))]
  show mm_W _ _ _ _ _ _ _ (246, [(2, .int (nI (4 * o))), (0, .ref 10), (1, .int (nI o))], [.int (nI (4 * o + 2)), .ref 16, .int (nI q), .int (nI p), .int (nI o), .ref 10], wP pre (wN (PP s) (QQ s) op oq tr (nI L.1) 0 0 ob st of F), 0)
  refine mm_need (mm_call_mono _ _) (c := vp_in (nI (4 * o + 2)) 96) (s' := (247, [(2, .int (nI (4 * o))), (0, .ref 10), (1, .int (nI o))], [.int (of (Int32.toNatClampNeg (nI (4 * o + 2)))), .int (nI q), .int (nI p), .int (nI o), .ref 10], wP pre (wN (PP s) (QQ s) op oq tr (nI L.1) 0 0 ob st of F), 0)) rfl (vp_in_nI (show (4 * o + 2) < 96 by omega) (by decide)) ?_
  rw [nI_clamp (show (4 * o + 2) < 2 ^ 31 by omega)]
  show mm_W _ _ _ _ _ _ _ (247, [(2, .int (nI (4 * o))), (0, .ref 10), (1, .int (nI o))], [.int (of (4 * o + 2)), .int (nI q), .int (nI p), .int (nI o), .ref 10], wP pre (wN (PP s) (QQ s) op oq tr (nI L.1) 0 0 ob st of F), 0)
  rw [h3]
  show mm_W _ _ _ _ _ _ _ (247, [(2, .int (nI (4 * o))), (0, .ref 10), (1, .int (nI o))], [.int (nI wh), .int (nI q), .int (nI p), .int (nI o), .ref 10], wP pre (wN (PP s) (QQ s) op oq tr (nI L.1) 0 0 ob st of F), 0)
  refine mm_inv (mm_call_mono _ _) (j := 94) (a := [.ref 10, .int (nI o), .int (nI p), .int (nI q), .int (nI wh)]) (M := wP pre (wN (PP s) (QQ s) op oq tr (nI L.1) 0 0 ob st of F)) (u := 0) rfl (by decide) (rk_mt4 hV hl (by omega) hsp hsq R A B C D G H I (fun s1 w1 fa1 L1 hd => ?_))
  show mm_W _ _ _ _ _ _ _ (250, [(2, .int (nI (4 * o))), (0, .ref 10), (1, .int (nI o))], [], wP pre (wN (PP s1) (QQ s1) op oq tr (nI L1.1) w1 fa1 ob st of F), 0)
  exact hT _ _ _ _ hd

set_option maxRecDepth 100000 in
theorem mkw_6 {d : Nat} {pre : mm_pre} {s : Nat → fr} {op oq : Nat → Int64} {tr ob : Int32} {st of : Nat → Int32} {F : mm_M} {L : lvR} {o : Nat} {p q c e wh : Nat} {xp yp sa xq yq sb : n4} {Q : mm_R → mm_M → Prop} (hV : ∀ k, fv (s k)) (hl : L.1 ≤ 2) (ho : o < 24) (R : rdM s 0 L) (Hf : isM s 0 1 299 (fun _ => (1, 2))) (I : tM s 0 L.1 (12 * o + 8) zz) (hp : p < o) (hq : q < o) (hc : c < o) (he : e < o) (hw : wh ≤ 1) (h1 : of (4 * o) = nI p) (h2 : of (4 * o + 1) = nI q) (h3 : of (4 * o + 2) = nI wh) (hsp : st p = 2) (hsq : st q = 2) (hofp : of (4 * p) = nI c) (hofq : of (4 * q) = nI e) (A : tM s 0 L.1 (12 * c) xp) (B : tM s 0 L.1 ((12 * c + 4)) yp) (C : tM s 0 L.1 (12 * e) xq) (D : tM s 0 L.1 ((12 * e + 4)) yq) (G : tM s 0 L.1 (12 * p) sa) (H : tM s 0 L.1 (12 * q) sb)  (hT : ∀ (s1 : Nat → fr) (w1 fa1 : Int32) (L1 : lvR), drM s L o (mCir L xp yp sa xq yq sb (decide (wh = 0))) s1 w1 fa1 L1 → mm_W (mm_call mm_Tb (d + 14)) mp_M_make (mm_bt mm_Tb) 0 (some .boolean) 3 Q (250, [(2, .int (nI (4 * o))), (0, .ref 10), (1, .int (nI o))], [], wP pre (wN (PP s1) (QQ s1) op oq tr (nI L1.1) w1 fa1 ob st of F), 0)) : mm_W (mm_call mm_Tb (d + 14)) mp_M_make (mm_bt mm_Tb) 0 (some .boolean) 3 Q (223, [(2, .int (nI (4 * o))), (0, .ref 10), (1, .int (nI o))], [], wP pre (wN (PP s) (QQ s) op oq tr (nI L.1) 0 0 ob st of F), 0) := by
  refine mm_skip (mm_call_mono _ _) 5 (st' := (230, [(2, .int (nI (4 * o))), (0, .ref 10), (1, .int (nI o))], [.int (nI (4 * o)), .ref 16, .int (nI o), .ref 10], wP pre (wN (PP s) (QQ s) op oq tr (nI L.1) 0 0 ob st of F), 0)) rfl ?_
  refine mm_need (mm_call_mono _ _) (c := vp_in (nI (4 * o)) 96) (s' := (231, [(2, .int (nI (4 * o))), (0, .ref 10), (1, .int (nI o))], [.int (of (Int32.toNatClampNeg (nI (4 * o)))), .int (nI o), .ref 10], wP pre (wN (PP s) (QQ s) op oq tr (nI L.1) 0 0 ob st of F), 0)) rfl (vp_in_nI (show (4 * o) < 96 by omega) (by decide)) ?_
  rw [nI_clamp (show (4 * o) < 2 ^ 31 by omega)]
  show mm_W _ _ _ _ _ _ _ (231, [(2, .int (nI (4 * o))), (0, .ref 10), (1, .int (nI o))], [.int (of (4 * o)), .int (nI o), .ref 10], wP pre (wN (PP s) (QQ s) op oq tr (nI L.1) 0 0 ob st of F), 0)
  rw [h1]
  show mm_W _ _ _ _ _ _ _ (231, [(2, .int (nI (4 * o))), (0, .ref 10), (1, .int (nI o))], [.int (nI p), .int (nI o), .ref 10], wP pre (wN (PP s) (QQ s) op oq tr (nI L.1) 0 0 ob st of F), 0)
  refine mm_skip (mm_call_mono _ _) 5 (st' := (238, [(2, .int (nI (4 * o))), (0, .ref 10), (1, .int (nI o))], [.int ((nI (4 * o)) + 1), .ref 16, .int (nI p), .int (nI o), .ref 10], wP pre (wN (PP s) (QQ s) op oq tr (nI L.1) 0 0 ob st of F), 0)) rfl ?_
  rw [nI_p1 ((4 * o))]
  show mm_W _ _ _ _ _ _ _ (238, [(2, .int (nI (4 * o))), (0, .ref 10), (1, .int (nI o))], [.int (nI (4 * o + 1)), .ref 16, .int (nI p), .int (nI o), .ref 10], wP pre (wN (PP s) (QQ s) op oq tr (nI L.1) 0 0 ob st of F), 0)
  refine mm_need (mm_call_mono _ _) (c := vp_in (nI (4 * o + 1)) 96) (s' := (239, [(2, .int (nI (4 * o))), (0, .ref 10), (1, .int (nI o))], [.int (of (Int32.toNatClampNeg (nI (4 * o + 1)))), .int (nI p), .int (nI o), .ref 10], wP pre (wN (PP s) (QQ s) op oq tr (nI L.1) 0 0 ob st of F), 0)) rfl (vp_in_nI (show (4 * o + 1) < 96 by omega) (by decide)) ?_
  rw [nI_clamp (show (4 * o + 1) < 2 ^ 31 by omega)]
  show mm_W _ _ _ _ _ _ _ (239, [(2, .int (nI (4 * o))), (0, .ref 10), (1, .int (nI o))], [.int (of (4 * o + 1)), .int (nI p), .int (nI o), .ref 10], wP pre (wN (PP s) (QQ s) op oq tr (nI L.1) 0 0 ob st of F), 0)
  rw [h2]
  show mm_W _ _ _ _ _ _ _ (239, [(2, .int (nI (4 * o))), (0, .ref 10), (1, .int (nI o))], [.int (nI q), .int (nI p), .int (nI o), .ref 10], wP pre (wN (PP s) (QQ s) op oq tr (nI L.1) 0 0 ob st of F), 0)
  refine mm_skip (mm_call_mono _ _) 5 (st' := (246, [(2, .int (nI (4 * o))), (0, .ref 10), (1, .int (nI o))], [.int ((nI (4 * o)) + 2), .ref 16, .int (nI q), .int (nI p), .int (nI o), .ref 10], wP pre (wN (PP s) (QQ s) op oq tr (nI L.1) 0 0 ob st of F), 0)) rfl ?_
  rw [nI_p2 ((4 * o))]
  show mm_W _ _ _ _ _ _ _ (246, [(2, .int (nI (4 * o))), (0, .ref 10), (1, .int (nI o))], [.int (nI (4 * o + 2)), .ref 16, .int (nI q), .int (nI p), .int (nI o), .ref 10], wP pre (wN (PP s) (QQ s) op oq tr (nI L.1) 0 0 ob st of F), 0)
  refine mm_need (mm_call_mono _ _) (c := vp_in (nI (4 * o + 2)) 96) (s' := (247, [(2, .int (nI (4 * o))), (0, .ref 10), (1, .int (nI o))], [.int (of (Int32.toNatClampNeg (nI (4 * o + 2)))), .int (nI q), .int (nI p), .int (nI o), .ref 10], wP pre (wN (PP s) (QQ s) op oq tr (nI L.1) 0 0 ob st of F), 0)) rfl (vp_in_nI (show (4 * o + 2) < 96 by omega) (by decide)) ?_
  rw [nI_clamp (show (4 * o + 2) < 2 ^ 31 by omega)]
  show mm_W _ _ _ _ _ _ _ (247, [(2, .int (nI (4 * o))), (0, .ref 10), (1, .int (nI o))], [.int (of (4 * o + 2)), .int (nI q), .int (nI p), .int (nI o), .ref 10], wP pre (wN (PP s) (QQ s) op oq tr (nI L.1) 0 0 ob st of F), 0)
  rw [h3]
  show mm_W _ _ _ _ _ _ _ (247, [(2, .int (nI (4 * o))), (0, .ref 10), (1, .int (nI o))], [.int (nI wh), .int (nI q), .int (nI p), .int (nI o), .ref 10], wP pre (wN (PP s) (QQ s) op oq tr (nI L.1) 0 0 ob st of F), 0)
  refine mm_inv (mm_call_mono _ _) (j := 94) (a := [.ref 10, .int (nI o), .int (nI p), .int (nI q), .int (nI wh)]) (M := wP pre (wN (PP s) (QQ s) op oq tr (nI L.1) 0 0 ob st of F)) (u := 0) rfl (by decide) (rk_mt6 hV hl hw hsp hsq (by omega) hofp hofq R Hf A B C D G H I (fun s1 w1 fa1 L1 hd => ?_))
  show mm_W _ _ _ _ _ _ _ (250, [(2, .int (nI (4 * o))), (0, .ref 10), (1, .int (nI o))], [], wP pre (wN (PP s1) (QQ s1) op oq tr (nI L1.1) w1 fa1 ob st of F), 0)
  exact hT _ _ _ _ hd

set_option maxRecDepth 100000 in
theorem mkw_5a {d : Nat} {pre : mm_pre} {s : Nat → fr} {op oq : Nat → Int64} {tr ob : Int32} {st of : Nat → Int32} {F : mm_M} {L : lvR} {o : Nat} {p q ct wh : Nat} {va vb vc x y sq : n4} {Q : mm_R → mm_M → Prop} (hV : ∀ k, fv (s k)) (hl : L.1 ≤ 2) (ho : o < 24) (R : rdM s 0 L) (Hf : isM s 0 1 299 (fun _ => (1, 2))) (I : tM s 0 L.1 (12 * o + 8) zz) (hp : p < o) (hq : q < o) (hc : ct < o) (hw : wh ≤ 1) (h1 : of (4 * o) = nI p) (h2 : of (4 * o + 1) = nI q) (h3 : of (4 * o + 2) = nI wh) (hsp : st p = 1) (hsq : st q = 2) (hof : of (4 * q) = nI ct) (A : tM s 0 L.1 (12 * p) va) (B : tM s 0 L.1 ((12 * p + 4)) vb) (C : tM s 0 L.1 ((12 * p + 8)) vc) (D : tM s 0 L.1 (12 * ct) x) (G : tM s 0 L.1 ((12 * ct + 4)) y) (H : tM s 0 L.1 (12 * q) sq)  (hT : ∀ (s1 : Nat → fr) (w1 fa1 : Int32) (L1 : lvR), drM s L o (mCut L va vb vc x y sq (decide (wh = 0))) s1 w1 fa1 L1 → mm_W (mm_call mm_Tb (d + 14)) mp_M_make (mm_bt mm_Tb) 0 (some .boolean) 3 Q (250, [(2, .int (nI (4 * o))), (0, .ref 10), (1, .int (nI o))], [], wP pre (wN (PP s1) (QQ s1) op oq tr (nI L1.1) w1 fa1 ob st of F), 0)) : mm_W (mm_call mm_Tb (d + 14)) mp_M_make (mm_bt mm_Tb) 0 (some .boolean) 3 Q (223, [(2, .int (nI (4 * o))), (0, .ref 10), (1, .int (nI o))], [], wP pre (wN (PP s) (QQ s) op oq tr (nI L.1) 0 0 ob st of F), 0) := by
  refine mm_skip (mm_call_mono _ _) 5 (st' := (230, [(2, .int (nI (4 * o))), (0, .ref 10), (1, .int (nI o))], [.int (nI (4 * o)), .ref 16, .int (nI o), .ref 10], wP pre (wN (PP s) (QQ s) op oq tr (nI L.1) 0 0 ob st of F), 0)) rfl ?_
  refine mm_need (mm_call_mono _ _) (c := vp_in (nI (4 * o)) 96) (s' := (231, [(2, .int (nI (4 * o))), (0, .ref 10), (1, .int (nI o))], [.int (of (Int32.toNatClampNeg (nI (4 * o)))), .int (nI o), .ref 10], wP pre (wN (PP s) (QQ s) op oq tr (nI L.1) 0 0 ob st of F), 0)) rfl (vp_in_nI (show (4 * o) < 96 by omega) (by decide)) ?_
  rw [nI_clamp (show (4 * o) < 2 ^ 31 by omega)]
  show mm_W _ _ _ _ _ _ _ (231, [(2, .int (nI (4 * o))), (0, .ref 10), (1, .int (nI o))], [.int (of (4 * o)), .int (nI o), .ref 10], wP pre (wN (PP s) (QQ s) op oq tr (nI L.1) 0 0 ob st of F), 0)
  rw [h1]
  show mm_W _ _ _ _ _ _ _ (231, [(2, .int (nI (4 * o))), (0, .ref 10), (1, .int (nI o))], [.int (nI p), .int (nI o), .ref 10], wP pre (wN (PP s) (QQ s) op oq tr (nI L.1) 0 0 ob st of F), 0)
  refine mm_skip (mm_call_mono _ _) 5 (st' := (238, [(2, .int (nI (4 * o))), (0, .ref 10), (1, .int (nI o))], [.int ((nI (4 * o)) + 1), .ref 16, .int (nI p), .int (nI o), .ref 10], wP pre (wN (PP s) (QQ s) op oq tr (nI L.1) 0 0 ob st of F), 0)) rfl ?_
  rw [nI_p1 ((4 * o))]
  show mm_W _ _ _ _ _ _ _ (238, [(2, .int (nI (4 * o))), (0, .ref 10), (1, .int (nI o))], [.int (nI (4 * o + 1)), .ref 16, .int (nI p), .int (nI o), .ref 10], wP pre (wN (PP s) (QQ s) op oq tr (nI L.1) 0 0 ob st of F), 0)
  refine mm_need (mm_call_mono _ _) (c := vp_in (nI (4 * o + 1)) 96) (s' := (239, [(2, .int (nI (4 * o))), (0, .ref 10), (1, .int (nI o))], [.int (of (Int32.toNatClampNeg (nI (4 * o + 1)))), .int (nI p), .int (nI o), .ref 10], wP pre (wN (PP s) (QQ s) op oq tr (nI L.1) 0 0 ob st of F), 0)) rfl (vp_in_nI (show (4 * o + 1) < 96 by omega) (by decide)) ?_
  rw [nI_clamp (show (4 * o + 1) < 2 ^ 31 by omega)]
  show mm_W _ _ _ _ _ _ _ (239, [(2, .int (nI (4 * o))), (0, .ref 10), (1, .int (nI o))], [.int (of (4 * o + 1)), .int (nI p), .int (nI o), .ref 10], wP pre (wN (PP s) (QQ s) op oq tr (nI L.1) 0 0 ob st of F), 0)
  rw [h2]
  show mm_W _ _ _ _ _ _ _ (239, [(2, .int (nI (4 * o))), (0, .ref 10), (1, .int (nI o))], [.int (nI q), .int (nI p), .int (nI o), .ref 10], wP pre (wN (PP s) (QQ s) op oq tr (nI L.1) 0 0 ob st of F), 0)
  refine mm_skip (mm_call_mono _ _) 5 (st' := (246, [(2, .int (nI (4 * o))), (0, .ref 10), (1, .int (nI o))], [.int ((nI (4 * o)) + 2), .ref 16, .int (nI q), .int (nI p), .int (nI o), .ref 10], wP pre (wN (PP s) (QQ s) op oq tr (nI L.1) 0 0 ob st of F), 0)) rfl ?_
  rw [nI_p2 ((4 * o))]
  show mm_W _ _ _ _ _ _ _ (246, [(2, .int (nI (4 * o))), (0, .ref 10), (1, .int (nI o))], [.int (nI (4 * o + 2)), .ref 16, .int (nI q), .int (nI p), .int (nI o), .ref 10], wP pre (wN (PP s) (QQ s) op oq tr (nI L.1) 0 0 ob st of F), 0)
  refine mm_need (mm_call_mono _ _) (c := vp_in (nI (4 * o + 2)) 96) (s' := (247, [(2, .int (nI (4 * o))), (0, .ref 10), (1, .int (nI o))], [.int (of (Int32.toNatClampNeg (nI (4 * o + 2)))), .int (nI q), .int (nI p), .int (nI o), .ref 10], wP pre (wN (PP s) (QQ s) op oq tr (nI L.1) 0 0 ob st of F), 0)) rfl (vp_in_nI (show (4 * o + 2) < 96 by omega) (by decide)) ?_
  rw [nI_clamp (show (4 * o + 2) < 2 ^ 31 by omega)]
  show mm_W _ _ _ _ _ _ _ (247, [(2, .int (nI (4 * o))), (0, .ref 10), (1, .int (nI o))], [.int (of (4 * o + 2)), .int (nI q), .int (nI p), .int (nI o), .ref 10], wP pre (wN (PP s) (QQ s) op oq tr (nI L.1) 0 0 ob st of F), 0)
  rw [h3]
  show mm_W _ _ _ _ _ _ _ (247, [(2, .int (nI (4 * o))), (0, .ref 10), (1, .int (nI o))], [.int (nI wh), .int (nI q), .int (nI p), .int (nI o), .ref 10], wP pre (wN (PP s) (QQ s) op oq tr (nI L.1) 0 0 ob st of F), 0)
  refine mm_inv (mm_call_mono _ _) (j := 94) (a := [.ref 10, .int (nI o), .int (nI p), .int (nI q), .int (nI wh)]) (M := wP pre (wN (PP s) (QQ s) op oq tr (nI L.1) 0 0 ob st of F)) (u := 0) rfl (by decide) (rk_mt5a hV hl hw hsp hsq (by omega) hof R Hf A B C D G H I (fun s1 w1 fa1 L1 hd => ?_))
  show mm_W _ _ _ _ _ _ _ (250, [(2, .int (nI (4 * o))), (0, .ref 10), (1, .int (nI o))], [], wP pre (wN (PP s1) (QQ s1) op oq tr (nI L1.1) w1 fa1 ob st of F), 0)
  exact hT _ _ _ _ hd

set_option maxRecDepth 100000 in
theorem mkw_5b {d : Nat} {pre : mm_pre} {s : Nat → fr} {op oq : Nat → Int64} {tr ob : Int32} {st of : Nat → Int32} {F : mm_M} {L : lvR} {o : Nat} {p q ct wh : Nat} {va vb vc x y sq : n4} {Q : mm_R → mm_M → Prop} (hV : ∀ k, fv (s k)) (hl : L.1 ≤ 2) (ho : o < 24) (R : rdM s 0 L) (Hf : isM s 0 1 299 (fun _ => (1, 2))) (I : tM s 0 L.1 (12 * o + 8) zz) (hp : p < o) (hq : q < o) (hc : ct < o) (hw : wh ≤ 1) (h1 : of (4 * o) = nI q) (h2 : of (4 * o + 1) = nI p) (h3 : of (4 * o + 2) = nI wh) (hsp : st p = 1) (hsq : st q = 2) (hof : of (4 * q) = nI ct) (A : tM s 0 L.1 (12 * p) va) (B : tM s 0 L.1 ((12 * p + 4)) vb) (C : tM s 0 L.1 ((12 * p + 8)) vc) (D : tM s 0 L.1 (12 * ct) x) (G : tM s 0 L.1 ((12 * ct + 4)) y) (H : tM s 0 L.1 (12 * q) sq)  (hT : ∀ (s1 : Nat → fr) (w1 fa1 : Int32) (L1 : lvR), drM s L o (mCut L va vb vc x y sq (decide (wh = 0))) s1 w1 fa1 L1 → mm_W (mm_call mm_Tb (d + 14)) mp_M_make (mm_bt mm_Tb) 0 (some .boolean) 3 Q (250, [(2, .int (nI (4 * o))), (0, .ref 10), (1, .int (nI o))], [], wP pre (wN (PP s1) (QQ s1) op oq tr (nI L1.1) w1 fa1 ob st of F), 0)) : mm_W (mm_call mm_Tb (d + 14)) mp_M_make (mm_bt mm_Tb) 0 (some .boolean) 3 Q (223, [(2, .int (nI (4 * o))), (0, .ref 10), (1, .int (nI o))], [], wP pre (wN (PP s) (QQ s) op oq tr (nI L.1) 0 0 ob st of F), 0) := by
  refine mm_skip (mm_call_mono _ _) 5 (st' := (230, [(2, .int (nI (4 * o))), (0, .ref 10), (1, .int (nI o))], [.int (nI (4 * o)), .ref 16, .int (nI o), .ref 10], wP pre (wN (PP s) (QQ s) op oq tr (nI L.1) 0 0 ob st of F), 0)) rfl ?_
  refine mm_need (mm_call_mono _ _) (c := vp_in (nI (4 * o)) 96) (s' := (231, [(2, .int (nI (4 * o))), (0, .ref 10), (1, .int (nI o))], [.int (of (Int32.toNatClampNeg (nI (4 * o)))), .int (nI o), .ref 10], wP pre (wN (PP s) (QQ s) op oq tr (nI L.1) 0 0 ob st of F), 0)) rfl (vp_in_nI (show (4 * o) < 96 by omega) (by decide)) ?_
  rw [nI_clamp (show (4 * o) < 2 ^ 31 by omega)]
  show mm_W _ _ _ _ _ _ _ (231, [(2, .int (nI (4 * o))), (0, .ref 10), (1, .int (nI o))], [.int (of (4 * o)), .int (nI o), .ref 10], wP pre (wN (PP s) (QQ s) op oq tr (nI L.1) 0 0 ob st of F), 0)
  rw [h1]
  show mm_W _ _ _ _ _ _ _ (231, [(2, .int (nI (4 * o))), (0, .ref 10), (1, .int (nI o))], [.int (nI q), .int (nI o), .ref 10], wP pre (wN (PP s) (QQ s) op oq tr (nI L.1) 0 0 ob st of F), 0)
  refine mm_skip (mm_call_mono _ _) 5 (st' := (238, [(2, .int (nI (4 * o))), (0, .ref 10), (1, .int (nI o))], [.int ((nI (4 * o)) + 1), .ref 16, .int (nI q), .int (nI o), .ref 10], wP pre (wN (PP s) (QQ s) op oq tr (nI L.1) 0 0 ob st of F), 0)) rfl ?_
  rw [nI_p1 ((4 * o))]
  show mm_W _ _ _ _ _ _ _ (238, [(2, .int (nI (4 * o))), (0, .ref 10), (1, .int (nI o))], [.int (nI (4 * o + 1)), .ref 16, .int (nI q), .int (nI o), .ref 10], wP pre (wN (PP s) (QQ s) op oq tr (nI L.1) 0 0 ob st of F), 0)
  refine mm_need (mm_call_mono _ _) (c := vp_in (nI (4 * o + 1)) 96) (s' := (239, [(2, .int (nI (4 * o))), (0, .ref 10), (1, .int (nI o))], [.int (of (Int32.toNatClampNeg (nI (4 * o + 1)))), .int (nI q), .int (nI o), .ref 10], wP pre (wN (PP s) (QQ s) op oq tr (nI L.1) 0 0 ob st of F), 0)) rfl (vp_in_nI (show (4 * o + 1) < 96 by omega) (by decide)) ?_
  rw [nI_clamp (show (4 * o + 1) < 2 ^ 31 by omega)]
  show mm_W _ _ _ _ _ _ _ (239, [(2, .int (nI (4 * o))), (0, .ref 10), (1, .int (nI o))], [.int (of (4 * o + 1)), .int (nI q), .int (nI o), .ref 10], wP pre (wN (PP s) (QQ s) op oq tr (nI L.1) 0 0 ob st of F), 0)
  rw [h2]
  show mm_W _ _ _ _ _ _ _ (239, [(2, .int (nI (4 * o))), (0, .ref 10), (1, .int (nI o))], [.int (nI p), .int (nI q), .int (nI o), .ref 10], wP pre (wN (PP s) (QQ s) op oq tr (nI L.1) 0 0 ob st of F), 0)
  refine mm_skip (mm_call_mono _ _) 5 (st' := (246, [(2, .int (nI (4 * o))), (0, .ref 10), (1, .int (nI o))], [.int ((nI (4 * o)) + 2), .ref 16, .int (nI p), .int (nI q), .int (nI o), .ref 10], wP pre (wN (PP s) (QQ s) op oq tr (nI L.1) 0 0 ob st of F), 0)) rfl ?_
  rw [nI_p2 ((4 * o))]
  show mm_W _ _ _ _ _ _ _ (246, [(2, .int (nI (4 * o))), (0, .ref 10), (1, .int (nI o))], [.int (nI (4 * o + 2)), .ref 16, .int (nI p), .int (nI q), .int (nI o), .ref 10], wP pre (wN (PP s) (QQ s) op oq tr (nI L.1) 0 0 ob st of F), 0)
  refine mm_need (mm_call_mono _ _) (c := vp_in (nI (4 * o + 2)) 96) (s' := (247, [(2, .int (nI (4 * o))), (0, .ref 10), (1, .int (nI o))], [.int (of (Int32.toNatClampNeg (nI (4 * o + 2)))), .int (nI p), .int (nI q), .int (nI o), .ref 10], wP pre (wN (PP s) (QQ s) op oq tr (nI L.1) 0 0 ob st of F), 0)) rfl (vp_in_nI (show (4 * o + 2) < 96 by omega) (by decide)) ?_
  rw [nI_clamp (show (4 * o + 2) < 2 ^ 31 by omega)]
  show mm_W _ _ _ _ _ _ _ (247, [(2, .int (nI (4 * o))), (0, .ref 10), (1, .int (nI o))], [.int (of (4 * o + 2)), .int (nI p), .int (nI q), .int (nI o), .ref 10], wP pre (wN (PP s) (QQ s) op oq tr (nI L.1) 0 0 ob st of F), 0)
  rw [h3]
  show mm_W _ _ _ _ _ _ _ (247, [(2, .int (nI (4 * o))), (0, .ref 10), (1, .int (nI o))], [.int (nI wh), .int (nI p), .int (nI q), .int (nI o), .ref 10], wP pre (wN (PP s) (QQ s) op oq tr (nI L.1) 0 0 ob st of F), 0)
  refine mm_inv (mm_call_mono _ _) (j := 94) (a := [.ref 10, .int (nI o), .int (nI q), .int (nI p), .int (nI wh)]) (M := wP pre (wN (PP s) (QQ s) op oq tr (nI L.1) 0 0 ob st of F)) (u := 0) rfl (by decide) (rk_mt5b hV hl hw hsp hsq (by omega) hof R Hf A B C D G H I (fun s1 w1 fa1 L1 hd => ?_))
  show mm_W _ _ _ _ _ _ _ (250, [(2, .int (nI (4 * o))), (0, .ref 10), (1, .int (nI o))], [], wP pre (wN (PP s1) (QQ s1) op oq tr (nI L1.1) w1 fa1 ob st of F), 0)
  exact hT _ _ _ _ hd

set_option maxRecDepth 100000 in
theorem mkw_tail {d : Nat} {pre : mm_pre} {s : Nat → fr} {op oq : Nat → Int64} {tr dp wi fa ob : Int32} {st of : Nat → Int32} {F : mm_M} {o : Nat} {Q : mm_R → mm_M → Prop} (h1 : wi = 0 → fa = 0 → Q (.inl (some (.int 1))) (wP pre (wN (PP s) (QQ s) op oq tr dp wi fa ob st of F))) (h0 : ¬ (wi = 0 ∧ fa = 0) → Q (.inl (some (.int 0))) (wP pre (wN (PP s) (QQ s) op oq tr dp wi fa ob st of F))) : mm_W (mm_call mm_Tb (d + 14)) mp_M_make (mm_bt mm_Tb) 0 (some .boolean) 3 Q (250, [(2, .int (nI (4 * o))), (0, .ref 10), (1, .int (nI o))], [], wP pre (wN (PP s) (QQ s) op oq tr dp wi fa ob st of F), 0) := by
  refine mm_skip (mm_call_mono _ _) 2 (st' := (254, [(2, .int (nI (4 * o))), (0, .ref 10), (1, .int (nI o))], [.int fa], wP pre (wN (PP s) (QQ s) op oq tr dp wi fa ob st of F), 0)) rfl ?_
  refine mm_branch (mm_call_mono _ _) (c := fa = 0) (s1 := (257, [(2, .int (nI (4 * o))), (0, .ref 10), (1, .int (nI o))], [], wP pre (wN (PP s) (QQ s) op oq tr dp wi fa ob st of F), 0)) (s2 := (268, [(2, .int (nI (4 * o))), (0, .ref 10), (1, .int (nI o))], [], wP pre (wN (PP s) (QQ s) op oq tr dp wi fa ob st of F), 0)) rfl (fun z1 => ?_) (fun z1 => ?_)
  · skip
    refine mm_skip (mm_call_mono _ _) 2 (st' := (261, [(2, .int (nI (4 * o))), (0, .ref 10), (1, .int (nI o))], [.int wi], wP pre (wN (PP s) (QQ s) op oq tr dp wi fa ob st of F), 0)) rfl ?_
    refine mm_branch (mm_call_mono _ _) (c := wi = 0) (s1 := (264, [(2, .int (nI (4 * o))), (0, .ref 10), (1, .int (nI o))], [], wP pre (wN (PP s) (QQ s) op oq tr dp wi fa ob st of F), 0)) (s2 := (268, [(2, .int (nI (4 * o))), (0, .ref 10), (1, .int (nI o))], [], wP pre (wN (PP s) (QQ s) op oq tr dp wi fa ob st of F), 0)) rfl (fun z2 => ?_) (fun z2 => ?_)
    · skip
      refine mm_skip (mm_call_mono _ _) 2 (st' := (269, [(2, .int (nI (4 * o))), (0, .ref 10), (1, .int (nI o))], [.int 1], wP pre (wN (PP s) (QQ s) op oq tr dp wi fa ob st of F), 0)) rfl ?_
      exact mm_ret (mm_call_mono _ _) (c := mm_z 1) (r := .inl (some (.int 1))) (M := wP pre (wN (PP s) (QQ s) op oq tr dp wi fa ob st of F)) (u := 0) rfl (by unfold mm_z; decide) (by decide) (h1 z2 z1)
    · skip
      refine mm_skip (mm_call_mono _ _) 1 (st' := (269, [(2, .int (nI (4 * o))), (0, .ref 10), (1, .int (nI o))], [.int 0], wP pre (wN (PP s) (QQ s) op oq tr dp wi fa ob st of F), 0)) rfl ?_
      exact mm_ret (mm_call_mono _ _) (c := mm_z 0) (r := .inl (some (.int 0))) (M := wP pre (wN (PP s) (QQ s) op oq tr dp wi fa ob st of F)) (u := 0) rfl (by unfold mm_z; decide) (by decide) (h0 (fun q => z2 q.1))
  · skip
    refine mm_skip (mm_call_mono _ _) 1 (st' := (269, [(2, .int (nI (4 * o))), (0, .ref 10), (1, .int (nI o))], [.int 0], wP pre (wN (PP s) (QQ s) op oq tr dp wi fa ob st of F), 0)) rfl ?_
    exact mm_ret (mm_call_mono _ _) (c := mm_z 0) (r := .inl (some (.int 0))) (M := wP pre (wN (PP s) (QQ s) op oq tr dp wi fa ob st of F)) (u := 0) rfl (by unfold mm_z; decide) (by decide) (h0 (fun q => z1 q.2))

theorem hM_pt {s : Nat → fr} {l i : Nat} {v : o3} (h : hM s l i v) : tM s 0 l (12 * i) v.1 ∧ tM s 0 l (12 * i + 4) v.2.1 := ⟨h.1, h.2.1⟩
theorem st_c {st of : Nat → Int32} {S : Nat → stp} {i c : Nat} (h : stR st of S i) (hc : (S i).1 = c) (h3 : c ≤ 3) : st i = nI c := by rw [h.1, hc]; unfold rc; rw [if_pos h3]
theorem rc_of {c : Nat} {i : Int} {x : Int32} (e : x = nI (rc c)) (hc : c ≤ 6) (h : x.toInt = i) : ((rc c : Nat) : Int) = i := code_of e (by unfold rc; split <;> omega) h
theorem rc_D {c : Nat} {x : Int32} (e : x = nI (rc c)) (hc : c ≤ 6) (h : x.toInt < 0 ∨ 3 < x.toInt) : c = 4 ∨ c = 5 ∨ c = 6 := by
  have h2 := code_of e (by unfold rc; split <;> omega) rfl
  unfold rc at h2
  split at h2 <;> omega
theorem rc_i {c i : Nat} (h : ((rc c : Nat) : Int) = i) (hi : i ≤ 3) : c = i := by
  unfold rc at h
  split at h <;> omega
set_option maxRecDepth 100000 in
theorem rk_make {d : Nat} {pre : mm_pre} {s : Nat → fr} {op oq : Nat → Int64} {tr wi fa ob : Int32} {st of : Nat → Int32} {F : mm_M} {L : lvR} {o : Nat} {S : Nat → stp} {v : Nat → o3} {Q : mm_R → mm_M → Prop} (hV : ∀ k, fv (s k)) (hl : L.1 ≤ 2) (ho : o < 24) (hS : ∀ i, i ≤ o → stR st of S i) (hwo : wf S o) (R : rdM s 0 L) (Hf : isM s 0 1 299 (fun _ => (1, 2))) (hH : ∀ i, i < o → hM s L.1 i (v i)) (hQ : ∀ (s1 : Nat → fr) (dp1 w1 fa1 b : Int32), mkR s L o (mk (S o) v L) s1 dp1 b → Q (.inl (some (.int b))) (wP pre (wN (PP s1) (QQ s1) op oq tr dp1 w1 fa1 ob st of F))) : mm_call mm_Tb (d + 15) 95 [.ref 10, .int (nI o)] (wP pre (wN (PP s) (QQ s) op oq tr (nI L.1) wi fa ob st of F)) Q := by
  obtain ⟨e1, e2, e3, e4, e5, e6⟩ := hS o (Nat.le_refl _)
  refine mm_in mt_95 (Nat.le_of_ble_eq_true rfl) ?_
  show mm_W _ _ _ _ _ _ _ (0, [(0, .ref 10), (1, .int (nI o))], [], wP pre (wN (PP s) (QQ s) op oq tr (nI L.1) wi fa ob st of F), 0)
  refine mm_skip (mm_call_mono _ _) 2 (st' := (2, [(0, .ref 10), (1, .int (nI o))], [.int 0, .ref 10], wP pre (wN (PP s) (QQ s) op oq tr (nI L.1) wi fa ob st of F), 0)) rfl ?_
  refine mm_need (mm_call_mono _ _) (c := mm_z 0) (s' := (5, [(0, .ref 10), (1, .int (nI o))], [], wP pre (wN (PP s) (QQ s) op oq tr (nI L.1) wi 0 ob st of F), 0)) rfl (by unfold mm_z; decide) ?_
  refine mm_skip (mm_call_mono _ _) 2 (st' := (7, [(0, .ref 10), (1, .int (nI o))], [.int 0, .ref 10], wP pre (wN (PP s) (QQ s) op oq tr (nI L.1) wi 0 ob st of F), 0)) rfl ?_
  refine mm_need (mm_call_mono _ _) (c := mm_z 0) (s' := (10, [(0, .ref 10), (1, .int (nI o))], [], wP pre (wN (PP s) (QQ s) op oq tr (nI L.1) 0 0 ob st of F), 0)) rfl (by unfold mm_z; decide) ?_
  refine mm_skip (mm_call_mono _ _) 5 (st' := (16, [(0, .ref 10), (1, .int (nI o))], [.int 0, .int (12 * (nI o)), .ref 10], wP pre (wN (PP s) (QQ s) op oq tr (nI L.1) 0 0 ob st of F), 0)) rfl ?_
  rw [nI_m12 o]
  show mm_W _ _ _ _ _ _ _ (16, [(0, .ref 10), (1, .int (nI o))], [.int 0, .int (nI (12 * o)), .ref 10], wP pre (wN (PP s) (QQ s) op oq tr (nI L.1) 0 0 ob st of F), 0)
  refine mm_inv (mm_call_mono _ _) (j := 65) (a := [.ref 10, .int (nI (12 * o)), .int 0]) (M := wP pre (wN (PP s) (QQ s) op oq tr (nI L.1) 0 0 ob st of F)) (u := 0) rfl (by decide) (rm_clear_0 (D := 12 * o) hV (by omega) (fun s1 c1 => ?_))
  show mm_W _ _ _ _ _ _ _ (19, [(0, .ref 10), (1, .int (nI o))], [], wP pre (wN (PP s1) (QQ s1) op oq tr (nI L.1) 0 0 ob st of F), 0)
  refine mm_skip (mm_call_mono _ _) 7 (st' := (27, [(0, .ref 10), (1, .int (nI o))], [.int 0, .int ((12 * (nI o)) + 4), .ref 10], wP pre (wN (PP s1) (QQ s1) op oq tr (nI L.1) 0 0 ob st of F), 0)) rfl ?_
  rw [nI_m12 o]
  rw [nI_p4 ((12 * o))]
  show mm_W _ _ _ _ _ _ _ (27, [(0, .ref 10), (1, .int (nI o))], [.int 0, .int (nI (12 * o + 4)), .ref 10], wP pre (wN (PP s1) (QQ s1) op oq tr (nI L.1) 0 0 ob st of F), 0)
  refine mm_inv (mm_call_mono _ _) (j := 65) (a := [.ref 10, .int (nI (12 * o + 4)), .int 0]) (M := wP pre (wN (PP s1) (QQ s1) op oq tr (nI L.1) 0 0 ob st of F)) (u := 0) rfl (by decide) (rm_clear_0 (D := 12 * o + 4) c1.1 (by omega) (fun s2 c2 => ?_))
  show mm_W _ _ _ _ _ _ _ (30, [(0, .ref 10), (1, .int (nI o))], [], wP pre (wN (PP s2) (QQ s2) op oq tr (nI L.1) 0 0 ob st of F), 0)
  refine mm_skip (mm_call_mono _ _) 7 (st' := (39, [(0, .ref 10), (1, .int (nI o))], [.int 0, .int ((12 * (nI o)) + 8), .ref 10], wP pre (wN (PP s2) (QQ s2) op oq tr (nI L.1) 0 0 ob st of F), 0)) rfl ?_
  rw [nI_m12 o]
  rw [nI_p8 ((12 * o))]
  show mm_W _ _ _ _ _ _ _ (39, [(0, .ref 10), (1, .int (nI o))], [.int 0, .int (nI (12 * o + 8)), .ref 10], wP pre (wN (PP s2) (QQ s2) op oq tr (nI L.1) 0 0 ob st of F), 0)
  refine mm_inv (mm_call_mono _ _) (j := 65) (a := [.ref 10, .int (nI (12 * o + 8)), .int 0]) (M := wP pre (wN (PP s2) (QQ s2) op oq tr (nI L.1) 0 0 ob st of F)) (u := 0) rfl (by decide) (rm_clear_0 (D := 12 * o + 8) c2.1 (by omega) (fun s3 c3 => ?_))
  show mm_W _ _ _ _ _ _ _ (42, [(0, .ref 10), (1, .int (nI o))], [], wP pre (wN (PP s3) (QQ s3) op oq tr (nI L.1) 0 0 ob st of F), 0)
  have R3 := r_cl (r_cl (r_cl R c1 (by omega)) c2 (by omega)) c3 (by omega)
  have Hf3 := m_c (m_c (m_c Hf c1 (by omega)) c2 (by omega)) c3 (by omega)
  have Xz := t_cl (t_cl (t_z (l := L.1) c1) c2 (by omega)) c3 (by omega)
  have Yz := t_cl (t_z (l := L.1) c2) c3 (by omega)
  have Iz := t_z (l := L.1) c3
  have HH : ∀ i, i < o → hM s3 L.1 i (v i) := fun i hi => h_cl (h_cl (h_cl (hH i hi) c1 (by omega)) c2 (by omega)) c3 (by omega)
  have fr3 : ∀ k, k < 300 → ¬ (12 * o ≤ k ∧ k < 12 * o + 12) → s3 k = s k := fun k _ hk => (c3.2.1 k (by omega)).trans ((c2.2.1 k (by omega)).trans (c1.2.1 k (by omega)))
  refine mm_skip (mm_call_mono _ _) 7 (st' := (51, [(2, .int (4 * (nI o))), (0, .ref 10), (1, .int (nI o))], [.int (nI o), .ref 15], wP pre (wN (PP s3) (QQ s3) op oq tr (nI L.1) 0 0 ob st of F), 0)) rfl ?_
  rw [nI_m4 o]
  show mm_W _ _ _ _ _ _ _ (51, [(2, .int (nI (4 * o))), (0, .ref 10), (1, .int (nI o))], [.int (nI o), .ref 15], wP pre (wN (PP s3) (QQ s3) op oq tr (nI L.1) 0 0 ob st of F), 0)
  refine mm_need (mm_call_mono _ _) (c := vp_in (nI o) 24) (s' := (52, [(2, .int (nI (4 * o))), (0, .ref 10), (1, .int (nI o))], [.int (st (Int32.toNatClampNeg (nI o)))], wP pre (wN (PP s3) (QQ s3) op oq tr (nI L.1) 0 0 ob st of F), 0)) rfl (vp_in_nI (show o < 24 by omega) (by decide)) ?_
  rw [nI_clamp (show o < 2 ^ 31 by omega)]
  show mm_W _ _ _ _ _ _ _ (52, [(2, .int (nI (4 * o))), (0, .ref 10), (1, .int (nI o))], [.int (st o)], wP pre (wN (PP s3) (QQ s3) op oq tr (nI L.1) 0 0 ob st of F), 0)
  refine mm_switch (mm_call_mono _ _) (w := [(Int32.toInt (st o) = 0, (84, [(2, .int (nI (4 * o))), (0, .ref 10), (1, .int (nI o))], [], wP pre (wN (PP s3) (QQ s3) op oq tr (nI L.1) 0 0 ob st of F), 0)), (Int32.toInt (st o) = 1, (139, [(2, .int (nI (4 * o))), (0, .ref 10), (1, .int (nI o))], [], wP pre (wN (PP s3) (QQ s3) op oq tr (nI L.1) 0 0 ob st of F), 0)), (Int32.toInt (st o) = 2, (161, [(2, .int (nI (4 * o))), (0, .ref 10), (1, .int (nI o))], [], wP pre (wN (PP s3) (QQ s3) op oq tr (nI L.1) 0 0 ob st of F), 0)), (Int32.toInt (st o) = 3, (201, [(2, .int (nI (4 * o))), (0, .ref 10), (1, .int (nI o))], [], wP pre (wN (PP s3) (QQ s3) op oq tr (nI L.1) 0 0 ob st of F), 0)), ((Int32.toInt (st o) < 0 ∨ 3 < Int32.toInt (st o)), (223, [(2, .int (nI (4 * o))), (0, .ref 10), (1, .int (nI o))], [], wP pre (wN (PP s3) (QQ s3) op oq tr (nI L.1) 0 0 ob st of F), 0))]) rfl ⟨fun hs => ?_, fun hs => ?_, fun hs => ?_, fun hs => ?_, fun hs => ?_, trivial⟩
  · skip
    have hc : (S o).1 = 0 := rc_i (i := 0) (rc_of e1 hwo.1 (show Int32.toInt (st o) = 0 from hs)) (by decide)
    have hm : mk (S o) v L = some ((em (S o).2.2.2.2.2.2.1, em (S o).2.2.2.2.2.2.2, zz), L) := by unfold mk; rw [hc]; rfl
    obtain ⟨i1, i2, ex, ey⟩ := e2 hc
    rw [ex, ey] at hm
    refine mkw_0 c3.1 hl ho R3 Hf3 Iz Xz Yz i1 i2 (fun s4 w4 fa4 L4 hd => ?_)
    rw [← hm] at hd
    obtain ⟨k1, k0⟩ := mk_of fr3 hd
    exact mkw_tail (fun q1 q2 => hQ _ _ _ _ _ (k1 q1 q2)) (fun q => hQ _ _ _ _ _ (k0 q))
  · skip
    have hc : (S o).1 = 1 := rc_i (i := 1) (rc_of e1 hwo.1 (show Int32.toInt (st o) = 1 from hs)) (by decide)
    have hm : mk (S o) v L = mLine L (v (S o).2.1).1 (v (S o).2.1).2.1 (v (S o).2.2.1).1 (v (S o).2.2.1).2.1 := by unfold mk; rw [hc]; rfl
    obtain ⟨g1, g2, g3, g4⟩ := hwo.2.2.1 (Or.inl hc)
    obtain ⟨f1, f2⟩ := e3 (Or.inl hc)
    have A := HH _ g1
    have B := HH _ g2
    refine mkw_1 c3.1 hl ho R3 Hf3 Iz g1 g2 f1 f2 A.1 A.2.1 B.1 B.2.1 (fun s4 w4 fa4 L4 hd => ?_)
    rw [← hm] at hd
    obtain ⟨k1, k0⟩ := mk_of fr3 hd
    exact mkw_tail (fun q1 q2 => hQ _ _ _ _ _ (k1 q1 q2)) (fun q => hQ _ _ _ _ _ (k0 q))
  · skip
    have hc : (S o).1 = 2 := rc_i (i := 2) (rc_of e1 hwo.1 (show Int32.toInt (st o) = 2 from hs)) (by decide)
    have hm : mk (S o) v L = mCirc L (v (S o).2.2.1).1 (v (S o).2.2.1).2.1 (v (S o).2.2.2.1).1 (v (S o).2.2.2.1).2.1 := by unfold mk; rw [hc]; rfl
    obtain ⟨g1, g2, g3, g4, g5, g6⟩ := hwo.2.2.2.1 hc
    obtain ⟨f1, f2, f3⟩ := e4 hc
    have A := HH _ g2
    have B := HH _ g3
    refine mkw_2 c3.1 hl ho R3 Hf3 Iz g2 g3 f2 f3 Yz A.1 A.2.1 B.1 B.2.1 (fun s4 w4 fa4 L4 hd => ?_)
    rw [← hm] at hd
    obtain ⟨k1, k0⟩ := mk_of fr3 hd
    exact mkw_tail (fun q1 q2 => hQ _ _ _ _ _ (k1 q1 q2)) (fun q => hQ _ _ _ _ _ (k0 q))
  · skip
    have hc : (S o).1 = 3 := rc_i (i := 3) (rc_of e1 hwo.1 (show Int32.toInt (st o) = 3 from hs)) (by decide)
    have hm : mk (S o) v L = mMid L (v (S o).2.1).1 (v (S o).2.1).2.1 (v (S o).2.2.1).1 (v (S o).2.2.1).2.1 := by unfold mk; rw [hc]; rfl
    obtain ⟨g1, g2, g3, g4⟩ := hwo.2.2.1 (Or.inr hc)
    obtain ⟨f1, f2⟩ := e3 (Or.inr hc)
    have A := HH _ g1
    have B := HH _ g2
    refine mkw_3 c3.1 hl ho R3 Hf3 Iz g1 g2 f1 f2 A.1 A.2.1 B.1 B.2.1 (fun s4 w4 fa4 L4 hd => ?_)
    rw [← hm] at hd
    obtain ⟨k1, k0⟩ := mk_of fr3 hd
    exact mkw_tail (fun q1 q2 => hQ _ _ _ _ _ (k1 q1 q2)) (fun q => hQ _ _ _ _ _ (k0 q))
  · skip
    rcases rc_D e1 hwo.1 hs with hc | hc | hc
    · have hm : mk (S o) v L = mMeet L (v (S o).2.1).1 (v (S o).2.1).2.1 (v (S o).2.1).2.2 (v (S o).2.2.1).1 (v (S o).2.2.1).2.1 (v (S o).2.2.1).2.2 := by unfold mk; rw [hc]; rfl
      obtain ⟨g1, g2, g3, g4⟩ := hwo.2.2.2.2.1 hc
      obtain ⟨f1, f2, f3⟩ := e5 (Or.inl hc)
      have A := HH _ g1
      have B := HH _ g2
      refine mkw_4 c3.1 hl ho R3 Hf3 Iz g1 g2 f1 f2 f3 (st_c (hS _ (by omega)) g3 (by decide)) (st_c (hS _ (by omega)) g4 (by decide)) A.1 A.2.1 A.2.2 B.1 B.2.1 B.2.2 (fun s4 w4 fa4 L4 hd => ?_)
      rw [← hm] at hd
      obtain ⟨k1, k0⟩ := mk_of fr3 hd
      exact mkw_tail (fun q1 q2 => hQ _ _ _ _ _ (k1 q1 q2)) (fun q => hQ _ _ _ _ _ (k0 q))
    · have hm : mk (S o) v L = mCut L (v (S o).2.1).1 (v (S o).2.1).2.1 (v (S o).2.1).2.2 (v (S o).2.2.2.2.1).1 (v (S o).2.2.2.2.1).2.1 (v (S o).2.2.1).1 (decide ((S o).2.2.2.1 = 0)) := by unfold mk; rw [hc]; rfl
      obtain ⟨g1, g2, g3, g4, g5, g6, g7, g8⟩ := hwo.2.2.2.2.2.1 hc
      obtain ⟨ff_, f3⟩ := e6 hc
      have A := HH _ g1
      have B := HH _ g2
      have C := HH _ g6
      rcases ff_ with ⟨f1, f2⟩ | ⟨f1, f2⟩
      · refine mkw_5a c3.1 hl ho R3 Hf3 Iz g1 g2 g6 g8 f1 f2 f3 (st_c (hS _ (by omega)) g3 (by decide)) (st_c (hS _ (by omega)) g4 (by decide)) (by rw [g5]; exact ((hS _ (by omega)).2.2.2.1 g4).1) A.1 A.2.1 A.2.2 C.1 C.2.1 B.1 (fun s4 w4 fa4 L4 hd => ?_)
        rw [← hm] at hd
        obtain ⟨k1, k0⟩ := mk_of fr3 hd
        exact mkw_tail (fun q1 q2 => hQ _ _ _ _ _ (k1 q1 q2)) (fun q => hQ _ _ _ _ _ (k0 q))
      · refine mkw_5b c3.1 hl ho R3 Hf3 Iz g1 g2 g6 g8 f1 f2 f3 (st_c (hS _ (by omega)) g3 (by decide)) (st_c (hS _ (by omega)) g4 (by decide)) (by rw [g5]; exact ((hS _ (by omega)).2.2.2.1 g4).1) A.1 A.2.1 A.2.2 C.1 C.2.1 B.1 (fun s4 w4 fa4 L4 hd => ?_)
        rw [← hm] at hd
        obtain ⟨k1, k0⟩ := mk_of fr3 hd
        exact mkw_tail (fun q1 q2 => hQ _ _ _ _ _ (k1 q1 q2)) (fun q => hQ _ _ _ _ _ (k0 q))
    · have hm : mk (S o) v L = mCir L (v (S o).2.2.2.2.1).1 (v (S o).2.2.2.2.1).2.1 (v (S o).2.1).1 (v (S o).2.2.2.2.2.1).1 (v (S o).2.2.2.2.2.1).2.1 (v (S o).2.2.1).1 (decide ((S o).2.2.2.1 = 0)) := by unfold mk; rw [hc]; rfl
      obtain ⟨g1, g2, g3, g4, g5, g6, g7, g8, g9, g10, g11⟩ := hwo.2.2.2.2.2.2 hc
      obtain ⟨f1, f2, f3⟩ := e5 (Or.inr hc)
      have A := HH _ g1
      have B := HH _ g2
      have C := HH _ g7
      have D := HH _ g8
      refine mkw_6 c3.1 hl ho R3 Hf3 Iz g1 g2 g7 g8 g11 f1 f2 f3 (st_c (hS _ (by omega)) g3 (by decide)) (st_c (hS _ (by omega)) g4 (by decide)) (by rw [g5]; exact ((hS _ (by omega)).2.2.2.1 g3).1) (by rw [g6]; exact ((hS _ (by omega)).2.2.2.1 g4).1) C.1 C.2.1 D.1 D.2.1 A.1 B.1 (fun s4 w4 fa4 L4 hd => ?_)
      rw [← hm] at hd
      obtain ⟨k1, k0⟩ := mk_of fr3 hd
      exact mkw_tail (fun q1 q2 => hQ _ _ _ _ _ (k1 q1 q2)) (fun q => hQ _ _ _ _ _ (k0 q))

