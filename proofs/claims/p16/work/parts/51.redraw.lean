/-- a step: what is drawn (0 .. 6), of what, which meeting, the centres; where a free point lies -/
abbrev stp : Type := Nat × Nat × Nat × Nat × Nat × Nat × fr × fr
def em (x : fr) : n4 := (x, z0, z0, z0)
noncomputable def mCut (L : lvR) (a b c x y s : n4) (less : Bool) : Option (o3 × lvR) := (mMea L a b c x y s).bind fun t => (xtake L t.2.2).bind fun r => mDraw r.2 a b x y t.1 t.2.1 r.1 less
noncomputable def mCir (L : lvR) (xp yp s1 xq yq s2 : n4) (less : Bool) : Option (o3 × lvR) := (mCom L xp yp s1 xq yq s2).bind fun t => mCut L t.1 t.2.1 t.2.2 xp yp s1 less
noncomputable def mk (s : stp) (v : Nat → o3) (L : lvR) : Option (o3 × lvR) := match s.1 with
  | 0 => some ((em s.2.2.2.2.2.2.1, em s.2.2.2.2.2.2.2, zz), L)
  | 1 => mLine L (v s.2.1).1 (v s.2.1).2.1 (v s.2.2.1).1 (v s.2.2.1).2.1
  | 2 => mCirc L (v s.2.2.1).1 (v s.2.2.1).2.1 (v s.2.2.2.1).1 (v s.2.2.2.1).2.1
  | 3 => mMid L (v s.2.1).1 (v s.2.1).2.1 (v s.2.2.1).1 (v s.2.2.1).2.1
  | 4 => mMeet L (v s.2.1).1 (v s.2.1).2.1 (v s.2.1).2.2 (v s.2.2.1).1 (v s.2.2.1).2.1 (v s.2.2.1).2.2
  | 5 => mCut L (v s.2.1).1 (v s.2.1).2.1 (v s.2.1).2.2 (v s.2.2.2.2.1).1 (v s.2.2.2.2.1).2.1 (v s.2.2.1).1 (decide (s.2.2.2.1 = 0))
  | _ => mCir L (v s.2.2.2.2.1).1 (v s.2.2.2.2.1).2.1 (v s.2.1).1 (v s.2.2.2.2.2.1).1 (v s.2.2.2.2.2.1).2.1 (v s.2.2.1).1 (decide (s.2.2.2.1 = 0))
/-- the objects one by one, from level 0 on -/
noncomputable def dr (S : Nat → stp) : Nat → Option ((Nat → o3) × lvR)
  | 0 => some (fun _ => (zz, zz, zz), (0, zz, zz))
  | i + 1 => (dr S i).bind fun p => (mk (S i) p.1 p.2).bind fun q => some (fun j => if j = i then q.1 else p.1 j, q.2)
noncomputable def lvl (S : Nat → stp) (i : Nat) : Nat := match dr S i with
  | some p => p.2.1
  | none => 0
theorem dr_congr {S S' : Nat → stp} : ∀ {i : Nat}, (∀ j, j < i → S j = S' j) → dr S i = dr S' i
  | 0, _ => rfl
  | i + 1, h => by
    show (dr S i).bind _ = (dr S' i).bind _
    rw [dr_congr (fun j hj => h j (by omega)), h i (by omega)]
theorem lvl_s {S : Nat → stp} {i : Nat} {v : Nat → o3} {L : lvR} (h : dr S i = some (v, L)) : lvl S i = L.1 := by
  unfold lvl; rw [h]
theorem dr_s {S : Nat → stp} {i : Nat} {v : Nat → o3} {L L1 : lvR} {q : o3} (h : dr S i = some (v, L)) (h1 : mk (S i) v L = some (q, L1)) : dr S (i + 1) = some (fun j => if j = i then q else v j, L1) := by
  show (dr S i).bind _ = _
  rw [h]
  show (mk (S i) v L).bind _ = _
  rw [h1]; rfl
theorem dr_n {S : Nat → stp} {i : Nat} {v : Nat → o3} {L : lvR} (h : dr S i = some (v, L)) (h1 : mk (S i) v L = none) : dr S (i + 1) = none := by
  show (dr S i).bind _ = _
  rw [h]
  show (mk (S i) v L).bind _ = _
  rw [h1]; rfl
theorem bd {X Y : Type} {T : Option X} {k : X → Option Y} {q : Y} {P : Prop} (h : T.bind k = some q) (hk : ∀ x, k x = some q → P) : P := by
  cases T with
  | none => cases h
  | some x => exact hk x h
def lvle (L L1 : lvR) : Prop := L.1 ≤ L1.1 ∧ (1 ≤ L.1 → L1.2.1 = L.2.1) ∧ (2 ≤ L.1 → L1.2.2 = L.2.2)
theorem lvle_r (L : lvR) : lvle L L := ⟨Nat.le_refl _, fun _ => rfl, fun _ => rfl⟩
theorem lvle_t {L M N : lvR} (h : lvle L M) (h1 : lvle M N) : lvle L N := ⟨Nat.le_trans h.1 h1.1, fun q => (h1.2.1 (Nat.le_trans q h.1)).trans (h.2.1 q), fun q => (h1.2.2 (Nat.le_trans q h.1)).trans (h.2.2 q)⟩
theorem xtake_le {L L1 : lvR} {x V : n4} (h : xtake L x = some (V, L1)) (hl : L.1 ≤ 2) : lvle L L1 ∧ L1.1 ≤ 2 := by
  refine bd h fun s h => ?_
  by_cases hs : s < 0
  · rw [if_pos hs] at h; cases h
  · rw [if_neg hs] at h
    refine bd h fun w h => ?_
    cases w with
    | some w => cases h; exact ⟨lvle_r _, hl⟩
    | none =>
      have h : (if L.1 = 2 then none else some (xun L.1, xup L x)) = some (V, L1) := h
      by_cases h2 : L.1 = 2
      · rw [if_pos h2] at h; cases h
      · rw [if_neg h2] at h
        cases h
        obtain ⟨l, R1, R2⟩ := L
        have hl : l ≤ 2 := hl
        have h2 : ¬ l = 2 := h2
        rcases (show l = 0 ∨ l = 1 by omega) with rfl | rfl
        · exact ⟨⟨Nat.zero_le _, fun q => absurd (show 1 ≤ 0 from q) (by decide), fun q => absurd (show 2 ≤ 0 from q) (by decide)⟩, (by decide : 1 ≤ 2)⟩
        · exact ⟨⟨(by decide : 1 ≤ 2), fun _ => rfl, fun q => absurd (show 2 ≤ 1 from q) (by decide)⟩, Nat.le_refl 2⟩
theorem mDraw_L {L L1 : lvR} {a b x y e m r : n4} {less : Bool} {q : o3} (h : mDraw L a b x y e m r less = some (q, L1)) : L1 = L := by
  unfold mDraw at h
  iterate 11 (refine bd h fun _ h => ?_)
  cases h; rfl
theorem mCut_le {L L1 : lvR} {a b c x y s : n4} {less : Bool} {q : o3} (h : mCut L a b c x y s less = some (q, L1)) (hl : L.1 ≤ 2) : lvle L L1 ∧ L1.1 ≤ 2 := by
  refine bd h fun t h => ?_
  obtain ⟨r, hr, h2⟩ : ∃ r, xtake L t.2.2 = some r ∧ mDraw r.2 a b x y t.1 t.2.1 r.1 less = some (q, L1) := by
    have h : (xtake L t.2.2).bind (fun r => mDraw r.2 a b x y t.1 t.2.1 r.1 less) = some (q, L1) := h
    cases hr : xtake L t.2.2 with
    | none => rw [hr] at h; cases h
    | some r => rw [hr] at h; exact ⟨r, rfl, h⟩
  rw [mDraw_L h2]
  exact xtake_le (V := r.1) (L1 := r.2) hr hl
theorem mk_le {s : stp} {v : Nat → o3} {L L1 : lvR} {q : o3} (h : mk s v L = some (q, L1)) (hl : L.1 ≤ 2) : lvle L L1 ∧ L1.1 ≤ 2 := by
  have e : L1 = L → lvle L L1 ∧ L1.1 ≤ 2 := fun e => by rw [e]; exact ⟨lvle_r _, hl⟩
  unfold mk at h
  split at h
  · cases h; exact ⟨lvle_r _, hl⟩
  · refine e ?_
    unfold mLine at h
    split at h
    · cases h
    · iterate 5 (refine bd h fun _ h => ?_)
      cases h; rfl
  · refine e ?_
    unfold mCirc at h
    refine bd h fun _ h => ?_
    split at h
    · cases h
    · cases h; rfl
  · refine e ?_
    unfold mMid at h
    iterate 4 (refine bd h fun _ h => ?_)
    cases h; rfl
  · refine e ?_
    unfold mMeet at h
    iterate 12 (refine bd h fun _ h => ?_)
    cases h; rfl
  · exact mCut_le h hl
  · exact bd h fun _ h => mCut_le h hl
theorem rdA_le {ov un : Nat → Int32} {n : Nat} {fa : Int32} {L L1 : lvR} (h : rdA ov un n fa L1) (hl : lvle L L1) : rdA ov un n fa L := ⟨fun q => by rw [← hl.2.1 q]; exact h.1 (Nat.le_trans q hl.1), fun q => by rw [← hl.2.2 q]; exact h.2 (Nat.le_trans q hl.1)⟩
/-- the numbers that an object keeps -/
def us (c : Nat) : Nat := match c with
  | 1 => 3
  | 2 => 1
  | _ => 2
def pt (S : Nat → stp) (j : Nat) : Prop := ¬ (S j).1 = 1 ∧ ¬ (S j).1 = 2
theorem us_pt {S : Nat → stp} {j : Nat} (h : pt S j) : us (S j).1 = 2 := by
  unfold us
  split
  · exact absurd ‹_› h.1
  · exact absurd ‹_› h.2
  · rfl
/-- what may be asked of a step -/
def wf (S : Nat → stp) (i : Nat) : Prop := (S i).1 ≤ 6 ∧ ((S i).1 = 0 → fv (S i).2.2.2.2.2.2.1 ∧ fv (S i).2.2.2.2.2.2.2) ∧ ((S i).1 = 1 ∨ (S i).1 = 3 → (S i).2.1 < i ∧ (S i).2.2.1 < i ∧ pt S (S i).2.1 ∧ pt S (S i).2.2.1) ∧ ((S i).1 = 2 → (S i).2.1 < i ∧ (S i).2.2.1 < i ∧ (S i).2.2.2.1 < i ∧ pt S (S i).2.1 ∧ pt S (S i).2.2.1 ∧ pt S (S i).2.2.2.1) ∧
  ((S i).1 = 4 → (S i).2.1 < i ∧ (S i).2.2.1 < i ∧ (S (S i).2.1).1 = 1 ∧ (S (S i).2.2.1).1 = 1) ∧ ((S i).1 = 5 → (S i).2.1 < i ∧ (S i).2.2.1 < i ∧ (S (S i).2.1).1 = 1 ∧ (S (S i).2.2.1).1 = 2 ∧ (S i).2.2.2.2.1 = (S (S i).2.2.1).2.1 ∧ (S i).2.2.2.2.1 < i ∧ pt S (S i).2.2.2.2.1 ∧ (S i).2.2.2.1 ≤ 1) ∧
  ((S i).1 = 6 → (S i).2.1 < i ∧ (S i).2.2.1 < i ∧ (S (S i).2.1).1 = 2 ∧ (S (S i).2.2.1).1 = 2 ∧ (S i).2.2.2.2.1 = (S (S i).2.1).2.1 ∧ (S i).2.2.2.2.2.1 = (S (S i).2.2.1).2.1 ∧ (S i).2.2.2.2.1 < i ∧ (S i).2.2.2.2.2.1 < i ∧ pt S (S i).2.2.2.2.1 ∧ pt S (S i).2.2.2.2.2.1 ∧ (S i).2.2.2.1 ≤ 1)
/-- a step in the class's rows -/
def stM (st fi se th : Nat → Int32) (S : Nat → stp) (i : Nat) : Prop := st i = nI (S i).1 ∧ fi i = nI (S i).2.1 ∧ se i = nI (S i).2.2.1 ∧ th i = nI (S i).2.2.2.1
/-- while the objects are drawn anew from f on -/
def rdI (S : Nat → stp) (k l f : Nat) (ov0 un0 db0 ov un db : Nat → Int32) (o : Nat) (v : Nat → o3) (L : lvR) : Prop :=
  dr S o = some (v, L) ∧ L.1 ≤ 2 ∧ l ≤ L.1 ∧ rdA ov un 308 0 L ∧ (∀ i, i < o → hold (us (S i).1) ov un i (v i)) ∧ (∀ i, o ≤ i → i < k → (S i).1 = 0 → hold 2 ov un i (em (S i).2.2.2.2.2.2.1, em (S i).2.2.2.2.2.2.2, zz)) ∧
    (∀ i, f ≤ i → i ≤ o → db i = nI (lvl S i)) ∧ (∀ i, i ≤ f → db i = db0 i) ∧
    ∀ j, j < 308 → ¬ (4 * l ≤ j ∧ j < 8) → (∀ i, f ≤ i → i < k → ¬ (S i).1 = 0 → j < 8 + 12 * i ∨ 20 + 12 * i ≤ j) → ov j = ov0 j ∧ un j = un0 j
def rdF (S : Nat → stp) (k l f : Nat) (ov0 un0 db0 ov un db : Nat → Int32) (dp r : Int32) : Prop := ∃ (o : Nat) (v : Nat → o3) (L : lvR), f ≤ o ∧ o ≤ k ∧ rdI S k l f ov0 un0 db0 ov un db o v L ∧ ((o = k ∧ r = -1 ∧ dp = nI L.1) ∨ (o < k ∧ r = nI o ∧ dr S (o + 1) = none))
theorem kp_k {ov un ov1 un1 : Nat → Int32} {a : Nat} {v : n4} (h : kp ov un a v) (e : ∀ j, j < 4 → ov1 (a + j) = ov (a + j) ∧ un1 (a + j) = un (a + j)) : kp ov1 un1 a v := by
  refine ⟨h.1, ?_⟩
  rw [← h.2]
  unfold r4
  rw [rf_eq (e 1 (by omega)), rf_eq (e 2 (by omega)), rf_eq (e 3 (by omega)), show rf ov1 un1 a = rf ov un a from rf_eq (e 0 (by omega))]
theorem hold_k {u o : Nat} {ov un ov1 un1 : Nat → Int32} {v : o3} (h : hold u ov un o v) (e : ∀ j, 8 + 12 * o ≤ j → j < 20 + 12 * o → ov1 j = ov j ∧ un1 j = un j) : hold u ov1 un1 o v :=
  ⟨kp_k h.1 (fun j hj => e _ (by omega) (by omega)), fun q => kp_k (h.2.1 q) (fun j hj => e _ (by omega) (by omega)), fun q => kp_k (h.2.2 q) (fun j hj => e _ (by omega) (by omega))⟩
theorem hold_u {u u1 o : Nat} {ov un : Nat → Int32} {v : o3} (h : hold u ov un o v) (hu : u1 ≤ u) : hold u1 ov un o v := ⟨h.1, fun q => h.2.1 (by omega), fun q => h.2.2 (by omega)⟩
theorem rdA_k {ov un ov1 un1 : Nat → Int32} {L : lvR} (hl : L.1 ≤ 2) (h : rdA ov un 308 0 L) (e : ∀ j, j < 4 * L.1 → ov1 j = ov j ∧ un1 j = un j) : rdA ov1 un1 308 0 L :=
  ⟨fun q => at_keep2 (h.1 q) (fun _ => ⟨rfl, Nat.le_refl _, fun j hj => e _ (by omega)⟩), fun q => at_keep2 (h.2 q) (fun _ => ⟨rfl, Nat.le_refl _, fun j hj => e _ (by omega)⟩)⟩
/-- an object is drawn -/
theorem rd_step {S : Nat → stp} {k l f u o n1 : Nat} {ov0 un0 db0 ov un db ov1 un1 : Nat → Int32} {v : Nat → o3} {L L1 : lvR} {fa1 : Int32} (hk : k ≤ 24) (ho : o < k) (hf : f ≤ o) (h : rdI S k l f ov0 un0 db0 ov un db o v L) (hd : drR ov un L.1 o u (mk (S o) v L) ov1 un1 n1 fa1 L1) (hu : us (S o).1 ≤ u) (hc : ¬ (S o).1 = 0) :
    (fa1 = 0 → ∃ v1, rdI S k l f ov0 un0 db0 ov1 un1 (upd db (o + 1) (nI L1.1)) (o + 1) v1 L1) ∧ (fa1 = 1 → rdI S k l f ov0 un0 db0 ov1 un1 db o v L ∧ dr S (o + 1) = none) := by
  obtain ⟨a1, a2, a3, a4, a5, a6, a7, a8, a9⟩ := h
  obtain ⟨b1, b2, b3, b4, b5⟩ := hd
  have ez : ∀ i, ¬ i = o → i < k → ∀ j, 8 + 12 * i ≤ j → j < 20 + 12 * i → ov1 j = ov j ∧ un1 j = un j := fun i hi hik j h1 h2 => b3 j (by omega) (by unfold zd; omega)
  have fr9 : ∀ j, j < 308 → ¬ (4 * l ≤ j ∧ j < 8) → (∀ i, f ≤ i → i < k → ¬ (S i).1 = 0 → j < 8 + 12 * i ∨ 20 + 12 * i ≤ j) → ov1 j = ov0 j ∧ un1 j = un0 j := fun j h1 h2 h3 => by
    have e := b3 j h1 (by have := h3 o hf ho hc; unfold zd; omega)
    have e2 := a9 j h1 h2 h3
    exact ⟨e.1.trans e2.1, e.2.trans e2.2⟩
  refine ⟨fun h0 => ?_, fun h1 => ?_⟩
  · obtain ⟨c1, c2, w, c3, c4⟩ := b4 h0
    have hle := mk_le c3 a2
    have hdr := dr_s a1 c3
    refine ⟨_, hdr, c1, Nat.le_trans a3 hle.1.1, c2, fun i hi => ?_, fun i h1 h2 h3 => hold_k (a6 i (by omega) h2 h3) (ez i (by omega) h2), fun i h1 h2 => ?_, fun i h1 => ?_, fr9⟩
    · by_cases e : i = o
      · show hold _ _ _ _ (if i = o then w else v i)
        rw [if_pos e, e]
        exact hold_u c4 hu
      · show hold _ _ _ _ (if i = o then w else v i)
        rw [if_neg e]
        exact hold_k (a5 i (by omega)) (ez i e (by omega))
    · by_cases e : i = o + 1
      · rw [e, pk_us, lvl_s hdr]
      · rw [pk_un e]
        exact a7 i h1 (by omega)
    · rw [pk_un (by omega)]
      exact a8 i h1
  · refine ⟨⟨a1, a2, a3, rdA_k a2 a4 (fun j hj => b3 j (by omega) (by unfold zd; omega)), fun i hi => hold_k (a5 i hi) (ez i (by omega) (by omega)), fun i h1 h2 h3 => ?_, a7, a8, fr9⟩, dr_n a1 (b5 h1)⟩
    by_cases e : i = o
    · rw [e] at h3; exact absurd h3 hc
    · exact hold_k (a6 i h1 h2 h3) (ez i e h2)
theorem rd_free {S : Nat → stp} {k l f o : Nat} {ov0 un0 db0 ov un db : Nat → Int32} {v : Nat → o3} {L : lvR} (ho : o < k) (hf : f ≤ o) (h : rdI S k l f ov0 un0 db0 ov un db o v L) (hc : (S o).1 = 0) : ∃ v1, rdI S k l f ov0 un0 db0 ov un (upd db (o + 1) (nI L.1)) (o + 1) v1 L := by
  obtain ⟨a1, a2, a3, a4, a5, a6, a7, a8, a9⟩ := h
  have hm : mk (S o) v L = some ((em (S o).2.2.2.2.2.2.1, em (S o).2.2.2.2.2.2.2, zz), L) := by unfold mk; rw [hc]; rfl
  have hdr := dr_s a1 hm
  refine ⟨_, hdr, a2, a3, a4, fun i hi => ?_, fun i h1 h2 h3 => a6 i (by omega) h2 h3, fun i h1 h2 => ?_, fun i h1 => ?_, a9⟩
  · by_cases e : i = o
    · show hold _ _ _ _ (if i = o then (em (S o).2.2.2.2.2.2.1, em (S o).2.2.2.2.2.2.2, zz) else v i)
      rw [if_pos e, e, hc]
      exact a6 o (Nat.le_refl _) ho hc
    · show hold _ _ _ _ (if i = o then (em (S o).2.2.2.2.2.2.1, em (S o).2.2.2.2.2.2.2, zz) else v i)
      rw [if_neg e]
      exact a5 i (by omega)
  · by_cases e : i = o + 1
    · rw [e, pk_us, lvl_s hdr]
    · rw [pk_un e]
      exact a7 i h1 (by omega)
  · rw [pk_un (by omega)]
    exact a8 i h1
theorem at_tk {ov un ov1 un1 : Nat → Int32} {n n1 r a : Nat} {fa fa1 : Int32} {L L1 : lvR} {T : Option (n4 × lvR)} {V : n4} {x : Nat → fr} (h : isAt ov un n fa 4 a x) (t : tkR ov un n fa L T ov1 un1 n1 fa1 L1 r V) (ha : 8 ≤ a) : isAt ov1 un1 n1 fa1 4 a x := by
  refine at_keep2 h (fun h0 => ?_)
  obtain ⟨q1, q2, q3, q4⟩ := t.2.2.2.2.2.1 h0
  exact ⟨q1, q2, fun j hj => q4 _ (by have := (h.1.2 q1).1; omega) (by omega)⟩
theorem cut_tk {ov0 un0 ov un ov1 un1 ov2 un2 : Nat → Int32} {o n n1 n2 w re rm rv r : Nat} {fa fa1 fa2 : Int32} {L L1 : lvR} {a b c x y s v1 v2 v3 V : n4} {less : Bool} {T : Option (o3 × lvR)} (s0 : sto (zd L.1 o) ov0 un0 w ov un n fa) (hw : w ≤ 200) (E0 : fa = 0 → T = mCut L a b c x y s less) (F0 : fa = 1 → T = none) (h1 : o3R ov un n fa 52 100 (mMea L a b c x y s) ov1 un1 n1 fa1 re rm rv v1 v2 v3) (h2 : tkR ov1 un1 n1 fa1 L (xtake L v3) ov2 un2 n2 fa2 L1 r V) :
    sto (zd L.1 o) ov0 un0 (w + 52 + 644) ov2 un2 n2 fa2 ∧ (fa2 = 0 → T = mDraw L1 a b x y v1 v2 V less) ∧ (fa2 = 1 → T = none) := by
  have s1 := sto_t s0 h1.1
  have F1 : fa1 = 1 → T = none := sto_F (T := mMea L a b c x y s) (k := fun t => (xtake L t.2.2).bind fun r => mDraw r.2 a b x y t.1 t.2.1 r.1 less) s0 F0 E0 h1.2.2.1 (by omega)
  have E1 : fa1 = 0 → T = (xtake L v3).bind fun r => mDraw r.2 a b x y v1 v2 r.1 less := fun h0 => by
    rw [E0 (stl_k h1.1 h0).1]
    unfold mCut
    rw [h1.2.1 h0]; rfl
  obtain ⟨t1, t2, t3, t4, t5, t6, t7, t8, t9, t10, t11⟩ := h2
  refine ⟨⟨t1, t2, fun k hk hz => ?_, fun h0 => ?_⟩, fun h0 => ?_, sto_F s1 F1 E1 t10 (by omega)⟩
  · have e := t4 k hk (fun q => hz (Or.inl q))
    have e2 := s1.2.2.1 k hk hz
    exact ⟨e.1.trans e2.1, e.2.trans e2.2⟩
  · have q := t6 h0
    have q2 := s1.2.2.2 q.1
    omega
  · rw [E1 (t6 h0).1, t7 h0]; rfl
theorem code_of {c : Nat} {i : Int} {x : Int32} (e : x = nI c) (hc : c ≤ 6) (h : x.toInt = i) : (c : Int) = i := by
  rw [e] at h
  rw [← h]
  rcases (show c = 0 ∨ c = 1 ∨ c = 2 ∨ c = 3 ∨ c = 4 ∨ c = 5 ∨ c = 6 by omega) with rfl | rfl | rfl | rfl | rfl | rfl | rfl <;> decide
theorem code_D {c : Nat} {x : Int32} (e : x = nI c) (hc : c ≤ 6) (h : x.toInt < 1 ∨ 6 < x.toInt) : c = 0 := by
  have := code_of e hc rfl
  omega
theorem hold_pt {S : Nat → stp} {i : Nat} {ov un : Nat → Int32} {v : o3} (h : pt S i) (hh : hold (us (S i).1) ov un i v) : kp ov un (8 + 12 * i) v.1 ∧ kp ov un (12 + 12 * i) v.2.1 := by
  rw [us_pt h] at hh
  exact ⟨hh.1, hh.2.1 (by omega)⟩
theorem hold_ln {S : Nat → stp} {i : Nat} {ov un : Nat → Int32} {v : o3} (h : (S i).1 = 1) (hh : hold (us (S i).1) ov un i v) : kp ov un (8 + 12 * i) v.1 ∧ kp ov un (12 + 12 * i) v.2.1 ∧ kp ov un (16 + 12 * i) v.2.2 := by
  rw [h] at hh
  exact ⟨hh.1, hh.2.1 (by decide), hh.2.2 (by decide)⟩
set_option maxRecDepth 100000 in
theorem rdw_1 {d : Nat} {ov un : Nat → Int32}  {cu : mm_cu} {st fi se th db : Nat → Int32} {cn : Int32} {F : mm_M} {o : Nat} {f1 : Int32} {L : lvR} {p q : Nat} {xp yp xq yq : n4} {Q : mm_R → mm_M → Prop} (hl : L.1 ≤ 2) (ho : o < 24) (R : rdA ov un 308 0 L) (hp : p < o) (hq : q < o) (hfi : fi o = nI p) (hse : se o = nI q) (A : kp ov un (8 + 12 * p) xp) (B : kp ov un (12 + 12 * p) yp) (C : kp ov un (8 + 12 * q) xq) (D : kp ov un (12 + 12 * q) yq) (hT : ∀ (ov1 un1 : Nat → Int32) (n1 : Nat) (fa1 : Int32) , drR ov un L.1 o 3 (mLine L xp yp xq yq) ov1 un1 n1 fa1 L → mm_W (mm_call mm_Tb (d + 8)) mp_C_redraw (mm_bt mm_Tb) 0 (some .int) 3 Q (184, [(2, .int (nI o)), (0, .ref 0), (1, .int f1)], [], wC ov1 un1 (nI n1) (nI L.1) fa1 cu st fi se th db cn F, 0)) : mm_W (mm_call mm_Tb (d + 8)) mp_C_redraw (mm_bt mm_Tb) 0 (some .int) 3 Q (76, [(2, .int (nI o)), (0, .ref 0), (1, .int f1)], [], wC ov un (nI 308) (nI L.1) 0 cu st fi se th db cn F, 0) := by
  refine mm_skip (mm_call_mono _ _) 2 (st' := (78, [(2, .int (nI o)), (0, .ref 0), (1, .int f1)], [.int (nI o), .ref 0], wC ov un (nI 308) (nI L.1) 0 cu st fi se th db cn F, 0)) rfl ?_
  refine mm_inv (mm_call_mono _ _) (j := 28) (a := [.ref 0, .int (nI o)]) (M := wC ov un (nI 308) (nI L.1) 0 cu st fi se th db cn F) (u := 0) rfl (by decide) (gd_drawLine hl ho hp hq hfi hse R A B C D (fun ov1 un1 n1 fa1 hd => ?_))
  show mm_W _ _ _ _ _ _ _ (81, [(2, .int (nI o)), (0, .ref 0), (1, .int f1)], [], wC ov1 un1 (nI n1) (nI L.1) fa1 cu st fi se th db cn F, 0)
  refine mm_skip (mm_call_mono _ _) 1 (st' := (184, [(2, .int (nI o)), (0, .ref 0), (1, .int f1)], [], wC ov1 un1 (nI n1) (nI L.1) fa1 cu st fi se th db cn F, 0)) rfl ?_
  exact hT _ _ _ _  hd

set_option maxRecDepth 100000 in
theorem rdw_2 {d : Nat} {ov un : Nat → Int32}  {cu : mm_cu} {st fi se th db : Nat → Int32} {cn : Int32} {F : mm_M} {o : Nat} {f1 : Int32} {L : lvR} {p q : Nat} {xp yp xq yq : n4} {Q : mm_R → mm_M → Prop} (hl : L.1 ≤ 2) (ho : o < 24) (R : rdA ov un 308 0 L) (hp : p < o) (hq : q < o) (hfi : se o = nI p) (hse : th o = nI q) (A : kp ov un (8 + 12 * p) xp) (B : kp ov un (12 + 12 * p) yp) (C : kp ov un (8 + 12 * q) xq) (D : kp ov un (12 + 12 * q) yq) (hT : ∀ (ov1 un1 : Nat → Int32) (n1 : Nat) (fa1 : Int32) , drR ov un L.1 o 1 (mCirc L xp yp xq yq) ov1 un1 n1 fa1 L → mm_W (mm_call mm_Tb (d + 8)) mp_C_redraw (mm_bt mm_Tb) 0 (some .int) 3 Q (184, [(2, .int (nI o)), (0, .ref 0), (1, .int f1)], [], wC ov1 un1 (nI n1) (nI L.1) fa1 cu st fi se th db cn F, 0)) : mm_W (mm_call mm_Tb (d + 8)) mp_C_redraw (mm_bt mm_Tb) 0 (some .int) 3 Q (84, [(2, .int (nI o)), (0, .ref 0), (1, .int f1)], [], wC ov un (nI 308) (nI L.1) 0 cu st fi se th db cn F, 0) := by
  refine mm_skip (mm_call_mono _ _) 2 (st' := (86, [(2, .int (nI o)), (0, .ref 0), (1, .int f1)], [.int (nI o), .ref 0], wC ov un (nI 308) (nI L.1) 0 cu st fi se th db cn F, 0)) rfl ?_
  refine mm_inv (mm_call_mono _ _) (j := 29) (a := [.ref 0, .int (nI o)]) (M := wC ov un (nI 308) (nI L.1) 0 cu st fi se th db cn F) (u := 0) rfl (by decide) (gd_drawCircle hl ho hp hq hfi hse R A B C D (fun ov1 un1 n1 fa1 hd => ?_))
  show mm_W _ _ _ _ _ _ _ (89, [(2, .int (nI o)), (0, .ref 0), (1, .int f1)], [], wC ov1 un1 (nI n1) (nI L.1) fa1 cu st fi se th db cn F, 0)
  refine mm_skip (mm_call_mono _ _) 1 (st' := (184, [(2, .int (nI o)), (0, .ref 0), (1, .int f1)], [], wC ov1 un1 (nI n1) (nI L.1) fa1 cu st fi se th db cn F, 0)) rfl ?_
  exact hT _ _ _ _  hd

set_option maxRecDepth 100000 in
theorem rdw_3 {d : Nat} {ov un : Nat → Int32}  {cu : mm_cu} {st fi se th db : Nat → Int32} {cn : Int32} {F : mm_M} {o : Nat} {f1 : Int32} {L : lvR} {p q : Nat} {xp yp xq yq : n4} {Q : mm_R → mm_M → Prop} (hl : L.1 ≤ 2) (ho : o < 24) (R : rdA ov un 308 0 L) (hp : p < o) (hq : q < o) (hfi : fi o = nI p) (hse : se o = nI q) (A : kp ov un (8 + 12 * p) xp) (B : kp ov un (12 + 12 * p) yp) (C : kp ov un (8 + 12 * q) xq) (D : kp ov un (12 + 12 * q) yq) (hT : ∀ (ov1 un1 : Nat → Int32) (n1 : Nat) (fa1 : Int32) , drR ov un L.1 o 2 (mMid L xp yp xq yq) ov1 un1 n1 fa1 L → mm_W (mm_call mm_Tb (d + 8)) mp_C_redraw (mm_bt mm_Tb) 0 (some .int) 3 Q (184, [(2, .int (nI o)), (0, .ref 0), (1, .int f1)], [], wC ov1 un1 (nI n1) (nI L.1) fa1 cu st fi se th db cn F, 0)) : mm_W (mm_call mm_Tb (d + 8)) mp_C_redraw (mm_bt mm_Tb) 0 (some .int) 3 Q (92, [(2, .int (nI o)), (0, .ref 0), (1, .int f1)], [], wC ov un (nI 308) (nI L.1) 0 cu st fi se th db cn F, 0) := by
  refine mm_skip (mm_call_mono _ _) 2 (st' := (94, [(2, .int (nI o)), (0, .ref 0), (1, .int f1)], [.int (nI o), .ref 0], wC ov un (nI 308) (nI L.1) 0 cu st fi se th db cn F, 0)) rfl ?_
  refine mm_inv (mm_call_mono _ _) (j := 30) (a := [.ref 0, .int (nI o)]) (M := wC ov un (nI 308) (nI L.1) 0 cu st fi se th db cn F) (u := 0) rfl (by decide) (gd_drawMiddle hl ho hp hq hfi hse R A B C D (fun ov1 un1 n1 fa1 hd => ?_))
  show mm_W _ _ _ _ _ _ _ (97, [(2, .int (nI o)), (0, .ref 0), (1, .int f1)], [], wC ov1 un1 (nI n1) (nI L.1) fa1 cu st fi se th db cn F, 0)
  refine mm_skip (mm_call_mono _ _) 1 (st' := (184, [(2, .int (nI o)), (0, .ref 0), (1, .int f1)], [], wC ov1 un1 (nI n1) (nI L.1) fa1 cu st fi se th db cn F, 0)) rfl ?_
  exact hT _ _ _ _  hd

set_option maxRecDepth 100000 in
theorem rdw_4 {d : Nat} {ov un : Nat → Int32}  {cu : mm_cu} {st fi se th db : Nat → Int32} {cn : Int32} {F : mm_M} {o : Nat} {f1 : Int32} {L : lvR} {p q : Nat} {a1 b1 c1 a2 b2 c2 : n4} {Q : mm_R → mm_M → Prop} (hl : L.1 ≤ 2) (ho : o < 24) (R : rdA ov un 308 0 L) (hp : p < o) (hq : q < o) (hfi : fi o = nI p) (hse : se o = nI q) (A : kp ov un (8 + 12 * p) a1) (B : kp ov un (12 + 12 * p) b1) (C : kp ov un (16 + 12 * p) c1) (D : kp ov un (8 + 12 * q) a2) (G : kp ov un (12 + 12 * q) b2) (H : kp ov un (16 + 12 * q) c2) (hT : ∀ (ov1 un1 : Nat → Int32) (n1 : Nat) (fa1 : Int32) , drR ov un L.1 o 2 (mMeet L a1 b1 c1 a2 b2 c2) ov1 un1 n1 fa1 L → mm_W (mm_call mm_Tb (d + 8)) mp_C_redraw (mm_bt mm_Tb) 0 (some .int) 3 Q (184, [(2, .int (nI o)), (0, .ref 0), (1, .int f1)], [], wC ov1 un1 (nI n1) (nI L.1) fa1 cu st fi se th db cn F, 0)) : mm_W (mm_call mm_Tb (d + 8)) mp_C_redraw (mm_bt mm_Tb) 0 (some .int) 3 Q (100, [(2, .int (nI o)), (0, .ref 0), (1, .int f1)], [], wC ov un (nI 308) (nI L.1) 0 cu st fi se th db cn F, 0) := by
  refine mm_skip (mm_call_mono _ _) 2 (st' := (102, [(2, .int (nI o)), (0, .ref 0), (1, .int f1)], [.int (nI o), .ref 0], wC ov un (nI 308) (nI L.1) 0 cu st fi se th db cn F, 0)) rfl ?_
  refine mm_inv (mm_call_mono _ _) (j := 31) (a := [.ref 0, .int (nI o)]) (M := wC ov un (nI 308) (nI L.1) 0 cu st fi se th db cn F) (u := 0) rfl (by decide) (gd_drawMeet hl ho hp hq hfi hse R A B C D G H (fun ov1 un1 n1 fa1 hd => ?_))
  show mm_W _ _ _ _ _ _ _ (105, [(2, .int (nI o)), (0, .ref 0), (1, .int f1)], [], wC ov1 un1 (nI n1) (nI L.1) fa1 cu st fi se th db cn F, 0)
  refine mm_skip (mm_call_mono _ _) 1 (st' := (184, [(2, .int (nI o)), (0, .ref 0), (1, .int f1)], [], wC ov1 un1 (nI n1) (nI L.1) fa1 cu st fi se th db cn F, 0)) rfl ?_
  exact hT _ _ _ _  hd

theorem gd_drawCut {d : Nat} {ov un : Nat → Int32} {fa : Int32}  {st fi se th db : Nat → Int32} {cn : Int32} {F : mm_M} {c2 : Int32} {ov0 un0 : Nat → Int32} {n w l c o wh ra rb re rm rr : Nat} {va vb x y ve vm vr : n4} {T : Option (o3 × lvR)} {L : lvR} {Q : mm_R → mm_M → Prop} (hl : L.1 ≤ 2) (ho : o < 24) (hc : c < o) (hra : ra + 4 ≤ 8 + 12 * o ∨ 308 ≤ ra) (hrb : rb + 4 ≤ 8 + 12 * o ∨ 308 ≤ rb) (hre : 308 ≤ re) (hrm : 308 ≤ rm) (hrr : 308 ≤ rr) (hth : th o = nI wh) (hwh : wh ≤ 1) (s0 : sto (zd l o) ov0 un0 w ov un n fa) (hw : w ≤ 900) (E0 : fa = 0 → T = mDraw L va vb x y ve vm vr (decide (wh = 0))) (F0 : fa = 1 → T = none) (R : rdA ov un n fa L) (A : isAt ov un n fa 4 (ra) (g4 va)) (B : isAt ov un n fa 4 (rb) (g4 vb)) (C : isAt ov un n fa 4 (8 + 12 * c) (g4 x)) (D : isAt ov un n fa 4 (12 + 12 * c) (g4 y)) (G : isAt ov un n fa 4 (re) (g4 ve)) (H : isAt ov un n fa 4 (rm) (g4 vm)) (I : isAt ov un n fa 4 (rr) (g4 vr)) (hQ : ∀ (ov1 un1 : Nat → Int32) (n1 : Nat) (fa1 : Int32), drR ov0 un0 l o 2 T ov1 un1 n1 fa1 L → Q (.inl none) (wC ov1 un1 (nI n1) (nI L.1) fa1 ((nI ra), (nI rb), c2, (nI (8 + 12 * c)), (nI (12 + 12 * c)), (nI re), (nI rm)) st fi se th db cn F)) : mm_call mm_Tb (d + 7) 35 [.ref 0, .int (nI o), .int (nI rr)] (wC ov un (nI n) (nI L.1) fa ((nI ra), (nI rb), c2, (nI (8 + 12 * c)), (nI (12 + 12 * c)), (nI re), (nI rm)) st fi se th db cn F) Q := by
  rcases (show wh = 0 ∨ wh = 1 by omega) with rfl | rfl
  · exact gd_drawCut_0 hl ho hc hra hrb hre hrm hrr hth s0 hw E0 F0 R A B C D G H I hQ
  · exact gd_drawCut_1 hl ho hc hra hrb hre hrm hrr (by rw [hth]; decide) s0 hw E0 F0 R A B C D G H I hQ
set_option maxRecDepth 100000 in
theorem rdw_5 {d : Nat} {ov un : Nat → Int32}  {cu : mm_cu} {st fi se th db : Nat → Int32} {cn : Int32} {F : mm_M} {o : Nat} {f1 : Int32} {L : lvR} {p q c wh : Nat} {va vb vc x y s : n4} {Q : mm_R → mm_M → Prop} (hl : L.1 ≤ 2) (ho : o < 24) (R : rdA ov un 308 0 L) (hp : p < o) (hq : q < o) (hc : c < o) (hwh : wh ≤ 1) (hfi : fi o = nI p) (hse : se o = nI q) (hth : th o = nI wh) (hfq : fi q = nI c) (A : kp ov un (8 + 12 * p) va) (B : kp ov un (12 + 12 * p) vb) (C : kp ov un (16 + 12 * p) vc) (D : kp ov un (8 + 12 * c) x) (G : kp ov un (12 + 12 * c) y) (H : kp ov un (8 + 12 * q) s) (hT : ∀ (ov1 un1 : Nat → Int32) (n1 : Nat) (fa1 : Int32) (cu1 : mm_cu) (L1 : lvR) , drR ov un L.1 o 2 (mCut L va vb vc x y s (decide (wh = 0))) ov1 un1 n1 fa1 L1 → mm_W (mm_call mm_Tb (d + 8)) mp_C_redraw (mm_bt mm_Tb) 0 (some .int) 3 Q (184, [(2, .int (nI o)), (0, .ref 0), (1, .int f1)], [], wC ov1 un1 (nI n1) (nI L1.1) fa1 cu1 st fi se th db cn F, 0)) : mm_W (mm_call mm_Tb (d + 8)) mp_C_redraw (mm_bt mm_Tb) 0 (some .int) 3 Q (108, [(2, .int (nI o)), (0, .ref 0), (1, .int f1)], [], wC ov un (nI 308) (nI L.1) 0 cu st fi se th db cn F, 0) := by
  have s0 := sto_0 (Z := zd L.1 o) (ov := ov) (un := un)
  have E0 : (0 : Int32) = 0 → mCut L va vb vc x y s (decide (wh = 0)) = mCut L va vb vc x y s (decide (wh = 0)) := fun _ => rfl
  have F0 : (0 : Int32) = 1 → mCut L va vb vc x y s (decide (wh = 0)) = none := fun h => absurd h.symm z10
  have A0 := at_kp (n := 308) (fa := 0) A (by omega) (Nat.le_refl _)
  have B0 := at_kp (n := 308) (fa := 0) B (by omega) (Nat.le_refl _)
  have C0 := at_kp (n := 308) (fa := 0) C (by omega) (Nat.le_refl _)
  have D0 := at_kp (n := 308) (fa := 0) D (by omega) (Nat.le_refl _)
  have G0 := at_kp (n := 308) (fa := 0) G (by omega) (Nat.le_refl _)
  have H0 := at_kp (n := 308) (fa := 0) H (by omega) (Nat.le_refl _)
  refine mm_skip (mm_call_mono _ _) 4 (st' := (114, [(2, .int (nI o)), (0, .ref 0), (1, .int f1)], [.int (nI o), .ref 4, .ref 0], wC ov un (nI 308) (nI L.1) 0 cu st fi se th db cn F, 0)) rfl ?_
  refine mm_need (mm_call_mono _ _) (c := vp_in (nI o) 24) (s' := (115, [(2, .int (nI o)), (0, .ref 0), (1, .int f1)], [.int (fi (Int32.toNatClampNeg (nI o))), .ref 0], wC ov un (nI 308) (nI L.1) 0 cu st fi se th db cn F, 0)) rfl (vp_in_nI (show o < 24 by omega) (by decide)) ?_
  rw [nI_clamp (show o < 2 ^ 31 by omega)]
  show mm_W _ _ _ _ _ _ _ (115, [(2, .int (nI o)), (0, .ref 0), (1, .int f1)], [.int (fi o), .ref 0], wC ov un (nI 308) (nI L.1) 0 cu st fi se th db cn F, 0)
  rw [hfi]
  show mm_W _ _ _ _ _ _ _ (115, [(2, .int (nI o)), (0, .ref 0), (1, .int f1)], [.int (nI p), .ref 0], wC ov un (nI 308) (nI L.1) 0 cu st fi se th db cn F, 0)
  refine mm_inv (mm_call_mono _ _) (j := 32) (a := [.ref 0, .int (nI p)]) (M := wC ov un (nI 308) (nI L.1) 0 cu st fi se th db cn F) (u := 0) rfl (by decide) (gd_takeLine (k := p) ?_)
  show mm_W _ _ _ _ _ _ _ (118, [(2, .int (nI o)), (0, .ref 0), (1, .int f1)], [], wC ov un (nI 308) (nI L.1) 0 ((nI (8 + 12 * p)), (nI (12 + 12 * p)), (nI (16 + 12 * p)), cu.2.2.2.1, cu.2.2.2.2.1, cu.2.2.2.2.2.1, cu.2.2.2.2.2.2) st fi se th db cn F, 0)
  refine mm_skip (mm_call_mono _ _) 8 (st' := (130, [(2, .int (nI o)), (0, .ref 0), (1, .int f1)], [.int (nI o), .ref 5, .ref 0, .ref 1, .int (nI o), .ref 0], wC ov un (nI 308) (nI L.1) 0 ((nI (8 + 12 * p)), (nI (12 + 12 * p)), (nI (16 + 12 * p)), cu.2.2.2.1, cu.2.2.2.2.1, cu.2.2.2.2.2.1, cu.2.2.2.2.2.2) st fi se th db cn F, 0)) rfl ?_
  refine mm_need (mm_call_mono _ _) (c := vp_in (nI o) 24) (s' := (131, [(2, .int (nI o)), (0, .ref 0), (1, .int f1)], [.int (se (Int32.toNatClampNeg (nI o))), .ref 0, .ref 1, .int (nI o), .ref 0], wC ov un (nI 308) (nI L.1) 0 ((nI (8 + 12 * p)), (nI (12 + 12 * p)), (nI (16 + 12 * p)), cu.2.2.2.1, cu.2.2.2.2.1, cu.2.2.2.2.2.1, cu.2.2.2.2.2.2) st fi se th db cn F, 0)) rfl (vp_in_nI (show o < 24 by omega) (by decide)) ?_
  rw [nI_clamp (show o < 2 ^ 31 by omega)]
  show mm_W _ _ _ _ _ _ _ (131, [(2, .int (nI o)), (0, .ref 0), (1, .int f1)], [.int (se o), .ref 0, .ref 1, .int (nI o), .ref 0], wC ov un (nI 308) (nI L.1) 0 ((nI (8 + 12 * p)), (nI (12 + 12 * p)), (nI (16 + 12 * p)), cu.2.2.2.1, cu.2.2.2.2.1, cu.2.2.2.2.2.1, cu.2.2.2.2.2.2) st fi se th db cn F, 0)
  rw [hse]
  show mm_W _ _ _ _ _ _ _ (131, [(2, .int (nI o)), (0, .ref 0), (1, .int f1)], [.int (nI q), .ref 0, .ref 1, .int (nI o), .ref 0], wC ov un (nI 308) (nI L.1) 0 ((nI (8 + 12 * p)), (nI (12 + 12 * p)), (nI (16 + 12 * p)), cu.2.2.2.1, cu.2.2.2.2.1, cu.2.2.2.2.2.1, cu.2.2.2.2.2.2) st fi se th db cn F, 0)
  refine mm_inv (mm_call_mono _ _) (j := 34) (a := [.ref 0, .int (nI q)]) (M := wC ov un (nI 308) (nI L.1) 0 ((nI (8 + 12 * p)), (nI (12 + 12 * p)), (nI (16 + 12 * p)), cu.2.2.2.1, cu.2.2.2.2.1, cu.2.2.2.2.2.1, cu.2.2.2.2.2.2) st fi se th db cn F) (u := 0) rfl (by decide) (gd_measure hl (by omega) hfq (Or.inl rfl) (by omega) R A0 B0 C0 D0 G0 H0 (fun ov2 un2 n2 fa2 re rm rv v1 v2 v3 h1 => ?_))
  show mm_W _ _ _ _ _ _ _ (134, [(2, .int (nI o)), (0, .ref 0), (1, .int f1)], [.int (nI rv), .ref 1, .int (nI o), .ref 0], wC ov2 un2 (nI n2) (nI L.1) fa2 ((nI (8 + 12 * p)), (nI (12 + 12 * p)), (nI (16 + 12 * p)), (nI (8 + 12 * c)), (nI (12 + 12 * c)), (nI re), (nI rm)) st fi se th db cn F, 0)
  have k1 := stl_k h1.1
  have R1 := rd_keep R k1
  have A1 := at_keep A0 k1
  have B1 := at_keep B0 k1
  have D1 := at_keep D0 k1
  have G1 := at_keep G0 k1
  refine mm_inv (mm_call_mono _ _) (j := 136) (a := [.ref 1, .int (nI rv)]) (M := wC ov2 un2 (nI n2) (nI L.1) fa2 ((nI (8 + 12 * p)), (nI (12 + 12 * p)), (nI (16 + 12 * p)), (nI (8 + 12 * c)), (nI (12 + 12 * c)), (nI re), (nI rm)) st fi se th db cn F) (u := 0) rfl (by decide) (gw_takeRoot hl h1.1.2.1 h1.1.1 R1 h1.2.2.2.2.2.1 (fun ov3 un3 n3 fa3 L1 rr V h2 => ?_))
  show mm_W _ _ _ _ _ _ _ (137, [(2, .int (nI o)), (0, .ref 0), (1, .int f1)], [.int (nI rr), .int (nI o), .ref 0], wC ov3 un3 (nI n3) (nI L1.1) fa3 ((nI (8 + 12 * p)), (nI (12 + 12 * p)), (nI (16 + 12 * p)), (nI (8 + 12 * c)), (nI (12 + 12 * c)), (nI re), (nI rm)) st fi se th db cn F, 0)
  obtain ⟨s2, E2, F2⟩ := cut_tk s0 (by omega) E0 F0 h1 h2
  refine mm_inv (mm_call_mono _ _) (j := 35) (a := [.ref 0, .int (nI o), .int (nI rr)]) (M := wC ov3 un3 (nI n3) (nI L1.1) fa3 ((nI (8 + 12 * p)), (nI (12 + 12 * p)), (nI (16 + 12 * p)), (nI (8 + 12 * c)), (nI (12 + 12 * c)), (nI re), (nI rm)) st fi se th db cn F) (u := 0) rfl (by decide) (gd_drawCut h2.2.2.1 ho hc (by omega) (by omega) h1.2.2.2.2.2.2.1 h1.2.2.2.2.2.2.2.1 h2.2.2.2.2.2.2.2.2.2.2 hth hwh s2 (by omega) E2 F2 h2.2.2.2.2.2.2.2.2.1 (at_tk A1 h2 (by omega)) (at_tk B1 h2 (by omega)) (at_tk D1 h2 (by omega)) (at_tk G1 h2 (by omega)) (at_tk h1.2.2.2.1 h2 (by have := h1.2.2.2.2.2.2.1; omega)) (at_tk h1.2.2.2.2.1 h2 (by have := h1.2.2.2.2.2.2.2.1; omega)) h2.2.2.2.2.2.2.2.1 (fun ov4 un4 n4_ fa4 hd => ?_))
  show mm_W _ _ _ _ _ _ _ (140, [(2, .int (nI o)), (0, .ref 0), (1, .int f1)], [], wC ov4 un4 (nI n4_) (nI L1.1) fa4 ((nI (8 + 12 * p)), (nI (12 + 12 * p)), (nI (16 + 12 * p)), (nI (8 + 12 * c)), (nI (12 + 12 * c)), (nI re), (nI rm)) st fi se th db cn F, 0)
  refine mm_skip (mm_call_mono _ _) 1 (st' := (184, [(2, .int (nI o)), (0, .ref 0), (1, .int f1)], [], wC ov4 un4 (nI n4_) (nI L1.1) fa4 ((nI (8 + 12 * p)), (nI (12 + 12 * p)), (nI (16 + 12 * p)), (nI (8 + 12 * c)), (nI (12 + 12 * c)), (nI re), (nI rm)) st fi se th db cn F, 0)) rfl ?_
  exact hT _ _ _ _ _ _ hd

set_option maxRecDepth 100000 in
theorem rdw_6 {d : Nat} {ov un : Nat → Int32}  {cu : mm_cu} {st fi se th db : Nat → Int32} {cn : Int32} {F : mm_M} {o : Nat} {f1 : Int32} {L : lvR} {p q c e wh : Nat} {xp yp sa xq yq sb : n4} {Q : mm_R → mm_M → Prop} (hl : L.1 ≤ 2) (ho : o < 24) (R : rdA ov un 308 0 L) (hp : p < o) (hq : q < o) (hc : c < o) (he : e < o) (hwh : wh ≤ 1) (hfi : fi o = nI p) (hse : se o = nI q) (hth : th o = nI wh) (hfp : fi p = nI c) (hfq : fi q = nI e) (A : kp ov un (8 + 12 * c) xp) (B : kp ov un (12 + 12 * c) yp) (C : kp ov un (8 + 12 * e) xq) (D : kp ov un (12 + 12 * e) yq) (G : kp ov un (8 + 12 * p) sa) (H : kp ov un (8 + 12 * q) sb) (hT : ∀ (ov1 un1 : Nat → Int32) (n1 : Nat) (fa1 : Int32) (cu1 : mm_cu) (L1 : lvR) , drR ov un L.1 o 2 (mCir L xp yp sa xq yq sb (decide (wh = 0))) ov1 un1 n1 fa1 L1 → mm_W (mm_call mm_Tb (d + 8)) mp_C_redraw (mm_bt mm_Tb) 0 (some .int) 3 Q (184, [(2, .int (nI o)), (0, .ref 0), (1, .int f1)], [], wC ov1 un1 (nI n1) (nI L1.1) fa1 cu1 st fi se th db cn F, 0)) : mm_W (mm_call mm_Tb (d + 8)) mp_C_redraw (mm_bt mm_Tb) 0 (some .int) 3 Q (143, [(2, .int (nI o)), (0, .ref 0), (1, .int f1)], [], wC ov un (nI 308) (nI L.1) 0 cu st fi se th db cn F, 0) := by
  have s0 := sto_0 (Z := zd L.1 o) (ov := ov) (un := un)
  have E0 : (0 : Int32) = 0 → mCir L xp yp sa xq yq sb (decide (wh = 0)) = Option.bind (mCom L xp yp sa xq yq sb) (fun t => mCut L t.1 t.2.1 t.2.2 xp yp sa (decide (wh = 0))) := fun _ => rfl
  have F0 : (0 : Int32) = 1 → mCir L xp yp sa xq yq sb (decide (wh = 0)) = none := fun h => absurd h.symm z10
  have A0 := at_kp (n := 308) (fa := 0) A (by omega) (Nat.le_refl _)
  have B0 := at_kp (n := 308) (fa := 0) B (by omega) (Nat.le_refl _)
  have C0 := at_kp (n := 308) (fa := 0) C (by omega) (Nat.le_refl _)
  have D0 := at_kp (n := 308) (fa := 0) D (by omega) (Nat.le_refl _)
  have G0 := at_kp (n := 308) (fa := 0) G (by omega) (Nat.le_refl _)
  have H0 := at_kp (n := 308) (fa := 0) H (by omega) (Nat.le_refl _)
  refine mm_skip (mm_call_mono _ _) 4 (st' := (149, [(2, .int (nI o)), (0, .ref 0), (1, .int f1)], [.int (nI o), .ref 4, .ref 0], wC ov un (nI 308) (nI L.1) 0 cu st fi se th db cn F, 0)) rfl ?_
  refine mm_need (mm_call_mono _ _) (c := vp_in (nI o) 24) (s' := (150, [(2, .int (nI o)), (0, .ref 0), (1, .int f1)], [.int (fi (Int32.toNatClampNeg (nI o))), .ref 0], wC ov un (nI 308) (nI L.1) 0 cu st fi se th db cn F, 0)) rfl (vp_in_nI (show o < 24 by omega) (by decide)) ?_
  rw [nI_clamp (show o < 2 ^ 31 by omega)]
  show mm_W _ _ _ _ _ _ _ (150, [(2, .int (nI o)), (0, .ref 0), (1, .int f1)], [.int (fi o), .ref 0], wC ov un (nI 308) (nI L.1) 0 cu st fi se th db cn F, 0)
  rw [hfi]
  show mm_W _ _ _ _ _ _ _ (150, [(2, .int (nI o)), (0, .ref 0), (1, .int f1)], [.int (nI p), .ref 0], wC ov un (nI 308) (nI L.1) 0 cu st fi se th db cn F, 0)
  refine mm_skip (mm_call_mono _ _) 3 (st' := (155, [(2, .int (nI o)), (0, .ref 0), (1, .int f1)], [.int (nI o), .ref 5, .int (nI p), .ref 0], wC ov un (nI 308) (nI L.1) 0 cu st fi se th db cn F, 0)) rfl ?_
  refine mm_need (mm_call_mono _ _) (c := vp_in (nI o) 24) (s' := (156, [(2, .int (nI o)), (0, .ref 0), (1, .int f1)], [.int (se (Int32.toNatClampNeg (nI o))), .int (nI p), .ref 0], wC ov un (nI 308) (nI L.1) 0 cu st fi se th db cn F, 0)) rfl (vp_in_nI (show o < 24 by omega) (by decide)) ?_
  rw [nI_clamp (show o < 2 ^ 31 by omega)]
  show mm_W _ _ _ _ _ _ _ (156, [(2, .int (nI o)), (0, .ref 0), (1, .int f1)], [.int (se o), .int (nI p), .ref 0], wC ov un (nI 308) (nI L.1) 0 cu st fi se th db cn F, 0)
  rw [hse]
  show mm_W _ _ _ _ _ _ _ (156, [(2, .int (nI o)), (0, .ref 0), (1, .int f1)], [.int (nI q), .int (nI p), .ref 0], wC ov un (nI 308) (nI L.1) 0 cu st fi se th db cn F, 0)
  refine mm_inv (mm_call_mono _ _) (j := 33) (a := [.ref 0, .int (nI p), .int (nI q)]) (M := wC ov un (nI 308) (nI L.1) 0 cu st fi se th db cn F) (u := 0) rfl (by decide) (gd_takeCommon hl (by omega) (by omega) hfp hfq (Or.inl rfl) (by omega) R A0 B0 C0 D0 G0 H0 (fun ov1 un1 n1 fa1 ra rb rc w1 w2 w3 h0 => ?_))
  show mm_W _ _ _ _ _ _ _ (159, [(2, .int (nI o)), (0, .ref 0), (1, .int f1)], [], wC ov1 un1 (nI n1) (nI L.1) fa1 ((nI ra), (nI rb), (nI rc), cu.2.2.2.1, cu.2.2.2.2.1, cu.2.2.2.2.2.1, cu.2.2.2.2.2.2) st fi se th db cn F, 0)
  have k0 := stl_k h0.1
  have R0 := rd_keep R k0
  have A1 := at_keep A0 k0
  have B1 := at_keep B0 k0
  have G1 := at_keep G0 k0
  have s1 := sto_t s0 h0.1
  have F1 := sto_F s0 F0 E0 h0.2.2.1 (by omega)
  have E1 : fa1 = 0 → mCir L xp yp sa xq yq sb (decide (wh = 0)) = mCut L w1 w2 w3 xp yp sa (decide (wh = 0)) := fun q0 => by
    rw [E0 rfl, h0.2.1 q0]; rfl
  refine mm_skip (mm_call_mono _ _) 8 (st' := (171, [(2, .int (nI o)), (0, .ref 0), (1, .int f1)], [.int (nI o), .ref 4, .ref 0, .ref 1, .int (nI o), .ref 0], wC ov1 un1 (nI n1) (nI L.1) fa1 ((nI ra), (nI rb), (nI rc), cu.2.2.2.1, cu.2.2.2.2.1, cu.2.2.2.2.2.1, cu.2.2.2.2.2.2) st fi se th db cn F, 0)) rfl ?_
  refine mm_need (mm_call_mono _ _) (c := vp_in (nI o) 24) (s' := (172, [(2, .int (nI o)), (0, .ref 0), (1, .int f1)], [.int (fi (Int32.toNatClampNeg (nI o))), .ref 0, .ref 1, .int (nI o), .ref 0], wC ov1 un1 (nI n1) (nI L.1) fa1 ((nI ra), (nI rb), (nI rc), cu.2.2.2.1, cu.2.2.2.2.1, cu.2.2.2.2.2.1, cu.2.2.2.2.2.2) st fi se th db cn F, 0)) rfl (vp_in_nI (show o < 24 by omega) (by decide)) ?_
  rw [nI_clamp (show o < 2 ^ 31 by omega)]
  show mm_W _ _ _ _ _ _ _ (172, [(2, .int (nI o)), (0, .ref 0), (1, .int f1)], [.int (fi o), .ref 0, .ref 1, .int (nI o), .ref 0], wC ov1 un1 (nI n1) (nI L.1) fa1 ((nI ra), (nI rb), (nI rc), cu.2.2.2.1, cu.2.2.2.2.1, cu.2.2.2.2.2.1, cu.2.2.2.2.2.2) st fi se th db cn F, 0)
  rw [hfi]
  show mm_W _ _ _ _ _ _ _ (172, [(2, .int (nI o)), (0, .ref 0), (1, .int f1)], [.int (nI p), .ref 0, .ref 1, .int (nI o), .ref 0], wC ov1 un1 (nI n1) (nI L.1) fa1 ((nI ra), (nI rb), (nI rc), cu.2.2.2.1, cu.2.2.2.2.1, cu.2.2.2.2.2.1, cu.2.2.2.2.2.2) st fi se th db cn F, 0)
  refine mm_inv (mm_call_mono _ _) (j := 34) (a := [.ref 0, .int (nI p)]) (M := wC ov1 un1 (nI n1) (nI L.1) fa1 ((nI ra), (nI rb), (nI rc), cu.2.2.2.1, cu.2.2.2.2.1, cu.2.2.2.2.2.1, cu.2.2.2.2.2.2) st fi se th db cn F) (u := 0) rfl (by decide) (gd_measure hl (by omega) hfp h0.1.2.1 h0.1.1 R0 h0.2.2.2.1 h0.2.2.2.2.1 h0.2.2.2.2.2.1 A1 B1 G1 (fun ov2 un2 n2 fa2 re rm rv v1 v2 v3 h1 => ?_))
  show mm_W _ _ _ _ _ _ _ (175, [(2, .int (nI o)), (0, .ref 0), (1, .int f1)], [.int (nI rv), .ref 1, .int (nI o), .ref 0], wC ov2 un2 (nI n2) (nI L.1) fa2 ((nI ra), (nI rb), (nI rc), (nI (8 + 12 * c)), (nI (12 + 12 * c)), (nI re), (nI rm)) st fi se th db cn F, 0)
  have k1 := stl_k h1.1
  have R1 := rd_keep R0 k1
  have W1 := at_keep h0.2.2.2.1 k1
  have W2 := at_keep h0.2.2.2.2.1 k1
  have A2 := at_keep A1 k1
  have B2 := at_keep B1 k1
  refine mm_inv (mm_call_mono _ _) (j := 136) (a := [.ref 1, .int (nI rv)]) (M := wC ov2 un2 (nI n2) (nI L.1) fa2 ((nI ra), (nI rb), (nI rc), (nI (8 + 12 * c)), (nI (12 + 12 * c)), (nI re), (nI rm)) st fi se th db cn F) (u := 0) rfl (by decide) (gw_takeRoot hl h1.1.2.1 h1.1.1 R1 h1.2.2.2.2.2.1 (fun ov3 un3 n3 fa3 L1 rr V h2 => ?_))
  show mm_W _ _ _ _ _ _ _ (178, [(2, .int (nI o)), (0, .ref 0), (1, .int f1)], [.int (nI rr), .int (nI o), .ref 0], wC ov3 un3 (nI n3) (nI L1.1) fa3 ((nI ra), (nI rb), (nI rc), (nI (8 + 12 * c)), (nI (12 + 12 * c)), (nI re), (nI rm)) st fi se th db cn F, 0)
  obtain ⟨s2, E2, F2⟩ := cut_tk s1 (by omega) E1 F1 h1 h2
  have g1 := h0.2.2.2.2.2.2.1
  have g2 := h0.2.2.2.2.2.2.2.1
  refine mm_inv (mm_call_mono _ _) (j := 35) (a := [.ref 0, .int (nI o), .int (nI rr)]) (M := wC ov3 un3 (nI n3) (nI L1.1) fa3 ((nI ra), (nI rb), (nI rc), (nI (8 + 12 * c)), (nI (12 + 12 * c)), (nI re), (nI rm)) st fi se th db cn F) (u := 0) rfl (by decide) (gd_drawCut h2.2.2.1 ho hc (by omega) (by omega) h1.2.2.2.2.2.2.1 h1.2.2.2.2.2.2.2.1 h2.2.2.2.2.2.2.2.2.2.2 hth hwh s2 (by omega) E2 F2 h2.2.2.2.2.2.2.2.2.1 (at_tk W1 h2 (by omega)) (at_tk W2 h2 (by omega)) (at_tk A2 h2 (by omega)) (at_tk B2 h2 (by omega)) (at_tk h1.2.2.2.1 h2 (by have := h1.2.2.2.2.2.2.1; omega)) (at_tk h1.2.2.2.2.1 h2 (by have := h1.2.2.2.2.2.2.2.1; omega)) h2.2.2.2.2.2.2.2.1 (fun ov4 un4 n4_ fa4 hd => ?_))
  show mm_W _ _ _ _ _ _ _ (181, [(2, .int (nI o)), (0, .ref 0), (1, .int f1)], [], wC ov4 un4 (nI n4_) (nI L1.1) fa4 ((nI ra), (nI rb), (nI rc), (nI (8 + 12 * c)), (nI (12 + 12 * c)), (nI re), (nI rm)) st fi se th db cn F, 0)
  refine mm_skip (mm_call_mono _ _) 1 (st' := (184, [(2, .int (nI o)), (0, .ref 0), (1, .int f1)], [], wC ov4 un4 (nI n4_) (nI L1.1) fa4 ((nI ra), (nI rb), (nI rc), (nI (8 + 12 * c)), (nI (12 + 12 * c)), (nI re), (nI rm)) st fi se th db cn F, 0)) rfl ?_
  exact hT _ _ _ _ _ _ hd

set_option maxRecDepth 100000 in
theorem rdw_tail {d : Nat} {ov un : Nat → Int32} {nx dp fa : Int32} {cu : mm_cu} {st fi se th db : Nat → Int32} {cn : Int32} {F : mm_M} {o : Nat} {f1 : Int32} {Q : mm_R → mm_M → Prop} (ho : o < 24) (hz : mm_z fa) (h0 : fa = 0 → mm_W (mm_call mm_Tb (d + 8)) mp_C_redraw (mm_bt mm_Tb) 0 (some .int) 3 Q (15, [(2, .int (nI (o + 1))), (0, .ref 0), (1, .int f1)], [], wC ov un nx dp fa cu st fi se th (upd db (o + 1) dp) cn F, 0)) (h1 : fa = 1 → Q (.inl (some (.int (nI o)))) (wC ov un nx dp fa cu st fi se th db cn F)) : mm_W (mm_call mm_Tb (d + 8)) mp_C_redraw (mm_bt mm_Tb) 0 (some .int) 3 Q (184, [(2, .int (nI o)), (0, .ref 0), (1, .int f1)], [], wC ov un nx dp fa cu st fi se th db cn F, 0) := by
  refine mm_skip (mm_call_mono _ _) 3 (st' := (191, [(2, .int (nI o)), (0, .ref 0), (1, .int f1)], [.int fa], wC ov un nx dp fa cu st fi se th db cn F, 0)) rfl ?_
  refine mm_branch (mm_call_mono _ _) (c := fa = 0) (s1 := (196, [(2, .int (nI o)), (0, .ref 0), (1, .int f1)], [], wC ov un nx dp fa cu st fi se th db cn F, 0)) (s2 := (194, [(2, .int (nI o)), (0, .ref 0), (1, .int f1)], [], wC ov un nx dp fa cu st fi se th db cn F, 0)) rfl (fun z => ?_) (fun z => ?_)
  · skip
    refine mm_skip (mm_call_mono _ _) 8 (st' := (210, [(2, .int (nI o)), (0, .ref 0), (1, .int f1)], [.int dp, .int ((nI o) + 1), .ref 7], wC ov un nx dp fa cu st fi se th db cn F, 0)) rfl ?_
    rw [nI_p1 (o)]
    show mm_W _ _ _ _ _ _ _ (210, [(2, .int (nI o)), (0, .ref 0), (1, .int f1)], [.int dp, .int (nI (o + 1)), .ref 7], wC ov un nx dp fa cu st fi se th db cn F, 0)
    refine mm_need (mm_call_mono _ _) (c := vp_in (nI (o + 1)) 25) (s' := (211, [(2, .int (nI o)), (0, .ref 0), (1, .int f1)], [], wC ov un nx dp fa cu st fi se th (upd db (Int32.toNatClampNeg (nI (o + 1))) dp) cn F, 0)) rfl (vp_in_nI (show (o + 1) < 25 by omega) (by decide)) ?_
    rw [nI_clamp (show (o + 1) < 2 ^ 31 by omega)]
    show mm_W _ _ _ _ _ _ _ (211, [(2, .int (nI o)), (0, .ref 0), (1, .int f1)], [], wC ov un nx dp fa cu st fi se th (upd db (o + 1) dp) cn F, 0)
    refine mm_skip (mm_call_mono _ _) 2 (st' := (15, [(2, .int ((nI o) + 1)), (0, .ref 0), (1, .int f1)], [], wC ov un nx dp fa cu st fi se th (upd db (o + 1) dp) cn F, 0)) rfl ?_
    rw [nI_p1 (o)]
    show mm_W _ _ _ _ _ _ _ (15, [(2, .int (nI (o + 1))), (0, .ref 0), (1, .int f1)], [], wC ov un nx dp fa cu st fi se th (upd db (o + 1) dp) cn F, 0)
    exact h0 z
  · skip
    refine mm_skip (mm_call_mono _ _) 1 (st' := (195, [(2, .int (nI o)), (0, .ref 0), (1, .int f1)], [.int (nI o)], wC ov un nx dp fa cu st fi se th db cn F, 0)) rfl ?_
    exact mm_ret (mm_call_mono _ _) (c := True) (r := .inl (some (.int (nI o)))) (M := wC ov un nx dp fa cu st fi se th db cn F) (u := 0) rfl trivial (by decide) (h1 (mm_z1 hz z))

set_option maxRecDepth 100000 in
theorem rdw_loop {d : Nat} {st fi se th : Nat → Int32} {F : mm_M} {f1 : Int32} {S : Nat → stp} {k l f : Nat} {ov0 un0 db0 : Nat → Int32} {Q : mm_R → mm_M → Prop} (hk : k ≤ 24) (hS : ∀ i, i < k → stM st fi se th S i) (hw : ∀ i, i < k → wf S i) (hQ : ∀ (ov1 un1 : Nat → Int32) (nx1 dp1 fa1 : Int32) (cu1 : mm_cu) (db1 : Nat → Int32) (r : Int32), rdF S k l f ov0 un0 db0 ov1 un1 db1 dp1 r → Q (.inl (some (.int r))) (wC ov1 un1 nx1 dp1 fa1 cu1 st fi se th db1 (nI k) F)) : ∀ (m o : Nat) (ov un : Nat → Int32) (nx fa : Int32) (cu : mm_cu) (db : Nat → Int32) (v : Nat → o3) (L : lvR), o + m = k → f ≤ o → rdI S k l f ov0 un0 db0 ov un db o v L → mm_W (mm_call mm_Tb (d + 8)) mp_C_redraw (mm_bt mm_Tb) 0 (some .int) 3 Q (15, [(2, .int (nI o)), (0, .ref 0), (1, .int f1)], [], wC ov un nx (nI L.1) fa cu st fi se th db (nI k) F, 0)
  | 0, o, ov, un, nx, fa, cu, db, v, L, hm, hf, hI => by
    refine mm_skip (mm_call_mono _ _) 3 (st' := (20, [(2, .int (nI o)), (0, .ref 0), (1, .int f1)], [.int (nI k), .int (nI o)], wC ov un nx (nI L.1) fa cu st fi se th db (nI k) F, 0)) rfl ?_
    refine mm_branch (mm_call_mono _ _) (c := (nI k) ≤ (nI o)) (s1 := (217, [(2, .int (nI o)), (0, .ref 0), (1, .int f1)], [], wC ov un nx (nI L.1) fa cu st fi se th db (nI k) F, 0)) (s2 := (23, [(2, .int (nI o)), (0, .ref 0), (1, .int f1)], [], wC ov un nx (nI L.1) fa cu st fi se th db (nI k) F, 0)) rfl (fun _ => ?_) (fun h => absurd (nI_le (show k ≤ o by omega) (by omega)) h)
    refine mm_skip (mm_call_mono _ _) 1 (st' := (218, [(2, .int (nI o)), (0, .ref 0), (1, .int f1)], [.int (-1)], wC ov un nx (nI L.1) fa cu st fi se th db (nI k) F, 0)) rfl ?_
    exact mm_ret (mm_call_mono _ _) (c := True) (r := .inl (some (.int (-1)))) (M := wC ov un nx (nI L.1) fa cu st fi se th db (nI k) F) (u := 0) rfl trivial (by decide) (hQ _ _ _ _ _ _ _ _ ⟨o, v, L, hf, by omega, hI, Or.inl ⟨by omega, rfl, rfl⟩⟩)

  | m + 1, o, ov, un, nx, fa, cu, db, v, L, hm, hf, hI => by
    have ho : o < k := by omega
    have hwo := hw o ho
    obtain ⟨e1, e2, e3, e4⟩ := hS o ho
    have hl := hI.2.1
    have hR := hI.2.2.2.1
    have hH := hI.2.2.2.2.1
    refine mm_skip (mm_call_mono _ _) 3 (st' := (20, [(2, .int (nI o)), (0, .ref 0), (1, .int f1)], [.int (nI k), .int (nI o)], wC ov un nx (nI L.1) fa cu st fi se th db (nI k) F, 0)) rfl ?_
    refine mm_branch (mm_call_mono _ _) (c := (nI k) ≤ (nI o)) (s1 := (217, [(2, .int (nI o)), (0, .ref 0), (1, .int f1)], [], wC ov un nx (nI L.1) fa cu st fi se th db (nI k) F, 0)) (s2 := (23, [(2, .int (nI o)), (0, .ref 0), (1, .int f1)], [], wC ov un nx (nI L.1) fa cu st fi se th db (nI k) F, 0)) rfl (fun h => absurd h (nI_ge (show o < k by omega) (by omega))) (fun _ => ?_)
    refine mm_skip (mm_call_mono _ _) 2 (st' := (27, [(2, .int (nI o)), (0, .ref 0), (1, .int f1)], [.ref 1], wC ov un nx (nI L.1) fa cu st fi se th db (nI k) F, 0)) rfl ?_
    refine mm_inv (mm_call_mono _ _) (j := 122) (a := [.ref 1]) (M := wC ov un nx (nI L.1) fa cu st fi se th db (nI k) F) (u := 0) rfl (by decide) (ct_N_begin ?_)
    show mm_W _ _ _ _ _ _ _ (30, [(2, .int (nI o)), (0, .ref 0), (1, .int f1)], [], wC ov un (nI 308) (nI L.1) 0 cu st fi se th db (nI k) F, 0)
    refine mm_skip (mm_call_mono _ _) 3 (st' := (35, [(2, .int (nI o)), (0, .ref 0), (1, .int f1)], [.int (nI o), .ref 3], wC ov un (nI 308) (nI L.1) 0 cu st fi se th db (nI k) F, 0)) rfl ?_
    refine mm_need (mm_call_mono _ _) (c := vp_in (nI o) 24) (s' := (36, [(2, .int (nI o)), (0, .ref 0), (1, .int f1)], [.int (st (Int32.toNatClampNeg (nI o)))], wC ov un (nI 308) (nI L.1) 0 cu st fi se th db (nI k) F, 0)) rfl (vp_in_nI (show o < 24 by omega) (by decide)) ?_
    rw [nI_clamp (show o < 2 ^ 31 by omega)]
    show mm_W _ _ _ _ _ _ _ (36, [(2, .int (nI o)), (0, .ref 0), (1, .int f1)], [.int (st o)], wC ov un (nI 308) (nI L.1) 0 cu st fi se th db (nI k) F, 0)
    refine mm_switch (mm_call_mono _ _) (w := [(Int32.toInt (st o) = 1, (76, [(2, .int (nI o)), (0, .ref 0), (1, .int f1)], [], wC ov un (nI 308) (nI L.1) 0 cu st fi se th db (nI k) F, 0)), (Int32.toInt (st o) = 2, (84, [(2, .int (nI o)), (0, .ref 0), (1, .int f1)], [], wC ov un (nI 308) (nI L.1) 0 cu st fi se th db (nI k) F, 0)), (Int32.toInt (st o) = 3, (92, [(2, .int (nI o)), (0, .ref 0), (1, .int f1)], [], wC ov un (nI 308) (nI L.1) 0 cu st fi se th db (nI k) F, 0)), (Int32.toInt (st o) = 4, (100, [(2, .int (nI o)), (0, .ref 0), (1, .int f1)], [], wC ov un (nI 308) (nI L.1) 0 cu st fi se th db (nI k) F, 0)), (Int32.toInt (st o) = 5, (108, [(2, .int (nI o)), (0, .ref 0), (1, .int f1)], [], wC ov un (nI 308) (nI L.1) 0 cu st fi se th db (nI k) F, 0)), (Int32.toInt (st o) = 6, (143, [(2, .int (nI o)), (0, .ref 0), (1, .int f1)], [], wC ov un (nI 308) (nI L.1) 0 cu st fi se th db (nI k) F, 0)), ((Int32.toInt (st o) < 1 ∨ 6 < Int32.toInt (st o)), (184, [(2, .int (nI o)), (0, .ref 0), (1, .int f1)], [], wC ov un (nI 308) (nI L.1) 0 cu st fi se th db (nI k) F, 0))]) rfl ⟨fun hs => ?_, fun hs => ?_, fun hs => ?_, fun hs => ?_, fun hs => ?_, fun hs => ?_, fun hs => ?_, trivial⟩
    · skip
      have hc : (S o).1 = 1 := by have := code_of e1 hwo.1 (show Int32.toInt (st o) = 1 from hs); omega
      have hm : mk (S o) v L = mLine L (v (S o).2.1).1 (v (S o).2.1).2.1 (v (S o).2.2.1).1 (v (S o).2.2.1).2.1 := by unfold mk; rw [hc]; rfl
      obtain ⟨g1, g2, g3, g4⟩ := hwo.2.2.1 (Or.inl hc)
      have k1 := hold_pt g3 (hH _ g1)
      have k2 := hold_pt g4 (hH _ g2)
      refine rdw_1 hl (by omega) hR g1 g2 e2 e3 k1.1 k1.2 k2.1 k2.2 (fun ov1 un1 n1 fa1 hd => ?_)
      rw [← hm] at hd
      obtain ⟨q0, q1⟩ := rd_step hk ho hf hI hd (by rw [hc]; decide) (by rw [hc]; decide)
      exact rdw_tail (by omega) hd.2.1 (fun z => by obtain ⟨v1, hv⟩ := q0 z; exact rdw_loop hk hS hw hQ m _ _ _ _ _ _ _ v1 _ (by omega) (by omega) hv) (fun z => hQ _ _ _ _ _ _ _ _ ⟨o, v, L, hf, by omega, (q1 z).1, Or.inr ⟨ho, rfl, (q1 z).2⟩⟩)
    · skip
      have hc : (S o).1 = 2 := by have := code_of e1 hwo.1 (show Int32.toInt (st o) = 2 from hs); omega
      have hm : mk (S o) v L = mCirc L (v (S o).2.2.1).1 (v (S o).2.2.1).2.1 (v (S o).2.2.2.1).1 (v (S o).2.2.2.1).2.1 := by unfold mk; rw [hc]; rfl
      obtain ⟨g1, g2, g3, g4, g5, g6⟩ := hwo.2.2.2.1 hc
      have k1 := hold_pt g5 (hH _ g2)
      have k2 := hold_pt g6 (hH _ g3)
      refine rdw_2 hl (by omega) hR g2 g3 e3 e4 k1.1 k1.2 k2.1 k2.2 (fun ov1 un1 n1 fa1 hd => ?_)
      rw [← hm] at hd
      obtain ⟨q0, q1⟩ := rd_step hk ho hf hI hd (by rw [hc]; decide) (by rw [hc]; decide)
      exact rdw_tail (by omega) hd.2.1 (fun z => by obtain ⟨v1, hv⟩ := q0 z; exact rdw_loop hk hS hw hQ m _ _ _ _ _ _ _ v1 _ (by omega) (by omega) hv) (fun z => hQ _ _ _ _ _ _ _ _ ⟨o, v, L, hf, by omega, (q1 z).1, Or.inr ⟨ho, rfl, (q1 z).2⟩⟩)
    · skip
      have hc : (S o).1 = 3 := by have := code_of e1 hwo.1 (show Int32.toInt (st o) = 3 from hs); omega
      have hm : mk (S o) v L = mMid L (v (S o).2.1).1 (v (S o).2.1).2.1 (v (S o).2.2.1).1 (v (S o).2.2.1).2.1 := by unfold mk; rw [hc]; rfl
      obtain ⟨g1, g2, g3, g4⟩ := hwo.2.2.1 (Or.inr hc)
      have k1 := hold_pt g3 (hH _ g1)
      have k2 := hold_pt g4 (hH _ g2)
      refine rdw_3 hl (by omega) hR g1 g2 e2 e3 k1.1 k1.2 k2.1 k2.2 (fun ov1 un1 n1 fa1 hd => ?_)
      rw [← hm] at hd
      obtain ⟨q0, q1⟩ := rd_step hk ho hf hI hd (by rw [hc]; decide) (by rw [hc]; decide)
      exact rdw_tail (by omega) hd.2.1 (fun z => by obtain ⟨v1, hv⟩ := q0 z; exact rdw_loop hk hS hw hQ m _ _ _ _ _ _ _ v1 _ (by omega) (by omega) hv) (fun z => hQ _ _ _ _ _ _ _ _ ⟨o, v, L, hf, by omega, (q1 z).1, Or.inr ⟨ho, rfl, (q1 z).2⟩⟩)
    · skip
      have hc : (S o).1 = 4 := by have := code_of e1 hwo.1 (show Int32.toInt (st o) = 4 from hs); omega
      have hm : mk (S o) v L = mMeet L (v (S o).2.1).1 (v (S o).2.1).2.1 (v (S o).2.1).2.2 (v (S o).2.2.1).1 (v (S o).2.2.1).2.1 (v (S o).2.2.1).2.2 := by unfold mk; rw [hc]; rfl
      obtain ⟨g1, g2, g3, g4⟩ := hwo.2.2.2.2.1 hc
      have k1 := hold_ln g3 (hH _ g1)
      have k2 := hold_ln g4 (hH _ g2)
      refine rdw_4 hl (by omega) hR g1 g2 e2 e3 k1.1 k1.2.1 k1.2.2 k2.1 k2.2.1 k2.2.2 (fun ov1 un1 n1 fa1 hd => ?_)
      rw [← hm] at hd
      obtain ⟨q0, q1⟩ := rd_step hk ho hf hI hd (by rw [hc]; decide) (by rw [hc]; decide)
      exact rdw_tail (by omega) hd.2.1 (fun z => by obtain ⟨v1, hv⟩ := q0 z; exact rdw_loop hk hS hw hQ m _ _ _ _ _ _ _ v1 _ (by omega) (by omega) hv) (fun z => hQ _ _ _ _ _ _ _ _ ⟨o, v, L, hf, by omega, (q1 z).1, Or.inr ⟨ho, rfl, (q1 z).2⟩⟩)
    · skip
      have hc : (S o).1 = 5 := by have := code_of e1 hwo.1 (show Int32.toInt (st o) = 5 from hs); omega
      have hm : mk (S o) v L = mCut L (v (S o).2.1).1 (v (S o).2.1).2.1 (v (S o).2.1).2.2 (v (S o).2.2.2.2.1).1 (v (S o).2.2.2.2.1).2.1 (v (S o).2.2.1).1 (decide ((S o).2.2.2.1 = 0)) := by unfold mk; rw [hc]; rfl
      obtain ⟨g1, g2, g3, g4, g5, g6, g7, g8⟩ := hwo.2.2.2.2.2.1 hc
      have k1 := hold_ln g3 (hH _ g1)
      have k2 := (hH _ g2).1
      have k3 := hold_pt g7 (hH _ g6)
      refine rdw_5 hl (by omega) hR g1 g2 g6 g8 e2 e3 e4 (by rw [g5]; exact (hS _ (by omega)).2.1) k1.1 k1.2.1 k1.2.2 k3.1 k3.2 k2 (fun ov1 un1 n1 fa1 cu1 L1 hd => ?_)
      rw [← hm] at hd
      obtain ⟨q0, q1⟩ := rd_step hk ho hf hI hd (by rw [hc]; decide) (by rw [hc]; decide)
      exact rdw_tail (by omega) hd.2.1 (fun z => by obtain ⟨v1, hv⟩ := q0 z; exact rdw_loop hk hS hw hQ m _ _ _ _ _ _ _ v1 _ (by omega) (by omega) hv) (fun z => hQ _ _ _ _ _ _ _ _ ⟨o, v, L, hf, by omega, (q1 z).1, Or.inr ⟨ho, rfl, (q1 z).2⟩⟩)
    · skip
      have hc : (S o).1 = 6 := by have := code_of e1 hwo.1 (show Int32.toInt (st o) = 6 from hs); omega
      have hm : mk (S o) v L = mCir L (v (S o).2.2.2.2.1).1 (v (S o).2.2.2.2.1).2.1 (v (S o).2.1).1 (v (S o).2.2.2.2.2.1).1 (v (S o).2.2.2.2.2.1).2.1 (v (S o).2.2.1).1 (decide ((S o).2.2.2.1 = 0)) := by unfold mk; rw [hc]; rfl
      obtain ⟨g1, g2, g3, g4, g5, g6, g7, g8, g9, g10, g11⟩ := hwo.2.2.2.2.2.2 hc
      have k1 := (hH _ g1).1
      have k2 := (hH _ g2).1
      have k3 := hold_pt g9 (hH _ g7)
      have k4 := hold_pt g10 (hH _ g8)
      refine rdw_6 hl (by omega) hR g1 g2 g7 g8 g11 e2 e3 e4 (by rw [g5]; exact (hS _ (by omega)).2.1) (by rw [g6]; exact (hS _ (by omega)).2.1) k3.1 k3.2 k4.1 k4.2 k1 k2 (fun ov1 un1 n1 fa1 cu1 L1 hd => ?_)
      rw [← hm] at hd
      obtain ⟨q0, q1⟩ := rd_step hk ho hf hI hd (by rw [hc]; decide) (by rw [hc]; decide)
      exact rdw_tail (by omega) hd.2.1 (fun z => by obtain ⟨v1, hv⟩ := q0 z; exact rdw_loop hk hS hw hQ m _ _ _ _ _ _ _ v1 _ (by omega) (by omega) hv) (fun z => hQ _ _ _ _ _ _ _ _ ⟨o, v, L, hf, by omega, (q1 z).1, Or.inr ⟨ho, rfl, (q1 z).2⟩⟩)
    · skip
      have hc := code_D e1 hwo.1 hs
      exact rdw_tail (by omega) (Or.inl rfl) (fun z => by obtain ⟨v1, hv⟩ := rd_free ho hf hI hc; exact rdw_loop hk hS hw hQ m _ _ _ _ _ _ _ v1 _ (by omega) (by omega) hv) (fun z => absurd z.symm z10)

set_option maxRecDepth 100000 in
theorem gd_redraw {d : Nat} {ov0 un0 db0 : Nat → Int32} {nx dp fa : Int32} {cu : mm_cu} {st fi se th : Nat → Int32} {F : mm_M} {S : Nat → stp} {k f : Nat} {v : Nat → o3} {L : lvR} {Q : mm_R → mm_M → Prop} (hk : k ≤ 24) (hf : f ≤ k) (hS : ∀ i, i < k → stM st fi se th S i) (hw : ∀ i, i < k → wf S i) (hI : rdI S k L.1 f ov0 un0 db0 ov0 un0 db0 f v L) (hQ : ∀ (ov1 un1 : Nat → Int32) (nx1 dp1 fa1 : Int32) (cu1 : mm_cu) (db1 : Nat → Int32) (r : Int32), rdF S k L.1 f ov0 un0 db0 ov1 un1 db1 dp1 r → Q (.inl (some (.int r))) (wC ov1 un1 nx1 dp1 fa1 cu1 st fi se th db1 (nI k) F)) : mm_call mm_Tb (d + 9) 27 [.ref 0, .int (nI f)] (wC ov0 un0 nx dp fa cu st fi se th db0 (nI k) F) Q := by
  refine mm_in mt_27 (Nat.le_of_ble_eq_true rfl) ?_
  show mm_W _ _ _ _ _ _ _ (0, [(0, .ref 0), (1, .int (nI f))], [], wC ov0 un0 nx dp fa cu st fi se th db0 (nI k) F, 0)
  refine mm_skip (mm_call_mono _ _) 5 (st' := (9, [(0, .ref 0), (1, .int (nI f))], [.int (nI f), .ref 7, .ref 1], wC ov0 un0 nx dp fa cu st fi se th db0 (nI k) F, 0)) rfl ?_
  refine mm_need (mm_call_mono _ _) (c := vp_in (nI f) 25) (s' := (10, [(0, .ref 0), (1, .int (nI f))], [.int (db0 (Int32.toNatClampNeg (nI f))), .ref 1], wC ov0 un0 nx dp fa cu st fi se th db0 (nI k) F, 0)) rfl (vp_in_nI (show f < 25 by omega) (by decide)) ?_
  rw [nI_clamp (show f < 2 ^ 31 by omega)]
  show mm_W _ _ _ _ _ _ _ (10, [(0, .ref 0), (1, .int (nI f))], [.int (db0 f), .ref 1], wC ov0 un0 nx dp fa cu st fi se th db0 (nI k) F, 0)
  rw [(show db0 f = nI L.1 from (hI.2.2.2.2.2.2.1 f (Nat.le_refl _) (Nat.le_refl _)).trans (by rw [lvl_s hI.1]))]
  show mm_W _ _ _ _ _ _ _ (10, [(0, .ref 0), (1, .int (nI f))], [.int (nI L.1), .ref 1], wC ov0 un0 nx dp fa cu st fi se th db0 (nI k) F, 0)
  refine mm_skip (mm_call_mono _ _) 3 (st' := (15, [(2, .int (nI f)), (0, .ref 0), (1, .int (nI f))], [], wC ov0 un0 nx (nI L.1) fa cu st fi se th db0 (nI k) F, 0)) rfl ?_
  exact rdw_loop hk hS hw hQ (k - f) f _ _ _ _ _ _ v L (by omega) (Nat.le_refl _) hI

