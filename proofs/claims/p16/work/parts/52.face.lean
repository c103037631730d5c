def kdn (c : Nat) : Int32 := if c = 1 then 1 else if c = 2 then 2 else 0
/-- the kind of object x -/
def ckd (S : Nat → stp) (k : Nat) (x : Int32) : Int32 := if x < 0 ∨ nI k ≤ x then -1 else kdn (S x.toNatClampNeg).1
theorem ckd_out {S : Nat → stp} {k : Nat} {x : Int32} (h : x < 0 ∨ nI k ≤ x) : ckd S k x = -1 := if_pos h
theorem ckd_in {S : Nat → stp} {k j : Nat} (hk : k ≤ 24) (hj : j < k) : ckd S k (nI j) = kdn (S j).1 := by
  unfold ckd
  rw [if_neg (fun h => h.elim (nI_pos (by omega)) (nI_ge hj (by omega))), nI_clamp (by omega)]
theorem kdn_1 {c : Nat} (hc : c ≤ 6) (h : nI c = 1) : kdn c = 1 := by
  have : c = 1 := (nI_eq (by omega) (by omega)).mp (h.trans (show (1 : Int32) = nI 1 from rfl))
  unfold kdn; rw [if_pos this]
theorem kdn_2 {c : Nat} (hc : c ≤ 6) (h : nI c = 2) : kdn c = 2 := by
  have : c = 2 := (nI_eq (by omega) (by omega)).mp (h.trans (show (2 : Int32) = nI 2 from rfl))
  unfold kdn; rw [if_neg (by omega), if_pos this]
theorem kdn_0 {c : Nat} (h1 : ¬ nI c = 1) (h2 : ¬ nI c = 2) : kdn c = 0 := by
  unfold kdn
  rw [if_neg (fun e => h1 (by rw [e]; rfl)), if_neg (fun e => h2 (by rw [e]; rfl))]
theorem ckd_pt {S : Nat → stp} {k : Nat} {x : Int32} (hk : k ≤ 24) (h : ckd S k x = 0) : ∃ j, j < k ∧ x = nI j ∧ pt S j := by
  rcases pk_ix x (show k < 2 ^ 31 by omega) with hx | hx | ⟨j, hj, rfl⟩
  · rw [ckd_out (Or.inl hx)] at h; exact absurd h (by decide)
  · rw [ckd_out (Or.inr hx)] at h; exact absurd h (by decide)
  · refine ⟨j, hj, rfl, ?_⟩
    rw [ckd_in hk hj] at h
    refine ⟨fun e => ?_, fun e => ?_⟩ <;> (rw [e] at h; exact absurd h (by decide))
theorem ckd_c {S : Nat → stp} {k c : Nat} {x : Int32} (hk : k ≤ 24) (hc : c = 1 ∨ c = 2) (h : ckd S k x = nI c) : ∃ j, j < k ∧ x = nI j ∧ (S j).1 = c := by
  rcases pk_ix x (show k < 2 ^ 31 by omega) with hx | hx | ⟨j, hj, rfl⟩
  · rw [ckd_out (Or.inl hx)] at h; rcases hc with rfl | rfl <;> exact absurd h (by decide)
  · rw [ckd_out (Or.inr hx)] at h; rcases hc with rfl | rfl <;> exact absurd h (by decide)
  · refine ⟨j, hj, rfl, ?_⟩
    rw [ckd_in hk hj] at h
    unfold kdn at h
    by_cases h1 : (S j).1 = 1
    · rw [if_pos h1] at h; rcases hc with rfl | rfl
      · exact h1
      · exact absurd h (by decide)
    · rw [if_neg h1] at h
      by_cases h2 : (S j).1 = 2
      · rw [if_pos h2] at h; rcases hc with rfl | rfl
        · exact absurd h (by decide)
        · exact h2
      · rw [if_neg h2] at h; rcases hc with rfl | rfl <;> exact absurd h (by decide)
theorem in_of {x : Int32} {k : Nat} (hk : k ≤ 24) (h1 : ¬ x < 0) (h2 : x < nI k) : ∃ j, j < k ∧ x = nI j := by
  rcases pk_ix x (show k < 2 ^ 31 by omega) with hx | hx | h
  · exact absurd hx h1
  · exact absurd h2 (Int32.not_lt.mpr hx)
  · exact h
abbrev inp (p q : Int32) : Prop := ¬ p < -10000 ∧ ¬ 10000 < p ∧ ¬ q < 1 ∧ ¬ 10000 < q
/-- the fraction p / q of two inputs -/
def qf (p q : Int32) : fr := (fmk p.toInt q.toInt).getD z0
theorem inp_i {p q : Int32} (h : inp p q) : -10000 ≤ p.toInt ∧ p.toInt ≤ 10000 ∧ 1 ≤ q.toInt ∧ q.toInt ≤ 10000 := by
  obtain ⟨h1, h2, h3, h4⟩ := h
  rw [Int32.lt_iff_toInt_lt] at h1 h2 h3 h4
  rw [show (-10000 : Int32).toInt = -10000 by decide] at h1
  rw [show (10000 : Int32).toInt = 10000 by decide] at h2 h4
  rw [show (1 : Int32).toInt = 1 by decide] at h3
  omega
theorem inp_f {p q : Int32} (h : inp p q) : fmk p.toInt q.toInt = some (qf p q) ∧ fv (qf p q) := by
  obtain ⟨h1, h2, h3, h4⟩ := inp_i h
  have hg := gcd_pos (p := p.toInt) (show 0 < q.toInt by omega)
  have e : fmk p.toInt q.toInt = some (p.toInt / (Int.gcd p.toInt q.toInt : Int), q.toInt / (Int.gcd p.toInt q.toInt : Int)) := by
    unfold fmk
    refine if_pos ?_
    have a1 : (p.toInt / (Int.gcd p.toInt q.toInt : Int)).natAbs ≤ p.toInt.natAbs := Int.natAbs_ediv_le_natAbs _ _
    have a2 : (q.toInt / (Int.gcd p.toInt q.toInt : Int)).natAbs ≤ q.toInt.natAbs := Int.natAbs_ediv_le_natAbs _ _
    unfold ffit
    rw [Bool.and_eq_true, Bool.and_eq_true, decide_eq_true_iff, decide_eq_true_iff, decide_eq_true_iff]
    omega
  have e2 : fmk p.toInt q.toInt = some (qf p q) := by unfold qf; rw [e]; rfl
  exact ⟨e2, fmk_v (by omega) e2⟩
theorem em_v {x : fr} (h : fv x) : v4 (em x) := ⟨h, fv_z0, fv_z0, fv_z0⟩
/-- outcome: 0 and the answer, or which exception -/
abbrev oc : Type := Nat × Int32
def toR (r : oc) : mm_R := match r.1 with
  | 0 => .inl (some (.int r.2))
  | 1 => .inr "java/lang/IllegalArgumentException"
  | 2 => .inr "java/lang/IllegalStateException"
  | _ => .inr "java/lang/UnsupportedOperationException"
abbrev aSt : Type := oc × (Nat → stp) × Nat
def ext (S : Nat → stp) (k : Nat) (s : stp) : Nat → stp := fun i => if i = k then s else S i
theorem ext_k {S : Nat → stp} {k : Nat} {s : stp} : ext S k s k = s := if_pos rfl
theorem ext_n {S : Nat → stp} {k i : Nat} {s : stp} (h : ¬ i = k) : ext S k s i = S i := if_neg h
/-- a step more, if it can be drawn -/
noncomputable def aAdd (S : Nat → stp) (k : Nat) (s : stp) : aSt := if k = 24 then ((2, 0), S, k) else match dr (ext S k s) (k + 1) with
  | none => ((3, 0), S, k)
  | some _ => ((0, nI k), ext S k s, k + 1)
theorem aAdd_24 {S : Nat → stp} {k : Nat} {s : stp} (h : k = 24) : aAdd S k s = ((2, 0), S, k) := if_pos h
theorem aAdd_n {S : Nat → stp} {k : Nat} {s : stp} (h : k < 24) (e : dr (ext S k s) (k + 1) = none) : aAdd S k s = ((3, 0), S, k) := by
  unfold aAdd; rw [if_neg (by omega), e]
theorem aAdd_s {S : Nat → stp} {k : Nat} {s : stp} {p : (Nat → o3) × lvR} (h : k < 24) (e : dr (ext S k s) (k + 1) = some p) : aAdd S k s = ((0, nI k), ext S k s, k + 1) := by
  unfold aAdd; rw [if_neg (by omega), e]
/-- the class's state: the first k objects, of the steps S -/
def cI (S : Nat → stp) (k : Nat) (ov un : Nat → Int32) (dp : Int32) (st fi se th db : Nat → Int32) (cn : Int32) : Prop :=
  k ≤ 24 ∧ cn = nI k ∧ (∀ i, i < k → stM st fi se th S i) ∧ (∀ i, i < k → wf S i) ∧ (∀ i, i ≤ k → db i = nI (lvl S i)) ∧ ∃ (v : Nat → o3) (L : lvR), dr S k = some (v, L) ∧ L.1 ≤ 2 ∧ rdA ov un 308 0 L ∧ (∀ i, i < k → hold (us (S i).1) ov un i (v i)) ∧ dp = nI L.1
theorem wf_c {S S' : Nat → stp} {i : Nat} (h : wf S i) (e : ∀ j, j ≤ i → S' j = S j) : wf S' i := by
  have pe : ∀ j, j < i → pt S j → pt S' j := fun j hj h => by unfold pt; rw [e j (by omega)]; exact h
  obtain ⟨h1, h2, h3, h4, h5, h6, h7⟩ := h
  unfold wf
  rw [e i (Nat.le_refl _)]
  refine ⟨h1, h2, fun q => ?_, fun q => ?_, fun q => ?_, fun q => ?_, fun q => ?_⟩
  · obtain ⟨a1, a2, a3, a4⟩ := h3 q
    exact ⟨a1, a2, pe _ a1 a3, pe _ a2 a4⟩
  · obtain ⟨a1, a2, a3, a4, a5, a6⟩ := h4 q
    exact ⟨a1, a2, a3, pe _ a1 a4, pe _ a2 a5, pe _ a3 a6⟩
  · obtain ⟨a1, a2, a3, a4⟩ := h5 q
    rw [e _ (by omega), e _ (by omega)]
    exact ⟨a1, a2, a3, a4⟩
  · obtain ⟨a1, a2, a3, a4, a5, a6, a7, a8⟩ := h6 q
    rw [e _ (show (S i).2.1 ≤ i by omega), e _ (show (S i).2.2.1 ≤ i by omega)]
    exact ⟨a1, a2, a3, a4, a5, a6, pe _ a6 a7, a8⟩
  · obtain ⟨a1, a2, a3, a4, a5, a6, a7, a8, a9, a10, a11⟩ := h7 q
    rw [e _ (show (S i).2.1 ≤ i by omega), e _ (show (S i).2.2.1 ≤ i by omega)]
    exact ⟨a1, a2, a3, a4, a5, a6, a7, a8, pe _ a7 a9, pe _ a8 a10, a11⟩
theorem lvl_c {S S' : Nat → stp} {i : Nat} (h : ∀ j, j < i → S j = S' j) : lvl S i = lvl S' i := by unfold lvl; rw [dr_congr h]
theorem ext_c {S : Nat → stp} {k i : Nat} {s : stp} (h : i ≤ k) : dr (ext S k s) i = dr S i := dr_congr (fun j hj => ext_n (by omega))
/-- before a new step is drawn -/
theorem ad_pre {S : Nat → stp} {k : Nat} {s : stp} {ov un ov1 un1 st fi se th db : Nat → Int32} {dp cn : Int32} (h : cI S k ov un dp st fi se th db cn) (h24 : k < 24) (hw : wf (ext S k s) k) (hf : ∀ j, j < 308 → (j < 8 + 12 * k ∨ 20 + 12 * k ≤ j) → ov1 j = ov j ∧ un1 j = un j) (h0 : s.1 = 0 → hold 2 ov1 un1 k (em s.2.2.2.2.2.2.1, em s.2.2.2.2.2.2.2, zz)) :
    (∀ i, i < k + 1 → stM (upd st k (nI s.1)) (upd fi k (nI s.2.1)) (upd se k (nI s.2.2.1)) (upd th k (nI s.2.2.2.1)) (ext S k s) i) ∧ (∀ i, i < k + 1 → wf (ext S k s) i) ∧ ∃ (v : Nat → o3) (L : lvR), dp = nI L.1 ∧ rdI (ext S k s) (k + 1) L.1 k ov1 un1 db ov1 un1 db k v L := by
  obtain ⟨a1, a2, a3, a4, a5, v, L, a6, a7, a8, a9, a10⟩ := h
  refine ⟨fun i hi => ?_, fun i hi => ?_, v, L, a10, (ext_c (Nat.le_refl k)).trans a6, a7, Nat.le_refl _, rdA_k a7 a8 (fun j hj => hf j (by omega) (by omega)), fun i hi => ?_, fun i h1 h2 h3 => ?_, fun i h1 h2 => ?_, fun _ _ => rfl, fun _ _ _ _ => ⟨rfl, rfl⟩⟩
  · by_cases e : i = k
    · unfold stM
      rw [e, pk_us, pk_us, pk_us, pk_us, ext_k]
      exact ⟨rfl, rfl, rfl, rfl⟩
    · unfold stM
      rw [pk_un e, pk_un e, pk_un e, pk_un e, ext_n e]
      exact a3 i (by omega)
  · by_cases e : i = k
    · rw [e]; exact hw
    · exact wf_c (a4 i (by omega)) (fun j hj => ext_n (by omega))
  · rw [ext_n (by omega)]
    exact hold_k (a9 i hi) (fun j h1 h2 => hf j (by omega) (by omega))
  · have e : i = k := by omega
    rw [e, ext_k] at h3 ⊢
    exact h0 h3
  · rw [show i = k by omega, lvl_c (S' := S) (fun j hj => ext_n (by omega))]
    exact a5 k (Nat.le_refl _)
theorem ad_post {S : Nat → stp} {k : Nat} {s : stp} {ov un ov1 un1 ov2 un2 st fi se th db db2 : Nat → Int32} {dp dp2 cn r : Int32} {L : lvR} (h : cI S k ov un dp st fi se th db cn) (h24 : k < 24) (hS : ∀ i, i < k + 1 → stM (upd st k (nI s.1)) (upd fi k (nI s.2.1)) (upd se k (nI s.2.2.1)) (upd th k (nI s.2.2.2.1)) (ext S k s) i) (hw : ∀ i, i < k + 1 → wf (ext S k s) i) (hF : rdF (ext S k s) (k + 1) L.1 k ov1 un1 db ov2 un2 db2 dp2 r) :
    (r = -1 → cI (ext S k s) (k + 1) ov2 un2 dp2 (upd st k (nI s.1)) (upd fi k (nI s.2.1)) (upd se k (nI s.2.2.1)) (upd th k (nI s.2.2.2.1)) db2 (nI (k + 1)) ∧ aAdd S k s = ((0, nI k), ext S k s, k + 1)) ∧ (¬ r = -1 → cI S k ov2 un2 (db2 k) (upd st k (nI s.1)) (upd fi k (nI s.2.1)) (upd se k (nI s.2.2.1)) (upd th k (nI s.2.2.2.1)) db2 (nI k) ∧ aAdd S k s = ((3, 0), S, k)) := by
  obtain ⟨a1, a2, a3, a4, a5, v0, L0, a6, a7, a8, a9, a10⟩ := h
  obtain ⟨o, v, L1, f1, f2, ⟨b1, b2, b3, b4, b5, b6, b7, b8, b9⟩, b10⟩ := hF
  have hdb : ∀ i, i ≤ o → db2 i = nI (lvl (ext S k s) i) := fun i hi => by
    by_cases e : k ≤ i
    · exact b7 i e hi
    · rw [b8 i (by omega), a5 i (by omega), lvl_c (S' := S) (fun j hj => ext_n (by omega))]
  refine ⟨fun hr => ?_, fun hr => ?_⟩
  · rcases b10 with ⟨e1, e2, e3⟩ | ⟨e1, e2, e3⟩
    · subst e1
      exact ⟨⟨by omega, rfl, hS, hw, hdb, v, L1, b1, b2, b4, b5, e3⟩, aAdd_s h24 b1⟩
    · exact absurd (e2.symm.trans hr) (nI_m1 (by omega))
  · rcases b10 with ⟨e1, e2, e3⟩ | ⟨e1, e2, e3⟩
    · exact absurd e2 hr
    · have eo : o = k := by omega
      subst eo
      have b1' := (ext_c (Nat.le_refl _)).symm.trans b1
      refine ⟨⟨a1, rfl, fun i hi => ?_, a4, fun i hi => ?_, v, L1, b1', b2, b4, fun i hi => ?_, ?_⟩, aAdd_n h24 e3⟩
      · have := hS i (by omega)
        unfold stM at this ⊢
        rw [ext_n (by omega)] at this
        exact this
      · rw [hdb i hi, lvl_c (S' := S) (fun j hj => ext_n (by omega))]
      · have := b5 i hi
        rw [ext_n (by omega)] at this
        exact this
      · rw [hdb o (Nat.le_refl _), lvl_s b1]
theorem dr_lv {S : Nat → stp} : ∀ {i : Nat} {v : Nat → o3} {L : lvR}, dr S i = some (v, L) → L.1 ≤ 2
  | 0, v, L, h => by cases h; exact (by decide : 0 ≤ 2)
  | i + 1, v, L, h => by
    have h : (dr S i).bind (fun p => (mk (S i) p.1 p.2).bind fun q => some (fun j => if j = i then q.1 else p.1 j, q.2)) = some (v, L) := h
    cases e : dr S i with
    | none => rw [e] at h; cases h
    | some p =>
      rw [e] at h
      have h : ((mk (S i) p.1 p.2).bind fun q => some (fun j => if j = i then q.1 else p.1 j, q.2)) = some (v, L) := h
      cases e2 : mk (S i) p.1 p.2 with
      | none => rw [e2] at h; cases h
      | some q =>
        rw [e2] at h
        cases h
        exact (mk_le (q := q.1) (L1 := q.2) e2 (dr_lv (v := p.1) (L := p.2) e)).2
theorem dr_p {S : Nat → stp} {i : Nat} {v : Nat → o3} {L : lvR} (h : dr S (i + 1) = some (v, L)) : ∃ (v0 : Nat → o3) (L0 : lvR), dr S i = some (v0, L0) ∧ lvle L0 L ∧ L0.1 ≤ 2 ∧ ∀ j, j < i → v j = v0 j := by
  have h : (dr S i).bind (fun p => (mk (S i) p.1 p.2).bind fun q => some (fun j => if j = i then q.1 else p.1 j, q.2)) = some (v, L) := h
  cases e : dr S i with
  | none => rw [e] at h; cases h
  | some p =>
    rw [e] at h
    have h : ((mk (S i) p.1 p.2).bind fun q => some (fun j => if j = i then q.1 else p.1 j, q.2)) = some (v, L) := h
    cases e2 : mk (S i) p.1 p.2 with
    | none => rw [e2] at h; cases h
    | some q =>
      rw [e2] at h
      cases h
      have hl := dr_lv (v := p.1) (L := p.2) e
      exact ⟨p.1, p.2, rfl, (mk_le (q := q.1) (L1 := q.2) e2 hl).1, hl, fun j hj => if_neg (by omega)⟩
theorem cI_un {S : Nat → stp} {k : Nat} {ov un st fi se th db : Nat → Int32} {dp cn : Int32} (h : cI S (k + 1) ov un dp st fi se th db cn) : cI S k ov un (db k) st fi se th db (nI k) := by
  obtain ⟨a1, a2, a3, a4, a5, v, L, a6, a7, a8, a9, a10⟩ := h
  obtain ⟨v0, L0, c1, c2, c3, c4⟩ := dr_p a6
  exact ⟨by omega, rfl, fun i hi => a3 i (by omega), fun i hi => a4 i (by omega), fun i hi => a5 i (by omega), v0, L0, c1, c3, rdA_le a8 c2, fun i hi => by rw [← c4 i hi]; exact a9 i (by omega), by rw [a5 k (by omega), lvl_s c1]⟩
set_option maxRecDepth 100000 in
theorem gd_kind {d : Nat} {ov un : Nat → Int32} {nx dp fa : Int32} {cu : mm_cu} {st fi se th db : Nat → Int32} {F : mm_M} {S : Nat → stp} {k : Nat} {x : Int32} {Q : mm_R → mm_M → Prop} (hk : k ≤ 24) (hS : ∀ i, i < k → stM st fi se th S i) (hw : ∀ i, i < k → wf S i) (hQ : Q (.inl (some (.int (ckd S k x)))) (wC ov un nx dp fa cu st fi se th db (nI k) F)) : mm_call mm_Tb (d + 1) 15 [.ref 0, .int x] (wC ov un nx dp fa cu st fi se th db (nI k) F) Q := by
  refine mm_in mt_15 (Nat.le_of_ble_eq_true rfl) ?_
  show mm_W _ _ _ _ _ _ _ (0, [(0, .ref 0), (1, .int x)], [], wC ov un nx dp fa cu st fi se th db (nI k) F, 0)
  refine mm_skip (mm_call_mono _ _) 1 (st' := (1, [(0, .ref 0), (1, .int x)], [.int x], wC ov un nx dp fa cu st fi se th db (nI k) F, 0)) rfl ?_
  refine mm_branch (mm_call_mono _ _) (c := x < 0) (s1 := (12, [(0, .ref 0), (1, .int x)], [], wC ov un nx dp fa cu st fi se th db (nI k) F, 0)) (s2 := (4, [(0, .ref 0), (1, .int x)], [], wC ov un nx dp fa cu st fi se th db (nI k) F, 0)) rfl (fun z1 => ?_) (fun z1 => ?_)
  · skip
    refine mm_skip (mm_call_mono _ _) 1 (st' := (13, [(0, .ref 0), (1, .int x)], [.int (-1)], wC ov un nx dp fa cu st fi se th db (nI k) F, 0)) rfl ?_
    exact mm_ret (mm_call_mono _ _) (c := True) (r := .inl (some (.int (-1)))) (M := wC ov un nx dp fa cu st fi se th db (nI k) F) (u := 0) rfl trivial (by decide) (by rw [ckd_out (Or.inl z1)] at hQ; exact hQ)
  · skip
    refine mm_skip (mm_call_mono _ _) 3 (st' := (9, [(0, .ref 0), (1, .int x)], [.int (nI k), .int x], wC ov un nx dp fa cu st fi se th db (nI k) F, 0)) rfl ?_
    refine mm_branch (mm_call_mono _ _) (c := x < (nI k)) (s1 := (14, [(0, .ref 0), (1, .int x)], [], wC ov un nx dp fa cu st fi se th db (nI k) F, 0)) (s2 := (12, [(0, .ref 0), (1, .int x)], [], wC ov un nx dp fa cu st fi se th db (nI k) F, 0)) rfl (fun z2 => ?_) (fun z2 => ?_)
    · skip
      obtain ⟨j, hj, rfl⟩ := in_of hk z1 z2
      refine mm_skip (mm_call_mono _ _) 3 (st' := (19, [(0, .ref 0), (1, .int (nI j))], [.int (nI j), .ref 3], wC ov un nx dp fa cu st fi se th db (nI k) F, 0)) rfl ?_
      refine mm_need (mm_call_mono _ _) (c := vp_in (nI j) 24) (s' := (20, [(0, .ref 0), (1, .int (nI j))], [.int (st (Int32.toNatClampNeg (nI j)))], wC ov un nx dp fa cu st fi se th db (nI k) F, 0)) rfl (vp_in_nI (show j < 24 by omega) (by decide)) ?_
      rw [nI_clamp (show j < 2 ^ 31 by omega)]
      show mm_W _ _ _ _ _ _ _ (20, [(0, .ref 0), (1, .int (nI j))], [.int (st j)], wC ov un nx dp fa cu st fi se th db (nI k) F, 0)
      rw [(hS j hj).1]
      show mm_W _ _ _ _ _ _ _ (20, [(0, .ref 0), (1, .int (nI j))], [.int (nI (S j).1)], wC ov un nx dp fa cu st fi se th db (nI k) F, 0)
      refine mm_skip (mm_call_mono _ _) 1 (st' := (21, [(0, .ref 0), (1, .int (nI j))], [.int 1, .int (nI (S j).1)], wC ov un nx dp fa cu st fi se th db (nI k) F, 0)) rfl ?_
      refine mm_branch (mm_call_mono _ _) (c := (nI (S j).1) = 1) (s1 := (24, [(0, .ref 0), (1, .int (nI j))], [], wC ov un nx dp fa cu st fi se th db (nI k) F, 0)) (s2 := (28, [(0, .ref 0), (1, .int (nI j))], [], wC ov un nx dp fa cu st fi se th db (nI k) F, 0)) rfl (fun z3 => ?_) (fun z3 => ?_)
      · skip
        refine mm_skip (mm_call_mono _ _) 2 (st' := (43, [(0, .ref 0), (1, .int (nI j))], [.int 1], wC ov un nx dp fa cu st fi se th db (nI k) F, 0)) rfl ?_
        exact mm_ret (mm_call_mono _ _) (c := True) (r := .inl (some (.int 1))) (M := wC ov un nx dp fa cu st fi se th db (nI k) F) (u := 0) rfl trivial (by decide) (by rw [ckd_in hk hj, kdn_1 (hw j hj).1 z3] at hQ; exact hQ)
      · skip
        refine mm_skip (mm_call_mono _ _) 3 (st' := (33, [(0, .ref 0), (1, .int (nI j))], [.int (nI j), .ref 3], wC ov un nx dp fa cu st fi se th db (nI k) F, 0)) rfl ?_
        refine mm_need (mm_call_mono _ _) (c := vp_in (nI j) 24) (s' := (34, [(0, .ref 0), (1, .int (nI j))], [.int (st (Int32.toNatClampNeg (nI j)))], wC ov un nx dp fa cu st fi se th db (nI k) F, 0)) rfl (vp_in_nI (show j < 24 by omega) (by decide)) ?_
        rw [nI_clamp (show j < 2 ^ 31 by omega)]
        show mm_W _ _ _ _ _ _ _ (34, [(0, .ref 0), (1, .int (nI j))], [.int (st j)], wC ov un nx dp fa cu st fi se th db (nI k) F, 0)
        rw [(hS j hj).1]
        show mm_W _ _ _ _ _ _ _ (34, [(0, .ref 0), (1, .int (nI j))], [.int (nI (S j).1)], wC ov un nx dp fa cu st fi se th db (nI k) F, 0)
        refine mm_skip (mm_call_mono _ _) 1 (st' := (35, [(0, .ref 0), (1, .int (nI j))], [.int 2, .int (nI (S j).1)], wC ov un nx dp fa cu st fi se th db (nI k) F, 0)) rfl ?_
        refine mm_branch (mm_call_mono _ _) (c := (nI (S j).1) = 2) (s1 := (38, [(0, .ref 0), (1, .int (nI j))], [], wC ov un nx dp fa cu st fi se th db (nI k) F, 0)) (s2 := (42, [(0, .ref 0), (1, .int (nI j))], [], wC ov un nx dp fa cu st fi se th db (nI k) F, 0)) rfl (fun z4 => ?_) (fun z4 => ?_)
        · skip
          refine mm_skip (mm_call_mono _ _) 2 (st' := (43, [(0, .ref 0), (1, .int (nI j))], [.int 2], wC ov un nx dp fa cu st fi se th db (nI k) F, 0)) rfl ?_
          exact mm_ret (mm_call_mono _ _) (c := True) (r := .inl (some (.int 2))) (M := wC ov un nx dp fa cu st fi se th db (nI k) F) (u := 0) rfl trivial (by decide) (by rw [ckd_in hk hj, kdn_2 (hw j hj).1 z4] at hQ; exact hQ)
        · skip
          refine mm_skip (mm_call_mono _ _) 1 (st' := (43, [(0, .ref 0), (1, .int (nI j))], [.int 0], wC ov un nx dp fa cu st fi se th db (nI k) F, 0)) rfl ?_
          exact mm_ret (mm_call_mono _ _) (c := True) (r := .inl (some (.int 0))) (M := wC ov un nx dp fa cu st fi se th db (nI k) F) (u := 0) rfl trivial (by decide) (by rw [ckd_in hk hj, kdn_0 z3 z4] at hQ; exact hQ)
    · skip
      refine mm_skip (mm_call_mono _ _) 1 (st' := (13, [(0, .ref 0), (1, .int x)], [.int (-1)], wC ov un nx dp fa cu st fi se th db (nI k) F, 0)) rfl ?_
      exact mm_ret (mm_call_mono _ _) (c := True) (r := .inl (some (.int (-1)))) (M := wC ov un nx dp fa cu st fi se th db (nI k) F) (u := 0) rfl trivial (by decide) (by rw [ckd_out (Or.inr (Int32.not_lt.mp z2))] at hQ; exact hQ)

set_option maxRecDepth 100000 in
theorem gd_isPoint {d : Nat} {ov un : Nat → Int32} {nx dp fa : Int32} {cu : mm_cu} {st fi se th db : Nat → Int32} {F : mm_M} {S : Nat → stp} {k : Nat} {x : Int32} {Q : mm_R → mm_M → Prop} (hk : k ≤ 24) (hS : ∀ i, i < k → stM st fi se th S i) (hw : ∀ i, i < k → wf S i) (hQ : Q (.inl (some (.int (bz (ckd S k x = 0))))) (wC ov un nx dp fa cu st fi se th db (nI k) F)) : mm_call mm_Tb (d + 2) 18 [.ref 0, .int x] (wC ov un nx dp fa cu st fi se th db (nI k) F) Q := by
  refine mm_in mt_18 (Nat.le_of_ble_eq_true rfl) ?_
  show mm_W _ _ _ _ _ _ _ (0, [(0, .ref 0), (1, .int x)], [], wC ov un nx dp fa cu st fi se th db (nI k) F, 0)
  refine mm_skip (mm_call_mono _ _) 2 (st' := (2, [(0, .ref 0), (1, .int x)], [.int x, .ref 0], wC ov un nx dp fa cu st fi se th db (nI k) F, 0)) rfl ?_
  refine mm_inv (mm_call_mono _ _) (j := 15) (a := [.ref 0, .int x]) (M := wC ov un nx dp fa cu st fi se th db (nI k) F) (u := 0) rfl (by decide) (gd_kind hk hS hw ?_)
  show mm_W _ _ _ _ _ _ _ (5, [(0, .ref 0), (1, .int x)], [.int (ckd S k x)], wC ov un nx dp fa cu st fi se th db (nI k) F, 0)
  refine mm_branch (mm_call_mono _ _) (c := (ckd S k x) = 0) (s1 := (8, [(0, .ref 0), (1, .int x)], [], wC ov un nx dp fa cu st fi se th db (nI k) F, 0)) (s2 := (12, [(0, .ref 0), (1, .int x)], [], wC ov un nx dp fa cu st fi se th db (nI k) F, 0)) rfl (fun z1 => ?_) (fun z1 => ?_)
  · skip
    refine mm_skip (mm_call_mono _ _) 2 (st' := (13, [(0, .ref 0), (1, .int x)], [.int 1], wC ov un nx dp fa cu st fi se th db (nI k) F, 0)) rfl ?_
    exact mm_ret (mm_call_mono _ _) (c := mm_z 1) (r := .inl (some (.int 1))) (M := wC ov un nx dp fa cu st fi se th db (nI k) F) (u := 0) rfl (by unfold mm_z; decide) (by decide) (by rw [bz_t z1] at hQ; exact hQ)
  · skip
    refine mm_skip (mm_call_mono _ _) 1 (st' := (13, [(0, .ref 0), (1, .int x)], [.int 0], wC ov un nx dp fa cu st fi se th db (nI k) F, 0)) rfl ?_
    exact mm_ret (mm_call_mono _ _) (c := mm_z 0) (r := .inl (some (.int 0))) (M := wC ov un nx dp fa cu st fi se th db (nI k) F) (u := 0) rfl (by unfold mm_z; decide) (by decide) (by rw [bz_f z1] at hQ; exact hQ)

set_option maxRecDepth 100000 in
theorem gd_isLine {d : Nat} {ov un : Nat → Int32} {nx dp fa : Int32} {cu : mm_cu} {st fi se th db : Nat → Int32} {F : mm_M} {S : Nat → stp} {k : Nat} {x : Int32} {Q : mm_R → mm_M → Prop} (hk : k ≤ 24) (hS : ∀ i, i < k → stM st fi se th S i) (hw : ∀ i, i < k → wf S i) (hQ : Q (.inl (some (.int (bz (ckd S k x = 1))))) (wC ov un nx dp fa cu st fi se th db (nI k) F)) : mm_call mm_Tb (d + 2) 19 [.ref 0, .int x] (wC ov un nx dp fa cu st fi se th db (nI k) F) Q := by
  refine mm_in mt_19 (Nat.le_of_ble_eq_true rfl) ?_
  show mm_W _ _ _ _ _ _ _ (0, [(0, .ref 0), (1, .int x)], [], wC ov un nx dp fa cu st fi se th db (nI k) F, 0)
  refine mm_skip (mm_call_mono _ _) 2 (st' := (2, [(0, .ref 0), (1, .int x)], [.int x, .ref 0], wC ov un nx dp fa cu st fi se th db (nI k) F, 0)) rfl ?_
  refine mm_inv (mm_call_mono _ _) (j := 15) (a := [.ref 0, .int x]) (M := wC ov un nx dp fa cu st fi se th db (nI k) F) (u := 0) rfl (by decide) (gd_kind hk hS hw ?_)
  show mm_W _ _ _ _ _ _ _ (5, [(0, .ref 0), (1, .int x)], [.int (ckd S k x)], wC ov un nx dp fa cu st fi se th db (nI k) F, 0)
  refine mm_skip (mm_call_mono _ _) 1 (st' := (6, [(0, .ref 0), (1, .int x)], [.int 1, .int (ckd S k x)], wC ov un nx dp fa cu st fi se th db (nI k) F, 0)) rfl ?_
  refine mm_branch (mm_call_mono _ _) (c := (ckd S k x) = 1) (s1 := (9, [(0, .ref 0), (1, .int x)], [], wC ov un nx dp fa cu st fi se th db (nI k) F, 0)) (s2 := (13, [(0, .ref 0), (1, .int x)], [], wC ov un nx dp fa cu st fi se th db (nI k) F, 0)) rfl (fun z1 => ?_) (fun z1 => ?_)
  · skip
    refine mm_skip (mm_call_mono _ _) 2 (st' := (14, [(0, .ref 0), (1, .int x)], [.int 1], wC ov un nx dp fa cu st fi se th db (nI k) F, 0)) rfl ?_
    exact mm_ret (mm_call_mono _ _) (c := mm_z 1) (r := .inl (some (.int 1))) (M := wC ov un nx dp fa cu st fi se th db (nI k) F) (u := 0) rfl (by unfold mm_z; decide) (by decide) (by rw [bz_t z1] at hQ; exact hQ)
  · skip
    refine mm_skip (mm_call_mono _ _) 1 (st' := (14, [(0, .ref 0), (1, .int x)], [.int 0], wC ov un nx dp fa cu st fi se th db (nI k) F, 0)) rfl ?_
    exact mm_ret (mm_call_mono _ _) (c := mm_z 0) (r := .inl (some (.int 0))) (M := wC ov un nx dp fa cu st fi se th db (nI k) F) (u := 0) rfl (by unfold mm_z; decide) (by decide) (by rw [bz_f z1] at hQ; exact hQ)

set_option maxRecDepth 100000 in
theorem gd_isCircle {d : Nat} {ov un : Nat → Int32} {nx dp fa : Int32} {cu : mm_cu} {st fi se th db : Nat → Int32} {F : mm_M} {S : Nat → stp} {k : Nat} {x : Int32} {Q : mm_R → mm_M → Prop} (hk : k ≤ 24) (hS : ∀ i, i < k → stM st fi se th S i) (hw : ∀ i, i < k → wf S i) (hQ : Q (.inl (some (.int (bz (ckd S k x = 2))))) (wC ov un nx dp fa cu st fi se th db (nI k) F)) : mm_call mm_Tb (d + 2) 20 [.ref 0, .int x] (wC ov un nx dp fa cu st fi se th db (nI k) F) Q := by
  refine mm_in mt_20 (Nat.le_of_ble_eq_true rfl) ?_
  show mm_W _ _ _ _ _ _ _ (0, [(0, .ref 0), (1, .int x)], [], wC ov un nx dp fa cu st fi se th db (nI k) F, 0)
  refine mm_skip (mm_call_mono _ _) 2 (st' := (2, [(0, .ref 0), (1, .int x)], [.int x, .ref 0], wC ov un nx dp fa cu st fi se th db (nI k) F, 0)) rfl ?_
  refine mm_inv (mm_call_mono _ _) (j := 15) (a := [.ref 0, .int x]) (M := wC ov un nx dp fa cu st fi se th db (nI k) F) (u := 0) rfl (by decide) (gd_kind hk hS hw ?_)
  show mm_W _ _ _ _ _ _ _ (5, [(0, .ref 0), (1, .int x)], [.int (ckd S k x)], wC ov un nx dp fa cu st fi se th db (nI k) F, 0)
  refine mm_skip (mm_call_mono _ _) 1 (st' := (6, [(0, .ref 0), (1, .int x)], [.int 2, .int (ckd S k x)], wC ov un nx dp fa cu st fi se th db (nI k) F, 0)) rfl ?_
  refine mm_branch (mm_call_mono _ _) (c := (ckd S k x) = 2) (s1 := (9, [(0, .ref 0), (1, .int x)], [], wC ov un nx dp fa cu st fi se th db (nI k) F, 0)) (s2 := (13, [(0, .ref 0), (1, .int x)], [], wC ov un nx dp fa cu st fi se th db (nI k) F, 0)) rfl (fun z1 => ?_) (fun z1 => ?_)
  · skip
    refine mm_skip (mm_call_mono _ _) 2 (st' := (14, [(0, .ref 0), (1, .int x)], [.int 1], wC ov un nx dp fa cu st fi se th db (nI k) F, 0)) rfl ?_
    exact mm_ret (mm_call_mono _ _) (c := mm_z 1) (r := .inl (some (.int 1))) (M := wC ov un nx dp fa cu st fi se th db (nI k) F) (u := 0) rfl (by unfold mm_z; decide) (by decide) (by rw [bz_t z1] at hQ; exact hQ)
  · skip
    refine mm_skip (mm_call_mono _ _) 1 (st' := (14, [(0, .ref 0), (1, .int x)], [.int 0], wC ov un nx dp fa cu st fi se th db (nI k) F, 0)) rfl ?_
    exact mm_ret (mm_call_mono _ _) (c := mm_z 0) (r := .inl (some (.int 0))) (M := wC ov un nx dp fa cu st fi se th db (nI k) F) (u := 0) rfl (by unfold mm_z; decide) (by decide) (by rw [bz_f z1] at hQ; exact hQ)

set_option maxRecDepth 100000 in
theorem gd_isCurve {d : Nat} {ov un : Nat → Int32} {nx dp fa : Int32} {cu : mm_cu} {st fi se th db : Nat → Int32} {F : mm_M} {S : Nat → stp} {k : Nat} {x : Int32} {Q : mm_R → mm_M → Prop} (hk : k ≤ 24) (hS : ∀ i, i < k → stM st fi se th S i) (hw : ∀ i, i < k → wf S i) (hQ : Q (.inl (some (.int (bz (ckd S k x = 1 ∨ ckd S k x = 2))))) (wC ov un nx dp fa cu st fi se th db (nI k) F)) : mm_call mm_Tb (d + 3) 21 [.ref 0, .int x] (wC ov un nx dp fa cu st fi se th db (nI k) F) Q := by
  refine mm_in mt_21 (Nat.le_of_ble_eq_true rfl) ?_
  show mm_W _ _ _ _ _ _ _ (0, [(0, .ref 0), (1, .int x)], [], wC ov un nx dp fa cu st fi se th db (nI k) F, 0)
  refine mm_skip (mm_call_mono _ _) 2 (st' := (2, [(0, .ref 0), (1, .int x)], [.int x, .ref 0], wC ov un nx dp fa cu st fi se th db (nI k) F, 0)) rfl ?_
  refine mm_inv (mm_call_mono _ _) (j := 19) (a := [.ref 0, .int x]) (M := wC ov un nx dp fa cu st fi se th db (nI k) F) (u := 0) rfl (by decide) (gd_isLine hk hS hw ?_)
  show mm_W _ _ _ _ _ _ _ (5, [(0, .ref 0), (1, .int x)], [.int (bz (ckd S k x = 1))], wC ov un nx dp fa cu st fi se th db (nI k) F, 0)
  refine mm_branch (mm_call_mono _ _) (c := (bz (ckd S k x = 1)) = 0) (s1 := (8, [(0, .ref 0), (1, .int x)], [], wC ov un nx dp fa cu st fi se th db (nI k) F, 0)) (s2 := (16, [(0, .ref 0), (1, .int x)], [], wC ov un nx dp fa cu st fi se th db (nI k) F, 0)) rfl (fun z1 => ?_) (fun z1 => ?_)
  · skip
    refine mm_skip (mm_call_mono _ _) 2 (st' := (10, [(0, .ref 0), (1, .int x)], [.int x, .ref 0], wC ov un nx dp fa cu st fi se th db (nI k) F, 0)) rfl ?_
    refine mm_inv (mm_call_mono _ _) (j := 20) (a := [.ref 0, .int x]) (M := wC ov un nx dp fa cu st fi se th db (nI k) F) (u := 0) rfl (by decide) (gd_isCircle hk hS hw ?_)
    show mm_W _ _ _ _ _ _ _ (13, [(0, .ref 0), (1, .int x)], [.int (bz (ckd S k x = 2))], wC ov un nx dp fa cu st fi se th db (nI k) F, 0)
    refine mm_branch (mm_call_mono _ _) (c := (bz (ckd S k x = 2)) = 0) (s1 := (20, [(0, .ref 0), (1, .int x)], [], wC ov un nx dp fa cu st fi se th db (nI k) F, 0)) (s2 := (16, [(0, .ref 0), (1, .int x)], [], wC ov un nx dp fa cu st fi se th db (nI k) F, 0)) rfl (fun z2 => ?_) (fun z2 => ?_)
    · skip
      refine mm_skip (mm_call_mono _ _) 1 (st' := (21, [(0, .ref 0), (1, .int x)], [.int 0], wC ov un nx dp fa cu st fi se th db (nI k) F, 0)) rfl ?_
      exact mm_ret (mm_call_mono _ _) (c := mm_z 0) (r := .inl (some (.int 0))) (M := wC ov un nx dp fa cu st fi se th db (nI k) F) (u := 0) rfl (by unfold mm_z; decide) (by decide) (by rw [bz_f (fun z => z.elim (bz_0 z1) (bz_0 z2))] at hQ; exact hQ)
    · skip
      refine mm_skip (mm_call_mono _ _) 2 (st' := (21, [(0, .ref 0), (1, .int x)], [.int 1], wC ov un nx dp fa cu st fi se th db (nI k) F, 0)) rfl ?_
      exact mm_ret (mm_call_mono _ _) (c := mm_z 1) (r := .inl (some (.int 1))) (M := wC ov un nx dp fa cu st fi se th db (nI k) F) (u := 0) rfl (by unfold mm_z; decide) (by decide) (by rw [bz_t (Or.inr (bz_1 z2))] at hQ; exact hQ)
  · skip
    refine mm_skip (mm_call_mono _ _) 2 (st' := (21, [(0, .ref 0), (1, .int x)], [.int 1], wC ov un nx dp fa cu st fi se th db (nI k) F, 0)) rfl ?_
    exact mm_ret (mm_call_mono _ _) (c := mm_z 1) (r := .inl (some (.int 1))) (M := wC ov un nx dp fa cu st fi se th db (nI k) F) (u := 0) rfl (by unfold mm_z; decide) (by decide) (by rw [bz_t (Or.inl (bz_1 z1))] at hQ; exact hQ)

set_option maxRecDepth 100000 in
theorem gd_isInput {d : Nat} {ov un : Nat → Int32} {nx dp fa : Int32} {cu : mm_cu} {st fi se th db : Nat → Int32} {cn : Int32} {F : mm_M} {p q : Int32} {Q : mm_R → mm_M → Prop} (hQ : Q (.inl (some (.int (bz (inp p q))))) (wC ov un nx dp fa cu st fi se th db cn F)) : mm_call mm_Tb (d + 1) 23 [.int p, .int q] (wC ov un nx dp fa cu st fi se th db cn F) Q := by
  refine mm_in mt_23 (Nat.le_of_ble_eq_true rfl) ?_
  show mm_W _ _ _ _ _ _ _ (0, [(0, .int p), (1, .int q)], [], wC ov un nx dp fa cu st fi se th db cn F, 0)
  refine mm_skip (mm_call_mono _ _) 2 (st' := (4, [(0, .int p), (1, .int q)], [.int (-10000), .int p], wC ov un nx dp fa cu st fi se th db cn F, 0)) rfl ?_
  refine mm_branch (mm_call_mono _ _) (c := p < (-10000)) (s1 := (30, [(0, .int p), (1, .int q)], [], wC ov un nx dp fa cu st fi se th db cn F, 0)) (s2 := (7, [(0, .int p), (1, .int q)], [], wC ov un nx dp fa cu st fi se th db cn F, 0)) rfl (fun z1 => ?_) (fun z1 => ?_)
  · skip
    refine mm_skip (mm_call_mono _ _) 1 (st' := (31, [(0, .int p), (1, .int q)], [.int 0], wC ov un nx dp fa cu st fi se th db cn F, 0)) rfl ?_
    exact mm_ret (mm_call_mono _ _) (c := mm_z 0) (r := .inl (some (.int 0))) (M := wC ov un nx dp fa cu st fi se th db cn F) (u := 0) rfl (by unfold mm_z; decide) (by decide) (by rw [bz_f (fun z => z.1 z1)] at hQ; exact hQ)
  · skip
    refine mm_skip (mm_call_mono _ _) 2 (st' := (11, [(0, .int p), (1, .int q)], [.int 10000, .int p], wC ov un nx dp fa cu st fi se th db cn F, 0)) rfl ?_
    refine mm_branch (mm_call_mono _ _) (c := 10000 < p) (s1 := (30, [(0, .int p), (1, .int q)], [], wC ov un nx dp fa cu st fi se th db cn F, 0)) (s2 := (14, [(0, .int p), (1, .int q)], [], wC ov un nx dp fa cu st fi se th db cn F, 0)) rfl (fun z2 => ?_) (fun z2 => ?_)
    · skip
      refine mm_skip (mm_call_mono _ _) 1 (st' := (31, [(0, .int p), (1, .int q)], [.int 0], wC ov un nx dp fa cu st fi se th db cn F, 0)) rfl ?_
      exact mm_ret (mm_call_mono _ _) (c := mm_z 0) (r := .inl (some (.int 0))) (M := wC ov un nx dp fa cu st fi se th db cn F) (u := 0) rfl (by unfold mm_z; decide) (by decide) (by rw [bz_f (fun z => z.2.1 z2)] at hQ; exact hQ)
    · skip
      refine mm_skip (mm_call_mono _ _) 2 (st' := (16, [(0, .int p), (1, .int q)], [.int 1, .int q], wC ov un nx dp fa cu st fi se th db cn F, 0)) rfl ?_
      refine mm_branch (mm_call_mono _ _) (c := q < 1) (s1 := (30, [(0, .int p), (1, .int q)], [], wC ov un nx dp fa cu st fi se th db cn F, 0)) (s2 := (19, [(0, .int p), (1, .int q)], [], wC ov un nx dp fa cu st fi se th db cn F, 0)) rfl (fun z3 => ?_) (fun z3 => ?_)
      · skip
        refine mm_skip (mm_call_mono _ _) 1 (st' := (31, [(0, .int p), (1, .int q)], [.int 0], wC ov un nx dp fa cu st fi se th db cn F, 0)) rfl ?_
        exact mm_ret (mm_call_mono _ _) (c := mm_z 0) (r := .inl (some (.int 0))) (M := wC ov un nx dp fa cu st fi se th db cn F) (u := 0) rfl (by unfold mm_z; decide) (by decide) (by rw [bz_f (fun z => z.2.2.1 z3)] at hQ; exact hQ)
      · skip
        refine mm_skip (mm_call_mono _ _) 2 (st' := (23, [(0, .int p), (1, .int q)], [.int 10000, .int q], wC ov un nx dp fa cu st fi se th db cn F, 0)) rfl ?_
        refine mm_branch (mm_call_mono _ _) (c := 10000 < q) (s1 := (30, [(0, .int p), (1, .int q)], [], wC ov un nx dp fa cu st fi se th db cn F, 0)) (s2 := (26, [(0, .int p), (1, .int q)], [], wC ov un nx dp fa cu st fi se th db cn F, 0)) rfl (fun z4 => ?_) (fun z4 => ?_)
        · skip
          refine mm_skip (mm_call_mono _ _) 1 (st' := (31, [(0, .int p), (1, .int q)], [.int 0], wC ov un nx dp fa cu st fi se th db cn F, 0)) rfl ?_
          exact mm_ret (mm_call_mono _ _) (c := mm_z 0) (r := .inl (some (.int 0))) (M := wC ov un nx dp fa cu st fi se th db cn F) (u := 0) rfl (by unfold mm_z; decide) (by decide) (by rw [bz_f (fun z => z.2.2.2 z4)] at hQ; exact hQ)
        · skip
          refine mm_skip (mm_call_mono _ _) 2 (st' := (31, [(0, .int p), (1, .int q)], [.int 1], wC ov un nx dp fa cu st fi se th db cn F, 0)) rfl ?_
          exact mm_ret (mm_call_mono _ _) (c := mm_z 1) (r := .inl (some (.int 1))) (M := wC ov un nx dp fa cu st fi se th db cn F) (u := 0) rfl (by unfold mm_z; decide) (by decide) (by rw [bz_t ⟨z1, z2, z3, z4⟩] at hQ; exact hQ)

set_option maxRecDepth 100000 in
theorem gd_isPlace {d : Nat} {ov un : Nat → Int32} {nx dp fa : Int32} {cu : mm_cu} {st fi se th db : Nat → Int32} {cn : Int32} {F : mm_M} {a b c e : Int32} {Q : mm_R → mm_M → Prop} (hQ : Q (.inl (some (.int (bz (inp a b ∧ inp c e))))) (wC ov un nx dp fa cu st fi se th db cn F)) : mm_call mm_Tb (d + 2) 22 [.int a, .int b, .int c, .int e] (wC ov un nx dp fa cu st fi se th db cn F) Q := by
  refine mm_in mt_22 (Nat.le_of_ble_eq_true rfl) ?_
  show mm_W _ _ _ _ _ _ _ (0, [(0, .int a), (1, .int b), (2, .int c), (3, .int e)], [], wC ov un nx dp fa cu st fi se th db cn F, 0)
  refine mm_skip (mm_call_mono _ _) 2 (st' := (2, [(0, .int a), (1, .int b), (2, .int c), (3, .int e)], [.int b, .int a], wC ov un nx dp fa cu st fi se th db cn F, 0)) rfl ?_
  refine mm_inv (mm_call_mono _ _) (j := 23) (a := [.int a, .int b]) (M := wC ov un nx dp fa cu st fi se th db cn F) (u := 0) rfl (by decide) (gd_isInput ?_)
  show mm_W _ _ _ _ _ _ _ (5, [(0, .int a), (1, .int b), (2, .int c), (3, .int e)], [.int (bz (inp a b))], wC ov un nx dp fa cu st fi se th db cn F, 0)
  refine mm_branch (mm_call_mono _ _) (c := (bz (inp a b)) = 0) (s1 := (20, [(0, .int a), (1, .int b), (2, .int c), (3, .int e)], [], wC ov un nx dp fa cu st fi se th db cn F, 0)) (s2 := (8, [(0, .int a), (1, .int b), (2, .int c), (3, .int e)], [], wC ov un nx dp fa cu st fi se th db cn F, 0)) rfl (fun z1 => ?_) (fun z1 => ?_)
  · skip
    refine mm_skip (mm_call_mono _ _) 1 (st' := (21, [(0, .int a), (1, .int b), (2, .int c), (3, .int e)], [.int 0], wC ov un nx dp fa cu st fi se th db cn F, 0)) rfl ?_
    exact mm_ret (mm_call_mono _ _) (c := mm_z 0) (r := .inl (some (.int 0))) (M := wC ov un nx dp fa cu st fi se th db cn F) (u := 0) rfl (by unfold mm_z; decide) (by decide) (by rw [bz_f (fun z => bz_0 z1 z.1)] at hQ; exact hQ)
  · skip
    refine mm_skip (mm_call_mono _ _) 2 (st' := (10, [(0, .int a), (1, .int b), (2, .int c), (3, .int e)], [.int e, .int c], wC ov un nx dp fa cu st fi se th db cn F, 0)) rfl ?_
    refine mm_inv (mm_call_mono _ _) (j := 23) (a := [.int c, .int e]) (M := wC ov un nx dp fa cu st fi se th db cn F) (u := 0) rfl (by decide) (gd_isInput ?_)
    show mm_W _ _ _ _ _ _ _ (13, [(0, .int a), (1, .int b), (2, .int c), (3, .int e)], [.int (bz (inp c e))], wC ov un nx dp fa cu st fi se th db cn F, 0)
    refine mm_branch (mm_call_mono _ _) (c := (bz (inp c e)) = 0) (s1 := (20, [(0, .int a), (1, .int b), (2, .int c), (3, .int e)], [], wC ov un nx dp fa cu st fi se th db cn F, 0)) (s2 := (16, [(0, .int a), (1, .int b), (2, .int c), (3, .int e)], [], wC ov un nx dp fa cu st fi se th db cn F, 0)) rfl (fun z2 => ?_) (fun z2 => ?_)
    · skip
      refine mm_skip (mm_call_mono _ _) 1 (st' := (21, [(0, .int a), (1, .int b), (2, .int c), (3, .int e)], [.int 0], wC ov un nx dp fa cu st fi se th db cn F, 0)) rfl ?_
      exact mm_ret (mm_call_mono _ _) (c := mm_z 0) (r := .inl (some (.int 0))) (M := wC ov un nx dp fa cu st fi se th db cn F) (u := 0) rfl (by unfold mm_z; decide) (by decide) (by rw [bz_f (fun z => bz_0 z2 z.2)] at hQ; exact hQ)
    · skip
      refine mm_skip (mm_call_mono _ _) 2 (st' := (21, [(0, .int a), (1, .int b), (2, .int c), (3, .int e)], [.int 1], wC ov un nx dp fa cu st fi se th db cn F, 0)) rfl ?_
      exact mm_ret (mm_call_mono _ _) (c := mm_z 1) (r := .inl (some (.int 1))) (M := wC ov un nx dp fa cu st fi se th db cn F) (u := 0) rfl (by unfold mm_z; decide) (by decide) (by rw [bz_t ⟨bz_1 z1, bz_1 z2⟩] at hQ; exact hQ)

set_option maxRecDepth 100000 in
theorem gd_addStep {d : Nat} {ov un : Nat → Int32} {nx dp fa : Int32} {cu : mm_cu} {st fi se th db : Nat → Int32} {F : mm_M} {k : Nat} {a b c e : Int32} {Q : mm_R → mm_M → Prop} (hk : k ≤ 24) (h1 : k = 24 → Q (.inr "java/lang/IllegalStateException") (wC ov un nx dp fa cu st fi se th db (nI k) F)) (h2 : k < 24 → Q (.inl (some (.int (nI k)))) (wC ov un nx dp fa cu (upd st k a) (upd fi k b) (upd se k c) (upd th k e) db (nI (k + 1)) F)) : mm_call mm_Tb (d + 1) 24 [.ref 0, .int a, .int b, .int c, .int e] (wC ov un nx dp fa cu st fi se th db (nI k) F) Q := by
  refine mm_in mt_24 (Nat.le_of_ble_eq_true rfl) ?_
  show mm_W _ _ _ _ _ _ _ (0, [(0, .ref 0), (1, .int a), (2, .int b), (3, .int c), (4, .int e)], [], wC ov un nx dp fa cu st fi se th db (nI k) F, 0)
  refine mm_skip (mm_call_mono _ _) 3 (st' := (6, [(0, .ref 0), (1, .int a), (2, .int b), (3, .int c), (4, .int e)], [.int 24, .int (nI k)], wC ov un nx dp fa cu st fi se th db (nI k) F, 0)) rfl ?_
  refine mm_branch (mm_call_mono _ _) (c := (nI k) < 24) (s1 := (19, [(0, .ref 0), (1, .int a), (2, .int b), (3, .int c), (4, .int e)], [], wC ov un nx dp fa cu st fi se th db (nI k) F, 0)) (s2 := (9, [(0, .ref 0), (1, .int a), (2, .int b), (3, .int c), (4, .int e)], [], wC ov un nx dp fa cu st fi se th db (nI k) F, 0)) rfl (fun z1 => ?_) (fun z1 => ?_)
  · have z2 : k < 24 := (nI_ltI (by omega) (by omega)).mp (show nI k < nI 24 from z1)
    refine mm_skip (mm_call_mono _ _) 5 (st' := (28, [(0, .ref 0), (1, .int a), (2, .int b), (3, .int c), (4, .int e)], [.int a, .int (nI k), .ref 3], wC ov un nx dp fa cu st fi se th db (nI k) F, 0)) rfl ?_
    refine mm_need (mm_call_mono _ _) (c := vp_in (nI k) 24) (s' := (29, [(0, .ref 0), (1, .int a), (2, .int b), (3, .int c), (4, .int e)], [], wC ov un nx dp fa cu (upd st (Int32.toNatClampNeg (nI k)) a) fi se th db (nI k) F, 0)) rfl (vp_in_nI (show k < 24 by omega) (by decide)) ?_
    rw [nI_clamp (show k < 2 ^ 31 by omega)]
    show mm_W _ _ _ _ _ _ _ (29, [(0, .ref 0), (1, .int a), (2, .int b), (3, .int c), (4, .int e)], [], wC ov un nx dp fa cu (upd st k a) fi se th db (nI k) F, 0)
    refine mm_skip (mm_call_mono _ _) 5 (st' := (38, [(0, .ref 0), (1, .int a), (2, .int b), (3, .int c), (4, .int e)], [.int b, .int (nI k), .ref 4], wC ov un nx dp fa cu (upd st k a) fi se th db (nI k) F, 0)) rfl ?_
    refine mm_need (mm_call_mono _ _) (c := vp_in (nI k) 24) (s' := (39, [(0, .ref 0), (1, .int a), (2, .int b), (3, .int c), (4, .int e)], [], wC ov un nx dp fa cu (upd st k a) (upd fi (Int32.toNatClampNeg (nI k)) b) se th db (nI k) F, 0)) rfl (vp_in_nI (show k < 24 by omega) (by decide)) ?_
    rw [nI_clamp (show k < 2 ^ 31 by omega)]
    show mm_W _ _ _ _ _ _ _ (39, [(0, .ref 0), (1, .int a), (2, .int b), (3, .int c), (4, .int e)], [], wC ov un nx dp fa cu (upd st k a) (upd fi k b) se th db (nI k) F, 0)
    refine mm_skip (mm_call_mono _ _) 5 (st' := (48, [(0, .ref 0), (1, .int a), (2, .int b), (3, .int c), (4, .int e)], [.int c, .int (nI k), .ref 5], wC ov un nx dp fa cu (upd st k a) (upd fi k b) se th db (nI k) F, 0)) rfl ?_
    refine mm_need (mm_call_mono _ _) (c := vp_in (nI k) 24) (s' := (49, [(0, .ref 0), (1, .int a), (2, .int b), (3, .int c), (4, .int e)], [], wC ov un nx dp fa cu (upd st k a) (upd fi k b) (upd se (Int32.toNatClampNeg (nI k)) c) th db (nI k) F, 0)) rfl (vp_in_nI (show k < 24 by omega) (by decide)) ?_
    rw [nI_clamp (show k < 2 ^ 31 by omega)]
    show mm_W _ _ _ _ _ _ _ (49, [(0, .ref 0), (1, .int a), (2, .int b), (3, .int c), (4, .int e)], [], wC ov un nx dp fa cu (upd st k a) (upd fi k b) (upd se k c) th db (nI k) F, 0)
    refine mm_skip (mm_call_mono _ _) 5 (st' := (59, [(0, .ref 0), (1, .int a), (2, .int b), (3, .int c), (4, .int e)], [.int e, .int (nI k), .ref 6], wC ov un nx dp fa cu (upd st k a) (upd fi k b) (upd se k c) th db (nI k) F, 0)) rfl ?_
    refine mm_need (mm_call_mono _ _) (c := vp_in (nI k) 24) (s' := (60, [(0, .ref 0), (1, .int a), (2, .int b), (3, .int c), (4, .int e)], [], wC ov un nx dp fa cu (upd st k a) (upd fi k b) (upd se k c) (upd th (Int32.toNatClampNeg (nI k)) e) db (nI k) F, 0)) rfl (vp_in_nI (show k < 24 by omega) (by decide)) ?_
    rw [nI_clamp (show k < 2 ^ 31 by omega)]
    show mm_W _ _ _ _ _ _ _ (60, [(0, .ref 0), (1, .int a), (2, .int b), (3, .int c), (4, .int e)], [], wC ov un nx dp fa cu (upd st k a) (upd fi k b) (upd se k c) (upd th k e) db (nI k) F, 0)
    refine mm_skip (mm_call_mono _ _) 10 (st' := (76, [(0, .ref 0), (1, .int a), (2, .int b), (3, .int c), (4, .int e)], [.int (((nI k) + 1) - 1)], wC ov un nx dp fa cu (upd st k a) (upd fi k b) (upd se k c) (upd th k e) db ((nI k) + 1) F, 0)) rfl ?_
    rw [nI_p1 (k)]
    show mm_W _ _ _ _ _ _ _ (76, [(0, .ref 0), (1, .int a), (2, .int b), (3, .int c), (4, .int e)], [.int ((nI (k + 1)) - 1)], wC ov un nx dp fa cu (upd st k a) (upd fi k b) (upd se k c) (upd th k e) db (nI (k + 1)) F, 0)
    rw [(nI_pred k)]
    show mm_W _ _ _ _ _ _ _ (76, [(0, .ref 0), (1, .int a), (2, .int b), (3, .int c), (4, .int e)], [.int (nI k)], wC ov un nx dp fa cu (upd st k a) (upd fi k b) (upd se k c) (upd th k e) db (nI (k + 1)) F, 0)
    exact mm_ret (mm_call_mono _ _) (c := True) (r := .inl (some (.int (nI k)))) (M := wC ov un nx dp fa cu (upd st k a) (upd fi k b) (upd se k c) (upd th k e) db (nI (k + 1)) F) (u := 0) rfl trivial (by decide) (h2 z2)
  · have z2 : k = 24 := (Nat.lt_or_ge k 24).elim (fun h => absurd (show nI k < nI 24 from nI_lt h (by omega)) z1) (fun h => by omega)
    exact mm_ret (mm_call_mono _ _) (c := True) (r := .inr "java/lang/IllegalStateException") (M := wC ov un nx dp fa cu st fi se th db (nI k) F) (u := 1) rfl trivial (by decide) (h1 z2)

set_option maxRecDepth 100000 in
theorem gd_undo0 {d : Nat} {ov un : Nat → Int32} {nx dp fa : Int32} {cu : mm_cu} {st fi se th db : Nat → Int32} {F : mm_M} {Q : mm_R → mm_M → Prop} (hQ : Q (.inl (some (.int 0))) (wC ov un nx dp fa cu st fi se th db (nI 0) F)) : mm_call mm_Tb (d + 1) 6 [.ref 0] (wC ov un nx dp fa cu st fi se th db (nI 0) F) Q := by
  refine mm_in mt_6 (Nat.le_of_ble_eq_true rfl) ?_
  show mm_W _ _ _ _ _ _ _ (0, [(0, .ref 0)], [], wC ov un nx dp fa cu st fi se th db (nI 0) F, 0)
  refine mm_skip (mm_call_mono _ _) 2 (st' := (4, [(0, .ref 0)], [.int (nI 0)], wC ov un nx dp fa cu st fi se th db (nI 0) F, 0)) rfl ?_
  refine mm_branch (mm_call_mono _ _) (c := (nI 0) = 0) (s1 := (7, [(0, .ref 0)], [], wC ov un nx dp fa cu st fi se th db (nI 0) F, 0)) (s2 := (9, [(0, .ref 0)], [], wC ov un nx dp fa cu st fi se th db (nI 0) F, 0)) rfl (fun _ => ?_) (fun h => absurd nI_0 h)
  refine mm_skip (mm_call_mono _ _) 1 (st' := (8, [(0, .ref 0)], [.int 0], wC ov un nx dp fa cu st fi se th db (nI 0) F, 0)) rfl ?_
  exact mm_ret (mm_call_mono _ _) (c := mm_z 0) (r := .inl (some (.int 0))) (M := wC ov un nx dp fa cu st fi se th db (nI 0) F) (u := 0) rfl (by unfold mm_z; decide) (by decide) hQ

set_option maxRecDepth 100000 in
theorem gd_undo {d : Nat} {ov un : Nat → Int32} {nx dp fa : Int32} {cu : mm_cu} {st fi se th db : Nat → Int32} {F : mm_M} {k : Nat} {Q : mm_R → mm_M → Prop} (hk : k < 24) (hQ : Q (.inl (some (.int 1))) (wC ov un nx (db k) fa cu st fi se th db (nI k) F)) : mm_call mm_Tb (d + 1) 6 [.ref 0] (wC ov un nx dp fa cu st fi se th db (nI (k + 1)) F) Q := by
  refine mm_in mt_6 (Nat.le_of_ble_eq_true rfl) ?_
  show mm_W _ _ _ _ _ _ _ (0, [(0, .ref 0)], [], wC ov un nx dp fa cu st fi se th db (nI (k + 1)) F, 0)
  refine mm_skip (mm_call_mono _ _) 2 (st' := (4, [(0, .ref 0)], [.int (nI (k + 1))], wC ov un nx dp fa cu st fi se th db (nI (k + 1)) F, 0)) rfl ?_
  refine mm_branch (mm_call_mono _ _) (c := (nI (k + 1)) = 0) (s1 := (7, [(0, .ref 0)], [], wC ov un nx dp fa cu st fi se th db (nI (k + 1)) F, 0)) (s2 := (9, [(0, .ref 0)], [], wC ov un nx dp fa cu st fi se th db (nI (k + 1)) F, 0)) rfl (fun h => absurd h (nI_ne0 (by omega) (by omega))) (fun _ => ?_)
  refine mm_skip (mm_call_mono _ _) 5 (st' := (16, [(0, .ref 0)], [.int ((nI (k + 1)) - 1), .ref 0], wC ov un nx dp fa cu st fi se th db (nI (k + 1)) F, 0)) rfl ?_
  rw [(nI_pred k)]
  show mm_W _ _ _ _ _ _ _ (16, [(0, .ref 0)], [.int (nI k), .ref 0], wC ov un nx dp fa cu st fi se th db (nI (k + 1)) F, 0)
  refine mm_skip (mm_call_mono _ _) 7 (st' := (31, [(0, .ref 0)], [.int (nI k), .ref 7, .ref 1], wC ov un nx dp fa cu st fi se th db (nI k) F, 0)) rfl ?_
  refine mm_need (mm_call_mono _ _) (c := vp_in (nI k) 25) (s' := (32, [(0, .ref 0)], [.int (db (Int32.toNatClampNeg (nI k))), .ref 1], wC ov un nx dp fa cu st fi se th db (nI k) F, 0)) rfl (vp_in_nI (show k < 25 by omega) (by decide)) ?_
  rw [nI_clamp (show k < 2 ^ 31 by omega)]
  show mm_W _ _ _ _ _ _ _ (32, [(0, .ref 0)], [.int (db k), .ref 1], wC ov un nx dp fa cu st fi se th db (nI k) F, 0)
  refine mm_skip (mm_call_mono _ _) 2 (st' := (36, [(0, .ref 0)], [.int 1], wC ov un nx (db k) fa cu st fi se th db (nI k) F, 0)) rfl ?_
  exact mm_ret (mm_call_mono _ _) (c := mm_z 1) (r := .inl (some (.int 1))) (M := wC ov un nx (db k) fa cu st fi se th db (nI k) F) (u := 0) rfl (by unfold mm_z; decide) (by decide) hQ

set_option maxRecDepth 100000 in
theorem gd_settle {d : Nat} {ov un : Nat → Int32} {nx dp fa : Int32} {cu : mm_cu} {st fi se th db : Nat → Int32} {F : mm_M} {k : Nat} {r : Int32} {Q : mm_R → mm_M → Prop} (hk : k < 24) (h1 : ¬ r = -1 → Q (.inr "java/lang/UnsupportedOperationException") (wC ov un nx (db k) fa cu st fi se th db (nI k) F)) (h2 : r = -1 → Q (.inl (some (.int (nI k)))) (wC ov un nx dp fa cu st fi se th db (nI (k + 1)) F)) : mm_call mm_Tb (d + 2) 25 [.ref 0, .int r] (wC ov un nx dp fa cu st fi se th db (nI (k + 1)) F) Q := by
  refine mm_in mt_25 (Nat.le_of_ble_eq_true rfl) ?_
  show mm_W _ _ _ _ _ _ _ (0, [(0, .ref 0), (1, .int r)], [], wC ov un nx dp fa cu st fi se th db (nI (k + 1)) F, 0)
  refine mm_skip (mm_call_mono _ _) 2 (st' := (2, [(0, .ref 0), (1, .int r)], [.int (-1), .int r], wC ov un nx dp fa cu st fi se th db (nI (k + 1)) F, 0)) rfl ?_
  refine mm_branch (mm_call_mono _ _) (c := r = (-1)) (s1 := (20, [(0, .ref 0), (1, .int r)], [], wC ov un nx dp fa cu st fi se th db (nI (k + 1)) F, 0)) (s2 := (5, [(0, .ref 0), (1, .int r)], [], wC ov un nx dp fa cu st fi se th db (nI (k + 1)) F, 0)) rfl (fun z1 => ?_) (fun z1 => ?_)
  · skip
    refine mm_skip (mm_call_mono _ _) 4 (st' := (26, [(0, .ref 0), (1, .int r)], [.int ((nI (k + 1)) - 1)], wC ov un nx dp fa cu st fi se th db (nI (k + 1)) F, 0)) rfl ?_
    rw [(nI_pred k)]
    show mm_W _ _ _ _ _ _ _ (26, [(0, .ref 0), (1, .int r)], [.int (nI k)], wC ov un nx dp fa cu st fi se th db (nI (k + 1)) F, 0)
    exact mm_ret (mm_call_mono _ _) (c := True) (r := .inl (some (.int (nI k)))) (M := wC ov un nx dp fa cu st fi se th db (nI (k + 1)) F) (u := 0) rfl trivial (by decide) (h2 z1)
  · skip
    refine mm_skip (mm_call_mono _ _) 1 (st' := (6, [(0, .ref 0), (1, .int r)], [.ref 0], wC ov un nx dp fa cu st fi se th db (nI (k + 1)) F, 0)) rfl ?_
    refine mm_inv (mm_call_mono _ _) (j := 6) (a := [.ref 0]) (M := wC ov un nx dp fa cu st fi se th db (nI (k + 1)) F) (u := 0) rfl (by decide) (gd_undo hk ?_)
    show mm_W _ _ _ _ _ _ _ (9, [(0, .ref 0), (1, .int r)], [.int 1], wC ov un nx (db k) fa cu st fi se th db (nI k) F, 0)
    refine mm_skip (mm_call_mono _ _) 1 (st' := (10, [(0, .ref 0), (1, .int r)], [], wC ov un nx (db k) fa cu st fi se th db (nI k) F, 0)) rfl ?_
    exact mm_ret (mm_call_mono _ _) (c := True) (r := .inr "java/lang/UnsupportedOperationException") (M := wC ov un nx (db k) fa cu st fi se th db (nI k) F) (u := 1) rfl trivial (by decide) (h1 z1)

set_option maxRecDepth 100000 in
theorem gw_quot {d : Nat} {ov un : Nat → Int32} {dp fa : Int32} {cu : mm_cu} {st fi se th db : Nat → Int32} {cn : Int32} {F : mm_M} {n : Nat} {p q : Int32} {Q : mm_R → mm_M → Prop} (hfa : mm_z fa) (hn : 308 ≤ n ∧ n ≤ 1332) (hq : 0 < q.toInt) (hQ : ∀ (ov1 un1 : Nat → Int32) (n1 : Nat) (fa1 : Int32) (r : Nat), opL ov un n fa 4 4 ((fmk p.toInt q.toInt).map em) ov1 un1 n1 fa1 r → Q (.inl (some (.int (nI r)))) (wC ov1 un1 (nI n1) dp fa1 cu st fi se th db cn F)) : mm_call mm_Tb (d + 2) 128 [.ref 1, .int p, .int q] (wC ov un (nI n) dp fa cu st fi se th db cn F) Q := by
  refine mm_in mt_128 (Nat.le_of_ble_eq_true rfl) ?_
  show mm_W _ _ _ _ _ _ _ (0, [(0, .ref 1), (1, .int p), (2, .int q)], [], wC ov un (nI n) dp fa cu st fi se th db cn F, 0)
  refine mm_skip (mm_call_mono _ _) 1 (st' := (1, [(0, .ref 1), (1, .int p), (2, .int q)], [.ref 1], wC ov un (nI n) dp fa cu st fi se th db cn F, 0)) rfl ?_
  refine mm_inv (mm_call_mono _ _) (j := 138) (a := [.ref 1]) (M := wC ov un (nI n) dp fa cu st fi se th db cn F) (u := 0) rfl (by decide) (ct_N_reserve hn (fun ov1 un1 n1 fa1 r h0 => ?_))
  show mm_W _ _ _ _ _ _ _ (4, [(0, .ref 1), (1, .int p), (2, .int q)], [.int (nI r)], wC ov1 un1 (nI n1) dp fa1 cu st fi se th db cn F, 0)
  have hr := res_r h0 hn.1
  have k0 := pt_0 (fun _ => fmk p.toInt q.toInt) hfa hn.1 h0
  refine mm_skip (mm_call_mono _ _) 7 (st' := (11, [(3, .int (nI r)), (0, .ref 1), (1, .int p), (2, .int q)], [.long (Int32.toInt64 q), .long (Int32.toInt64 p), .int (nI r), .ref 1], wC ov1 un1 (nI n1) dp fa1 cu st fi se th db cn F, 0)) rfl ?_
  refine mm_inv (mm_call_mono _ _) (j := 139) (a := [.ref 1, .int (nI r), .long (Int32.toInt64 p), .long (Int32.toInt64 q)]) (M := wC ov1 un1 (nI n1) dp fa1 cu st fi se th db cn F) (u := 0) rfl (by decide) (ct_N_put k0.1 (by omega) (fun z0 => ⟨by have := p.toInt_lt; have := p.le_toInt; rw [Int32.toInt_toInt64]; omega, by rw [Int32.toInt_toInt64]; exact hq, pt_z k0 z0 (by omega)⟩) (fun ov2 un2 fa2 hp => ?_))
  show mm_W _ _ _ _ _ _ _ (14, [(3, .int (nI r)), (0, .ref 1), (1, .int p), (2, .int q)], [], wC ov2 un2 (nI n1) dp fa2 cu st fi se th db cn F, 0)
  have k1 := pt_s (T := fmk p.toInt q.toInt) k0 (by omega) hr.1 (pR_of (c := r + 0) hp (fun _ => by rw [Int32.toInt_toInt64, Int32.toInt_toInt64])) (fun _ => rfl)
  have h9 := op_of (m := 1) (Or.inl rfl) ⟨hr.1, hr.2.1⟩ (fun _ _ _ v e => fmk_v hq e) k1
  rw [← hr.2.2] at h9
  refine mm_skip (mm_call_mono _ _) 1 (st' := (15, [(3, .int (nI r)), (0, .ref 1), (1, .int p), (2, .int q)], [.int (nI r)], wC ov2 un2 (nI n1) dp fa2 cu st fi se th db cn F, 0)) rfl ?_
  exact mm_ret (mm_call_mono _ _) (c := True) (r := .inl (some (.int (nI r)))) (M := wC ov2 un2 (nI n1) dp fa2 cu st fi se th db cn F) (u := 0) rfl trivial (by decide) (hQ _ _ _ _ _ (opL_of h9))

theorem map_f {x : fr} {p q : Int} (h : fmk p q = some x) : (fmk p q).map em = some (em x) := by rw [h]; rfl
theorem fa0_of {ov un ov1 un1 : Nat → Int32} {n n1 r g c : Nat} {fa1 : Int32} {T : Option n4} {V : n4} (h : opL ov un n 0 g c T ov1 un1 n1 fa1 r) (e : T = some V) (hr : n + c ≤ 1332) : fa1 = 0 ∧ isAt ov1 un1 n1 0 4 r (g4 V) := by
  have h0 : fa1 = 0 := h.2.2.1.elim id (fun h1 => by have := h.2.2.2.2.2.2 h1 rfl hr; rw [e] at this; cases this)
  have w := at_newL h
  subst h0
  have e2 := (h.2.2.2.2.2.1 rfl).2.2.2.2.2.1
  rw [e] at e2
  rw [← Option.some.inj e2] at w
  exact ⟨rfl, w⟩
set_option maxRecDepth 100000 in
theorem gd_place {d : Nat} {ov un : Nat → Int32} {nx dp fa : Int32} {cu : mm_cu} {st fi se th db : Nat → Int32} {cn : Int32} {F : mm_M} {p : Nat} {a b c e : Int32} {Q : mm_R → mm_M → Prop} (hp : p < 24) (ha : inp a b) (hb : inp c e) (hQ : ∀ (ov1 un1 : Nat → Int32) (n1 : Nat), (∀ j, j < 308 → (j < 8 + 12 * p ∨ 20 + 12 * p ≤ j) → ov1 j = ov j ∧ un1 j = un j) → hold 2 ov1 un1 p (em (qf a b), em (qf c e), zz) → Q (.inl none) (wC ov1 un1 (nI n1) dp 0 cu st fi se th db cn F)) : mm_call mm_Tb (d + 3) 39 [.ref 0, .int (nI p), .int a, .int b, .int c, .int e] (wC ov un nx dp fa cu st fi se th db cn F) Q := by
  refine mm_in mt_39 (Nat.le_of_ble_eq_true rfl) ?_
  show mm_W _ _ _ _ _ _ _ (0, [(0, .ref 0), (1, .int (nI p)), (2, .int a), (3, .int b), (4, .int c), (5, .int e)], [], wC ov un nx dp fa cu st fi se th db cn F, 0)
  refine mm_skip (mm_call_mono _ _) 2 (st' := (4, [(0, .ref 0), (1, .int (nI p)), (2, .int a), (3, .int b), (4, .int c), (5, .int e)], [.ref 1], wC ov un nx dp fa cu st fi se th db cn F, 0)) rfl ?_
  refine mm_inv (mm_call_mono _ _) (j := 122) (a := [.ref 1]) (M := wC ov un nx dp fa cu st fi se th db cn F) (u := 0) rfl (by decide) (ct_N_begin ?_)
  show mm_W _ _ _ _ _ _ _ (7, [(0, .ref 0), (1, .int (nI p)), (2, .int a), (3, .int b), (4, .int c), (5, .int e)], [], wC ov un (nI 308) dp 0 cu st fi se th db cn F, 0)
  refine mm_skip (mm_call_mono _ _) 6 (st' := (17, [(0, .ref 0), (1, .int (nI p)), (2, .int a), (3, .int b), (4, .int c), (5, .int e)], [.int b, .int a, .ref 1, .ref 1], wC ov un (nI 308) dp 0 cu st fi se th db cn F, 0)) rfl ?_
  refine mm_inv (mm_call_mono _ _) (j := 128) (a := [.ref 1, .int a, .int b]) (M := wC ov un (nI 308) dp 0 cu st fi se th db cn F) (u := 0) rfl (by decide) (gw_quot (Or.inl rfl) (by omega) (by have := inp_i ha; omega) (fun ov1 un1 m1 fa1 y1 h1 => ?_))
  show mm_W _ _ _ _ _ _ _ (20, [(0, .ref 0), (1, .int (nI p)), (2, .int a), (3, .int b), (4, .int c), (5, .int e)], [.int (nI y1), .ref 1], wC ov1 un1 (nI m1) dp fa1 cu st fi se th db cn F, 0)
  obtain ⟨z1, A1⟩ := fa0_of h1 (map_f (inp_f ha).1) (by omega)
  subst z1
  have t1 := h1.2.2.2.2.2.1 rfl
  have g1 := h1.1
  refine mm_skip (mm_call_mono _ _) 1 (st' := (21, [(0, .ref 0), (1, .int (nI p)), (2, .int a), (3, .int b), (4, .int c), (5, .int e)], [.int (nI p), .int (nI y1), .ref 1], wC ov1 un1 (nI m1) dp 0 cu st fi se th db cn F, 0)) rfl ?_
  refine mm_inv (mm_call_mono _ _) (j := 41) (a := [.int (nI p)]) (M := wC ov1 un1 (nI m1) dp 0 cu st fi se th db cn F) (u := 0) rfl (by decide) (ct_C_xOf ?_)
  show mm_W _ _ _ _ _ _ _ (24, [(0, .ref 0), (1, .int (nI p)), (2, .int a), (3, .int b), (4, .int c), (5, .int e)], [.int (nI (8 + 12 * p)), .int (nI y1), .ref 1], wC ov1 un1 (nI m1) dp 0 cu st fi se th db cn F, 0)
  refine mm_inv (mm_call_mono _ _) (j := 124) (a := [.ref 1, .int (nI y1), .int (nI (8 + 12 * p))]) (M := wC ov1 un1 (nI m1) dp 0 cu st fi se th db cn F) (u := 0) rfl (by decide) (gw_copy (x := y1) (y := 8 + 12 * p) (by omega) (by omega) (fun ov2 un2 c1 => ?_))
  show mm_W _ _ _ _ _ _ _ (27, [(0, .ref 0), (1, .int (nI p)), (2, .int a), (3, .int b), (4, .int c), (5, .int e)], [], wC ov2 un2 (nI m1) dp 0 cu st fi se th db cn F, 0)
  have K1 := at_cn A1 c1 (by omega) (by omega)
  refine mm_skip (mm_call_mono _ _) 6 (st' := (39, [(0, .ref 0), (1, .int (nI p)), (2, .int a), (3, .int b), (4, .int c), (5, .int e)], [.int e, .int c, .ref 1, .ref 1], wC ov2 un2 (nI m1) dp 0 cu st fi se th db cn F, 0)) rfl ?_
  refine mm_inv (mm_call_mono _ _) (j := 128) (a := [.ref 1, .int c, .int e]) (M := wC ov2 un2 (nI m1) dp 0 cu st fi se th db cn F) (u := 0) rfl (by decide) (gw_quot (Or.inl rfl) (by omega) (by have := inp_i hb; omega) (fun ov3 un3 m3 fa3 y3 h3 => ?_))
  show mm_W _ _ _ _ _ _ _ (42, [(0, .ref 0), (1, .int (nI p)), (2, .int a), (3, .int b), (4, .int c), (5, .int e)], [.int (nI y3), .ref 1], wC ov3 un3 (nI m3) dp fa3 cu st fi se th db cn F, 0)
  obtain ⟨z3, A3⟩ := fa0_of h3 (map_f (inp_f hb).1) (by omega)
  subst z3
  have t3 := h3.2.2.2.2.2.1 rfl
  have g3 := h3.1
  have K3 := at_keep K1 (opL_k h3)
  refine mm_skip (mm_call_mono _ _) 1 (st' := (43, [(0, .ref 0), (1, .int (nI p)), (2, .int a), (3, .int b), (4, .int c), (5, .int e)], [.int (nI p), .int (nI y3), .ref 1], wC ov3 un3 (nI m3) dp 0 cu st fi se th db cn F, 0)) rfl ?_
  refine mm_inv (mm_call_mono _ _) (j := 42) (a := [.int (nI p)]) (M := wC ov3 un3 (nI m3) dp 0 cu st fi se th db cn F) (u := 0) rfl (by decide) (ct_C_yOf ?_)
  show mm_W _ _ _ _ _ _ _ (46, [(0, .ref 0), (1, .int (nI p)), (2, .int a), (3, .int b), (4, .int c), (5, .int e)], [.int (nI (12 + 12 * p)), .int (nI y3), .ref 1], wC ov3 un3 (nI m3) dp 0 cu st fi se th db cn F, 0)
  refine mm_inv (mm_call_mono _ _) (j := 124) (a := [.ref 1, .int (nI y3), .int (nI (12 + 12 * p))]) (M := wC ov3 un3 (nI m3) dp 0 cu st fi se th db cn F) (u := 0) rfl (by decide) (gw_copy (x := y3) (y := 12 + 12 * p) (by omega) (by omega) (fun ov4 un4 c2 => ?_))
  show mm_W _ _ _ _ _ _ _ (49, [(0, .ref 0), (1, .int (nI p)), (2, .int a), (3, .int b), (4, .int c), (5, .int e)], [], wC ov4 un4 (nI m3) dp 0 cu st fi se th db cn F, 0)
  have K4 := at_cp K3 c2 (by omega)
  have K5 := at_cn A3 c2 (by omega) (by omega)
  exact mm_ret (mm_call_mono _ _) (c := True) (r := .inl none) (M := wC ov4 un4 (nI m3) dp 0 cu st fi se th db cn F) (u := 0) rfl trivial (by decide) (hQ _ _ _ (fun j h1_ h2_ => by have e1 := c2.1 j (by omega); have e2 := h3.2.2.2.1 j h1_; have e3 := c1.1 j (by omega); have e4 := h1.2.2.2.1 j h1_; exact ⟨e1.1.trans (e2.1.trans (e3.1.trans e4.1)), e1.2.trans (e2.2.trans (e3.2.trans e4.2))⟩) ⟨kp_at K4 rfl, fun _ => kp_at K5 rfl, fun q => absurd q (by decide)⟩)

