/-- a small int: -1, 0 or 1 -/
def sg3 (v : Int32) : Prop := v = -1 ∨ v = 0 ∨ v = 1
/-- behind a question: spec T; it may leave up to cost fractions of work behind -/
def sgR (ov un : Nat → Int32) (n : Nat) (fa : Int32) (cost : Nat) (T : Option Int) (ov1 un1 : Nat → Int32) (n1 : Nat) (fa1 : Int32) (v : Int32) : Prop :=
  (308 ≤ n1 ∧ n1 ≤ 1332) ∧ mm_z fa1 ∧ (∀ k, k < 308 → ov1 k = ov k ∧ un1 k = un k) ∧ (fa = 1 → fa1 = 1) ∧ (fa1 = 0 → fa = 0 ∧ n ≤ n1 ∧ n1 ≤ n + cost ∧ (∀ k, k < n → ov1 k = ov k ∧ un1 k = un k) ∧ T = some v.toInt) ∧ (fa1 = 1 → fa = 0 → n + cost ≤ 1332 → T = none) ∧ sg3 v
/-- where the work stands, at most w fractions behind the start -/
def stl (ov un : Nat → Int32) (n : Nat) (fa : Int32) (w : Nat) (ov1 un1 : Nat → Int32) (n1 : Nat) (fa1 : Int32) : Prop :=
  (308 ≤ n1 ∧ n1 ≤ 1332) ∧ mm_z fa1 ∧ (∀ k, k < 308 → ov1 k = ov k ∧ un1 k = un k) ∧ (fa = 1 → fa1 = 1) ∧ (fa1 = 0 → fa = 0 ∧ n ≤ n1 ∧ n1 ≤ n + w ∧ ∀ k, k < n → ov1 k = ov k ∧ un1 k = un k)
theorem stl_0 {ov un : Nat → Int32} {n : Nat} {fa : Int32} (hfa : mm_z fa) (hn : 308 ≤ n ∧ n ≤ 1332) : stl ov un n fa 0 ov un n fa := ⟨hn, hfa, fun _ _ => ⟨rfl, rfl⟩, id, fun h0 => ⟨h0, Nat.le_refl _, by omega, fun _ _ => ⟨rfl, rfl⟩⟩⟩
theorem stl_s {ov un ov1 un1 ov2 un2 : Nat → Int32} {n n1 n2 r w : Nat} {fa fa1 fa2 : Int32} {cost : Nat} {T : Option n4} (h : stl ov un n fa w ov1 un1 n1 fa1) (h2 : opR ov1 un1 n1 fa1 cost T ov2 un2 n2 fa2 r) : stl ov un n fa (w + 4) ov2 un2 n2 fa2 := by
  obtain ⟨a1, a2, a3, a4, a5⟩ := h
  obtain ⟨b1, b2, b3, b4, b5, b6, -⟩ := h2
  refine ⟨b2, b3, fun k hk => ⟨(b4 k hk).1.trans (a3 k hk).1, (b4 k hk).2.trans (a3 k hk).2⟩, fun h => b5 (a4 h), fun h0 => ?_⟩
  obtain ⟨q1, q2, q3, q4, -⟩ := b6 h0
  obtain ⟨p1, p2, p3, p4⟩ := a5 q1
  exact ⟨p1, by omega, by omega, fun k hk => ⟨(q4 k (by omega)).1.trans (p4 k hk).1, (q4 k (by omega)).2.trans (p4 k hk).2⟩⟩
theorem stl_g {ov un ov1 un1 ov2 un2 : Nat → Int32} {n n1 n2 w : Nat} {fa fa1 fa2 v : Int32} {cost : Nat} {T : Option Int} (h : stl ov un n fa w ov1 un1 n1 fa1) (h2 : sgR ov1 un1 n1 fa1 cost T ov2 un2 n2 fa2 v) : stl ov un n fa (w + cost) ov2 un2 n2 fa2 := by
  obtain ⟨a1, a2, a3, a4, a5⟩ := h
  obtain ⟨b2, b3, b4, b5, b6, -⟩ := h2
  refine ⟨b2, b3, fun k hk => ⟨(b4 k hk).1.trans (a3 k hk).1, (b4 k hk).2.trans (a3 k hk).2⟩, fun h => b5 (a4 h), fun h0 => ?_⟩
  obtain ⟨q1, q2, q3, q4, -⟩ := b6 h0
  obtain ⟨p1, p2, p3, p4⟩ := a5 q1
  exact ⟨p1, by omega, by omega, fun k hk => ⟨(q4 k (by omega)).1.trans (p4 k hk).1, (q4 k (by omega)).2.trans (p4 k hk).2⟩⟩
theorem sg_k {ov un ov1 un1 : Nat → Int32} {n n1 : Nat} {fa fa1 v : Int32} {cost : Nat} {T : Option Int} (h : sgR ov un n fa cost T ov1 un1 n1 fa1 v) : fa1 = 0 → fa = 0 ∧ n ≤ n1 ∧ ∀ k, k < n → ov1 k = ov k ∧ un1 k = un k := fun h0 => by
  obtain ⟨q1, q2, q3, q4, -⟩ := h.2.2.2.2.1 h0
  exact ⟨q1, q2, q4⟩
theorem sq_f {ov un ov1 un1 ov2 un2 : Nat → Int32} {n n1 n2 r w C : Nat} {fa fa1 fa2 : Int32} {X : Type} {cost : Nat} {T : Option n4} {spec : Option X} {k : n4 → Option X} (hs : stl ov un n fa w ov1 un1 n1 fa1) (F : fa1 = 1 → fa = 0 → n + C ≤ 1332 → spec = none) (E : fa1 = 0 → spec = T.bind k) (h : opR ov1 un1 n1 fa1 cost T ov2 un2 n2 fa2 r) (hC : w + cost ≤ C) : fa2 = 1 → fa = 0 → n + C ≤ 1332 → spec = none := by
  intro h9 h0 hroom
  rcases hs.2.1 with hz | hz
  · rw [E hz, h.2.2.2.2.2.2 h9 hz (by have := (hs.2.2.2.2 hz).2.2.1; omega)]
    rfl
  · exact F hz h0 hroom
theorem sg_e {ov un ov1 un1 : Nat → Int32} {n n1 : Nat} {fa fa1 v : Int32} {X : Type} {cost : Nat} {T : Option Int} {spec : Option X} {k : Int → Option X} (E : fa = 0 → spec = T.bind k) (h : sgR ov un n fa cost T ov1 un1 n1 fa1 v) : fa1 = 0 → spec = k v.toInt := by
  intro h0
  obtain ⟨q1, q2, q3, q4, q5⟩ := h.2.2.2.2.1 h0
  rw [E q1, q5]
  rfl
theorem sg_f {ov un ov1 un1 ov2 un2 : Nat → Int32} {n n1 n2 w C : Nat} {fa fa1 fa2 v : Int32} {X : Type} {cost : Nat} {T : Option Int} {spec : Option X} {k : Int → Option X} (hs : stl ov un n fa w ov1 un1 n1 fa1) (F : fa1 = 1 → fa = 0 → n + C ≤ 1332 → spec = none) (E : fa1 = 0 → spec = T.bind k) (h : sgR ov1 un1 n1 fa1 cost T ov2 un2 n2 fa2 v) (hC : w + cost ≤ C) : fa2 = 1 → fa = 0 → n + C ≤ 1332 → spec = none := by
  intro h9 h0 hroom
  rcases hs.2.1 with hz | hz
  · rw [E hz, h.2.2.2.2.2.1 h9 hz (by have := (hs.2.2.2.2 hz).2.2.1; omega)]
    rfl
  · exact F hz h0 hroom
theorem f_0 {fa : Int32} {X : Type} {spec : Option X} {n C : Nat} : fa = 1 → fa = 0 → n + C ≤ 1332 → spec = none := fun h1 h0 => absurd (h1.symm.trans h0) z10
theorem sg_fin {ov un ov1 un1 : Nat → Int32} {n n1 w C : Nat} {fa fa1 v : Int32} {T : Option Int} (hs : stl ov un n fa w ov1 un1 n1 fa1) (hw : w ≤ C) (E : fa1 = 0 → T = some v.toInt) (F : fa1 = 1 → fa = 0 → n + C ≤ 1332 → T = none) (hv : sg3 v) : sgR ov un n fa C T ov1 un1 n1 fa1 v := by
  obtain ⟨a1, a2, a3, a4, a5⟩ := hs
  refine ⟨a1, a2, a3, a4, fun h0 => ?_, F, hv⟩
  obtain ⟨p1, p2, p3, p4⟩ := a5 h0
  exact ⟨p1, p2, by omega, p4, E h0⟩
def nsg0 (x : Nat → fr) : Option Int := some (x 0).1.sign
def nsgS (h : Nat) (M : (Nat → fr) → (Nat → fr) → Option n4) (G : (Nat → fr) → Option Int) (R x : Nat → fr) : Option Int :=
  (G x).bind fun s => (G (sh h x)).bind fun t => if t = 0 ∨ t = s then some s else if s = 0 then some t else
    (M (sh h x) (sh h x)).bind fun bb => (M (g4 bb) R).bind fun bbr => (M x x).bind fun aa => (nneg h (g4 bbr)).bind fun nb => (nadd h (g4 aa) (g4 nb)).bind fun nn => (G (g4 nn)).bind fun u => some (s * u)
def nsg1 (R x : Nat → fr) : Option Int := nsgS 1 nmul0 nsg0 R x
def nsg2 (R1 R2 x : Nat → fr) : Option Int := nsgS 2 (nmul1 R1) (nsg1 R1) R2 x
def cmp0 (v : Int32) : Int32 := if v < 0 then -1 else if v = 0 then 0 else 1
theorem cmp0_3 (v : Int32) : sg3 (cmp0 v) := by
  unfold cmp0
  split
  · exact Or.inl rfl
  · split
    · exact Or.inr (Or.inl rfl)
    · exact Or.inr (Or.inr rfl)
theorem cmp0_s (v : Int32) : (cmp0 v).toInt = v.toInt.sign := by
  have h0 : (0 : Int32).toInt = 0 := by decide
  unfold cmp0
  split
  · next h =>
    have h := Int32.lt_iff_toInt_lt.mp h
    rw [Int.sign_eq_neg_one_of_neg (by omega)]; decide
  · next h =>
    split
    · next e => rw [e]; decide
    · next e =>
      have h : ¬ v.toInt < 0 := fun q => h (Int32.lt_iff_toInt_lt.mpr (by omega))
      have e : ¬ v.toInt = 0 := fun q => e (Int32.toInt_inj.mp (by omega))
      rw [Int.sign_eq_one_of_pos (by omega)]; decide
theorem sg3_i {v w : Int32} (h : v.toInt = w.toInt) : v = w := Int32.toInt_inj.mp h
theorem sg3_mul {s u : Int32} (hs : sg3 s) (hu : sg3 u) : sg3 (s * u) ∧ (s * u).toInt = s.toInt * u.toInt := by
  rcases hs with rfl | rfl | rfl <;> rcases hu with rfl | rfl | rfl <;> exact ⟨by unfold sg3; decide, by decide⟩
set_option maxRecDepth 100000 in
theorem ct_J_compare0 {d : Nat} {ov un : Nat → Int32} {nx dp fa : Int32} {cu : mm_cu} {st fi se th db : Nat → Int32} {cn : Int32} {F : mm_M} {v : Int32} {Q : mm_R → mm_M → Prop} (hQ : Q (.inl (some (.int (cmp0 v)))) (wC ov un nx dp fa cu st fi se th db cn F)) : mm_call mm_Tb (d + 1) 165 [.int v, .int 0] (wC ov un nx dp fa cu st fi se th db cn F) Q := by
  refine mm_in mt_165 (Nat.le_of_ble_eq_true rfl) ?_
  show mm_W _ _ _ _ _ _ _ (0, [(0, .int v), (1, .int 0)], [], wC ov un nx dp fa cu st fi se th db cn F, 0)
  refine mm_skip (mm_call_mono _ _) 2 (st' := (2, [(0, .int v), (1, .int 0)], [.int 0, .int v], wC ov un nx dp fa cu st fi se th db cn F, 0)) rfl ?_
  refine mm_branch (mm_call_mono _ _) (c := 0 ≤ v) (s1 := (9, [(0, .int v), (1, .int 0)], [], wC ov un nx dp fa cu st fi se th db cn F, 0)) (s2 := (5, [(0, .int v), (1, .int 0)], [], wC ov un nx dp fa cu st fi se th db cn F, 0)) rfl (fun h1 => ?_) (fun h1 => ?_)
  · skip
    refine mm_skip (mm_call_mono _ _) 2 (st' := (11, [(0, .int v), (1, .int 0)], [.int 0, .int v], wC ov un nx dp fa cu st fi se th db cn F, 0)) rfl ?_
    refine mm_branch (mm_call_mono _ _) (c := v = 0) (s1 := (14, [(0, .int v), (1, .int 0)], [], wC ov un nx dp fa cu st fi se th db cn F, 0)) (s2 := (18, [(0, .int v), (1, .int 0)], [], wC ov un nx dp fa cu st fi se th db cn F, 0)) rfl (fun h2 => ?_) (fun h2 => ?_)
    · skip
      refine mm_skip (mm_call_mono _ _) 2 (st' := (19, [(0, .int v), (1, .int 0)], [.int 0], wC ov un nx dp fa cu st fi se th db cn F, 0)) rfl ?_
      exact mm_ret (mm_call_mono _ _) (c := True) (r := .inl (some (.int 0))) (M := wC ov un nx dp fa cu st fi se th db cn F) (u := 0) rfl trivial (by decide) (by rw [cmp0, if_neg (Int32.not_lt.mpr h1), if_pos h2] at hQ; exact hQ)
    · skip
      refine mm_skip (mm_call_mono _ _) 1 (st' := (19, [(0, .int v), (1, .int 0)], [.int 1], wC ov un nx dp fa cu st fi se th db cn F, 0)) rfl ?_
      exact mm_ret (mm_call_mono _ _) (c := True) (r := .inl (some (.int 1))) (M := wC ov un nx dp fa cu st fi se th db cn F) (u := 0) rfl trivial (by decide) (by rw [cmp0, if_neg (Int32.not_lt.mpr h1), if_neg h2] at hQ; exact hQ)
  · skip
    refine mm_skip (mm_call_mono _ _) 2 (st' := (19, [(0, .int v), (1, .int 0)], [.int (-1)], wC ov un nx dp fa cu st fi se th db cn F, 0)) rfl ?_
    exact mm_ret (mm_call_mono _ _) (c := True) (r := .inl (some (.int (-1)))) (M := wC ov un nx dp fa cu st fi se th db cn F) (u := 0) rfl trivial (by decide) (by rw [cmp0, if_pos (Int32.not_le.mp h1)] at hQ; exact hQ)

set_option maxRecDepth 100000 in
theorem at_N_signOf_0 {d : Nat} {ov un : Nat → Int32} {dp fa : Int32} {cu : mm_cu} {st fi se th db : Nat → Int32} {cn : Int32} {F : mm_M} {n a : Nat} {x : Nat → fr} {Q : mm_R → mm_M → Prop} (hfa : mm_z fa) (hn : 308 ≤ n ∧ n ≤ 1332) (A : isAt ov un n fa 1 a x) (hQ : ∀ (ov1 un1 : Nat → Int32) (n1 : Nat) (fa1 v : Int32), sgR ov un n fa 0 (nsg0 x) ov1 un1 n1 fa1 v → Q (.inl (some (.int v))) (wC ov1 un1 (nI n1) dp fa1 cu st fi se th db cn F)) : mm_call mm_Tb (d + 2) 147 [.ref 1, .int 0, .int (nI a)] (wC ov un (nI n) dp fa cu st fi se th db cn F) Q := by
  have ha1 := A.1.1
  refine mm_in mt_147 (Nat.le_of_ble_eq_true rfl) ?_
  show mm_W _ _ _ _ _ _ _ (0, [(0, .ref 1), (1, .int 0), (2, .int (nI a))], [], wC ov un (nI n) dp fa cu st fi se th db cn F, 0)
  refine mm_skip (mm_call_mono _ _) 1 (st' := (1, [(0, .ref 1), (1, .int 0), (2, .int (nI a))], [.int 0], wC ov un (nI n) dp fa cu st fi se th db cn F, 0)) rfl ?_
  refine mm_branch (mm_call_mono _ _) (c := (0 : Int32) < 0) (s1 := (15, [(0, .ref 1), (1, .int 0), (2, .int (nI a))], [], wC ov un (nI n) dp fa cu st fi se th db cn F, 0)) (s2 := (4, [(0, .ref 1), (1, .int 0), (2, .int (nI a))], [], wC ov un (nI n) dp fa cu st fi se th db cn F, 0)) rfl (fun h => absurd h (by decide)) (fun _ => ?_)
  refine mm_skip (mm_call_mono _ _) 3 (st' := (9, [(0, .ref 1), (1, .int 0), (2, .int (nI a))], [.int (nI a), .ref 8], wC ov un (nI n) dp fa cu st fi se th db cn F, 0)) rfl ?_
  refine mm_need (mm_call_mono _ _) (c := vp_in (nI a) 1332) (s' := (10, [(0, .ref 1), (1, .int 0), (2, .int (nI a))], [.int (ov (Int32.toNatClampNeg (nI a)))], wC ov un (nI n) dp fa cu st fi se th db cn F, 0)) rfl (vp_in_nI (show a < 1332 by omega) (by decide)) ?_
  rw [nI_clamp (show a < 2 ^ 31 by omega)]
  show mm_W _ _ _ _ _ _ _ (10, [(0, .ref 1), (1, .int 0), (2, .int (nI a))], [.int (ov a)], wC ov un (nI n) dp fa cu st fi se th db cn F, 0)
  refine mm_skip (mm_call_mono _ _) 1 (st' := (11, [(0, .ref 1), (1, .int 0), (2, .int (nI a))], [.int 0, .int (ov a)], wC ov un (nI n) dp fa cu st fi se th db cn F, 0)) rfl ?_
  refine mm_inv (mm_call_mono _ _) (j := 165) (a := [.int (ov a), .int 0]) (M := wC ov un (nI n) dp fa cu st fi se th db cn F) (u := 0) rfl (by decide) (ct_J_compare0 ?_)
  show mm_W _ _ _ _ _ _ _ (14, [(0, .ref 1), (1, .int 0), (2, .int (nI a))], [.int (cmp0 (ov a))], wC ov un (nI n) dp fa cu st fi se th db cn F, 0)
  exact mm_ret (mm_call_mono _ _) (c := True) (r := .inl (some (.int (cmp0 (ov a))))) (M := wC ov un (nI n) dp fa cu st fi se th db cn F) (u := 0) rfl trivial (by decide) (hQ _ _ _ _ _ (sg_fin (stl_0 hfa hn) (Nat.le_refl 0) (fun q0 => by rw [cmp0_s]; unfold nsg0; rw [← A.2 q0 0 (by omega)]; rfl) f_0 (cmp0_3 _)))

set_option maxRecDepth 100000 in
theorem at_N_signOf_1 {d : Nat} {ov un : Nat → Int32} {dp fa : Int32} {cu : mm_cu} {st fi se th db : Nat → Int32} {cn : Int32} {F : mm_M} {n a : Nat} {x R1 : Nat → fr} {Q : mm_R → mm_M → Prop} (hfa : mm_z fa) (hn : 308 ≤ n ∧ n ≤ 1332) (P : isAt ov un n fa 1 0 R1) (A : isAt ov un n fa 2 a x) (hQ : ∀ (ov1 un1 : Nat → Int32) (n1 : Nat) (fa1 v : Int32), sgR ov un n fa 20 (nsg1 R1 x) ov1 un1 n1 fa1 v → Q (.inl (some (.int v))) (wC ov1 un1 (nI n1) dp fa1 cu st fi se th db cn F)) : mm_call mm_Tb (d + 4) 147 [.ref 1, .int 1, .int (nI a)] (wC ov un (nI n) dp fa cu st fi se th db cn F) Q := by
  have ha1 := A.1.1
  have s0 := stl_0 (ov := ov) (un := un) hfa hn
  have F0 : fa = 1 → fa = 0 → n + 20 ≤ 1332 → nsg1 R1 x = none := f_0
  have E0 : fa = 0 → nsg1 R1 x = Option.bind (nsg0 x) (fun s => (nsg0 (sh 1 x)).bind fun t => if t = 0 ∨ t = s then some s else if s = 0 then some t else (nmul0 (sh 1 x) (sh 1 x)).bind fun bb => (nmul0 (g4 bb) R1).bind fun bbr => (nmul0 x x).bind fun aa => (nneg 1 (g4 bbr)).bind fun nb => (nadd 1 (g4 aa) (g4 nb)).bind fun nn => (nsg0 (g4 nn)).bind fun u => some (s * u)) := fun _ => rfl
  refine mm_in mt_147 (Nat.le_of_ble_eq_true rfl) ?_
  show mm_W _ _ _ _ _ _ _ (0, [(0, .ref 1), (1, .int 1), (2, .int (nI a))], [], wC ov un (nI n) dp fa cu st fi se th db cn F, 0)
  refine mm_skip (mm_call_mono _ _) 1 (st' := (1, [(0, .ref 1), (1, .int 1), (2, .int (nI a))], [.int 1], wC ov un (nI n) dp fa cu st fi se th db cn F, 0)) rfl ?_
  refine mm_branch (mm_call_mono _ _) (c := (0 : Int32) < 1) (s1 := (15, [(0, .ref 1), (1, .int 1), (2, .int (nI a))], [], wC ov un (nI n) dp fa cu st fi se th db cn F, 0)) (s2 := (4, [(0, .ref 1), (1, .int 1), (2, .int (nI a))], [], wC ov un (nI n) dp fa cu st fi se th db cn F, 0)) rfl (fun _ => ?_) (fun h => absurd (by decide) h)
  refine mm_skip (mm_call_mono _ _) 13 (st' := (29, [(4, .int ((nI a) + 1)), (3, .int 0), (0, .ref 1), (1, .int 1), (2, .int (nI a))], [.int (nI a), .int 0, .ref 1], wC ov un (nI n) dp fa cu st fi se th db cn F, 0)) rfl ?_
  rw [nI_p1 (a)]
  show mm_W _ _ _ _ _ _ _ (29, [(4, .int (nI (a + 1))), (3, .int 0), (0, .ref 1), (1, .int 1), (2, .int (nI a))], [.int (nI a), .int 0, .ref 1], wC ov un (nI n) dp fa cu st fi se th db cn F, 0)
  refine mm_inv (mm_call_mono _ _) (j := 147) (a := [.ref 1, .int 0, .int (nI a)]) (M := wC ov un (nI n) dp fa cu st fi se th db cn F) (u := 0) rfl (by decide) (at_N_signOf_0 s0.2.1 s0.1 (at_lo A (by omega)) (fun ov1 un1 n1 fa1 vs h0 => ?_))
  show mm_W _ _ _ _ _ _ _ (32, [(4, .int (nI (a + 1))), (3, .int 0), (0, .ref 1), (1, .int 1), (2, .int (nI a))], [.int vs], wC ov1 un1 (nI n1) dp fa1 cu st fi se th db cn F, 0)
  have s1 := stl_g s0 h0
  have F1 := sg_f s0 F0 E0 h0 (by omega)
  have E1 := sg_e E0 h0
  have A1 := at_keep A (sg_k h0)
  have P1 := at_keep P (sg_k h0)
  refine mm_skip (mm_call_mono _ _) 4 (st' := (38, [(5, .int vs), (4, .int (nI (a + 1))), (3, .int 0), (0, .ref 1), (1, .int 1), (2, .int (nI a))], [.int (nI (a + 1)), .int 0, .ref 1], wC ov1 un1 (nI n1) dp fa1 cu st fi se th db cn F, 0)) rfl ?_
  refine mm_inv (mm_call_mono _ _) (j := 147) (a := [.ref 1, .int 0, .int (nI (a + 1))]) (M := wC ov1 un1 (nI n1) dp fa1 cu st fi se th db cn F) (u := 0) rfl (by decide) (at_N_signOf_0 s1.2.1 s1.1 (at_hi A1 1 (by omega)) (fun ov2 un2 n2 fa2 vt h1 => ?_))
  show mm_W _ _ _ _ _ _ _ (41, [(5, .int vs), (4, .int (nI (a + 1))), (3, .int 0), (0, .ref 1), (1, .int 1), (2, .int (nI a))], [.int vt], wC ov2 un2 (nI n2) dp fa2 cu st fi se th db cn F, 0)
  have s2 := stl_g s1 h1
  have F2 := sg_f s1 F1 E1 h1 (by omega)
  have E2 := sg_e E1 h1
  have A2 := at_keep A1 (sg_k h1)
  have P2 := at_keep P1 (sg_k h1)
  refine mm_skip (mm_call_mono _ _) 2 (st' := (45, [(6, .int vt), (5, .int vs), (4, .int (nI (a + 1))), (3, .int 0), (0, .ref 1), (1, .int 1), (2, .int (nI a))], [.int vt], wC ov2 un2 (nI n2) dp fa2 cu st fi se th db cn F, 0)) rfl ?_
  refine mm_branch (mm_call_mono _ _) (c := vt = 0) (s1 := (55, [(6, .int vt), (5, .int vs), (4, .int (nI (a + 1))), (3, .int 0), (0, .ref 1), (1, .int 1), (2, .int (nI a))], [], wC ov2 un2 (nI n2) dp fa2 cu st fi se th db cn F, 0)) (s2 := (48, [(6, .int vt), (5, .int vs), (4, .int (nI (a + 1))), (3, .int 0), (0, .ref 1), (1, .int 1), (2, .int (nI a))], [], wC ov2 un2 (nI n2) dp fa2 cu st fi se th db cn F, 0)) rfl (fun t0 => ?_) (fun t0 => ?_)
  · skip
    refine mm_skip (mm_call_mono _ _) 1 (st' := (57, [(6, .int vt), (5, .int vs), (4, .int (nI (a + 1))), (3, .int 0), (0, .ref 1), (1, .int 1), (2, .int (nI a))], [.int vs], wC ov2 un2 (nI n2) dp fa2 cu st fi se th db cn F, 0)) rfl ?_
    exact mm_ret (mm_call_mono _ _) (c := True) (r := .inl (some (.int vs))) (M := wC ov2 un2 (nI n2) dp fa2 cu st fi se th db cn F) (u := 0) rfl trivial (by decide) (hQ _ _ _ _ _ (sg_fin s2 (by omega) (fun q0 => (E2 q0).trans (if_pos (Or.inl (by rw [t0]; decide)))) F2 h0.2.2.2.2.2.2))
  · skip
    refine mm_skip (mm_call_mono _ _) 2 (st' := (52, [(6, .int vt), (5, .int vs), (4, .int (nI (a + 1))), (3, .int 0), (0, .ref 1), (1, .int 1), (2, .int (nI a))], [.int vs, .int vt], wC ov2 un2 (nI n2) dp fa2 cu st fi se th db cn F, 0)) rfl ?_
    refine mm_branch (mm_call_mono _ _) (c := vt = vs) (s1 := (55, [(6, .int vt), (5, .int vs), (4, .int (nI (a + 1))), (3, .int 0), (0, .ref 1), (1, .int 1), (2, .int (nI a))], [], wC ov2 un2 (nI n2) dp fa2 cu st fi se th db cn F, 0)) (s2 := (58, [(6, .int vt), (5, .int vs), (4, .int (nI (a + 1))), (3, .int 0), (0, .ref 1), (1, .int 1), (2, .int (nI a))], [], wC ov2 un2 (nI n2) dp fa2 cu st fi se th db cn F, 0)) rfl (fun ts => ?_) (fun ts => ?_)
    · skip
      refine mm_skip (mm_call_mono _ _) 1 (st' := (57, [(6, .int vt), (5, .int vs), (4, .int (nI (a + 1))), (3, .int 0), (0, .ref 1), (1, .int 1), (2, .int (nI a))], [.int vs], wC ov2 un2 (nI n2) dp fa2 cu st fi se th db cn F, 0)) rfl ?_
      exact mm_ret (mm_call_mono _ _) (c := True) (r := .inl (some (.int vs))) (M := wC ov2 un2 (nI n2) dp fa2 cu st fi se th db cn F) (u := 0) rfl trivial (by decide) (hQ _ _ _ _ _ (sg_fin s2 (by omega) (fun q0 => (E2 q0).trans (if_pos (Or.inr (by rw [ts])))) F2 h0.2.2.2.2.2.2))
    · skip
      refine mm_skip (mm_call_mono _ _) 1 (st' := (60, [(6, .int vt), (5, .int vs), (4, .int (nI (a + 1))), (3, .int 0), (0, .ref 1), (1, .int 1), (2, .int (nI a))], [.int vs], wC ov2 un2 (nI n2) dp fa2 cu st fi se th db cn F, 0)) rfl ?_
      refine mm_branch (mm_call_mono _ _) (c := vs = 0) (s1 := (63, [(6, .int vt), (5, .int vs), (4, .int (nI (a + 1))), (3, .int 0), (0, .ref 1), (1, .int 1), (2, .int (nI a))], [], wC ov2 un2 (nI n2) dp fa2 cu st fi se th db cn F, 0)) (s2 := (66, [(6, .int vt), (5, .int vs), (4, .int (nI (a + 1))), (3, .int 0), (0, .ref 1), (1, .int 1), (2, .int (nI a))], [], wC ov2 un2 (nI n2) dp fa2 cu st fi se th db cn F, 0)) rfl (fun z0 => ?_) (fun z0 => ?_)
      · skip
        refine mm_skip (mm_call_mono _ _) 1 (st' := (65, [(6, .int vt), (5, .int vs), (4, .int (nI (a + 1))), (3, .int 0), (0, .ref 1), (1, .int 1), (2, .int (nI a))], [.int vt], wC ov2 un2 (nI n2) dp fa2 cu st fi se th db cn F, 0)) rfl ?_
        exact mm_ret (mm_call_mono _ _) (c := True) (r := .inl (some (.int vt))) (M := wC ov2 un2 (nI n2) dp fa2 cu st fi se th db cn F) (u := 0) rfl trivial (by decide) (hQ _ _ _ _ _ (sg_fin s2 (by omega) (fun q0 => (E2 q0).trans ((if_neg (fun q => q.elim (fun q => t0 (sg3_i (q.trans (by decide)))) (fun q => ts (sg3_i q)))).trans (if_pos (by rw [z0]; decide)))) F2 h1.2.2.2.2.2.2))
      · skip

        refine mm_skip (mm_call_mono _ _) 6 (st' := (74, [(6, .int vt), (5, .int vs), (4, .int (nI (a + 1))), (3, .int 0), (0, .ref 1), (1, .int 1), (2, .int (nI a))], [.int (nI (a + 1)), .int (nI (a + 1)), .int 0, .ref 1, .int 0, .ref 1], wC ov2 un2 (nI n2) dp fa2 cu st fi se th db cn F, 0)) rfl ?_
        have E2 := fun q0 => (E2 q0).trans ((if_neg (fun q => q.elim (fun q => t0 (sg3_i (q.trans (by decide)))) (fun q => ts (sg3_i q)))).trans (if_neg (fun q => z0 (sg3_i (q.trans (by decide))))))
        refine mm_inv (mm_call_mono _ _) (j := 145) (a := [.ref 1, .int 0, .int (nI (a + 1)), .int (nI (a + 1))]) (M := wC ov2 un2 (nI n2) dp fa2 cu st fi se th db cn F) (u := 0) rfl (by decide) (at_N_product_0 s2.2.1 s2.1 (at_hi A2 1 (by omega)) (at_hi A2 1 (by omega)) (fun ov3 un3 n3 fa3 ibb h2 => ?_))
        show mm_W _ _ _ _ _ _ _ (77, [(6, .int vt), (5, .int vs), (4, .int (nI (a + 1))), (3, .int 0), (0, .ref 1), (1, .int 1), (2, .int (nI a))], [.int (nI ibb), .int 0, .ref 1], wC ov3 un3 (nI n3) dp fa3 cu st fi se th db cn F, 0)
        have s3 := stl_s s2 h2
        have F3 := sq_f s2 F2 E2 h2 (by omega)
        have E3 := seq_e E2 h2
        have A3 := at_keep A2 (op_k h2)
        have P3 := at_keep P2 (op_k h2)
        have bb3 := at_new h2
        refine mm_skip (mm_call_mono _ _) 1 (st' := (78, [(6, .int vt), (5, .int vs), (4, .int (nI (a + 1))), (3, .int 0), (0, .ref 1), (1, .int 1), (2, .int (nI a))], [.int 1, .int (nI ibb), .int 0, .ref 1], wC ov3 un3 (nI n3) dp fa3 cu st fi se th db cn F, 0)) rfl ?_
        refine mm_inv (mm_call_mono _ _) (j := 120) (a := [.int 1]) (M := wC ov3 un3 (nI n3) dp fa3 cu st fi se th db cn F) (u := 0) rfl (by decide) (ct_N_radicandOf_1 ?_)
        show mm_W _ _ _ _ _ _ _ (81, [(6, .int vt), (5, .int vs), (4, .int (nI (a + 1))), (3, .int 0), (0, .ref 1), (1, .int 1), (2, .int (nI a))], [.int (nI 0), .int (nI ibb), .int 0, .ref 1], wC ov3 un3 (nI n3) dp fa3 cu st fi se th db cn F, 0)
        refine mm_inv (mm_call_mono _ _) (j := 145) (a := [.ref 1, .int 0, .int (nI ibb), .int (nI 0)]) (M := wC ov3 un3 (nI n3) dp fa3 cu st fi se th db cn F) (u := 0) rfl (by decide) (at_N_product_0 s3.2.1 s3.1 (at_lo bb3 (by omega)) P3 (fun ov4 un4 n4 fa4 ibbr h3 => ?_))
        show mm_W _ _ _ _ _ _ _ (84, [(6, .int vt), (5, .int vs), (4, .int (nI (a + 1))), (3, .int 0), (0, .ref 1), (1, .int 1), (2, .int (nI a))], [.int (nI ibbr)], wC ov4 un4 (nI n4) dp fa4 cu st fi se th db cn F, 0)
        have s4 := stl_s s3 h3
        have F4 := sq_f s3 F3 E3 h3 (by omega)
        have E4 := seq_e E3 h3
        have A4 := at_keep A3 (op_k h3)
        have P4 := at_keep P3 (op_k h3)
        have bb4 := at_keep bb3 (op_k h3)
        have bbr4 := at_new h3
        refine mm_skip (mm_call_mono _ _) 10 (st' := (96, [(7, .int (nI ibbr)), (6, .int vt), (5, .int vs), (4, .int (nI (a + 1))), (3, .int 0), (0, .ref 1), (1, .int 1), (2, .int (nI a))], [.int (nI a), .int (nI a), .int 0, .ref 1, .int 0, .ref 1, .int 0, .ref 1, .int vs], wC ov4 un4 (nI n4) dp fa4 cu st fi se th db cn F, 0)) rfl ?_
        refine mm_inv (mm_call_mono _ _) (j := 145) (a := [.ref 1, .int 0, .int (nI a), .int (nI a)]) (M := wC ov4 un4 (nI n4) dp fa4 cu st fi se th db cn F) (u := 0) rfl (by decide) (at_N_product_0 s4.2.1 s4.1 (at_lo A4 (by omega)) (at_lo A4 (by omega)) (fun ov5 un5 n5 fa5 iaa h4 => ?_))
        show mm_W _ _ _ _ _ _ _ (99, [(7, .int (nI ibbr)), (6, .int vt), (5, .int vs), (4, .int (nI (a + 1))), (3, .int 0), (0, .ref 1), (1, .int 1), (2, .int (nI a))], [.int (nI iaa), .int 0, .ref 1, .int 0, .ref 1, .int vs], wC ov5 un5 (nI n5) dp fa5 cu st fi se th db cn F, 0)
        have s5 := stl_s s4 h4
        have F5 := sq_f s4 F4 E4 h4 (by omega)
        have E5 := seq_e E4 h4
        have A5 := at_keep A4 (op_k h4)
        have P5 := at_keep P4 (op_k h4)
        have bbr5 := at_keep bbr4 (op_k h4)
        have aa5 := at_new h4
        refine mm_skip (mm_call_mono _ _) 3 (st' := (103, [(7, .int (nI ibbr)), (6, .int vt), (5, .int vs), (4, .int (nI (a + 1))), (3, .int 0), (0, .ref 1), (1, .int 1), (2, .int (nI a))], [.int (nI ibbr), .int 0, .ref 1, .int (nI iaa), .int 0, .ref 1, .int 0, .ref 1, .int vs], wC ov5 un5 (nI n5) dp fa5 cu st fi se th db cn F, 0)) rfl ?_
        refine mm_inv (mm_call_mono _ _) (j := 143) (a := [.ref 1, .int 0, .int (nI ibbr)]) (M := wC ov5 un5 (nI n5) dp fa5 cu st fi se th db cn F) (u := 0) rfl (by decide) (at_N_negative_0 s5.2.1 s5.1 (at_lo bbr5 (by omega)) (fun ov6 un6 n6 fa6 inb h5 => ?_))
        show mm_W _ _ _ _ _ _ _ (106, [(7, .int (nI ibbr)), (6, .int vt), (5, .int vs), (4, .int (nI (a + 1))), (3, .int 0), (0, .ref 1), (1, .int 1), (2, .int (nI a))], [.int (nI inb), .int (nI iaa), .int 0, .ref 1, .int 0, .ref 1, .int vs], wC ov6 un6 (nI n6) dp fa6 cu st fi se th db cn F, 0)
        have s6 := stl_s s5 h5
        have F6 := sq_f s5 F5 E5 h5 (by omega)
        have E6 := seq_e E5 h5
        have A6 := at_keep A5 (op_k h5)
        have P6 := at_keep P5 (op_k h5)
        have bbr6 := at_keep bbr5 (op_k h5)
        have aa6 := at_keep aa5 (op_k h5)
        have nb6 := at_new h5
        refine mm_inv (mm_call_mono _ _) (j := 142) (a := [.ref 1, .int 0, .int (nI iaa), .int (nI inb)]) (M := wC ov6 un6 (nI n6) dp fa6 cu st fi se th db cn F) (u := 0) rfl (by decide) (at_N_sum_0 s6.2.1 s6.1 (at_lo aa6 (by omega)) (at_lo nb6 (by omega)) (fun ov7 un7 n7 fa7 inn h6 => ?_))
        show mm_W _ _ _ _ _ _ _ (109, [(7, .int (nI ibbr)), (6, .int vt), (5, .int vs), (4, .int (nI (a + 1))), (3, .int 0), (0, .ref 1), (1, .int 1), (2, .int (nI a))], [.int (nI inn), .int 0, .ref 1, .int vs], wC ov7 un7 (nI n7) dp fa7 cu st fi se th db cn F, 0)
        have s7 := stl_s s6 h6
        have F7 := sq_f s6 F6 E6 h6 (by omega)
        have E7 := seq_e E6 h6
        have A7 := at_keep A6 (op_k h6)
        have P7 := at_keep P6 (op_k h6)
        have aa7 := at_keep aa6 (op_k h6)
        have nb7 := at_keep nb6 (op_k h6)
        have nn7 := at_new h6
        refine mm_inv (mm_call_mono _ _) (j := 147) (a := [.ref 1, .int 0, .int (nI inn)]) (M := wC ov7 un7 (nI n7) dp fa7 cu st fi se th db cn F) (u := 0) rfl (by decide) (at_N_signOf_0 s7.2.1 s7.1 (at_lo nn7 (by omega)) (fun ov8 un8 n8 fa8 vu h7 => ?_))
        show mm_W _ _ _ _ _ _ _ (112, [(7, .int (nI ibbr)), (6, .int vt), (5, .int vs), (4, .int (nI (a + 1))), (3, .int 0), (0, .ref 1), (1, .int 1), (2, .int (nI a))], [.int vu, .int vs], wC ov8 un8 (nI n8) dp fa8 cu st fi se th db cn F, 0)
        have s8 := stl_g s7 h7
        have F8 := sg_f s7 F7 E7 h7 (by omega)
        have E8 := sg_e E7 h7
        have A8 := at_keep A7 (sg_k h7)
        have P8 := at_keep P7 (sg_k h7)
        have nn8 := at_keep nn7 (sg_k h7)
        refine mm_skip (mm_call_mono _ _) 1 (st' := (113, [(7, .int (nI ibbr)), (6, .int vt), (5, .int vs), (4, .int (nI (a + 1))), (3, .int 0), (0, .ref 1), (1, .int 1), (2, .int (nI a))], [.int (vs * vu)], wC ov8 un8 (nI n8) dp fa8 cu st fi se th db cn F, 0)) rfl ?_
        exact mm_ret (mm_call_mono _ _) (c := True) (r := .inl (some (.int (vs * vu)))) (M := wC ov8 un8 (nI n8) dp fa8 cu st fi se th db cn F) (u := 0) rfl trivial (by decide) (hQ _ _ _ _ _ (sg_fin s8 (by omega) (fun q0 => by rw [(sg3_mul h0.2.2.2.2.2.2 h7.2.2.2.2.2.2).2]; exact E8 q0) F8 (sg3_mul h0.2.2.2.2.2.2 h7.2.2.2.2.2.2).1))

set_option maxRecDepth 100000 in
theorem at_N_signOf_2 {d : Nat} {ov un : Nat → Int32} {dp fa : Int32} {cu : mm_cu} {st fi se th db : Nat → Int32} {cn : Int32} {F : mm_M} {n a : Nat} {x R1 R2 : Nat → fr} {Q : mm_R → mm_M → Prop} (hfa : mm_z fa) (hn : 308 ≤ n ∧ n ≤ 1332) (P : isAt ov un n fa 1 0 R1) (S : isAt ov un n fa 2 4 R2) (A : isAt ov un n fa 4 a x) (hQ : ∀ (ov1 un1 : Nat → Int32) (n1 : Nat) (fa1 v : Int32), sgR ov un n fa 80 (nsg2 R1 R2 x) ov1 un1 n1 fa1 v → Q (.inl (some (.int v))) (wC ov1 un1 (nI n1) dp fa1 cu st fi se th db cn F)) : mm_call mm_Tb (d + 5) 147 [.ref 1, .int 2, .int (nI a)] (wC ov un (nI n) dp fa cu st fi se th db cn F) Q := by
  have ha1 := A.1.1
  have s0 := stl_0 (ov := ov) (un := un) hfa hn
  have F0 : fa = 1 → fa = 0 → n + 80 ≤ 1332 → nsg2 R1 R2 x = none := f_0
  have E0 : fa = 0 → nsg2 R1 R2 x = Option.bind ((nsg1 R1) x) (fun s => ((nsg1 R1) (sh 2 x)).bind fun t => if t = 0 ∨ t = s then some s else if s = 0 then some t else ((nmul1 R1) (sh 2 x) (sh 2 x)).bind fun bb => ((nmul1 R1) (g4 bb) R2).bind fun bbr => ((nmul1 R1) x x).bind fun aa => (nneg 2 (g4 bbr)).bind fun nb => (nadd 2 (g4 aa) (g4 nb)).bind fun nn => ((nsg1 R1) (g4 nn)).bind fun u => some (s * u)) := fun _ => rfl
  refine mm_in mt_147 (Nat.le_of_ble_eq_true rfl) ?_
  show mm_W _ _ _ _ _ _ _ (0, [(0, .ref 1), (1, .int 2), (2, .int (nI a))], [], wC ov un (nI n) dp fa cu st fi se th db cn F, 0)
  refine mm_skip (mm_call_mono _ _) 1 (st' := (1, [(0, .ref 1), (1, .int 2), (2, .int (nI a))], [.int 2], wC ov un (nI n) dp fa cu st fi se th db cn F, 0)) rfl ?_
  refine mm_branch (mm_call_mono _ _) (c := (0 : Int32) < 2) (s1 := (15, [(0, .ref 1), (1, .int 2), (2, .int (nI a))], [], wC ov un (nI n) dp fa cu st fi se th db cn F, 0)) (s2 := (4, [(0, .ref 1), (1, .int 2), (2, .int (nI a))], [], wC ov un (nI n) dp fa cu st fi se th db cn F, 0)) rfl (fun _ => ?_) (fun h => absurd (by decide) h)
  refine mm_skip (mm_call_mono _ _) 13 (st' := (29, [(4, .int ((nI a) + 2)), (3, .int 1), (0, .ref 1), (1, .int 2), (2, .int (nI a))], [.int (nI a), .int 1, .ref 1], wC ov un (nI n) dp fa cu st fi se th db cn F, 0)) rfl ?_
  rw [nI_p2 (a)]
  show mm_W _ _ _ _ _ _ _ (29, [(4, .int (nI (a + 2))), (3, .int 1), (0, .ref 1), (1, .int 2), (2, .int (nI a))], [.int (nI a), .int 1, .ref 1], wC ov un (nI n) dp fa cu st fi se th db cn F, 0)
  refine mm_inv (mm_call_mono _ _) (j := 147) (a := [.ref 1, .int 1, .int (nI a)]) (M := wC ov un (nI n) dp fa cu st fi se th db cn F) (u := 0) rfl (by decide) (at_N_signOf_1 s0.2.1 s0.1 P (at_lo A (by omega)) (fun ov1 un1 n1 fa1 vs h0 => ?_))
  show mm_W _ _ _ _ _ _ _ (32, [(4, .int (nI (a + 2))), (3, .int 1), (0, .ref 1), (1, .int 2), (2, .int (nI a))], [.int vs], wC ov1 un1 (nI n1) dp fa1 cu st fi se th db cn F, 0)
  have s1 := stl_g s0 h0
  have F1 := sg_f s0 F0 E0 h0 (by omega)
  have E1 := sg_e E0 h0
  have A1 := at_keep A (sg_k h0)
  have P1 := at_keep P (sg_k h0)
  have S1 := at_keep S (sg_k h0)
  refine mm_skip (mm_call_mono _ _) 4 (st' := (38, [(5, .int vs), (4, .int (nI (a + 2))), (3, .int 1), (0, .ref 1), (1, .int 2), (2, .int (nI a))], [.int (nI (a + 2)), .int 1, .ref 1], wC ov1 un1 (nI n1) dp fa1 cu st fi se th db cn F, 0)) rfl ?_
  refine mm_inv (mm_call_mono _ _) (j := 147) (a := [.ref 1, .int 1, .int (nI (a + 2))]) (M := wC ov1 un1 (nI n1) dp fa1 cu st fi se th db cn F) (u := 0) rfl (by decide) (at_N_signOf_1 s1.2.1 s1.1 P1 (at_hi A1 2 (by omega)) (fun ov2 un2 n2 fa2 vt h1 => ?_))
  show mm_W _ _ _ _ _ _ _ (41, [(5, .int vs), (4, .int (nI (a + 2))), (3, .int 1), (0, .ref 1), (1, .int 2), (2, .int (nI a))], [.int vt], wC ov2 un2 (nI n2) dp fa2 cu st fi se th db cn F, 0)
  have s2 := stl_g s1 h1
  have F2 := sg_f s1 F1 E1 h1 (by omega)
  have E2 := sg_e E1 h1
  have A2 := at_keep A1 (sg_k h1)
  have P2 := at_keep P1 (sg_k h1)
  have S2 := at_keep S1 (sg_k h1)
  refine mm_skip (mm_call_mono _ _) 2 (st' := (45, [(6, .int vt), (5, .int vs), (4, .int (nI (a + 2))), (3, .int 1), (0, .ref 1), (1, .int 2), (2, .int (nI a))], [.int vt], wC ov2 un2 (nI n2) dp fa2 cu st fi se th db cn F, 0)) rfl ?_
  refine mm_branch (mm_call_mono _ _) (c := vt = 0) (s1 := (55, [(6, .int vt), (5, .int vs), (4, .int (nI (a + 2))), (3, .int 1), (0, .ref 1), (1, .int 2), (2, .int (nI a))], [], wC ov2 un2 (nI n2) dp fa2 cu st fi se th db cn F, 0)) (s2 := (48, [(6, .int vt), (5, .int vs), (4, .int (nI (a + 2))), (3, .int 1), (0, .ref 1), (1, .int 2), (2, .int (nI a))], [], wC ov2 un2 (nI n2) dp fa2 cu st fi se th db cn F, 0)) rfl (fun t0 => ?_) (fun t0 => ?_)
  · skip
    refine mm_skip (mm_call_mono _ _) 1 (st' := (57, [(6, .int vt), (5, .int vs), (4, .int (nI (a + 2))), (3, .int 1), (0, .ref 1), (1, .int 2), (2, .int (nI a))], [.int vs], wC ov2 un2 (nI n2) dp fa2 cu st fi se th db cn F, 0)) rfl ?_
    exact mm_ret (mm_call_mono _ _) (c := True) (r := .inl (some (.int vs))) (M := wC ov2 un2 (nI n2) dp fa2 cu st fi se th db cn F) (u := 0) rfl trivial (by decide) (hQ _ _ _ _ _ (sg_fin s2 (by omega) (fun q0 => (E2 q0).trans (if_pos (Or.inl (by rw [t0]; decide)))) F2 h0.2.2.2.2.2.2))
  · skip
    refine mm_skip (mm_call_mono _ _) 2 (st' := (52, [(6, .int vt), (5, .int vs), (4, .int (nI (a + 2))), (3, .int 1), (0, .ref 1), (1, .int 2), (2, .int (nI a))], [.int vs, .int vt], wC ov2 un2 (nI n2) dp fa2 cu st fi se th db cn F, 0)) rfl ?_
    refine mm_branch (mm_call_mono _ _) (c := vt = vs) (s1 := (55, [(6, .int vt), (5, .int vs), (4, .int (nI (a + 2))), (3, .int 1), (0, .ref 1), (1, .int 2), (2, .int (nI a))], [], wC ov2 un2 (nI n2) dp fa2 cu st fi se th db cn F, 0)) (s2 := (58, [(6, .int vt), (5, .int vs), (4, .int (nI (a + 2))), (3, .int 1), (0, .ref 1), (1, .int 2), (2, .int (nI a))], [], wC ov2 un2 (nI n2) dp fa2 cu st fi se th db cn F, 0)) rfl (fun ts => ?_) (fun ts => ?_)
    · skip
      refine mm_skip (mm_call_mono _ _) 1 (st' := (57, [(6, .int vt), (5, .int vs), (4, .int (nI (a + 2))), (3, .int 1), (0, .ref 1), (1, .int 2), (2, .int (nI a))], [.int vs], wC ov2 un2 (nI n2) dp fa2 cu st fi se th db cn F, 0)) rfl ?_
      exact mm_ret (mm_call_mono _ _) (c := True) (r := .inl (some (.int vs))) (M := wC ov2 un2 (nI n2) dp fa2 cu st fi se th db cn F) (u := 0) rfl trivial (by decide) (hQ _ _ _ _ _ (sg_fin s2 (by omega) (fun q0 => (E2 q0).trans (if_pos (Or.inr (by rw [ts])))) F2 h0.2.2.2.2.2.2))
    · skip
      refine mm_skip (mm_call_mono _ _) 1 (st' := (60, [(6, .int vt), (5, .int vs), (4, .int (nI (a + 2))), (3, .int 1), (0, .ref 1), (1, .int 2), (2, .int (nI a))], [.int vs], wC ov2 un2 (nI n2) dp fa2 cu st fi se th db cn F, 0)) rfl ?_
      refine mm_branch (mm_call_mono _ _) (c := vs = 0) (s1 := (63, [(6, .int vt), (5, .int vs), (4, .int (nI (a + 2))), (3, .int 1), (0, .ref 1), (1, .int 2), (2, .int (nI a))], [], wC ov2 un2 (nI n2) dp fa2 cu st fi se th db cn F, 0)) (s2 := (66, [(6, .int vt), (5, .int vs), (4, .int (nI (a + 2))), (3, .int 1), (0, .ref 1), (1, .int 2), (2, .int (nI a))], [], wC ov2 un2 (nI n2) dp fa2 cu st fi se th db cn F, 0)) rfl (fun z0 => ?_) (fun z0 => ?_)
      · skip
        refine mm_skip (mm_call_mono _ _) 1 (st' := (65, [(6, .int vt), (5, .int vs), (4, .int (nI (a + 2))), (3, .int 1), (0, .ref 1), (1, .int 2), (2, .int (nI a))], [.int vt], wC ov2 un2 (nI n2) dp fa2 cu st fi se th db cn F, 0)) rfl ?_
        exact mm_ret (mm_call_mono _ _) (c := True) (r := .inl (some (.int vt))) (M := wC ov2 un2 (nI n2) dp fa2 cu st fi se th db cn F) (u := 0) rfl trivial (by decide) (hQ _ _ _ _ _ (sg_fin s2 (by omega) (fun q0 => (E2 q0).trans ((if_neg (fun q => q.elim (fun q => t0 (sg3_i (q.trans (by decide)))) (fun q => ts (sg3_i q)))).trans (if_pos (by rw [z0]; decide)))) F2 h1.2.2.2.2.2.2))
      · skip

        refine mm_skip (mm_call_mono _ _) 6 (st' := (74, [(6, .int vt), (5, .int vs), (4, .int (nI (a + 2))), (3, .int 1), (0, .ref 1), (1, .int 2), (2, .int (nI a))], [.int (nI (a + 2)), .int (nI (a + 2)), .int 1, .ref 1, .int 1, .ref 1], wC ov2 un2 (nI n2) dp fa2 cu st fi se th db cn F, 0)) rfl ?_
        have E2 := fun q0 => (E2 q0).trans ((if_neg (fun q => q.elim (fun q => t0 (sg3_i (q.trans (by decide)))) (fun q => ts (sg3_i q)))).trans (if_neg (fun q => z0 (sg3_i (q.trans (by decide))))))
        refine mm_inv (mm_call_mono _ _) (j := 145) (a := [.ref 1, .int 1, .int (nI (a + 2)), .int (nI (a + 2))]) (M := wC ov2 un2 (nI n2) dp fa2 cu st fi se th db cn F) (u := 0) rfl (by decide) (at_N_product_1 s2.2.1 s2.1 P2 (at_hi A2 2 (by omega)) (at_hi A2 2 (by omega)) (fun ov3 un3 n3 fa3 ibb h2 => ?_))
        show mm_W _ _ _ _ _ _ _ (77, [(6, .int vt), (5, .int vs), (4, .int (nI (a + 2))), (3, .int 1), (0, .ref 1), (1, .int 2), (2, .int (nI a))], [.int (nI ibb), .int 1, .ref 1], wC ov3 un3 (nI n3) dp fa3 cu st fi se th db cn F, 0)
        have s3 := stl_s s2 h2
        have F3 := sq_f s2 F2 E2 h2 (by omega)
        have E3 := seq_e E2 h2
        have A3 := at_keep A2 (op_k h2)
        have P3 := at_keep P2 (op_k h2)
        have S3 := at_keep S2 (op_k h2)
        have bb3 := at_new h2
        refine mm_skip (mm_call_mono _ _) 1 (st' := (78, [(6, .int vt), (5, .int vs), (4, .int (nI (a + 2))), (3, .int 1), (0, .ref 1), (1, .int 2), (2, .int (nI a))], [.int 2, .int (nI ibb), .int 1, .ref 1], wC ov3 un3 (nI n3) dp fa3 cu st fi se th db cn F, 0)) rfl ?_
        refine mm_inv (mm_call_mono _ _) (j := 120) (a := [.int 2]) (M := wC ov3 un3 (nI n3) dp fa3 cu st fi se th db cn F) (u := 0) rfl (by decide) (ct_N_radicandOf_2 ?_)
        show mm_W _ _ _ _ _ _ _ (81, [(6, .int vt), (5, .int vs), (4, .int (nI (a + 2))), (3, .int 1), (0, .ref 1), (1, .int 2), (2, .int (nI a))], [.int (nI 4), .int (nI ibb), .int 1, .ref 1], wC ov3 un3 (nI n3) dp fa3 cu st fi se th db cn F, 0)
        refine mm_inv (mm_call_mono _ _) (j := 145) (a := [.ref 1, .int 1, .int (nI ibb), .int (nI 4)]) (M := wC ov3 un3 (nI n3) dp fa3 cu st fi se th db cn F) (u := 0) rfl (by decide) (at_N_product_1 s3.2.1 s3.1 P3 (at_lo bb3 (by omega)) S3 (fun ov4 un4 n4 fa4 ibbr h3 => ?_))
        show mm_W _ _ _ _ _ _ _ (84, [(6, .int vt), (5, .int vs), (4, .int (nI (a + 2))), (3, .int 1), (0, .ref 1), (1, .int 2), (2, .int (nI a))], [.int (nI ibbr)], wC ov4 un4 (nI n4) dp fa4 cu st fi se th db cn F, 0)
        have s4 := stl_s s3 h3
        have F4 := sq_f s3 F3 E3 h3 (by omega)
        have E4 := seq_e E3 h3
        have A4 := at_keep A3 (op_k h3)
        have P4 := at_keep P3 (op_k h3)
        have S4 := at_keep S3 (op_k h3)
        have bb4 := at_keep bb3 (op_k h3)
        have bbr4 := at_new h3
        refine mm_skip (mm_call_mono _ _) 10 (st' := (96, [(7, .int (nI ibbr)), (6, .int vt), (5, .int vs), (4, .int (nI (a + 2))), (3, .int 1), (0, .ref 1), (1, .int 2), (2, .int (nI a))], [.int (nI a), .int (nI a), .int 1, .ref 1, .int 1, .ref 1, .int 1, .ref 1, .int vs], wC ov4 un4 (nI n4) dp fa4 cu st fi se th db cn F, 0)) rfl ?_
        refine mm_inv (mm_call_mono _ _) (j := 145) (a := [.ref 1, .int 1, .int (nI a), .int (nI a)]) (M := wC ov4 un4 (nI n4) dp fa4 cu st fi se th db cn F) (u := 0) rfl (by decide) (at_N_product_1 s4.2.1 s4.1 P4 (at_lo A4 (by omega)) (at_lo A4 (by omega)) (fun ov5 un5 n5 fa5 iaa h4 => ?_))
        show mm_W _ _ _ _ _ _ _ (99, [(7, .int (nI ibbr)), (6, .int vt), (5, .int vs), (4, .int (nI (a + 2))), (3, .int 1), (0, .ref 1), (1, .int 2), (2, .int (nI a))], [.int (nI iaa), .int 1, .ref 1, .int 1, .ref 1, .int vs], wC ov5 un5 (nI n5) dp fa5 cu st fi se th db cn F, 0)
        have s5 := stl_s s4 h4
        have F5 := sq_f s4 F4 E4 h4 (by omega)
        have E5 := seq_e E4 h4
        have A5 := at_keep A4 (op_k h4)
        have P5 := at_keep P4 (op_k h4)
        have S5 := at_keep S4 (op_k h4)
        have bbr5 := at_keep bbr4 (op_k h4)
        have aa5 := at_new h4
        refine mm_skip (mm_call_mono _ _) 3 (st' := (103, [(7, .int (nI ibbr)), (6, .int vt), (5, .int vs), (4, .int (nI (a + 2))), (3, .int 1), (0, .ref 1), (1, .int 2), (2, .int (nI a))], [.int (nI ibbr), .int 1, .ref 1, .int (nI iaa), .int 1, .ref 1, .int 1, .ref 1, .int vs], wC ov5 un5 (nI n5) dp fa5 cu st fi se th db cn F, 0)) rfl ?_
        refine mm_inv (mm_call_mono _ _) (j := 143) (a := [.ref 1, .int 1, .int (nI ibbr)]) (M := wC ov5 un5 (nI n5) dp fa5 cu st fi se th db cn F) (u := 0) rfl (by decide) (at_N_negative_1 s5.2.1 s5.1 (at_lo bbr5 (by omega)) (fun ov6 un6 n6 fa6 inb h5 => ?_))
        show mm_W _ _ _ _ _ _ _ (106, [(7, .int (nI ibbr)), (6, .int vt), (5, .int vs), (4, .int (nI (a + 2))), (3, .int 1), (0, .ref 1), (1, .int 2), (2, .int (nI a))], [.int (nI inb), .int (nI iaa), .int 1, .ref 1, .int 1, .ref 1, .int vs], wC ov6 un6 (nI n6) dp fa6 cu st fi se th db cn F, 0)
        have s6 := stl_s s5 h5
        have F6 := sq_f s5 F5 E5 h5 (by omega)
        have E6 := seq_e E5 h5
        have A6 := at_keep A5 (op_k h5)
        have P6 := at_keep P5 (op_k h5)
        have S6 := at_keep S5 (op_k h5)
        have bbr6 := at_keep bbr5 (op_k h5)
        have aa6 := at_keep aa5 (op_k h5)
        have nb6 := at_new h5
        refine mm_inv (mm_call_mono _ _) (j := 142) (a := [.ref 1, .int 1, .int (nI iaa), .int (nI inb)]) (M := wC ov6 un6 (nI n6) dp fa6 cu st fi se th db cn F) (u := 0) rfl (by decide) (at_N_sum_1 s6.2.1 s6.1 (at_lo aa6 (by omega)) (at_lo nb6 (by omega)) (fun ov7 un7 n7 fa7 inn h6 => ?_))
        show mm_W _ _ _ _ _ _ _ (109, [(7, .int (nI ibbr)), (6, .int vt), (5, .int vs), (4, .int (nI (a + 2))), (3, .int 1), (0, .ref 1), (1, .int 2), (2, .int (nI a))], [.int (nI inn), .int 1, .ref 1, .int vs], wC ov7 un7 (nI n7) dp fa7 cu st fi se th db cn F, 0)
        have s7 := stl_s s6 h6
        have F7 := sq_f s6 F6 E6 h6 (by omega)
        have E7 := seq_e E6 h6
        have A7 := at_keep A6 (op_k h6)
        have P7 := at_keep P6 (op_k h6)
        have S7 := at_keep S6 (op_k h6)
        have aa7 := at_keep aa6 (op_k h6)
        have nb7 := at_keep nb6 (op_k h6)
        have nn7 := at_new h6
        refine mm_inv (mm_call_mono _ _) (j := 147) (a := [.ref 1, .int 1, .int (nI inn)]) (M := wC ov7 un7 (nI n7) dp fa7 cu st fi se th db cn F) (u := 0) rfl (by decide) (at_N_signOf_1 s7.2.1 s7.1 P7 (at_lo nn7 (by omega)) (fun ov8 un8 n8 fa8 vu h7 => ?_))
        show mm_W _ _ _ _ _ _ _ (112, [(7, .int (nI ibbr)), (6, .int vt), (5, .int vs), (4, .int (nI (a + 2))), (3, .int 1), (0, .ref 1), (1, .int 2), (2, .int (nI a))], [.int vu, .int vs], wC ov8 un8 (nI n8) dp fa8 cu st fi se th db cn F, 0)
        have s8 := stl_g s7 h7
        have F8 := sg_f s7 F7 E7 h7 (by omega)
        have E8 := sg_e E7 h7
        have A8 := at_keep A7 (sg_k h7)
        have P8 := at_keep P7 (sg_k h7)
        have S8 := at_keep S7 (sg_k h7)
        have nn8 := at_keep nn7 (sg_k h7)
        refine mm_skip (mm_call_mono _ _) 1 (st' := (113, [(7, .int (nI ibbr)), (6, .int vt), (5, .int vs), (4, .int (nI (a + 2))), (3, .int 1), (0, .ref 1), (1, .int 2), (2, .int (nI a))], [.int (vs * vu)], wC ov8 un8 (nI n8) dp fa8 cu st fi se th db cn F, 0)) rfl ?_
        exact mm_ret (mm_call_mono _ _) (c := True) (r := .inl (some (.int (vs * vu)))) (M := wC ov8 un8 (nI n8) dp fa8 cu st fi se th db cn F) (u := 0) rfl trivial (by decide) (hQ _ _ _ _ _ (sg_fin s8 (by omega) (fun q0 => by rw [(sg3_mul h0.2.2.2.2.2.2 h7.2.2.2.2.2.2).2]; exact E8 q0) F8 (sg3_mul h0.2.2.2.2.2.2 h7.2.2.2.2.2.2).1))

