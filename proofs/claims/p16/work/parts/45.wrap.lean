/-- as opR, where more may be left behind: the number stands somewhere between n and n1 -/
def opL (ov un : Nat → Int32) (n : Nat) (fa : Int32) (g cost : Nat) (T : Option n4) (ov1 un1 : Nat → Int32) (n1 : Nat) (fa1 : Int32) (r : Nat) : Prop :=
  (308 ≤ r ∧ r + 4 ≤ 1332) ∧ (308 ≤ n1 ∧ n1 ≤ 1332) ∧ mm_z fa1 ∧ (∀ k, k < 308 → ov1 k = ov k ∧ un1 k = un k) ∧ (fa = 1 → fa1 = 1) ∧ (fa1 = 0 → fa = 0 ∧ n ≤ r ∧ r + 4 ≤ n1 ∧ n1 ≤ n + g ∧ (∀ k, k < n → ov1 k = ov k ∧ un1 k = un k) ∧ T = some (r4 ov1 un1 r) ∧ v4 (r4 ov1 un1 r)) ∧ (fa1 = 1 → fa = 0 → n + cost ≤ 1332 → T = none)
theorem opL_of {ov un ov1 un1 : Nat → Int32} {n n1 r cost : Nat} {fa fa1 : Int32} {T : Option n4} (h : opR ov un n fa cost T ov1 un1 n1 fa1 r) : opL ov un n fa 4 cost T ov1 un1 n1 fa1 r := by
  obtain ⟨h1, h2, h3, h4, h5, h6, h7⟩ := h
  refine ⟨h1, h2, h3, h4, h5, fun h0 => ?_, h7⟩
  obtain ⟨q1, q2, q3, q4, q5, q6⟩ := h6 h0
  exact ⟨q1, by omega, by omega, by omega, q4, q5, q6⟩
theorem opL_k {ov un ov1 un1 : Nat → Int32} {n n1 r g cost : Nat} {fa fa1 : Int32} {T : Option n4} (h : opL ov un n fa g cost T ov1 un1 n1 fa1 r) : fa1 = 0 → fa = 0 ∧ n ≤ n1 ∧ ∀ k, k < n → ov1 k = ov k ∧ un1 k = un k := by
  intro h0
  obtain ⟨q1, q2, q3, q4, q5, -⟩ := h.2.2.2.2.2.1 h0
  exact ⟨q1, by omega, q5⟩
theorem at_newL {ov un ov1 un1 : Nat → Int32} {n n1 r g cost : Nat} {fa fa1 : Int32} {T : Option n4} (h : opL ov un n fa g cost T ov1 un1 n1 fa1 r) : isAt ov1 un1 n1 fa1 4 r (g4 (r4 ov1 un1 r)) := by
  refine ⟨⟨h.1.2, fun h0 => ?_⟩, fun h0 j hj => (g4_r4 hj).symm⟩
  obtain ⟨q1, q2, q3, q4, q5, q6, q7⟩ := h.2.2.2.2.2.1 h0
  refine ⟨q3, fun j hj => ?_⟩
  show fv (rf ov1 un1 (r + j))
  rw [← g4_r4 hj]
  exact v4_g q7 hj
theorem stl_L {ov un ov1 un1 ov2 un2 : Nat → Int32} {n n1 n2 r w : Nat} {fa fa1 fa2 : Int32} {g cost : Nat} {T : Option n4} (h : stl ov un n fa w ov1 un1 n1 fa1) (h2 : opL ov1 un1 n1 fa1 g cost T ov2 un2 n2 fa2 r) : stl ov un n fa (w + g) ov2 un2 n2 fa2 := by
  obtain ⟨a1, a2, a3, a4, a5⟩ := h
  obtain ⟨b1, b2, b3, b4, b5, b6, -⟩ := h2
  refine ⟨b2, b3, fun k hk => ⟨(b4 k hk).1.trans (a3 k hk).1, (b4 k hk).2.trans (a3 k hk).2⟩, fun h => b5 (a4 h), fun h0 => ?_⟩
  obtain ⟨q1, q2, q3, q4, q5, -⟩ := b6 h0
  obtain ⟨p1, p2, p3, p4⟩ := a5 q1
  exact ⟨p1, by omega, by omega, fun k hk => ⟨(q5 k (by omega)).1.trans (p4 k hk).1, (q5 k (by omega)).2.trans (p4 k hk).2⟩⟩
theorem sqL_e {ov un ov1 un1 : Nat → Int32} {n n1 r g cost : Nat} {fa fa1 : Int32} {X : Type} {T : Option n4} {spec : Option X} {k : n4 → Option X} (E : fa = 0 → spec = T.bind k) (h : opL ov un n fa g cost T ov1 un1 n1 fa1 r) : fa1 = 0 → spec = k (r4 ov1 un1 r) := by
  intro h0
  obtain ⟨q1, q2, q3, q4, q5, q6, -⟩ := h.2.2.2.2.2.1 h0
  rw [E q1, q6]
  rfl
theorem sqL_f {ov un ov1 un1 ov2 un2 : Nat → Int32} {n n1 n2 r w C : Nat} {fa fa1 fa2 : Int32} {X : Type} {g cost : Nat} {T : Option n4} {spec : Option X} {k : n4 → Option X} (hs : stl ov un n fa w ov1 un1 n1 fa1) (F : fa1 = 1 → fa = 0 → n + C ≤ 1332 → spec = none) (E : fa1 = 0 → spec = T.bind k) (h : opL ov1 un1 n1 fa1 g cost T ov2 un2 n2 fa2 r) (hC : w + cost ≤ C) : fa2 = 1 → fa = 0 → n + C ≤ 1332 → spec = none := by
  intro h9 h0 hroom
  rcases hs.2.1 with hz | hz
  · rw [E hz, h.2.2.2.2.2.2 h9 hz (by have := (hs.2.2.2.2 hz).2.2.1; omega)]
    rfl
  · exact F hz h0 hroom
theorem opL_fin {ov un ov1 un1 : Nat → Int32} {n n1 w g C r : Nat} {fa fa1 : Int32} {T : Option n4} {V : n4} (hs : stl ov un n fa w ov1 un1 n1 fa1) (hw : w ≤ g) (E : fa1 = 0 → T = some V) (F : fa1 = 1 → fa = 0 → n + C ≤ 1332 → T = none) (at1 : isAt ov1 un1 n1 fa1 4 r (g4 V)) (hr : 308 ≤ r) (hrn : fa1 = 0 → n ≤ r) : opL ov un n fa g C T ov1 un1 n1 fa1 r := by
  obtain ⟨a1, a2, a3, a4, a5⟩ := hs
  refine ⟨⟨hr, at1.1.1⟩, a1, a2, a3, a4, fun h0 => ?_, F⟩
  obtain ⟨p1, p2, p3, p4⟩ := a5 h0
  have e := r4_at at1 h0
  have vv := at_v at1 h0
  exact ⟨p1, hrn h0, (at1.1.2 h0).1, by omega, p4, by rw [e]; exact E h0, by rw [e]; exact ⟨vv 0 (by omega), vv 1 (by omega), vv 2 (by omega), vv 3 (by omega)⟩⟩
def nsub (m : Nat) (x y : Nat → fr) : Option n4 := (nneg m y).bind fun v => (nadd m x (g4 v)).bind some
set_option maxRecDepth 100000 in
theorem w_plus_0 {d : Nat} {ov un : Nat → Int32} {fa : Int32} {cu : mm_cu} {st fi se th db : Nat → Int32} {cn : Int32} {F : mm_M} {n a b : Nat} {x y R1 R2 : Nat → fr} {Q : mm_R → mm_M → Prop} (hfa : mm_z fa) (hn : 308 ≤ n ∧ n ≤ 1332) (A : isAt ov un n fa 1 a x) (B : isAt ov un n fa 1 b y) (hQ : ∀ (ov1 un1 : Nat → Int32) (n1 : Nat) (fa1 : Int32) (r : Nat), opL ov un n fa 4 4 (nadd 1 x y) ov1 un1 n1 fa1 r → Q (.inl (some (.int (nI r)))) (wC ov1 un1 (nI n1) 0 fa1 cu st fi se th db cn F)) : mm_call mm_Tb (d + 6) 129 [.ref 1, .int (nI a), .int (nI b)] (wC ov un (nI n) 0 fa cu st fi se th db cn F) Q := by
  refine mm_in mt_129 (Nat.le_of_ble_eq_true rfl) ?_
  show mm_W _ _ _ _ _ _ _ (0, [(0, .ref 1), (1, .int (nI a)), (2, .int (nI b))], [], wC ov un (nI n) 0 fa cu st fi se th db cn F, 0)
  refine mm_skip (mm_call_mono _ _) 5 (st' := (7, [(0, .ref 1), (1, .int (nI a)), (2, .int (nI b))], [.int (nI b), .int (nI a), .int 0, .ref 1], wC ov un (nI n) 0 fa cu st fi se th db cn F, 0)) rfl ?_
  refine mm_inv (mm_call_mono _ _) (j := 142) (a := [.ref 1, .int 0, .int (nI a), .int (nI b)]) (M := wC ov un (nI n) 0 fa cu st fi se th db cn F) (u := 0) rfl (by decide) (at_N_sum_0 hfa hn A B (fun ov1 un1 n1 fa1 r h => ?_))
  show mm_W _ _ _ _ _ _ _ (10, [(0, .ref 1), (1, .int (nI a)), (2, .int (nI b))], [.int (nI r)], wC ov1 un1 (nI n1) 0 fa1 cu st fi se th db cn F, 0)
  exact mm_ret (mm_call_mono _ _) (c := True) (r := .inl (some (.int (nI r)))) (M := wC ov1 un1 (nI n1) 0 fa1 cu st fi se th db cn F) (u := 0) rfl trivial (by decide) (hQ _ _ _ _ _ (opL_of h))

set_option maxRecDepth 100000 in
theorem w_times_0 {d : Nat} {ov un : Nat → Int32} {fa : Int32} {cu : mm_cu} {st fi se th db : Nat → Int32} {cn : Int32} {F : mm_M} {n a b : Nat} {x y R1 R2 : Nat → fr} {Q : mm_R → mm_M → Prop} (hfa : mm_z fa) (hn : 308 ≤ n ∧ n ≤ 1332) (A : isAt ov un n fa 1 a x) (B : isAt ov un n fa 1 b y) (hQ : ∀ (ov1 un1 : Nat → Int32) (n1 : Nat) (fa1 : Int32) (r : Nat), opL ov un n fa 4 4 (nmul0 x y) ov1 un1 n1 fa1 r → Q (.inl (some (.int (nI r)))) (wC ov1 un1 (nI n1) 0 fa1 cu st fi se th db cn F)) : mm_call mm_Tb (d + 6) 131 [.ref 1, .int (nI a), .int (nI b)] (wC ov un (nI n) 0 fa cu st fi se th db cn F) Q := by
  refine mm_in mt_131 (Nat.le_of_ble_eq_true rfl) ?_
  show mm_W _ _ _ _ _ _ _ (0, [(0, .ref 1), (1, .int (nI a)), (2, .int (nI b))], [], wC ov un (nI n) 0 fa cu st fi se th db cn F, 0)
  refine mm_skip (mm_call_mono _ _) 5 (st' := (7, [(0, .ref 1), (1, .int (nI a)), (2, .int (nI b))], [.int (nI b), .int (nI a), .int 0, .ref 1], wC ov un (nI n) 0 fa cu st fi se th db cn F, 0)) rfl ?_
  refine mm_inv (mm_call_mono _ _) (j := 145) (a := [.ref 1, .int 0, .int (nI a), .int (nI b)]) (M := wC ov un (nI n) 0 fa cu st fi se th db cn F) (u := 0) rfl (by decide) (at_N_product_0 hfa hn A B (fun ov1 un1 n1 fa1 r h => ?_))
  show mm_W _ _ _ _ _ _ _ (10, [(0, .ref 1), (1, .int (nI a)), (2, .int (nI b))], [.int (nI r)], wC ov1 un1 (nI n1) 0 fa1 cu st fi se th db cn F, 0)
  exact mm_ret (mm_call_mono _ _) (c := True) (r := .inl (some (.int (nI r)))) (M := wC ov1 un1 (nI n1) 0 fa1 cu st fi se th db cn F) (u := 0) rfl trivial (by decide) (hQ _ _ _ _ _ (opL_of h))

set_option maxRecDepth 100000 in
theorem w_negated_0 {d : Nat} {ov un : Nat → Int32} {fa : Int32} {cu : mm_cu} {st fi se th db : Nat → Int32} {cn : Int32} {F : mm_M} {n a b : Nat} {x y R1 R2 : Nat → fr} {Q : mm_R → mm_M → Prop} (hfa : mm_z fa) (hn : 308 ≤ n ∧ n ≤ 1332) (A : isAt ov un n fa 1 a x) (hQ : ∀ (ov1 un1 : Nat → Int32) (n1 : Nat) (fa1 : Int32) (r : Nat), opL ov un n fa 4 4 (nneg 1 x) ov1 un1 n1 fa1 r → Q (.inl (some (.int (nI r)))) (wC ov1 un1 (nI n1) 0 fa1 cu st fi se th db cn F)) : mm_call mm_Tb (d + 6) 132 [.ref 1, .int (nI a)] (wC ov un (nI n) 0 fa cu st fi se th db cn F) Q := by
  refine mm_in mt_132 (Nat.le_of_ble_eq_true rfl) ?_
  show mm_W _ _ _ _ _ _ _ (0, [(0, .ref 1), (1, .int (nI a))], [], wC ov un (nI n) 0 fa cu st fi se th db cn F, 0)
  refine mm_skip (mm_call_mono _ _) 4 (st' := (6, [(0, .ref 1), (1, .int (nI a))], [.int (nI a), .int 0, .ref 1], wC ov un (nI n) 0 fa cu st fi se th db cn F, 0)) rfl ?_
  refine mm_inv (mm_call_mono _ _) (j := 143) (a := [.ref 1, .int 0, .int (nI a)]) (M := wC ov un (nI n) 0 fa cu st fi se th db cn F) (u := 0) rfl (by decide) (at_N_negative_0 hfa hn A (fun ov1 un1 n1 fa1 r h => ?_))
  show mm_W _ _ _ _ _ _ _ (9, [(0, .ref 1), (1, .int (nI a))], [.int (nI r)], wC ov1 un1 (nI n1) 0 fa1 cu st fi se th db cn F, 0)
  exact mm_ret (mm_call_mono _ _) (c := True) (r := .inl (some (.int (nI r)))) (M := wC ov1 un1 (nI n1) 0 fa1 cu st fi se th db cn F) (u := 0) rfl trivial (by decide) (hQ _ _ _ _ _ (opL_of h))

set_option maxRecDepth 100000 in
theorem w_halved_0 {d : Nat} {ov un : Nat → Int32} {fa : Int32} {cu : mm_cu} {st fi se th db : Nat → Int32} {cn : Int32} {F : mm_M} {n a b : Nat} {x y R1 R2 : Nat → fr} {Q : mm_R → mm_M → Prop} (hfa : mm_z fa) (hn : 308 ≤ n ∧ n ≤ 1332) (A : isAt ov un n fa 1 a x) (hQ : ∀ (ov1 un1 : Nat → Int32) (n1 : Nat) (fa1 : Int32) (r : Nat), opL ov un n fa 4 4 (nhalf 1 x) ov1 un1 n1 fa1 r → Q (.inl (some (.int (nI r)))) (wC ov1 un1 (nI n1) 0 fa1 cu st fi se th db cn F)) : mm_call mm_Tb (d + 6) 133 [.ref 1, .int (nI a)] (wC ov un (nI n) 0 fa cu st fi se th db cn F) Q := by
  refine mm_in mt_133 (Nat.le_of_ble_eq_true rfl) ?_
  show mm_W _ _ _ _ _ _ _ (0, [(0, .ref 1), (1, .int (nI a))], [], wC ov un (nI n) 0 fa cu st fi se th db cn F, 0)
  refine mm_skip (mm_call_mono _ _) 4 (st' := (6, [(0, .ref 1), (1, .int (nI a))], [.int (nI a), .int 0, .ref 1], wC ov un (nI n) 0 fa cu st fi se th db cn F, 0)) rfl ?_
  refine mm_inv (mm_call_mono _ _) (j := 144) (a := [.ref 1, .int 0, .int (nI a)]) (M := wC ov un (nI n) 0 fa cu st fi se th db cn F) (u := 0) rfl (by decide) (at_N_half_0 hfa hn A (fun ov1 un1 n1 fa1 r h => ?_))
  show mm_W _ _ _ _ _ _ _ (9, [(0, .ref 1), (1, .int (nI a))], [.int (nI r)], wC ov1 un1 (nI n1) 0 fa1 cu st fi se th db cn F, 0)
  exact mm_ret (mm_call_mono _ _) (c := True) (r := .inl (some (.int (nI r)))) (M := wC ov1 un1 (nI n1) 0 fa1 cu st fi se th db cn F) (u := 0) rfl trivial (by decide) (hQ _ _ _ _ _ (opL_of h))

set_option maxRecDepth 100000 in
theorem w_inverted_0 {d : Nat} {ov un : Nat → Int32} {fa : Int32} {cu : mm_cu} {st fi se th db : Nat → Int32} {cn : Int32} {F : mm_M} {n a b : Nat} {x y R1 R2 : Nat → fr} {Q : mm_R → mm_M → Prop} (hfa : mm_z fa) (hn : 308 ≤ n ∧ n ≤ 1332) (A : isAt ov un n fa 1 a x) (hQ : ∀ (ov1 un1 : Nat → Int32) (n1 : Nat) (fa1 : Int32) (r : Nat), opL ov un n fa 4 4 (ninv0 x) ov1 un1 n1 fa1 r → Q (.inl (some (.int (nI r)))) (wC ov1 un1 (nI n1) 0 fa1 cu st fi se th db cn F)) : mm_call mm_Tb (d + 6) 134 [.ref 1, .int (nI a)] (wC ov un (nI n) 0 fa cu st fi se th db cn F) Q := by
  refine mm_in mt_134 (Nat.le_of_ble_eq_true rfl) ?_
  show mm_W _ _ _ _ _ _ _ (0, [(0, .ref 1), (1, .int (nI a))], [], wC ov un (nI n) 0 fa cu st fi se th db cn F, 0)
  refine mm_skip (mm_call_mono _ _) 4 (st' := (6, [(0, .ref 1), (1, .int (nI a))], [.int (nI a), .int 0, .ref 1], wC ov un (nI n) 0 fa cu st fi se th db cn F, 0)) rfl ?_
  refine mm_inv (mm_call_mono _ _) (j := 146) (a := [.ref 1, .int 0, .int (nI a)]) (M := wC ov un (nI n) 0 fa cu st fi se th db cn F) (u := 0) rfl (by decide) (at_N_inverse_0 hfa hn A (fun ov1 un1 n1 fa1 r h => ?_))
  show mm_W _ _ _ _ _ _ _ (9, [(0, .ref 1), (1, .int (nI a))], [.int (nI r)], wC ov1 un1 (nI n1) 0 fa1 cu st fi se th db cn F, 0)
  exact mm_ret (mm_call_mono _ _) (c := True) (r := .inl (some (.int (nI r)))) (M := wC ov1 un1 (nI n1) 0 fa1 cu st fi se th db cn F) (u := 0) rfl trivial (by decide) (hQ _ _ _ _ _ (opL_of h))

set_option maxRecDepth 100000 in
theorem w_minus_0 {d : Nat} {ov un : Nat → Int32} {fa : Int32} {cu : mm_cu} {st fi se th db : Nat → Int32} {cn : Int32} {F : mm_M} {n a b : Nat} {x y R1 R2 : Nat → fr} {Q : mm_R → mm_M → Prop} (hfa : mm_z fa) (hn : 308 ≤ n ∧ n ≤ 1332) (A : isAt ov un n fa 1 a x) (B : isAt ov un n fa 1 b y) (hQ : ∀ (ov1 un1 : Nat → Int32) (n1 : Nat) (fa1 : Int32) (r : Nat), opL ov un n fa 8 8 (nsub 1 x y) ov1 un1 n1 fa1 r → Q (.inl (some (.int (nI r)))) (wC ov1 un1 (nI n1) 0 fa1 cu st fi se th db cn F)) : mm_call mm_Tb (d + 6) 130 [.ref 1, .int (nI a), .int (nI b)] (wC ov un (nI n) 0 fa cu st fi se th db cn F) Q := by
  refine mm_in mt_130 (Nat.le_of_ble_eq_true rfl) ?_
  show mm_W _ _ _ _ _ _ _ (0, [(0, .ref 1), (1, .int (nI a)), (2, .int (nI b))], [], wC ov un (nI n) 0 fa cu st fi se th db cn F, 0)
  refine mm_skip (mm_call_mono _ _) 8 (st' := (12, [(0, .ref 1), (1, .int (nI a)), (2, .int (nI b))], [.int (nI b), .int 0, .ref 1, .int (nI a), .int 0, .ref 1], wC ov un (nI n) 0 fa cu st fi se th db cn F, 0)) rfl ?_
  refine mm_inv (mm_call_mono _ _) (j := 143) (a := [.ref 1, .int 0, .int (nI b)]) (M := wC ov un (nI n) 0 fa cu st fi se th db cn F) (u := 0) rfl (by decide) (at_N_negative_0 hfa hn B (fun ov1 un1 n1 fa1 r1 h1 => ?_))
  show mm_W _ _ _ _ _ _ _ (15, [(0, .ref 1), (1, .int (nI a)), (2, .int (nI b))], [.int (nI r1), .int (nI a), .int 0, .ref 1], wC ov1 un1 (nI n1) 0 fa1 cu st fi se th db cn F, 0)
  have s0 := stl_0 (ov := ov) (un := un) hfa hn
  have E0 : fa = 0 → nsub 1 x y = Option.bind (nneg 1 y) (fun v => (nadd 1 x (g4 v)).bind some) := fun _ => rfl
  have F0 : fa = 1 → fa = 0 → n + 8 ≤ 1332 → nsub 1 x y = none := f_0
  have s1 := stl_s s0 h1
  have F1 := sq_f s0 F0 E0 h1 (by omega)
  have E1 := seq_e E0 h1
  have A1 := at_keep A (op_k h1)
  have N1 := at_new h1
  refine mm_inv (mm_call_mono _ _) (j := 142) (a := [.ref 1, .int 0, .int (nI a), .int (nI r1)]) (M := wC ov1 un1 (nI n1) 0 fa1 cu st fi se th db cn F) (u := 0) rfl (by decide) (at_N_sum_0 s1.2.1 s1.1 A1 (at_lo N1 (by omega)) (fun ov2 un2 n2 fa2 r2 h2 => ?_))
  show mm_W _ _ _ _ _ _ _ (18, [(0, .ref 1), (1, .int (nI a)), (2, .int (nI b))], [.int (nI r2)], wC ov2 un2 (nI n2) 0 fa2 cu st fi se th db cn F, 0)
  have s2 := stl_s s1 h2
  have F2 := sq_f s1 F1 E1 h2 (by omega)
  have E2 := seq_e E1 h2
  have N2 := at_new h2
  exact mm_ret (mm_call_mono _ _) (c := True) (r := .inl (some (.int (nI r2)))) (M := wC ov2 un2 (nI n2) 0 fa2 cu st fi se th db cn F) (u := 0) rfl trivial (by decide) (hQ _ _ _ _ _ (opL_fin (C := 8) s2 (by omega) E2 F2 N2 h2.1.1 (fun q0 => by have e1 := h2.2.2.2.2.2.1 q0; have e2 := (s1.2.2.2.2 e1.1).2.1; omega)))

set_option maxRecDepth 100000 in
theorem w_signum_0 {d : Nat} {ov un : Nat → Int32} {fa : Int32} {cu : mm_cu} {st fi se th db : Nat → Int32} {cn : Int32} {F : mm_M} {n a b : Nat} {x y R1 R2 : Nat → fr} {Q : mm_R → mm_M → Prop} (hfa : mm_z fa) (hn : 308 ≤ n ∧ n ≤ 1332) (A : isAt ov un n fa 1 a x) (hQ : ∀ (ov1 un1 : Nat → Int32) (n1 : Nat) (fa1 v : Int32), sgR ov un n fa 0 (nsg0 x) ov1 un1 n1 fa1 v → Q (.inl (some (.int v))) (wC ov1 un1 (nI n1) 0 fa1 cu st fi se th db cn F)) : mm_call mm_Tb (d + 6) 135 [.ref 1, .int (nI a)] (wC ov un (nI n) 0 fa cu st fi se th db cn F) Q := by
  refine mm_in mt_135 (Nat.le_of_ble_eq_true rfl) ?_
  show mm_W _ _ _ _ _ _ _ (0, [(0, .ref 1), (1, .int (nI a))], [], wC ov un (nI n) 0 fa cu st fi se th db cn F, 0)
  refine mm_skip (mm_call_mono _ _) 4 (st' := (6, [(0, .ref 1), (1, .int (nI a))], [.int (nI a), .int 0, .ref 1], wC ov un (nI n) 0 fa cu st fi se th db cn F, 0)) rfl ?_
  refine mm_inv (mm_call_mono _ _) (j := 147) (a := [.ref 1, .int 0, .int (nI a)]) (M := wC ov un (nI n) 0 fa cu st fi se th db cn F) (u := 0) rfl (by decide) (at_N_signOf_0 hfa hn A (fun ov1 un1 n1 fa1 v h => ?_))
  show mm_W _ _ _ _ _ _ _ (9, [(0, .ref 1), (1, .int (nI a))], [.int v], wC ov1 un1 (nI n1) 0 fa1 cu st fi se th db cn F, 0)
  exact mm_ret (mm_call_mono _ _) (c := True) (r := .inl (some (.int v))) (M := wC ov1 un1 (nI n1) 0 fa1 cu st fi se th db cn F) (u := 0) rfl trivial (by decide) (hQ _ _ _ _ _ h)

set_option maxRecDepth 100000 in
theorem w_plus_1 {d : Nat} {ov un : Nat → Int32} {fa : Int32} {cu : mm_cu} {st fi se th db : Nat → Int32} {cn : Int32} {F : mm_M} {n a b : Nat} {x y R1 R2 : Nat → fr} {Q : mm_R → mm_M → Prop} (hfa : mm_z fa) (hn : 308 ≤ n ∧ n ≤ 1332) (A : isAt ov un n fa 2 a x) (B : isAt ov un n fa 2 b y) (hQ : ∀ (ov1 un1 : Nat → Int32) (n1 : Nat) (fa1 : Int32) (r : Nat), opL ov un n fa 4 4 (nadd 2 x y) ov1 un1 n1 fa1 r → Q (.inl (some (.int (nI r)))) (wC ov1 un1 (nI n1) 1 fa1 cu st fi se th db cn F)) : mm_call mm_Tb (d + 6) 129 [.ref 1, .int (nI a), .int (nI b)] (wC ov un (nI n) 1 fa cu st fi se th db cn F) Q := by
  refine mm_in mt_129 (Nat.le_of_ble_eq_true rfl) ?_
  show mm_W _ _ _ _ _ _ _ (0, [(0, .ref 1), (1, .int (nI a)), (2, .int (nI b))], [], wC ov un (nI n) 1 fa cu st fi se th db cn F, 0)
  refine mm_skip (mm_call_mono _ _) 5 (st' := (7, [(0, .ref 1), (1, .int (nI a)), (2, .int (nI b))], [.int (nI b), .int (nI a), .int 1, .ref 1], wC ov un (nI n) 1 fa cu st fi se th db cn F, 0)) rfl ?_
  refine mm_inv (mm_call_mono _ _) (j := 142) (a := [.ref 1, .int 1, .int (nI a), .int (nI b)]) (M := wC ov un (nI n) 1 fa cu st fi se th db cn F) (u := 0) rfl (by decide) (at_N_sum_1 hfa hn A B (fun ov1 un1 n1 fa1 r h => ?_))
  show mm_W _ _ _ _ _ _ _ (10, [(0, .ref 1), (1, .int (nI a)), (2, .int (nI b))], [.int (nI r)], wC ov1 un1 (nI n1) 1 fa1 cu st fi se th db cn F, 0)
  exact mm_ret (mm_call_mono _ _) (c := True) (r := .inl (some (.int (nI r)))) (M := wC ov1 un1 (nI n1) 1 fa1 cu st fi se th db cn F) (u := 0) rfl trivial (by decide) (hQ _ _ _ _ _ (opL_of h))

set_option maxRecDepth 100000 in
theorem w_times_1 {d : Nat} {ov un : Nat → Int32} {fa : Int32} {cu : mm_cu} {st fi se th db : Nat → Int32} {cn : Int32} {F : mm_M} {n a b : Nat} {x y R1 R2 : Nat → fr} {Q : mm_R → mm_M → Prop} (hfa : mm_z fa) (hn : 308 ≤ n ∧ n ≤ 1332) (P : isAt ov un n fa 1 0 R1) (A : isAt ov un n fa 2 a x) (B : isAt ov un n fa 2 b y) (hQ : ∀ (ov1 un1 : Nat → Int32) (n1 : Nat) (fa1 : Int32) (r : Nat), opL ov un n fa 4 32 (nmul1 R1 x y) ov1 un1 n1 fa1 r → Q (.inl (some (.int (nI r)))) (wC ov1 un1 (nI n1) 1 fa1 cu st fi se th db cn F)) : mm_call mm_Tb (d + 6) 131 [.ref 1, .int (nI a), .int (nI b)] (wC ov un (nI n) 1 fa cu st fi se th db cn F) Q := by
  refine mm_in mt_131 (Nat.le_of_ble_eq_true rfl) ?_
  show mm_W _ _ _ _ _ _ _ (0, [(0, .ref 1), (1, .int (nI a)), (2, .int (nI b))], [], wC ov un (nI n) 1 fa cu st fi se th db cn F, 0)
  refine mm_skip (mm_call_mono _ _) 5 (st' := (7, [(0, .ref 1), (1, .int (nI a)), (2, .int (nI b))], [.int (nI b), .int (nI a), .int 1, .ref 1], wC ov un (nI n) 1 fa cu st fi se th db cn F, 0)) rfl ?_
  refine mm_inv (mm_call_mono _ _) (j := 145) (a := [.ref 1, .int 1, .int (nI a), .int (nI b)]) (M := wC ov un (nI n) 1 fa cu st fi se th db cn F) (u := 0) rfl (by decide) (at_N_product_1 hfa hn P A B (fun ov1 un1 n1 fa1 r h => ?_))
  show mm_W _ _ _ _ _ _ _ (10, [(0, .ref 1), (1, .int (nI a)), (2, .int (nI b))], [.int (nI r)], wC ov1 un1 (nI n1) 1 fa1 cu st fi se th db cn F, 0)
  exact mm_ret (mm_call_mono _ _) (c := True) (r := .inl (some (.int (nI r)))) (M := wC ov1 un1 (nI n1) 1 fa1 cu st fi se th db cn F) (u := 0) rfl trivial (by decide) (hQ _ _ _ _ _ (opL_of h))

set_option maxRecDepth 100000 in
theorem w_negated_1 {d : Nat} {ov un : Nat → Int32} {fa : Int32} {cu : mm_cu} {st fi se th db : Nat → Int32} {cn : Int32} {F : mm_M} {n a b : Nat} {x y R1 R2 : Nat → fr} {Q : mm_R → mm_M → Prop} (hfa : mm_z fa) (hn : 308 ≤ n ∧ n ≤ 1332) (A : isAt ov un n fa 2 a x) (hQ : ∀ (ov1 un1 : Nat → Int32) (n1 : Nat) (fa1 : Int32) (r : Nat), opL ov un n fa 4 4 (nneg 2 x) ov1 un1 n1 fa1 r → Q (.inl (some (.int (nI r)))) (wC ov1 un1 (nI n1) 1 fa1 cu st fi se th db cn F)) : mm_call mm_Tb (d + 6) 132 [.ref 1, .int (nI a)] (wC ov un (nI n) 1 fa cu st fi se th db cn F) Q := by
  refine mm_in mt_132 (Nat.le_of_ble_eq_true rfl) ?_
  show mm_W _ _ _ _ _ _ _ (0, [(0, .ref 1), (1, .int (nI a))], [], wC ov un (nI n) 1 fa cu st fi se th db cn F, 0)
  refine mm_skip (mm_call_mono _ _) 4 (st' := (6, [(0, .ref 1), (1, .int (nI a))], [.int (nI a), .int 1, .ref 1], wC ov un (nI n) 1 fa cu st fi se th db cn F, 0)) rfl ?_
  refine mm_inv (mm_call_mono _ _) (j := 143) (a := [.ref 1, .int 1, .int (nI a)]) (M := wC ov un (nI n) 1 fa cu st fi se th db cn F) (u := 0) rfl (by decide) (at_N_negative_1 hfa hn A (fun ov1 un1 n1 fa1 r h => ?_))
  show mm_W _ _ _ _ _ _ _ (9, [(0, .ref 1), (1, .int (nI a))], [.int (nI r)], wC ov1 un1 (nI n1) 1 fa1 cu st fi se th db cn F, 0)
  exact mm_ret (mm_call_mono _ _) (c := True) (r := .inl (some (.int (nI r)))) (M := wC ov1 un1 (nI n1) 1 fa1 cu st fi se th db cn F) (u := 0) rfl trivial (by decide) (hQ _ _ _ _ _ (opL_of h))

set_option maxRecDepth 100000 in
theorem w_halved_1 {d : Nat} {ov un : Nat → Int32} {fa : Int32} {cu : mm_cu} {st fi se th db : Nat → Int32} {cn : Int32} {F : mm_M} {n a b : Nat} {x y R1 R2 : Nat → fr} {Q : mm_R → mm_M → Prop} (hfa : mm_z fa) (hn : 308 ≤ n ∧ n ≤ 1332) (A : isAt ov un n fa 2 a x) (hQ : ∀ (ov1 un1 : Nat → Int32) (n1 : Nat) (fa1 : Int32) (r : Nat), opL ov un n fa 4 4 (nhalf 2 x) ov1 un1 n1 fa1 r → Q (.inl (some (.int (nI r)))) (wC ov1 un1 (nI n1) 1 fa1 cu st fi se th db cn F)) : mm_call mm_Tb (d + 6) 133 [.ref 1, .int (nI a)] (wC ov un (nI n) 1 fa cu st fi se th db cn F) Q := by
  refine mm_in mt_133 (Nat.le_of_ble_eq_true rfl) ?_
  show mm_W _ _ _ _ _ _ _ (0, [(0, .ref 1), (1, .int (nI a))], [], wC ov un (nI n) 1 fa cu st fi se th db cn F, 0)
  refine mm_skip (mm_call_mono _ _) 4 (st' := (6, [(0, .ref 1), (1, .int (nI a))], [.int (nI a), .int 1, .ref 1], wC ov un (nI n) 1 fa cu st fi se th db cn F, 0)) rfl ?_
  refine mm_inv (mm_call_mono _ _) (j := 144) (a := [.ref 1, .int 1, .int (nI a)]) (M := wC ov un (nI n) 1 fa cu st fi se th db cn F) (u := 0) rfl (by decide) (at_N_half_1 hfa hn A (fun ov1 un1 n1 fa1 r h => ?_))
  show mm_W _ _ _ _ _ _ _ (9, [(0, .ref 1), (1, .int (nI a))], [.int (nI r)], wC ov1 un1 (nI n1) 1 fa1 cu st fi se th db cn F, 0)
  exact mm_ret (mm_call_mono _ _) (c := True) (r := .inl (some (.int (nI r)))) (M := wC ov1 un1 (nI n1) 1 fa1 cu st fi se th db cn F) (u := 0) rfl trivial (by decide) (hQ _ _ _ _ _ (opL_of h))

set_option maxRecDepth 100000 in
theorem w_inverted_1 {d : Nat} {ov un : Nat → Int32} {fa : Int32} {cu : mm_cu} {st fi se th db : Nat → Int32} {cn : Int32} {F : mm_M} {n a b : Nat} {x y R1 R2 : Nat → fr} {Q : mm_R → mm_M → Prop} (hfa : mm_z fa) (hn : 308 ≤ n ∧ n ≤ 1332) (P : isAt ov un n fa 1 0 R1) (A : isAt ov un n fa 2 a x) (hQ : ∀ (ov1 un1 : Nat → Int32) (n1 : Nat) (fa1 : Int32) (r : Nat), opL ov un n fa 4 40 (ninv1 R1 x) ov1 un1 n1 fa1 r → Q (.inl (some (.int (nI r)))) (wC ov1 un1 (nI n1) 1 fa1 cu st fi se th db cn F)) : mm_call mm_Tb (d + 6) 134 [.ref 1, .int (nI a)] (wC ov un (nI n) 1 fa cu st fi se th db cn F) Q := by
  refine mm_in mt_134 (Nat.le_of_ble_eq_true rfl) ?_
  show mm_W _ _ _ _ _ _ _ (0, [(0, .ref 1), (1, .int (nI a))], [], wC ov un (nI n) 1 fa cu st fi se th db cn F, 0)
  refine mm_skip (mm_call_mono _ _) 4 (st' := (6, [(0, .ref 1), (1, .int (nI a))], [.int (nI a), .int 1, .ref 1], wC ov un (nI n) 1 fa cu st fi se th db cn F, 0)) rfl ?_
  refine mm_inv (mm_call_mono _ _) (j := 146) (a := [.ref 1, .int 1, .int (nI a)]) (M := wC ov un (nI n) 1 fa cu st fi se th db cn F) (u := 0) rfl (by decide) (at_N_inverse_1 hfa hn P A (fun ov1 un1 n1 fa1 r h => ?_))
  show mm_W _ _ _ _ _ _ _ (9, [(0, .ref 1), (1, .int (nI a))], [.int (nI r)], wC ov1 un1 (nI n1) 1 fa1 cu st fi se th db cn F, 0)
  exact mm_ret (mm_call_mono _ _) (c := True) (r := .inl (some (.int (nI r)))) (M := wC ov1 un1 (nI n1) 1 fa1 cu st fi se th db cn F) (u := 0) rfl trivial (by decide) (hQ _ _ _ _ _ (opL_of h))

set_option maxRecDepth 100000 in
theorem w_minus_1 {d : Nat} {ov un : Nat → Int32} {fa : Int32} {cu : mm_cu} {st fi se th db : Nat → Int32} {cn : Int32} {F : mm_M} {n a b : Nat} {x y R1 R2 : Nat → fr} {Q : mm_R → mm_M → Prop} (hfa : mm_z fa) (hn : 308 ≤ n ∧ n ≤ 1332) (A : isAt ov un n fa 2 a x) (B : isAt ov un n fa 2 b y) (hQ : ∀ (ov1 un1 : Nat → Int32) (n1 : Nat) (fa1 : Int32) (r : Nat), opL ov un n fa 8 8 (nsub 2 x y) ov1 un1 n1 fa1 r → Q (.inl (some (.int (nI r)))) (wC ov1 un1 (nI n1) 1 fa1 cu st fi se th db cn F)) : mm_call mm_Tb (d + 6) 130 [.ref 1, .int (nI a), .int (nI b)] (wC ov un (nI n) 1 fa cu st fi se th db cn F) Q := by
  refine mm_in mt_130 (Nat.le_of_ble_eq_true rfl) ?_
  show mm_W _ _ _ _ _ _ _ (0, [(0, .ref 1), (1, .int (nI a)), (2, .int (nI b))], [], wC ov un (nI n) 1 fa cu st fi se th db cn F, 0)
  refine mm_skip (mm_call_mono _ _) 8 (st' := (12, [(0, .ref 1), (1, .int (nI a)), (2, .int (nI b))], [.int (nI b), .int 1, .ref 1, .int (nI a), .int 1, .ref 1], wC ov un (nI n) 1 fa cu st fi se th db cn F, 0)) rfl ?_
  refine mm_inv (mm_call_mono _ _) (j := 143) (a := [.ref 1, .int 1, .int (nI b)]) (M := wC ov un (nI n) 1 fa cu st fi se th db cn F) (u := 0) rfl (by decide) (at_N_negative_1 hfa hn B (fun ov1 un1 n1 fa1 r1 h1 => ?_))
  show mm_W _ _ _ _ _ _ _ (15, [(0, .ref 1), (1, .int (nI a)), (2, .int (nI b))], [.int (nI r1), .int (nI a), .int 1, .ref 1], wC ov1 un1 (nI n1) 1 fa1 cu st fi se th db cn F, 0)
  have s0 := stl_0 (ov := ov) (un := un) hfa hn
  have E0 : fa = 0 → nsub 2 x y = Option.bind (nneg 2 y) (fun v => (nadd 2 x (g4 v)).bind some) := fun _ => rfl
  have F0 : fa = 1 → fa = 0 → n + 8 ≤ 1332 → nsub 2 x y = none := f_0
  have s1 := stl_s s0 h1
  have F1 := sq_f s0 F0 E0 h1 (by omega)
  have E1 := seq_e E0 h1
  have A1 := at_keep A (op_k h1)
  have N1 := at_new h1
  refine mm_inv (mm_call_mono _ _) (j := 142) (a := [.ref 1, .int 1, .int (nI a), .int (nI r1)]) (M := wC ov1 un1 (nI n1) 1 fa1 cu st fi se th db cn F) (u := 0) rfl (by decide) (at_N_sum_1 s1.2.1 s1.1 A1 (at_lo N1 (by omega)) (fun ov2 un2 n2 fa2 r2 h2 => ?_))
  show mm_W _ _ _ _ _ _ _ (18, [(0, .ref 1), (1, .int (nI a)), (2, .int (nI b))], [.int (nI r2)], wC ov2 un2 (nI n2) 1 fa2 cu st fi se th db cn F, 0)
  have s2 := stl_s s1 h2
  have F2 := sq_f s1 F1 E1 h2 (by omega)
  have E2 := seq_e E1 h2
  have N2 := at_new h2
  exact mm_ret (mm_call_mono _ _) (c := True) (r := .inl (some (.int (nI r2)))) (M := wC ov2 un2 (nI n2) 1 fa2 cu st fi se th db cn F) (u := 0) rfl trivial (by decide) (hQ _ _ _ _ _ (opL_fin (C := 8) s2 (by omega) E2 F2 N2 h2.1.1 (fun q0 => by have e1 := h2.2.2.2.2.2.1 q0; have e2 := (s1.2.2.2.2 e1.1).2.1; omega)))

set_option maxRecDepth 100000 in
theorem w_signum_1 {d : Nat} {ov un : Nat → Int32} {fa : Int32} {cu : mm_cu} {st fi se th db : Nat → Int32} {cn : Int32} {F : mm_M} {n a b : Nat} {x y R1 R2 : Nat → fr} {Q : mm_R → mm_M → Prop} (hfa : mm_z fa) (hn : 308 ≤ n ∧ n ≤ 1332) (P : isAt ov un n fa 1 0 R1) (A : isAt ov un n fa 2 a x) (hQ : ∀ (ov1 un1 : Nat → Int32) (n1 : Nat) (fa1 v : Int32), sgR ov un n fa 20 (nsg1 R1 x) ov1 un1 n1 fa1 v → Q (.inl (some (.int v))) (wC ov1 un1 (nI n1) 1 fa1 cu st fi se th db cn F)) : mm_call mm_Tb (d + 6) 135 [.ref 1, .int (nI a)] (wC ov un (nI n) 1 fa cu st fi se th db cn F) Q := by
  refine mm_in mt_135 (Nat.le_of_ble_eq_true rfl) ?_
  show mm_W _ _ _ _ _ _ _ (0, [(0, .ref 1), (1, .int (nI a))], [], wC ov un (nI n) 1 fa cu st fi se th db cn F, 0)
  refine mm_skip (mm_call_mono _ _) 4 (st' := (6, [(0, .ref 1), (1, .int (nI a))], [.int (nI a), .int 1, .ref 1], wC ov un (nI n) 1 fa cu st fi se th db cn F, 0)) rfl ?_
  refine mm_inv (mm_call_mono _ _) (j := 147) (a := [.ref 1, .int 1, .int (nI a)]) (M := wC ov un (nI n) 1 fa cu st fi se th db cn F) (u := 0) rfl (by decide) (at_N_signOf_1 hfa hn P A (fun ov1 un1 n1 fa1 v h => ?_))
  show mm_W _ _ _ _ _ _ _ (9, [(0, .ref 1), (1, .int (nI a))], [.int v], wC ov1 un1 (nI n1) 1 fa1 cu st fi se th db cn F, 0)
  exact mm_ret (mm_call_mono _ _) (c := True) (r := .inl (some (.int v))) (M := wC ov1 un1 (nI n1) 1 fa1 cu st fi se th db cn F) (u := 0) rfl trivial (by decide) (hQ _ _ _ _ _ h)

set_option maxRecDepth 100000 in
theorem w_plus_2 {d : Nat} {ov un : Nat → Int32} {fa : Int32} {cu : mm_cu} {st fi se th db : Nat → Int32} {cn : Int32} {F : mm_M} {n a b : Nat} {x y R1 R2 : Nat → fr} {Q : mm_R → mm_M → Prop} (hfa : mm_z fa) (hn : 308 ≤ n ∧ n ≤ 1332) (A : isAt ov un n fa 4 a x) (B : isAt ov un n fa 4 b y) (hQ : ∀ (ov1 un1 : Nat → Int32) (n1 : Nat) (fa1 : Int32) (r : Nat), opL ov un n fa 4 4 (nadd 4 x y) ov1 un1 n1 fa1 r → Q (.inl (some (.int (nI r)))) (wC ov1 un1 (nI n1) 2 fa1 cu st fi se th db cn F)) : mm_call mm_Tb (d + 6) 129 [.ref 1, .int (nI a), .int (nI b)] (wC ov un (nI n) 2 fa cu st fi se th db cn F) Q := by
  refine mm_in mt_129 (Nat.le_of_ble_eq_true rfl) ?_
  show mm_W _ _ _ _ _ _ _ (0, [(0, .ref 1), (1, .int (nI a)), (2, .int (nI b))], [], wC ov un (nI n) 2 fa cu st fi se th db cn F, 0)
  refine mm_skip (mm_call_mono _ _) 5 (st' := (7, [(0, .ref 1), (1, .int (nI a)), (2, .int (nI b))], [.int (nI b), .int (nI a), .int 2, .ref 1], wC ov un (nI n) 2 fa cu st fi se th db cn F, 0)) rfl ?_
  refine mm_inv (mm_call_mono _ _) (j := 142) (a := [.ref 1, .int 2, .int (nI a), .int (nI b)]) (M := wC ov un (nI n) 2 fa cu st fi se th db cn F) (u := 0) rfl (by decide) (at_N_sum_2 hfa hn A B (fun ov1 un1 n1 fa1 r h => ?_))
  show mm_W _ _ _ _ _ _ _ (10, [(0, .ref 1), (1, .int (nI a)), (2, .int (nI b))], [.int (nI r)], wC ov1 un1 (nI n1) 2 fa1 cu st fi se th db cn F, 0)
  exact mm_ret (mm_call_mono _ _) (c := True) (r := .inl (some (.int (nI r)))) (M := wC ov1 un1 (nI n1) 2 fa1 cu st fi se th db cn F) (u := 0) rfl trivial (by decide) (hQ _ _ _ _ _ (opL_of h))

set_option maxRecDepth 100000 in
theorem w_times_2 {d : Nat} {ov un : Nat → Int32} {fa : Int32} {cu : mm_cu} {st fi se th db : Nat → Int32} {cn : Int32} {F : mm_M} {n a b : Nat} {x y R1 R2 : Nat → fr} {Q : mm_R → mm_M → Prop} (hfa : mm_z fa) (hn : 308 ≤ n ∧ n ≤ 1332) (P : isAt ov un n fa 1 0 R1) (S : isAt ov un n fa 2 4 R2) (A : isAt ov un n fa 4 a x) (B : isAt ov un n fa 4 b y) (hQ : ∀ (ov1 un1 : Nat → Int32) (n1 : Nat) (fa1 : Int32) (r : Nat), opL ov un n fa 4 56 (nmul2 R1 R2 x y) ov1 un1 n1 fa1 r → Q (.inl (some (.int (nI r)))) (wC ov1 un1 (nI n1) 2 fa1 cu st fi se th db cn F)) : mm_call mm_Tb (d + 6) 131 [.ref 1, .int (nI a), .int (nI b)] (wC ov un (nI n) 2 fa cu st fi se th db cn F) Q := by
  refine mm_in mt_131 (Nat.le_of_ble_eq_true rfl) ?_
  show mm_W _ _ _ _ _ _ _ (0, [(0, .ref 1), (1, .int (nI a)), (2, .int (nI b))], [], wC ov un (nI n) 2 fa cu st fi se th db cn F, 0)
  refine mm_skip (mm_call_mono _ _) 5 (st' := (7, [(0, .ref 1), (1, .int (nI a)), (2, .int (nI b))], [.int (nI b), .int (nI a), .int 2, .ref 1], wC ov un (nI n) 2 fa cu st fi se th db cn F, 0)) rfl ?_
  refine mm_inv (mm_call_mono _ _) (j := 145) (a := [.ref 1, .int 2, .int (nI a), .int (nI b)]) (M := wC ov un (nI n) 2 fa cu st fi se th db cn F) (u := 0) rfl (by decide) (at_N_product_2 hfa hn P S A B (fun ov1 un1 n1 fa1 r h => ?_))
  show mm_W _ _ _ _ _ _ _ (10, [(0, .ref 1), (1, .int (nI a)), (2, .int (nI b))], [.int (nI r)], wC ov1 un1 (nI n1) 2 fa1 cu st fi se th db cn F, 0)
  exact mm_ret (mm_call_mono _ _) (c := True) (r := .inl (some (.int (nI r)))) (M := wC ov1 un1 (nI n1) 2 fa1 cu st fi se th db cn F) (u := 0) rfl trivial (by decide) (hQ _ _ _ _ _ (opL_of h))

set_option maxRecDepth 100000 in
theorem w_negated_2 {d : Nat} {ov un : Nat → Int32} {fa : Int32} {cu : mm_cu} {st fi se th db : Nat → Int32} {cn : Int32} {F : mm_M} {n a b : Nat} {x y R1 R2 : Nat → fr} {Q : mm_R → mm_M → Prop} (hfa : mm_z fa) (hn : 308 ≤ n ∧ n ≤ 1332) (A : isAt ov un n fa 4 a x) (hQ : ∀ (ov1 un1 : Nat → Int32) (n1 : Nat) (fa1 : Int32) (r : Nat), opL ov un n fa 4 4 (nneg 4 x) ov1 un1 n1 fa1 r → Q (.inl (some (.int (nI r)))) (wC ov1 un1 (nI n1) 2 fa1 cu st fi se th db cn F)) : mm_call mm_Tb (d + 6) 132 [.ref 1, .int (nI a)] (wC ov un (nI n) 2 fa cu st fi se th db cn F) Q := by
  refine mm_in mt_132 (Nat.le_of_ble_eq_true rfl) ?_
  show mm_W _ _ _ _ _ _ _ (0, [(0, .ref 1), (1, .int (nI a))], [], wC ov un (nI n) 2 fa cu st fi se th db cn F, 0)
  refine mm_skip (mm_call_mono _ _) 4 (st' := (6, [(0, .ref 1), (1, .int (nI a))], [.int (nI a), .int 2, .ref 1], wC ov un (nI n) 2 fa cu st fi se th db cn F, 0)) rfl ?_
  refine mm_inv (mm_call_mono _ _) (j := 143) (a := [.ref 1, .int 2, .int (nI a)]) (M := wC ov un (nI n) 2 fa cu st fi se th db cn F) (u := 0) rfl (by decide) (at_N_negative_2 hfa hn A (fun ov1 un1 n1 fa1 r h => ?_))
  show mm_W _ _ _ _ _ _ _ (9, [(0, .ref 1), (1, .int (nI a))], [.int (nI r)], wC ov1 un1 (nI n1) 2 fa1 cu st fi se th db cn F, 0)
  exact mm_ret (mm_call_mono _ _) (c := True) (r := .inl (some (.int (nI r)))) (M := wC ov1 un1 (nI n1) 2 fa1 cu st fi se th db cn F) (u := 0) rfl trivial (by decide) (hQ _ _ _ _ _ (opL_of h))

set_option maxRecDepth 100000 in
theorem w_halved_2 {d : Nat} {ov un : Nat → Int32} {fa : Int32} {cu : mm_cu} {st fi se th db : Nat → Int32} {cn : Int32} {F : mm_M} {n a b : Nat} {x y R1 R2 : Nat → fr} {Q : mm_R → mm_M → Prop} (hfa : mm_z fa) (hn : 308 ≤ n ∧ n ≤ 1332) (A : isAt ov un n fa 4 a x) (hQ : ∀ (ov1 un1 : Nat → Int32) (n1 : Nat) (fa1 : Int32) (r : Nat), opL ov un n fa 4 4 (nhalf 4 x) ov1 un1 n1 fa1 r → Q (.inl (some (.int (nI r)))) (wC ov1 un1 (nI n1) 2 fa1 cu st fi se th db cn F)) : mm_call mm_Tb (d + 6) 133 [.ref 1, .int (nI a)] (wC ov un (nI n) 2 fa cu st fi se th db cn F) Q := by
  refine mm_in mt_133 (Nat.le_of_ble_eq_true rfl) ?_
  show mm_W _ _ _ _ _ _ _ (0, [(0, .ref 1), (1, .int (nI a))], [], wC ov un (nI n) 2 fa cu st fi se th db cn F, 0)
  refine mm_skip (mm_call_mono _ _) 4 (st' := (6, [(0, .ref 1), (1, .int (nI a))], [.int (nI a), .int 2, .ref 1], wC ov un (nI n) 2 fa cu st fi se th db cn F, 0)) rfl ?_
  refine mm_inv (mm_call_mono _ _) (j := 144) (a := [.ref 1, .int 2, .int (nI a)]) (M := wC ov un (nI n) 2 fa cu st fi se th db cn F) (u := 0) rfl (by decide) (at_N_half_2 hfa hn A (fun ov1 un1 n1 fa1 r h => ?_))
  show mm_W _ _ _ _ _ _ _ (9, [(0, .ref 1), (1, .int (nI a))], [.int (nI r)], wC ov1 un1 (nI n1) 2 fa1 cu st fi se th db cn F, 0)
  exact mm_ret (mm_call_mono _ _) (c := True) (r := .inl (some (.int (nI r)))) (M := wC ov1 un1 (nI n1) 2 fa1 cu st fi se th db cn F) (u := 0) rfl trivial (by decide) (hQ _ _ _ _ _ (opL_of h))

set_option maxRecDepth 100000 in
theorem w_inverted_2 {d : Nat} {ov un : Nat → Int32} {fa : Int32} {cu : mm_cu} {st fi se th db : Nat → Int32} {cn : Int32} {F : mm_M} {n a b : Nat} {x y R1 R2 : Nat → fr} {Q : mm_R → mm_M → Prop} (hfa : mm_z fa) (hn : 308 ≤ n ∧ n ≤ 1332) (P : isAt ov un n fa 1 0 R1) (S : isAt ov un n fa 2 4 R2) (A : isAt ov un n fa 4 a x) (hQ : ∀ (ov1 un1 : Nat → Int32) (n1 : Nat) (fa1 : Int32) (r : Nat), opL ov un n fa 4 68 (ninv2 R1 R2 x) ov1 un1 n1 fa1 r → Q (.inl (some (.int (nI r)))) (wC ov1 un1 (nI n1) 2 fa1 cu st fi se th db cn F)) : mm_call mm_Tb (d + 6) 134 [.ref 1, .int (nI a)] (wC ov un (nI n) 2 fa cu st fi se th db cn F) Q := by
  refine mm_in mt_134 (Nat.le_of_ble_eq_true rfl) ?_
  show mm_W _ _ _ _ _ _ _ (0, [(0, .ref 1), (1, .int (nI a))], [], wC ov un (nI n) 2 fa cu st fi se th db cn F, 0)
  refine mm_skip (mm_call_mono _ _) 4 (st' := (6, [(0, .ref 1), (1, .int (nI a))], [.int (nI a), .int 2, .ref 1], wC ov un (nI n) 2 fa cu st fi se th db cn F, 0)) rfl ?_
  refine mm_inv (mm_call_mono _ _) (j := 146) (a := [.ref 1, .int 2, .int (nI a)]) (M := wC ov un (nI n) 2 fa cu st fi se th db cn F) (u := 0) rfl (by decide) (at_N_inverse_2 hfa hn P S A (fun ov1 un1 n1 fa1 r h => ?_))
  show mm_W _ _ _ _ _ _ _ (9, [(0, .ref 1), (1, .int (nI a))], [.int (nI r)], wC ov1 un1 (nI n1) 2 fa1 cu st fi se th db cn F, 0)
  exact mm_ret (mm_call_mono _ _) (c := True) (r := .inl (some (.int (nI r)))) (M := wC ov1 un1 (nI n1) 2 fa1 cu st fi se th db cn F) (u := 0) rfl trivial (by decide) (hQ _ _ _ _ _ (opL_of h))

set_option maxRecDepth 100000 in
theorem w_minus_2 {d : Nat} {ov un : Nat → Int32} {fa : Int32} {cu : mm_cu} {st fi se th db : Nat → Int32} {cn : Int32} {F : mm_M} {n a b : Nat} {x y R1 R2 : Nat → fr} {Q : mm_R → mm_M → Prop} (hfa : mm_z fa) (hn : 308 ≤ n ∧ n ≤ 1332) (A : isAt ov un n fa 4 a x) (B : isAt ov un n fa 4 b y) (hQ : ∀ (ov1 un1 : Nat → Int32) (n1 : Nat) (fa1 : Int32) (r : Nat), opL ov un n fa 8 8 (nsub 4 x y) ov1 un1 n1 fa1 r → Q (.inl (some (.int (nI r)))) (wC ov1 un1 (nI n1) 2 fa1 cu st fi se th db cn F)) : mm_call mm_Tb (d + 6) 130 [.ref 1, .int (nI a), .int (nI b)] (wC ov un (nI n) 2 fa cu st fi se th db cn F) Q := by
  refine mm_in mt_130 (Nat.le_of_ble_eq_true rfl) ?_
  show mm_W _ _ _ _ _ _ _ (0, [(0, .ref 1), (1, .int (nI a)), (2, .int (nI b))], [], wC ov un (nI n) 2 fa cu st fi se th db cn F, 0)
  refine mm_skip (mm_call_mono _ _) 8 (st' := (12, [(0, .ref 1), (1, .int (nI a)), (2, .int (nI b))], [.int (nI b), .int 2, .ref 1, .int (nI a), .int 2, .ref 1], wC ov un (nI n) 2 fa cu st fi se th db cn F, 0)) rfl ?_
  refine mm_inv (mm_call_mono _ _) (j := 143) (a := [.ref 1, .int 2, .int (nI b)]) (M := wC ov un (nI n) 2 fa cu st fi se th db cn F) (u := 0) rfl (by decide) (at_N_negative_2 hfa hn B (fun ov1 un1 n1 fa1 r1 h1 => ?_))
  show mm_W _ _ _ _ _ _ _ (15, [(0, .ref 1), (1, .int (nI a)), (2, .int (nI b))], [.int (nI r1), .int (nI a), .int 2, .ref 1], wC ov1 un1 (nI n1) 2 fa1 cu st fi se th db cn F, 0)
  have s0 := stl_0 (ov := ov) (un := un) hfa hn
  have E0 : fa = 0 → nsub 4 x y = Option.bind (nneg 4 y) (fun v => (nadd 4 x (g4 v)).bind some) := fun _ => rfl
  have F0 : fa = 1 → fa = 0 → n + 8 ≤ 1332 → nsub 4 x y = none := f_0
  have s1 := stl_s s0 h1
  have F1 := sq_f s0 F0 E0 h1 (by omega)
  have E1 := seq_e E0 h1
  have A1 := at_keep A (op_k h1)
  have N1 := at_new h1
  refine mm_inv (mm_call_mono _ _) (j := 142) (a := [.ref 1, .int 2, .int (nI a), .int (nI r1)]) (M := wC ov1 un1 (nI n1) 2 fa1 cu st fi se th db cn F) (u := 0) rfl (by decide) (at_N_sum_2 s1.2.1 s1.1 A1 N1 (fun ov2 un2 n2 fa2 r2 h2 => ?_))
  show mm_W _ _ _ _ _ _ _ (18, [(0, .ref 1), (1, .int (nI a)), (2, .int (nI b))], [.int (nI r2)], wC ov2 un2 (nI n2) 2 fa2 cu st fi se th db cn F, 0)
  have s2 := stl_s s1 h2
  have F2 := sq_f s1 F1 E1 h2 (by omega)
  have E2 := seq_e E1 h2
  have N2 := at_new h2
  exact mm_ret (mm_call_mono _ _) (c := True) (r := .inl (some (.int (nI r2)))) (M := wC ov2 un2 (nI n2) 2 fa2 cu st fi se th db cn F) (u := 0) rfl trivial (by decide) (hQ _ _ _ _ _ (opL_fin (C := 8) s2 (by omega) E2 F2 N2 h2.1.1 (fun q0 => by have e1 := h2.2.2.2.2.2.1 q0; have e2 := (s1.2.2.2.2 e1.1).2.1; omega)))

set_option maxRecDepth 100000 in
theorem w_signum_2 {d : Nat} {ov un : Nat → Int32} {fa : Int32} {cu : mm_cu} {st fi se th db : Nat → Int32} {cn : Int32} {F : mm_M} {n a b : Nat} {x y R1 R2 : Nat → fr} {Q : mm_R → mm_M → Prop} (hfa : mm_z fa) (hn : 308 ≤ n ∧ n ≤ 1332) (P : isAt ov un n fa 1 0 R1) (S : isAt ov un n fa 2 4 R2) (A : isAt ov un n fa 4 a x) (hQ : ∀ (ov1 un1 : Nat → Int32) (n1 : Nat) (fa1 v : Int32), sgR ov un n fa 80 (nsg2 R1 R2 x) ov1 un1 n1 fa1 v → Q (.inl (some (.int v))) (wC ov1 un1 (nI n1) 2 fa1 cu st fi se th db cn F)) : mm_call mm_Tb (d + 6) 135 [.ref 1, .int (nI a)] (wC ov un (nI n) 2 fa cu st fi se th db cn F) Q := by
  refine mm_in mt_135 (Nat.le_of_ble_eq_true rfl) ?_
  show mm_W _ _ _ _ _ _ _ (0, [(0, .ref 1), (1, .int (nI a))], [], wC ov un (nI n) 2 fa cu st fi se th db cn F, 0)
  refine mm_skip (mm_call_mono _ _) 4 (st' := (6, [(0, .ref 1), (1, .int (nI a))], [.int (nI a), .int 2, .ref 1], wC ov un (nI n) 2 fa cu st fi se th db cn F, 0)) rfl ?_
  refine mm_inv (mm_call_mono _ _) (j := 147) (a := [.ref 1, .int 2, .int (nI a)]) (M := wC ov un (nI n) 2 fa cu st fi se th db cn F) (u := 0) rfl (by decide) (at_N_signOf_2 hfa hn P S A (fun ov1 un1 n1 fa1 v h => ?_))
  show mm_W _ _ _ _ _ _ _ (9, [(0, .ref 1), (1, .int (nI a))], [.int v], wC ov1 un1 (nI n1) 2 fa1 cu st fi se th db cn F, 0)
  exact mm_ret (mm_call_mono _ _) (c := True) (r := .inl (some (.int v))) (M := wC ov1 un1 (nI n1) 2 fa1 cu st fi se th db cn F) (u := 0) rfl trivial (by decide) (hQ _ _ _ _ _ h)

