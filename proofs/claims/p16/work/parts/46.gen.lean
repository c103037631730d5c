/-- fractions of a number at level l -/
def lm : Nat → Nat
  | 0 => 1
  | 1 => 2
  | _ => 4
def xadd (l : Nat) (x y : n4) : Option n4 := nadd (lm l) (g4 x) (g4 y)
def xsub (l : Nat) (x y : n4) : Option n4 := nsub (lm l) (g4 x) (g4 y)
def xneg (l : Nat) (x : n4) : Option n4 := nneg (lm l) (g4 x)
def xhalf (l : Nat) (x : n4) : Option n4 := nhalf (lm l) (g4 x)
/-- the level and its radicands -/
abbrev lvR : Type := Nat × n4 × n4
def xmul (L : lvR) (x y : n4) : Option n4 := match L.1 with
  | 0 => nmul0 (g4 x) (g4 y)
  | 1 => nmul1 (g4 L.2.1) (g4 x) (g4 y)
  | _ => nmul2 (g4 L.2.1) (g4 L.2.2) (g4 x) (g4 y)
def xinv (L : lvR) (x : n4) : Option n4 := match L.1 with
  | 0 => ninv0 (g4 x)
  | 1 => ninv1 (g4 L.2.1) (g4 x)
  | _ => ninv2 (g4 L.2.1) (g4 L.2.2) (g4 x)
def xsg (L : lvR) (x : n4) : Option Int := match L.1 with
  | 0 => nsg0 (g4 x)
  | 1 => nsg1 (g4 L.2.1) (g4 x)
  | _ => nsg2 (g4 L.2.1) (g4 L.2.2) (g4 x)
noncomputable def xrt (L : lvR) (x : n4) : Option (Option n4) := match L.1 with
  | 0 => nrt0 (g4 x)
  | 1 => nrt1 (g4 L.2.1) (g4 x)
  | _ => nrt2 (g4 L.2.1) (g4 L.2.2) (g4 x)
/-- the radicands up to the level -/
def rdA (ov un : Nat → Int32) (n : Nat) (fa : Int32) (L : lvR) : Prop := (1 ≤ L.1 → isAt ov un n fa 4 0 (g4 L.2.1)) ∧ (2 ≤ L.1 → isAt ov un n fa 4 4 (g4 L.2.2))
theorem rd_keep {ov un ov1 un1 : Nat → Int32} {n n1 : Nat} {fa fa1 : Int32} {L : lvR} (h : rdA ov un n fa L) (h1 : fa1 = 0 → fa = 0 ∧ n ≤ n1 ∧ ∀ k, k < n → ov1 k = ov k ∧ un1 k = un k) : rdA ov1 un1 n1 fa1 L := ⟨fun q => at_keep (h.1 q) h1, fun q => at_keep (h.2 q) h1⟩
theorem opL_c {ov un ov1 un1 : Nat → Int32} {n n1 r g c c1 : Nat} {fa fa1 : Int32} {T : Option n4} (h : opL ov un n fa g c T ov1 un1 n1 fa1 r) (hc : c ≤ c1) : opL ov un n fa g c1 T ov1 un1 n1 fa1 r := by
  obtain ⟨h1, h2, h3, h4, h5, h6, h7⟩ := h
  exact ⟨h1, h2, h3, h4, h5, h6, fun q1 q2 q3 => h7 q1 q2 (by omega)⟩
theorem sgR_c {ov un ov1 un1 : Nat → Int32} {n n1 c c1 : Nat} {fa fa1 v : Int32} {T : Option Int} (h : sgR ov un n fa c T ov1 un1 n1 fa1 v) (hc : c ≤ c1) : sgR ov un n fa c1 T ov1 un1 n1 fa1 v := by
  obtain ⟨h1, h2, h3, h4, h5, h6, h7⟩ := h
  refine ⟨h1, h2, h3, h4, fun q0 => ?_, fun q1 q2 q3 => h6 q1 q2 (by omega), h7⟩
  obtain ⟨e1, e2, e3, e4⟩ := h5 q0
  exact ⟨e1, e2, by omega, e4⟩
theorem rtR_c {ov un ov1 un1 : Nat → Int32} {n n1 c c1 : Nat} {fa fa1 v : Int32} {T : Option (Option n4)} (h : rtR ov un n fa c T ov1 un1 n1 fa1 v) (hc : c ≤ c1) : rtR ov un n fa c1 T ov1 un1 n1 fa1 v := by
  obtain ⟨h1, h2, h3, h4, h5, h6, h7⟩ := h
  refine ⟨h1, h2, h3, h4, h5, fun q0 => ?_, fun q1 q2 q3 => h7 q1 q2 (by omega)⟩
  obtain ⟨e1, e2, e3, e4⟩ := h6 q0
  exact ⟨e1, e2, by omega, e4⟩
theorem stl_t {ov un ov1 un1 ov2 un2 : Nat → Int32} {n n1 n2 w v : Nat} {fa fa1 fa2 : Int32} (h : stl ov un n fa w ov1 un1 n1 fa1) (h2 : stl ov1 un1 n1 fa1 v ov2 un2 n2 fa2) : stl ov un n fa (w + v) ov2 un2 n2 fa2 := by
  obtain ⟨a1, a2, a3, a4, a5⟩ := h
  obtain ⟨b1, b2, b3, b4, b5⟩ := h2
  refine ⟨b1, b2, fun k hk => ⟨(b3 k hk).1.trans (a3 k hk).1, (b3 k hk).2.trans (a3 k hk).2⟩, fun h => b4 (a4 h), fun h0 => ?_⟩
  obtain ⟨q1, q2, q3, q4⟩ := b5 h0
  obtain ⟨p1, p2, p3, p4⟩ := a5 q1
  exact ⟨p1, by omega, by omega, fun k hk => ⟨(q4 k (by omega)).1.trans (p4 k hk).1, (q4 k (by omega)).2.trans (p4 k hk).2⟩⟩
theorem stl_k {ov un ov1 un1 : Nat → Int32} {n n1 w : Nat} {fa fa1 : Int32} (h : stl ov un n fa w ov1 un1 n1 fa1) : fa1 = 0 → fa = 0 ∧ n ≤ n1 ∧ ∀ k, k < n → ov1 k = ov k ∧ un1 k = un k := fun h0 => ⟨(h.2.2.2.2 h0).1, (h.2.2.2.2 h0).2.1, (h.2.2.2.2 h0).2.2.2⟩
theorem gw_plus {d : Nat} {ov un : Nat → Int32} {fa : Int32} {cu : mm_cu} {st fi se th db : Nat → Int32} {cn : Int32} {F : mm_M} {n a b : Nat} {x y : n4} {L : lvR} {Q : mm_R → mm_M → Prop} (hl : L.1 ≤ 2) (hfa : mm_z fa) (hn : 308 ≤ n ∧ n ≤ 1332) (A : isAt ov un n fa 4 a (g4 x)) (B : isAt ov un n fa 4 b (g4 y)) (hQ : ∀ (ov1 un1 : Nat → Int32) (n1 : Nat) (fa1 : Int32) (r : Nat), opL ov un n fa 4 4 (xadd L.1 x y) ov1 un1 n1 fa1 r → Q (.inl (some (.int (nI r)))) (wC ov1 un1 (nI n1) (nI L.1) fa1 cu st fi se th db cn F)) : mm_call mm_Tb (d + 6) 129 [.ref 1, .int (nI a), .int (nI b)] (wC ov un (nI n) (nI L.1) fa cu st fi se th db cn F) Q := by
  obtain ⟨l, R1, R2⟩ := L
  have hl : l ≤ 2 := hl
  rcases (show l = 0 ∨ l = 1 ∨ l = 2 by omega) with rfl | rfl | rfl
  · exact w_plus_0 (R1 := g4 R1) (R2 := g4 R2) hfa hn (at_lo A (by omega)) (at_lo B (by omega)) (fun _ _ _ _ _ h => hQ _ _ _ _ _ (opL_c h (by omega)))
  · exact w_plus_1 (R1 := g4 R1) (R2 := g4 R2) hfa hn (at_lo A (by omega)) (at_lo B (by omega)) (fun _ _ _ _ _ h => hQ _ _ _ _ _ (opL_c h (by omega)))
  · exact w_plus_2 (R1 := g4 R1) (R2 := g4 R2) hfa hn A B (fun _ _ _ _ _ h => hQ _ _ _ _ _ (opL_c h (by omega)))
theorem gw_minus {d : Nat} {ov un : Nat → Int32} {fa : Int32} {cu : mm_cu} {st fi se th db : Nat → Int32} {cn : Int32} {F : mm_M} {n a b : Nat} {x y : n4} {L : lvR} {Q : mm_R → mm_M → Prop} (hl : L.1 ≤ 2) (hfa : mm_z fa) (hn : 308 ≤ n ∧ n ≤ 1332) (A : isAt ov un n fa 4 a (g4 x)) (B : isAt ov un n fa 4 b (g4 y)) (hQ : ∀ (ov1 un1 : Nat → Int32) (n1 : Nat) (fa1 : Int32) (r : Nat), opL ov un n fa 8 8 (xsub L.1 x y) ov1 un1 n1 fa1 r → Q (.inl (some (.int (nI r)))) (wC ov1 un1 (nI n1) (nI L.1) fa1 cu st fi se th db cn F)) : mm_call mm_Tb (d + 6) 130 [.ref 1, .int (nI a), .int (nI b)] (wC ov un (nI n) (nI L.1) fa cu st fi se th db cn F) Q := by
  obtain ⟨l, R1, R2⟩ := L
  have hl : l ≤ 2 := hl
  rcases (show l = 0 ∨ l = 1 ∨ l = 2 by omega) with rfl | rfl | rfl
  · exact w_minus_0 (R1 := g4 R1) (R2 := g4 R2) hfa hn (at_lo A (by omega)) (at_lo B (by omega)) (fun _ _ _ _ _ h => hQ _ _ _ _ _ (opL_c h (by omega)))
  · exact w_minus_1 (R1 := g4 R1) (R2 := g4 R2) hfa hn (at_lo A (by omega)) (at_lo B (by omega)) (fun _ _ _ _ _ h => hQ _ _ _ _ _ (opL_c h (by omega)))
  · exact w_minus_2 (R1 := g4 R1) (R2 := g4 R2) hfa hn A B (fun _ _ _ _ _ h => hQ _ _ _ _ _ (opL_c h (by omega)))
theorem gw_times {d : Nat} {ov un : Nat → Int32} {fa : Int32} {cu : mm_cu} {st fi se th db : Nat → Int32} {cn : Int32} {F : mm_M} {n a b : Nat} {x y : n4} {L : lvR} {Q : mm_R → mm_M → Prop} (hl : L.1 ≤ 2) (hfa : mm_z fa) (hn : 308 ≤ n ∧ n ≤ 1332) (R : rdA ov un n fa L) (A : isAt ov un n fa 4 a (g4 x)) (B : isAt ov un n fa 4 b (g4 y)) (hQ : ∀ (ov1 un1 : Nat → Int32) (n1 : Nat) (fa1 : Int32) (r : Nat), opL ov un n fa 4 56 (xmul L x y) ov1 un1 n1 fa1 r → Q (.inl (some (.int (nI r)))) (wC ov1 un1 (nI n1) (nI L.1) fa1 cu st fi se th db cn F)) : mm_call mm_Tb (d + 6) 131 [.ref 1, .int (nI a), .int (nI b)] (wC ov un (nI n) (nI L.1) fa cu st fi se th db cn F) Q := by
  obtain ⟨l, R1, R2⟩ := L
  have hl : l ≤ 2 := hl
  rcases (show l = 0 ∨ l = 1 ∨ l = 2 by omega) with rfl | rfl | rfl
  · exact w_times_0 (R1 := g4 R1) (R2 := g4 R2) hfa hn (at_lo A (by omega)) (at_lo B (by omega)) (fun _ _ _ _ _ h => hQ _ _ _ _ _ (opL_c h (by omega)))
  · exact w_times_1 (R1 := g4 R1) (R2 := g4 R2) hfa hn (at_lo (R.1 (Nat.le_refl 1)) (by omega)) (at_lo A (by omega)) (at_lo B (by omega)) (fun _ _ _ _ _ h => hQ _ _ _ _ _ (opL_c h (by omega)))
  · exact w_times_2 (R1 := g4 R1) (R2 := g4 R2) hfa hn (at_lo (R.1 (show 1 ≤ 2 by omega)) (by omega)) (at_lo (R.2 (Nat.le_refl 2)) (by omega)) A B (fun _ _ _ _ _ h => hQ _ _ _ _ _ (opL_c h (by omega)))
theorem gw_negated {d : Nat} {ov un : Nat → Int32} {fa : Int32} {cu : mm_cu} {st fi se th db : Nat → Int32} {cn : Int32} {F : mm_M} {n a : Nat} {x : n4} {L : lvR} {Q : mm_R → mm_M → Prop} (hl : L.1 ≤ 2) (hfa : mm_z fa) (hn : 308 ≤ n ∧ n ≤ 1332) (A : isAt ov un n fa 4 a (g4 x)) (hQ : ∀ (ov1 un1 : Nat → Int32) (n1 : Nat) (fa1 : Int32) (r : Nat), opL ov un n fa 4 4 (xneg L.1 x) ov1 un1 n1 fa1 r → Q (.inl (some (.int (nI r)))) (wC ov1 un1 (nI n1) (nI L.1) fa1 cu st fi se th db cn F)) : mm_call mm_Tb (d + 6) 132 [.ref 1, .int (nI a)] (wC ov un (nI n) (nI L.1) fa cu st fi se th db cn F) Q := by
  obtain ⟨l, R1, R2⟩ := L
  have hl : l ≤ 2 := hl
  rcases (show l = 0 ∨ l = 1 ∨ l = 2 by omega) with rfl | rfl | rfl
  · exact w_negated_0 (R1 := g4 R1) (R2 := g4 R2) (b := 0) (y := g4 zz) hfa hn (at_lo A (by omega)) (fun _ _ _ _ _ h => hQ _ _ _ _ _ (opL_c h (by omega)))
  · exact w_negated_1 (R1 := g4 R1) (R2 := g4 R2) (b := 0) (y := g4 zz) hfa hn (at_lo A (by omega)) (fun _ _ _ _ _ h => hQ _ _ _ _ _ (opL_c h (by omega)))
  · exact w_negated_2 (R1 := g4 R1) (R2 := g4 R2) (b := 0) (y := g4 zz) hfa hn A (fun _ _ _ _ _ h => hQ _ _ _ _ _ (opL_c h (by omega)))
theorem gw_halved {d : Nat} {ov un : Nat → Int32} {fa : Int32} {cu : mm_cu} {st fi se th db : Nat → Int32} {cn : Int32} {F : mm_M} {n a : Nat} {x : n4} {L : lvR} {Q : mm_R → mm_M → Prop} (hl : L.1 ≤ 2) (hfa : mm_z fa) (hn : 308 ≤ n ∧ n ≤ 1332) (A : isAt ov un n fa 4 a (g4 x)) (hQ : ∀ (ov1 un1 : Nat → Int32) (n1 : Nat) (fa1 : Int32) (r : Nat), opL ov un n fa 4 4 (xhalf L.1 x) ov1 un1 n1 fa1 r → Q (.inl (some (.int (nI r)))) (wC ov1 un1 (nI n1) (nI L.1) fa1 cu st fi se th db cn F)) : mm_call mm_Tb (d + 6) 133 [.ref 1, .int (nI a)] (wC ov un (nI n) (nI L.1) fa cu st fi se th db cn F) Q := by
  obtain ⟨l, R1, R2⟩ := L
  have hl : l ≤ 2 := hl
  rcases (show l = 0 ∨ l = 1 ∨ l = 2 by omega) with rfl | rfl | rfl
  · exact w_halved_0 (R1 := g4 R1) (R2 := g4 R2) (b := 0) (y := g4 zz) hfa hn (at_lo A (by omega)) (fun _ _ _ _ _ h => hQ _ _ _ _ _ (opL_c h (by omega)))
  · exact w_halved_1 (R1 := g4 R1) (R2 := g4 R2) (b := 0) (y := g4 zz) hfa hn (at_lo A (by omega)) (fun _ _ _ _ _ h => hQ _ _ _ _ _ (opL_c h (by omega)))
  · exact w_halved_2 (R1 := g4 R1) (R2 := g4 R2) (b := 0) (y := g4 zz) hfa hn A (fun _ _ _ _ _ h => hQ _ _ _ _ _ (opL_c h (by omega)))
theorem gw_inverted {d : Nat} {ov un : Nat → Int32} {fa : Int32} {cu : mm_cu} {st fi se th db : Nat → Int32} {cn : Int32} {F : mm_M} {n a : Nat} {x : n4} {L : lvR} {Q : mm_R → mm_M → Prop} (hl : L.1 ≤ 2) (hfa : mm_z fa) (hn : 308 ≤ n ∧ n ≤ 1332) (R : rdA ov un n fa L) (A : isAt ov un n fa 4 a (g4 x)) (hQ : ∀ (ov1 un1 : Nat → Int32) (n1 : Nat) (fa1 : Int32) (r : Nat), opL ov un n fa 4 68 (xinv L x) ov1 un1 n1 fa1 r → Q (.inl (some (.int (nI r)))) (wC ov1 un1 (nI n1) (nI L.1) fa1 cu st fi se th db cn F)) : mm_call mm_Tb (d + 6) 134 [.ref 1, .int (nI a)] (wC ov un (nI n) (nI L.1) fa cu st fi se th db cn F) Q := by
  obtain ⟨l, R1, R2⟩ := L
  have hl : l ≤ 2 := hl
  rcases (show l = 0 ∨ l = 1 ∨ l = 2 by omega) with rfl | rfl | rfl
  · exact w_inverted_0 (R1 := g4 R1) (R2 := g4 R2) (b := 0) (y := g4 zz) hfa hn (at_lo A (by omega)) (fun _ _ _ _ _ h => hQ _ _ _ _ _ (opL_c h (by omega)))
  · exact w_inverted_1 (R1 := g4 R1) (R2 := g4 R2) (b := 0) (y := g4 zz) hfa hn (at_lo (R.1 (Nat.le_refl 1)) (by omega)) (at_lo A (by omega)) (fun _ _ _ _ _ h => hQ _ _ _ _ _ (opL_c h (by omega)))
  · exact w_inverted_2 (R1 := g4 R1) (R2 := g4 R2) (b := 0) (y := g4 zz) hfa hn (at_lo (R.1 (show 1 ≤ 2 by omega)) (by omega)) (at_lo (R.2 (Nat.le_refl 2)) (by omega)) A (fun _ _ _ _ _ h => hQ _ _ _ _ _ (opL_c h (by omega)))
theorem gw_signum {d : Nat} {ov un : Nat → Int32} {fa : Int32} {cu : mm_cu} {st fi se th db : Nat → Int32} {cn : Int32} {F : mm_M} {n a : Nat} {x : n4} {L : lvR} {Q : mm_R → mm_M → Prop} (hl : L.1 ≤ 2) (hfa : mm_z fa) (hn : 308 ≤ n ∧ n ≤ 1332) (R : rdA ov un n fa L) (A : isAt ov un n fa 4 a (g4 x)) (hQ : ∀ (ov1 un1 : Nat → Int32) (n1 : Nat) (fa1 v : Int32), sgR ov un n fa 80 (xsg L x) ov1 un1 n1 fa1 v → Q (.inl (some (.int v))) (wC ov1 un1 (nI n1) (nI L.1) fa1 cu st fi se th db cn F)) : mm_call mm_Tb (d + 6) 135 [.ref 1, .int (nI a)] (wC ov un (nI n) (nI L.1) fa cu st fi se th db cn F) Q := by
  obtain ⟨l, R1, R2⟩ := L
  have hl : l ≤ 2 := hl
  rcases (show l = 0 ∨ l = 1 ∨ l = 2 by omega) with rfl | rfl | rfl
  · exact w_signum_0 (R1 := g4 R1) (R2 := g4 R2) (b := 0) (y := g4 zz) hfa hn (at_lo A (by omega)) (fun _ _ _ _ _ h => hQ _ _ _ _ _ (sgR_c h (by omega)))
  · exact w_signum_1 (R1 := g4 R1) (R2 := g4 R2) (b := 0) (y := g4 zz) hfa hn (at_lo (R.1 (Nat.le_refl 1)) (by omega)) (at_lo A (by omega)) (fun _ _ _ _ _ h => hQ _ _ _ _ _ (sgR_c h (by omega)))
  · exact w_signum_2 (R1 := g4 R1) (R2 := g4 R2) (b := 0) (y := g4 zz) hfa hn (at_lo (R.1 (show 1 ≤ 2 by omega)) (by omega)) (at_lo (R.2 (Nat.le_refl 2)) (by omega)) A (fun _ _ _ _ _ h => hQ _ _ _ _ _ (sgR_c h (by omega)))
theorem gx_signOf {d : Nat} {ov un : Nat → Int32} {fa : Int32} {cu : mm_cu} {st fi se th db : Nat → Int32} {cn : Int32} {F : mm_M} {n a : Nat} {x : n4} {L : lvR} {Q : mm_R → mm_M → Prop} (hl : L.1 ≤ 2) (hfa : mm_z fa) (hn : 308 ≤ n ∧ n ≤ 1332) (R : rdA ov un n fa L) (A : isAt ov un n fa 4 a (g4 x)) (hQ : ∀ (ov1 un1 : Nat → Int32) (n1 : Nat) (fa1 v : Int32), sgR ov un n fa 80 (xsg L x) ov1 un1 n1 fa1 v → Q (.inl (some (.int v))) (wC ov1 un1 (nI n1) (nI L.1) fa1 cu st fi se th db cn F)) : mm_call mm_Tb (d + 6) 147 [.ref 1, .int (nI L.1), .int (nI a)] (wC ov un (nI n) (nI L.1) fa cu st fi se th db cn F) Q := by
  obtain ⟨l, R1, R2⟩ := L
  have hl : l ≤ 2 := hl
  rcases (show l = 0 ∨ l = 1 ∨ l = 2 by omega) with rfl | rfl | rfl
  · exact at_N_signOf_0 hfa hn (at_lo A (by omega)) (fun _ _ _ _ _ h => hQ _ _ _ _ _ (sgR_c h (by omega)))
  · exact at_N_signOf_1 hfa hn (at_lo (R.1 (Nat.le_refl 1)) (by omega)) (at_lo A (by omega)) (fun _ _ _ _ _ h => hQ _ _ _ _ _ (sgR_c h (by omega)))
  · exact at_N_signOf_2 hfa hn (at_lo (R.1 (show 1 ≤ 2 by omega)) (by omega)) (at_lo (R.2 (Nat.le_refl 2)) (by omega)) A (fun _ _ _ _ _ h => hQ _ _ _ _ _ (sgR_c h (by omega)))
theorem gx_root {d : Nat} {ov un : Nat → Int32} {fa : Int32} {cu : mm_cu} {st fi se th db : Nat → Int32} {cn : Int32} {F : mm_M} {n a : Nat} {x : n4} {L : lvR} {Q : mm_R → mm_M → Prop} (hl : L.1 ≤ 2) (hfa : mm_z fa) (hn : 308 ≤ n ∧ n ≤ 1332) (R : rdA ov un n fa L) (A : isAt ov un n fa 4 a (g4 x)) (hQ : ∀ (ov1 un1 : Nat → Int32) (n1 : Nat) (fa1 v : Int32), rtR ov un n fa 560 (xrt L x) ov1 un1 n1 fa1 v → Q (.inl (some (.int v))) (wC ov1 un1 (nI n1) (nI L.1) fa1 cu st fi se th db cn F)) : mm_call mm_Tb (d + 6) 148 [.ref 1, .int (nI L.1), .int (nI a)] (wC ov un (nI n) (nI L.1) fa cu st fi se th db cn F) Q := by
  obtain ⟨l, R1, R2⟩ := L
  have hl : l ≤ 2 := hl
  rcases (show l = 0 ∨ l = 1 ∨ l = 2 by omega) with rfl | rfl | rfl
  · exact at_N_root_0 hfa hn (at_lo A (by omega)) (fun _ _ _ _ _ h => hQ _ _ _ _ _ (rtR_c h (by omega)))
  · exact at_N_root_1 hfa hn (at_lo (R.1 (Nat.le_refl 1)) (by omega)) (at_lo A (by omega)) (fun _ _ _ _ _ h => hQ _ _ _ _ _ (rtR_c h (by omega)))
  · exact at_N_root_2 hfa hn (at_lo (R.1 (show 1 ≤ 2 by omega)) (by omega)) (at_lo (R.2 (Nat.le_refl 2)) (by omega)) A (fun _ _ _ _ _ h => hQ _ _ _ _ _ (rtR_c h (by omega)))
