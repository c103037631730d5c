/-- at a stands the number x, of m fractions, unless something has failed -/
def isAt (ov un : Nat → Int32) (n : Nat) (fa : Int32) (m a : Nat) (x : Nat → fr) : Prop := arg ov un n fa m a ∧ (fa = 0 → ∀ j, j < m → rd ov un a j = x j)
theorem at_of {ov un : Nat → Int32} {n m a : Nat} {fa : Int32} (h : arg ov un n fa m a) : isAt ov un n fa m a (rd ov un a) := ⟨h, fun _ _ _ => rfl⟩
theorem at_keep {ov un ov1 un1 : Nat → Int32} {n n1 : Nat} {fa fa1 : Int32} {m a : Nat} {x : Nat → fr} (h : isAt ov un n fa m a x) (h1 : fa1 = 0 → fa = 0 ∧ n ≤ n1 ∧ ∀ k, k < n → ov1 k = ov k ∧ un1 k = un k) : isAt ov1 un1 n1 fa1 m a x := by
  obtain ⟨⟨ha, hb⟩, hc⟩ := h
  have key : fa1 = 0 → ∀ j, j < m → rd ov1 un1 a j = rd ov un a j := fun h0 j hj => by
    obtain ⟨q1, q2, q3⟩ := h1 h0
    exact rf_eq (q3 (a + j) (by have := (hb q1).1; omega))
  refine ⟨⟨ha, fun h0 => ?_⟩, fun h0 j hj => ?_⟩
  · obtain ⟨q1, q2, q3⟩ := h1 h0
    refine ⟨by have := (hb q1).1; omega, fun j hj => ?_⟩
    rw [key h0 j hj]
    exact (hb q1).2 j hj
  · rw [key h0 j hj]
    exact hc (h1 h0).1 j hj
theorem res_k {ov un ov1 un1 : Nat → Int32} {n n1 r : Nat} {fa fa1 : Int32} (h : resR ov un n fa ov1 un1 n1 fa1 r) (hn : 308 ≤ n) : fa1 = 0 → fa = 0 ∧ n ≤ n1 ∧ ∀ k, k < n → ov1 k = ov k ∧ un1 k = un k := by
  intro h0
  have hr := res_r h hn
  obtain ⟨h1 | h1, h2, h3, -⟩ := h
  · exact ⟨by rw [← h1.2.2]; exact h0, by omega, fun k hk => h3 k (by omega)⟩
  · rw [h1.2.2] at h0; exact absurd h0 z10
theorem op_k {ov un ov1 un1 : Nat → Int32} {n n1 r : Nat} {fa fa1 : Int32} {cost : Nat} {T : Option n4} (h : opR ov un n fa cost T ov1 un1 n1 fa1 r) : fa1 = 0 → fa = 0 ∧ n ≤ n1 ∧ ∀ k, k < n → ov1 k = ov k ∧ un1 k = un k := by
  intro h0
  obtain ⟨q1, q2, q3, q4, -⟩ := h.2.2.2.2.2.1 h0
  exact ⟨q1, by omega, q4⟩
theorem at_new {ov un ov1 un1 : Nat → Int32} {n n1 r : Nat} {fa fa1 : Int32} {cost : Nat} {T : Option n4} (h : opR ov un n fa cost T ov1 un1 n1 fa1 r) : isAt ov1 un1 n1 fa1 4 r (g4 (r4 ov1 un1 r)) := by
  refine ⟨⟨h.1.2, fun h0 => ?_⟩, fun h0 j hj => (g4_r4 hj).symm⟩
  obtain ⟨q1, q2, q3, q4, q5, q6⟩ := h.2.2.2.2.2.1 h0
  refine ⟨by omega, fun j hj => ?_⟩
  show fv (rf ov1 un1 (r + j))
  rw [← g4_r4 hj]
  exact v4_g q6 hj
def sh (h : Nat) (x : Nat → fr) : Nat → fr := fun j => x (h + j)
theorem at_lo {ov un : Nat → Int32} {n m h a : Nat} {fa : Int32} {x : Nat → fr} (H : isAt ov un n fa m a x) (hm : h ≤ m) : isAt ov un n fa h a x := by
  obtain ⟨⟨ha, hb⟩, hc⟩ := H
  exact ⟨⟨by omega, fun h0 => ⟨by have := (hb h0).1; omega, fun j hj => (hb h0).2 j (by omega)⟩⟩, fun h0 j hj => hc h0 j (by omega)⟩
theorem at_hi {ov un : Nat → Int32} {n m h a : Nat} {fa : Int32} {x : Nat → fr} (H : isAt ov un n fa m a x) (k : Nat) (hm : k + h ≤ m) : isAt ov un n fa h (a + k) (sh k x) := by
  obtain ⟨⟨ha, hb⟩, hc⟩ := H
  have e : ∀ j, rd ov un (a + k) j = rd ov un a (k + j) := fun j => by unfold rd; rw [Nat.add_assoc]
  refine ⟨⟨by omega, fun h0 => ⟨by have := (hb h0).1; omega, fun j hj => ?_⟩⟩, fun h0 j hj => ?_⟩
  · rw [e]; exact (hb h0).2 (k + j) (by omega)
  · rw [e]; exact hc h0 (k + j) (by omega)
theorem opR_T {ov un ov1 un1 : Nat → Int32} {n n1 r : Nat} {fa fa1 : Int32} {cost : Nat} {T T1 : Option n4} (h : opR ov un n fa cost T ov1 un1 n1 fa1 r) (e : fa = 0 → T = T1) : opR ov un n fa cost T1 ov1 un1 n1 fa1 r := by
  obtain ⟨h1, h2, h3, h4, h5, h6, h7⟩ := h
  refine ⟨h1, h2, h3, h4, h5, fun h0 => ?_, fun h9 h0 hr => ?_⟩
  · obtain ⟨q1, q2, q3, q4, q5, q6⟩ := h6 h0
    exact ⟨q1, q2, q3, q4, by rw [← e q1]; exact q5, q6⟩
  · rw [← e h0]; exact h7 h9 h0 hr
theorem nS_congr {m : Nat} {S S1 : Nat → Option fr} (hm : lv m) (h : ∀ j, j < m → S j = S1 j) : nS m S = nS m S1 := by
  rcases hm with rfl | rfl | rfl
  · show (S 0).map (fun a => ((a, z0, z0, z0) : n4)) = (S1 0).map (fun a => ((a, z0, z0, z0) : n4))
    rw [h 0 (by omega)]
  · show ((S 0).bind fun a => (S 1).map fun b => ((a, b, z0, z0) : n4)) = ((S1 0).bind fun a => (S1 1).map fun b => ((a, b, z0, z0) : n4))
    rw [h 0 (by omega), h 1 (by omega)]
  · show ((S 0).bind fun a => (S 1).bind fun b => (S 2).bind fun c => (S 3).map fun e => ((a, b, c, e) : n4)) = ((S1 0).bind fun a => (S1 1).bind fun b => (S1 2).bind fun c => (S1 3).map fun e => ((a, b, c, e) : n4))
    rw [h 0 (by omega), h 1 (by omega), h 2 (by omega), h 3 (by omega)]
/-- where the work stands: w numbers have been taken since the start -/
def stg (ov un : Nat → Int32) (n : Nat) (fa : Int32) (w : Nat) (ov1 un1 : Nat → Int32) (n1 : Nat) (fa1 : Int32) : Prop :=
  (308 ≤ n1 ∧ n1 ≤ 1332) ∧ mm_z fa1 ∧ (∀ k, k < 308 → ov1 k = ov k ∧ un1 k = un k) ∧ (fa = 1 → fa1 = 1) ∧ (fa1 = 0 → fa = 0 ∧ n1 = n + 4 * w ∧ ∀ k, k < n → ov1 k = ov k ∧ un1 k = un k)
theorem stg_0 {ov un ov1 un1 : Nat → Int32} {n n1 r : Nat} {fa fa1 : Int32} (hfa : mm_z fa) (hn : 308 ≤ n) (h : resR ov un n fa ov1 un1 n1 fa1 r) : stg ov un n fa 1 ov1 un1 n1 fa1 := by
  have k0 := pt_0 (fun _ => none) hfa hn h
  have hr := res_r h hn
  refine ⟨by omega, k0.1, k0.2.1, k0.2.2.1, fun h0 => ?_⟩
  obtain ⟨q1, q2, q3, q4, -⟩ := k0.2.2.2.1 h0
  exact ⟨q1, by omega, q4⟩
theorem stg_s {ov un ov1 un1 ov2 un2 : Nat → Int32} {n n1 n2 r w : Nat} {fa fa1 fa2 : Int32} {cost : Nat} {T : Option n4} (h : stg ov un n fa w ov1 un1 n1 fa1) (hn : 308 ≤ n) (h2 : opR ov1 un1 n1 fa1 cost T ov2 un2 n2 fa2 r) : stg ov un n fa (w + 1) ov2 un2 n2 fa2 := by
  obtain ⟨a1, a2, a3, a4, a5⟩ := h
  obtain ⟨b1, b2, b3, b4, b5, b6, -⟩ := h2
  refine ⟨b2, b3, fun k hk => ⟨(b4 k hk).1.trans (a3 k hk).1, (b4 k hk).2.trans (a3 k hk).2⟩, fun h => b5 (a4 h), fun h0 => ?_⟩
  obtain ⟨q1, q2, q3, q4, -⟩ := b6 h0
  obtain ⟨p1, p2, p3⟩ := a5 q1
  exact ⟨p1, by omega, fun k hk => ⟨(q4 k (by omega)).1.trans (p3 k hk).1, (q4 k (by omega)).2.trans (p3 k hk).2⟩⟩
/-- the spec so far: E what is left of it while nothing has failed, F that it has none once something has -/
theorem seq_e {ov un ov1 un1 : Nat → Int32} {n n1 r : Nat} {fa fa1 : Int32} {X : Type} {cost : Nat} {T : Option n4} {spec : Option X} {k : n4 → Option X} (E : fa = 0 → spec = T.bind k) (h : opR ov un n fa cost T ov1 un1 n1 fa1 r) : fa1 = 0 → spec = k (r4 ov1 un1 r) := by
  intro h0
  obtain ⟨q1, q2, q3, q4, q5, -⟩ := h.2.2.2.2.2.1 h0
  rw [E q1, q5]
  rfl
theorem seq_f {ov un ov1 un1 ov2 un2 : Nat → Int32} {n n1 n2 r w C : Nat} {fa fa1 fa2 : Int32} {X : Type} {cost : Nat} {T : Option n4} {spec : Option X} {k : n4 → Option X} (hs : stg ov un n fa w ov1 un1 n1 fa1) (F : fa1 = 1 → fa = 0 → n + C ≤ 1332 → spec = none) (E : fa1 = 0 → spec = T.bind k) (h : opR ov1 un1 n1 fa1 cost T ov2 un2 n2 fa2 r) (hC : 4 * w + cost ≤ C) : fa2 = 1 → fa = 0 → n + C ≤ 1332 → spec = none := by
  intro h9 h0 hroom
  rcases hs.2.1 with hz | hz
  · rw [E hz, h.2.2.2.2.2.2 h9 hz (by have := (hs.2.2.2.2 hz).2.1; omega)]
    rfl
  · exact F hz h0 hroom
theorem res_f {ov un ov1 un1 : Nat → Int32} {n n1 r : Nat} {fa fa1 : Int32} {X : Type} {spec : Option X} {C : Nat} (h : resR ov un n fa ov1 un1 n1 fa1 r) (hC : 4 ≤ C) : fa1 = 1 → fa = 0 → n + C ≤ 1332 → spec = none := by
  intro h9 h0 hroom
  obtain ⟨h1 | h1, -⟩ := h
  · rw [h1.2.2, h0] at h9; exact absurd h9.symm z10
  · omega
/-- products -/
def nmul0 (x y : Nat → fr) : Option n4 := nS 1 fun j => fmul (x j) (y j)
def jn (h : Nat) (p q : n4) : n4 := match h with
  | 1 => (p.1, q.1, z0, z0)
  | _ => (p.1, p.2.1, q.1, q.2.1)
def nmulS (h : Nat) (M : (Nat → fr) → (Nat → fr) → Option n4) (R x y : Nat → fr) : Option n4 :=
  (M (sh h x) (sh h y)).bind fun bd => (M (g4 bd) R).bind fun bdr => (M x y).bind fun ac => (nadd h (g4 ac) (g4 bdr)).bind fun p => (M x (sh h y)).bind fun ad => (M (sh h x) y).bind fun bc => (nadd h (g4 ad) (g4 bc)).bind fun q => some (jn h p q)
def nmul1 (R : Nat → fr) (x y : Nat → fr) : Option n4 := nmulS 1 nmul0 R x y
def nmul2 (R1 R2 : Nat → fr) (x y : Nat → fr) : Option n4 := nmulS 2 (nmul1 R1) R2 x y
theorem at_N_sum_0 {d : Nat} {ov un : Nat → Int32} {dp fa : Int32} {cu : mm_cu} {st fi se th db : Nat → Int32} {cn : Int32} {F : mm_M} {n a b : Nat} {x y : Nat → fr} {Q : mm_R → mm_M → Prop} (hfa : mm_z fa) (hn : 308 ≤ n ∧ n ≤ 1332) (ha : isAt ov un n fa 1 a x) (hb : isAt ov un n fa 1 b y) (hQ : ∀ (ov1 un1 : Nat → Int32) (n1 : Nat) (fa1 : Int32) (r : Nat), opR ov un n fa 4 (nadd 1 x y) ov1 un1 n1 fa1 r → Q (.inl (some (.int (nI r)))) (wC ov1 un1 (nI n1) dp fa1 cu st fi se th db cn F)) : mm_call mm_Tb (d + 2) 142 [.ref 1, .int 0, .int (nI a), .int (nI b)] (wC ov un (nI n) dp fa cu st fi se th db cn F) Q := ct_N_sum_0 hfa hn ha.1 hb.1 (fun _ _ _ _ _ h => hQ _ _ _ _ _ (opR_T h (fun h0 => nS_congr (by first | exact Or.inl rfl | exact Or.inr (Or.inl rfl) | exact Or.inr (Or.inr rfl)) (fun j hj => by show fadd (rd ov un a j) (rd ov un b j) = fadd (x j) (y j); rw [ha.2 h0 j hj, hb.2 h0 j hj]))))
theorem at_N_half_0 {d : Nat} {ov un : Nat → Int32} {dp fa : Int32} {cu : mm_cu} {st fi se th db : Nat → Int32} {cn : Int32} {F : mm_M} {n a : Nat} {x : Nat → fr} {Q : mm_R → mm_M → Prop} (hfa : mm_z fa) (hn : 308 ≤ n ∧ n ≤ 1332) (ha : isAt ov un n fa 1 a x) (hQ : ∀ (ov1 un1 : Nat → Int32) (n1 : Nat) (fa1 : Int32) (r : Nat), opR ov un n fa 4 (nhalf 1 x) ov1 un1 n1 fa1 r → Q (.inl (some (.int (nI r)))) (wC ov1 un1 (nI n1) dp fa1 cu st fi se th db cn F)) : mm_call mm_Tb (d + 2) 144 [.ref 1, .int 0, .int (nI a)] (wC ov un (nI n) dp fa cu st fi se th db cn F) Q := ct_N_half_0 hfa hn ha.1 (fun _ _ _ _ _ h => hQ _ _ _ _ _ (opR_T h (fun h0 => nS_congr (by first | exact Or.inl rfl | exact Or.inr (Or.inl rfl) | exact Or.inr (Or.inr rfl)) (fun j hj => by show fhalf (rd ov un a j) = fhalf (x j); rw [ha.2 h0 j hj]))))
theorem at_N_negative_0 {d : Nat} {ov un : Nat → Int32} {dp fa : Int32} {cu : mm_cu} {st fi se th db : Nat → Int32} {cn : Int32} {F : mm_M} {n a : Nat} {x : Nat → fr} {Q : mm_R → mm_M → Prop} (hfa : mm_z fa) (hn : 308 ≤ n ∧ n ≤ 1332) (ha : isAt ov un n fa 1 a x) (hQ : ∀ (ov1 un1 : Nat → Int32) (n1 : Nat) (fa1 : Int32) (r : Nat), opR ov un n fa 4 (nneg 1 x) ov1 un1 n1 fa1 r → Q (.inl (some (.int (nI r)))) (wC ov1 un1 (nI n1) dp fa1 cu st fi se th db cn F)) : mm_call mm_Tb (d + 2) 143 [.ref 1, .int 0, .int (nI a)] (wC ov un (nI n) dp fa cu st fi se th db cn F) Q := ct_N_negative_0 hfa hn ha.1 (fun _ _ _ _ _ h => hQ _ _ _ _ _ (opR_T h (fun h0 => nS_congr (by first | exact Or.inl rfl | exact Or.inr (Or.inl rfl) | exact Or.inr (Or.inr rfl)) (fun j hj => by show some (fneg (rd ov un a j)) = some (fneg (x j)); rw [ha.2 h0 j hj]))))
theorem at_N_sum_1 {d : Nat} {ov un : Nat → Int32} {dp fa : Int32} {cu : mm_cu} {st fi se th db : Nat → Int32} {cn : Int32} {F : mm_M} {n a b : Nat} {x y : Nat → fr} {Q : mm_R → mm_M → Prop} (hfa : mm_z fa) (hn : 308 ≤ n ∧ n ≤ 1332) (ha : isAt ov un n fa 2 a x) (hb : isAt ov un n fa 2 b y) (hQ : ∀ (ov1 un1 : Nat → Int32) (n1 : Nat) (fa1 : Int32) (r : Nat), opR ov un n fa 4 (nadd 2 x y) ov1 un1 n1 fa1 r → Q (.inl (some (.int (nI r)))) (wC ov1 un1 (nI n1) dp fa1 cu st fi se th db cn F)) : mm_call mm_Tb (d + 2) 142 [.ref 1, .int 1, .int (nI a), .int (nI b)] (wC ov un (nI n) dp fa cu st fi se th db cn F) Q := ct_N_sum_1 hfa hn ha.1 hb.1 (fun _ _ _ _ _ h => hQ _ _ _ _ _ (opR_T h (fun h0 => nS_congr (by first | exact Or.inl rfl | exact Or.inr (Or.inl rfl) | exact Or.inr (Or.inr rfl)) (fun j hj => by show fadd (rd ov un a j) (rd ov un b j) = fadd (x j) (y j); rw [ha.2 h0 j hj, hb.2 h0 j hj]))))
theorem at_N_half_1 {d : Nat} {ov un : Nat → Int32} {dp fa : Int32} {cu : mm_cu} {st fi se th db : Nat → Int32} {cn : Int32} {F : mm_M} {n a : Nat} {x : Nat → fr} {Q : mm_R → mm_M → Prop} (hfa : mm_z fa) (hn : 308 ≤ n ∧ n ≤ 1332) (ha : isAt ov un n fa 2 a x) (hQ : ∀ (ov1 un1 : Nat → Int32) (n1 : Nat) (fa1 : Int32) (r : Nat), opR ov un n fa 4 (nhalf 2 x) ov1 un1 n1 fa1 r → Q (.inl (some (.int (nI r)))) (wC ov1 un1 (nI n1) dp fa1 cu st fi se th db cn F)) : mm_call mm_Tb (d + 2) 144 [.ref 1, .int 1, .int (nI a)] (wC ov un (nI n) dp fa cu st fi se th db cn F) Q := ct_N_half_1 hfa hn ha.1 (fun _ _ _ _ _ h => hQ _ _ _ _ _ (opR_T h (fun h0 => nS_congr (by first | exact Or.inl rfl | exact Or.inr (Or.inl rfl) | exact Or.inr (Or.inr rfl)) (fun j hj => by show fhalf (rd ov un a j) = fhalf (x j); rw [ha.2 h0 j hj]))))
theorem at_N_negative_1 {d : Nat} {ov un : Nat → Int32} {dp fa : Int32} {cu : mm_cu} {st fi se th db : Nat → Int32} {cn : Int32} {F : mm_M} {n a : Nat} {x : Nat → fr} {Q : mm_R → mm_M → Prop} (hfa : mm_z fa) (hn : 308 ≤ n ∧ n ≤ 1332) (ha : isAt ov un n fa 2 a x) (hQ : ∀ (ov1 un1 : Nat → Int32) (n1 : Nat) (fa1 : Int32) (r : Nat), opR ov un n fa 4 (nneg 2 x) ov1 un1 n1 fa1 r → Q (.inl (some (.int (nI r)))) (wC ov1 un1 (nI n1) dp fa1 cu st fi se th db cn F)) : mm_call mm_Tb (d + 2) 143 [.ref 1, .int 1, .int (nI a)] (wC ov un (nI n) dp fa cu st fi se th db cn F) Q := ct_N_negative_1 hfa hn ha.1 (fun _ _ _ _ _ h => hQ _ _ _ _ _ (opR_T h (fun h0 => nS_congr (by first | exact Or.inl rfl | exact Or.inr (Or.inl rfl) | exact Or.inr (Or.inr rfl)) (fun j hj => by show some (fneg (rd ov un a j)) = some (fneg (x j)); rw [ha.2 h0 j hj]))))
theorem at_N_sum_2 {d : Nat} {ov un : Nat → Int32} {dp fa : Int32} {cu : mm_cu} {st fi se th db : Nat → Int32} {cn : Int32} {F : mm_M} {n a b : Nat} {x y : Nat → fr} {Q : mm_R → mm_M → Prop} (hfa : mm_z fa) (hn : 308 ≤ n ∧ n ≤ 1332) (ha : isAt ov un n fa 4 a x) (hb : isAt ov un n fa 4 b y) (hQ : ∀ (ov1 un1 : Nat → Int32) (n1 : Nat) (fa1 : Int32) (r : Nat), opR ov un n fa 4 (nadd 4 x y) ov1 un1 n1 fa1 r → Q (.inl (some (.int (nI r)))) (wC ov1 un1 (nI n1) dp fa1 cu st fi se th db cn F)) : mm_call mm_Tb (d + 2) 142 [.ref 1, .int 2, .int (nI a), .int (nI b)] (wC ov un (nI n) dp fa cu st fi se th db cn F) Q := ct_N_sum_2 hfa hn ha.1 hb.1 (fun _ _ _ _ _ h => hQ _ _ _ _ _ (opR_T h (fun h0 => nS_congr (by first | exact Or.inl rfl | exact Or.inr (Or.inl rfl) | exact Or.inr (Or.inr rfl)) (fun j hj => by show fadd (rd ov un a j) (rd ov un b j) = fadd (x j) (y j); rw [ha.2 h0 j hj, hb.2 h0 j hj]))))
theorem at_N_half_2 {d : Nat} {ov un : Nat → Int32} {dp fa : Int32} {cu : mm_cu} {st fi se th db : Nat → Int32} {cn : Int32} {F : mm_M} {n a : Nat} {x : Nat → fr} {Q : mm_R → mm_M → Prop} (hfa : mm_z fa) (hn : 308 ≤ n ∧ n ≤ 1332) (ha : isAt ov un n fa 4 a x) (hQ : ∀ (ov1 un1 : Nat → Int32) (n1 : Nat) (fa1 : Int32) (r : Nat), opR ov un n fa 4 (nhalf 4 x) ov1 un1 n1 fa1 r → Q (.inl (some (.int (nI r)))) (wC ov1 un1 (nI n1) dp fa1 cu st fi se th db cn F)) : mm_call mm_Tb (d + 2) 144 [.ref 1, .int 2, .int (nI a)] (wC ov un (nI n) dp fa cu st fi se th db cn F) Q := ct_N_half_2 hfa hn ha.1 (fun _ _ _ _ _ h => hQ _ _ _ _ _ (opR_T h (fun h0 => nS_congr (by first | exact Or.inl rfl | exact Or.inr (Or.inl rfl) | exact Or.inr (Or.inr rfl)) (fun j hj => by show fhalf (rd ov un a j) = fhalf (x j); rw [ha.2 h0 j hj]))))
theorem at_N_negative_2 {d : Nat} {ov un : Nat → Int32} {dp fa : Int32} {cu : mm_cu} {st fi se th db : Nat → Int32} {cn : Int32} {F : mm_M} {n a : Nat} {x : Nat → fr} {Q : mm_R → mm_M → Prop} (hfa : mm_z fa) (hn : 308 ≤ n ∧ n ≤ 1332) (ha : isAt ov un n fa 4 a x) (hQ : ∀ (ov1 un1 : Nat → Int32) (n1 : Nat) (fa1 : Int32) (r : Nat), opR ov un n fa 4 (nneg 4 x) ov1 un1 n1 fa1 r → Q (.inl (some (.int (nI r)))) (wC ov1 un1 (nI n1) dp fa1 cu st fi se th db cn F)) : mm_call mm_Tb (d + 2) 143 [.ref 1, .int 2, .int (nI a)] (wC ov un (nI n) dp fa cu st fi se th db cn F) Q := ct_N_negative_2 hfa hn ha.1 (fun _ _ _ _ _ h => hQ _ _ _ _ _ (opR_T h (fun h0 => nS_congr (by first | exact Or.inl rfl | exact Or.inr (Or.inl rfl) | exact Or.inr (Or.inr rfl)) (fun j hj => by show some (fneg (rd ov un a j)) = some (fneg (x j)); rw [ha.2 h0 j hj]))))
theorem fmul_0l {x y : fr} (hy : 0 < y.2) (hx : 0 < x.2) (h : x.1 = 0) : fmul x y = some z0 := by
  unfold fmul
  rw [h, Int.zero_mul]
  exact fmk_0 (Int.mul_pos hx hy)
theorem fmul_0r {x y : fr} (hy : 0 < y.2) (hx : 0 < x.2) (h : y.1 = 0) : fmul x y = some z0 := by
  unfold fmul
  rw [h, Int.mul_zero]
  exact fmk_0 (Int.mul_pos hx hy)
theorem rf0 {ov un : Nat → Int32} {a : Nat} (h : ov a = 0) : (rf ov un a).1 = 0 := by
  show (ov a).toInt = 0
  rw [h]; decide
theorem pR_z {ov un : Nat → Int32} {fa : Int32} {c : Nat} (hfa : mm_z fa) (h : fa = 0 → rf ov un c = z0) : pR ov un fa c (some z0) ov un fa := ⟨hfa, fun _ _ => ⟨rfl, rfl⟩, id, fun h0 => Or.inl ⟨h0, by rw [h h0]⟩⟩
theorem pr0_z {ov un ov1 un1 : Nat → Int32} {n r a b : Nat} {fa fa1 : Int32} (ha : arg ov un n fa 1 a) (hb : arg ov un n fa 1 b) (k0 : ptI ov un n fa r (fun j => fmul (rd ov un a j) (rd ov un b j)) 0 ov1 un1 fa1) (hr : 308 ≤ r) (hz : isz 1 ov1 a ∨ isz 1 ov1 b) : ptI ov un n fa r (fun j => fmul (rd ov un a j) (rd ov un b j)) 1 ov1 un1 fa1 := by
  refine pt_s (i := 0) (T := some z0) k0 (by omega) hr (pR_z k0.1 (fun h => pt_z k0 h (by omega))) (fun h => ?_)
  have va := arg_v ha k0 h (j := 0) (by omega)
  have vb := arg_v hb k0 h (j := 0) (by omega)
  show some z0 = fmul (rd ov un a 0) (rd ov un b 0)
  rw [← va.2, ← vb.2]
  rcases hz with hz | hz
  · exact (fmul_0l vb.1.1 va.1.1 (rf0 (hz 0 (by omega)))).symm
  · exact (fmul_0r vb.1.1 va.1.1 (rf0 (hz 0 (by omega)))).symm
set_option maxRecDepth 100000 in
theorem ct_N_product_0 {d : Nat} {ov un : Nat → Int32} {dp fa : Int32} {cu : mm_cu} {st fi se th db : Nat → Int32} {cn : Int32} {F : mm_M} {n a b : Nat} {Q : mm_R → mm_M → Prop} (hfa : mm_z fa) (hn : 308 ≤ n ∧ n ≤ 1332) (ha : arg ov un n fa 1 a) (hb : arg ov un n fa 1 b) (hQ : ∀ (ov1 un1 : Nat → Int32) (n1 : Nat) (fa1 : Int32) (r : Nat), opR ov un n fa 4 (nmul0 (rd ov un a) (rd ov un b)) ov1 un1 n1 fa1 r → Q (.inl (some (.int (nI r)))) (wC ov1 un1 (nI n1) dp fa1 cu st fi se th db cn F)) : mm_call mm_Tb (d + 2) 145 [.ref 1, .int 0, .int (nI a), .int (nI b)] (wC ov un (nI n) dp fa cu st fi se th db cn F) Q := by
  have ha1 := ha.1
  have hb1 := hb.1
  refine mm_in mt_145 (Nat.le_of_ble_eq_true rfl) ?_
  show mm_W _ _ _ _ _ _ _ (0, [(0, .ref 1), (1, .int 0), (2, .int (nI a)), (3, .int (nI b))], [], wC ov un (nI n) dp fa cu st fi se th db cn F, 0)
  refine mm_skip (mm_call_mono _ _) 1 (st' := (1, [(0, .ref 1), (1, .int 0), (2, .int (nI a)), (3, .int (nI b))], [.ref 1], wC ov un (nI n) dp fa cu st fi se th db cn F, 0)) rfl ?_
  refine mm_inv (mm_call_mono _ _) (j := 138) (a := [.ref 1]) (M := wC ov un (nI n) dp fa cu st fi se th db cn F) (u := 0) rfl (by decide) (ct_N_reserve hn (fun ov1 un1 n1 fa1 r h0 => ?_))
  show mm_W _ _ _ _ _ _ _ (4, [(0, .ref 1), (1, .int 0), (2, .int (nI a)), (3, .int (nI b))], [.int (nI r)], wC ov1 un1 (nI n1) dp fa1 cu st fi se th db cn F, 0)
  have hr := res_r h0 hn.1
  have k0 := pt_0 (fun j => fmul (rd ov un a j) (rd ov un b j)) hfa hn.1 h0
  refine mm_skip (mm_call_mono _ _) 4 (st' := (9, [(4, .int (nI r)), (0, .ref 1), (1, .int 0), (2, .int (nI a)), (3, .int (nI b))], [.int (nI a), .int 0, .ref 1], wC ov1 un1 (nI n1) dp fa1 cu st fi se th db cn F, 0)) rfl ?_
  refine mm_inv (mm_call_mono _ _) (j := 141) (a := [.ref 1, .int 0, .int (nI a)]) (M := wC ov1 un1 (nI n1) dp fa1 cu st fi se th db cn F) (u := 0) rfl (by decide) (ct_N_isZero_0 (a := a) (by omega) ?_)
  show mm_W _ _ _ _ _ _ _ (12, [(4, .int (nI r)), (0, .ref 1), (1, .int 0), (2, .int (nI a)), (3, .int (nI b))], [.int (bz (isz 1 ov1 a))], wC ov1 un1 (nI n1) dp fa1 cu st fi se th db cn F, 0)
  refine mm_branch (mm_call_mono _ _) (c := (bz (isz 1 ov1 a)) = 0) (s1 := (15, [(4, .int (nI r)), (0, .ref 1), (1, .int 0), (2, .int (nI a)), (3, .int (nI b))], [], wC ov1 un1 (nI n1) dp fa1 cu st fi se th db cn F, 0)) (s2 := (24, [(4, .int (nI r)), (0, .ref 1), (1, .int 0), (2, .int (nI a)), (3, .int (nI b))], [], wC ov1 un1 (nI n1) dp fa1 cu st fi se th db cn F, 0)) rfl (fun h1 => ?_) (fun h1 => ?_)
  · skip
    refine mm_skip (mm_call_mono _ _) 3 (st' := (18, [(4, .int (nI r)), (0, .ref 1), (1, .int 0), (2, .int (nI a)), (3, .int (nI b))], [.int (nI b), .int 0, .ref 1], wC ov1 un1 (nI n1) dp fa1 cu st fi se th db cn F, 0)) rfl ?_
    refine mm_inv (mm_call_mono _ _) (j := 141) (a := [.ref 1, .int 0, .int (nI b)]) (M := wC ov1 un1 (nI n1) dp fa1 cu st fi se th db cn F) (u := 0) rfl (by decide) (ct_N_isZero_0 (a := b) (by omega) ?_)
    show mm_W _ _ _ _ _ _ _ (21, [(4, .int (nI r)), (0, .ref 1), (1, .int 0), (2, .int (nI a)), (3, .int (nI b))], [.int (bz (isz 1 ov1 b))], wC ov1 un1 (nI n1) dp fa1 cu st fi se th db cn F, 0)
    refine mm_branch (mm_call_mono _ _) (c := (bz (isz 1 ov1 b)) = 0) (s1 := (27, [(4, .int (nI r)), (0, .ref 1), (1, .int 0), (2, .int (nI a)), (3, .int (nI b))], [], wC ov1 un1 (nI n1) dp fa1 cu st fi se th db cn F, 0)) (s2 := (24, [(4, .int (nI r)), (0, .ref 1), (1, .int 0), (2, .int (nI a)), (3, .int (nI b))], [], wC ov1 un1 (nI n1) dp fa1 cu st fi se th db cn F, 0)) rfl (fun h2 => ?_) (fun h2 => ?_)
    · skip
      refine mm_skip (mm_call_mono _ _) 1 (st' := (28, [(4, .int (nI r)), (0, .ref 1), (1, .int 0), (2, .int (nI a)), (3, .int (nI b))], [.int 0], wC ov1 un1 (nI n1) dp fa1 cu st fi se th db cn F, 0)) rfl ?_
      refine mm_branch (mm_call_mono _ _) (c := (0 : Int32) < 0) (s1 := (70, [(4, .int (nI r)), (0, .ref 1), (1, .int 0), (2, .int (nI a)), (3, .int (nI b))], [], wC ov1 un1 (nI n1) dp fa1 cu st fi se th db cn F, 0)) (s2 := (31, [(4, .int (nI r)), (0, .ref 1), (1, .int 0), (2, .int (nI a)), (3, .int (nI b))], [], wC ov1 un1 (nI n1) dp fa1 cu st fi se th db cn F, 0)) rfl (fun h => absurd h (by decide)) (fun _ => ?_)
      refine mm_skip (mm_call_mono _ _) 5 (st' := (39, [(4, .int (nI r)), (0, .ref 1), (1, .int 0), (2, .int (nI a)), (3, .int (nI b))], [.int (nI a), .ref 8, .int (nI r), .ref 1], wC ov1 un1 (nI n1) dp fa1 cu st fi se th db cn F, 0)) rfl ?_
      refine mm_need (mm_call_mono _ _) (c := vp_in (nI a) 1332) (s' := (40, [(4, .int (nI r)), (0, .ref 1), (1, .int 0), (2, .int (nI a)), (3, .int (nI b))], [.int (ov1 (Int32.toNatClampNeg (nI a))), .int (nI r), .ref 1], wC ov1 un1 (nI n1) dp fa1 cu st fi se th db cn F, 0)) rfl (vp_in_nI (show a < 1332 by omega) (by decide)) ?_
      rw [nI_clamp (show a < 2 ^ 31 by omega)]
      show mm_W _ _ _ _ _ _ _ (40, [(4, .int (nI r)), (0, .ref 1), (1, .int 0), (2, .int (nI a)), (3, .int (nI b))], [.int (ov1 a), .int (nI r), .ref 1], wC ov1 un1 (nI n1) dp fa1 cu st fi se th db cn F, 0)
      refine mm_skip (mm_call_mono _ _) 4 (st' := (46, [(4, .int (nI r)), (0, .ref 1), (1, .int 0), (2, .int (nI a)), (3, .int (nI b))], [.int (nI b), .ref 8, .long (Int32.toInt64 (ov1 a)), .int (nI r), .ref 1], wC ov1 un1 (nI n1) dp fa1 cu st fi se th db cn F, 0)) rfl ?_
      refine mm_need (mm_call_mono _ _) (c := vp_in (nI b) 1332) (s' := (47, [(4, .int (nI r)), (0, .ref 1), (1, .int 0), (2, .int (nI a)), (3, .int (nI b))], [.int (ov1 (Int32.toNatClampNeg (nI b))), .long (Int32.toInt64 (ov1 a)), .int (nI r), .ref 1], wC ov1 un1 (nI n1) dp fa1 cu st fi se th db cn F, 0)) rfl (vp_in_nI (show b < 1332 by omega) (by decide)) ?_
      rw [nI_clamp (show b < 2 ^ 31 by omega)]
      show mm_W _ _ _ _ _ _ _ (47, [(4, .int (nI r)), (0, .ref 1), (1, .int 0), (2, .int (nI a)), (3, .int (nI b))], [.int (ov1 b), .long (Int32.toInt64 (ov1 a)), .int (nI r), .ref 1], wC ov1 un1 (nI n1) dp fa1 cu st fi se th db cn F, 0)
      refine mm_skip (mm_call_mono _ _) 5 (st' := (54, [(4, .int (nI r)), (0, .ref 1), (1, .int 0), (2, .int (nI a)), (3, .int (nI b))], [.int (nI a), .ref 9, .long ((Int32.toInt64 (ov1 a)) * (Int32.toInt64 (ov1 b))), .int (nI r), .ref 1], wC ov1 un1 (nI n1) dp fa1 cu st fi se th db cn F, 0)) rfl ?_
      refine mm_need (mm_call_mono _ _) (c := vp_in (nI a) 1332) (s' := (55, [(4, .int (nI r)), (0, .ref 1), (1, .int 0), (2, .int (nI a)), (3, .int (nI b))], [.int (un1 (Int32.toNatClampNeg (nI a))), .long ((Int32.toInt64 (ov1 a)) * (Int32.toInt64 (ov1 b))), .int (nI r), .ref 1], wC ov1 un1 (nI n1) dp fa1 cu st fi se th db cn F, 0)) rfl (vp_in_nI (show a < 1332 by omega) (by decide)) ?_
      rw [nI_clamp (show a < 2 ^ 31 by omega)]
      show mm_W _ _ _ _ _ _ _ (55, [(4, .int (nI r)), (0, .ref 1), (1, .int 0), (2, .int (nI a)), (3, .int (nI b))], [.int (un1 a), .long ((Int32.toInt64 (ov1 a)) * (Int32.toInt64 (ov1 b))), .int (nI r), .ref 1], wC ov1 un1 (nI n1) dp fa1 cu st fi se th db cn F, 0)
      refine mm_skip (mm_call_mono _ _) 4 (st' := (61, [(4, .int (nI r)), (0, .ref 1), (1, .int 0), (2, .int (nI a)), (3, .int (nI b))], [.int (nI b), .ref 9, .long (Int32.toInt64 (un1 a)), .long ((Int32.toInt64 (ov1 a)) * (Int32.toInt64 (ov1 b))), .int (nI r), .ref 1], wC ov1 un1 (nI n1) dp fa1 cu st fi se th db cn F, 0)) rfl ?_
      refine mm_need (mm_call_mono _ _) (c := vp_in (nI b) 1332) (s' := (62, [(4, .int (nI r)), (0, .ref 1), (1, .int 0), (2, .int (nI a)), (3, .int (nI b))], [.int (un1 (Int32.toNatClampNeg (nI b))), .long (Int32.toInt64 (un1 a)), .long ((Int32.toInt64 (ov1 a)) * (Int32.toInt64 (ov1 b))), .int (nI r), .ref 1], wC ov1 un1 (nI n1) dp fa1 cu st fi se th db cn F, 0)) rfl (vp_in_nI (show b < 1332 by omega) (by decide)) ?_
      rw [nI_clamp (show b < 2 ^ 31 by omega)]
      show mm_W _ _ _ _ _ _ _ (62, [(4, .int (nI r)), (0, .ref 1), (1, .int 0), (2, .int (nI a)), (3, .int (nI b))], [.int (un1 b), .long (Int32.toInt64 (un1 a)), .long ((Int32.toInt64 (ov1 a)) * (Int32.toInt64 (ov1 b))), .int (nI r), .ref 1], wC ov1 un1 (nI n1) dp fa1 cu st fi se th db cn F, 0)
      refine mm_skip (mm_call_mono _ _) 2 (st' := (64, [(4, .int (nI r)), (0, .ref 1), (1, .int 0), (2, .int (nI a)), (3, .int (nI b))], [.long ((Int32.toInt64 (un1 a)) * (Int32.toInt64 (un1 b))), .long ((Int32.toInt64 (ov1 a)) * (Int32.toInt64 (ov1 b))), .int (nI r), .ref 1], wC ov1 un1 (nI n1) dp fa1 cu st fi se th db cn F, 0)) rfl ?_
      refine mm_inv (mm_call_mono _ _) (j := 139) (a := [.ref 1, .int (nI r), .long ((Int32.toInt64 (ov1 a)) * (Int32.toInt64 (ov1 b))), .long ((Int32.toInt64 (un1 a)) * (Int32.toInt64 (un1 b)))]) (M := wC ov1 un1 (nI n1) dp fa1 cu st fi se th db cn F) (u := 0) rfl (by decide) (ct_N_put_mul (a := a) (b := b) (c := r) k0.1 (by omega) (fun h => ⟨(arg_v ha k0 h (j := 0) (by omega)).1, (arg_v hb k0 h (j := 0) (by omega)).1, pt_z k0 h (by omega)⟩) (fun ov2 un2 fa2 p1 => ?_))
      show mm_W _ _ _ _ _ _ _ (67, [(4, .int (nI r)), (0, .ref 1), (1, .int 0), (2, .int (nI a)), (3, .int (nI b))], [], wC ov2 un2 (nI n1) dp fa2 cu st fi se th db cn F, 0)
      have k1 := pt_s (i := 0) k0 (by omega) hr.1 p1 (fun h => by rw [← (arg_v ha k0 h (j := 0) (by omega)).2, ← (arg_v hb k0 h (j := 0) (by omega)).2] <;> rfl)
      refine mm_skip (mm_call_mono _ _) 1 (st' := (69, [(4, .int (nI r)), (0, .ref 1), (1, .int 0), (2, .int (nI a)), (3, .int (nI b))], [.int (nI r)], wC ov2 un2 (nI n1) dp fa2 cu st fi se th db cn F, 0)) rfl ?_
      exact mm_ret (mm_call_mono _ _) (c := True) (r := .inl (some (.int (nI r)))) (M := wC ov2 un2 (nI n1) dp fa2 cu st fi se th db cn F) (u := 0) rfl trivial (by decide) (hQ _ _ _ _ _ (by have h9 := op_of (m := 1) (Or.inl rfl) ⟨hr.1, hr.2.1⟩ (fun h0 j hj v e => fmul_v ((ha.2 h0).2 j hj) ((hb.2 h0).2 j hj) e) k1; rw [← hr.2.2] at h9; exact h9))
    · skip
      refine mm_skip (mm_call_mono _ _) 1 (st' := (26, [(4, .int (nI r)), (0, .ref 1), (1, .int 0), (2, .int (nI a)), (3, .int (nI b))], [.int (nI r)], wC ov1 un1 (nI n1) dp fa1 cu st fi se th db cn F, 0)) rfl ?_
      exact mm_ret (mm_call_mono _ _) (c := True) (r := .inl (some (.int (nI r)))) (M := wC ov1 un1 (nI n1) dp fa1 cu st fi se th db cn F) (u := 0) rfl trivial (by decide) (hQ _ _ _ _ _ (by have h9 := op_of (m := 1) (Or.inl rfl) ⟨hr.1, hr.2.1⟩ (fun h0 j hj v e => fmul_v ((ha.2 h0).2 j hj) ((hb.2 h0).2 j hj) e) (pr0_z ha hb k0 hr.1 (Or.inr (bz_1 h2))); rw [← hr.2.2] at h9; exact h9))
  · skip
    refine mm_skip (mm_call_mono _ _) 1 (st' := (26, [(4, .int (nI r)), (0, .ref 1), (1, .int 0), (2, .int (nI a)), (3, .int (nI b))], [.int (nI r)], wC ov1 un1 (nI n1) dp fa1 cu st fi se th db cn F, 0)) rfl ?_
    exact mm_ret (mm_call_mono _ _) (c := True) (r := .inl (some (.int (nI r)))) (M := wC ov1 un1 (nI n1) dp fa1 cu st fi se th db cn F) (u := 0) rfl trivial (by decide) (hQ _ _ _ _ _ (by have h9 := op_of (m := 1) (Or.inl rfl) ⟨hr.1, hr.2.1⟩ (fun h0 j hj v e => fmul_v ((ha.2 h0).2 j hj) ((hb.2 h0).2 j hj) e) (pr0_z ha hb k0 hr.1 (Or.inl (bz_1 h1))); rw [← hr.2.2] at h9; exact h9))

theorem at_N_product_0 {d : Nat} {ov un : Nat → Int32} {dp fa : Int32} {cu : mm_cu} {st fi se th db : Nat → Int32} {cn : Int32} {F : mm_M} {n a b : Nat} {x y : Nat → fr} {Q : mm_R → mm_M → Prop} (hfa : mm_z fa) (hn : 308 ≤ n ∧ n ≤ 1332) (ha : isAt ov un n fa 1 a x) (hb : isAt ov un n fa 1 b y) (hQ : ∀ (ov1 un1 : Nat → Int32) (n1 : Nat) (fa1 : Int32) (r : Nat), opR ov un n fa 4 (nmul0 x y) ov1 un1 n1 fa1 r → Q (.inl (some (.int (nI r)))) (wC ov1 un1 (nI n1) dp fa1 cu st fi se th db cn F)) : mm_call mm_Tb (d + 2) 145 [.ref 1, .int 0, .int (nI a), .int (nI b)] (wC ov un (nI n) dp fa cu st fi se th db cn F) Q := ct_N_product_0 hfa hn ha.1 hb.1 (fun _ _ _ _ _ h => hQ _ _ _ _ _ (opR_T h (fun h0 => nS_congr (Or.inl rfl) (fun j hj => by show fmul (rd ov un a j) (rd ov un b j) = fmul (x j) (y j); rw [ha.2 h0 j hj, hb.2 h0 j hj]))))
