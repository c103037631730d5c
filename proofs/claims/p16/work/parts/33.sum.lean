def z0 : fr := (0, 1)
def fadd (x y : fr) : Option fr := fmk (x.1 * y.2 + y.1 * x.2) (x.2 * y.2)
def fmul (x y : fr) : Option fr := fmk (x.1 * y.1) (x.2 * y.2)
def fhalf (x : fr) : Option fr := fmk x.1 (2 * x.2)
def fneg (x : fr) : fr := (-x.1, x.2)
abbrev n4 : Type := fr × fr × fr × fr
def r4 (ov un : Nat → Int32) (a : Nat) : n4 := (rf ov un a, rf ov un (a + 1), rf ov un (a + 2), rf ov un (a + 3))
def g4 (x : n4) (j : Nat) : fr := match j with
  | 0 => x.1
  | 1 => x.2.1
  | 2 => x.2.2.1
  | _ => x.2.2.2
def v4 (x : n4) : Prop := fv x.1 ∧ fv x.2.1 ∧ fv x.2.2.1 ∧ fv x.2.2.2
theorem g4_r4 {ov un : Nat → Int32} {a : Nat} : ∀ {j : Nat}, j < 4 → g4 (r4 ov un a) j = rf ov un (a + j)
  | 0, _ => rfl
  | 1, _ => rfl
  | 2, _ => rfl
  | 3, _ => rfl
  | n + 4, h => by omega
theorem v4_g {x : n4} (h : v4 x) : ∀ {j : Nat}, j < 4 → fv (g4 x j)
  | 0, _ => h.1
  | 1, _ => h.2.1
  | 2, _ => h.2.2.1
  | 3, _ => h.2.2.2
  | n + 4, h => by omega
/-- a number out of one, two or four fractions -/
def nS (m : Nat) (S : Nat → Option fr) : Option n4 := match m with
  | 1 => (S 0).map fun a => (a, z0, z0, z0)
  | 2 => (S 0).bind fun a => (S 1).map fun b => (a, b, z0, z0)
  | _ => (S 0).bind fun a => (S 1).bind fun b => (S 2).bind fun c => (S 3).map fun e => (a, b, c, e)
def lv (m : Nat) : Prop := m = 1 ∨ m = 2 ∨ m = 4
theorem mul_b {x y : Int} {A B : Nat} (hx : x.natAbs ≤ A) (hy : y.natAbs ≤ B) : (x * y).natAbs ≤ A * B := by
  rw [Int.natAbs_mul]
  exact Nat.mul_le_mul hx hy
theorem b32 (x : Int32) : x.toInt.natAbs ≤ 2147483648 := by
  have h1 := x.le_toInt
  have h2 := x.toInt_lt
  omega
theorem mul64 (x y : Int32) : (x.toInt64 * y.toInt64).toInt = x.toInt * y.toInt := by
  have h := mul_b (b32 x) (b32 y)
  rw [Int64.toInt_mul, Int32.toInt_toInt64, Int32.toInt_toInt64]
  exact Int.bmod_eq_of_le (by omega) (by omega)
theorem fv_b1 {x : fr} (h : fv x) : x.1.natAbs ≤ 2147483647 := by
  obtain ⟨h1, h2, h3, h4, -⟩ := h
  omega
theorem fv_b2 {x : fr} (h : fv x) : x.2.natAbs ≤ 2147483647 := by
  obtain ⟨h1, h2, h3, h4, -⟩ := h
  omega
theorem fadd_v {x y v : fr} (hx : fv x) (hy : fv y) (h : fadd x y = some v) : fv v := fmk_v (Int.mul_pos hx.1 hy.1) h
theorem fmul_v {x y v : fr} (hx : fv x) (hy : fv y) (h : fmul x y = some v) : fv v := fmk_v (Int.mul_pos hx.1 hy.1) h
theorem fhalf_v {x v : fr} (hx : fv x) (h : fhalf x = some v) : fv v := fmk_v (by have := hx.1; omega) h
theorem fneg_v {x : fr} (hx : fv x) : fv (fneg x) := by
  obtain ⟨h1, h2, h3, h4, h5⟩ := hx
  refine ⟨h1, h2, ?_, ?_, ?_⟩
  · show -2147483647 ≤ -x.1
    omega
  · show -x.1 ≤ 2147483647
    omega
  · show Int.gcd (-x.1) x.2 = 1
    rw [Int.neg_gcd]; exact h5
/-- as putR, for any fraction -/
def pR (ov un : Nat → Int32) (fa : Int32) (c : Nat) (S : Option fr) (ov1 un1 : Nat → Int32) (fa1 : Int32) : Prop :=
  mm_z fa1 ∧ (∀ k, k ≠ c → ov1 k = ov k ∧ un1 k = un k) ∧ (fa = 1 → fa1 = 1) ∧ (fa = 0 → (fa1 = 0 ∧ S = some (rf ov1 un1 c)) ∨ (fa1 = 1 ∧ S = none))
theorem pR_of {ov un ov1 un1 : Nat → Int32} {fa fa1 : Int32} {c : Nat} {P Q : Int} {S : Option fr} (h : putR ov un fa c P Q ov1 un1 fa1) (e : fa = 0 → fmk P Q = S) : pR ov un fa c S ov1 un1 fa1 :=
  ⟨h.1, h.2.1, h.2.2.1, fun h0 => by rw [← e h0]; exact h.2.2.2 h0⟩
theorem ct_N_put_add {d : Nat} {ov un : Nat → Int32} {nx dp fa : Int32} {cu : mm_cu} {st fi se th db : Nat → Int32} {cn : Int32} {F : mm_M} {a b c : Nat} {Q : mm_R → mm_M → Prop} (hfa : mm_z fa) (hc : c < 1332) (hv : fa = 0 → fv (rf ov un a) ∧ fv (rf ov un b) ∧ rf ov un c = z0) (hQ : ∀ (ov1 un1 : Nat → Int32) (fa1 : Int32), pR ov un fa c (fadd (rf ov un a) (rf ov un b)) ov1 un1 fa1 → Q (.inl none) (wC ov1 un1 nx dp fa1 cu st fi se th db cn F)) : mm_call mm_Tb (d + 1) 139 [.ref 1, .int (nI c), .long (((Int32.toInt64 (ov a)) * (Int32.toInt64 (un b))) + ((Int32.toInt64 (ov b)) * (Int32.toInt64 (un a)))), .long ((Int32.toInt64 (un a)) * (Int32.toInt64 (un b)))] (wC ov un nx dp fa cu st fi se th db cn F) Q := by
  have key : fa = 0 → ((((Int32.toInt64 (ov a)) * (Int32.toInt64 (un b))) + ((Int32.toInt64 (ov b)) * (Int32.toInt64 (un a))))).toInt = (rf ov un a).1 * (rf ov un b).2 + (rf ov un b).1 * (rf ov un a).2 ∧ ((((Int32.toInt64 (ov a)) * (Int32.toInt64 (un b))) + ((Int32.toInt64 (ov b)) * (Int32.toInt64 (un a))))).toInt.natAbs < 2 ^ 63 ∧ 0 < (((Int32.toInt64 (un a)) * (Int32.toInt64 (un b)))).toInt := by
    intro h0
    obtain ⟨ha, hb, -⟩ := hv h0
    have h1 := mul_b (fv_b1 ha) (fv_b2 hb)
    have h2 := mul_b (fv_b1 hb) (fv_b2 ha)
    have h3 : 0 < (rf ov un a).2 * (rf ov un b).2 := Int.mul_pos ha.1 hb.1
    have e1 := mul64 (ov a) (un b)
    have e2 := mul64 (ov b) (un a)
    have e3 := mul64 (un a) (un b)
    unfold rf at h1 h2 h3 ⊢
    dsimp only at h1 h2 h3 ⊢
    rw [Int64.toInt_add, e1, e2, e3, Int.bmod_eq_of_le (by omega) (by omega)]
    exact ⟨rfl, by omega, h3⟩
  refine ct_N_put hfa hc (fun h0 => ⟨(key h0).2.1, (key h0).2.2, (hv h0).2.2⟩) (fun ov1 un1 fa1 h => hQ _ _ _ (pR_of h (fun h0 => ?_)))
  rw [(key h0).1, mul64]
  rfl
theorem ct_N_put_half {d : Nat} {ov un : Nat → Int32} {nx dp fa : Int32} {cu : mm_cu} {st fi se th db : Nat → Int32} {cn : Int32} {F : mm_M} {a c : Nat} {Q : mm_R → mm_M → Prop} (hfa : mm_z fa) (hc : c < 1332) (hv : fa = 0 → fv (rf ov un a) ∧ rf ov un c = z0) (hQ : ∀ (ov1 un1 : Nat → Int32) (fa1 : Int32), pR ov un fa c (fhalf (rf ov un a)) ov1 un1 fa1 → Q (.inl none) (wC ov1 un1 nx dp fa1 cu st fi se th db cn F)) : mm_call mm_Tb (d + 1) 139 [.ref 1, .int (nI c), .long (Int32.toInt64 (ov a)), .long (2 * (Int32.toInt64 (un a)))] (wC ov un nx dp fa cu st fi se th db cn F) Q := by
  have key : fa = 0 → ((2 * (Int32.toInt64 (un a)))).toInt = 2 * (rf ov un a).2 ∧ 0 < ((2 * (Int32.toInt64 (un a)))).toInt := by
    intro h0
    obtain ⟨ha, -⟩ := hv h0
    obtain ⟨h1, h2, -⟩ := ha
    unfold rf at h1 h2 ⊢
    dsimp only at h1 h2 ⊢
    rw [Int64.toInt_mul, Int32.toInt_toInt64, show (2 : Int64).toInt = 2 by decide, Int.bmod_eq_of_le (by omega) (by omega)]
    omega
  refine ct_N_put hfa hc (fun h0 => ⟨?_, (key h0).2, (hv h0).2⟩) (fun ov1 un1 fa1 h => hQ _ _ _ (pR_of h (fun h0 => ?_)))
  · rw [Int32.toInt_toInt64]
    have h9 := b32 (ov a)
    omega
  · rw [(key h0).1, Int32.toInt_toInt64]
    rfl
theorem ct_N_put_mul {d : Nat} {ov un : Nat → Int32} {nx dp fa : Int32} {cu : mm_cu} {st fi se th db : Nat → Int32} {cn : Int32} {F : mm_M} {a b c : Nat} {Q : mm_R → mm_M → Prop} (hfa : mm_z fa) (hc : c < 1332) (hv : fa = 0 → fv (rf ov un a) ∧ fv (rf ov un b) ∧ rf ov un c = z0) (hQ : ∀ (ov1 un1 : Nat → Int32) (fa1 : Int32), pR ov un fa c (fmul (rf ov un a) (rf ov un b)) ov1 un1 fa1 → Q (.inl none) (wC ov1 un1 nx dp fa1 cu st fi se th db cn F)) : mm_call mm_Tb (d + 1) 139 [.ref 1, .int (nI c), .long ((Int32.toInt64 (ov a)) * (Int32.toInt64 (ov b))), .long ((Int32.toInt64 (un a)) * (Int32.toInt64 (un b)))] (wC ov un nx dp fa cu st fi se th db cn F) Q := by
  refine ct_N_put hfa hc (fun h0 => ⟨?_, ?_, (hv h0).2.2⟩) (fun ov1 un1 fa1 h => hQ _ _ _ (pR_of h (fun h0 => ?_)))
  · have h1 := mul_b (b32 (ov a)) (b32 (ov b))
    rw [mul64]
    omega
  · have h3 : 0 < (rf ov un a).2 * (rf ov un b).2 := Int.mul_pos (hv h0).1.1 (hv h0).2.1.1
    rw [mul64]
    exact h3
  · rw [mul64, mul64]
    rfl
/-- behind i of the fractions of a new number -/
def ptI (ov un : Nat → Int32) (n : Nat) (fa : Int32) (r : Nat) (S : Nat → Option fr) (i : Nat) (ov1 un1 : Nat → Int32) (fa1 : Int32) : Prop :=
  mm_z fa1 ∧ (∀ k, k < 308 → ov1 k = ov k ∧ un1 k = un k) ∧ (fa = 1 → fa1 = 1) ∧ (fa1 = 0 → fa = 0 ∧ r = n ∧ n + 4 ≤ 1332 ∧ (∀ k, k < n → ov1 k = ov k ∧ un1 k = un k) ∧ (∀ j, j < i → S j = some (rf ov1 un1 (r + j))) ∧ ∀ j, i ≤ j → j < 4 → rf ov1 un1 (r + j) = z0) ∧ (fa1 = 1 → fa = 0 → n + 4 ≤ 1332 → ∃ j, j < i ∧ S j = none)
theorem res_r {ov un ov1 un1 : Nat → Int32} {n n1 r : Nat} {fa fa1 : Int32} (h : resR ov un n fa ov1 un1 n1 fa1 r) (hn : 308 ≤ n) : 308 ≤ r ∧ r + 4 ≤ 1332 ∧ n1 = r + 4 := by
  obtain ⟨h1 | h1, h2, -⟩ := h <;> omega
theorem z10 : ¬ (1 : Int32) = 0 := by decide
theorem rf_eq {ov un ov1 un1 : Nat → Int32} {k : Nat} (h : ov1 k = ov k ∧ un1 k = un k) : rf ov1 un1 k = rf ov un k := by unfold rf; rw [h.1, h.2]
theorem pt_0 {ov un ov1 un1 : Nat → Int32} {n n1 r : Nat} {fa fa1 : Int32} (S : Nat → Option fr) (hfa : mm_z fa) (hn : 308 ≤ n) (h : resR ov un n fa ov1 un1 n1 fa1 r) : ptI ov un n fa r S 0 ov1 un1 fa1 := by
  have hr := res_r h hn
  obtain ⟨h1, h2, h3, h4⟩ := h
  refine ⟨?_, fun k hk => h3 k (by omega), ?_, ?_, ?_⟩
  · rcases h1 with ⟨-, -, rfl⟩ | ⟨-, -, rfl⟩
    · exact hfa
    · exact Or.inr rfl
  · rcases h1 with ⟨-, -, rfl⟩ | ⟨-, -, rfl⟩
    · exact id
    · exact fun _ => rfl
  · intro h0
    rcases h1 with ⟨q1, q2, rfl⟩ | ⟨-, -, rfl⟩
    · refine ⟨h0, q2, q1, fun k hk => h3 k (by omega), fun j hj => absurd hj (Nat.not_lt_zero j), fun j _ hj => ?_⟩
      obtain ⟨e1, e2⟩ := h4 (r + j) (by omega) (by omega)
      unfold rf
      rw [e1, e2]
      rfl
    · exact absurd h0 z10
  · intro h0 h9 hroom
    rcases h1 with ⟨q1, q2, rfl⟩ | ⟨q1, -, -⟩
    · rw [h0] at h9; exact absurd h9 z10
    · omega
theorem pt_s {ov un ov1 un1 ov2 un2 : Nat → Int32} {n r i : Nat} {fa fa1 fa2 : Int32} {S : Nat → Option fr} {T : Option fr} (h : ptI ov un n fa r S i ov1 un1 fa1) (hi : i < 4) (hr : 308 ≤ r) (hp : pR ov1 un1 fa1 (r + i) T ov2 un2 fa2) (hT : fa1 = 0 → T = S i) : ptI ov un n fa r S (i + 1) ov2 un2 fa2 := by
  obtain ⟨h1, h2, h3, h4, h5⟩ := h
  obtain ⟨p1, p2, p3, p4⟩ := hp
  refine ⟨p1, fun k hk => ?_, fun h => p3 (h3 h), fun h0 => ?_, fun h9 h0 hroom => ?_⟩
  · obtain ⟨e1, e2⟩ := p2 k (by omega)
    obtain ⟨e3, e4⟩ := h2 k hk
    exact ⟨e1.trans e3, e2.trans e4⟩
  · have hz : fa1 = 0 := by
      rcases h1 with h | h
      · exact h
      · exact absurd ((p3 h).symm.trans h0) z10
    obtain ⟨q1, q2, q3, q4, q5, q6⟩ := h4 hz
    have hS : S i = some (rf ov2 un2 (r + i)) := by
      rcases p4 hz with ⟨-, e⟩ | ⟨e, -⟩
      · rw [← hT hz]; exact e
      · exact absurd (e.symm.trans h0) z10
    refine ⟨q1, q2, q3, fun k hk => ?_, fun j hj => ?_, fun j hj1 hj2 => ?_⟩
    · obtain ⟨e1, e2⟩ := p2 k (by omega)
      obtain ⟨e3, e4⟩ := q4 k hk
      exact ⟨e1.trans e3, e2.trans e4⟩
    · by_cases hji : j = i
      · rw [hji]; exact hS
      · rw [rf_eq (p2 (r + j) (by omega))]
        exact q5 j (by omega)
    · rw [rf_eq (p2 (r + j) (by omega))]
      exact q6 j (by omega) hj2
  · rcases h1 with hz | hz
    · rcases p4 hz with ⟨e, -⟩ | ⟨-, e⟩
      · exact absurd (h9.symm.trans e) z10
      · exact ⟨i, by omega, by rw [← hT hz]; exact e⟩
    · obtain ⟨j, hj, e⟩ := h5 hz h0 hroom
      exact ⟨j, by omega, e⟩
/-- behind a method that makes a number: spec T, numbers that it may take along the way: cost -/
def opR (ov un : Nat → Int32) (n : Nat) (fa : Int32) (cost : Nat) (T : Option n4) (ov1 un1 : Nat → Int32) (n1 : Nat) (fa1 : Int32) (r : Nat) : Prop :=
  (308 ≤ r ∧ r + 4 ≤ 1332) ∧ (308 ≤ n1 ∧ n1 ≤ 1332) ∧ mm_z fa1 ∧ (∀ k, k < 308 → ov1 k = ov k ∧ un1 k = un k) ∧ (fa = 1 → fa1 = 1) ∧ (fa1 = 0 → fa = 0 ∧ r = n ∧ n1 = n + 4 ∧ (∀ k, k < n → ov1 k = ov k ∧ un1 k = un k) ∧ T = some (r4 ov1 un1 r) ∧ v4 (r4 ov1 un1 r)) ∧ (fa1 = 1 → fa = 0 → n + cost ≤ 1332 → T = none)
theorem nS_some {m : Nat} {S : Nat → Option fr} {ov un : Nat → Int32} {r : Nat} (hm : lv m) (h1 : ∀ j, j < m → S j = some (rf ov un (r + j))) (h2 : ∀ j, m ≤ j → j < 4 → rf ov un (r + j) = z0) : nS m S = some (r4 ov un r) := by
  unfold r4
  rcases hm with rfl | rfl | rfl
  · show (S 0).map (fun a => ((a, z0, z0, z0) : n4)) = _
    rw [h1 0 (by omega), h2 1 (by omega) (by omega), h2 2 (by omega) (by omega), h2 3 (by omega) (by omega)]
    rfl
  · show ((S 0).bind fun a => (S 1).map fun b => ((a, b, z0, z0) : n4)) = _
    rw [h1 0 (by omega), h1 1 (by omega), h2 2 (by omega) (by omega), h2 3 (by omega) (by omega)]
    rfl
  · show ((S 0).bind fun a => (S 1).bind fun b => (S 2).bind fun c => (S 3).map fun e => ((a, b, c, e) : n4)) = _
    rw [h1 0 (by omega), h1 1 (by omega), h1 2 (by omega), h1 3 (by omega)]
    rfl
theorem nS_none {m : Nat} {S : Nat → Option fr} (hm : lv m) (h : ∃ j, j < m ∧ S j = none) : nS m S = none := by
  obtain ⟨j, hj, e⟩ := h
  rcases hm with rfl | rfl | rfl
  · have : j = 0 := by omega
    subst this
    show (S 0).map (fun a => ((a, z0, z0, z0) : n4)) = _
    rw [e]; rfl
  · show ((S 0).bind fun a => (S 1).map fun b => ((a, b, z0, z0) : n4)) = _
    rcases (show j = 0 ∨ j = 1 by omega) with rfl | rfl
    · rw [e]; rfl
    · cases h0 : S 0 with
      | none => rfl
      | some a => rw [e]; rfl
  · show ((S 0).bind fun a => (S 1).bind fun b => (S 2).bind fun c => (S 3).map fun e => ((a, b, c, e) : n4)) = _
    cases h0 : S 0 with
    | none => rfl
    | some a =>
      cases h1 : S 1 with
      | none => rfl
      | some b =>
        cases h2 : S 2 with
        | none => rfl
        | some c =>
          have : j = 3 := by
            rcases (show j = 0 ∨ j = 1 ∨ j = 2 ∨ j = 3 by omega) with rfl | rfl | rfl | rfl
            · rw [h0] at e; cases e
            · rw [h1] at e; cases e
            · rw [h2] at e; cases e
            · rfl
          subst this
          rw [e]; rfl
theorem fv_z0 : fv z0 := by
  unfold fv z0
  decide
theorem op_of {ov un ov1 un1 : Nat → Int32} {n r m : Nat} {fa fa1 : Int32} {S : Nat → Option fr} (hm : lv m) (hr : 308 ≤ r ∧ r + 4 ≤ 1332) (hS : fa = 0 → ∀ j, j < m → ∀ v, S j = some v → fv v) (h : ptI ov un n fa r S m ov1 un1 fa1) : opR ov un n fa 4 (nS m S) ov1 un1 (r + 4) fa1 r := by
  obtain ⟨h1, h2, h3, h4, h5⟩ := h
  refine ⟨hr, by omega, h1, h2, h3, fun h0 => ?_, fun h9 h0 hroom => nS_none hm (h5 h9 h0 hroom)⟩
  obtain ⟨q1, q2, q3, q4, q5, q6⟩ := h4 h0
  have hv : ∀ j, j < 4 → fv (rf ov1 un1 (r + j)) := fun j hj => by
    by_cases hjm : j < m
    · exact hS q1 j hjm _ (q5 j hjm)
    · rw [q6 j (by omega) hj]; exact fv_z0
  exact ⟨q1, q2, by omega, q4, nS_some hm q5 q6, hv 0 (by omega), hv 1 (by omega), hv 2 (by omega), hv 3 (by omega)⟩
/-- the fractions read on the way are the old ones -/
theorem pt_old {ov un ov1 un1 : Nat → Int32} {n r i a : Nat} {fa fa1 : Int32} {S : Nat → Option fr} (h : ptI ov un n fa r S i ov1 un1 fa1) (h0 : fa1 = 0) (ha : fa = 0 → a < n) : rf ov1 un1 a = rf ov un a := by
  obtain ⟨q1, q2, q3, q4, -⟩ := h.2.2.2.1 h0
  exact rf_eq (q4 a (ha q1))
theorem pt_z {ov un ov1 un1 : Nat → Int32} {n r i : Nat} {fa fa1 : Int32} {S : Nat → Option fr} (h : ptI ov un n fa r S i ov1 un1 fa1) (h0 : fa1 = 0) (hi : i < 4) : rf ov1 un1 (r + i) = z0 := (h.2.2.2.1 h0).2.2.2.2.2 i (Nat.le_refl i) hi
/-- the number whose first fraction stands at a -/
def rd (ov un : Nat → Int32) (a : Nat) : Nat → fr := fun j => rf ov un (a + j)
/-- an argument of a method, of m fractions: it lies in the rows; while nothing has failed it is valid, and lies below n -/
def arg (ov un : Nat → Int32) (n : Nat) (fa : Int32) (m a : Nat) : Prop := a + m ≤ 1332 ∧ (fa = 0 → a + m ≤ n ∧ ∀ j, j < m → fv (rd ov un a j))
def nadd (m : Nat) (x y : Nat → fr) : Option n4 := nS m fun j => fadd (x j) (y j)
def nhalf (m : Nat) (x : Nat → fr) : Option n4 := nS m fun j => fhalf (x j)
theorem arg_v {ov un ov1 un1 : Nat → Int32} {n r i a j m : Nat} {fa fa1 : Int32} {S : Nat → Option fr} (ha : arg ov un n fa m a) (h : ptI ov un n fa r S i ov1 un1 fa1) (h0 : fa1 = 0) (hj : j < m) : fv (rf ov1 un1 (a + j)) ∧ rf ov1 un1 (a + j) = rd ov un a j := by
  have hf := (h.2.2.2.1 h0).1
  have e := pt_old (a := a + j) h h0 (fun _ => by have := (ha.2 hf).1; omega)
  rw [e]
  exact ⟨(ha.2 hf).2 j hj, rfl⟩
set_option maxRecDepth 100000 in
theorem ct_N_sum_0 {d : Nat} {ov un : Nat → Int32} {dp fa : Int32} {cu : mm_cu} {st fi se th db : Nat → Int32} {cn : Int32} {F : mm_M} {n a b : Nat} {Q : mm_R → mm_M → Prop} (hfa : mm_z fa) (hn : 308 ≤ n ∧ n ≤ 1332) (ha : arg ov un n fa 1 a) (hb : arg ov un n fa 1 b) (hQ : ∀ (ov1 un1 : Nat → Int32) (n1 : Nat) (fa1 : Int32) (r : Nat), opR ov un n fa 4 (nadd 1 (rd ov un a) (rd ov un b)) ov1 un1 n1 fa1 r → Q (.inl (some (.int (nI r)))) (wC ov1 un1 (nI n1) dp fa1 cu st fi se th db cn F)) : mm_call mm_Tb (d + 2) 142 [.ref 1, .int 0, .int (nI a), .int (nI b)] (wC ov un (nI n) dp fa cu st fi se th db cn F) Q := by
  have ha1 := ha.1
  have hb1 := hb.1
  refine mm_in mt_142 (Nat.le_of_ble_eq_true rfl) ?_
  show mm_W _ _ _ _ _ _ _ (0, [(0, .ref 1), (1, .int 0), (2, .int (nI a)), (3, .int (nI b))], [], wC ov un (nI n) dp fa cu st fi se th db cn F, 0)
  refine mm_skip (mm_call_mono _ _) 1 (st' := (1, [(0, .ref 1), (1, .int 0), (2, .int (nI a)), (3, .int (nI b))], [.ref 1], wC ov un (nI n) dp fa cu st fi se th db cn F, 0)) rfl ?_
  refine mm_inv (mm_call_mono _ _) (j := 138) (a := [.ref 1]) (M := wC ov un (nI n) dp fa cu st fi se th db cn F) (u := 0) rfl (by decide) (ct_N_reserve hn (fun ov1 un1 n1 fa1 r h0 => ?_))
  show mm_W _ _ _ _ _ _ _ (4, [(0, .ref 1), (1, .int 0), (2, .int (nI a)), (3, .int (nI b))], [.int (nI r)], wC ov1 un1 (nI n1) dp fa1 cu st fi se th db cn F, 0)
  have hr := res_r h0 hn.1
  have k0 := pt_0 (fun j => fadd (rd ov un a j) (rd ov un b j)) hfa hn.1 h0
  refine mm_skip (mm_call_mono _ _) 7 (st' := (14, [(5, .int 0), (4, .int (nI r)), (0, .ref 1), (1, .int 0), (2, .int (nI a)), (3, .int (nI b))], [.int 1, .int 0], wC ov1 un1 (nI n1) dp fa1 cu st fi se th db cn F, 0)) rfl ?_
  refine mm_branch (mm_call_mono _ _) (c := (1 : Int32) ≤ 0) (s1 := (104, [(5, .int 0), (4, .int (nI r)), (0, .ref 1), (1, .int 0), (2, .int (nI a)), (3, .int (nI b))], [], wC ov1 un1 (nI n1) dp fa1 cu st fi se th db cn F, 0)) (s2 := (17, [(5, .int 0), (4, .int (nI r)), (0, .ref 1), (1, .int 0), (2, .int (nI a)), (3, .int (nI b))], [], wC ov1 un1 (nI n1) dp fa1 cu st fi se th db cn F, 0)) rfl (fun h => absurd h (by decide)) (fun _ => ?_)
  refine mm_skip (mm_call_mono _ _) 5 (st' := (25, [(5, .int 0), (4, .int (nI r)), (0, .ref 1), (1, .int 0), (2, .int (nI a)), (3, .int (nI b))], [.int ((nI a) + 0), .ref 8], wC ov1 un1 (nI n1) dp fa1 cu st fi se th db cn F, 0)) rfl ?_
  rw [nI_p0 (a)]
  show mm_W _ _ _ _ _ _ _ (25, [(5, .int 0), (4, .int (nI r)), (0, .ref 1), (1, .int 0), (2, .int (nI a)), (3, .int (nI b))], [.int (nI a), .ref 8], wC ov1 un1 (nI n1) dp fa1 cu st fi se th db cn F, 0)
  refine mm_need (mm_call_mono _ _) (c := vp_in (nI a) 1332) (s' := (26, [(5, .int 0), (4, .int (nI r)), (0, .ref 1), (1, .int 0), (2, .int (nI a)), (3, .int (nI b))], [.int (ov1 (Int32.toNatClampNeg (nI a)))], wC ov1 un1 (nI n1) dp fa1 cu st fi se th db cn F, 0)) rfl (vp_in_nI (show a < 1332 by omega) (by decide)) ?_
  rw [nI_clamp (show a < 2 ^ 31 by omega)]
  show mm_W _ _ _ _ _ _ _ (26, [(5, .int 0), (4, .int (nI r)), (0, .ref 1), (1, .int 0), (2, .int (nI a)), (3, .int (nI b))], [.int (ov1 a)], wC ov1 un1 (nI n1) dp fa1 cu st fi se th db cn F, 0)
  refine mm_skip (mm_call_mono _ _) 6 (st' := (35, [(5, .int 0), (4, .int (nI r)), (0, .ref 1), (1, .int 0), (2, .int (nI a)), (3, .int (nI b))], [.int ((nI b) + 0), .ref 9, .long (Int32.toInt64 (ov1 a))], wC ov1 un1 (nI n1) dp fa1 cu st fi se th db cn F, 0)) rfl ?_
  rw [nI_p0 (b)]
  show mm_W _ _ _ _ _ _ _ (35, [(5, .int 0), (4, .int (nI r)), (0, .ref 1), (1, .int 0), (2, .int (nI a)), (3, .int (nI b))], [.int (nI b), .ref 9, .long (Int32.toInt64 (ov1 a))], wC ov1 un1 (nI n1) dp fa1 cu st fi se th db cn F, 0)
  refine mm_need (mm_call_mono _ _) (c := vp_in (nI b) 1332) (s' := (36, [(5, .int 0), (4, .int (nI r)), (0, .ref 1), (1, .int 0), (2, .int (nI a)), (3, .int (nI b))], [.int (un1 (Int32.toNatClampNeg (nI b))), .long (Int32.toInt64 (ov1 a))], wC ov1 un1 (nI n1) dp fa1 cu st fi se th db cn F, 0)) rfl (vp_in_nI (show b < 1332 by omega) (by decide)) ?_
  rw [nI_clamp (show b < 2 ^ 31 by omega)]
  show mm_W _ _ _ _ _ _ _ (36, [(5, .int 0), (4, .int (nI r)), (0, .ref 1), (1, .int 0), (2, .int (nI a)), (3, .int (nI b))], [.int (un1 b), .long (Int32.toInt64 (ov1 a))], wC ov1 un1 (nI n1) dp fa1 cu st fi se th db cn F, 0)
  refine mm_skip (mm_call_mono _ _) 8 (st' := (48, [(6, .long ((Int32.toInt64 (ov1 a)) * (Int32.toInt64 (un1 b)))), (5, .int 0), (4, .int (nI r)), (0, .ref 1), (1, .int 0), (2, .int (nI a)), (3, .int (nI b))], [.int ((nI b) + 0), .ref 8], wC ov1 un1 (nI n1) dp fa1 cu st fi se th db cn F, 0)) rfl ?_
  rw [nI_p0 (b)]
  show mm_W _ _ _ _ _ _ _ (48, [(6, .long ((Int32.toInt64 (ov1 a)) * (Int32.toInt64 (un1 b)))), (5, .int 0), (4, .int (nI r)), (0, .ref 1), (1, .int 0), (2, .int (nI a)), (3, .int (nI b))], [.int (nI b), .ref 8], wC ov1 un1 (nI n1) dp fa1 cu st fi se th db cn F, 0)
  refine mm_need (mm_call_mono _ _) (c := vp_in (nI b) 1332) (s' := (49, [(6, .long ((Int32.toInt64 (ov1 a)) * (Int32.toInt64 (un1 b)))), (5, .int 0), (4, .int (nI r)), (0, .ref 1), (1, .int 0), (2, .int (nI a)), (3, .int (nI b))], [.int (ov1 (Int32.toNatClampNeg (nI b)))], wC ov1 un1 (nI n1) dp fa1 cu st fi se th db cn F, 0)) rfl (vp_in_nI (show b < 1332 by omega) (by decide)) ?_
  rw [nI_clamp (show b < 2 ^ 31 by omega)]
  show mm_W _ _ _ _ _ _ _ (49, [(6, .long ((Int32.toInt64 (ov1 a)) * (Int32.toInt64 (un1 b)))), (5, .int 0), (4, .int (nI r)), (0, .ref 1), (1, .int 0), (2, .int (nI a)), (3, .int (nI b))], [.int (ov1 b)], wC ov1 un1 (nI n1) dp fa1 cu st fi se th db cn F, 0)
  refine mm_skip (mm_call_mono _ _) 6 (st' := (58, [(6, .long ((Int32.toInt64 (ov1 a)) * (Int32.toInt64 (un1 b)))), (5, .int 0), (4, .int (nI r)), (0, .ref 1), (1, .int 0), (2, .int (nI a)), (3, .int (nI b))], [.int ((nI a) + 0), .ref 9, .long (Int32.toInt64 (ov1 b))], wC ov1 un1 (nI n1) dp fa1 cu st fi se th db cn F, 0)) rfl ?_
  rw [nI_p0 (a)]
  show mm_W _ _ _ _ _ _ _ (58, [(6, .long ((Int32.toInt64 (ov1 a)) * (Int32.toInt64 (un1 b)))), (5, .int 0), (4, .int (nI r)), (0, .ref 1), (1, .int 0), (2, .int (nI a)), (3, .int (nI b))], [.int (nI a), .ref 9, .long (Int32.toInt64 (ov1 b))], wC ov1 un1 (nI n1) dp fa1 cu st fi se th db cn F, 0)
  refine mm_need (mm_call_mono _ _) (c := vp_in (nI a) 1332) (s' := (59, [(6, .long ((Int32.toInt64 (ov1 a)) * (Int32.toInt64 (un1 b)))), (5, .int 0), (4, .int (nI r)), (0, .ref 1), (1, .int 0), (2, .int (nI a)), (3, .int (nI b))], [.int (un1 (Int32.toNatClampNeg (nI a))), .long (Int32.toInt64 (ov1 b))], wC ov1 un1 (nI n1) dp fa1 cu st fi se th db cn F, 0)) rfl (vp_in_nI (show a < 1332 by omega) (by decide)) ?_
  rw [nI_clamp (show a < 2 ^ 31 by omega)]
  show mm_W _ _ _ _ _ _ _ (59, [(6, .long ((Int32.toInt64 (ov1 a)) * (Int32.toInt64 (un1 b)))), (5, .int 0), (4, .int (nI r)), (0, .ref 1), (1, .int 0), (2, .int (nI a)), (3, .int (nI b))], [.int (un1 a), .long (Int32.toInt64 (ov1 b))], wC ov1 un1 (nI n1) dp fa1 cu st fi se th db cn F, 0)
  refine mm_skip (mm_call_mono _ _) 15 (st' := (82, [(8, .long ((Int32.toInt64 (ov1 b)) * (Int32.toInt64 (un1 a)))), (6, .long ((Int32.toInt64 (ov1 a)) * (Int32.toInt64 (un1 b)))), (5, .int 0), (4, .int (nI r)), (0, .ref 1), (1, .int 0), (2, .int (nI a)), (3, .int (nI b))], [.int ((nI a) + 0), .ref 9, .long (((Int32.toInt64 (ov1 a)) * (Int32.toInt64 (un1 b))) + ((Int32.toInt64 (ov1 b)) * (Int32.toInt64 (un1 a)))), .int ((nI r) + 0), .ref 1], wC ov1 un1 (nI n1) dp fa1 cu st fi se th db cn F, 0)) rfl ?_
  rw [nI_p0 (a)]
  rw [nI_p0 (r)]
  show mm_W _ _ _ _ _ _ _ (82, [(8, .long ((Int32.toInt64 (ov1 b)) * (Int32.toInt64 (un1 a)))), (6, .long ((Int32.toInt64 (ov1 a)) * (Int32.toInt64 (un1 b)))), (5, .int 0), (4, .int (nI r)), (0, .ref 1), (1, .int 0), (2, .int (nI a)), (3, .int (nI b))], [.int (nI a), .ref 9, .long (((Int32.toInt64 (ov1 a)) * (Int32.toInt64 (un1 b))) + ((Int32.toInt64 (ov1 b)) * (Int32.toInt64 (un1 a)))), .int (nI r), .ref 1], wC ov1 un1 (nI n1) dp fa1 cu st fi se th db cn F, 0)
  refine mm_need (mm_call_mono _ _) (c := vp_in (nI a) 1332) (s' := (83, [(8, .long ((Int32.toInt64 (ov1 b)) * (Int32.toInt64 (un1 a)))), (6, .long ((Int32.toInt64 (ov1 a)) * (Int32.toInt64 (un1 b)))), (5, .int 0), (4, .int (nI r)), (0, .ref 1), (1, .int 0), (2, .int (nI a)), (3, .int (nI b))], [.int (un1 (Int32.toNatClampNeg (nI a))), .long (((Int32.toInt64 (ov1 a)) * (Int32.toInt64 (un1 b))) + ((Int32.toInt64 (ov1 b)) * (Int32.toInt64 (un1 a)))), .int (nI r), .ref 1], wC ov1 un1 (nI n1) dp fa1 cu st fi se th db cn F, 0)) rfl (vp_in_nI (show a < 1332 by omega) (by decide)) ?_
  rw [nI_clamp (show a < 2 ^ 31 by omega)]
  show mm_W _ _ _ _ _ _ _ (83, [(8, .long ((Int32.toInt64 (ov1 b)) * (Int32.toInt64 (un1 a)))), (6, .long ((Int32.toInt64 (ov1 a)) * (Int32.toInt64 (un1 b)))), (5, .int 0), (4, .int (nI r)), (0, .ref 1), (1, .int 0), (2, .int (nI a)), (3, .int (nI b))], [.int (un1 a), .long (((Int32.toInt64 (ov1 a)) * (Int32.toInt64 (un1 b))) + ((Int32.toInt64 (ov1 b)) * (Int32.toInt64 (un1 a)))), .int (nI r), .ref 1], wC ov1 un1 (nI n1) dp fa1 cu st fi se th db cn F, 0)
  refine mm_skip (mm_call_mono _ _) 6 (st' := (92, [(8, .long ((Int32.toInt64 (ov1 b)) * (Int32.toInt64 (un1 a)))), (6, .long ((Int32.toInt64 (ov1 a)) * (Int32.toInt64 (un1 b)))), (5, .int 0), (4, .int (nI r)), (0, .ref 1), (1, .int 0), (2, .int (nI a)), (3, .int (nI b))], [.int ((nI b) + 0), .ref 9, .long (Int32.toInt64 (un1 a)), .long (((Int32.toInt64 (ov1 a)) * (Int32.toInt64 (un1 b))) + ((Int32.toInt64 (ov1 b)) * (Int32.toInt64 (un1 a)))), .int (nI r), .ref 1], wC ov1 un1 (nI n1) dp fa1 cu st fi se th db cn F, 0)) rfl ?_
  rw [nI_p0 (b)]
  show mm_W _ _ _ _ _ _ _ (92, [(8, .long ((Int32.toInt64 (ov1 b)) * (Int32.toInt64 (un1 a)))), (6, .long ((Int32.toInt64 (ov1 a)) * (Int32.toInt64 (un1 b)))), (5, .int 0), (4, .int (nI r)), (0, .ref 1), (1, .int 0), (2, .int (nI a)), (3, .int (nI b))], [.int (nI b), .ref 9, .long (Int32.toInt64 (un1 a)), .long (((Int32.toInt64 (ov1 a)) * (Int32.toInt64 (un1 b))) + ((Int32.toInt64 (ov1 b)) * (Int32.toInt64 (un1 a)))), .int (nI r), .ref 1], wC ov1 un1 (nI n1) dp fa1 cu st fi se th db cn F, 0)
  refine mm_need (mm_call_mono _ _) (c := vp_in (nI b) 1332) (s' := (93, [(8, .long ((Int32.toInt64 (ov1 b)) * (Int32.toInt64 (un1 a)))), (6, .long ((Int32.toInt64 (ov1 a)) * (Int32.toInt64 (un1 b)))), (5, .int 0), (4, .int (nI r)), (0, .ref 1), (1, .int 0), (2, .int (nI a)), (3, .int (nI b))], [.int (un1 (Int32.toNatClampNeg (nI b))), .long (Int32.toInt64 (un1 a)), .long (((Int32.toInt64 (ov1 a)) * (Int32.toInt64 (un1 b))) + ((Int32.toInt64 (ov1 b)) * (Int32.toInt64 (un1 a)))), .int (nI r), .ref 1], wC ov1 un1 (nI n1) dp fa1 cu st fi se th db cn F, 0)) rfl (vp_in_nI (show b < 1332 by omega) (by decide)) ?_
  rw [nI_clamp (show b < 2 ^ 31 by omega)]
  show mm_W _ _ _ _ _ _ _ (93, [(8, .long ((Int32.toInt64 (ov1 b)) * (Int32.toInt64 (un1 a)))), (6, .long ((Int32.toInt64 (ov1 a)) * (Int32.toInt64 (un1 b)))), (5, .int 0), (4, .int (nI r)), (0, .ref 1), (1, .int 0), (2, .int (nI a)), (3, .int (nI b))], [.int (un1 b), .long (Int32.toInt64 (un1 a)), .long (((Int32.toInt64 (ov1 a)) * (Int32.toInt64 (un1 b))) + ((Int32.toInt64 (ov1 b)) * (Int32.toInt64 (un1 a)))), .int (nI r), .ref 1], wC ov1 un1 (nI n1) dp fa1 cu st fi se th db cn F, 0)
  refine mm_skip (mm_call_mono _ _) 2 (st' := (95, [(8, .long ((Int32.toInt64 (ov1 b)) * (Int32.toInt64 (un1 a)))), (6, .long ((Int32.toInt64 (ov1 a)) * (Int32.toInt64 (un1 b)))), (5, .int 0), (4, .int (nI r)), (0, .ref 1), (1, .int 0), (2, .int (nI a)), (3, .int (nI b))], [.long ((Int32.toInt64 (un1 a)) * (Int32.toInt64 (un1 b))), .long (((Int32.toInt64 (ov1 a)) * (Int32.toInt64 (un1 b))) + ((Int32.toInt64 (ov1 b)) * (Int32.toInt64 (un1 a)))), .int (nI r), .ref 1], wC ov1 un1 (nI n1) dp fa1 cu st fi se th db cn F, 0)) rfl ?_
  refine mm_inv (mm_call_mono _ _) (j := 139) (a := [.ref 1, .int (nI r), .long (((Int32.toInt64 (ov1 a)) * (Int32.toInt64 (un1 b))) + ((Int32.toInt64 (ov1 b)) * (Int32.toInt64 (un1 a)))), .long ((Int32.toInt64 (un1 a)) * (Int32.toInt64 (un1 b)))]) (M := wC ov1 un1 (nI n1) dp fa1 cu st fi se th db cn F) (u := 0) rfl (by decide) (ct_N_put_add (a := a) (b := b) (c := r) k0.1 (by omega) (fun h => ⟨(arg_v ha k0 h (j := 0) (by omega)).1, (arg_v hb k0 h (j := 0) (by omega)).1, pt_z k0 h (by omega)⟩) (fun ov2 un2 fa2 p1 => ?_))
  show mm_W _ _ _ _ _ _ _ (98, [(8, .long ((Int32.toInt64 (ov1 b)) * (Int32.toInt64 (un1 a)))), (6, .long ((Int32.toInt64 (ov1 a)) * (Int32.toInt64 (un1 b)))), (5, .int 0), (4, .int (nI r)), (0, .ref 1), (1, .int 0), (2, .int (nI a)), (3, .int (nI b))], [], wC ov2 un2 (nI n1) dp fa2 cu st fi se th db cn F, 0)
  have k1 := pt_s (i := 0) k0 (by omega) hr.1 p1 (fun h => by rw [← (arg_v ha k0 h (j := 0) (by omega)).2, ← (arg_v hb k0 h (j := 0) (by omega)).2] <;> rfl)
  refine mm_skip (mm_call_mono _ _) 6 (st' := (14, [(5, .int 1), (8, .long ((Int32.toInt64 (ov1 b)) * (Int32.toInt64 (un1 a)))), (6, .long ((Int32.toInt64 (ov1 a)) * (Int32.toInt64 (un1 b)))), (4, .int (nI r)), (0, .ref 1), (1, .int 0), (2, .int (nI a)), (3, .int (nI b))], [.int 1, .int 1], wC ov2 un2 (nI n1) dp fa2 cu st fi se th db cn F, 0)) rfl ?_
  refine mm_branch (mm_call_mono _ _) (c := (1 : Int32) ≤ 1) (s1 := (104, [(5, .int 1), (8, .long ((Int32.toInt64 (ov1 b)) * (Int32.toInt64 (un1 a)))), (6, .long ((Int32.toInt64 (ov1 a)) * (Int32.toInt64 (un1 b)))), (4, .int (nI r)), (0, .ref 1), (1, .int 0), (2, .int (nI a)), (3, .int (nI b))], [], wC ov2 un2 (nI n1) dp fa2 cu st fi se th db cn F, 0)) (s2 := (17, [(5, .int 1), (8, .long ((Int32.toInt64 (ov1 b)) * (Int32.toInt64 (un1 a)))), (6, .long ((Int32.toInt64 (ov1 a)) * (Int32.toInt64 (un1 b)))), (4, .int (nI r)), (0, .ref 1), (1, .int 0), (2, .int (nI a)), (3, .int (nI b))], [], wC ov2 un2 (nI n1) dp fa2 cu st fi se th db cn F, 0)) rfl (fun _ => ?_) (fun h => absurd (by decide) h)
  refine mm_skip (mm_call_mono _ _) 1 (st' := (106, [(5, .int 1), (8, .long ((Int32.toInt64 (ov1 b)) * (Int32.toInt64 (un1 a)))), (6, .long ((Int32.toInt64 (ov1 a)) * (Int32.toInt64 (un1 b)))), (4, .int (nI r)), (0, .ref 1), (1, .int 0), (2, .int (nI a)), (3, .int (nI b))], [.int (nI r)], wC ov2 un2 (nI n1) dp fa2 cu st fi se th db cn F, 0)) rfl ?_
  exact mm_ret (mm_call_mono _ _) (c := True) (r := .inl (some (.int (nI r)))) (M := wC ov2 un2 (nI n1) dp fa2 cu st fi se th db cn F) (u := 0) rfl trivial (by decide) (hQ _ _ _ _ _ (by have h9 := op_of (by first | exact Or.inl rfl | exact Or.inr (Or.inl rfl) | exact Or.inr (Or.inr rfl)) ⟨hr.1, hr.2.1⟩ (fun h0 j hj v e => fadd_v ((ha.2 h0).2 j hj) ((hb.2 h0).2 j hj) e) k1; rw [← hr.2.2] at h9; exact h9))

set_option maxRecDepth 100000 in
theorem ct_N_half_0 {d : Nat} {ov un : Nat → Int32} {dp fa : Int32} {cu : mm_cu} {st fi se th db : Nat → Int32} {cn : Int32} {F : mm_M} {n a : Nat} {Q : mm_R → mm_M → Prop} (hfa : mm_z fa) (hn : 308 ≤ n ∧ n ≤ 1332) (ha : arg ov un n fa 1 a) (hQ : ∀ (ov1 un1 : Nat → Int32) (n1 : Nat) (fa1 : Int32) (r : Nat), opR ov un n fa 4 (nhalf 1 (rd ov un a)) ov1 un1 n1 fa1 r → Q (.inl (some (.int (nI r)))) (wC ov1 un1 (nI n1) dp fa1 cu st fi se th db cn F)) : mm_call mm_Tb (d + 2) 144 [.ref 1, .int 0, .int (nI a)] (wC ov un (nI n) dp fa cu st fi se th db cn F) Q := by
  have ha1 := ha.1
  refine mm_in mt_144 (Nat.le_of_ble_eq_true rfl) ?_
  show mm_W _ _ _ _ _ _ _ (0, [(0, .ref 1), (1, .int 0), (2, .int (nI a))], [], wC ov un (nI n) dp fa cu st fi se th db cn F, 0)
  refine mm_skip (mm_call_mono _ _) 1 (st' := (1, [(0, .ref 1), (1, .int 0), (2, .int (nI a))], [.ref 1], wC ov un (nI n) dp fa cu st fi se th db cn F, 0)) rfl ?_
  refine mm_inv (mm_call_mono _ _) (j := 138) (a := [.ref 1]) (M := wC ov un (nI n) dp fa cu st fi se th db cn F) (u := 0) rfl (by decide) (ct_N_reserve hn (fun ov1 un1 n1 fa1 r h0 => ?_))
  show mm_W _ _ _ _ _ _ _ (4, [(0, .ref 1), (1, .int 0), (2, .int (nI a))], [.int (nI r)], wC ov1 un1 (nI n1) dp fa1 cu st fi se th db cn F, 0)
  have hr := res_r h0 hn.1
  have k0 := pt_0 (fun j => fhalf (rd ov un a j)) hfa hn.1 h0
  refine mm_skip (mm_call_mono _ _) 7 (st' := (13, [(4, .int 0), (3, .int (nI r)), (0, .ref 1), (1, .int 0), (2, .int (nI a))], [.int 1, .int 0], wC ov1 un1 (nI n1) dp fa1 cu st fi se th db cn F, 0)) rfl ?_
  refine mm_branch (mm_call_mono _ _) (c := (1 : Int32) ≤ 0) (s1 := (54, [(4, .int 0), (3, .int (nI r)), (0, .ref 1), (1, .int 0), (2, .int (nI a))], [], wC ov1 un1 (nI n1) dp fa1 cu st fi se th db cn F, 0)) (s2 := (16, [(4, .int 0), (3, .int (nI r)), (0, .ref 1), (1, .int 0), (2, .int (nI a))], [], wC ov1 un1 (nI n1) dp fa1 cu st fi se th db cn F, 0)) rfl (fun h => absurd h (by decide)) (fun _ => ?_)
  refine mm_skip (mm_call_mono _ _) 9 (st' := (29, [(4, .int 0), (3, .int (nI r)), (0, .ref 1), (1, .int 0), (2, .int (nI a))], [.int ((nI a) + 0), .ref 8, .int ((nI r) + 0), .ref 1], wC ov1 un1 (nI n1) dp fa1 cu st fi se th db cn F, 0)) rfl ?_
  rw [nI_p0 (a)]
  rw [nI_p0 (r)]
  show mm_W _ _ _ _ _ _ _ (29, [(4, .int 0), (3, .int (nI r)), (0, .ref 1), (1, .int 0), (2, .int (nI a))], [.int (nI a), .ref 8, .int (nI r), .ref 1], wC ov1 un1 (nI n1) dp fa1 cu st fi se th db cn F, 0)
  refine mm_need (mm_call_mono _ _) (c := vp_in (nI a) 1332) (s' := (30, [(4, .int 0), (3, .int (nI r)), (0, .ref 1), (1, .int 0), (2, .int (nI a))], [.int (ov1 (Int32.toNatClampNeg (nI a))), .int (nI r), .ref 1], wC ov1 un1 (nI n1) dp fa1 cu st fi se th db cn F, 0)) rfl (vp_in_nI (show a < 1332 by omega) (by decide)) ?_
  rw [nI_clamp (show a < 2 ^ 31 by omega)]
  show mm_W _ _ _ _ _ _ _ (30, [(4, .int 0), (3, .int (nI r)), (0, .ref 1), (1, .int 0), (2, .int (nI a))], [.int (ov1 a), .int (nI r), .ref 1], wC ov1 un1 (nI n1) dp fa1 cu st fi se th db cn F, 0)
  refine mm_skip (mm_call_mono _ _) 7 (st' := (42, [(4, .int 0), (3, .int (nI r)), (0, .ref 1), (1, .int 0), (2, .int (nI a))], [.int ((nI a) + 0), .ref 9, .long 2, .long (Int32.toInt64 (ov1 a)), .int (nI r), .ref 1], wC ov1 un1 (nI n1) dp fa1 cu st fi se th db cn F, 0)) rfl ?_
  rw [nI_p0 (a)]
  show mm_W _ _ _ _ _ _ _ (42, [(4, .int 0), (3, .int (nI r)), (0, .ref 1), (1, .int 0), (2, .int (nI a))], [.int (nI a), .ref 9, .long 2, .long (Int32.toInt64 (ov1 a)), .int (nI r), .ref 1], wC ov1 un1 (nI n1) dp fa1 cu st fi se th db cn F, 0)
  refine mm_need (mm_call_mono _ _) (c := vp_in (nI a) 1332) (s' := (43, [(4, .int 0), (3, .int (nI r)), (0, .ref 1), (1, .int 0), (2, .int (nI a))], [.int (un1 (Int32.toNatClampNeg (nI a))), .long 2, .long (Int32.toInt64 (ov1 a)), .int (nI r), .ref 1], wC ov1 un1 (nI n1) dp fa1 cu st fi se th db cn F, 0)) rfl (vp_in_nI (show a < 1332 by omega) (by decide)) ?_
  rw [nI_clamp (show a < 2 ^ 31 by omega)]
  show mm_W _ _ _ _ _ _ _ (43, [(4, .int 0), (3, .int (nI r)), (0, .ref 1), (1, .int 0), (2, .int (nI a))], [.int (un1 a), .long 2, .long (Int32.toInt64 (ov1 a)), .int (nI r), .ref 1], wC ov1 un1 (nI n1) dp fa1 cu st fi se th db cn F, 0)
  refine mm_skip (mm_call_mono _ _) 2 (st' := (45, [(4, .int 0), (3, .int (nI r)), (0, .ref 1), (1, .int 0), (2, .int (nI a))], [.long (2 * (Int32.toInt64 (un1 a))), .long (Int32.toInt64 (ov1 a)), .int (nI r), .ref 1], wC ov1 un1 (nI n1) dp fa1 cu st fi se th db cn F, 0)) rfl ?_
  refine mm_inv (mm_call_mono _ _) (j := 139) (a := [.ref 1, .int (nI r), .long (Int32.toInt64 (ov1 a)), .long (2 * (Int32.toInt64 (un1 a)))]) (M := wC ov1 un1 (nI n1) dp fa1 cu st fi se th db cn F) (u := 0) rfl (by decide) (ct_N_put_half (a := a) (c := r) k0.1 (by omega) (fun h => ⟨(arg_v ha k0 h (j := 0) (by omega)).1, pt_z k0 h (by omega)⟩) (fun ov2 un2 fa2 p1 => ?_))
  show mm_W _ _ _ _ _ _ _ (48, [(4, .int 0), (3, .int (nI r)), (0, .ref 1), (1, .int 0), (2, .int (nI a))], [], wC ov2 un2 (nI n1) dp fa2 cu st fi se th db cn F, 0)
  have k1 := pt_s (i := 0) k0 (by omega) hr.1 p1 (fun h => by rw [← (arg_v ha k0 h (j := 0) (by omega)).2] <;> rfl)
  refine mm_skip (mm_call_mono _ _) 6 (st' := (13, [(4, .int 1), (3, .int (nI r)), (0, .ref 1), (1, .int 0), (2, .int (nI a))], [.int 1, .int 1], wC ov2 un2 (nI n1) dp fa2 cu st fi se th db cn F, 0)) rfl ?_
  refine mm_branch (mm_call_mono _ _) (c := (1 : Int32) ≤ 1) (s1 := (54, [(4, .int 1), (3, .int (nI r)), (0, .ref 1), (1, .int 0), (2, .int (nI a))], [], wC ov2 un2 (nI n1) dp fa2 cu st fi se th db cn F, 0)) (s2 := (16, [(4, .int 1), (3, .int (nI r)), (0, .ref 1), (1, .int 0), (2, .int (nI a))], [], wC ov2 un2 (nI n1) dp fa2 cu st fi se th db cn F, 0)) rfl (fun _ => ?_) (fun h => absurd (by decide) h)
  refine mm_skip (mm_call_mono _ _) 1 (st' := (55, [(4, .int 1), (3, .int (nI r)), (0, .ref 1), (1, .int 0), (2, .int (nI a))], [.int (nI r)], wC ov2 un2 (nI n1) dp fa2 cu st fi se th db cn F, 0)) rfl ?_
  exact mm_ret (mm_call_mono _ _) (c := True) (r := .inl (some (.int (nI r)))) (M := wC ov2 un2 (nI n1) dp fa2 cu st fi se th db cn F) (u := 0) rfl trivial (by decide) (hQ _ _ _ _ _ (by have h9 := op_of (by first | exact Or.inl rfl | exact Or.inr (Or.inl rfl) | exact Or.inr (Or.inr rfl)) ⟨hr.1, hr.2.1⟩ (fun h0 j hj v e => fhalf_v ((ha.2 h0).2 j hj) e) k1; rw [← hr.2.2] at h9; exact h9))

set_option maxRecDepth 100000 in
theorem ct_N_sum_1 {d : Nat} {ov un : Nat → Int32} {dp fa : Int32} {cu : mm_cu} {st fi se th db : Nat → Int32} {cn : Int32} {F : mm_M} {n a b : Nat} {Q : mm_R → mm_M → Prop} (hfa : mm_z fa) (hn : 308 ≤ n ∧ n ≤ 1332) (ha : arg ov un n fa 2 a) (hb : arg ov un n fa 2 b) (hQ : ∀ (ov1 un1 : Nat → Int32) (n1 : Nat) (fa1 : Int32) (r : Nat), opR ov un n fa 4 (nadd 2 (rd ov un a) (rd ov un b)) ov1 un1 n1 fa1 r → Q (.inl (some (.int (nI r)))) (wC ov1 un1 (nI n1) dp fa1 cu st fi se th db cn F)) : mm_call mm_Tb (d + 2) 142 [.ref 1, .int 1, .int (nI a), .int (nI b)] (wC ov un (nI n) dp fa cu st fi se th db cn F) Q := by
  have ha1 := ha.1
  have hb1 := hb.1
  refine mm_in mt_142 (Nat.le_of_ble_eq_true rfl) ?_
  show mm_W _ _ _ _ _ _ _ (0, [(0, .ref 1), (1, .int 1), (2, .int (nI a)), (3, .int (nI b))], [], wC ov un (nI n) dp fa cu st fi se th db cn F, 0)
  refine mm_skip (mm_call_mono _ _) 1 (st' := (1, [(0, .ref 1), (1, .int 1), (2, .int (nI a)), (3, .int (nI b))], [.ref 1], wC ov un (nI n) dp fa cu st fi se th db cn F, 0)) rfl ?_
  refine mm_inv (mm_call_mono _ _) (j := 138) (a := [.ref 1]) (M := wC ov un (nI n) dp fa cu st fi se th db cn F) (u := 0) rfl (by decide) (ct_N_reserve hn (fun ov1 un1 n1 fa1 r h0 => ?_))
  show mm_W _ _ _ _ _ _ _ (4, [(0, .ref 1), (1, .int 1), (2, .int (nI a)), (3, .int (nI b))], [.int (nI r)], wC ov1 un1 (nI n1) dp fa1 cu st fi se th db cn F, 0)
  have hr := res_r h0 hn.1
  have k0 := pt_0 (fun j => fadd (rd ov un a j) (rd ov un b j)) hfa hn.1 h0
  refine mm_skip (mm_call_mono _ _) 7 (st' := (14, [(5, .int 0), (4, .int (nI r)), (0, .ref 1), (1, .int 1), (2, .int (nI a)), (3, .int (nI b))], [.int 2, .int 0], wC ov1 un1 (nI n1) dp fa1 cu st fi se th db cn F, 0)) rfl ?_
  refine mm_branch (mm_call_mono _ _) (c := (2 : Int32) ≤ 0) (s1 := (104, [(5, .int 0), (4, .int (nI r)), (0, .ref 1), (1, .int 1), (2, .int (nI a)), (3, .int (nI b))], [], wC ov1 un1 (nI n1) dp fa1 cu st fi se th db cn F, 0)) (s2 := (17, [(5, .int 0), (4, .int (nI r)), (0, .ref 1), (1, .int 1), (2, .int (nI a)), (3, .int (nI b))], [], wC ov1 un1 (nI n1) dp fa1 cu st fi se th db cn F, 0)) rfl (fun h => absurd h (by decide)) (fun _ => ?_)
  refine mm_skip (mm_call_mono _ _) 5 (st' := (25, [(5, .int 0), (4, .int (nI r)), (0, .ref 1), (1, .int 1), (2, .int (nI a)), (3, .int (nI b))], [.int ((nI a) + 0), .ref 8], wC ov1 un1 (nI n1) dp fa1 cu st fi se th db cn F, 0)) rfl ?_
  rw [nI_p0 (a)]
  show mm_W _ _ _ _ _ _ _ (25, [(5, .int 0), (4, .int (nI r)), (0, .ref 1), (1, .int 1), (2, .int (nI a)), (3, .int (nI b))], [.int (nI a), .ref 8], wC ov1 un1 (nI n1) dp fa1 cu st fi se th db cn F, 0)
  refine mm_need (mm_call_mono _ _) (c := vp_in (nI a) 1332) (s' := (26, [(5, .int 0), (4, .int (nI r)), (0, .ref 1), (1, .int 1), (2, .int (nI a)), (3, .int (nI b))], [.int (ov1 (Int32.toNatClampNeg (nI a)))], wC ov1 un1 (nI n1) dp fa1 cu st fi se th db cn F, 0)) rfl (vp_in_nI (show a < 1332 by omega) (by decide)) ?_
  rw [nI_clamp (show a < 2 ^ 31 by omega)]
  show mm_W _ _ _ _ _ _ _ (26, [(5, .int 0), (4, .int (nI r)), (0, .ref 1), (1, .int 1), (2, .int (nI a)), (3, .int (nI b))], [.int (ov1 a)], wC ov1 un1 (nI n1) dp fa1 cu st fi se th db cn F, 0)
  refine mm_skip (mm_call_mono _ _) 6 (st' := (35, [(5, .int 0), (4, .int (nI r)), (0, .ref 1), (1, .int 1), (2, .int (nI a)), (3, .int (nI b))], [.int ((nI b) + 0), .ref 9, .long (Int32.toInt64 (ov1 a))], wC ov1 un1 (nI n1) dp fa1 cu st fi se th db cn F, 0)) rfl ?_
  rw [nI_p0 (b)]
  show mm_W _ _ _ _ _ _ _ (35, [(5, .int 0), (4, .int (nI r)), (0, .ref 1), (1, .int 1), (2, .int (nI a)), (3, .int (nI b))], [.int (nI b), .ref 9, .long (Int32.toInt64 (ov1 a))], wC ov1 un1 (nI n1) dp fa1 cu st fi se th db cn F, 0)
  refine mm_need (mm_call_mono _ _) (c := vp_in (nI b) 1332) (s' := (36, [(5, .int 0), (4, .int (nI r)), (0, .ref 1), (1, .int 1), (2, .int (nI a)), (3, .int (nI b))], [.int (un1 (Int32.toNatClampNeg (nI b))), .long (Int32.toInt64 (ov1 a))], wC ov1 un1 (nI n1) dp fa1 cu st fi se th db cn F, 0)) rfl (vp_in_nI (show b < 1332 by omega) (by decide)) ?_
  rw [nI_clamp (show b < 2 ^ 31 by omega)]
  show mm_W _ _ _ _ _ _ _ (36, [(5, .int 0), (4, .int (nI r)), (0, .ref 1), (1, .int 1), (2, .int (nI a)), (3, .int (nI b))], [.int (un1 b), .long (Int32.toInt64 (ov1 a))], wC ov1 un1 (nI n1) dp fa1 cu st fi se th db cn F, 0)
  refine mm_skip (mm_call_mono _ _) 8 (st' := (48, [(6, .long ((Int32.toInt64 (ov1 a)) * (Int32.toInt64 (un1 b)))), (5, .int 0), (4, .int (nI r)), (0, .ref 1), (1, .int 1), (2, .int (nI a)), (3, .int (nI b))], [.int ((nI b) + 0), .ref 8], wC ov1 un1 (nI n1) dp fa1 cu st fi se th db cn F, 0)) rfl ?_
  rw [nI_p0 (b)]
  show mm_W _ _ _ _ _ _ _ (48, [(6, .long ((Int32.toInt64 (ov1 a)) * (Int32.toInt64 (un1 b)))), (5, .int 0), (4, .int (nI r)), (0, .ref 1), (1, .int 1), (2, .int (nI a)), (3, .int (nI b))], [.int (nI b), .ref 8], wC ov1 un1 (nI n1) dp fa1 cu st fi se th db cn F, 0)
  refine mm_need (mm_call_mono _ _) (c := vp_in (nI b) 1332) (s' := (49, [(6, .long ((Int32.toInt64 (ov1 a)) * (Int32.toInt64 (un1 b)))), (5, .int 0), (4, .int (nI r)), (0, .ref 1), (1, .int 1), (2, .int (nI a)), (3, .int (nI b))], [.int (ov1 (Int32.toNatClampNeg (nI b)))], wC ov1 un1 (nI n1) dp fa1 cu st fi se th db cn F, 0)) rfl (vp_in_nI (show b < 1332 by omega) (by decide)) ?_
  rw [nI_clamp (show b < 2 ^ 31 by omega)]
  show mm_W _ _ _ _ _ _ _ (49, [(6, .long ((Int32.toInt64 (ov1 a)) * (Int32.toInt64 (un1 b)))), (5, .int 0), (4, .int (nI r)), (0, .ref 1), (1, .int 1), (2, .int (nI a)), (3, .int (nI b))], [.int (ov1 b)], wC ov1 un1 (nI n1) dp fa1 cu st fi se th db cn F, 0)
  refine mm_skip (mm_call_mono _ _) 6 (st' := (58, [(6, .long ((Int32.toInt64 (ov1 a)) * (Int32.toInt64 (un1 b)))), (5, .int 0), (4, .int (nI r)), (0, .ref 1), (1, .int 1), (2, .int (nI a)), (3, .int (nI b))], [.int ((nI a) + 0), .ref 9, .long (Int32.toInt64 (ov1 b))], wC ov1 un1 (nI n1) dp fa1 cu st fi se th db cn F, 0)) rfl ?_
  rw [nI_p0 (a)]
  show mm_W _ _ _ _ _ _ _ (58, [(6, .long ((Int32.toInt64 (ov1 a)) * (Int32.toInt64 (un1 b)))), (5, .int 0), (4, .int (nI r)), (0, .ref 1), (1, .int 1), (2, .int (nI a)), (3, .int (nI b))], [.int (nI a), .ref 9, .long (Int32.toInt64 (ov1 b))], wC ov1 un1 (nI n1) dp fa1 cu st fi se th db cn F, 0)
  refine mm_need (mm_call_mono _ _) (c := vp_in (nI a) 1332) (s' := (59, [(6, .long ((Int32.toInt64 (ov1 a)) * (Int32.toInt64 (un1 b)))), (5, .int 0), (4, .int (nI r)), (0, .ref 1), (1, .int 1), (2, .int (nI a)), (3, .int (nI b))], [.int (un1 (Int32.toNatClampNeg (nI a))), .long (Int32.toInt64 (ov1 b))], wC ov1 un1 (nI n1) dp fa1 cu st fi se th db cn F, 0)) rfl (vp_in_nI (show a < 1332 by omega) (by decide)) ?_
  rw [nI_clamp (show a < 2 ^ 31 by omega)]
  show mm_W _ _ _ _ _ _ _ (59, [(6, .long ((Int32.toInt64 (ov1 a)) * (Int32.toInt64 (un1 b)))), (5, .int 0), (4, .int (nI r)), (0, .ref 1), (1, .int 1), (2, .int (nI a)), (3, .int (nI b))], [.int (un1 a), .long (Int32.toInt64 (ov1 b))], wC ov1 un1 (nI n1) dp fa1 cu st fi se th db cn F, 0)
  refine mm_skip (mm_call_mono _ _) 15 (st' := (82, [(8, .long ((Int32.toInt64 (ov1 b)) * (Int32.toInt64 (un1 a)))), (6, .long ((Int32.toInt64 (ov1 a)) * (Int32.toInt64 (un1 b)))), (5, .int 0), (4, .int (nI r)), (0, .ref 1), (1, .int 1), (2, .int (nI a)), (3, .int (nI b))], [.int ((nI a) + 0), .ref 9, .long (((Int32.toInt64 (ov1 a)) * (Int32.toInt64 (un1 b))) + ((Int32.toInt64 (ov1 b)) * (Int32.toInt64 (un1 a)))), .int ((nI r) + 0), .ref 1], wC ov1 un1 (nI n1) dp fa1 cu st fi se th db cn F, 0)) rfl ?_
  rw [nI_p0 (a)]
  rw [nI_p0 (r)]
  show mm_W _ _ _ _ _ _ _ (82, [(8, .long ((Int32.toInt64 (ov1 b)) * (Int32.toInt64 (un1 a)))), (6, .long ((Int32.toInt64 (ov1 a)) * (Int32.toInt64 (un1 b)))), (5, .int 0), (4, .int (nI r)), (0, .ref 1), (1, .int 1), (2, .int (nI a)), (3, .int (nI b))], [.int (nI a), .ref 9, .long (((Int32.toInt64 (ov1 a)) * (Int32.toInt64 (un1 b))) + ((Int32.toInt64 (ov1 b)) * (Int32.toInt64 (un1 a)))), .int (nI r), .ref 1], wC ov1 un1 (nI n1) dp fa1 cu st fi se th db cn F, 0)
  refine mm_need (mm_call_mono _ _) (c := vp_in (nI a) 1332) (s' := (83, [(8, .long ((Int32.toInt64 (ov1 b)) * (Int32.toInt64 (un1 a)))), (6, .long ((Int32.toInt64 (ov1 a)) * (Int32.toInt64 (un1 b)))), (5, .int 0), (4, .int (nI r)), (0, .ref 1), (1, .int 1), (2, .int (nI a)), (3, .int (nI b))], [.int (un1 (Int32.toNatClampNeg (nI a))), .long (((Int32.toInt64 (ov1 a)) * (Int32.toInt64 (un1 b))) + ((Int32.toInt64 (ov1 b)) * (Int32.toInt64 (un1 a)))), .int (nI r), .ref 1], wC ov1 un1 (nI n1) dp fa1 cu st fi se th db cn F, 0)) rfl (vp_in_nI (show a < 1332 by omega) (by decide)) ?_
  rw [nI_clamp (show a < 2 ^ 31 by omega)]
  show mm_W _ _ _ _ _ _ _ (83, [(8, .long ((Int32.toInt64 (ov1 b)) * (Int32.toInt64 (un1 a)))), (6, .long ((Int32.toInt64 (ov1 a)) * (Int32.toInt64 (un1 b)))), (5, .int 0), (4, .int (nI r)), (0, .ref 1), (1, .int 1), (2, .int (nI a)), (3, .int (nI b))], [.int (un1 a), .long (((Int32.toInt64 (ov1 a)) * (Int32.toInt64 (un1 b))) + ((Int32.toInt64 (ov1 b)) * (Int32.toInt64 (un1 a)))), .int (nI r), .ref 1], wC ov1 un1 (nI n1) dp fa1 cu st fi se th db cn F, 0)
  refine mm_skip (mm_call_mono _ _) 6 (st' := (92, [(8, .long ((Int32.toInt64 (ov1 b)) * (Int32.toInt64 (un1 a)))), (6, .long ((Int32.toInt64 (ov1 a)) * (Int32.toInt64 (un1 b)))), (5, .int 0), (4, .int (nI r)), (0, .ref 1), (1, .int 1), (2, .int (nI a)), (3, .int (nI b))], [.int ((nI b) + 0), .ref 9, .long (Int32.toInt64 (un1 a)), .long (((Int32.toInt64 (ov1 a)) * (Int32.toInt64 (un1 b))) + ((Int32.toInt64 (ov1 b)) * (Int32.toInt64 (un1 a)))), .int (nI r), .ref 1], wC ov1 un1 (nI n1) dp fa1 cu st fi se th db cn F, 0)) rfl ?_
  rw [nI_p0 (b)]
  show mm_W _ _ _ _ _ _ _ (92, [(8, .long ((Int32.toInt64 (ov1 b)) * (Int32.toInt64 (un1 a)))), (6, .long ((Int32.toInt64 (ov1 a)) * (Int32.toInt64 (un1 b)))), (5, .int 0), (4, .int (nI r)), (0, .ref 1), (1, .int 1), (2, .int (nI a)), (3, .int (nI b))], [.int (nI b), .ref 9, .long (Int32.toInt64 (un1 a)), .long (((Int32.toInt64 (ov1 a)) * (Int32.toInt64 (un1 b))) + ((Int32.toInt64 (ov1 b)) * (Int32.toInt64 (un1 a)))), .int (nI r), .ref 1], wC ov1 un1 (nI n1) dp fa1 cu st fi se th db cn F, 0)
  refine mm_need (mm_call_mono _ _) (c := vp_in (nI b) 1332) (s' := (93, [(8, .long ((Int32.toInt64 (ov1 b)) * (Int32.toInt64 (un1 a)))), (6, .long ((Int32.toInt64 (ov1 a)) * (Int32.toInt64 (un1 b)))), (5, .int 0), (4, .int (nI r)), (0, .ref 1), (1, .int 1), (2, .int (nI a)), (3, .int (nI b))], [.int (un1 (Int32.toNatClampNeg (nI b))), .long (Int32.toInt64 (un1 a)), .long (((Int32.toInt64 (ov1 a)) * (Int32.toInt64 (un1 b))) + ((Int32.toInt64 (ov1 b)) * (Int32.toInt64 (un1 a)))), .int (nI r), .ref 1], wC ov1 un1 (nI n1) dp fa1 cu st fi se th db cn F, 0)) rfl (vp_in_nI (show b < 1332 by omega) (by decide)) ?_
  rw [nI_clamp (show b < 2 ^ 31 by omega)]
  show mm_W _ _ _ _ _ _ _ (93, [(8, .long ((Int32.toInt64 (ov1 b)) * (Int32.toInt64 (un1 a)))), (6, .long ((Int32.toInt64 (ov1 a)) * (Int32.toInt64 (un1 b)))), (5, .int 0), (4, .int (nI r)), (0, .ref 1), (1, .int 1), (2, .int (nI a)), (3, .int (nI b))], [.int (un1 b), .long (Int32.toInt64 (un1 a)), .long (((Int32.toInt64 (ov1 a)) * (Int32.toInt64 (un1 b))) + ((Int32.toInt64 (ov1 b)) * (Int32.toInt64 (un1 a)))), .int (nI r), .ref 1], wC ov1 un1 (nI n1) dp fa1 cu st fi se th db cn F, 0)
  refine mm_skip (mm_call_mono _ _) 2 (st' := (95, [(8, .long ((Int32.toInt64 (ov1 b)) * (Int32.toInt64 (un1 a)))), (6, .long ((Int32.toInt64 (ov1 a)) * (Int32.toInt64 (un1 b)))), (5, .int 0), (4, .int (nI r)), (0, .ref 1), (1, .int 1), (2, .int (nI a)), (3, .int (nI b))], [.long ((Int32.toInt64 (un1 a)) * (Int32.toInt64 (un1 b))), .long (((Int32.toInt64 (ov1 a)) * (Int32.toInt64 (un1 b))) + ((Int32.toInt64 (ov1 b)) * (Int32.toInt64 (un1 a)))), .int (nI r), .ref 1], wC ov1 un1 (nI n1) dp fa1 cu st fi se th db cn F, 0)) rfl ?_
  refine mm_inv (mm_call_mono _ _) (j := 139) (a := [.ref 1, .int (nI r), .long (((Int32.toInt64 (ov1 a)) * (Int32.toInt64 (un1 b))) + ((Int32.toInt64 (ov1 b)) * (Int32.toInt64 (un1 a)))), .long ((Int32.toInt64 (un1 a)) * (Int32.toInt64 (un1 b)))]) (M := wC ov1 un1 (nI n1) dp fa1 cu st fi se th db cn F) (u := 0) rfl (by decide) (ct_N_put_add (a := a) (b := b) (c := r) k0.1 (by omega) (fun h => ⟨(arg_v ha k0 h (j := 0) (by omega)).1, (arg_v hb k0 h (j := 0) (by omega)).1, pt_z k0 h (by omega)⟩) (fun ov2 un2 fa2 p1 => ?_))
  show mm_W _ _ _ _ _ _ _ (98, [(8, .long ((Int32.toInt64 (ov1 b)) * (Int32.toInt64 (un1 a)))), (6, .long ((Int32.toInt64 (ov1 a)) * (Int32.toInt64 (un1 b)))), (5, .int 0), (4, .int (nI r)), (0, .ref 1), (1, .int 1), (2, .int (nI a)), (3, .int (nI b))], [], wC ov2 un2 (nI n1) dp fa2 cu st fi se th db cn F, 0)
  have k1 := pt_s (i := 0) k0 (by omega) hr.1 p1 (fun h => by rw [← (arg_v ha k0 h (j := 0) (by omega)).2, ← (arg_v hb k0 h (j := 0) (by omega)).2] <;> rfl)
  refine mm_skip (mm_call_mono _ _) 6 (st' := (14, [(5, .int 1), (8, .long ((Int32.toInt64 (ov1 b)) * (Int32.toInt64 (un1 a)))), (6, .long ((Int32.toInt64 (ov1 a)) * (Int32.toInt64 (un1 b)))), (4, .int (nI r)), (0, .ref 1), (1, .int 1), (2, .int (nI a)), (3, .int (nI b))], [.int 2, .int 1], wC ov2 un2 (nI n1) dp fa2 cu st fi se th db cn F, 0)) rfl ?_
  refine mm_branch (mm_call_mono _ _) (c := (2 : Int32) ≤ 1) (s1 := (104, [(5, .int 1), (8, .long ((Int32.toInt64 (ov1 b)) * (Int32.toInt64 (un1 a)))), (6, .long ((Int32.toInt64 (ov1 a)) * (Int32.toInt64 (un1 b)))), (4, .int (nI r)), (0, .ref 1), (1, .int 1), (2, .int (nI a)), (3, .int (nI b))], [], wC ov2 un2 (nI n1) dp fa2 cu st fi se th db cn F, 0)) (s2 := (17, [(5, .int 1), (8, .long ((Int32.toInt64 (ov1 b)) * (Int32.toInt64 (un1 a)))), (6, .long ((Int32.toInt64 (ov1 a)) * (Int32.toInt64 (un1 b)))), (4, .int (nI r)), (0, .ref 1), (1, .int 1), (2, .int (nI a)), (3, .int (nI b))], [], wC ov2 un2 (nI n1) dp fa2 cu st fi se th db cn F, 0)) rfl (fun h => absurd h (by decide)) (fun _ => ?_)
  refine mm_skip (mm_call_mono _ _) 5 (st' := (25, [(5, .int 1), (8, .long ((Int32.toInt64 (ov1 b)) * (Int32.toInt64 (un1 a)))), (6, .long ((Int32.toInt64 (ov1 a)) * (Int32.toInt64 (un1 b)))), (4, .int (nI r)), (0, .ref 1), (1, .int 1), (2, .int (nI a)), (3, .int (nI b))], [.int ((nI a) + 1), .ref 8], wC ov2 un2 (nI n1) dp fa2 cu st fi se th db cn F, 0)) rfl ?_
  rw [nI_p1 (a)]
  show mm_W _ _ _ _ _ _ _ (25, [(5, .int 1), (8, .long ((Int32.toInt64 (ov1 b)) * (Int32.toInt64 (un1 a)))), (6, .long ((Int32.toInt64 (ov1 a)) * (Int32.toInt64 (un1 b)))), (4, .int (nI r)), (0, .ref 1), (1, .int 1), (2, .int (nI a)), (3, .int (nI b))], [.int (nI (a + 1)), .ref 8], wC ov2 un2 (nI n1) dp fa2 cu st fi se th db cn F, 0)
  refine mm_need (mm_call_mono _ _) (c := vp_in (nI (a + 1)) 1332) (s' := (26, [(5, .int 1), (8, .long ((Int32.toInt64 (ov1 b)) * (Int32.toInt64 (un1 a)))), (6, .long ((Int32.toInt64 (ov1 a)) * (Int32.toInt64 (un1 b)))), (4, .int (nI r)), (0, .ref 1), (1, .int 1), (2, .int (nI a)), (3, .int (nI b))], [.int (ov2 (Int32.toNatClampNeg (nI (a + 1))))], wC ov2 un2 (nI n1) dp fa2 cu st fi se th db cn F, 0)) rfl (vp_in_nI (show (a + 1) < 1332 by omega) (by decide)) ?_
  rw [nI_clamp (show (a + 1) < 2 ^ 31 by omega)]
  show mm_W _ _ _ _ _ _ _ (26, [(5, .int 1), (8, .long ((Int32.toInt64 (ov1 b)) * (Int32.toInt64 (un1 a)))), (6, .long ((Int32.toInt64 (ov1 a)) * (Int32.toInt64 (un1 b)))), (4, .int (nI r)), (0, .ref 1), (1, .int 1), (2, .int (nI a)), (3, .int (nI b))], [.int (ov2 (a + 1))], wC ov2 un2 (nI n1) dp fa2 cu st fi se th db cn F, 0)
  refine mm_skip (mm_call_mono _ _) 6 (st' := (35, [(5, .int 1), (8, .long ((Int32.toInt64 (ov1 b)) * (Int32.toInt64 (un1 a)))), (6, .long ((Int32.toInt64 (ov1 a)) * (Int32.toInt64 (un1 b)))), (4, .int (nI r)), (0, .ref 1), (1, .int 1), (2, .int (nI a)), (3, .int (nI b))], [.int ((nI b) + 1), .ref 9, .long (Int32.toInt64 (ov2 (a + 1)))], wC ov2 un2 (nI n1) dp fa2 cu st fi se th db cn F, 0)) rfl ?_
  rw [nI_p1 (b)]
  show mm_W _ _ _ _ _ _ _ (35, [(5, .int 1), (8, .long ((Int32.toInt64 (ov1 b)) * (Int32.toInt64 (un1 a)))), (6, .long ((Int32.toInt64 (ov1 a)) * (Int32.toInt64 (un1 b)))), (4, .int (nI r)), (0, .ref 1), (1, .int 1), (2, .int (nI a)), (3, .int (nI b))], [.int (nI (b + 1)), .ref 9, .long (Int32.toInt64 (ov2 (a + 1)))], wC ov2 un2 (nI n1) dp fa2 cu st fi se th db cn F, 0)
  refine mm_need (mm_call_mono _ _) (c := vp_in (nI (b + 1)) 1332) (s' := (36, [(5, .int 1), (8, .long ((Int32.toInt64 (ov1 b)) * (Int32.toInt64 (un1 a)))), (6, .long ((Int32.toInt64 (ov1 a)) * (Int32.toInt64 (un1 b)))), (4, .int (nI r)), (0, .ref 1), (1, .int 1), (2, .int (nI a)), (3, .int (nI b))], [.int (un2 (Int32.toNatClampNeg (nI (b + 1)))), .long (Int32.toInt64 (ov2 (a + 1)))], wC ov2 un2 (nI n1) dp fa2 cu st fi se th db cn F, 0)) rfl (vp_in_nI (show (b + 1) < 1332 by omega) (by decide)) ?_
  rw [nI_clamp (show (b + 1) < 2 ^ 31 by omega)]
  show mm_W _ _ _ _ _ _ _ (36, [(5, .int 1), (8, .long ((Int32.toInt64 (ov1 b)) * (Int32.toInt64 (un1 a)))), (6, .long ((Int32.toInt64 (ov1 a)) * (Int32.toInt64 (un1 b)))), (4, .int (nI r)), (0, .ref 1), (1, .int 1), (2, .int (nI a)), (3, .int (nI b))], [.int (un2 (b + 1)), .long (Int32.toInt64 (ov2 (a + 1)))], wC ov2 un2 (nI n1) dp fa2 cu st fi se th db cn F, 0)
  refine mm_skip (mm_call_mono _ _) 8 (st' := (48, [(6, .long ((Int32.toInt64 (ov2 (a + 1))) * (Int32.toInt64 (un2 (b + 1))))), (5, .int 1), (8, .long ((Int32.toInt64 (ov1 b)) * (Int32.toInt64 (un1 a)))), (4, .int (nI r)), (0, .ref 1), (1, .int 1), (2, .int (nI a)), (3, .int (nI b))], [.int ((nI b) + 1), .ref 8], wC ov2 un2 (nI n1) dp fa2 cu st fi se th db cn F, 0)) rfl ?_
  rw [nI_p1 (b)]
  show mm_W _ _ _ _ _ _ _ (48, [(6, .long ((Int32.toInt64 (ov2 (a + 1))) * (Int32.toInt64 (un2 (b + 1))))), (5, .int 1), (8, .long ((Int32.toInt64 (ov1 b)) * (Int32.toInt64 (un1 a)))), (4, .int (nI r)), (0, .ref 1), (1, .int 1), (2, .int (nI a)), (3, .int (nI b))], [.int (nI (b + 1)), .ref 8], wC ov2 un2 (nI n1) dp fa2 cu st fi se th db cn F, 0)
  refine mm_need (mm_call_mono _ _) (c := vp_in (nI (b + 1)) 1332) (s' := (49, [(6, .long ((Int32.toInt64 (ov2 (a + 1))) * (Int32.toInt64 (un2 (b + 1))))), (5, .int 1), (8, .long ((Int32.toInt64 (ov1 b)) * (Int32.toInt64 (un1 a)))), (4, .int (nI r)), (0, .ref 1), (1, .int 1), (2, .int (nI a)), (3, .int (nI b))], [.int (ov2 (Int32.toNatClampNeg (nI (b + 1))))], wC ov2 un2 (nI n1) dp fa2 cu st fi se th db cn F, 0)) rfl (vp_in_nI (show (b + 1) < 1332 by omega) (by decide)) ?_
  rw [nI_clamp (show (b + 1) < 2 ^ 31 by omega)]
  show mm_W _ _ _ _ _ _ _ (49, [(6, .long ((Int32.toInt64 (ov2 (a + 1))) * (Int32.toInt64 (un2 (b + 1))))), (5, .int 1), (8, .long ((Int32.toInt64 (ov1 b)) * (Int32.toInt64 (un1 a)))), (4, .int (nI r)), (0, .ref 1), (1, .int 1), (2, .int (nI a)), (3, .int (nI b))], [.int (ov2 (b + 1))], wC ov2 un2 (nI n1) dp fa2 cu st fi se th db cn F, 0)
  refine mm_skip (mm_call_mono _ _) 6 (st' := (58, [(6, .long ((Int32.toInt64 (ov2 (a + 1))) * (Int32.toInt64 (un2 (b + 1))))), (5, .int 1), (8, .long ((Int32.toInt64 (ov1 b)) * (Int32.toInt64 (un1 a)))), (4, .int (nI r)), (0, .ref 1), (1, .int 1), (2, .int (nI a)), (3, .int (nI b))], [.int ((nI a) + 1), .ref 9, .long (Int32.toInt64 (ov2 (b + 1)))], wC ov2 un2 (nI n1) dp fa2 cu st fi se th db cn F, 0)) rfl ?_
  rw [nI_p1 (a)]
  show mm_W _ _ _ _ _ _ _ (58, [(6, .long ((Int32.toInt64 (ov2 (a + 1))) * (Int32.toInt64 (un2 (b + 1))))), (5, .int 1), (8, .long ((Int32.toInt64 (ov1 b)) * (Int32.toInt64 (un1 a)))), (4, .int (nI r)), (0, .ref 1), (1, .int 1), (2, .int (nI a)), (3, .int (nI b))], [.int (nI (a + 1)), .ref 9, .long (Int32.toInt64 (ov2 (b + 1)))], wC ov2 un2 (nI n1) dp fa2 cu st fi se th db cn F, 0)
  refine mm_need (mm_call_mono _ _) (c := vp_in (nI (a + 1)) 1332) (s' := (59, [(6, .long ((Int32.toInt64 (ov2 (a + 1))) * (Int32.toInt64 (un2 (b + 1))))), (5, .int 1), (8, .long ((Int32.toInt64 (ov1 b)) * (Int32.toInt64 (un1 a)))), (4, .int (nI r)), (0, .ref 1), (1, .int 1), (2, .int (nI a)), (3, .int (nI b))], [.int (un2 (Int32.toNatClampNeg (nI (a + 1)))), .long (Int32.toInt64 (ov2 (b + 1)))], wC ov2 un2 (nI n1) dp fa2 cu st fi se th db cn F, 0)) rfl (vp_in_nI (show (a + 1) < 1332 by omega) (by decide)) ?_
  rw [nI_clamp (show (a + 1) < 2 ^ 31 by omega)]
  show mm_W _ _ _ _ _ _ _ (59, [(6, .long ((Int32.toInt64 (ov2 (a + 1))) * (Int32.toInt64 (un2 (b + 1))))), (5, .int 1), (8, .long ((Int32.toInt64 (ov1 b)) * (Int32.toInt64 (un1 a)))), (4, .int (nI r)), (0, .ref 1), (1, .int 1), (2, .int (nI a)), (3, .int (nI b))], [.int (un2 (a + 1)), .long (Int32.toInt64 (ov2 (b + 1)))], wC ov2 un2 (nI n1) dp fa2 cu st fi se th db cn F, 0)
  refine mm_skip (mm_call_mono _ _) 15 (st' := (82, [(8, .long ((Int32.toInt64 (ov2 (b + 1))) * (Int32.toInt64 (un2 (a + 1))))), (6, .long ((Int32.toInt64 (ov2 (a + 1))) * (Int32.toInt64 (un2 (b + 1))))), (5, .int 1), (4, .int (nI r)), (0, .ref 1), (1, .int 1), (2, .int (nI a)), (3, .int (nI b))], [.int ((nI a) + 1), .ref 9, .long (((Int32.toInt64 (ov2 (a + 1))) * (Int32.toInt64 (un2 (b + 1)))) + ((Int32.toInt64 (ov2 (b + 1))) * (Int32.toInt64 (un2 (a + 1))))), .int ((nI r) + 1), .ref 1], wC ov2 un2 (nI n1) dp fa2 cu st fi se th db cn F, 0)) rfl ?_
  rw [nI_p1 (a)]
  rw [nI_p1 (r)]
  show mm_W _ _ _ _ _ _ _ (82, [(8, .long ((Int32.toInt64 (ov2 (b + 1))) * (Int32.toInt64 (un2 (a + 1))))), (6, .long ((Int32.toInt64 (ov2 (a + 1))) * (Int32.toInt64 (un2 (b + 1))))), (5, .int 1), (4, .int (nI r)), (0, .ref 1), (1, .int 1), (2, .int (nI a)), (3, .int (nI b))], [.int (nI (a + 1)), .ref 9, .long (((Int32.toInt64 (ov2 (a + 1))) * (Int32.toInt64 (un2 (b + 1)))) + ((Int32.toInt64 (ov2 (b + 1))) * (Int32.toInt64 (un2 (a + 1))))), .int (nI (r + 1)), .ref 1], wC ov2 un2 (nI n1) dp fa2 cu st fi se th db cn F, 0)
  refine mm_need (mm_call_mono _ _) (c := vp_in (nI (a + 1)) 1332) (s' := (83, [(8, .long ((Int32.toInt64 (ov2 (b + 1))) * (Int32.toInt64 (un2 (a + 1))))), (6, .long ((Int32.toInt64 (ov2 (a + 1))) * (Int32.toInt64 (un2 (b + 1))))), (5, .int 1), (4, .int (nI r)), (0, .ref 1), (1, .int 1), (2, .int (nI a)), (3, .int (nI b))], [.int (un2 (Int32.toNatClampNeg (nI (a + 1)))), .long (((Int32.toInt64 (ov2 (a + 1))) * (Int32.toInt64 (un2 (b + 1)))) + ((Int32.toInt64 (ov2 (b + 1))) * (Int32.toInt64 (un2 (a + 1))))), .int (nI (r + 1)), .ref 1], wC ov2 un2 (nI n1) dp fa2 cu st fi se th db cn F, 0)) rfl (vp_in_nI (show (a + 1) < 1332 by omega) (by decide)) ?_
  rw [nI_clamp (show (a + 1) < 2 ^ 31 by omega)]
  show mm_W _ _ _ _ _ _ _ (83, [(8, .long ((Int32.toInt64 (ov2 (b + 1))) * (Int32.toInt64 (un2 (a + 1))))), (6, .long ((Int32.toInt64 (ov2 (a + 1))) * (Int32.toInt64 (un2 (b + 1))))), (5, .int 1), (4, .int (nI r)), (0, .ref 1), (1, .int 1), (2, .int (nI a)), (3, .int (nI b))], [.int (un2 (a + 1)), .long (((Int32.toInt64 (ov2 (a + 1))) * (Int32.toInt64 (un2 (b + 1)))) + ((Int32.toInt64 (ov2 (b + 1))) * (Int32.toInt64 (un2 (a + 1))))), .int (nI (r + 1)), .ref 1], wC ov2 un2 (nI n1) dp fa2 cu st fi se th db cn F, 0)
  refine mm_skip (mm_call_mono _ _) 6 (st' := (92, [(8, .long ((Int32.toInt64 (ov2 (b + 1))) * (Int32.toInt64 (un2 (a + 1))))), (6, .long ((Int32.toInt64 (ov2 (a + 1))) * (Int32.toInt64 (un2 (b + 1))))), (5, .int 1), (4, .int (nI r)), (0, .ref 1), (1, .int 1), (2, .int (nI a)), (3, .int (nI b))], [.int ((nI b) + 1), .ref 9, .long (Int32.toInt64 (un2 (a + 1))), .long (((Int32.toInt64 (ov2 (a + 1))) * (Int32.toInt64 (un2 (b + 1)))) + ((Int32.toInt64 (ov2 (b + 1))) * (Int32.toInt64 (un2 (a + 1))))), .int (nI (r + 1)), .ref 1], wC ov2 un2 (nI n1) dp fa2 cu st fi se th db cn F, 0)) rfl ?_
  rw [nI_p1 (b)]
  show mm_W _ _ _ _ _ _ _ (92, [(8, .long ((Int32.toInt64 (ov2 (b + 1))) * (Int32.toInt64 (un2 (a + 1))))), (6, .long ((Int32.toInt64 (ov2 (a + 1))) * (Int32.toInt64 (un2 (b + 1))))), (5, .int 1), (4, .int (nI r)), (0, .ref 1), (1, .int 1), (2, .int (nI a)), (3, .int (nI b))], [.int (nI (b + 1)), .ref 9, .long (Int32.toInt64 (un2 (a + 1))), .long (((Int32.toInt64 (ov2 (a + 1))) * (Int32.toInt64 (un2 (b + 1)))) + ((Int32.toInt64 (ov2 (b + 1))) * (Int32.toInt64 (un2 (a + 1))))), .int (nI (r + 1)), .ref 1], wC ov2 un2 (nI n1) dp fa2 cu st fi se th db cn F, 0)
  refine mm_need (mm_call_mono _ _) (c := vp_in (nI (b + 1)) 1332) (s' := (93, [(8, .long ((Int32.toInt64 (ov2 (b + 1))) * (Int32.toInt64 (un2 (a + 1))))), (6, .long ((Int32.toInt64 (ov2 (a + 1))) * (Int32.toInt64 (un2 (b + 1))))), (5, .int 1), (4, .int (nI r)), (0, .ref 1), (1, .int 1), (2, .int (nI a)), (3, .int (nI b))], [.int (un2 (Int32.toNatClampNeg (nI (b + 1)))), .long (Int32.toInt64 (un2 (a + 1))), .long (((Int32.toInt64 (ov2 (a + 1))) * (Int32.toInt64 (un2 (b + 1)))) + ((Int32.toInt64 (ov2 (b + 1))) * (Int32.toInt64 (un2 (a + 1))))), .int (nI (r + 1)), .ref 1], wC ov2 un2 (nI n1) dp fa2 cu st fi se th db cn F, 0)) rfl (vp_in_nI (show (b + 1) < 1332 by omega) (by decide)) ?_
  rw [nI_clamp (show (b + 1) < 2 ^ 31 by omega)]
  show mm_W _ _ _ _ _ _ _ (93, [(8, .long ((Int32.toInt64 (ov2 (b + 1))) * (Int32.toInt64 (un2 (a + 1))))), (6, .long ((Int32.toInt64 (ov2 (a + 1))) * (Int32.toInt64 (un2 (b + 1))))), (5, .int 1), (4, .int (nI r)), (0, .ref 1), (1, .int 1), (2, .int (nI a)), (3, .int (nI b))], [.int (un2 (b + 1)), .long (Int32.toInt64 (un2 (a + 1))), .long (((Int32.toInt64 (ov2 (a + 1))) * (Int32.toInt64 (un2 (b + 1)))) + ((Int32.toInt64 (ov2 (b + 1))) * (Int32.toInt64 (un2 (a + 1))))), .int (nI (r + 1)), .ref 1], wC ov2 un2 (nI n1) dp fa2 cu st fi se th db cn F, 0)
  refine mm_skip (mm_call_mono _ _) 2 (st' := (95, [(8, .long ((Int32.toInt64 (ov2 (b + 1))) * (Int32.toInt64 (un2 (a + 1))))), (6, .long ((Int32.toInt64 (ov2 (a + 1))) * (Int32.toInt64 (un2 (b + 1))))), (5, .int 1), (4, .int (nI r)), (0, .ref 1), (1, .int 1), (2, .int (nI a)), (3, .int (nI b))], [.long ((Int32.toInt64 (un2 (a + 1))) * (Int32.toInt64 (un2 (b + 1)))), .long (((Int32.toInt64 (ov2 (a + 1))) * (Int32.toInt64 (un2 (b + 1)))) + ((Int32.toInt64 (ov2 (b + 1))) * (Int32.toInt64 (un2 (a + 1))))), .int (nI (r + 1)), .ref 1], wC ov2 un2 (nI n1) dp fa2 cu st fi se th db cn F, 0)) rfl ?_
  refine mm_inv (mm_call_mono _ _) (j := 139) (a := [.ref 1, .int (nI (r + 1)), .long (((Int32.toInt64 (ov2 (a + 1))) * (Int32.toInt64 (un2 (b + 1)))) + ((Int32.toInt64 (ov2 (b + 1))) * (Int32.toInt64 (un2 (a + 1))))), .long ((Int32.toInt64 (un2 (a + 1))) * (Int32.toInt64 (un2 (b + 1))))]) (M := wC ov2 un2 (nI n1) dp fa2 cu st fi se th db cn F) (u := 0) rfl (by decide) (ct_N_put_add (a := a + 1) (b := b + 1) (c := r + 1) k1.1 (by omega) (fun h => ⟨(arg_v ha k1 h (j := 1) (by omega)).1, (arg_v hb k1 h (j := 1) (by omega)).1, pt_z k1 h (by omega)⟩) (fun ov3 un3 fa3 p2 => ?_))
  show mm_W _ _ _ _ _ _ _ (98, [(8, .long ((Int32.toInt64 (ov2 (b + 1))) * (Int32.toInt64 (un2 (a + 1))))), (6, .long ((Int32.toInt64 (ov2 (a + 1))) * (Int32.toInt64 (un2 (b + 1))))), (5, .int 1), (4, .int (nI r)), (0, .ref 1), (1, .int 1), (2, .int (nI a)), (3, .int (nI b))], [], wC ov3 un3 (nI n1) dp fa3 cu st fi se th db cn F, 0)
  have k2 := pt_s (i := 1) k1 (by omega) hr.1 p2 (fun h => by rw [← (arg_v ha k1 h (j := 1) (by omega)).2, ← (arg_v hb k1 h (j := 1) (by omega)).2] <;> rfl)
  refine mm_skip (mm_call_mono _ _) 6 (st' := (14, [(5, .int 2), (8, .long ((Int32.toInt64 (ov2 (b + 1))) * (Int32.toInt64 (un2 (a + 1))))), (6, .long ((Int32.toInt64 (ov2 (a + 1))) * (Int32.toInt64 (un2 (b + 1))))), (4, .int (nI r)), (0, .ref 1), (1, .int 1), (2, .int (nI a)), (3, .int (nI b))], [.int 2, .int 2], wC ov3 un3 (nI n1) dp fa3 cu st fi se th db cn F, 0)) rfl ?_
  refine mm_branch (mm_call_mono _ _) (c := (2 : Int32) ≤ 2) (s1 := (104, [(5, .int 2), (8, .long ((Int32.toInt64 (ov2 (b + 1))) * (Int32.toInt64 (un2 (a + 1))))), (6, .long ((Int32.toInt64 (ov2 (a + 1))) * (Int32.toInt64 (un2 (b + 1))))), (4, .int (nI r)), (0, .ref 1), (1, .int 1), (2, .int (nI a)), (3, .int (nI b))], [], wC ov3 un3 (nI n1) dp fa3 cu st fi se th db cn F, 0)) (s2 := (17, [(5, .int 2), (8, .long ((Int32.toInt64 (ov2 (b + 1))) * (Int32.toInt64 (un2 (a + 1))))), (6, .long ((Int32.toInt64 (ov2 (a + 1))) * (Int32.toInt64 (un2 (b + 1))))), (4, .int (nI r)), (0, .ref 1), (1, .int 1), (2, .int (nI a)), (3, .int (nI b))], [], wC ov3 un3 (nI n1) dp fa3 cu st fi se th db cn F, 0)) rfl (fun _ => ?_) (fun h => absurd (by decide) h)
  refine mm_skip (mm_call_mono _ _) 1 (st' := (106, [(5, .int 2), (8, .long ((Int32.toInt64 (ov2 (b + 1))) * (Int32.toInt64 (un2 (a + 1))))), (6, .long ((Int32.toInt64 (ov2 (a + 1))) * (Int32.toInt64 (un2 (b + 1))))), (4, .int (nI r)), (0, .ref 1), (1, .int 1), (2, .int (nI a)), (3, .int (nI b))], [.int (nI r)], wC ov3 un3 (nI n1) dp fa3 cu st fi se th db cn F, 0)) rfl ?_
  exact mm_ret (mm_call_mono _ _) (c := True) (r := .inl (some (.int (nI r)))) (M := wC ov3 un3 (nI n1) dp fa3 cu st fi se th db cn F) (u := 0) rfl trivial (by decide) (hQ _ _ _ _ _ (by have h9 := op_of (by first | exact Or.inl rfl | exact Or.inr (Or.inl rfl) | exact Or.inr (Or.inr rfl)) ⟨hr.1, hr.2.1⟩ (fun h0 j hj v e => fadd_v ((ha.2 h0).2 j hj) ((hb.2 h0).2 j hj) e) k2; rw [← hr.2.2] at h9; exact h9))

set_option maxRecDepth 100000 in
theorem ct_N_half_1 {d : Nat} {ov un : Nat → Int32} {dp fa : Int32} {cu : mm_cu} {st fi se th db : Nat → Int32} {cn : Int32} {F : mm_M} {n a : Nat} {Q : mm_R → mm_M → Prop} (hfa : mm_z fa) (hn : 308 ≤ n ∧ n ≤ 1332) (ha : arg ov un n fa 2 a) (hQ : ∀ (ov1 un1 : Nat → Int32) (n1 : Nat) (fa1 : Int32) (r : Nat), opR ov un n fa 4 (nhalf 2 (rd ov un a)) ov1 un1 n1 fa1 r → Q (.inl (some (.int (nI r)))) (wC ov1 un1 (nI n1) dp fa1 cu st fi se th db cn F)) : mm_call mm_Tb (d + 2) 144 [.ref 1, .int 1, .int (nI a)] (wC ov un (nI n) dp fa cu st fi se th db cn F) Q := by
  have ha1 := ha.1
  refine mm_in mt_144 (Nat.le_of_ble_eq_true rfl) ?_
  show mm_W _ _ _ _ _ _ _ (0, [(0, .ref 1), (1, .int 1), (2, .int (nI a))], [], wC ov un (nI n) dp fa cu st fi se th db cn F, 0)
  refine mm_skip (mm_call_mono _ _) 1 (st' := (1, [(0, .ref 1), (1, .int 1), (2, .int (nI a))], [.ref 1], wC ov un (nI n) dp fa cu st fi se th db cn F, 0)) rfl ?_
  refine mm_inv (mm_call_mono _ _) (j := 138) (a := [.ref 1]) (M := wC ov un (nI n) dp fa cu st fi se th db cn F) (u := 0) rfl (by decide) (ct_N_reserve hn (fun ov1 un1 n1 fa1 r h0 => ?_))
  show mm_W _ _ _ _ _ _ _ (4, [(0, .ref 1), (1, .int 1), (2, .int (nI a))], [.int (nI r)], wC ov1 un1 (nI n1) dp fa1 cu st fi se th db cn F, 0)
  have hr := res_r h0 hn.1
  have k0 := pt_0 (fun j => fhalf (rd ov un a j)) hfa hn.1 h0
  refine mm_skip (mm_call_mono _ _) 7 (st' := (13, [(4, .int 0), (3, .int (nI r)), (0, .ref 1), (1, .int 1), (2, .int (nI a))], [.int 2, .int 0], wC ov1 un1 (nI n1) dp fa1 cu st fi se th db cn F, 0)) rfl ?_
  refine mm_branch (mm_call_mono _ _) (c := (2 : Int32) ≤ 0) (s1 := (54, [(4, .int 0), (3, .int (nI r)), (0, .ref 1), (1, .int 1), (2, .int (nI a))], [], wC ov1 un1 (nI n1) dp fa1 cu st fi se th db cn F, 0)) (s2 := (16, [(4, .int 0), (3, .int (nI r)), (0, .ref 1), (1, .int 1), (2, .int (nI a))], [], wC ov1 un1 (nI n1) dp fa1 cu st fi se th db cn F, 0)) rfl (fun h => absurd h (by decide)) (fun _ => ?_)
  refine mm_skip (mm_call_mono _ _) 9 (st' := (29, [(4, .int 0), (3, .int (nI r)), (0, .ref 1), (1, .int 1), (2, .int (nI a))], [.int ((nI a) + 0), .ref 8, .int ((nI r) + 0), .ref 1], wC ov1 un1 (nI n1) dp fa1 cu st fi se th db cn F, 0)) rfl ?_
  rw [nI_p0 (a)]
  rw [nI_p0 (r)]
  show mm_W _ _ _ _ _ _ _ (29, [(4, .int 0), (3, .int (nI r)), (0, .ref 1), (1, .int 1), (2, .int (nI a))], [.int (nI a), .ref 8, .int (nI r), .ref 1], wC ov1 un1 (nI n1) dp fa1 cu st fi se th db cn F, 0)
  refine mm_need (mm_call_mono _ _) (c := vp_in (nI a) 1332) (s' := (30, [(4, .int 0), (3, .int (nI r)), (0, .ref 1), (1, .int 1), (2, .int (nI a))], [.int (ov1 (Int32.toNatClampNeg (nI a))), .int (nI r), .ref 1], wC ov1 un1 (nI n1) dp fa1 cu st fi se th db cn F, 0)) rfl (vp_in_nI (show a < 1332 by omega) (by decide)) ?_
  rw [nI_clamp (show a < 2 ^ 31 by omega)]
  show mm_W _ _ _ _ _ _ _ (30, [(4, .int 0), (3, .int (nI r)), (0, .ref 1), (1, .int 1), (2, .int (nI a))], [.int (ov1 a), .int (nI r), .ref 1], wC ov1 un1 (nI n1) dp fa1 cu st fi se th db cn F, 0)
  refine mm_skip (mm_call_mono _ _) 7 (st' := (42, [(4, .int 0), (3, .int (nI r)), (0, .ref 1), (1, .int 1), (2, .int (nI a))], [.int ((nI a) + 0), .ref 9, .long 2, .long (Int32.toInt64 (ov1 a)), .int (nI r), .ref 1], wC ov1 un1 (nI n1) dp fa1 cu st fi se th db cn F, 0)) rfl ?_
  rw [nI_p0 (a)]
  show mm_W _ _ _ _ _ _ _ (42, [(4, .int 0), (3, .int (nI r)), (0, .ref 1), (1, .int 1), (2, .int (nI a))], [.int (nI a), .ref 9, .long 2, .long (Int32.toInt64 (ov1 a)), .int (nI r), .ref 1], wC ov1 un1 (nI n1) dp fa1 cu st fi se th db cn F, 0)
  refine mm_need (mm_call_mono _ _) (c := vp_in (nI a) 1332) (s' := (43, [(4, .int 0), (3, .int (nI r)), (0, .ref 1), (1, .int 1), (2, .int (nI a))], [.int (un1 (Int32.toNatClampNeg (nI a))), .long 2, .long (Int32.toInt64 (ov1 a)), .int (nI r), .ref 1], wC ov1 un1 (nI n1) dp fa1 cu st fi se th db cn F, 0)) rfl (vp_in_nI (show a < 1332 by omega) (by decide)) ?_
  rw [nI_clamp (show a < 2 ^ 31 by omega)]
  show mm_W _ _ _ _ _ _ _ (43, [(4, .int 0), (3, .int (nI r)), (0, .ref 1), (1, .int 1), (2, .int (nI a))], [.int (un1 a), .long 2, .long (Int32.toInt64 (ov1 a)), .int (nI r), .ref 1], wC ov1 un1 (nI n1) dp fa1 cu st fi se th db cn F, 0)
  refine mm_skip (mm_call_mono _ _) 2 (st' := (45, [(4, .int 0), (3, .int (nI r)), (0, .ref 1), (1, .int 1), (2, .int (nI a))], [.long (2 * (Int32.toInt64 (un1 a))), .long (Int32.toInt64 (ov1 a)), .int (nI r), .ref 1], wC ov1 un1 (nI n1) dp fa1 cu st fi se th db cn F, 0)) rfl ?_
  refine mm_inv (mm_call_mono _ _) (j := 139) (a := [.ref 1, .int (nI r), .long (Int32.toInt64 (ov1 a)), .long (2 * (Int32.toInt64 (un1 a)))]) (M := wC ov1 un1 (nI n1) dp fa1 cu st fi se th db cn F) (u := 0) rfl (by decide) (ct_N_put_half (a := a) (c := r) k0.1 (by omega) (fun h => ⟨(arg_v ha k0 h (j := 0) (by omega)).1, pt_z k0 h (by omega)⟩) (fun ov2 un2 fa2 p1 => ?_))
  show mm_W _ _ _ _ _ _ _ (48, [(4, .int 0), (3, .int (nI r)), (0, .ref 1), (1, .int 1), (2, .int (nI a))], [], wC ov2 un2 (nI n1) dp fa2 cu st fi se th db cn F, 0)
  have k1 := pt_s (i := 0) k0 (by omega) hr.1 p1 (fun h => by rw [← (arg_v ha k0 h (j := 0) (by omega)).2] <;> rfl)
  refine mm_skip (mm_call_mono _ _) 6 (st' := (13, [(4, .int 1), (3, .int (nI r)), (0, .ref 1), (1, .int 1), (2, .int (nI a))], [.int 2, .int 1], wC ov2 un2 (nI n1) dp fa2 cu st fi se th db cn F, 0)) rfl ?_
  refine mm_branch (mm_call_mono _ _) (c := (2 : Int32) ≤ 1) (s1 := (54, [(4, .int 1), (3, .int (nI r)), (0, .ref 1), (1, .int 1), (2, .int (nI a))], [], wC ov2 un2 (nI n1) dp fa2 cu st fi se th db cn F, 0)) (s2 := (16, [(4, .int 1), (3, .int (nI r)), (0, .ref 1), (1, .int 1), (2, .int (nI a))], [], wC ov2 un2 (nI n1) dp fa2 cu st fi se th db cn F, 0)) rfl (fun h => absurd h (by decide)) (fun _ => ?_)
  refine mm_skip (mm_call_mono _ _) 9 (st' := (29, [(4, .int 1), (3, .int (nI r)), (0, .ref 1), (1, .int 1), (2, .int (nI a))], [.int ((nI a) + 1), .ref 8, .int ((nI r) + 1), .ref 1], wC ov2 un2 (nI n1) dp fa2 cu st fi se th db cn F, 0)) rfl ?_
  rw [nI_p1 (a)]
  rw [nI_p1 (r)]
  show mm_W _ _ _ _ _ _ _ (29, [(4, .int 1), (3, .int (nI r)), (0, .ref 1), (1, .int 1), (2, .int (nI a))], [.int (nI (a + 1)), .ref 8, .int (nI (r + 1)), .ref 1], wC ov2 un2 (nI n1) dp fa2 cu st fi se th db cn F, 0)
  refine mm_need (mm_call_mono _ _) (c := vp_in (nI (a + 1)) 1332) (s' := (30, [(4, .int 1), (3, .int (nI r)), (0, .ref 1), (1, .int 1), (2, .int (nI a))], [.int (ov2 (Int32.toNatClampNeg (nI (a + 1)))), .int (nI (r + 1)), .ref 1], wC ov2 un2 (nI n1) dp fa2 cu st fi se th db cn F, 0)) rfl (vp_in_nI (show (a + 1) < 1332 by omega) (by decide)) ?_
  rw [nI_clamp (show (a + 1) < 2 ^ 31 by omega)]
  show mm_W _ _ _ _ _ _ _ (30, [(4, .int 1), (3, .int (nI r)), (0, .ref 1), (1, .int 1), (2, .int (nI a))], [.int (ov2 (a + 1)), .int (nI (r + 1)), .ref 1], wC ov2 un2 (nI n1) dp fa2 cu st fi se th db cn F, 0)
  refine mm_skip (mm_call_mono _ _) 7 (st' := (42, [(4, .int 1), (3, .int (nI r)), (0, .ref 1), (1, .int 1), (2, .int (nI a))], [.int ((nI a) + 1), .ref 9, .long 2, .long (Int32.toInt64 (ov2 (a + 1))), .int (nI (r + 1)), .ref 1], wC ov2 un2 (nI n1) dp fa2 cu st fi se th db cn F, 0)) rfl ?_
  rw [nI_p1 (a)]
  show mm_W _ _ _ _ _ _ _ (42, [(4, .int 1), (3, .int (nI r)), (0, .ref 1), (1, .int 1), (2, .int (nI a))], [.int (nI (a + 1)), .ref 9, .long 2, .long (Int32.toInt64 (ov2 (a + 1))), .int (nI (r + 1)), .ref 1], wC ov2 un2 (nI n1) dp fa2 cu st fi se th db cn F, 0)
  refine mm_need (mm_call_mono _ _) (c := vp_in (nI (a + 1)) 1332) (s' := (43, [(4, .int 1), (3, .int (nI r)), (0, .ref 1), (1, .int 1), (2, .int (nI a))], [.int (un2 (Int32.toNatClampNeg (nI (a + 1)))), .long 2, .long (Int32.toInt64 (ov2 (a + 1))), .int (nI (r + 1)), .ref 1], wC ov2 un2 (nI n1) dp fa2 cu st fi se th db cn F, 0)) rfl (vp_in_nI (show (a + 1) < 1332 by omega) (by decide)) ?_
  rw [nI_clamp (show (a + 1) < 2 ^ 31 by omega)]
  show mm_W _ _ _ _ _ _ _ (43, [(4, .int 1), (3, .int (nI r)), (0, .ref 1), (1, .int 1), (2, .int (nI a))], [.int (un2 (a + 1)), .long 2, .long (Int32.toInt64 (ov2 (a + 1))), .int (nI (r + 1)), .ref 1], wC ov2 un2 (nI n1) dp fa2 cu st fi se th db cn F, 0)
  refine mm_skip (mm_call_mono _ _) 2 (st' := (45, [(4, .int 1), (3, .int (nI r)), (0, .ref 1), (1, .int 1), (2, .int (nI a))], [.long (2 * (Int32.toInt64 (un2 (a + 1)))), .long (Int32.toInt64 (ov2 (a + 1))), .int (nI (r + 1)), .ref 1], wC ov2 un2 (nI n1) dp fa2 cu st fi se th db cn F, 0)) rfl ?_
  refine mm_inv (mm_call_mono _ _) (j := 139) (a := [.ref 1, .int (nI (r + 1)), .long (Int32.toInt64 (ov2 (a + 1))), .long (2 * (Int32.toInt64 (un2 (a + 1))))]) (M := wC ov2 un2 (nI n1) dp fa2 cu st fi se th db cn F) (u := 0) rfl (by decide) (ct_N_put_half (a := a + 1) (c := r + 1) k1.1 (by omega) (fun h => ⟨(arg_v ha k1 h (j := 1) (by omega)).1, pt_z k1 h (by omega)⟩) (fun ov3 un3 fa3 p2 => ?_))
  show mm_W _ _ _ _ _ _ _ (48, [(4, .int 1), (3, .int (nI r)), (0, .ref 1), (1, .int 1), (2, .int (nI a))], [], wC ov3 un3 (nI n1) dp fa3 cu st fi se th db cn F, 0)
  have k2 := pt_s (i := 1) k1 (by omega) hr.1 p2 (fun h => by rw [← (arg_v ha k1 h (j := 1) (by omega)).2] <;> rfl)
  refine mm_skip (mm_call_mono _ _) 6 (st' := (13, [(4, .int 2), (3, .int (nI r)), (0, .ref 1), (1, .int 1), (2, .int (nI a))], [.int 2, .int 2], wC ov3 un3 (nI n1) dp fa3 cu st fi se th db cn F, 0)) rfl ?_
  refine mm_branch (mm_call_mono _ _) (c := (2 : Int32) ≤ 2) (s1 := (54, [(4, .int 2), (3, .int (nI r)), (0, .ref 1), (1, .int 1), (2, .int (nI a))], [], wC ov3 un3 (nI n1) dp fa3 cu st fi se th db cn F, 0)) (s2 := (16, [(4, .int 2), (3, .int (nI r)), (0, .ref 1), (1, .int 1), (2, .int (nI a))], [], wC ov3 un3 (nI n1) dp fa3 cu st fi se th db cn F, 0)) rfl (fun _ => ?_) (fun h => absurd (by decide) h)
  refine mm_skip (mm_call_mono _ _) 1 (st' := (55, [(4, .int 2), (3, .int (nI r)), (0, .ref 1), (1, .int 1), (2, .int (nI a))], [.int (nI r)], wC ov3 un3 (nI n1) dp fa3 cu st fi se th db cn F, 0)) rfl ?_
  exact mm_ret (mm_call_mono _ _) (c := True) (r := .inl (some (.int (nI r)))) (M := wC ov3 un3 (nI n1) dp fa3 cu st fi se th db cn F) (u := 0) rfl trivial (by decide) (hQ _ _ _ _ _ (by have h9 := op_of (by first | exact Or.inl rfl | exact Or.inr (Or.inl rfl) | exact Or.inr (Or.inr rfl)) ⟨hr.1, hr.2.1⟩ (fun h0 j hj v e => fhalf_v ((ha.2 h0).2 j hj) e) k2; rw [← hr.2.2] at h9; exact h9))

set_option maxRecDepth 100000 in
theorem ct_N_sum_2 {d : Nat} {ov un : Nat → Int32} {dp fa : Int32} {cu : mm_cu} {st fi se th db : Nat → Int32} {cn : Int32} {F : mm_M} {n a b : Nat} {Q : mm_R → mm_M → Prop} (hfa : mm_z fa) (hn : 308 ≤ n ∧ n ≤ 1332) (ha : arg ov un n fa 4 a) (hb : arg ov un n fa 4 b) (hQ : ∀ (ov1 un1 : Nat → Int32) (n1 : Nat) (fa1 : Int32) (r : Nat), opR ov un n fa 4 (nadd 4 (rd ov un a) (rd ov un b)) ov1 un1 n1 fa1 r → Q (.inl (some (.int (nI r)))) (wC ov1 un1 (nI n1) dp fa1 cu st fi se th db cn F)) : mm_call mm_Tb (d + 2) 142 [.ref 1, .int 2, .int (nI a), .int (nI b)] (wC ov un (nI n) dp fa cu st fi se th db cn F) Q := by
  have ha1 := ha.1
  have hb1 := hb.1
  refine mm_in mt_142 (Nat.le_of_ble_eq_true rfl) ?_
  show mm_W _ _ _ _ _ _ _ (0, [(0, .ref 1), (1, .int 2), (2, .int (nI a)), (3, .int (nI b))], [], wC ov un (nI n) dp fa cu st fi se th db cn F, 0)
  refine mm_skip (mm_call_mono _ _) 1 (st' := (1, [(0, .ref 1), (1, .int 2), (2, .int (nI a)), (3, .int (nI b))], [.ref 1], wC ov un (nI n) dp fa cu st fi se th db cn F, 0)) rfl ?_
  refine mm_inv (mm_call_mono _ _) (j := 138) (a := [.ref 1]) (M := wC ov un (nI n) dp fa cu st fi se th db cn F) (u := 0) rfl (by decide) (ct_N_reserve hn (fun ov1 un1 n1 fa1 r h0 => ?_))
  show mm_W _ _ _ _ _ _ _ (4, [(0, .ref 1), (1, .int 2), (2, .int (nI a)), (3, .int (nI b))], [.int (nI r)], wC ov1 un1 (nI n1) dp fa1 cu st fi se th db cn F, 0)
  have hr := res_r h0 hn.1
  have k0 := pt_0 (fun j => fadd (rd ov un a j) (rd ov un b j)) hfa hn.1 h0
  refine mm_skip (mm_call_mono _ _) 7 (st' := (14, [(5, .int 0), (4, .int (nI r)), (0, .ref 1), (1, .int 2), (2, .int (nI a)), (3, .int (nI b))], [.int 4, .int 0], wC ov1 un1 (nI n1) dp fa1 cu st fi se th db cn F, 0)) rfl ?_
  refine mm_branch (mm_call_mono _ _) (c := (4 : Int32) ≤ 0) (s1 := (104, [(5, .int 0), (4, .int (nI r)), (0, .ref 1), (1, .int 2), (2, .int (nI a)), (3, .int (nI b))], [], wC ov1 un1 (nI n1) dp fa1 cu st fi se th db cn F, 0)) (s2 := (17, [(5, .int 0), (4, .int (nI r)), (0, .ref 1), (1, .int 2), (2, .int (nI a)), (3, .int (nI b))], [], wC ov1 un1 (nI n1) dp fa1 cu st fi se th db cn F, 0)) rfl (fun h => absurd h (by decide)) (fun _ => ?_)
  refine mm_skip (mm_call_mono _ _) 5 (st' := (25, [(5, .int 0), (4, .int (nI r)), (0, .ref 1), (1, .int 2), (2, .int (nI a)), (3, .int (nI b))], [.int ((nI a) + 0), .ref 8], wC ov1 un1 (nI n1) dp fa1 cu st fi se th db cn F, 0)) rfl ?_
  rw [nI_p0 (a)]
  show mm_W _ _ _ _ _ _ _ (25, [(5, .int 0), (4, .int (nI r)), (0, .ref 1), (1, .int 2), (2, .int (nI a)), (3, .int (nI b))], [.int (nI a), .ref 8], wC ov1 un1 (nI n1) dp fa1 cu st fi se th db cn F, 0)
  refine mm_need (mm_call_mono _ _) (c := vp_in (nI a) 1332) (s' := (26, [(5, .int 0), (4, .int (nI r)), (0, .ref 1), (1, .int 2), (2, .int (nI a)), (3, .int (nI b))], [.int (ov1 (Int32.toNatClampNeg (nI a)))], wC ov1 un1 (nI n1) dp fa1 cu st fi se th db cn F, 0)) rfl (vp_in_nI (show a < 1332 by omega) (by decide)) ?_
  rw [nI_clamp (show a < 2 ^ 31 by omega)]
  show mm_W _ _ _ _ _ _ _ (26, [(5, .int 0), (4, .int (nI r)), (0, .ref 1), (1, .int 2), (2, .int (nI a)), (3, .int (nI b))], [.int (ov1 a)], wC ov1 un1 (nI n1) dp fa1 cu st fi se th db cn F, 0)
  refine mm_skip (mm_call_mono _ _) 6 (st' := (35, [(5, .int 0), (4, .int (nI r)), (0, .ref 1), (1, .int 2), (2, .int (nI a)), (3, .int (nI b))], [.int ((nI b) + 0), .ref 9, .long (Int32.toInt64 (ov1 a))], wC ov1 un1 (nI n1) dp fa1 cu st fi se th db cn F, 0)) rfl ?_
  rw [nI_p0 (b)]
  show mm_W _ _ _ _ _ _ _ (35, [(5, .int 0), (4, .int (nI r)), (0, .ref 1), (1, .int 2), (2, .int (nI a)), (3, .int (nI b))], [.int (nI b), .ref 9, .long (Int32.toInt64 (ov1 a))], wC ov1 un1 (nI n1) dp fa1 cu st fi se th db cn F, 0)
  refine mm_need (mm_call_mono _ _) (c := vp_in (nI b) 1332) (s' := (36, [(5, .int 0), (4, .int (nI r)), (0, .ref 1), (1, .int 2), (2, .int (nI a)), (3, .int (nI b))], [.int (un1 (Int32.toNatClampNeg (nI b))), .long (Int32.toInt64 (ov1 a))], wC ov1 un1 (nI n1) dp fa1 cu st fi se th db cn F, 0)) rfl (vp_in_nI (show b < 1332 by omega) (by decide)) ?_
  rw [nI_clamp (show b < 2 ^ 31 by omega)]
  show mm_W _ _ _ _ _ _ _ (36, [(5, .int 0), (4, .int (nI r)), (0, .ref 1), (1, .int 2), (2, .int (nI a)), (3, .int (nI b))], [.int (un1 b), .long (Int32.toInt64 (ov1 a))], wC ov1 un1 (nI n1) dp fa1 cu st fi se th db cn F, 0)
  refine mm_skip (mm_call_mono _ _) 8 (st' := (48, [(6, .long ((Int32.toInt64 (ov1 a)) * (Int32.toInt64 (un1 b)))), (5, .int 0), (4, .int (nI r)), (0, .ref 1), (1, .int 2), (2, .int (nI a)), (3, .int (nI b))], [.int ((nI b) + 0), .ref 8], wC ov1 un1 (nI n1) dp fa1 cu st fi se th db cn F, 0)) rfl ?_
  rw [nI_p0 (b)]
  show mm_W _ _ _ _ _ _ _ (48, [(6, .long ((Int32.toInt64 (ov1 a)) * (Int32.toInt64 (un1 b)))), (5, .int 0), (4, .int (nI r)), (0, .ref 1), (1, .int 2), (2, .int (nI a)), (3, .int (nI b))], [.int (nI b), .ref 8], wC ov1 un1 (nI n1) dp fa1 cu st fi se th db cn F, 0)
  refine mm_need (mm_call_mono _ _) (c := vp_in (nI b) 1332) (s' := (49, [(6, .long ((Int32.toInt64 (ov1 a)) * (Int32.toInt64 (un1 b)))), (5, .int 0), (4, .int (nI r)), (0, .ref 1), (1, .int 2), (2, .int (nI a)), (3, .int (nI b))], [.int (ov1 (Int32.toNatClampNeg (nI b)))], wC ov1 un1 (nI n1) dp fa1 cu st fi se th db cn F, 0)) rfl (vp_in_nI (show b < 1332 by omega) (by decide)) ?_
  rw [nI_clamp (show b < 2 ^ 31 by omega)]
  show mm_W _ _ _ _ _ _ _ (49, [(6, .long ((Int32.toInt64 (ov1 a)) * (Int32.toInt64 (un1 b)))), (5, .int 0), (4, .int (nI r)), (0, .ref 1), (1, .int 2), (2, .int (nI a)), (3, .int (nI b))], [.int (ov1 b)], wC ov1 un1 (nI n1) dp fa1 cu st fi se th db cn F, 0)
  refine mm_skip (mm_call_mono _ _) 6 (st' := (58, [(6, .long ((Int32.toInt64 (ov1 a)) * (Int32.toInt64 (un1 b)))), (5, .int 0), (4, .int (nI r)), (0, .ref 1), (1, .int 2), (2, .int (nI a)), (3, .int (nI b))], [.int ((nI a) + 0), .ref 9, .long (Int32.toInt64 (ov1 b))], wC ov1 un1 (nI n1) dp fa1 cu st fi se th db cn F, 0)) rfl ?_
  rw [nI_p0 (a)]
  show mm_W _ _ _ _ _ _ _ (58, [(6, .long ((Int32.toInt64 (ov1 a)) * (Int32.toInt64 (un1 b)))), (5, .int 0), (4, .int (nI r)), (0, .ref 1), (1, .int 2), (2, .int (nI a)), (3, .int (nI b))], [.int (nI a), .ref 9, .long (Int32.toInt64 (ov1 b))], wC ov1 un1 (nI n1) dp fa1 cu st fi se th db cn F, 0)
  refine mm_need (mm_call_mono _ _) (c := vp_in (nI a) 1332) (s' := (59, [(6, .long ((Int32.toInt64 (ov1 a)) * (Int32.toInt64 (un1 b)))), (5, .int 0), (4, .int (nI r)), (0, .ref 1), (1, .int 2), (2, .int (nI a)), (3, .int (nI b))], [.int (un1 (Int32.toNatClampNeg (nI a))), .long (Int32.toInt64 (ov1 b))], wC ov1 un1 (nI n1) dp fa1 cu st fi se th db cn F, 0)) rfl (vp_in_nI (show a < 1332 by omega) (by decide)) ?_
  rw [nI_clamp (show a < 2 ^ 31 by omega)]
  show mm_W _ _ _ _ _ _ _ (59, [(6, .long ((Int32.toInt64 (ov1 a)) * (Int32.toInt64 (un1 b)))), (5, .int 0), (4, .int (nI r)), (0, .ref 1), (1, .int 2), (2, .int (nI a)), (3, .int (nI b))], [.int (un1 a), .long (Int32.toInt64 (ov1 b))], wC ov1 un1 (nI n1) dp fa1 cu st fi se th db cn F, 0)
  refine mm_skip (mm_call_mono _ _) 15 (st' := (82, [(8, .long ((Int32.toInt64 (ov1 b)) * (Int32.toInt64 (un1 a)))), (6, .long ((Int32.toInt64 (ov1 a)) * (Int32.toInt64 (un1 b)))), (5, .int 0), (4, .int (nI r)), (0, .ref 1), (1, .int 2), (2, .int (nI a)), (3, .int (nI b))], [.int ((nI a) + 0), .ref 9, .long (((Int32.toInt64 (ov1 a)) * (Int32.toInt64 (un1 b))) + ((Int32.toInt64 (ov1 b)) * (Int32.toInt64 (un1 a)))), .int ((nI r) + 0), .ref 1], wC ov1 un1 (nI n1) dp fa1 cu st fi se th db cn F, 0)) rfl ?_
  rw [nI_p0 (a)]
  rw [nI_p0 (r)]
  show mm_W _ _ _ _ _ _ _ (82, [(8, .long ((Int32.toInt64 (ov1 b)) * (Int32.toInt64 (un1 a)))), (6, .long ((Int32.toInt64 (ov1 a)) * (Int32.toInt64 (un1 b)))), (5, .int 0), (4, .int (nI r)), (0, .ref 1), (1, .int 2), (2, .int (nI a)), (3, .int (nI b))], [.int (nI a), .ref 9, .long (((Int32.toInt64 (ov1 a)) * (Int32.toInt64 (un1 b))) + ((Int32.toInt64 (ov1 b)) * (Int32.toInt64 (un1 a)))), .int (nI r), .ref 1], wC ov1 un1 (nI n1) dp fa1 cu st fi se th db cn F, 0)
  refine mm_need (mm_call_mono _ _) (c := vp_in (nI a) 1332) (s' := (83, [(8, .long ((Int32.toInt64 (ov1 b)) * (Int32.toInt64 (un1 a)))), (6, .long ((Int32.toInt64 (ov1 a)) * (Int32.toInt64 (un1 b)))), (5, .int 0), (4, .int (nI r)), (0, .ref 1), (1, .int 2), (2, .int (nI a)), (3, .int (nI b))], [.int (un1 (Int32.toNatClampNeg (nI a))), .long (((Int32.toInt64 (ov1 a)) * (Int32.toInt64 (un1 b))) + ((Int32.toInt64 (ov1 b)) * (Int32.toInt64 (un1 a)))), .int (nI r), .ref 1], wC ov1 un1 (nI n1) dp fa1 cu st fi se th db cn F, 0)) rfl (vp_in_nI (show a < 1332 by omega) (by decide)) ?_
  rw [nI_clamp (show a < 2 ^ 31 by omega)]
  show mm_W _ _ _ _ _ _ _ (83, [(8, .long ((Int32.toInt64 (ov1 b)) * (Int32.toInt64 (un1 a)))), (6, .long ((Int32.toInt64 (ov1 a)) * (Int32.toInt64 (un1 b)))), (5, .int 0), (4, .int (nI r)), (0, .ref 1), (1, .int 2), (2, .int (nI a)), (3, .int (nI b))], [.int (un1 a), .long (((Int32.toInt64 (ov1 a)) * (Int32.toInt64 (un1 b))) + ((Int32.toInt64 (ov1 b)) * (Int32.toInt64 (un1 a)))), .int (nI r), .ref 1], wC ov1 un1 (nI n1) dp fa1 cu st fi se th db cn F, 0)
  refine mm_skip (mm_call_mono _ _) 6 (st' := (92, [(8, .long ((Int32.toInt64 (ov1 b)) * (Int32.toInt64 (un1 a)))), (6, .long ((Int32.toInt64 (ov1 a)) * (Int32.toInt64 (un1 b)))), (5, .int 0), (4, .int (nI r)), (0, .ref 1), (1, .int 2), (2, .int (nI a)), (3, .int (nI b))], [.int ((nI b) + 0), .ref 9, .long (Int32.toInt64 (un1 a)), .long (((Int32.toInt64 (ov1 a)) * (Int32.toInt64 (un1 b))) + ((Int32.toInt64 (ov1 b)) * (Int32.toInt64 (un1 a)))), .int (nI r), .ref 1], wC ov1 un1 (nI n1) dp fa1 cu st fi se th db cn F, 0)) rfl ?_
  rw [nI_p0 (b)]
  show mm_W _ _ _ _ _ _ _ (92, [(8, .long ((Int32.toInt64 (ov1 b)) * (Int32.toInt64 (un1 a)))), (6, .long ((Int32.toInt64 (ov1 a)) * (Int32.toInt64 (un1 b)))), (5, .int 0), (4, .int (nI r)), (0, .ref 1), (1, .int 2), (2, .int (nI a)), (3, .int (nI b))], [.int (nI b), .ref 9, .long (Int32.toInt64 (un1 a)), .long (((Int32.toInt64 (ov1 a)) * (Int32.toInt64 (un1 b))) + ((Int32.toInt64 (ov1 b)) * (Int32.toInt64 (un1 a)))), .int (nI r), .ref 1], wC ov1 un1 (nI n1) dp fa1 cu st fi se th db cn F, 0)
  refine mm_need (mm_call_mono _ _) (c := vp_in (nI b) 1332) (s' := (93, [(8, .long ((Int32.toInt64 (ov1 b)) * (Int32.toInt64 (un1 a)))), (6, .long ((Int32.toInt64 (ov1 a)) * (Int32.toInt64 (un1 b)))), (5, .int 0), (4, .int (nI r)), (0, .ref 1), (1, .int 2), (2, .int (nI a)), (3, .int (nI b))], [.int (un1 (Int32.toNatClampNeg (nI b))), .long (Int32.toInt64 (un1 a)), .long (((Int32.toInt64 (ov1 a)) * (Int32.toInt64 (un1 b))) + ((Int32.toInt64 (ov1 b)) * (Int32.toInt64 (un1 a)))), .int (nI r), .ref 1], wC ov1 un1 (nI n1) dp fa1 cu st fi se th db cn F, 0)) rfl (vp_in_nI (show b < 1332 by omega) (by decide)) ?_
  rw [nI_clamp (show b < 2 ^ 31 by omega)]
  show mm_W _ _ _ _ _ _ _ (93, [(8, .long ((Int32.toInt64 (ov1 b)) * (Int32.toInt64 (un1 a)))), (6, .long ((Int32.toInt64 (ov1 a)) * (Int32.toInt64 (un1 b)))), (5, .int 0), (4, .int (nI r)), (0, .ref 1), (1, .int 2), (2, .int (nI a)), (3, .int (nI b))], [.int (un1 b), .long (Int32.toInt64 (un1 a)), .long (((Int32.toInt64 (ov1 a)) * (Int32.toInt64 (un1 b))) + ((Int32.toInt64 (ov1 b)) * (Int32.toInt64 (un1 a)))), .int (nI r), .ref 1], wC ov1 un1 (nI n1) dp fa1 cu st fi se th db cn F, 0)
  refine mm_skip (mm_call_mono _ _) 2 (st' := (95, [(8, .long ((Int32.toInt64 (ov1 b)) * (Int32.toInt64 (un1 a)))), (6, .long ((Int32.toInt64 (ov1 a)) * (Int32.toInt64 (un1 b)))), (5, .int 0), (4, .int (nI r)), (0, .ref 1), (1, .int 2), (2, .int (nI a)), (3, .int (nI b))], [.long ((Int32.toInt64 (un1 a)) * (Int32.toInt64 (un1 b))), .long (((Int32.toInt64 (ov1 a)) * (Int32.toInt64 (un1 b))) + ((Int32.toInt64 (ov1 b)) * (Int32.toInt64 (un1 a)))), .int (nI r), .ref 1], wC ov1 un1 (nI n1) dp fa1 cu st fi se th db cn F, 0)) rfl ?_
  refine mm_inv (mm_call_mono _ _) (j := 139) (a := [.ref 1, .int (nI r), .long (((Int32.toInt64 (ov1 a)) * (Int32.toInt64 (un1 b))) + ((Int32.toInt64 (ov1 b)) * (Int32.toInt64 (un1 a)))), .long ((Int32.toInt64 (un1 a)) * (Int32.toInt64 (un1 b)))]) (M := wC ov1 un1 (nI n1) dp fa1 cu st fi se th db cn F) (u := 0) rfl (by decide) (ct_N_put_add (a := a) (b := b) (c := r) k0.1 (by omega) (fun h => ⟨(arg_v ha k0 h (j := 0) (by omega)).1, (arg_v hb k0 h (j := 0) (by omega)).1, pt_z k0 h (by omega)⟩) (fun ov2 un2 fa2 p1 => ?_))
  show mm_W _ _ _ _ _ _ _ (98, [(8, .long ((Int32.toInt64 (ov1 b)) * (Int32.toInt64 (un1 a)))), (6, .long ((Int32.toInt64 (ov1 a)) * (Int32.toInt64 (un1 b)))), (5, .int 0), (4, .int (nI r)), (0, .ref 1), (1, .int 2), (2, .int (nI a)), (3, .int (nI b))], [], wC ov2 un2 (nI n1) dp fa2 cu st fi se th db cn F, 0)
  have k1 := pt_s (i := 0) k0 (by omega) hr.1 p1 (fun h => by rw [← (arg_v ha k0 h (j := 0) (by omega)).2, ← (arg_v hb k0 h (j := 0) (by omega)).2] <;> rfl)
  refine mm_skip (mm_call_mono _ _) 6 (st' := (14, [(5, .int 1), (8, .long ((Int32.toInt64 (ov1 b)) * (Int32.toInt64 (un1 a)))), (6, .long ((Int32.toInt64 (ov1 a)) * (Int32.toInt64 (un1 b)))), (4, .int (nI r)), (0, .ref 1), (1, .int 2), (2, .int (nI a)), (3, .int (nI b))], [.int 4, .int 1], wC ov2 un2 (nI n1) dp fa2 cu st fi se th db cn F, 0)) rfl ?_
  refine mm_branch (mm_call_mono _ _) (c := (4 : Int32) ≤ 1) (s1 := (104, [(5, .int 1), (8, .long ((Int32.toInt64 (ov1 b)) * (Int32.toInt64 (un1 a)))), (6, .long ((Int32.toInt64 (ov1 a)) * (Int32.toInt64 (un1 b)))), (4, .int (nI r)), (0, .ref 1), (1, .int 2), (2, .int (nI a)), (3, .int (nI b))], [], wC ov2 un2 (nI n1) dp fa2 cu st fi se th db cn F, 0)) (s2 := (17, [(5, .int 1), (8, .long ((Int32.toInt64 (ov1 b)) * (Int32.toInt64 (un1 a)))), (6, .long ((Int32.toInt64 (ov1 a)) * (Int32.toInt64 (un1 b)))), (4, .int (nI r)), (0, .ref 1), (1, .int 2), (2, .int (nI a)), (3, .int (nI b))], [], wC ov2 un2 (nI n1) dp fa2 cu st fi se th db cn F, 0)) rfl (fun h => absurd h (by decide)) (fun _ => ?_)
  refine mm_skip (mm_call_mono _ _) 5 (st' := (25, [(5, .int 1), (8, .long ((Int32.toInt64 (ov1 b)) * (Int32.toInt64 (un1 a)))), (6, .long ((Int32.toInt64 (ov1 a)) * (Int32.toInt64 (un1 b)))), (4, .int (nI r)), (0, .ref 1), (1, .int 2), (2, .int (nI a)), (3, .int (nI b))], [.int ((nI a) + 1), .ref 8], wC ov2 un2 (nI n1) dp fa2 cu st fi se th db cn F, 0)) rfl ?_
  rw [nI_p1 (a)]
  show mm_W _ _ _ _ _ _ _ (25, [(5, .int 1), (8, .long ((Int32.toInt64 (ov1 b)) * (Int32.toInt64 (un1 a)))), (6, .long ((Int32.toInt64 (ov1 a)) * (Int32.toInt64 (un1 b)))), (4, .int (nI r)), (0, .ref 1), (1, .int 2), (2, .int (nI a)), (3, .int (nI b))], [.int (nI (a + 1)), .ref 8], wC ov2 un2 (nI n1) dp fa2 cu st fi se th db cn F, 0)
  refine mm_need (mm_call_mono _ _) (c := vp_in (nI (a + 1)) 1332) (s' := (26, [(5, .int 1), (8, .long ((Int32.toInt64 (ov1 b)) * (Int32.toInt64 (un1 a)))), (6, .long ((Int32.toInt64 (ov1 a)) * (Int32.toInt64 (un1 b)))), (4, .int (nI r)), (0, .ref 1), (1, .int 2), (2, .int (nI a)), (3, .int (nI b))], [.int (ov2 (Int32.toNatClampNeg (nI (a + 1))))], wC ov2 un2 (nI n1) dp fa2 cu st fi se th db cn F, 0)) rfl (vp_in_nI (show (a + 1) < 1332 by omega) (by decide)) ?_
  rw [nI_clamp (show (a + 1) < 2 ^ 31 by omega)]
  show mm_W _ _ _ _ _ _ _ (26, [(5, .int 1), (8, .long ((Int32.toInt64 (ov1 b)) * (Int32.toInt64 (un1 a)))), (6, .long ((Int32.toInt64 (ov1 a)) * (Int32.toInt64 (un1 b)))), (4, .int (nI r)), (0, .ref 1), (1, .int 2), (2, .int (nI a)), (3, .int (nI b))], [.int (ov2 (a + 1))], wC ov2 un2 (nI n1) dp fa2 cu st fi se th db cn F, 0)
  refine mm_skip (mm_call_mono _ _) 6 (st' := (35, [(5, .int 1), (8, .long ((Int32.toInt64 (ov1 b)) * (Int32.toInt64 (un1 a)))), (6, .long ((Int32.toInt64 (ov1 a)) * (Int32.toInt64 (un1 b)))), (4, .int (nI r)), (0, .ref 1), (1, .int 2), (2, .int (nI a)), (3, .int (nI b))], [.int ((nI b) + 1), .ref 9, .long (Int32.toInt64 (ov2 (a + 1)))], wC ov2 un2 (nI n1) dp fa2 cu st fi se th db cn F, 0)) rfl ?_
  rw [nI_p1 (b)]
  show mm_W _ _ _ _ _ _ _ (35, [(5, .int 1), (8, .long ((Int32.toInt64 (ov1 b)) * (Int32.toInt64 (un1 a)))), (6, .long ((Int32.toInt64 (ov1 a)) * (Int32.toInt64 (un1 b)))), (4, .int (nI r)), (0, .ref 1), (1, .int 2), (2, .int (nI a)), (3, .int (nI b))], [.int (nI (b + 1)), .ref 9, .long (Int32.toInt64 (ov2 (a + 1)))], wC ov2 un2 (nI n1) dp fa2 cu st fi se th db cn F, 0)
  refine mm_need (mm_call_mono _ _) (c := vp_in (nI (b + 1)) 1332) (s' := (36, [(5, .int 1), (8, .long ((Int32.toInt64 (ov1 b)) * (Int32.toInt64 (un1 a)))), (6, .long ((Int32.toInt64 (ov1 a)) * (Int32.toInt64 (un1 b)))), (4, .int (nI r)), (0, .ref 1), (1, .int 2), (2, .int (nI a)), (3, .int (nI b))], [.int (un2 (Int32.toNatClampNeg (nI (b + 1)))), .long (Int32.toInt64 (ov2 (a + 1)))], wC ov2 un2 (nI n1) dp fa2 cu st fi se th db cn F, 0)) rfl (vp_in_nI (show (b + 1) < 1332 by omega) (by decide)) ?_
  rw [nI_clamp (show (b + 1) < 2 ^ 31 by omega)]
  show mm_W _ _ _ _ _ _ _ (36, [(5, .int 1), (8, .long ((Int32.toInt64 (ov1 b)) * (Int32.toInt64 (un1 a)))), (6, .long ((Int32.toInt64 (ov1 a)) * (Int32.toInt64 (un1 b)))), (4, .int (nI r)), (0, .ref 1), (1, .int 2), (2, .int (nI a)), (3, .int (nI b))], [.int (un2 (b + 1)), .long (Int32.toInt64 (ov2 (a + 1)))], wC ov2 un2 (nI n1) dp fa2 cu st fi se th db cn F, 0)
  refine mm_skip (mm_call_mono _ _) 8 (st' := (48, [(6, .long ((Int32.toInt64 (ov2 (a + 1))) * (Int32.toInt64 (un2 (b + 1))))), (5, .int 1), (8, .long ((Int32.toInt64 (ov1 b)) * (Int32.toInt64 (un1 a)))), (4, .int (nI r)), (0, .ref 1), (1, .int 2), (2, .int (nI a)), (3, .int (nI b))], [.int ((nI b) + 1), .ref 8], wC ov2 un2 (nI n1) dp fa2 cu st fi se th db cn F, 0)) rfl ?_
  rw [nI_p1 (b)]
  show mm_W _ _ _ _ _ _ _ (48, [(6, .long ((Int32.toInt64 (ov2 (a + 1))) * (Int32.toInt64 (un2 (b + 1))))), (5, .int 1), (8, .long ((Int32.toInt64 (ov1 b)) * (Int32.toInt64 (un1 a)))), (4, .int (nI r)), (0, .ref 1), (1, .int 2), (2, .int (nI a)), (3, .int (nI b))], [.int (nI (b + 1)), .ref 8], wC ov2 un2 (nI n1) dp fa2 cu st fi se th db cn F, 0)
  refine mm_need (mm_call_mono _ _) (c := vp_in (nI (b + 1)) 1332) (s' := (49, [(6, .long ((Int32.toInt64 (ov2 (a + 1))) * (Int32.toInt64 (un2 (b + 1))))), (5, .int 1), (8, .long ((Int32.toInt64 (ov1 b)) * (Int32.toInt64 (un1 a)))), (4, .int (nI r)), (0, .ref 1), (1, .int 2), (2, .int (nI a)), (3, .int (nI b))], [.int (ov2 (Int32.toNatClampNeg (nI (b + 1))))], wC ov2 un2 (nI n1) dp fa2 cu st fi se th db cn F, 0)) rfl (vp_in_nI (show (b + 1) < 1332 by omega) (by decide)) ?_
  rw [nI_clamp (show (b + 1) < 2 ^ 31 by omega)]
  show mm_W _ _ _ _ _ _ _ (49, [(6, .long ((Int32.toInt64 (ov2 (a + 1))) * (Int32.toInt64 (un2 (b + 1))))), (5, .int 1), (8, .long ((Int32.toInt64 (ov1 b)) * (Int32.toInt64 (un1 a)))), (4, .int (nI r)), (0, .ref 1), (1, .int 2), (2, .int (nI a)), (3, .int (nI b))], [.int (ov2 (b + 1))], wC ov2 un2 (nI n1) dp fa2 cu st fi se th db cn F, 0)
  refine mm_skip (mm_call_mono _ _) 6 (st' := (58, [(6, .long ((Int32.toInt64 (ov2 (a + 1))) * (Int32.toInt64 (un2 (b + 1))))), (5, .int 1), (8, .long ((Int32.toInt64 (ov1 b)) * (Int32.toInt64 (un1 a)))), (4, .int (nI r)), (0, .ref 1), (1, .int 2), (2, .int (nI a)), (3, .int (nI b))], [.int ((nI a) + 1), .ref 9, .long (Int32.toInt64 (ov2 (b + 1)))], wC ov2 un2 (nI n1) dp fa2 cu st fi se th db cn F, 0)) rfl ?_
  rw [nI_p1 (a)]
  show mm_W _ _ _ _ _ _ _ (58, [(6, .long ((Int32.toInt64 (ov2 (a + 1))) * (Int32.toInt64 (un2 (b + 1))))), (5, .int 1), (8, .long ((Int32.toInt64 (ov1 b)) * (Int32.toInt64 (un1 a)))), (4, .int (nI r)), (0, .ref 1), (1, .int 2), (2, .int (nI a)), (3, .int (nI b))], [.int (nI (a + 1)), .ref 9, .long (Int32.toInt64 (ov2 (b + 1)))], wC ov2 un2 (nI n1) dp fa2 cu st fi se th db cn F, 0)
  refine mm_need (mm_call_mono _ _) (c := vp_in (nI (a + 1)) 1332) (s' := (59, [(6, .long ((Int32.toInt64 (ov2 (a + 1))) * (Int32.toInt64 (un2 (b + 1))))), (5, .int 1), (8, .long ((Int32.toInt64 (ov1 b)) * (Int32.toInt64 (un1 a)))), (4, .int (nI r)), (0, .ref 1), (1, .int 2), (2, .int (nI a)), (3, .int (nI b))], [.int (un2 (Int32.toNatClampNeg (nI (a + 1)))), .long (Int32.toInt64 (ov2 (b + 1)))], wC ov2 un2 (nI n1) dp fa2 cu st fi se th db cn F, 0)) rfl (vp_in_nI (show (a + 1) < 1332 by omega) (by decide)) ?_
  rw [nI_clamp (show (a + 1) < 2 ^ 31 by omega)]
  show mm_W _ _ _ _ _ _ _ (59, [(6, .long ((Int32.toInt64 (ov2 (a + 1))) * (Int32.toInt64 (un2 (b + 1))))), (5, .int 1), (8, .long ((Int32.toInt64 (ov1 b)) * (Int32.toInt64 (un1 a)))), (4, .int (nI r)), (0, .ref 1), (1, .int 2), (2, .int (nI a)), (3, .int (nI b))], [.int (un2 (a + 1)), .long (Int32.toInt64 (ov2 (b + 1)))], wC ov2 un2 (nI n1) dp fa2 cu st fi se th db cn F, 0)
  refine mm_skip (mm_call_mono _ _) 15 (st' := (82, [(8, .long ((Int32.toInt64 (ov2 (b + 1))) * (Int32.toInt64 (un2 (a + 1))))), (6, .long ((Int32.toInt64 (ov2 (a + 1))) * (Int32.toInt64 (un2 (b + 1))))), (5, .int 1), (4, .int (nI r)), (0, .ref 1), (1, .int 2), (2, .int (nI a)), (3, .int (nI b))], [.int ((nI a) + 1), .ref 9, .long (((Int32.toInt64 (ov2 (a + 1))) * (Int32.toInt64 (un2 (b + 1)))) + ((Int32.toInt64 (ov2 (b + 1))) * (Int32.toInt64 (un2 (a + 1))))), .int ((nI r) + 1), .ref 1], wC ov2 un2 (nI n1) dp fa2 cu st fi se th db cn F, 0)) rfl ?_
  rw [nI_p1 (a)]
  rw [nI_p1 (r)]
  show mm_W _ _ _ _ _ _ _ (82, [(8, .long ((Int32.toInt64 (ov2 (b + 1))) * (Int32.toInt64 (un2 (a + 1))))), (6, .long ((Int32.toInt64 (ov2 (a + 1))) * (Int32.toInt64 (un2 (b + 1))))), (5, .int 1), (4, .int (nI r)), (0, .ref 1), (1, .int 2), (2, .int (nI a)), (3, .int (nI b))], [.int (nI (a + 1)), .ref 9, .long (((Int32.toInt64 (ov2 (a + 1))) * (Int32.toInt64 (un2 (b + 1)))) + ((Int32.toInt64 (ov2 (b + 1))) * (Int32.toInt64 (un2 (a + 1))))), .int (nI (r + 1)), .ref 1], wC ov2 un2 (nI n1) dp fa2 cu st fi se th db cn F, 0)
  refine mm_need (mm_call_mono _ _) (c := vp_in (nI (a + 1)) 1332) (s' := (83, [(8, .long ((Int32.toInt64 (ov2 (b + 1))) * (Int32.toInt64 (un2 (a + 1))))), (6, .long ((Int32.toInt64 (ov2 (a + 1))) * (Int32.toInt64 (un2 (b + 1))))), (5, .int 1), (4, .int (nI r)), (0, .ref 1), (1, .int 2), (2, .int (nI a)), (3, .int (nI b))], [.int (un2 (Int32.toNatClampNeg (nI (a + 1)))), .long (((Int32.toInt64 (ov2 (a + 1))) * (Int32.toInt64 (un2 (b + 1)))) + ((Int32.toInt64 (ov2 (b + 1))) * (Int32.toInt64 (un2 (a + 1))))), .int (nI (r + 1)), .ref 1], wC ov2 un2 (nI n1) dp fa2 cu st fi se th db cn F, 0)) rfl (vp_in_nI (show (a + 1) < 1332 by omega) (by decide)) ?_
  rw [nI_clamp (show (a + 1) < 2 ^ 31 by omega)]
  show mm_W _ _ _ _ _ _ _ (83, [(8, .long ((Int32.toInt64 (ov2 (b + 1))) * (Int32.toInt64 (un2 (a + 1))))), (6, .long ((Int32.toInt64 (ov2 (a + 1))) * (Int32.toInt64 (un2 (b + 1))))), (5, .int 1), (4, .int (nI r)), (0, .ref 1), (1, .int 2), (2, .int (nI a)), (3, .int (nI b))], [.int (un2 (a + 1)), .long (((Int32.toInt64 (ov2 (a + 1))) * (Int32.toInt64 (un2 (b + 1)))) + ((Int32.toInt64 (ov2 (b + 1))) * (Int32.toInt64 (un2 (a + 1))))), .int (nI (r + 1)), .ref 1], wC ov2 un2 (nI n1) dp fa2 cu st fi se th db cn F, 0)
  refine mm_skip (mm_call_mono _ _) 6 (st' := (92, [(8, .long ((Int32.toInt64 (ov2 (b + 1))) * (Int32.toInt64 (un2 (a + 1))))), (6, .long ((Int32.toInt64 (ov2 (a + 1))) * (Int32.toInt64 (un2 (b + 1))))), (5, .int 1), (4, .int (nI r)), (0, .ref 1), (1, .int 2), (2, .int (nI a)), (3, .int (nI b))], [.int ((nI b) + 1), .ref 9, .long (Int32.toInt64 (un2 (a + 1))), .long (((Int32.toInt64 (ov2 (a + 1))) * (Int32.toInt64 (un2 (b + 1)))) + ((Int32.toInt64 (ov2 (b + 1))) * (Int32.toInt64 (un2 (a + 1))))), .int (nI (r + 1)), .ref 1], wC ov2 un2 (nI n1) dp fa2 cu st fi se th db cn F, 0)) rfl ?_
  rw [nI_p1 (b)]
  show mm_W _ _ _ _ _ _ _ (92, [(8, .long ((Int32.toInt64 (ov2 (b + 1))) * (Int32.toInt64 (un2 (a + 1))))), (6, .long ((Int32.toInt64 (ov2 (a + 1))) * (Int32.toInt64 (un2 (b + 1))))), (5, .int 1), (4, .int (nI r)), (0, .ref 1), (1, .int 2), (2, .int (nI a)), (3, .int (nI b))], [.int (nI (b + 1)), .ref 9, .long (Int32.toInt64 (un2 (a + 1))), .long (((Int32.toInt64 (ov2 (a + 1))) * (Int32.toInt64 (un2 (b + 1)))) + ((Int32.toInt64 (ov2 (b + 1))) * (Int32.toInt64 (un2 (a + 1))))), .int (nI (r + 1)), .ref 1], wC ov2 un2 (nI n1) dp fa2 cu st fi se th db cn F, 0)
  refine mm_need (mm_call_mono _ _) (c := vp_in (nI (b + 1)) 1332) (s' := (93, [(8, .long ((Int32.toInt64 (ov2 (b + 1))) * (Int32.toInt64 (un2 (a + 1))))), (6, .long ((Int32.toInt64 (ov2 (a + 1))) * (Int32.toInt64 (un2 (b + 1))))), (5, .int 1), (4, .int (nI r)), (0, .ref 1), (1, .int 2), (2, .int (nI a)), (3, .int (nI b))], [.int (un2 (Int32.toNatClampNeg (nI (b + 1)))), .long (Int32.toInt64 (un2 (a + 1))), .long (((Int32.toInt64 (ov2 (a + 1))) * (Int32.toInt64 (un2 (b + 1)))) + ((Int32.toInt64 (ov2 (b + 1))) * (Int32.toInt64 (un2 (a + 1))))), .int (nI (r + 1)), .ref 1], wC ov2 un2 (nI n1) dp fa2 cu st fi se th db cn F, 0)) rfl (vp_in_nI (show (b + 1) < 1332 by omega) (by decide)) ?_
  rw [nI_clamp (show (b + 1) < 2 ^ 31 by omega)]
  show mm_W _ _ _ _ _ _ _ (93, [(8, .long ((Int32.toInt64 (ov2 (b + 1))) * (Int32.toInt64 (un2 (a + 1))))), (6, .long ((Int32.toInt64 (ov2 (a + 1))) * (Int32.toInt64 (un2 (b + 1))))), (5, .int 1), (4, .int (nI r)), (0, .ref 1), (1, .int 2), (2, .int (nI a)), (3, .int (nI b))], [.int (un2 (b + 1)), .long (Int32.toInt64 (un2 (a + 1))), .long (((Int32.toInt64 (ov2 (a + 1))) * (Int32.toInt64 (un2 (b + 1)))) + ((Int32.toInt64 (ov2 (b + 1))) * (Int32.toInt64 (un2 (a + 1))))), .int (nI (r + 1)), .ref 1], wC ov2 un2 (nI n1) dp fa2 cu st fi se th db cn F, 0)
  refine mm_skip (mm_call_mono _ _) 2 (st' := (95, [(8, .long ((Int32.toInt64 (ov2 (b + 1))) * (Int32.toInt64 (un2 (a + 1))))), (6, .long ((Int32.toInt64 (ov2 (a + 1))) * (Int32.toInt64 (un2 (b + 1))))), (5, .int 1), (4, .int (nI r)), (0, .ref 1), (1, .int 2), (2, .int (nI a)), (3, .int (nI b))], [.long ((Int32.toInt64 (un2 (a + 1))) * (Int32.toInt64 (un2 (b + 1)))), .long (((Int32.toInt64 (ov2 (a + 1))) * (Int32.toInt64 (un2 (b + 1)))) + ((Int32.toInt64 (ov2 (b + 1))) * (Int32.toInt64 (un2 (a + 1))))), .int (nI (r + 1)), .ref 1], wC ov2 un2 (nI n1) dp fa2 cu st fi se th db cn F, 0)) rfl ?_
  refine mm_inv (mm_call_mono _ _) (j := 139) (a := [.ref 1, .int (nI (r + 1)), .long (((Int32.toInt64 (ov2 (a + 1))) * (Int32.toInt64 (un2 (b + 1)))) + ((Int32.toInt64 (ov2 (b + 1))) * (Int32.toInt64 (un2 (a + 1))))), .long ((Int32.toInt64 (un2 (a + 1))) * (Int32.toInt64 (un2 (b + 1))))]) (M := wC ov2 un2 (nI n1) dp fa2 cu st fi se th db cn F) (u := 0) rfl (by decide) (ct_N_put_add (a := a + 1) (b := b + 1) (c := r + 1) k1.1 (by omega) (fun h => ⟨(arg_v ha k1 h (j := 1) (by omega)).1, (arg_v hb k1 h (j := 1) (by omega)).1, pt_z k1 h (by omega)⟩) (fun ov3 un3 fa3 p2 => ?_))
  show mm_W _ _ _ _ _ _ _ (98, [(8, .long ((Int32.toInt64 (ov2 (b + 1))) * (Int32.toInt64 (un2 (a + 1))))), (6, .long ((Int32.toInt64 (ov2 (a + 1))) * (Int32.toInt64 (un2 (b + 1))))), (5, .int 1), (4, .int (nI r)), (0, .ref 1), (1, .int 2), (2, .int (nI a)), (3, .int (nI b))], [], wC ov3 un3 (nI n1) dp fa3 cu st fi se th db cn F, 0)
  have k2 := pt_s (i := 1) k1 (by omega) hr.1 p2 (fun h => by rw [← (arg_v ha k1 h (j := 1) (by omega)).2, ← (arg_v hb k1 h (j := 1) (by omega)).2] <;> rfl)
  refine mm_skip (mm_call_mono _ _) 6 (st' := (14, [(5, .int 2), (8, .long ((Int32.toInt64 (ov2 (b + 1))) * (Int32.toInt64 (un2 (a + 1))))), (6, .long ((Int32.toInt64 (ov2 (a + 1))) * (Int32.toInt64 (un2 (b + 1))))), (4, .int (nI r)), (0, .ref 1), (1, .int 2), (2, .int (nI a)), (3, .int (nI b))], [.int 4, .int 2], wC ov3 un3 (nI n1) dp fa3 cu st fi se th db cn F, 0)) rfl ?_
  refine mm_branch (mm_call_mono _ _) (c := (4 : Int32) ≤ 2) (s1 := (104, [(5, .int 2), (8, .long ((Int32.toInt64 (ov2 (b + 1))) * (Int32.toInt64 (un2 (a + 1))))), (6, .long ((Int32.toInt64 (ov2 (a + 1))) * (Int32.toInt64 (un2 (b + 1))))), (4, .int (nI r)), (0, .ref 1), (1, .int 2), (2, .int (nI a)), (3, .int (nI b))], [], wC ov3 un3 (nI n1) dp fa3 cu st fi se th db cn F, 0)) (s2 := (17, [(5, .int 2), (8, .long ((Int32.toInt64 (ov2 (b + 1))) * (Int32.toInt64 (un2 (a + 1))))), (6, .long ((Int32.toInt64 (ov2 (a + 1))) * (Int32.toInt64 (un2 (b + 1))))), (4, .int (nI r)), (0, .ref 1), (1, .int 2), (2, .int (nI a)), (3, .int (nI b))], [], wC ov3 un3 (nI n1) dp fa3 cu st fi se th db cn F, 0)) rfl (fun h => absurd h (by decide)) (fun _ => ?_)
  refine mm_skip (mm_call_mono _ _) 5 (st' := (25, [(5, .int 2), (8, .long ((Int32.toInt64 (ov2 (b + 1))) * (Int32.toInt64 (un2 (a + 1))))), (6, .long ((Int32.toInt64 (ov2 (a + 1))) * (Int32.toInt64 (un2 (b + 1))))), (4, .int (nI r)), (0, .ref 1), (1, .int 2), (2, .int (nI a)), (3, .int (nI b))], [.int ((nI a) + 2), .ref 8], wC ov3 un3 (nI n1) dp fa3 cu st fi se th db cn F, 0)) rfl ?_
  rw [nI_p2 (a)]
  show mm_W _ _ _ _ _ _ _ (25, [(5, .int 2), (8, .long ((Int32.toInt64 (ov2 (b + 1))) * (Int32.toInt64 (un2 (a + 1))))), (6, .long ((Int32.toInt64 (ov2 (a + 1))) * (Int32.toInt64 (un2 (b + 1))))), (4, .int (nI r)), (0, .ref 1), (1, .int 2), (2, .int (nI a)), (3, .int (nI b))], [.int (nI (a + 2)), .ref 8], wC ov3 un3 (nI n1) dp fa3 cu st fi se th db cn F, 0)
  refine mm_need (mm_call_mono _ _) (c := vp_in (nI (a + 2)) 1332) (s' := (26, [(5, .int 2), (8, .long ((Int32.toInt64 (ov2 (b + 1))) * (Int32.toInt64 (un2 (a + 1))))), (6, .long ((Int32.toInt64 (ov2 (a + 1))) * (Int32.toInt64 (un2 (b + 1))))), (4, .int (nI r)), (0, .ref 1), (1, .int 2), (2, .int (nI a)), (3, .int (nI b))], [.int (ov3 (Int32.toNatClampNeg (nI (a + 2))))], wC ov3 un3 (nI n1) dp fa3 cu st fi se th db cn F, 0)) rfl (vp_in_nI (show (a + 2) < 1332 by omega) (by decide)) ?_
  rw [nI_clamp (show (a + 2) < 2 ^ 31 by omega)]
  show mm_W _ _ _ _ _ _ _ (26, [(5, .int 2), (8, .long ((Int32.toInt64 (ov2 (b + 1))) * (Int32.toInt64 (un2 (a + 1))))), (6, .long ((Int32.toInt64 (ov2 (a + 1))) * (Int32.toInt64 (un2 (b + 1))))), (4, .int (nI r)), (0, .ref 1), (1, .int 2), (2, .int (nI a)), (3, .int (nI b))], [.int (ov3 (a + 2))], wC ov3 un3 (nI n1) dp fa3 cu st fi se th db cn F, 0)
  refine mm_skip (mm_call_mono _ _) 6 (st' := (35, [(5, .int 2), (8, .long ((Int32.toInt64 (ov2 (b + 1))) * (Int32.toInt64 (un2 (a + 1))))), (6, .long ((Int32.toInt64 (ov2 (a + 1))) * (Int32.toInt64 (un2 (b + 1))))), (4, .int (nI r)), (0, .ref 1), (1, .int 2), (2, .int (nI a)), (3, .int (nI b))], [.int ((nI b) + 2), .ref 9, .long (Int32.toInt64 (ov3 (a + 2)))], wC ov3 un3 (nI n1) dp fa3 cu st fi se th db cn F, 0)) rfl ?_
  rw [nI_p2 (b)]
  show mm_W _ _ _ _ _ _ _ (35, [(5, .int 2), (8, .long ((Int32.toInt64 (ov2 (b + 1))) * (Int32.toInt64 (un2 (a + 1))))), (6, .long ((Int32.toInt64 (ov2 (a + 1))) * (Int32.toInt64 (un2 (b + 1))))), (4, .int (nI r)), (0, .ref 1), (1, .int 2), (2, .int (nI a)), (3, .int (nI b))], [.int (nI (b + 2)), .ref 9, .long (Int32.toInt64 (ov3 (a + 2)))], wC ov3 un3 (nI n1) dp fa3 cu st fi se th db cn F, 0)
  refine mm_need (mm_call_mono _ _) (c := vp_in (nI (b + 2)) 1332) (s' := (36, [(5, .int 2), (8, .long ((Int32.toInt64 (ov2 (b + 1))) * (Int32.toInt64 (un2 (a + 1))))), (6, .long ((Int32.toInt64 (ov2 (a + 1))) * (Int32.toInt64 (un2 (b + 1))))), (4, .int (nI r)), (0, .ref 1), (1, .int 2), (2, .int (nI a)), (3, .int (nI b))], [.int (un3 (Int32.toNatClampNeg (nI (b + 2)))), .long (Int32.toInt64 (ov3 (a + 2)))], wC ov3 un3 (nI n1) dp fa3 cu st fi se th db cn F, 0)) rfl (vp_in_nI (show (b + 2) < 1332 by omega) (by decide)) ?_
  rw [nI_clamp (show (b + 2) < 2 ^ 31 by omega)]
  show mm_W _ _ _ _ _ _ _ (36, [(5, .int 2), (8, .long ((Int32.toInt64 (ov2 (b + 1))) * (Int32.toInt64 (un2 (a + 1))))), (6, .long ((Int32.toInt64 (ov2 (a + 1))) * (Int32.toInt64 (un2 (b + 1))))), (4, .int (nI r)), (0, .ref 1), (1, .int 2), (2, .int (nI a)), (3, .int (nI b))], [.int (un3 (b + 2)), .long (Int32.toInt64 (ov3 (a + 2)))], wC ov3 un3 (nI n1) dp fa3 cu st fi se th db cn F, 0)
  refine mm_skip (mm_call_mono _ _) 8 (st' := (48, [(6, .long ((Int32.toInt64 (ov3 (a + 2))) * (Int32.toInt64 (un3 (b + 2))))), (5, .int 2), (8, .long ((Int32.toInt64 (ov2 (b + 1))) * (Int32.toInt64 (un2 (a + 1))))), (4, .int (nI r)), (0, .ref 1), (1, .int 2), (2, .int (nI a)), (3, .int (nI b))], [.int ((nI b) + 2), .ref 8], wC ov3 un3 (nI n1) dp fa3 cu st fi se th db cn F, 0)) rfl ?_
  rw [nI_p2 (b)]
  show mm_W _ _ _ _ _ _ _ (48, [(6, .long ((Int32.toInt64 (ov3 (a + 2))) * (Int32.toInt64 (un3 (b + 2))))), (5, .int 2), (8, .long ((Int32.toInt64 (ov2 (b + 1))) * (Int32.toInt64 (un2 (a + 1))))), (4, .int (nI r)), (0, .ref 1), (1, .int 2), (2, .int (nI a)), (3, .int (nI b))], [.int (nI (b + 2)), .ref 8], wC ov3 un3 (nI n1) dp fa3 cu st fi se th db cn F, 0)
  refine mm_need (mm_call_mono _ _) (c := vp_in (nI (b + 2)) 1332) (s' := (49, [(6, .long ((Int32.toInt64 (ov3 (a + 2))) * (Int32.toInt64 (un3 (b + 2))))), (5, .int 2), (8, .long ((Int32.toInt64 (ov2 (b + 1))) * (Int32.toInt64 (un2 (a + 1))))), (4, .int (nI r)), (0, .ref 1), (1, .int 2), (2, .int (nI a)), (3, .int (nI b))], [.int (ov3 (Int32.toNatClampNeg (nI (b + 2))))], wC ov3 un3 (nI n1) dp fa3 cu st fi se th db cn F, 0)) rfl (vp_in_nI (show (b + 2) < 1332 by omega) (by decide)) ?_
  rw [nI_clamp (show (b + 2) < 2 ^ 31 by omega)]
  show mm_W _ _ _ _ _ _ _ (49, [(6, .long ((Int32.toInt64 (ov3 (a + 2))) * (Int32.toInt64 (un3 (b + 2))))), (5, .int 2), (8, .long ((Int32.toInt64 (ov2 (b + 1))) * (Int32.toInt64 (un2 (a + 1))))), (4, .int (nI r)), (0, .ref 1), (1, .int 2), (2, .int (nI a)), (3, .int (nI b))], [.int (ov3 (b + 2))], wC ov3 un3 (nI n1) dp fa3 cu st fi se th db cn F, 0)
  refine mm_skip (mm_call_mono _ _) 6 (st' := (58, [(6, .long ((Int32.toInt64 (ov3 (a + 2))) * (Int32.toInt64 (un3 (b + 2))))), (5, .int 2), (8, .long ((Int32.toInt64 (ov2 (b + 1))) * (Int32.toInt64 (un2 (a + 1))))), (4, .int (nI r)), (0, .ref 1), (1, .int 2), (2, .int (nI a)), (3, .int (nI b))], [.int ((nI a) + 2), .ref 9, .long (Int32.toInt64 (ov3 (b + 2)))], wC ov3 un3 (nI n1) dp fa3 cu st fi se th db cn F, 0)) rfl ?_
  rw [nI_p2 (a)]
  show mm_W _ _ _ _ _ _ _ (58, [(6, .long ((Int32.toInt64 (ov3 (a + 2))) * (Int32.toInt64 (un3 (b + 2))))), (5, .int 2), (8, .long ((Int32.toInt64 (ov2 (b + 1))) * (Int32.toInt64 (un2 (a + 1))))), (4, .int (nI r)), (0, .ref 1), (1, .int 2), (2, .int (nI a)), (3, .int (nI b))], [.int (nI (a + 2)), .ref 9, .long (Int32.toInt64 (ov3 (b + 2)))], wC ov3 un3 (nI n1) dp fa3 cu st fi se th db cn F, 0)
  refine mm_need (mm_call_mono _ _) (c := vp_in (nI (a + 2)) 1332) (s' := (59, [(6, .long ((Int32.toInt64 (ov3 (a + 2))) * (Int32.toInt64 (un3 (b + 2))))), (5, .int 2), (8, .long ((Int32.toInt64 (ov2 (b + 1))) * (Int32.toInt64 (un2 (a + 1))))), (4, .int (nI r)), (0, .ref 1), (1, .int 2), (2, .int (nI a)), (3, .int (nI b))], [.int (un3 (Int32.toNatClampNeg (nI (a + 2)))), .long (Int32.toInt64 (ov3 (b + 2)))], wC ov3 un3 (nI n1) dp fa3 cu st fi se th db cn F, 0)) rfl (vp_in_nI (show (a + 2) < 1332 by omega) (by decide)) ?_
  rw [nI_clamp (show (a + 2) < 2 ^ 31 by omega)]
  show mm_W _ _ _ _ _ _ _ (59, [(6, .long ((Int32.toInt64 (ov3 (a + 2))) * (Int32.toInt64 (un3 (b + 2))))), (5, .int 2), (8, .long ((Int32.toInt64 (ov2 (b + 1))) * (Int32.toInt64 (un2 (a + 1))))), (4, .int (nI r)), (0, .ref 1), (1, .int 2), (2, .int (nI a)), (3, .int (nI b))], [.int (un3 (a + 2)), .long (Int32.toInt64 (ov3 (b + 2)))], wC ov3 un3 (nI n1) dp fa3 cu st fi se th db cn F, 0)
  refine mm_skip (mm_call_mono _ _) 15 (st' := (82, [(8, .long ((Int32.toInt64 (ov3 (b + 2))) * (Int32.toInt64 (un3 (a + 2))))), (6, .long ((Int32.toInt64 (ov3 (a + 2))) * (Int32.toInt64 (un3 (b + 2))))), (5, .int 2), (4, .int (nI r)), (0, .ref 1), (1, .int 2), (2, .int (nI a)), (3, .int (nI b))], [.int ((nI a) + 2), .ref 9, .long (((Int32.toInt64 (ov3 (a + 2))) * (Int32.toInt64 (un3 (b + 2)))) + ((Int32.toInt64 (ov3 (b + 2))) * (Int32.toInt64 (un3 (a + 2))))), .int ((nI r) + 2), .ref 1], wC ov3 un3 (nI n1) dp fa3 cu st fi se th db cn F, 0)) rfl ?_
  rw [nI_p2 (a)]
  rw [nI_p2 (r)]
  show mm_W _ _ _ _ _ _ _ (82, [(8, .long ((Int32.toInt64 (ov3 (b + 2))) * (Int32.toInt64 (un3 (a + 2))))), (6, .long ((Int32.toInt64 (ov3 (a + 2))) * (Int32.toInt64 (un3 (b + 2))))), (5, .int 2), (4, .int (nI r)), (0, .ref 1), (1, .int 2), (2, .int (nI a)), (3, .int (nI b))], [.int (nI (a + 2)), .ref 9, .long (((Int32.toInt64 (ov3 (a + 2))) * (Int32.toInt64 (un3 (b + 2)))) + ((Int32.toInt64 (ov3 (b + 2))) * (Int32.toInt64 (un3 (a + 2))))), .int (nI (r + 2)), .ref 1], wC ov3 un3 (nI n1) dp fa3 cu st fi se th db cn F, 0)
  refine mm_need (mm_call_mono _ _) (c := vp_in (nI (a + 2)) 1332) (s' := (83, [(8, .long ((Int32.toInt64 (ov3 (b + 2))) * (Int32.toInt64 (un3 (a + 2))))), (6, .long ((Int32.toInt64 (ov3 (a + 2))) * (Int32.toInt64 (un3 (b + 2))))), (5, .int 2), (4, .int (nI r)), (0, .ref 1), (1, .int 2), (2, .int (nI a)), (3, .int (nI b))], [.int (un3 (Int32.toNatClampNeg (nI (a + 2)))), .long (((Int32.toInt64 (ov3 (a + 2))) * (Int32.toInt64 (un3 (b + 2)))) + ((Int32.toInt64 (ov3 (b + 2))) * (Int32.toInt64 (un3 (a + 2))))), .int (nI (r + 2)), .ref 1], wC ov3 un3 (nI n1) dp fa3 cu st fi se th db cn F, 0)) rfl (vp_in_nI (show (a + 2) < 1332 by omega) (by decide)) ?_
  rw [nI_clamp (show (a + 2) < 2 ^ 31 by omega)]
  show mm_W _ _ _ _ _ _ _ (83, [(8, .long ((Int32.toInt64 (ov3 (b + 2))) * (Int32.toInt64 (un3 (a + 2))))), (6, .long ((Int32.toInt64 (ov3 (a + 2))) * (Int32.toInt64 (un3 (b + 2))))), (5, .int 2), (4, .int (nI r)), (0, .ref 1), (1, .int 2), (2, .int (nI a)), (3, .int (nI b))], [.int (un3 (a + 2)), .long (((Int32.toInt64 (ov3 (a + 2))) * (Int32.toInt64 (un3 (b + 2)))) + ((Int32.toInt64 (ov3 (b + 2))) * (Int32.toInt64 (un3 (a + 2))))), .int (nI (r + 2)), .ref 1], wC ov3 un3 (nI n1) dp fa3 cu st fi se th db cn F, 0)
  refine mm_skip (mm_call_mono _ _) 6 (st' := (92, [(8, .long ((Int32.toInt64 (ov3 (b + 2))) * (Int32.toInt64 (un3 (a + 2))))), (6, .long ((Int32.toInt64 (ov3 (a + 2))) * (Int32.toInt64 (un3 (b + 2))))), (5, .int 2), (4, .int (nI r)), (0, .ref 1), (1, .int 2), (2, .int (nI a)), (3, .int (nI b))], [.int ((nI b) + 2), .ref 9, .long (Int32.toInt64 (un3 (a + 2))), .long (((Int32.toInt64 (ov3 (a + 2))) * (Int32.toInt64 (un3 (b + 2)))) + ((Int32.toInt64 (ov3 (b + 2))) * (Int32.toInt64 (un3 (a + 2))))), .int (nI (r + 2)), .ref 1], wC ov3 un3 (nI n1) dp fa3 cu st fi se th db cn F, 0)) rfl ?_
  rw [nI_p2 (b)]
  show mm_W _ _ _ _ _ _ _ (92, [(8, .long ((Int32.toInt64 (ov3 (b + 2))) * (Int32.toInt64 (un3 (a + 2))))), (6, .long ((Int32.toInt64 (ov3 (a + 2))) * (Int32.toInt64 (un3 (b + 2))))), (5, .int 2), (4, .int (nI r)), (0, .ref 1), (1, .int 2), (2, .int (nI a)), (3, .int (nI b))], [.int (nI (b + 2)), .ref 9, .long (Int32.toInt64 (un3 (a + 2))), .long (((Int32.toInt64 (ov3 (a + 2))) * (Int32.toInt64 (un3 (b + 2)))) + ((Int32.toInt64 (ov3 (b + 2))) * (Int32.toInt64 (un3 (a + 2))))), .int (nI (r + 2)), .ref 1], wC ov3 un3 (nI n1) dp fa3 cu st fi se th db cn F, 0)
  refine mm_need (mm_call_mono _ _) (c := vp_in (nI (b + 2)) 1332) (s' := (93, [(8, .long ((Int32.toInt64 (ov3 (b + 2))) * (Int32.toInt64 (un3 (a + 2))))), (6, .long ((Int32.toInt64 (ov3 (a + 2))) * (Int32.toInt64 (un3 (b + 2))))), (5, .int 2), (4, .int (nI r)), (0, .ref 1), (1, .int 2), (2, .int (nI a)), (3, .int (nI b))], [.int (un3 (Int32.toNatClampNeg (nI (b + 2)))), .long (Int32.toInt64 (un3 (a + 2))), .long (((Int32.toInt64 (ov3 (a + 2))) * (Int32.toInt64 (un3 (b + 2)))) + ((Int32.toInt64 (ov3 (b + 2))) * (Int32.toInt64 (un3 (a + 2))))), .int (nI (r + 2)), .ref 1], wC ov3 un3 (nI n1) dp fa3 cu st fi se th db cn F, 0)) rfl (vp_in_nI (show (b + 2) < 1332 by omega) (by decide)) ?_
  rw [nI_clamp (show (b + 2) < 2 ^ 31 by omega)]
  show mm_W _ _ _ _ _ _ _ (93, [(8, .long ((Int32.toInt64 (ov3 (b + 2))) * (Int32.toInt64 (un3 (a + 2))))), (6, .long ((Int32.toInt64 (ov3 (a + 2))) * (Int32.toInt64 (un3 (b + 2))))), (5, .int 2), (4, .int (nI r)), (0, .ref 1), (1, .int 2), (2, .int (nI a)), (3, .int (nI b))], [.int (un3 (b + 2)), .long (Int32.toInt64 (un3 (a + 2))), .long (((Int32.toInt64 (ov3 (a + 2))) * (Int32.toInt64 (un3 (b + 2)))) + ((Int32.toInt64 (ov3 (b + 2))) * (Int32.toInt64 (un3 (a + 2))))), .int (nI (r + 2)), .ref 1], wC ov3 un3 (nI n1) dp fa3 cu st fi se th db cn F, 0)
  refine mm_skip (mm_call_mono _ _) 2 (st' := (95, [(8, .long ((Int32.toInt64 (ov3 (b + 2))) * (Int32.toInt64 (un3 (a + 2))))), (6, .long ((Int32.toInt64 (ov3 (a + 2))) * (Int32.toInt64 (un3 (b + 2))))), (5, .int 2), (4, .int (nI r)), (0, .ref 1), (1, .int 2), (2, .int (nI a)), (3, .int (nI b))], [.long ((Int32.toInt64 (un3 (a + 2))) * (Int32.toInt64 (un3 (b + 2)))), .long (((Int32.toInt64 (ov3 (a + 2))) * (Int32.toInt64 (un3 (b + 2)))) + ((Int32.toInt64 (ov3 (b + 2))) * (Int32.toInt64 (un3 (a + 2))))), .int (nI (r + 2)), .ref 1], wC ov3 un3 (nI n1) dp fa3 cu st fi se th db cn F, 0)) rfl ?_
  refine mm_inv (mm_call_mono _ _) (j := 139) (a := [.ref 1, .int (nI (r + 2)), .long (((Int32.toInt64 (ov3 (a + 2))) * (Int32.toInt64 (un3 (b + 2)))) + ((Int32.toInt64 (ov3 (b + 2))) * (Int32.toInt64 (un3 (a + 2))))), .long ((Int32.toInt64 (un3 (a + 2))) * (Int32.toInt64 (un3 (b + 2))))]) (M := wC ov3 un3 (nI n1) dp fa3 cu st fi se th db cn F) (u := 0) rfl (by decide) (ct_N_put_add (a := a + 2) (b := b + 2) (c := r + 2) k2.1 (by omega) (fun h => ⟨(arg_v ha k2 h (j := 2) (by omega)).1, (arg_v hb k2 h (j := 2) (by omega)).1, pt_z k2 h (by omega)⟩) (fun ov4 un4 fa4 p3 => ?_))
  show mm_W _ _ _ _ _ _ _ (98, [(8, .long ((Int32.toInt64 (ov3 (b + 2))) * (Int32.toInt64 (un3 (a + 2))))), (6, .long ((Int32.toInt64 (ov3 (a + 2))) * (Int32.toInt64 (un3 (b + 2))))), (5, .int 2), (4, .int (nI r)), (0, .ref 1), (1, .int 2), (2, .int (nI a)), (3, .int (nI b))], [], wC ov4 un4 (nI n1) dp fa4 cu st fi se th db cn F, 0)
  have k3 := pt_s (i := 2) k2 (by omega) hr.1 p3 (fun h => by rw [← (arg_v ha k2 h (j := 2) (by omega)).2, ← (arg_v hb k2 h (j := 2) (by omega)).2] <;> rfl)
  refine mm_skip (mm_call_mono _ _) 6 (st' := (14, [(5, .int 3), (8, .long ((Int32.toInt64 (ov3 (b + 2))) * (Int32.toInt64 (un3 (a + 2))))), (6, .long ((Int32.toInt64 (ov3 (a + 2))) * (Int32.toInt64 (un3 (b + 2))))), (4, .int (nI r)), (0, .ref 1), (1, .int 2), (2, .int (nI a)), (3, .int (nI b))], [.int 4, .int 3], wC ov4 un4 (nI n1) dp fa4 cu st fi se th db cn F, 0)) rfl ?_
  refine mm_branch (mm_call_mono _ _) (c := (4 : Int32) ≤ 3) (s1 := (104, [(5, .int 3), (8, .long ((Int32.toInt64 (ov3 (b + 2))) * (Int32.toInt64 (un3 (a + 2))))), (6, .long ((Int32.toInt64 (ov3 (a + 2))) * (Int32.toInt64 (un3 (b + 2))))), (4, .int (nI r)), (0, .ref 1), (1, .int 2), (2, .int (nI a)), (3, .int (nI b))], [], wC ov4 un4 (nI n1) dp fa4 cu st fi se th db cn F, 0)) (s2 := (17, [(5, .int 3), (8, .long ((Int32.toInt64 (ov3 (b + 2))) * (Int32.toInt64 (un3 (a + 2))))), (6, .long ((Int32.toInt64 (ov3 (a + 2))) * (Int32.toInt64 (un3 (b + 2))))), (4, .int (nI r)), (0, .ref 1), (1, .int 2), (2, .int (nI a)), (3, .int (nI b))], [], wC ov4 un4 (nI n1) dp fa4 cu st fi se th db cn F, 0)) rfl (fun h => absurd h (by decide)) (fun _ => ?_)
  refine mm_skip (mm_call_mono _ _) 5 (st' := (25, [(5, .int 3), (8, .long ((Int32.toInt64 (ov3 (b + 2))) * (Int32.toInt64 (un3 (a + 2))))), (6, .long ((Int32.toInt64 (ov3 (a + 2))) * (Int32.toInt64 (un3 (b + 2))))), (4, .int (nI r)), (0, .ref 1), (1, .int 2), (2, .int (nI a)), (3, .int (nI b))], [.int ((nI a) + 3), .ref 8], wC ov4 un4 (nI n1) dp fa4 cu st fi se th db cn F, 0)) rfl ?_
  rw [nI_p3 (a)]
  show mm_W _ _ _ _ _ _ _ (25, [(5, .int 3), (8, .long ((Int32.toInt64 (ov3 (b + 2))) * (Int32.toInt64 (un3 (a + 2))))), (6, .long ((Int32.toInt64 (ov3 (a + 2))) * (Int32.toInt64 (un3 (b + 2))))), (4, .int (nI r)), (0, .ref 1), (1, .int 2), (2, .int (nI a)), (3, .int (nI b))], [.int (nI (a + 3)), .ref 8], wC ov4 un4 (nI n1) dp fa4 cu st fi se th db cn F, 0)
  refine mm_need (mm_call_mono _ _) (c := vp_in (nI (a + 3)) 1332) (s' := (26, [(5, .int 3), (8, .long ((Int32.toInt64 (ov3 (b + 2))) * (Int32.toInt64 (un3 (a + 2))))), (6, .long ((Int32.toInt64 (ov3 (a + 2))) * (Int32.toInt64 (un3 (b + 2))))), (4, .int (nI r)), (0, .ref 1), (1, .int 2), (2, .int (nI a)), (3, .int (nI b))], [.int (ov4 (Int32.toNatClampNeg (nI (a + 3))))], wC ov4 un4 (nI n1) dp fa4 cu st fi se th db cn F, 0)) rfl (vp_in_nI (show (a + 3) < 1332 by omega) (by decide)) ?_
  rw [nI_clamp (show (a + 3) < 2 ^ 31 by omega)]
  show mm_W _ _ _ _ _ _ _ (26, [(5, .int 3), (8, .long ((Int32.toInt64 (ov3 (b + 2))) * (Int32.toInt64 (un3 (a + 2))))), (6, .long ((Int32.toInt64 (ov3 (a + 2))) * (Int32.toInt64 (un3 (b + 2))))), (4, .int (nI r)), (0, .ref 1), (1, .int 2), (2, .int (nI a)), (3, .int (nI b))], [.int (ov4 (a + 3))], wC ov4 un4 (nI n1) dp fa4 cu st fi se th db cn F, 0)
  refine mm_skip (mm_call_mono _ _) 6 (st' := (35, [(5, .int 3), (8, .long ((Int32.toInt64 (ov3 (b + 2))) * (Int32.toInt64 (un3 (a + 2))))), (6, .long ((Int32.toInt64 (ov3 (a + 2))) * (Int32.toInt64 (un3 (b + 2))))), (4, .int (nI r)), (0, .ref 1), (1, .int 2), (2, .int (nI a)), (3, .int (nI b))], [.int ((nI b) + 3), .ref 9, .long (Int32.toInt64 (ov4 (a + 3)))], wC ov4 un4 (nI n1) dp fa4 cu st fi se th db cn F, 0)) rfl ?_
  rw [nI_p3 (b)]
  show mm_W _ _ _ _ _ _ _ (35, [(5, .int 3), (8, .long ((Int32.toInt64 (ov3 (b + 2))) * (Int32.toInt64 (un3 (a + 2))))), (6, .long ((Int32.toInt64 (ov3 (a + 2))) * (Int32.toInt64 (un3 (b + 2))))), (4, .int (nI r)), (0, .ref 1), (1, .int 2), (2, .int (nI a)), (3, .int (nI b))], [.int (nI (b + 3)), .ref 9, .long (Int32.toInt64 (ov4 (a + 3)))], wC ov4 un4 (nI n1) dp fa4 cu st fi se th db cn F, 0)
  refine mm_need (mm_call_mono _ _) (c := vp_in (nI (b + 3)) 1332) (s' := (36, [(5, .int 3), (8, .long ((Int32.toInt64 (ov3 (b + 2))) * (Int32.toInt64 (un3 (a + 2))))), (6, .long ((Int32.toInt64 (ov3 (a + 2))) * (Int32.toInt64 (un3 (b + 2))))), (4, .int (nI r)), (0, .ref 1), (1, .int 2), (2, .int (nI a)), (3, .int (nI b))], [.int (un4 (Int32.toNatClampNeg (nI (b + 3)))), .long (Int32.toInt64 (ov4 (a + 3)))], wC ov4 un4 (nI n1) dp fa4 cu st fi se th db cn F, 0)) rfl (vp_in_nI (show (b + 3) < 1332 by omega) (by decide)) ?_
  rw [nI_clamp (show (b + 3) < 2 ^ 31 by omega)]
  show mm_W _ _ _ _ _ _ _ (36, [(5, .int 3), (8, .long ((Int32.toInt64 (ov3 (b + 2))) * (Int32.toInt64 (un3 (a + 2))))), (6, .long ((Int32.toInt64 (ov3 (a + 2))) * (Int32.toInt64 (un3 (b + 2))))), (4, .int (nI r)), (0, .ref 1), (1, .int 2), (2, .int (nI a)), (3, .int (nI b))], [.int (un4 (b + 3)), .long (Int32.toInt64 (ov4 (a + 3)))], wC ov4 un4 (nI n1) dp fa4 cu st fi se th db cn F, 0)
  refine mm_skip (mm_call_mono _ _) 8 (st' := (48, [(6, .long ((Int32.toInt64 (ov4 (a + 3))) * (Int32.toInt64 (un4 (b + 3))))), (5, .int 3), (8, .long ((Int32.toInt64 (ov3 (b + 2))) * (Int32.toInt64 (un3 (a + 2))))), (4, .int (nI r)), (0, .ref 1), (1, .int 2), (2, .int (nI a)), (3, .int (nI b))], [.int ((nI b) + 3), .ref 8], wC ov4 un4 (nI n1) dp fa4 cu st fi se th db cn F, 0)) rfl ?_
  rw [nI_p3 (b)]
  show mm_W _ _ _ _ _ _ _ (48, [(6, .long ((Int32.toInt64 (ov4 (a + 3))) * (Int32.toInt64 (un4 (b + 3))))), (5, .int 3), (8, .long ((Int32.toInt64 (ov3 (b + 2))) * (Int32.toInt64 (un3 (a + 2))))), (4, .int (nI r)), (0, .ref 1), (1, .int 2), (2, .int (nI a)), (3, .int (nI b))], [.int (nI (b + 3)), .ref 8], wC ov4 un4 (nI n1) dp fa4 cu st fi se th db cn F, 0)
  refine mm_need (mm_call_mono _ _) (c := vp_in (nI (b + 3)) 1332) (s' := (49, [(6, .long ((Int32.toInt64 (ov4 (a + 3))) * (Int32.toInt64 (un4 (b + 3))))), (5, .int 3), (8, .long ((Int32.toInt64 (ov3 (b + 2))) * (Int32.toInt64 (un3 (a + 2))))), (4, .int (nI r)), (0, .ref 1), (1, .int 2), (2, .int (nI a)), (3, .int (nI b))], [.int (ov4 (Int32.toNatClampNeg (nI (b + 3))))], wC ov4 un4 (nI n1) dp fa4 cu st fi se th db cn F, 0)) rfl (vp_in_nI (show (b + 3) < 1332 by omega) (by decide)) ?_
  rw [nI_clamp (show (b + 3) < 2 ^ 31 by omega)]
  show mm_W _ _ _ _ _ _ _ (49, [(6, .long ((Int32.toInt64 (ov4 (a + 3))) * (Int32.toInt64 (un4 (b + 3))))), (5, .int 3), (8, .long ((Int32.toInt64 (ov3 (b + 2))) * (Int32.toInt64 (un3 (a + 2))))), (4, .int (nI r)), (0, .ref 1), (1, .int 2), (2, .int (nI a)), (3, .int (nI b))], [.int (ov4 (b + 3))], wC ov4 un4 (nI n1) dp fa4 cu st fi se th db cn F, 0)
  refine mm_skip (mm_call_mono _ _) 6 (st' := (58, [(6, .long ((Int32.toInt64 (ov4 (a + 3))) * (Int32.toInt64 (un4 (b + 3))))), (5, .int 3), (8, .long ((Int32.toInt64 (ov3 (b + 2))) * (Int32.toInt64 (un3 (a + 2))))), (4, .int (nI r)), (0, .ref 1), (1, .int 2), (2, .int (nI a)), (3, .int (nI b))], [.int ((nI a) + 3), .ref 9, .long (Int32.toInt64 (ov4 (b + 3)))], wC ov4 un4 (nI n1) dp fa4 cu st fi se th db cn F, 0)) rfl ?_
  rw [nI_p3 (a)]
  show mm_W _ _ _ _ _ _ _ (58, [(6, .long ((Int32.toInt64 (ov4 (a + 3))) * (Int32.toInt64 (un4 (b + 3))))), (5, .int 3), (8, .long ((Int32.toInt64 (ov3 (b + 2))) * (Int32.toInt64 (un3 (a + 2))))), (4, .int (nI r)), (0, .ref 1), (1, .int 2), (2, .int (nI a)), (3, .int (nI b))], [.int (nI (a + 3)), .ref 9, .long (Int32.toInt64 (ov4 (b + 3)))], wC ov4 un4 (nI n1) dp fa4 cu st fi se th db cn F, 0)
  refine mm_need (mm_call_mono _ _) (c := vp_in (nI (a + 3)) 1332) (s' := (59, [(6, .long ((Int32.toInt64 (ov4 (a + 3))) * (Int32.toInt64 (un4 (b + 3))))), (5, .int 3), (8, .long ((Int32.toInt64 (ov3 (b + 2))) * (Int32.toInt64 (un3 (a + 2))))), (4, .int (nI r)), (0, .ref 1), (1, .int 2), (2, .int (nI a)), (3, .int (nI b))], [.int (un4 (Int32.toNatClampNeg (nI (a + 3)))), .long (Int32.toInt64 (ov4 (b + 3)))], wC ov4 un4 (nI n1) dp fa4 cu st fi se th db cn F, 0)) rfl (vp_in_nI (show (a + 3) < 1332 by omega) (by decide)) ?_
  rw [nI_clamp (show (a + 3) < 2 ^ 31 by omega)]
  show mm_W _ _ _ _ _ _ _ (59, [(6, .long ((Int32.toInt64 (ov4 (a + 3))) * (Int32.toInt64 (un4 (b + 3))))), (5, .int 3), (8, .long ((Int32.toInt64 (ov3 (b + 2))) * (Int32.toInt64 (un3 (a + 2))))), (4, .int (nI r)), (0, .ref 1), (1, .int 2), (2, .int (nI a)), (3, .int (nI b))], [.int (un4 (a + 3)), .long (Int32.toInt64 (ov4 (b + 3)))], wC ov4 un4 (nI n1) dp fa4 cu st fi se th db cn F, 0)
  refine mm_skip (mm_call_mono _ _) 15 (st' := (82, [(8, .long ((Int32.toInt64 (ov4 (b + 3))) * (Int32.toInt64 (un4 (a + 3))))), (6, .long ((Int32.toInt64 (ov4 (a + 3))) * (Int32.toInt64 (un4 (b + 3))))), (5, .int 3), (4, .int (nI r)), (0, .ref 1), (1, .int 2), (2, .int (nI a)), (3, .int (nI b))], [.int ((nI a) + 3), .ref 9, .long (((Int32.toInt64 (ov4 (a + 3))) * (Int32.toInt64 (un4 (b + 3)))) + ((Int32.toInt64 (ov4 (b + 3))) * (Int32.toInt64 (un4 (a + 3))))), .int ((nI r) + 3), .ref 1], wC ov4 un4 (nI n1) dp fa4 cu st fi se th db cn F, 0)) rfl ?_
  rw [nI_p3 (a)]
  rw [nI_p3 (r)]
  show mm_W _ _ _ _ _ _ _ (82, [(8, .long ((Int32.toInt64 (ov4 (b + 3))) * (Int32.toInt64 (un4 (a + 3))))), (6, .long ((Int32.toInt64 (ov4 (a + 3))) * (Int32.toInt64 (un4 (b + 3))))), (5, .int 3), (4, .int (nI r)), (0, .ref 1), (1, .int 2), (2, .int (nI a)), (3, .int (nI b))], [.int (nI (a + 3)), .ref 9, .long (((Int32.toInt64 (ov4 (a + 3))) * (Int32.toInt64 (un4 (b + 3)))) + ((Int32.toInt64 (ov4 (b + 3))) * (Int32.toInt64 (un4 (a + 3))))), .int (nI (r + 3)), .ref 1], wC ov4 un4 (nI n1) dp fa4 cu st fi se th db cn F, 0)
  refine mm_need (mm_call_mono _ _) (c := vp_in (nI (a + 3)) 1332) (s' := (83, [(8, .long ((Int32.toInt64 (ov4 (b + 3))) * (Int32.toInt64 (un4 (a + 3))))), (6, .long ((Int32.toInt64 (ov4 (a + 3))) * (Int32.toInt64 (un4 (b + 3))))), (5, .int 3), (4, .int (nI r)), (0, .ref 1), (1, .int 2), (2, .int (nI a)), (3, .int (nI b))], [.int (un4 (Int32.toNatClampNeg (nI (a + 3)))), .long (((Int32.toInt64 (ov4 (a + 3))) * (Int32.toInt64 (un4 (b + 3)))) + ((Int32.toInt64 (ov4 (b + 3))) * (Int32.toInt64 (un4 (a + 3))))), .int (nI (r + 3)), .ref 1], wC ov4 un4 (nI n1) dp fa4 cu st fi se th db cn F, 0)) rfl (vp_in_nI (show (a + 3) < 1332 by omega) (by decide)) ?_
  rw [nI_clamp (show (a + 3) < 2 ^ 31 by omega)]
  show mm_W _ _ _ _ _ _ _ (83, [(8, .long ((Int32.toInt64 (ov4 (b + 3))) * (Int32.toInt64 (un4 (a + 3))))), (6, .long ((Int32.toInt64 (ov4 (a + 3))) * (Int32.toInt64 (un4 (b + 3))))), (5, .int 3), (4, .int (nI r)), (0, .ref 1), (1, .int 2), (2, .int (nI a)), (3, .int (nI b))], [.int (un4 (a + 3)), .long (((Int32.toInt64 (ov4 (a + 3))) * (Int32.toInt64 (un4 (b + 3)))) + ((Int32.toInt64 (ov4 (b + 3))) * (Int32.toInt64 (un4 (a + 3))))), .int (nI (r + 3)), .ref 1], wC ov4 un4 (nI n1) dp fa4 cu st fi se th db cn F, 0)
  refine mm_skip (mm_call_mono _ _) 6 (st' := (92, [(8, .long ((Int32.toInt64 (ov4 (b + 3))) * (Int32.toInt64 (un4 (a + 3))))), (6, .long ((Int32.toInt64 (ov4 (a + 3))) * (Int32.toInt64 (un4 (b + 3))))), (5, .int 3), (4, .int (nI r)), (0, .ref 1), (1, .int 2), (2, .int (nI a)), (3, .int (nI b))], [.int ((nI b) + 3), .ref 9, .long (Int32.toInt64 (un4 (a + 3))), .long (((Int32.toInt64 (ov4 (a + 3))) * (Int32.toInt64 (un4 (b + 3)))) + ((Int32.toInt64 (ov4 (b + 3))) * (Int32.toInt64 (un4 (a + 3))))), .int (nI (r + 3)), .ref 1], wC ov4 un4 (nI n1) dp fa4 cu st fi se th db cn F, 0)) rfl ?_
  rw [nI_p3 (b)]
  show mm_W _ _ _ _ _ _ _ (92, [(8, .long ((Int32.toInt64 (ov4 (b + 3))) * (Int32.toInt64 (un4 (a + 3))))), (6, .long ((Int32.toInt64 (ov4 (a + 3))) * (Int32.toInt64 (un4 (b + 3))))), (5, .int 3), (4, .int (nI r)), (0, .ref 1), (1, .int 2), (2, .int (nI a)), (3, .int (nI b))], [.int (nI (b + 3)), .ref 9, .long (Int32.toInt64 (un4 (a + 3))), .long (((Int32.toInt64 (ov4 (a + 3))) * (Int32.toInt64 (un4 (b + 3)))) + ((Int32.toInt64 (ov4 (b + 3))) * (Int32.toInt64 (un4 (a + 3))))), .int (nI (r + 3)), .ref 1], wC ov4 un4 (nI n1) dp fa4 cu st fi se th db cn F, 0)
  refine mm_need (mm_call_mono _ _) (c := vp_in (nI (b + 3)) 1332) (s' := (93, [(8, .long ((Int32.toInt64 (ov4 (b + 3))) * (Int32.toInt64 (un4 (a + 3))))), (6, .long ((Int32.toInt64 (ov4 (a + 3))) * (Int32.toInt64 (un4 (b + 3))))), (5, .int 3), (4, .int (nI r)), (0, .ref 1), (1, .int 2), (2, .int (nI a)), (3, .int (nI b))], [.int (un4 (Int32.toNatClampNeg (nI (b + 3)))), .long (Int32.toInt64 (un4 (a + 3))), .long (((Int32.toInt64 (ov4 (a + 3))) * (Int32.toInt64 (un4 (b + 3)))) + ((Int32.toInt64 (ov4 (b + 3))) * (Int32.toInt64 (un4 (a + 3))))), .int (nI (r + 3)), .ref 1], wC ov4 un4 (nI n1) dp fa4 cu st fi se th db cn F, 0)) rfl (vp_in_nI (show (b + 3) < 1332 by omega) (by decide)) ?_
  rw [nI_clamp (show (b + 3) < 2 ^ 31 by omega)]
  show mm_W _ _ _ _ _ _ _ (93, [(8, .long ((Int32.toInt64 (ov4 (b + 3))) * (Int32.toInt64 (un4 (a + 3))))), (6, .long ((Int32.toInt64 (ov4 (a + 3))) * (Int32.toInt64 (un4 (b + 3))))), (5, .int 3), (4, .int (nI r)), (0, .ref 1), (1, .int 2), (2, .int (nI a)), (3, .int (nI b))], [.int (un4 (b + 3)), .long (Int32.toInt64 (un4 (a + 3))), .long (((Int32.toInt64 (ov4 (a + 3))) * (Int32.toInt64 (un4 (b + 3)))) + ((Int32.toInt64 (ov4 (b + 3))) * (Int32.toInt64 (un4 (a + 3))))), .int (nI (r + 3)), .ref 1], wC ov4 un4 (nI n1) dp fa4 cu st fi se th db cn F, 0)
  refine mm_skip (mm_call_mono _ _) 2 (st' := (95, [(8, .long ((Int32.toInt64 (ov4 (b + 3))) * (Int32.toInt64 (un4 (a + 3))))), (6, .long ((Int32.toInt64 (ov4 (a + 3))) * (Int32.toInt64 (un4 (b + 3))))), (5, .int 3), (4, .int (nI r)), (0, .ref 1), (1, .int 2), (2, .int (nI a)), (3, .int (nI b))], [.long ((Int32.toInt64 (un4 (a + 3))) * (Int32.toInt64 (un4 (b + 3)))), .long (((Int32.toInt64 (ov4 (a + 3))) * (Int32.toInt64 (un4 (b + 3)))) + ((Int32.toInt64 (ov4 (b + 3))) * (Int32.toInt64 (un4 (a + 3))))), .int (nI (r + 3)), .ref 1], wC ov4 un4 (nI n1) dp fa4 cu st fi se th db cn F, 0)) rfl ?_
  refine mm_inv (mm_call_mono _ _) (j := 139) (a := [.ref 1, .int (nI (r + 3)), .long (((Int32.toInt64 (ov4 (a + 3))) * (Int32.toInt64 (un4 (b + 3)))) + ((Int32.toInt64 (ov4 (b + 3))) * (Int32.toInt64 (un4 (a + 3))))), .long ((Int32.toInt64 (un4 (a + 3))) * (Int32.toInt64 (un4 (b + 3))))]) (M := wC ov4 un4 (nI n1) dp fa4 cu st fi se th db cn F) (u := 0) rfl (by decide) (ct_N_put_add (a := a + 3) (b := b + 3) (c := r + 3) k3.1 (by omega) (fun h => ⟨(arg_v ha k3 h (j := 3) (by omega)).1, (arg_v hb k3 h (j := 3) (by omega)).1, pt_z k3 h (by omega)⟩) (fun ov5 un5 fa5 p4 => ?_))
  show mm_W _ _ _ _ _ _ _ (98, [(8, .long ((Int32.toInt64 (ov4 (b + 3))) * (Int32.toInt64 (un4 (a + 3))))), (6, .long ((Int32.toInt64 (ov4 (a + 3))) * (Int32.toInt64 (un4 (b + 3))))), (5, .int 3), (4, .int (nI r)), (0, .ref 1), (1, .int 2), (2, .int (nI a)), (3, .int (nI b))], [], wC ov5 un5 (nI n1) dp fa5 cu st fi se th db cn F, 0)
  have k4 := pt_s (i := 3) k3 (by omega) hr.1 p4 (fun h => by rw [← (arg_v ha k3 h (j := 3) (by omega)).2, ← (arg_v hb k3 h (j := 3) (by omega)).2] <;> rfl)
  refine mm_skip (mm_call_mono _ _) 6 (st' := (14, [(5, .int 4), (8, .long ((Int32.toInt64 (ov4 (b + 3))) * (Int32.toInt64 (un4 (a + 3))))), (6, .long ((Int32.toInt64 (ov4 (a + 3))) * (Int32.toInt64 (un4 (b + 3))))), (4, .int (nI r)), (0, .ref 1), (1, .int 2), (2, .int (nI a)), (3, .int (nI b))], [.int 4, .int 4], wC ov5 un5 (nI n1) dp fa5 cu st fi se th db cn F, 0)) rfl ?_
  refine mm_branch (mm_call_mono _ _) (c := (4 : Int32) ≤ 4) (s1 := (104, [(5, .int 4), (8, .long ((Int32.toInt64 (ov4 (b + 3))) * (Int32.toInt64 (un4 (a + 3))))), (6, .long ((Int32.toInt64 (ov4 (a + 3))) * (Int32.toInt64 (un4 (b + 3))))), (4, .int (nI r)), (0, .ref 1), (1, .int 2), (2, .int (nI a)), (3, .int (nI b))], [], wC ov5 un5 (nI n1) dp fa5 cu st fi se th db cn F, 0)) (s2 := (17, [(5, .int 4), (8, .long ((Int32.toInt64 (ov4 (b + 3))) * (Int32.toInt64 (un4 (a + 3))))), (6, .long ((Int32.toInt64 (ov4 (a + 3))) * (Int32.toInt64 (un4 (b + 3))))), (4, .int (nI r)), (0, .ref 1), (1, .int 2), (2, .int (nI a)), (3, .int (nI b))], [], wC ov5 un5 (nI n1) dp fa5 cu st fi se th db cn F, 0)) rfl (fun _ => ?_) (fun h => absurd (by decide) h)
  refine mm_skip (mm_call_mono _ _) 1 (st' := (106, [(5, .int 4), (8, .long ((Int32.toInt64 (ov4 (b + 3))) * (Int32.toInt64 (un4 (a + 3))))), (6, .long ((Int32.toInt64 (ov4 (a + 3))) * (Int32.toInt64 (un4 (b + 3))))), (4, .int (nI r)), (0, .ref 1), (1, .int 2), (2, .int (nI a)), (3, .int (nI b))], [.int (nI r)], wC ov5 un5 (nI n1) dp fa5 cu st fi se th db cn F, 0)) rfl ?_
  exact mm_ret (mm_call_mono _ _) (c := True) (r := .inl (some (.int (nI r)))) (M := wC ov5 un5 (nI n1) dp fa5 cu st fi se th db cn F) (u := 0) rfl trivial (by decide) (hQ _ _ _ _ _ (by have h9 := op_of (by first | exact Or.inl rfl | exact Or.inr (Or.inl rfl) | exact Or.inr (Or.inr rfl)) ⟨hr.1, hr.2.1⟩ (fun h0 j hj v e => fadd_v ((ha.2 h0).2 j hj) ((hb.2 h0).2 j hj) e) k4; rw [← hr.2.2] at h9; exact h9))

set_option maxRecDepth 100000 in
theorem ct_N_half_2 {d : Nat} {ov un : Nat → Int32} {dp fa : Int32} {cu : mm_cu} {st fi se th db : Nat → Int32} {cn : Int32} {F : mm_M} {n a : Nat} {Q : mm_R → mm_M → Prop} (hfa : mm_z fa) (hn : 308 ≤ n ∧ n ≤ 1332) (ha : arg ov un n fa 4 a) (hQ : ∀ (ov1 un1 : Nat → Int32) (n1 : Nat) (fa1 : Int32) (r : Nat), opR ov un n fa 4 (nhalf 4 (rd ov un a)) ov1 un1 n1 fa1 r → Q (.inl (some (.int (nI r)))) (wC ov1 un1 (nI n1) dp fa1 cu st fi se th db cn F)) : mm_call mm_Tb (d + 2) 144 [.ref 1, .int 2, .int (nI a)] (wC ov un (nI n) dp fa cu st fi se th db cn F) Q := by
  have ha1 := ha.1
  refine mm_in mt_144 (Nat.le_of_ble_eq_true rfl) ?_
  show mm_W _ _ _ _ _ _ _ (0, [(0, .ref 1), (1, .int 2), (2, .int (nI a))], [], wC ov un (nI n) dp fa cu st fi se th db cn F, 0)
  refine mm_skip (mm_call_mono _ _) 1 (st' := (1, [(0, .ref 1), (1, .int 2), (2, .int (nI a))], [.ref 1], wC ov un (nI n) dp fa cu st fi se th db cn F, 0)) rfl ?_
  refine mm_inv (mm_call_mono _ _) (j := 138) (a := [.ref 1]) (M := wC ov un (nI n) dp fa cu st fi se th db cn F) (u := 0) rfl (by decide) (ct_N_reserve hn (fun ov1 un1 n1 fa1 r h0 => ?_))
  show mm_W _ _ _ _ _ _ _ (4, [(0, .ref 1), (1, .int 2), (2, .int (nI a))], [.int (nI r)], wC ov1 un1 (nI n1) dp fa1 cu st fi se th db cn F, 0)
  have hr := res_r h0 hn.1
  have k0 := pt_0 (fun j => fhalf (rd ov un a j)) hfa hn.1 h0
  refine mm_skip (mm_call_mono _ _) 7 (st' := (13, [(4, .int 0), (3, .int (nI r)), (0, .ref 1), (1, .int 2), (2, .int (nI a))], [.int 4, .int 0], wC ov1 un1 (nI n1) dp fa1 cu st fi se th db cn F, 0)) rfl ?_
  refine mm_branch (mm_call_mono _ _) (c := (4 : Int32) ≤ 0) (s1 := (54, [(4, .int 0), (3, .int (nI r)), (0, .ref 1), (1, .int 2), (2, .int (nI a))], [], wC ov1 un1 (nI n1) dp fa1 cu st fi se th db cn F, 0)) (s2 := (16, [(4, .int 0), (3, .int (nI r)), (0, .ref 1), (1, .int 2), (2, .int (nI a))], [], wC ov1 un1 (nI n1) dp fa1 cu st fi se th db cn F, 0)) rfl (fun h => absurd h (by decide)) (fun _ => ?_)
  refine mm_skip (mm_call_mono _ _) 9 (st' := (29, [(4, .int 0), (3, .int (nI r)), (0, .ref 1), (1, .int 2), (2, .int (nI a))], [.int ((nI a) + 0), .ref 8, .int ((nI r) + 0), .ref 1], wC ov1 un1 (nI n1) dp fa1 cu st fi se th db cn F, 0)) rfl ?_
  rw [nI_p0 (a)]
  rw [nI_p0 (r)]
  show mm_W _ _ _ _ _ _ _ (29, [(4, .int 0), (3, .int (nI r)), (0, .ref 1), (1, .int 2), (2, .int (nI a))], [.int (nI a), .ref 8, .int (nI r), .ref 1], wC ov1 un1 (nI n1) dp fa1 cu st fi se th db cn F, 0)
  refine mm_need (mm_call_mono _ _) (c := vp_in (nI a) 1332) (s' := (30, [(4, .int 0), (3, .int (nI r)), (0, .ref 1), (1, .int 2), (2, .int (nI a))], [.int (ov1 (Int32.toNatClampNeg (nI a))), .int (nI r), .ref 1], wC ov1 un1 (nI n1) dp fa1 cu st fi se th db cn F, 0)) rfl (vp_in_nI (show a < 1332 by omega) (by decide)) ?_
  rw [nI_clamp (show a < 2 ^ 31 by omega)]
  show mm_W _ _ _ _ _ _ _ (30, [(4, .int 0), (3, .int (nI r)), (0, .ref 1), (1, .int 2), (2, .int (nI a))], [.int (ov1 a), .int (nI r), .ref 1], wC ov1 un1 (nI n1) dp fa1 cu st fi se th db cn F, 0)
  refine mm_skip (mm_call_mono _ _) 7 (st' := (42, [(4, .int 0), (3, .int (nI r)), (0, .ref 1), (1, .int 2), (2, .int (nI a))], [.int ((nI a) + 0), .ref 9, .long 2, .long (Int32.toInt64 (ov1 a)), .int (nI r), .ref 1], wC ov1 un1 (nI n1) dp fa1 cu st fi se th db cn F, 0)) rfl ?_
  rw [nI_p0 (a)]
  show mm_W _ _ _ _ _ _ _ (42, [(4, .int 0), (3, .int (nI r)), (0, .ref 1), (1, .int 2), (2, .int (nI a))], [.int (nI a), .ref 9, .long 2, .long (Int32.toInt64 (ov1 a)), .int (nI r), .ref 1], wC ov1 un1 (nI n1) dp fa1 cu st fi se th db cn F, 0)
  refine mm_need (mm_call_mono _ _) (c := vp_in (nI a) 1332) (s' := (43, [(4, .int 0), (3, .int (nI r)), (0, .ref 1), (1, .int 2), (2, .int (nI a))], [.int (un1 (Int32.toNatClampNeg (nI a))), .long 2, .long (Int32.toInt64 (ov1 a)), .int (nI r), .ref 1], wC ov1 un1 (nI n1) dp fa1 cu st fi se th db cn F, 0)) rfl (vp_in_nI (show a < 1332 by omega) (by decide)) ?_
  rw [nI_clamp (show a < 2 ^ 31 by omega)]
  show mm_W _ _ _ _ _ _ _ (43, [(4, .int 0), (3, .int (nI r)), (0, .ref 1), (1, .int 2), (2, .int (nI a))], [.int (un1 a), .long 2, .long (Int32.toInt64 (ov1 a)), .int (nI r), .ref 1], wC ov1 un1 (nI n1) dp fa1 cu st fi se th db cn F, 0)
  refine mm_skip (mm_call_mono _ _) 2 (st' := (45, [(4, .int 0), (3, .int (nI r)), (0, .ref 1), (1, .int 2), (2, .int (nI a))], [.long (2 * (Int32.toInt64 (un1 a))), .long (Int32.toInt64 (ov1 a)), .int (nI r), .ref 1], wC ov1 un1 (nI n1) dp fa1 cu st fi se th db cn F, 0)) rfl ?_
  refine mm_inv (mm_call_mono _ _) (j := 139) (a := [.ref 1, .int (nI r), .long (Int32.toInt64 (ov1 a)), .long (2 * (Int32.toInt64 (un1 a)))]) (M := wC ov1 un1 (nI n1) dp fa1 cu st fi se th db cn F) (u := 0) rfl (by decide) (ct_N_put_half (a := a) (c := r) k0.1 (by omega) (fun h => ⟨(arg_v ha k0 h (j := 0) (by omega)).1, pt_z k0 h (by omega)⟩) (fun ov2 un2 fa2 p1 => ?_))
  show mm_W _ _ _ _ _ _ _ (48, [(4, .int 0), (3, .int (nI r)), (0, .ref 1), (1, .int 2), (2, .int (nI a))], [], wC ov2 un2 (nI n1) dp fa2 cu st fi se th db cn F, 0)
  have k1 := pt_s (i := 0) k0 (by omega) hr.1 p1 (fun h => by rw [← (arg_v ha k0 h (j := 0) (by omega)).2] <;> rfl)
  refine mm_skip (mm_call_mono _ _) 6 (st' := (13, [(4, .int 1), (3, .int (nI r)), (0, .ref 1), (1, .int 2), (2, .int (nI a))], [.int 4, .int 1], wC ov2 un2 (nI n1) dp fa2 cu st fi se th db cn F, 0)) rfl ?_
  refine mm_branch (mm_call_mono _ _) (c := (4 : Int32) ≤ 1) (s1 := (54, [(4, .int 1), (3, .int (nI r)), (0, .ref 1), (1, .int 2), (2, .int (nI a))], [], wC ov2 un2 (nI n1) dp fa2 cu st fi se th db cn F, 0)) (s2 := (16, [(4, .int 1), (3, .int (nI r)), (0, .ref 1), (1, .int 2), (2, .int (nI a))], [], wC ov2 un2 (nI n1) dp fa2 cu st fi se th db cn F, 0)) rfl (fun h => absurd h (by decide)) (fun _ => ?_)
  refine mm_skip (mm_call_mono _ _) 9 (st' := (29, [(4, .int 1), (3, .int (nI r)), (0, .ref 1), (1, .int 2), (2, .int (nI a))], [.int ((nI a) + 1), .ref 8, .int ((nI r) + 1), .ref 1], wC ov2 un2 (nI n1) dp fa2 cu st fi se th db cn F, 0)) rfl ?_
  rw [nI_p1 (a)]
  rw [nI_p1 (r)]
  show mm_W _ _ _ _ _ _ _ (29, [(4, .int 1), (3, .int (nI r)), (0, .ref 1), (1, .int 2), (2, .int (nI a))], [.int (nI (a + 1)), .ref 8, .int (nI (r + 1)), .ref 1], wC ov2 un2 (nI n1) dp fa2 cu st fi se th db cn F, 0)
  refine mm_need (mm_call_mono _ _) (c := vp_in (nI (a + 1)) 1332) (s' := (30, [(4, .int 1), (3, .int (nI r)), (0, .ref 1), (1, .int 2), (2, .int (nI a))], [.int (ov2 (Int32.toNatClampNeg (nI (a + 1)))), .int (nI (r + 1)), .ref 1], wC ov2 un2 (nI n1) dp fa2 cu st fi se th db cn F, 0)) rfl (vp_in_nI (show (a + 1) < 1332 by omega) (by decide)) ?_
  rw [nI_clamp (show (a + 1) < 2 ^ 31 by omega)]
  show mm_W _ _ _ _ _ _ _ (30, [(4, .int 1), (3, .int (nI r)), (0, .ref 1), (1, .int 2), (2, .int (nI a))], [.int (ov2 (a + 1)), .int (nI (r + 1)), .ref 1], wC ov2 un2 (nI n1) dp fa2 cu st fi se th db cn F, 0)
  refine mm_skip (mm_call_mono _ _) 7 (st' := (42, [(4, .int 1), (3, .int (nI r)), (0, .ref 1), (1, .int 2), (2, .int (nI a))], [.int ((nI a) + 1), .ref 9, .long 2, .long (Int32.toInt64 (ov2 (a + 1))), .int (nI (r + 1)), .ref 1], wC ov2 un2 (nI n1) dp fa2 cu st fi se th db cn F, 0)) rfl ?_
  rw [nI_p1 (a)]
  show mm_W _ _ _ _ _ _ _ (42, [(4, .int 1), (3, .int (nI r)), (0, .ref 1), (1, .int 2), (2, .int (nI a))], [.int (nI (a + 1)), .ref 9, .long 2, .long (Int32.toInt64 (ov2 (a + 1))), .int (nI (r + 1)), .ref 1], wC ov2 un2 (nI n1) dp fa2 cu st fi se th db cn F, 0)
  refine mm_need (mm_call_mono _ _) (c := vp_in (nI (a + 1)) 1332) (s' := (43, [(4, .int 1), (3, .int (nI r)), (0, .ref 1), (1, .int 2), (2, .int (nI a))], [.int (un2 (Int32.toNatClampNeg (nI (a + 1)))), .long 2, .long (Int32.toInt64 (ov2 (a + 1))), .int (nI (r + 1)), .ref 1], wC ov2 un2 (nI n1) dp fa2 cu st fi se th db cn F, 0)) rfl (vp_in_nI (show (a + 1) < 1332 by omega) (by decide)) ?_
  rw [nI_clamp (show (a + 1) < 2 ^ 31 by omega)]
  show mm_W _ _ _ _ _ _ _ (43, [(4, .int 1), (3, .int (nI r)), (0, .ref 1), (1, .int 2), (2, .int (nI a))], [.int (un2 (a + 1)), .long 2, .long (Int32.toInt64 (ov2 (a + 1))), .int (nI (r + 1)), .ref 1], wC ov2 un2 (nI n1) dp fa2 cu st fi se th db cn F, 0)
  refine mm_skip (mm_call_mono _ _) 2 (st' := (45, [(4, .int 1), (3, .int (nI r)), (0, .ref 1), (1, .int 2), (2, .int (nI a))], [.long (2 * (Int32.toInt64 (un2 (a + 1)))), .long (Int32.toInt64 (ov2 (a + 1))), .int (nI (r + 1)), .ref 1], wC ov2 un2 (nI n1) dp fa2 cu st fi se th db cn F, 0)) rfl ?_
  refine mm_inv (mm_call_mono _ _) (j := 139) (a := [.ref 1, .int (nI (r + 1)), .long (Int32.toInt64 (ov2 (a + 1))), .long (2 * (Int32.toInt64 (un2 (a + 1))))]) (M := wC ov2 un2 (nI n1) dp fa2 cu st fi se th db cn F) (u := 0) rfl (by decide) (ct_N_put_half (a := a + 1) (c := r + 1) k1.1 (by omega) (fun h => ⟨(arg_v ha k1 h (j := 1) (by omega)).1, pt_z k1 h (by omega)⟩) (fun ov3 un3 fa3 p2 => ?_))
  show mm_W _ _ _ _ _ _ _ (48, [(4, .int 1), (3, .int (nI r)), (0, .ref 1), (1, .int 2), (2, .int (nI a))], [], wC ov3 un3 (nI n1) dp fa3 cu st fi se th db cn F, 0)
  have k2 := pt_s (i := 1) k1 (by omega) hr.1 p2 (fun h => by rw [← (arg_v ha k1 h (j := 1) (by omega)).2] <;> rfl)
  refine mm_skip (mm_call_mono _ _) 6 (st' := (13, [(4, .int 2), (3, .int (nI r)), (0, .ref 1), (1, .int 2), (2, .int (nI a))], [.int 4, .int 2], wC ov3 un3 (nI n1) dp fa3 cu st fi se th db cn F, 0)) rfl ?_
  refine mm_branch (mm_call_mono _ _) (c := (4 : Int32) ≤ 2) (s1 := (54, [(4, .int 2), (3, .int (nI r)), (0, .ref 1), (1, .int 2), (2, .int (nI a))], [], wC ov3 un3 (nI n1) dp fa3 cu st fi se th db cn F, 0)) (s2 := (16, [(4, .int 2), (3, .int (nI r)), (0, .ref 1), (1, .int 2), (2, .int (nI a))], [], wC ov3 un3 (nI n1) dp fa3 cu st fi se th db cn F, 0)) rfl (fun h => absurd h (by decide)) (fun _ => ?_)
  refine mm_skip (mm_call_mono _ _) 9 (st' := (29, [(4, .int 2), (3, .int (nI r)), (0, .ref 1), (1, .int 2), (2, .int (nI a))], [.int ((nI a) + 2), .ref 8, .int ((nI r) + 2), .ref 1], wC ov3 un3 (nI n1) dp fa3 cu st fi se th db cn F, 0)) rfl ?_
  rw [nI_p2 (a)]
  rw [nI_p2 (r)]
  show mm_W _ _ _ _ _ _ _ (29, [(4, .int 2), (3, .int (nI r)), (0, .ref 1), (1, .int 2), (2, .int (nI a))], [.int (nI (a + 2)), .ref 8, .int (nI (r + 2)), .ref 1], wC ov3 un3 (nI n1) dp fa3 cu st fi se th db cn F, 0)
  refine mm_need (mm_call_mono _ _) (c := vp_in (nI (a + 2)) 1332) (s' := (30, [(4, .int 2), (3, .int (nI r)), (0, .ref 1), (1, .int 2), (2, .int (nI a))], [.int (ov3 (Int32.toNatClampNeg (nI (a + 2)))), .int (nI (r + 2)), .ref 1], wC ov3 un3 (nI n1) dp fa3 cu st fi se th db cn F, 0)) rfl (vp_in_nI (show (a + 2) < 1332 by omega) (by decide)) ?_
  rw [nI_clamp (show (a + 2) < 2 ^ 31 by omega)]
  show mm_W _ _ _ _ _ _ _ (30, [(4, .int 2), (3, .int (nI r)), (0, .ref 1), (1, .int 2), (2, .int (nI a))], [.int (ov3 (a + 2)), .int (nI (r + 2)), .ref 1], wC ov3 un3 (nI n1) dp fa3 cu st fi se th db cn F, 0)
  refine mm_skip (mm_call_mono _ _) 7 (st' := (42, [(4, .int 2), (3, .int (nI r)), (0, .ref 1), (1, .int 2), (2, .int (nI a))], [.int ((nI a) + 2), .ref 9, .long 2, .long (Int32.toInt64 (ov3 (a + 2))), .int (nI (r + 2)), .ref 1], wC ov3 un3 (nI n1) dp fa3 cu st fi se th db cn F, 0)) rfl ?_
  rw [nI_p2 (a)]
  show mm_W _ _ _ _ _ _ _ (42, [(4, .int 2), (3, .int (nI r)), (0, .ref 1), (1, .int 2), (2, .int (nI a))], [.int (nI (a + 2)), .ref 9, .long 2, .long (Int32.toInt64 (ov3 (a + 2))), .int (nI (r + 2)), .ref 1], wC ov3 un3 (nI n1) dp fa3 cu st fi se th db cn F, 0)
  refine mm_need (mm_call_mono _ _) (c := vp_in (nI (a + 2)) 1332) (s' := (43, [(4, .int 2), (3, .int (nI r)), (0, .ref 1), (1, .int 2), (2, .int (nI a))], [.int (un3 (Int32.toNatClampNeg (nI (a + 2)))), .long 2, .long (Int32.toInt64 (ov3 (a + 2))), .int (nI (r + 2)), .ref 1], wC ov3 un3 (nI n1) dp fa3 cu st fi se th db cn F, 0)) rfl (vp_in_nI (show (a + 2) < 1332 by omega) (by decide)) ?_
  rw [nI_clamp (show (a + 2) < 2 ^ 31 by omega)]
  show mm_W _ _ _ _ _ _ _ (43, [(4, .int 2), (3, .int (nI r)), (0, .ref 1), (1, .int 2), (2, .int (nI a))], [.int (un3 (a + 2)), .long 2, .long (Int32.toInt64 (ov3 (a + 2))), .int (nI (r + 2)), .ref 1], wC ov3 un3 (nI n1) dp fa3 cu st fi se th db cn F, 0)
  refine mm_skip (mm_call_mono _ _) 2 (st' := (45, [(4, .int 2), (3, .int (nI r)), (0, .ref 1), (1, .int 2), (2, .int (nI a))], [.long (2 * (Int32.toInt64 (un3 (a + 2)))), .long (Int32.toInt64 (ov3 (a + 2))), .int (nI (r + 2)), .ref 1], wC ov3 un3 (nI n1) dp fa3 cu st fi se th db cn F, 0)) rfl ?_
  refine mm_inv (mm_call_mono _ _) (j := 139) (a := [.ref 1, .int (nI (r + 2)), .long (Int32.toInt64 (ov3 (a + 2))), .long (2 * (Int32.toInt64 (un3 (a + 2))))]) (M := wC ov3 un3 (nI n1) dp fa3 cu st fi se th db cn F) (u := 0) rfl (by decide) (ct_N_put_half (a := a + 2) (c := r + 2) k2.1 (by omega) (fun h => ⟨(arg_v ha k2 h (j := 2) (by omega)).1, pt_z k2 h (by omega)⟩) (fun ov4 un4 fa4 p3 => ?_))
  show mm_W _ _ _ _ _ _ _ (48, [(4, .int 2), (3, .int (nI r)), (0, .ref 1), (1, .int 2), (2, .int (nI a))], [], wC ov4 un4 (nI n1) dp fa4 cu st fi se th db cn F, 0)
  have k3 := pt_s (i := 2) k2 (by omega) hr.1 p3 (fun h => by rw [← (arg_v ha k2 h (j := 2) (by omega)).2] <;> rfl)
  refine mm_skip (mm_call_mono _ _) 6 (st' := (13, [(4, .int 3), (3, .int (nI r)), (0, .ref 1), (1, .int 2), (2, .int (nI a))], [.int 4, .int 3], wC ov4 un4 (nI n1) dp fa4 cu st fi se th db cn F, 0)) rfl ?_
  refine mm_branch (mm_call_mono _ _) (c := (4 : Int32) ≤ 3) (s1 := (54, [(4, .int 3), (3, .int (nI r)), (0, .ref 1), (1, .int 2), (2, .int (nI a))], [], wC ov4 un4 (nI n1) dp fa4 cu st fi se th db cn F, 0)) (s2 := (16, [(4, .int 3), (3, .int (nI r)), (0, .ref 1), (1, .int 2), (2, .int (nI a))], [], wC ov4 un4 (nI n1) dp fa4 cu st fi se th db cn F, 0)) rfl (fun h => absurd h (by decide)) (fun _ => ?_)
  refine mm_skip (mm_call_mono _ _) 9 (st' := (29, [(4, .int 3), (3, .int (nI r)), (0, .ref 1), (1, .int 2), (2, .int (nI a))], [.int ((nI a) + 3), .ref 8, .int ((nI r) + 3), .ref 1], wC ov4 un4 (nI n1) dp fa4 cu st fi se th db cn F, 0)) rfl ?_
  rw [nI_p3 (a)]
  rw [nI_p3 (r)]
  show mm_W _ _ _ _ _ _ _ (29, [(4, .int 3), (3, .int (nI r)), (0, .ref 1), (1, .int 2), (2, .int (nI a))], [.int (nI (a + 3)), .ref 8, .int (nI (r + 3)), .ref 1], wC ov4 un4 (nI n1) dp fa4 cu st fi se th db cn F, 0)
  refine mm_need (mm_call_mono _ _) (c := vp_in (nI (a + 3)) 1332) (s' := (30, [(4, .int 3), (3, .int (nI r)), (0, .ref 1), (1, .int 2), (2, .int (nI a))], [.int (ov4 (Int32.toNatClampNeg (nI (a + 3)))), .int (nI (r + 3)), .ref 1], wC ov4 un4 (nI n1) dp fa4 cu st fi se th db cn F, 0)) rfl (vp_in_nI (show (a + 3) < 1332 by omega) (by decide)) ?_
  rw [nI_clamp (show (a + 3) < 2 ^ 31 by omega)]
  show mm_W _ _ _ _ _ _ _ (30, [(4, .int 3), (3, .int (nI r)), (0, .ref 1), (1, .int 2), (2, .int (nI a))], [.int (ov4 (a + 3)), .int (nI (r + 3)), .ref 1], wC ov4 un4 (nI n1) dp fa4 cu st fi se th db cn F, 0)
  refine mm_skip (mm_call_mono _ _) 7 (st' := (42, [(4, .int 3), (3, .int (nI r)), (0, .ref 1), (1, .int 2), (2, .int (nI a))], [.int ((nI a) + 3), .ref 9, .long 2, .long (Int32.toInt64 (ov4 (a + 3))), .int (nI (r + 3)), .ref 1], wC ov4 un4 (nI n1) dp fa4 cu st fi se th db cn F, 0)) rfl ?_
  rw [nI_p3 (a)]
  show mm_W _ _ _ _ _ _ _ (42, [(4, .int 3), (3, .int (nI r)), (0, .ref 1), (1, .int 2), (2, .int (nI a))], [.int (nI (a + 3)), .ref 9, .long 2, .long (Int32.toInt64 (ov4 (a + 3))), .int (nI (r + 3)), .ref 1], wC ov4 un4 (nI n1) dp fa4 cu st fi se th db cn F, 0)
  refine mm_need (mm_call_mono _ _) (c := vp_in (nI (a + 3)) 1332) (s' := (43, [(4, .int 3), (3, .int (nI r)), (0, .ref 1), (1, .int 2), (2, .int (nI a))], [.int (un4 (Int32.toNatClampNeg (nI (a + 3)))), .long 2, .long (Int32.toInt64 (ov4 (a + 3))), .int (nI (r + 3)), .ref 1], wC ov4 un4 (nI n1) dp fa4 cu st fi se th db cn F, 0)) rfl (vp_in_nI (show (a + 3) < 1332 by omega) (by decide)) ?_
  rw [nI_clamp (show (a + 3) < 2 ^ 31 by omega)]
  show mm_W _ _ _ _ _ _ _ (43, [(4, .int 3), (3, .int (nI r)), (0, .ref 1), (1, .int 2), (2, .int (nI a))], [.int (un4 (a + 3)), .long 2, .long (Int32.toInt64 (ov4 (a + 3))), .int (nI (r + 3)), .ref 1], wC ov4 un4 (nI n1) dp fa4 cu st fi se th db cn F, 0)
  refine mm_skip (mm_call_mono _ _) 2 (st' := (45, [(4, .int 3), (3, .int (nI r)), (0, .ref 1), (1, .int 2), (2, .int (nI a))], [.long (2 * (Int32.toInt64 (un4 (a + 3)))), .long (Int32.toInt64 (ov4 (a + 3))), .int (nI (r + 3)), .ref 1], wC ov4 un4 (nI n1) dp fa4 cu st fi se th db cn F, 0)) rfl ?_
  refine mm_inv (mm_call_mono _ _) (j := 139) (a := [.ref 1, .int (nI (r + 3)), .long (Int32.toInt64 (ov4 (a + 3))), .long (2 * (Int32.toInt64 (un4 (a + 3))))]) (M := wC ov4 un4 (nI n1) dp fa4 cu st fi se th db cn F) (u := 0) rfl (by decide) (ct_N_put_half (a := a + 3) (c := r + 3) k3.1 (by omega) (fun h => ⟨(arg_v ha k3 h (j := 3) (by omega)).1, pt_z k3 h (by omega)⟩) (fun ov5 un5 fa5 p4 => ?_))
  show mm_W _ _ _ _ _ _ _ (48, [(4, .int 3), (3, .int (nI r)), (0, .ref 1), (1, .int 2), (2, .int (nI a))], [], wC ov5 un5 (nI n1) dp fa5 cu st fi se th db cn F, 0)
  have k4 := pt_s (i := 3) k3 (by omega) hr.1 p4 (fun h => by rw [← (arg_v ha k3 h (j := 3) (by omega)).2] <;> rfl)
  refine mm_skip (mm_call_mono _ _) 6 (st' := (13, [(4, .int 4), (3, .int (nI r)), (0, .ref 1), (1, .int 2), (2, .int (nI a))], [.int 4, .int 4], wC ov5 un5 (nI n1) dp fa5 cu st fi se th db cn F, 0)) rfl ?_
  refine mm_branch (mm_call_mono _ _) (c := (4 : Int32) ≤ 4) (s1 := (54, [(4, .int 4), (3, .int (nI r)), (0, .ref 1), (1, .int 2), (2, .int (nI a))], [], wC ov5 un5 (nI n1) dp fa5 cu st fi se th db cn F, 0)) (s2 := (16, [(4, .int 4), (3, .int (nI r)), (0, .ref 1), (1, .int 2), (2, .int (nI a))], [], wC ov5 un5 (nI n1) dp fa5 cu st fi se th db cn F, 0)) rfl (fun _ => ?_) (fun h => absurd (by decide) h)
  refine mm_skip (mm_call_mono _ _) 1 (st' := (55, [(4, .int 4), (3, .int (nI r)), (0, .ref 1), (1, .int 2), (2, .int (nI a))], [.int (nI r)], wC ov5 un5 (nI n1) dp fa5 cu st fi se th db cn F, 0)) rfl ?_
  exact mm_ret (mm_call_mono _ _) (c := True) (r := .inl (some (.int (nI r)))) (M := wC ov5 un5 (nI n1) dp fa5 cu st fi se th db cn F) (u := 0) rfl trivial (by decide) (hQ _ _ _ _ _ (by have h9 := op_of (by first | exact Or.inl rfl | exact Or.inr (Or.inl rfl) | exact Or.inr (Or.inr rfl)) ⟨hr.1, hr.2.1⟩ (fun h0 j hj v e => fhalf_v ((ha.2 h0).2 j hj) e) k4; rw [← hr.2.2] at h9; exact h9))

