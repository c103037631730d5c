/-- the root of a new level's radicand -/
def xun (l : Nat) : n4 := match l with
  | 0 => (z0, (1, 1), z0, z0)
  | _ => (z0, z0, (1, 1), z0)
/-- a level more -/
def xup (L : lvR) (x : n4) : lvR := match L.1 with
  | 0 => (1, x, L.2.2)
  | _ => (2, L.2.1, x)
def xtk (L : lvR) (x : n4) : Option n4 → Option (n4 × lvR)
  | some w => some (w, L)
  | none => if L.1 = 2 then none else some (xun L.1, xup L x)
noncomputable def xtake (L : lvR) (x : n4) : Option (n4 × lvR) := (xsg L x).bind fun s => if s < 0 then none else (xrt L x).bind (xtk L x)
theorem cpy_in {f : Nat → Int32} {a y j : Nat} (hj : j < 4) : va_cpy f f a y 4 (y + j) = f (a + j) := by
  unfold va_cpy
  rw [if_pos (by omega), show a + (y + j - y) = a + j by omega]
theorem cpy_out {f : Nat → Int32} {a y k : Nat} (hk : ¬ (y ≤ k ∧ k < y + 4)) : va_cpy f f a y 4 k = f k := if_neg (by omega)
theorem at_f {ov un : Nat → Int32} {n m a : Nat} {fa : Int32} {x : Nat → fr} (h : fa = 1) (ha : a + m ≤ 1332) : isAt ov un n fa m a x := ⟨⟨ha, fun h0 => absurd (h.symm.trans h0) z10⟩, fun h0 => absurd (h.symm.trans h0) z10⟩
/-- behind newLevel -/
def nlR (ov un : Nat → Int32) (n : Nat) (fa : Int32) (l a : Nat) (ov1 un1 : Nat → Int32) (n1 : Nat) (fa1 : Int32) (r : Nat) : Prop :=
  (308 ≤ r ∧ r + 4 ≤ 1332) ∧ (308 ≤ n1 ∧ n1 ≤ 1332) ∧ mm_z fa1 ∧ (∀ k, k < 308 → ¬ (4 * l ≤ k ∧ k < 8) → ov1 k = ov k ∧ un1 k = un k) ∧ (fa = 1 → fa1 = 1) ∧
    (fa1 = 0 → fa = 0 ∧ r = n ∧ n1 = n + 4 ∧ (∀ k, k < n → ¬ (4 * l ≤ k ∧ k < 8) → ov1 k = ov k ∧ un1 k = un k) ∧ r4 ov1 un1 r = xun l ∧ ∀ j, j < 4 → ov1 (4 * l + j) = ov (a + j) ∧ un1 (4 * l + j) = un (a + j)) ∧ (fa1 = 1 → fa = 0 → n + 4 ≤ 1332 → False)
theorem nl_of {ov un ov1 un1 : Nat → Int32} {n n1 r a l e : Nat} {fa fa1 : Int32} (hl : (l = 0 ∧ e = 1) ∨ (l = 1 ∧ e = 2)) (hfa : mm_z fa) (hn : 308 ≤ n) (h : resR (va_cpy ov ov a (4 * l) 4) (va_cpy un un a (4 * l) 4) n fa ov1 un1 n1 fa1 r) : nlR ov un n fa l a (upd ov1 (r + e) 1) un1 n1 fa1 r := by
  have hr := res_r h hn
  have k0 := pt_0 (fun _ => none) hfa hn h
  have hk := fun k (h0 : ¬ (r ≤ k ∧ k < r + 4)) => h.2.2.1 k h0
  refine ⟨⟨hr.1, hr.2.1⟩, by omega, k0.1, fun k h1 h2 => ?_, k0.2.2.1, fun h0 => ?_, fun h9 h0 hroom => ?_⟩
  · obtain ⟨e1, e2⟩ := hk k (by omega)
    rw [pk_un (by omega), e1, e2, cpy_out (by omega), cpy_out (by omega)]
    exact ⟨rfl, rfl⟩
  · obtain ⟨q1, q2, q3, q4, -⟩ := k0.2.2.2.1 h0
    refine ⟨q1, q2, by omega, fun k h1 h2 => ?_, ?_, fun j hj => ?_⟩
    · obtain ⟨e1, e2⟩ := hk k (by omega)
      rw [pk_un (by omega), e1, e2, cpy_out (by omega), cpy_out (by omega)]
      exact ⟨rfl, rfl⟩
    · have z := fun j (hj : j < 4) => h.2.2.2 (r + j) (by omega) (by omega)
      have u0 : ∀ j, j < 4 → j ≠ e → rf (upd ov1 (r + e) 1) un1 (r + j) = z0 := fun j hj he => by
        unfold rf
        rw [pk_un (by omega), (z j hj).1, (z j hj).2]; rfl
      have u1 : rf (upd ov1 (r + e) 1) un1 (r + e) = (1, 1) := by
        unfold rf
        rw [pk_us, (z e (by omega)).2]; rfl
      unfold r4
      rcases hl with ⟨rfl, rfl⟩ | ⟨rfl, rfl⟩
      · rw [u1, u0 2 (by omega) (by omega), u0 3 (by omega) (by omega), show rf (upd ov1 (r + 1) 1) un1 r = z0 from u0 0 (by omega) (by omega)]; rfl
      · rw [u1, u0 1 (by omega) (by omega), u0 3 (by omega) (by omega), show rf (upd ov1 (r + 2) 1) un1 r = z0 from u0 0 (by omega) (by omega)]; rfl
    · obtain ⟨e1, e2⟩ := hk (4 * l + j) (by omega)
      rw [pk_un (by omega), e1, e2, cpy_in hj, cpy_in hj]
      exact ⟨rfl, rfl⟩
  · obtain ⟨h1 | h1, -⟩ := h
    · rw [h1.2.2, h0] at h9; exact absurd h9.symm z10
    · omega
set_option maxRecDepth 100000 in
theorem ct_N_newLevel_0 {d : Nat} {ov un : Nat → Int32} {fa : Int32} {cu : mm_cu} {st fi se th db : Nat → Int32} {cn : Int32} {F : mm_M} {n a : Nat} {Q : mm_R → mm_M → Prop} (hfa : mm_z fa) (hn : 308 ≤ n ∧ n ≤ 1332) (ha : a + 4 ≤ 1332) (hQ : ∀ (ov1 un1 : Nat → Int32) (n1 : Nat) (fa1 : Int32) (r : Nat), nlR ov un n fa 0 a ov1 un1 n1 fa1 r → Q (.inl (some (.int (nI r)))) (wC ov1 un1 (nI n1) 1 fa1 cu st fi se th db cn F)) : mm_call mm_Tb (d + 2) 137 [.ref 1, .int (nI a)] (wC ov un (nI n) 0 fa cu st fi se th db cn F) Q := by
  refine mm_in mt_137 (Nat.le_of_ble_eq_true rfl) ?_
  show mm_W _ _ _ _ _ _ _ (0, [(0, .ref 1), (1, .int (nI a))], [], wC ov un (nI n) 0 fa cu st fi se th db cn F, 0)
  refine mm_skip (mm_call_mono _ _) 6 (st' := (8, [(0, .ref 1), (1, .int (nI a))], [.int 1, .int (nI a), .ref 1], wC ov un (nI n) 0 fa cu st fi se th db cn F, 0)) rfl ?_
  refine mm_inv (mm_call_mono _ _) (j := 120) (a := [.int 1]) (M := wC ov un (nI n) 0 fa cu st fi se th db cn F) (u := 0) rfl (by decide) (ct_N_radicandOf_1 ?_)
  show mm_W _ _ _ _ _ _ _ (11, [(0, .ref 1), (1, .int (nI a))], [.int (nI 0), .int (nI a), .ref 1], wC ov un (nI n) 0 fa cu st fi se th db cn F, 0)
  refine mm_inv (mm_call_mono _ _) (j := 124) (a := [.ref 1, .int (nI a), .int (nI 0)]) (M := wC ov un (nI n) 0 fa cu st fi se th db cn F) (u := 0) rfl (by decide) (ct_N_copy (x := a) (y := 0) ha (by omega) ?_)
  show mm_W _ _ _ _ _ _ _ (14, [(0, .ref 1), (1, .int (nI a))], [], wC (va_cpy ov ov a 0 4) (va_cpy un un a 0 4) (nI n) 0 fa cu st fi se th db cn F, 0)
  refine mm_skip (mm_call_mono _ _) 1 (st' := (15, [(0, .ref 1), (1, .int (nI a))], [.ref 1], wC (va_cpy ov ov a 0 4) (va_cpy un un a 0 4) (nI n) 0 fa cu st fi se th db cn F, 0)) rfl ?_
  refine mm_inv (mm_call_mono _ _) (j := 138) (a := [.ref 1]) (M := wC (va_cpy ov ov a 0 4) (va_cpy un un a 0 4) (nI n) 0 fa cu st fi se th db cn F) (u := 0) rfl (by decide) (ct_N_reserve hn (fun ov1 un1 n1 fa1 r h0 => ?_))
  show mm_W _ _ _ _ _ _ _ (18, [(0, .ref 1), (1, .int (nI a))], [.int (nI r)], wC ov1 un1 (nI n1) 0 fa1 cu st fi se th db cn F, 0)
  have hr := res_r h0 hn.1
  refine mm_skip (mm_call_mono _ _) 10 (st' := (32, [(2, .int (nI r)), (0, .ref 1), (1, .int (nI a))], [.int 1, .int ((nI r) + 1), .ref 8], wC ov1 un1 (nI n1) 0 fa1 cu st fi se th db cn F, 0)) rfl ?_
  rw [nI_p1 (r)]
  show mm_W _ _ _ _ _ _ _ (32, [(2, .int (nI r)), (0, .ref 1), (1, .int (nI a))], [.int 1, .int (nI (r + 1)), .ref 8], wC ov1 un1 (nI n1) 0 fa1 cu st fi se th db cn F, 0)
  refine mm_need (mm_call_mono _ _) (c := vp_in (nI (r + 1)) 1332) (s' := (33, [(2, .int (nI r)), (0, .ref 1), (1, .int (nI a))], [], wC (upd ov1 (Int32.toNatClampNeg (nI (r + 1))) 1) un1 (nI n1) 0 fa1 cu st fi se th db cn F, 0)) rfl (vp_in_nI (show (r + 1) < 1332 by omega) (by decide)) ?_
  rw [nI_clamp (show (r + 1) < 2 ^ 31 by omega)]
  show mm_W _ _ _ _ _ _ _ (33, [(2, .int (nI r)), (0, .ref 1), (1, .int (nI a))], [], wC (upd ov1 (r + 1) 1) un1 (nI n1) 0 fa1 cu st fi se th db cn F, 0)
  refine mm_skip (mm_call_mono _ _) 7 (st' := (44, [(2, .int (nI r)), (0, .ref 1), (1, .int (nI a))], [.int (nI r)], wC (upd ov1 (r + 1) 1) un1 (nI n1) 1 fa1 cu st fi se th db cn F, 0)) rfl ?_
  exact mm_ret (mm_call_mono _ _) (c := True) (r := .inl (some (.int (nI r)))) (M := wC (upd ov1 (r + 1) 1) un1 (nI n1) 1 fa1 cu st fi se th db cn F) (u := 0) rfl trivial (by decide) (hQ _ _ _ _ _ (nl_of (l := 0) (e := 1) (by omega) hfa hn.1 h0))

set_option maxRecDepth 100000 in
theorem ct_N_newLevel_1 {d : Nat} {ov un : Nat → Int32} {fa : Int32} {cu : mm_cu} {st fi se th db : Nat → Int32} {cn : Int32} {F : mm_M} {n a : Nat} {Q : mm_R → mm_M → Prop} (hfa : mm_z fa) (hn : 308 ≤ n ∧ n ≤ 1332) (ha : a + 4 ≤ 1332) (hQ : ∀ (ov1 un1 : Nat → Int32) (n1 : Nat) (fa1 : Int32) (r : Nat), nlR ov un n fa 1 a ov1 un1 n1 fa1 r → Q (.inl (some (.int (nI r)))) (wC ov1 un1 (nI n1) 2 fa1 cu st fi se th db cn F)) : mm_call mm_Tb (d + 2) 137 [.ref 1, .int (nI a)] (wC ov un (nI n) 1 fa cu st fi se th db cn F) Q := by
  refine mm_in mt_137 (Nat.le_of_ble_eq_true rfl) ?_
  show mm_W _ _ _ _ _ _ _ (0, [(0, .ref 1), (1, .int (nI a))], [], wC ov un (nI n) 1 fa cu st fi se th db cn F, 0)
  refine mm_skip (mm_call_mono _ _) 6 (st' := (8, [(0, .ref 1), (1, .int (nI a))], [.int 2, .int (nI a), .ref 1], wC ov un (nI n) 1 fa cu st fi se th db cn F, 0)) rfl ?_
  refine mm_inv (mm_call_mono _ _) (j := 120) (a := [.int 2]) (M := wC ov un (nI n) 1 fa cu st fi se th db cn F) (u := 0) rfl (by decide) (ct_N_radicandOf_2 ?_)
  show mm_W _ _ _ _ _ _ _ (11, [(0, .ref 1), (1, .int (nI a))], [.int (nI 4), .int (nI a), .ref 1], wC ov un (nI n) 1 fa cu st fi se th db cn F, 0)
  refine mm_inv (mm_call_mono _ _) (j := 124) (a := [.ref 1, .int (nI a), .int (nI 4)]) (M := wC ov un (nI n) 1 fa cu st fi se th db cn F) (u := 0) rfl (by decide) (ct_N_copy (x := a) (y := 4) ha (by omega) ?_)
  show mm_W _ _ _ _ _ _ _ (14, [(0, .ref 1), (1, .int (nI a))], [], wC (va_cpy ov ov a 4 4) (va_cpy un un a 4 4) (nI n) 1 fa cu st fi se th db cn F, 0)
  refine mm_skip (mm_call_mono _ _) 1 (st' := (15, [(0, .ref 1), (1, .int (nI a))], [.ref 1], wC (va_cpy ov ov a 4 4) (va_cpy un un a 4 4) (nI n) 1 fa cu st fi se th db cn F, 0)) rfl ?_
  refine mm_inv (mm_call_mono _ _) (j := 138) (a := [.ref 1]) (M := wC (va_cpy ov ov a 4 4) (va_cpy un un a 4 4) (nI n) 1 fa cu st fi se th db cn F) (u := 0) rfl (by decide) (ct_N_reserve hn (fun ov1 un1 n1 fa1 r h0 => ?_))
  show mm_W _ _ _ _ _ _ _ (18, [(0, .ref 1), (1, .int (nI a))], [.int (nI r)], wC ov1 un1 (nI n1) 1 fa1 cu st fi se th db cn F, 0)
  have hr := res_r h0 hn.1
  refine mm_skip (mm_call_mono _ _) 10 (st' := (32, [(2, .int (nI r)), (0, .ref 1), (1, .int (nI a))], [.int 1, .int ((nI r) + 2), .ref 8], wC ov1 un1 (nI n1) 1 fa1 cu st fi se th db cn F, 0)) rfl ?_
  rw [nI_p2 (r)]
  show mm_W _ _ _ _ _ _ _ (32, [(2, .int (nI r)), (0, .ref 1), (1, .int (nI a))], [.int 1, .int (nI (r + 2)), .ref 8], wC ov1 un1 (nI n1) 1 fa1 cu st fi se th db cn F, 0)
  refine mm_need (mm_call_mono _ _) (c := vp_in (nI (r + 2)) 1332) (s' := (33, [(2, .int (nI r)), (0, .ref 1), (1, .int (nI a))], [], wC (upd ov1 (Int32.toNatClampNeg (nI (r + 2))) 1) un1 (nI n1) 1 fa1 cu st fi se th db cn F, 0)) rfl (vp_in_nI (show (r + 2) < 1332 by omega) (by decide)) ?_
  rw [nI_clamp (show (r + 2) < 2 ^ 31 by omega)]
  show mm_W _ _ _ _ _ _ _ (33, [(2, .int (nI r)), (0, .ref 1), (1, .int (nI a))], [], wC (upd ov1 (r + 2) 1) un1 (nI n1) 1 fa1 cu st fi se th db cn F, 0)
  refine mm_skip (mm_call_mono _ _) 7 (st' := (44, [(2, .int (nI r)), (0, .ref 1), (1, .int (nI a))], [.int (nI r)], wC (upd ov1 (r + 2) 1) un1 (nI n1) 2 fa1 cu st fi se th db cn F, 0)) rfl ?_
  exact mm_ret (mm_call_mono _ _) (c := True) (r := .inl (some (.int (nI r)))) (M := wC (upd ov1 (r + 2) 1) un1 (nI n1) 2 fa1 cu st fi se th db cn F) (u := 0) rfl trivial (by decide) (hQ _ _ _ _ _ (nl_of (l := 1) (e := 2) (by omega) hfa hn.1 h0))

theorem gw_newLevel {d : Nat} {ov un : Nat → Int32} {fa : Int32} {cu : mm_cu} {st fi se th db : Nat → Int32} {cn : Int32} {F : mm_M} {n a : Nat} {x : n4} {L : lvR} {Q : mm_R → mm_M → Prop} (hl : L.1 < 2) (hfa : mm_z fa) (hn : 308 ≤ n ∧ n ≤ 1332) (ha : a + 4 ≤ 1332) (hQ : ∀ (ov1 un1 : Nat → Int32) (n1 : Nat) (fa1 : Int32) (r : Nat), nlR ov un n fa L.1 a ov1 un1 n1 fa1 r → Q (.inl (some (.int (nI r)))) (wC ov1 un1 (nI n1) (nI (xup L x).1) fa1 cu st fi se th db cn F)) : mm_call mm_Tb (d + 2) 137 [.ref 1, .int (nI a)] (wC ov un (nI n) (nI L.1) fa cu st fi se th db cn F) Q := by
  obtain ⟨l, R1, R2⟩ := L
  have hl : l < 2 := hl
  rcases (show l = 0 ∨ l = 1 by omega) with rfl | rfl
  · exact ct_N_newLevel_0 hfa hn ha hQ
  · exact ct_N_newLevel_1 hfa hn ha hQ
/-- behind takeRoot -/
def tkR (ov un : Nat → Int32) (n : Nat) (fa : Int32) (L : lvR) (T : Option (n4 × lvR)) (ov1 un1 : Nat → Int32) (n1 : Nat) (fa1 : Int32) (L1 : lvR) (r : Nat) (V : n4) : Prop :=
  (308 ≤ n1 ∧ n1 ≤ 1332) ∧ mm_z fa1 ∧ L1.1 ≤ 2 ∧ (∀ k, k < 308 → ¬ (4 * L.1 ≤ k ∧ k < 8) → ov1 k = ov k ∧ un1 k = un k) ∧ (fa = 1 → fa1 = 1) ∧ (fa1 = 0 → fa = 0 ∧ n ≤ n1 ∧ n1 ≤ n + 644 ∧ (∀ k, k < n → ¬ (4 * L.1 ≤ k ∧ k < 8) → ov1 k = ov k ∧ un1 k = un k)) ∧
    (fa1 = 0 → T = some (V, L1)) ∧ isAt ov1 un1 n1 fa1 4 r (g4 V) ∧ rdA ov1 un1 n1 fa1 L1 ∧ (fa1 = 1 → fa = 0 → n + 644 ≤ 1332 → T = none) ∧ 308 ≤ r
theorem tk_old {ov un ov1 un1 : Nat → Int32} {n n1 w r : Nat} {fa fa1 : Int32} {L : lvR} {T : Option (n4 × lvR)} {V : n4} (hl : L.1 ≤ 2) (hs : stl ov un n fa w ov1 un1 n1 fa1) (hw : w ≤ 644) (E : fa1 = 0 → T = some (V, L)) (F : fa1 = 1 → fa = 0 → n + 644 ≤ 1332 → T = none) (A : isAt ov1 un1 n1 fa1 4 r (g4 V)) (R : rdA ov1 un1 n1 fa1 L) (hr : 308 ≤ r) : tkR ov un n fa L T ov1 un1 n1 fa1 L r V := by
  obtain ⟨a1, a2, a3, a4, a5⟩ := hs
  refine ⟨a1, a2, hl, fun k h1 _ => a3 k h1, a4, fun h0 => ?_, E, A, R, F, hr⟩
  obtain ⟨p1, p2, p3, p4⟩ := a5 h0
  exact ⟨p1, p2, by omega, fun k h1 _ => p4 k h1⟩
theorem tk_fail {ov un ov1 un1 ov2 un2 : Nat → Int32} {n n1 n2 w r : Nat} {fa f0 f fa2 : Int32} {L : lvR} {T : Option (n4 × lvR)} (hl : L.1 ≤ 2) (hs : stl ov un n fa w ov1 un1 n1 f0) (hN : fa = 0 → n + 644 ≤ 1332 → T = none) (hz : f = 1) (h : resR ov1 un1 n1 f ov2 un2 n2 fa2 r) : tkR ov un n fa L T ov2 un2 n2 fa2 L r zz := by
  have hr := res_r h hs.1.1
  have h1 : fa2 = 1 := by
    obtain ⟨h1 | h1, -⟩ := h
    · exact h1.2.2.trans hz
    · exact h1.2.2
  obtain ⟨a1, a2, a3, a4, a5⟩ := hs
  refine ⟨by omega, Or.inr h1, hl, fun k h1 _ => ?_, fun _ => h1, fun h0 => absurd (h1.symm.trans h0) z10, fun h0 => absurd (h1.symm.trans h0) z10, at_f h1 hr.2.1, ⟨fun _ => at_f h1 (by omega), fun _ => at_f h1 (by omega)⟩, fun _ => hN, hr.1⟩
  obtain ⟨e1, e2⟩ := h.2.2.1 k (by omega)
  exact ⟨e1.trans (a3 k h1).1, e2.trans (a3 k h1).2⟩
theorem at_keep2 {ov un ov1 un1 : Nat → Int32} {n n1 : Nat} {fa fa1 : Int32} {m a : Nat} {x : Nat → fr} (h : isAt ov un n fa m a x) (h1 : fa1 = 0 → fa = 0 ∧ n ≤ n1 ∧ ∀ j, j < m → ov1 (a + j) = ov (a + j) ∧ un1 (a + j) = un (a + j)) : isAt ov1 un1 n1 fa1 m a x := by
  obtain ⟨⟨ha, hb⟩, hc⟩ := h
  have key : fa1 = 0 → ∀ j, j < m → rd ov1 un1 a j = rd ov un a j := fun h0 j hj => rf_eq ((h1 h0).2.2 j hj)
  refine ⟨⟨ha, fun h0 => ?_⟩, fun h0 j hj => ?_⟩
  · obtain ⟨q1, q2, q3⟩ := h1 h0
    refine ⟨by have := (hb q1).1; omega, fun j hj => ?_⟩
    rw [key h0 j hj]
    exact (hb q1).2 j hj
  · rw [key h0 j hj]
    exact hc (h1 h0).1 j hj
theorem xup_1 {L : lvR} {x : n4} (h : L.1 < 2) : (xup L x).1 = L.1 + 1 := by
  obtain ⟨l, R1, R2⟩ := L
  have h : l < 2 := h
  rcases (show l = 0 ∨ l = 1 by omega) with rfl | rfl <;> rfl
theorem xun_v (l : Nat) : v4 (xun l) := by
  have h1 : fv (1, 1) := by unfold fv; decide
  unfold xun
  split
  · exact ⟨fv_z0, h1, fv_z0, fv_z0⟩
  · exact ⟨fv_z0, fv_z0, h1, fv_z0⟩
theorem tk_new {ov un ov2 un2 ov3 un3 : Nat → Int32} {n n2 n3 w r a : Nat} {fa fa2 fa3 : Int32} {L : lvR} {T : Option (n4 × lvR)} {x : n4} (hl : L.1 < 2) (hs : stl ov un n fa w ov2 un2 n2 fa2) (hw : w ≤ 640) (h0 : fa2 = 0) (E : fa2 = 0 → T = some (xun L.1, xup L x)) (A : isAt ov2 un2 n2 fa2 4 a (g4 x)) (R : rdA ov2 un2 n2 fa2 L) (h : nlR ov2 un2 n2 fa2 L.1 a ov3 un3 n3 fa3 r) : tkR ov un n fa L T ov3 un3 n3 fa3 (xup L x) r (xun L.1) := by
  obtain ⟨a1, a2, a3, a4, a5⟩ := hs
  obtain ⟨b1, b2, b3, b4, b5, b6, b7⟩ := h
  have hup := xup_1 (x := x) hl
  have same8 : fa3 = 0 → isAt ov3 un3 n3 fa3 4 (4 * L.1) (g4 x) := fun q0 => by
    obtain ⟨c1, c2, c3, c4, c5, c6⟩ := b6 q0
    have e : ∀ j, j < 4 → rd ov3 un3 (4 * L.1) j = rd ov2 un2 a j := fun j hj => by
      show rf ov3 un3 (4 * L.1 + j) = rf ov2 un2 (a + j)
      unfold rf
      rw [(c6 j hj).1, (c6 j hj).2]
    refine ⟨⟨by omega, fun _ => ⟨by omega, fun j hj => ?_⟩⟩, fun _ j hj => ?_⟩
    · rw [e j hj]; exact (A.1.2 c1).2 j hj
    · rw [e j hj]; exact A.2 c1 j hj
  refine ⟨b2, b3, by omega, fun k h1 h2 => ?_, fun q => b5 (a4 q), fun q0 => ?_, fun q0 => E (b6 q0).1, ?_, ?_, fun q9 q0 hroom => ?_, b1.1⟩
  · exact ⟨(b4 k h1 h2).1.trans (a3 k h1).1, (b4 k h1 h2).2.trans (a3 k h1).2⟩
  · obtain ⟨c1, c2, c3, c4, c5, c6⟩ := b6 q0
    obtain ⟨p1, p2, p3, p4⟩ := a5 c1
    exact ⟨p1, by omega, by omega, fun k h1 h2 => ⟨(c4 k (by omega) h2).1.trans (p4 k h1).1, (c4 k (by omega) h2).2.trans (p4 k h1).2⟩⟩
  · refine ⟨⟨b1.2, fun q0 => ?_⟩, fun q0 j hj => ?_⟩
    · obtain ⟨c1, c2, c3, c4, c5, c6⟩ := b6 q0
      refine ⟨by omega, fun j hj => ?_⟩
      show fv (rf ov3 un3 (r + j))
      rw [← g4_r4 hj, c5]
      exact v4_g (xun_v _) hj
    · obtain ⟨c1, c2, c3, c4, c5, c6⟩ := b6 q0
      show rf ov3 un3 (r + j) = _
      rw [← g4_r4 hj, c5]
  · rcases b3 with q0 | q1
    · obtain ⟨c1, c2, c3, c4, c5, c6⟩ := b6 q0
      have s8 := same8 q0
      obtain ⟨l, R1, R2⟩ := L
      have hl : l < 2 := hl
      rcases (show l = 0 ∨ l = 1 by omega) with rfl | rfl
      · exact ⟨fun _ => s8, fun q => absurd (show 2 ≤ 1 from q) (by omega)⟩
      · exact ⟨fun _ => at_keep2 (R.1 (Nat.le_refl 1)) (fun _ => ⟨c1, by omega, fun j hj => c4 (0 + j) (by omega) (show ¬ (4 * 1 ≤ 0 + j ∧ 0 + j < 8) by omega)⟩), fun _ => s8⟩
    · exact ⟨fun _ => at_f q1 (by omega), fun _ => at_f q1 (by omega)⟩
  · exact (b7 q9 h0 (by have := (a5 h0).2.2.1; omega)).elim
theorem mm_z1 {f : Int32} (h : mm_z f) (h0 : ¬ f = 0) : f = 1 := h.resolve_left h0
set_option maxRecDepth 100000 in
theorem gw_takeRoot {d : Nat} {ov un : Nat → Int32} {fa : Int32} {cu : mm_cu} {st fi se th db : Nat → Int32} {cn : Int32} {F : mm_M} {n a : Nat} {x : n4} {L : lvR} {Q : mm_R → mm_M → Prop} (hl : L.1 ≤ 2) (hfa : mm_z fa) (hn : 308 ≤ n ∧ n ≤ 1332) (R : rdA ov un n fa L) (A : isAt ov un n fa 4 a (g4 x)) (hQ : ∀ (ov1 un1 : Nat → Int32) (n1 : Nat) (fa1 : Int32) (L1 : lvR) (r : Nat) (V : n4), tkR ov un n fa L (xtake L x) ov1 un1 n1 fa1 L1 r V → Q (.inl (some (.int (nI r)))) (wC ov1 un1 (nI n1) (nI L1.1) fa1 cu st fi se th db cn F)) : mm_call mm_Tb (d + 7) 136 [.ref 1, .int (nI a)] (wC ov un (nI n) (nI L.1) fa cu st fi se th db cn F) Q := by
  have s0 := stl_0 (ov := ov) (un := un) hfa hn
  have E0 : fa = 0 → xtake L x = Option.bind (xsg L x) (fun s => if s < 0 then none else (xrt L x).bind (xtk L x)) := fun _ => rfl
  have F0 : fa = 1 → fa = 0 → n + 644 ≤ 1332 → xtake L x = none := f_0
  refine mm_in mt_136 (Nat.le_of_ble_eq_true rfl) ?_
  show mm_W _ _ _ _ _ _ _ (0, [(0, .ref 1), (1, .int (nI a))], [], wC ov un (nI n) (nI L.1) fa cu st fi se th db cn F, 0)
  refine mm_skip (mm_call_mono _ _) 4 (st' := (6, [(0, .ref 1), (1, .int (nI a))], [.int (nI a), .int (nI L.1), .ref 1], wC ov un (nI n) (nI L.1) fa cu st fi se th db cn F, 0)) rfl ?_
  refine mm_inv (mm_call_mono _ _) (j := 147) (a := [.ref 1, .int (nI L.1), .int (nI a)]) (M := wC ov un (nI n) (nI L.1) fa cu st fi se th db cn F) (u := 0) rfl (by decide) (gx_signOf hl s0.2.1 s0.1 R A (fun ov1 un1 n1 fa1 v h1 => ?_))
  show mm_W _ _ _ _ _ _ _ (9, [(0, .ref 1), (1, .int (nI a))], [.int v], wC ov1 un1 (nI n1) (nI L.1) fa1 cu st fi se th db cn F, 0)
  have s1 := stl_g s0 h1
  have F1 := sg_f s0 F0 E0 h1 (by omega)
  have E1 := sg_e E0 h1
  have A1 := at_keep A (sg_k h1)
  have R1 := rd_keep R (sg_k h1)
  refine mm_branch (mm_call_mono _ _) (c := 0 ≤ v) (s1 := (17, [(0, .ref 1), (1, .int (nI a))], [], wC ov1 un1 (nI n1) (nI L.1) fa1 cu st fi se th db cn F, 0)) (s2 := (12, [(0, .ref 1), (1, .int (nI a))], [], wC ov1 un1 (nI n1) (nI L.1) fa1 cu st fi se th db cn F, 0)) rfl (fun gs => ?_) (fun gs => ?_)
  · skip
    have E1 := fun q0 => (E1 q0).trans (if_neg (i32_ge gs))
    refine mm_skip (mm_call_mono _ _) 2 (st' := (21, [(0, .ref 1), (1, .int (nI a))], [.int fa1], wC ov1 un1 (nI n1) (nI L.1) fa1 cu st fi se th db cn F, 0)) rfl ?_
    refine mm_branch (mm_call_mono _ _) (c := fa1 = 0) (s1 := (28, [(0, .ref 1), (1, .int (nI a))], [], wC ov1 un1 (nI n1) (nI L.1) fa1 cu st fi se th db cn F, 0)) (s2 := (24, [(0, .ref 1), (1, .int (nI a))], [], wC ov1 un1 (nI n1) (nI L.1) fa1 cu st fi se th db cn F, 0)) rfl (fun f1 => ?_) (fun f1 => ?_)
    · skip
      refine mm_skip (mm_call_mono _ _) 4 (st' := (34, [(0, .ref 1), (1, .int (nI a))], [.int (nI a), .int (nI L.1), .ref 1], wC ov1 un1 (nI n1) (nI L.1) fa1 cu st fi se th db cn F, 0)) rfl ?_
      refine mm_inv (mm_call_mono _ _) (j := 148) (a := [.ref 1, .int (nI L.1), .int (nI a)]) (M := wC ov1 un1 (nI n1) (nI L.1) fa1 cu st fi se th db cn F) (u := 0) rfl (by decide) (gx_root hl s1.2.1 s1.1 R1 A1 (fun ov2 un2 n2 fa2 wv h2 => ?_))
      show mm_W _ _ _ _ _ _ _ (37, [(0, .ref 1), (1, .int (nI a))], [.int wv], wC ov2 un2 (nI n2) (nI L.1) fa2 cu st fi se th db cn F, 0)
      have s2 := stl_r s1 h2
      have F2 := rt_f s1 F1 E1 h2 (by omega)
      have A2 := at_keep A1 (rt_k h2)
      have R2 := rd_keep R1 (rt_k h2)
      refine mm_skip (mm_call_mono _ _) 3 (st' := (40, [(2, .int wv), (0, .ref 1), (1, .int (nI a))], [.int (-1), .int wv], wC ov2 un2 (nI n2) (nI L.1) fa2 cu st fi se th db cn F, 0)) rfl ?_
      refine mm_branch (mm_call_mono _ _) (c := wv = (-1)) (s1 := (45, [(2, .int wv), (0, .ref 1), (1, .int (nI a))], [], wC ov2 un2 (nI n2) (nI L.1) fa2 cu st fi se th db cn F, 0)) (s2 := (43, [(2, .int wv), (0, .ref 1), (1, .int (nI a))], [], wC ov2 un2 (nI n2) (nI L.1) fa2 cu st fi se th db cn F, 0)) rfl (fun ew => ?_) (fun ew => ?_)
      · skip
        have E2 := rt_e0 E1 h2 ew
        refine mm_skip (mm_call_mono _ _) 3 (st' := (50, [(2, .int wv), (0, .ref 1), (1, .int (nI a))], [.int 2, .int (nI L.1)], wC ov2 un2 (nI n2) (nI L.1) fa2 cu st fi se th db cn F, 0)) rfl ?_
        refine mm_branch (mm_call_mono _ _) (c := (nI L.1) = 2) (s1 := (53, [(2, .int wv), (0, .ref 1), (1, .int (nI a))], [], wC ov2 un2 (nI n2) (nI L.1) fa2 cu st fi se th db cn F, 0)) (s2 := (58, [(2, .int wv), (0, .ref 1), (1, .int (nI a))], [], wC ov2 un2 (nI n2) (nI L.1) fa2 cu st fi se th db cn F, 0)) rfl (fun dq => ?_) (fun dq => ?_)
        · skip
          have N2 : fa = 0 → n + 644 ≤ 1332 → xtake L x = none := fun q0 q1 => (s2.2.1).elim (fun z => (E2 z).trans (if_pos ((nI_eq (by omega) (by omega)).mp (show nI L.1 = nI 2 from dq)))) (fun z => F2 z q0 q1)
          refine mm_skip (mm_call_mono _ _) 2 (st' := (55, [(2, .int wv), (0, .ref 1), (1, .int (nI a))], [.int 1, .ref 1], wC ov2 un2 (nI n2) (nI L.1) fa2 cu st fi se th db cn F, 0)) rfl ?_
          refine mm_need (mm_call_mono _ _) (c := mm_z 1) (s' := (58, [(2, .int wv), (0, .ref 1), (1, .int (nI a))], [], wC ov2 un2 (nI n2) (nI L.1) 1 cu st fi se th db cn F, 0)) rfl (by unfold mm_z; decide) ?_
          refine mm_skip (mm_call_mono _ _) 2 (st' := (62, [(2, .int wv), (0, .ref 1), (1, .int (nI a))], [.int 1], wC ov2 un2 (nI n2) (nI L.1) 1 cu st fi se th db cn F, 0)) rfl ?_
          refine mm_branch (mm_call_mono _ _) (c := (1 : Int32) = 0) (s1 := (72, [(2, .int wv), (0, .ref 1), (1, .int (nI a))], [], wC ov2 un2 (nI n2) (nI L.1) 1 cu st fi se th db cn F, 0)) (s2 := (65, [(2, .int wv), (0, .ref 1), (1, .int (nI a))], [], wC ov2 un2 (nI n2) (nI L.1) 1 cu st fi se th db cn F, 0)) rfl (fun h => absurd h (by decide)) (fun _ => ?_)
          refine mm_skip (mm_call_mono _ _) 1 (st' := (66, [(2, .int wv), (0, .ref 1), (1, .int (nI a))], [.ref 1], wC ov2 un2 (nI n2) (nI L.1) 1 cu st fi se th db cn F, 0)) rfl ?_
          refine mm_inv (mm_call_mono _ _) (j := 138) (a := [.ref 1]) (M := wC ov2 un2 (nI n2) (nI L.1) 1 cu st fi se th db cn F) (u := 0) rfl (by decide) (ct_N_reserve s2.1 (fun ov9 un9 n9 fa9 r h9 => ?_))
          show mm_W _ _ _ _ _ _ _ (69, [(2, .int wv), (0, .ref 1), (1, .int (nI a))], [.int (nI r)], wC ov9 un9 (nI n9) (nI L.1) fa9 cu st fi se th db cn F, 0)
          refine mm_skip (mm_call_mono _ _) 1 (st' := (77, [(2, .int wv), (0, .ref 1), (1, .int (nI a))], [.int (nI r)], wC ov9 un9 (nI n9) (nI L.1) fa9 cu st fi se th db cn F, 0)) rfl ?_
          exact mm_ret (mm_call_mono _ _) (c := True) (r := .inl (some (.int (nI r)))) (M := wC ov9 un9 (nI n9) (nI L.1) fa9 cu st fi se th db cn F) (u := 0) rfl trivial (by decide) (hQ _ _ _ _ L _ zz (tk_fail hl s2 (N2) rfl h9))
        · skip
          have hl2 : ¬ L.1 = 2 := fun z => dq (by rw [z]; rfl)
          have E2 := fun q0 => (E2 q0).trans (if_neg hl2)
          refine mm_skip (mm_call_mono _ _) 2 (st' := (62, [(2, .int wv), (0, .ref 1), (1, .int (nI a))], [.int fa2], wC ov2 un2 (nI n2) (nI L.1) fa2 cu st fi se th db cn F, 0)) rfl ?_
          refine mm_branch (mm_call_mono _ _) (c := fa2 = 0) (s1 := (72, [(2, .int wv), (0, .ref 1), (1, .int (nI a))], [], wC ov2 un2 (nI n2) (nI L.1) fa2 cu st fi se th db cn F, 0)) (s2 := (65, [(2, .int wv), (0, .ref 1), (1, .int (nI a))], [], wC ov2 un2 (nI n2) (nI L.1) fa2 cu st fi se th db cn F, 0)) rfl (fun f2 => ?_) (fun f2 => ?_)
          · skip
            refine mm_skip (mm_call_mono _ _) 2 (st' := (74, [(2, .int wv), (0, .ref 1), (1, .int (nI a))], [.int (nI a), .ref 1], wC ov2 un2 (nI n2) (nI L.1) fa2 cu st fi se th db cn F, 0)) rfl ?_
            refine mm_inv (mm_call_mono _ _) (j := 137) (a := [.ref 1, .int (nI a)]) (M := wC ov2 un2 (nI n2) (nI L.1) fa2 cu st fi se th db cn F) (u := 0) rfl (by decide) (gw_newLevel (x := x) (by omega) s2.2.1 s2.1 (A2.1.1) (fun ov3 un3 n3 fa3 r3 h3 => ?_))
            show mm_W _ _ _ _ _ _ _ (77, [(2, .int wv), (0, .ref 1), (1, .int (nI a))], [.int (nI r3)], wC ov3 un3 (nI n3) (nI (xup L x).1) fa3 cu st fi se th db cn F, 0)
            exact mm_ret (mm_call_mono _ _) (c := True) (r := .inl (some (.int (nI r3)))) (M := wC ov3 un3 (nI n3) (nI (xup L x).1) fa3 cu st fi se th db cn F) (u := 0) rfl trivial (by decide) (hQ _ _ _ _ (xup L x) _ (xun L.1) (tk_new (by omega) s2 (by omega) f2 E2 A2 R2 h3))
          · skip
            refine mm_skip (mm_call_mono _ _) 1 (st' := (66, [(2, .int wv), (0, .ref 1), (1, .int (nI a))], [.ref 1], wC ov2 un2 (nI n2) (nI L.1) fa2 cu st fi se th db cn F, 0)) rfl ?_
            refine mm_inv (mm_call_mono _ _) (j := 138) (a := [.ref 1]) (M := wC ov2 un2 (nI n2) (nI L.1) fa2 cu st fi se th db cn F) (u := 0) rfl (by decide) (ct_N_reserve s2.1 (fun ov9 un9 n9 fa9 r h9 => ?_))
            show mm_W _ _ _ _ _ _ _ (69, [(2, .int wv), (0, .ref 1), (1, .int (nI a))], [.int (nI r)], wC ov9 un9 (nI n9) (nI L.1) fa9 cu st fi se th db cn F, 0)
            refine mm_skip (mm_call_mono _ _) 1 (st' := (77, [(2, .int wv), (0, .ref 1), (1, .int (nI a))], [.int (nI r)], wC ov9 un9 (nI n9) (nI L.1) fa9 cu st fi se th db cn F, 0)) rfl ?_
            exact mm_ret (mm_call_mono _ _) (c := True) (r := .inl (some (.int (nI r)))) (M := wC ov9 un9 (nI n9) (nI L.1) fa9 cu st fi se th db cn F) (u := 0) rfl trivial (by decide) (hQ _ _ _ _ L _ zz (tk_fail hl s2 (F2 (mm_z1 s2.2.1 f2)) (mm_z1 s2.2.1 f2) h9))
      · skip
        obtain ⟨iw, rfl, jw, kw⟩ := rt_ix h2 ew
        have E2 := rt_e1 E1 h2 kw
        have W2 := at_rt h2 kw
        refine mm_skip (mm_call_mono _ _) 1 (st' := (44, [(2, .int (nI iw)), (0, .ref 1), (1, .int (nI a))], [.int (nI iw)], wC ov2 un2 (nI n2) (nI L.1) fa2 cu st fi se th db cn F, 0)) rfl ?_
        exact mm_ret (mm_call_mono _ _) (c := True) (r := .inl (some (.int (nI iw)))) (M := wC ov2 un2 (nI n2) (nI L.1) fa2 cu st fi se th db cn F) (u := 0) rfl trivial (by decide) (hQ _ _ _ _ L _ (r4 ov2 un2 iw) (tk_old hl s2 (by omega) E2 F2 W2 R2 jw))
    · skip
      refine mm_skip (mm_call_mono _ _) 5 (st' := (40, [(2, .int (-1)), (0, .ref 1), (1, .int (nI a))], [.int (-1), .int (-1)], wC ov1 un1 (nI n1) (nI L.1) fa1 cu st fi se th db cn F, 0)) rfl ?_
      refine mm_branch (mm_call_mono _ _) (c := ((-1) : Int32) = (-1)) (s1 := (45, [(2, .int (-1)), (0, .ref 1), (1, .int (nI a))], [], wC ov1 un1 (nI n1) (nI L.1) fa1 cu st fi se th db cn F, 0)) (s2 := (43, [(2, .int (-1)), (0, .ref 1), (1, .int (nI a))], [], wC ov1 un1 (nI n1) (nI L.1) fa1 cu st fi se th db cn F, 0)) rfl (fun _ => ?_) (fun h => absurd (by decide) h)
      refine mm_skip (mm_call_mono _ _) 3 (st' := (50, [(2, .int (-1)), (0, .ref 1), (1, .int (nI a))], [.int 2, .int (nI L.1)], wC ov1 un1 (nI n1) (nI L.1) fa1 cu st fi se th db cn F, 0)) rfl ?_
      refine mm_branch (mm_call_mono _ _) (c := (nI L.1) = 2) (s1 := (53, [(2, .int (-1)), (0, .ref 1), (1, .int (nI a))], [], wC ov1 un1 (nI n1) (nI L.1) fa1 cu st fi se th db cn F, 0)) (s2 := (58, [(2, .int (-1)), (0, .ref 1), (1, .int (nI a))], [], wC ov1 un1 (nI n1) (nI L.1) fa1 cu st fi se th db cn F, 0)) rfl (fun dq => ?_) (fun dq => ?_)
      · skip
        refine mm_skip (mm_call_mono _ _) 2 (st' := (55, [(2, .int (-1)), (0, .ref 1), (1, .int (nI a))], [.int 1, .ref 1], wC ov1 un1 (nI n1) (nI L.1) fa1 cu st fi se th db cn F, 0)) rfl ?_
        refine mm_need (mm_call_mono _ _) (c := mm_z 1) (s' := (58, [(2, .int (-1)), (0, .ref 1), (1, .int (nI a))], [], wC ov1 un1 (nI n1) (nI L.1) 1 cu st fi se th db cn F, 0)) rfl (by unfold mm_z; decide) ?_
        refine mm_skip (mm_call_mono _ _) 2 (st' := (62, [(2, .int (-1)), (0, .ref 1), (1, .int (nI a))], [.int 1], wC ov1 un1 (nI n1) (nI L.1) 1 cu st fi se th db cn F, 0)) rfl ?_
        refine mm_branch (mm_call_mono _ _) (c := (1 : Int32) = 0) (s1 := (72, [(2, .int (-1)), (0, .ref 1), (1, .int (nI a))], [], wC ov1 un1 (nI n1) (nI L.1) 1 cu st fi se th db cn F, 0)) (s2 := (65, [(2, .int (-1)), (0, .ref 1), (1, .int (nI a))], [], wC ov1 un1 (nI n1) (nI L.1) 1 cu st fi se th db cn F, 0)) rfl (fun h => absurd h (by decide)) (fun _ => ?_)
        refine mm_skip (mm_call_mono _ _) 1 (st' := (66, [(2, .int (-1)), (0, .ref 1), (1, .int (nI a))], [.ref 1], wC ov1 un1 (nI n1) (nI L.1) 1 cu st fi se th db cn F, 0)) rfl ?_
        refine mm_inv (mm_call_mono _ _) (j := 138) (a := [.ref 1]) (M := wC ov1 un1 (nI n1) (nI L.1) 1 cu st fi se th db cn F) (u := 0) rfl (by decide) (ct_N_reserve s1.1 (fun ov9 un9 n9 fa9 r h9 => ?_))
        show mm_W _ _ _ _ _ _ _ (69, [(2, .int (-1)), (0, .ref 1), (1, .int (nI a))], [.int (nI r)], wC ov9 un9 (nI n9) (nI L.1) fa9 cu st fi se th db cn F, 0)
        refine mm_skip (mm_call_mono _ _) 1 (st' := (77, [(2, .int (-1)), (0, .ref 1), (1, .int (nI a))], [.int (nI r)], wC ov9 un9 (nI n9) (nI L.1) fa9 cu st fi se th db cn F, 0)) rfl ?_
        exact mm_ret (mm_call_mono _ _) (c := True) (r := .inl (some (.int (nI r)))) (M := wC ov9 un9 (nI n9) (nI L.1) fa9 cu st fi se th db cn F) (u := 0) rfl trivial (by decide) (hQ _ _ _ _ L _ zz (tk_fail hl s1 (F1 (mm_z1 s1.2.1 f1)) rfl h9))
      · skip
        refine mm_skip (mm_call_mono _ _) 2 (st' := (62, [(2, .int (-1)), (0, .ref 1), (1, .int (nI a))], [.int fa1], wC ov1 un1 (nI n1) (nI L.1) fa1 cu st fi se th db cn F, 0)) rfl ?_
        refine mm_branch (mm_call_mono _ _) (c := fa1 = 0) (s1 := (72, [(2, .int (-1)), (0, .ref 1), (1, .int (nI a))], [], wC ov1 un1 (nI n1) (nI L.1) fa1 cu st fi se th db cn F, 0)) (s2 := (65, [(2, .int (-1)), (0, .ref 1), (1, .int (nI a))], [], wC ov1 un1 (nI n1) (nI L.1) fa1 cu st fi se th db cn F, 0)) rfl (fun h => absurd h f1) (fun _ => ?_)
        refine mm_skip (mm_call_mono _ _) 1 (st' := (66, [(2, .int (-1)), (0, .ref 1), (1, .int (nI a))], [.ref 1], wC ov1 un1 (nI n1) (nI L.1) fa1 cu st fi se th db cn F, 0)) rfl ?_
        refine mm_inv (mm_call_mono _ _) (j := 138) (a := [.ref 1]) (M := wC ov1 un1 (nI n1) (nI L.1) fa1 cu st fi se th db cn F) (u := 0) rfl (by decide) (ct_N_reserve s1.1 (fun ov9 un9 n9 fa9 r h9 => ?_))
        show mm_W _ _ _ _ _ _ _ (69, [(2, .int (-1)), (0, .ref 1), (1, .int (nI a))], [.int (nI r)], wC ov9 un9 (nI n9) (nI L.1) fa9 cu st fi se th db cn F, 0)
        refine mm_skip (mm_call_mono _ _) 1 (st' := (77, [(2, .int (-1)), (0, .ref 1), (1, .int (nI a))], [.int (nI r)], wC ov9 un9 (nI n9) (nI L.1) fa9 cu st fi se th db cn F, 0)) rfl ?_
        exact mm_ret (mm_call_mono _ _) (c := True) (r := .inl (some (.int (nI r)))) (M := wC ov9 un9 (nI n9) (nI L.1) fa9 cu st fi se th db cn F) (u := 0) rfl trivial (by decide) (hQ _ _ _ _ L _ zz (tk_fail hl s1 (F1 (mm_z1 s1.2.1 f1)) (mm_z1 s1.2.1 f1) h9))
  · skip
    have N1 : fa = 0 → n + 644 ≤ 1332 → xtake L x = none := fun q0 q1 => (s1.2.1).elim (fun z => (E1 z).trans (if_pos (i32_lt gs))) (fun z => F1 z q0 q1)
    refine mm_skip (mm_call_mono _ _) 2 (st' := (14, [(0, .ref 1), (1, .int (nI a))], [.int 1, .ref 1], wC ov1 un1 (nI n1) (nI L.1) fa1 cu st fi se th db cn F, 0)) rfl ?_
    refine mm_need (mm_call_mono _ _) (c := mm_z 1) (s' := (17, [(0, .ref 1), (1, .int (nI a))], [], wC ov1 un1 (nI n1) (nI L.1) 1 cu st fi se th db cn F, 0)) rfl (by unfold mm_z; decide) ?_
    refine mm_skip (mm_call_mono _ _) 2 (st' := (21, [(0, .ref 1), (1, .int (nI a))], [.int 1], wC ov1 un1 (nI n1) (nI L.1) 1 cu st fi se th db cn F, 0)) rfl ?_
    refine mm_branch (mm_call_mono _ _) (c := (1 : Int32) = 0) (s1 := (28, [(0, .ref 1), (1, .int (nI a))], [], wC ov1 un1 (nI n1) (nI L.1) 1 cu st fi se th db cn F, 0)) (s2 := (24, [(0, .ref 1), (1, .int (nI a))], [], wC ov1 un1 (nI n1) (nI L.1) 1 cu st fi se th db cn F, 0)) rfl (fun h => absurd h (by decide)) (fun _ => ?_)
    refine mm_skip (mm_call_mono _ _) 5 (st' := (40, [(2, .int (-1)), (0, .ref 1), (1, .int (nI a))], [.int (-1), .int (-1)], wC ov1 un1 (nI n1) (nI L.1) 1 cu st fi se th db cn F, 0)) rfl ?_
    refine mm_branch (mm_call_mono _ _) (c := ((-1) : Int32) = (-1)) (s1 := (45, [(2, .int (-1)), (0, .ref 1), (1, .int (nI a))], [], wC ov1 un1 (nI n1) (nI L.1) 1 cu st fi se th db cn F, 0)) (s2 := (43, [(2, .int (-1)), (0, .ref 1), (1, .int (nI a))], [], wC ov1 un1 (nI n1) (nI L.1) 1 cu st fi se th db cn F, 0)) rfl (fun _ => ?_) (fun h => absurd (by decide) h)
    refine mm_skip (mm_call_mono _ _) 3 (st' := (50, [(2, .int (-1)), (0, .ref 1), (1, .int (nI a))], [.int 2, .int (nI L.1)], wC ov1 un1 (nI n1) (nI L.1) 1 cu st fi se th db cn F, 0)) rfl ?_
    refine mm_branch (mm_call_mono _ _) (c := (nI L.1) = 2) (s1 := (53, [(2, .int (-1)), (0, .ref 1), (1, .int (nI a))], [], wC ov1 un1 (nI n1) (nI L.1) 1 cu st fi se th db cn F, 0)) (s2 := (58, [(2, .int (-1)), (0, .ref 1), (1, .int (nI a))], [], wC ov1 un1 (nI n1) (nI L.1) 1 cu st fi se th db cn F, 0)) rfl (fun dq => ?_) (fun dq => ?_)
    · skip
      refine mm_skip (mm_call_mono _ _) 2 (st' := (55, [(2, .int (-1)), (0, .ref 1), (1, .int (nI a))], [.int 1, .ref 1], wC ov1 un1 (nI n1) (nI L.1) 1 cu st fi se th db cn F, 0)) rfl ?_
      refine mm_need (mm_call_mono _ _) (c := mm_z 1) (s' := (58, [(2, .int (-1)), (0, .ref 1), (1, .int (nI a))], [], wC ov1 un1 (nI n1) (nI L.1) 1 cu st fi se th db cn F, 0)) rfl (by unfold mm_z; decide) ?_
      refine mm_skip (mm_call_mono _ _) 2 (st' := (62, [(2, .int (-1)), (0, .ref 1), (1, .int (nI a))], [.int 1], wC ov1 un1 (nI n1) (nI L.1) 1 cu st fi se th db cn F, 0)) rfl ?_
      refine mm_branch (mm_call_mono _ _) (c := (1 : Int32) = 0) (s1 := (72, [(2, .int (-1)), (0, .ref 1), (1, .int (nI a))], [], wC ov1 un1 (nI n1) (nI L.1) 1 cu st fi se th db cn F, 0)) (s2 := (65, [(2, .int (-1)), (0, .ref 1), (1, .int (nI a))], [], wC ov1 un1 (nI n1) (nI L.1) 1 cu st fi se th db cn F, 0)) rfl (fun h => absurd h (by decide)) (fun _ => ?_)
      refine mm_skip (mm_call_mono _ _) 1 (st' := (66, [(2, .int (-1)), (0, .ref 1), (1, .int (nI a))], [.ref 1], wC ov1 un1 (nI n1) (nI L.1) 1 cu st fi se th db cn F, 0)) rfl ?_
      refine mm_inv (mm_call_mono _ _) (j := 138) (a := [.ref 1]) (M := wC ov1 un1 (nI n1) (nI L.1) 1 cu st fi se th db cn F) (u := 0) rfl (by decide) (ct_N_reserve s1.1 (fun ov9 un9 n9 fa9 r h9 => ?_))
      show mm_W _ _ _ _ _ _ _ (69, [(2, .int (-1)), (0, .ref 1), (1, .int (nI a))], [.int (nI r)], wC ov9 un9 (nI n9) (nI L.1) fa9 cu st fi se th db cn F, 0)
      refine mm_skip (mm_call_mono _ _) 1 (st' := (77, [(2, .int (-1)), (0, .ref 1), (1, .int (nI a))], [.int (nI r)], wC ov9 un9 (nI n9) (nI L.1) fa9 cu st fi se th db cn F, 0)) rfl ?_
      exact mm_ret (mm_call_mono _ _) (c := True) (r := .inl (some (.int (nI r)))) (M := wC ov9 un9 (nI n9) (nI L.1) fa9 cu st fi se th db cn F) (u := 0) rfl trivial (by decide) (hQ _ _ _ _ L _ zz (tk_fail hl s1 (N1) rfl h9))
    · skip
      refine mm_skip (mm_call_mono _ _) 2 (st' := (62, [(2, .int (-1)), (0, .ref 1), (1, .int (nI a))], [.int 1], wC ov1 un1 (nI n1) (nI L.1) 1 cu st fi se th db cn F, 0)) rfl ?_
      refine mm_branch (mm_call_mono _ _) (c := (1 : Int32) = 0) (s1 := (72, [(2, .int (-1)), (0, .ref 1), (1, .int (nI a))], [], wC ov1 un1 (nI n1) (nI L.1) 1 cu st fi se th db cn F, 0)) (s2 := (65, [(2, .int (-1)), (0, .ref 1), (1, .int (nI a))], [], wC ov1 un1 (nI n1) (nI L.1) 1 cu st fi se th db cn F, 0)) rfl (fun h => absurd h (by decide)) (fun _ => ?_)
      refine mm_skip (mm_call_mono _ _) 1 (st' := (66, [(2, .int (-1)), (0, .ref 1), (1, .int (nI a))], [.ref 1], wC ov1 un1 (nI n1) (nI L.1) 1 cu st fi se th db cn F, 0)) rfl ?_
      refine mm_inv (mm_call_mono _ _) (j := 138) (a := [.ref 1]) (M := wC ov1 un1 (nI n1) (nI L.1) 1 cu st fi se th db cn F) (u := 0) rfl (by decide) (ct_N_reserve s1.1 (fun ov9 un9 n9 fa9 r h9 => ?_))
      show mm_W _ _ _ _ _ _ _ (69, [(2, .int (-1)), (0, .ref 1), (1, .int (nI a))], [.int (nI r)], wC ov9 un9 (nI n9) (nI L.1) fa9 cu st fi se th db cn F, 0)
      refine mm_skip (mm_call_mono _ _) 1 (st' := (77, [(2, .int (-1)), (0, .ref 1), (1, .int (nI a))], [.int (nI r)], wC ov9 un9 (nI n9) (nI L.1) fa9 cu st fi se th db cn F, 0)) rfl ?_
      exact mm_ret (mm_call_mono _ _) (c := True) (r := .inl (some (.int (nI r)))) (M := wC ov9 un9 (nI n9) (nI L.1) fa9 cu st fi se th db cn F) (u := 0) rfl trivial (by decide) (hQ _ _ _ _ L _ zz (tk_fail hl s1 (N1) rfl h9))

