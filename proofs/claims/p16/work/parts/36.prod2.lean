def zz : n4 := (z0, z0, z0, z0)
theorem g4_zz (j : Nat) : g4 zz j = z0 := by
  unfold g4 zz
  split <;> rfl
/-- a product with 0 is 0 -/
def zM (h : Nat) (M : (Nat → fr) → (Nat → fr) → Option n4) : Prop := ∀ x y, (∀ j, j < h → fv (x j)) → (∀ j, j < h → fv (y j)) → ((∀ j, j < h → (x j).1 = 0) ∨ ∀ j, j < h → (y j).1 = 0) → M x y = some zz
theorem zM_0 : zM 1 nmul0 := by
  intro x y hx hy hz
  show (fmul (x 0) (y 0)).map (fun a => ((a, z0, z0, z0) : n4)) = some zz
  rcases hz with hz | hz
  · rw [fmul_0l (hy 0 (by omega)).1 (hx 0 (by omega)).1 (hz 0 (by omega))]; rfl
  · rw [fmul_0r (hy 0 (by omega)).1 (hx 0 (by omega)).1 (hz 0 (by omega))]; rfl
theorem fadd_zz : fadd z0 z0 = some z0 := fmk_0 (by decide)
theorem nadd_zz {h : Nat} (hh : h = 1 ∨ h = 2) : nadd h (g4 zz) (g4 zz) = some zz := by
  rcases hh with rfl | rfl
  · show (fadd z0 z0).map (fun a => ((a, z0, z0, z0) : n4)) = some zz
    rw [fadd_zz]; rfl
  · show ((fadd z0 z0).bind fun a => (fadd z0 z0).map fun b => ((a, b, z0, z0) : n4)) = some zz
    rw [fadd_zz]; rfl
theorem zM_S {h : Nat} (hh : h = 1 ∨ h = 2) {M : (Nat → fr) → (Nat → fr) → Option n4} (hM : zM h M) {R : Nat → fr} (hR : ∀ j, j < h → fv (R j)) : zM (2 * h) (nmulS h M R) := by
  intro x y hx hy hz
  have a1 : M (sh h x) (sh h y) = some zz := hM _ _ (fun j hj => hx (h + j) (by omega)) (fun j hj => hy (h + j) (by omega)) (hz.imp (fun q j hj => q (h + j) (by omega)) (fun q j hj => q (h + j) (by omega)))
  have a2 : M (g4 zz) R = some zz := hM _ _ (fun j _ => by rw [g4_zz]; exact fv_z0) hR (Or.inl (fun j _ => by rw [g4_zz]; rfl))
  have a3 : M x y = some zz := hM _ _ (fun j hj => hx j (by omega)) (fun j hj => hy j (by omega)) (hz.imp (fun q j hj => q j (by omega)) (fun q j hj => q j (by omega)))
  have a4 : M x (sh h y) = some zz := hM _ _ (fun j hj => hx j (by omega)) (fun j hj => hy (h + j) (by omega)) (hz.imp (fun q j hj => q j (by omega)) (fun q j hj => q (h + j) (by omega)))
  have a5 : M (sh h x) y = some zz := hM _ _ (fun j hj => hx (h + j) (by omega)) (fun j hj => hy j (by omega)) (hz.imp (fun q j hj => q (h + j) (by omega)) (fun q j hj => q j (by omega)))
  unfold nmulS
  rw [a1]
  show ((M (g4 zz) R).bind fun bdr => (M x y).bind fun ac => (nadd h (g4 ac) (g4 bdr)).bind fun p => (M x (sh h y)).bind fun ad => (M (sh h x) y).bind fun bc => (nadd h (g4 ad) (g4 bc)).bind fun q => some (jn h p q)) = _
  rw [a2]
  show ((M x y).bind fun ac => (nadd h (g4 ac) (g4 zz)).bind fun p => (M x (sh h y)).bind fun ad => (M (sh h x) y).bind fun bc => (nadd h (g4 ad) (g4 bc)).bind fun q => some (jn h p q)) = _
  rw [a3]
  show ((nadd h (g4 zz) (g4 zz)).bind fun p => (M x (sh h y)).bind fun ad => (M (sh h x) y).bind fun bc => (nadd h (g4 ad) (g4 bc)).bind fun q => some (jn h p q)) = _
  rw [nadd_zz hh]
  show ((M x (sh h y)).bind fun ad => (M (sh h x) y).bind fun bc => (nadd h (g4 ad) (g4 bc)).bind fun q => some (jn h zz q)) = _
  rw [a4]
  show ((M (sh h x) y).bind fun bc => (nadd h (g4 zz) (g4 bc)).bind fun q => some (jn h zz q)) = _
  rw [a5]
  show ((nadd h (g4 zz) (g4 zz)).bind fun q => some (jn h zz q)) = _
  rw [nadd_zz hh]
  rcases hh with rfl | rfl <;> rfl
/-- a new number is 0 -/
theorem at_res {ov un ov1 un1 : Nat → Int32} {n n1 r : Nat} {fa fa1 : Int32} (h : resR ov un n fa ov1 un1 n1 fa1 r) (hn : 308 ≤ n) : isAt ov1 un1 n1 fa1 4 r (fun _ => z0) := by
  have hr := res_r h hn
  have key : ∀ j, j < 4 → rd ov1 un1 r j = z0 := fun j hj => by
    obtain ⟨e1, e2⟩ := h.2.2.2 (r + j) (by omega) (by omega)
    show ((ov1 (r + j)).toInt, (un1 (r + j)).toInt) = z0
    rw [e1, e2]; rfl
  exact ⟨⟨by omega, fun _ => ⟨by omega, fun j hj => by rw [key j hj]; exact fv_z0⟩⟩, fun _ j hj => key j hj⟩
/-- 0 as it was reserved -/
theorem op_zero {ov un ov1 un1 : Nat → Int32} {n n1 r cost : Nat} {fa fa1 : Int32} {T : Option n4} (hfa : mm_z fa) (hn : 308 ≤ n) (h : resR ov un n fa ov1 un1 n1 fa1 r) (hc : 4 ≤ cost) (hT : fa1 = 0 → T = some zz) : opR ov un n fa cost T ov1 un1 n1 fa1 r := by
  have hr := res_r h hn
  have s1 := stg_0 hfa hn h
  have az := at_res h hn
  obtain ⟨a1, a2, a3, a4, a5⟩ := s1
  refine ⟨⟨hr.1, hr.2.1⟩, a1, a2, a3, a4, fun h0 => ?_, res_f h hc⟩
  obtain ⟨q1, q2, q3⟩ := a5 h0
  have e : r4 ov1 un1 r = zz := by
    have z := az.2 h0
    unfold r4 zz
    rw [show rf ov1 un1 r = z0 from z 0 (by omega), show rf ov1 un1 (r + 1) = z0 from z 1 (by omega), show rf ov1 un1 (r + 2) = z0 from z 2 (by omega), show rf ov1 un1 (r + 3) = z0 from z 3 (by omega)]
  have hrn : r = n := by
    obtain ⟨h1 | h1, -⟩ := h
    · exact h1.2.1
    · rw [h1.2.2] at h0; exact absurd h0 z10
  exact ⟨q1, hrn, by omega, q3, by rw [e]; exact hT h0, by rw [e]; exact ⟨fv_z0, fv_z0, fv_z0, fv_z0⟩⟩
theorem rd0 {ov1 un1 : Nat → Int32} {n m a : Nat} {fa1 : Int32} {x : Nat → fr} (h : isAt ov1 un1 n fa1 m a x) (hz : isz m ov1 a) (h0 : fa1 = 0) : ∀ j, j < m → (x j).1 = 0 := fun j hj => by
  rw [← h.2 h0 j hj]
  exact rf0 (hz j hj)
theorem at_v {ov un : Nat → Int32} {n m a : Nat} {fa : Int32} {x : Nat → fr} (h : isAt ov un n fa m a x) (h0 : fa = 0) : ∀ j, j < m → fv (x j) := fun j hj => by
  rw [← h.2 h0 j hj]
  exact (h.1.2 h0).2 j hj
theorem prow_out {f : Nat → Int32} {m r a b k : Nat} (h : k < r ∨ r + 2 * m ≤ k) : prow f m r a b k = f k := by
  unfold prow va_cpy
  rw [if_neg (by omega), if_neg (by omega)]
theorem prow_a {f : Nat → Int32} {m r a b j : Nat} (hj : j < m) : prow f m r a b (r + j) = f (a + j) := by
  unfold prow va_cpy
  rw [if_neg (by omega), if_pos (by omega), show a + (r + j - r) = a + j by omega]
theorem prow_b {f : Nat → Int32} {m r a b j : Nat} (hj : j < m) (hb : r + m ≤ b) : prow f m r a b (r + m + j) = f (b + j) := by
  unfold prow va_cpy
  rw [if_pos (by omega), show b + (r + m + j - (r + m)) = b + j by omega, if_neg (by omega)]
/-- behind pair -/
theorem pair_fin {ov un ov1 un1 : Nat → Int32} {n n1 r a b h w C : Nat} {fa fa1 : Int32} {P Q : n4} {spec : Option n4} (hh : h = 1 ∨ h = 2) (hr : 308 ≤ r ∧ r + 4 ≤ 1332) (hrn : fa1 = 0 → r = n) (s : stg ov un n fa w ov1 un1 n1 fa1) (hz : isAt ov1 un1 n1 fa1 4 r (fun _ => z0)) (hp : isAt ov1 un1 n1 fa1 4 a (g4 P)) (hq : isAt ov1 un1 n1 fa1 4 b (g4 Q)) (hab : fa1 = 0 → r + 4 ≤ a ∧ r + 4 ≤ b) (E : fa1 = 0 → spec = some (jn h P Q)) (F : fa1 = 1 → fa = 0 → n + C ≤ 1332 → spec = none) :
    opR ov un n fa C spec (prow ov1 h r a b) (prow un1 h r a b) (r + 4) fa1 r := by
  obtain ⟨a1, a2, a3, a4, a5⟩ := s
  refine ⟨hr, by omega, a2, fun k hk => ?_, a4, fun h0 => ?_, F⟩
  · rw [prow_out (by omega), prow_out (by omega)]; exact a3 k hk
  · obtain ⟨q1, q2, q3⟩ := a5 h0
    have hrn := hrn h0
    obtain ⟨ha4, hb4⟩ := hab h0
    have ea : ∀ j, j < h → rf (prow ov1 h r a b) (prow un1 h r a b) (r + j) = g4 P j := fun j hj => by
      rw [← hp.2 h0 j (by omega)]
      show ((prow ov1 h r a b (r + j)).toInt, (prow un1 h r a b (r + j)).toInt) = rf ov1 un1 (a + j)
      rw [prow_a hj, prow_a hj]; rfl
    have eb : ∀ j, j < h → rf (prow ov1 h r a b) (prow un1 h r a b) (r + h + j) = g4 Q j := fun j hj => by
      rw [← hq.2 h0 j (by omega)]
      show ((prow ov1 h r a b (r + h + j)).toInt, (prow un1 h r a b (r + h + j)).toInt) = rf ov1 un1 (b + j)
      rw [prow_b hj (by omega), prow_b hj (by omega)]; rfl
    have ez : ∀ j, 2 * h ≤ j → j < 4 → rf (prow ov1 h r a b) (prow un1 h r a b) (r + j) = z0 := fun j h1 h2 => by
      have e9 : rd ov1 un1 r j = z0 := hz.2 h0 j h2
      rw [← e9]
      show ((prow ov1 h r a b (r + j)).toInt, (prow un1 h r a b (r + j)).toInt) = rf ov1 un1 (r + j)
      rw [prow_out (by omega), prow_out (by omega)]; rfl
    have e : r4 (prow ov1 h r a b) (prow un1 h r a b) r = jn h P Q := by
      unfold r4
      rcases hh with rfl | rfl
      · rw [ez 2 (by omega) (by omega), ez 3 (by omega) (by omega), show rf (prow ov1 1 r a b) (prow un1 1 r a b) r = g4 P 0 from ea 0 (by omega), show rf (prow ov1 1 r a b) (prow un1 1 r a b) (r + 1) = g4 Q 0 from eb 0 (by omega)]
        rfl
      · rw [show rf (prow ov1 2 r a b) (prow un1 2 r a b) r = g4 P 0 from ea 0 (by omega), ea 1 (by omega), show rf (prow ov1 2 r a b) (prow un1 2 r a b) (r + 2) = g4 Q 0 from eb 0 (by omega), show rf (prow ov1 2 r a b) (prow un1 2 r a b) (r + 3) = g4 Q 1 from eb 1 (by omega)]
        rfl
    have vp := at_v hp h0
    have vq := at_v hq h0
    refine ⟨q1, hrn, by omega, fun k hk => ?_, by rw [e]; exact E h0, ?_⟩
    · rw [prow_out (by omega), prow_out (by omega)]; exact q3 k hk
    · rw [e]
      rcases hh with rfl | rfl
      · exact ⟨vp 0 (by omega), vq 0 (by omega), fv_z0, fv_z0⟩
      · exact ⟨vp 0 (by omega), vp 1 (by omega), vq 0 (by omega), vq 1 (by omega)⟩
theorem res_n {ov un ov1 un1 : Nat → Int32} {n n1 r : Nat} {fa fa1 : Int32} (h : resR ov un n fa ov1 un1 n1 fa1 r) (h0 : fa1 = 0) : r = n := by
  obtain ⟨h1 | h1, -⟩ := h
  · exact h1.2.1
  · rw [h1.2.2] at h0; exact absurd h0 z10
theorem op_rn {ov un ov1 un1 : Nat → Int32} {n n1 r cost : Nat} {fa fa1 : Int32} {T : Option n4} (h : opR ov un n fa cost T ov1 un1 n1 fa1 r) (h0 : fa1 = 0) : r = n ∧ fa = 0 := ⟨(h.2.2.2.2.2.1 h0).2.1, (h.2.2.2.2.2.1 h0).1⟩
set_option maxRecDepth 100000 in
theorem at_N_product_1 {d : Nat} {ov un : Nat → Int32} {dp fa : Int32} {cu : mm_cu} {st fi se th db : Nat → Int32} {cn : Int32} {F : mm_M} {n a b : Nat} {x y R1 : Nat → fr} {Q : mm_R → mm_M → Prop} (hfa : mm_z fa) (hn : 308 ≤ n ∧ n ≤ 1332) (P : isAt ov un n fa 1 0 R1) (A : isAt ov un n fa 2 a x) (B : isAt ov un n fa 2 b y) (hQ : ∀ (ov1 un1 : Nat → Int32) (n1 : Nat) (fa1 : Int32) (r : Nat), opR ov un n fa 32 (nmul1 R1 x y) ov1 un1 n1 fa1 r → Q (.inl (some (.int (nI r)))) (wC ov1 un1 (nI n1) dp fa1 cu st fi se th db cn F)) : mm_call mm_Tb (d + 3) 145 [.ref 1, .int 1, .int (nI a), .int (nI b)] (wC ov un (nI n) dp fa cu st fi se th db cn F) Q := by
  refine mm_in mt_145 (Nat.le_of_ble_eq_true rfl) ?_
  show mm_W _ _ _ _ _ _ _ (0, [(0, .ref 1), (1, .int 1), (2, .int (nI a)), (3, .int (nI b))], [], wC ov un (nI n) dp fa cu st fi se th db cn F, 0)
  refine mm_skip (mm_call_mono _ _) 1 (st' := (1, [(0, .ref 1), (1, .int 1), (2, .int (nI a)), (3, .int (nI b))], [.ref 1], wC ov un (nI n) dp fa cu st fi se th db cn F, 0)) rfl ?_
  refine mm_inv (mm_call_mono _ _) (j := 138) (a := [.ref 1]) (M := wC ov un (nI n) dp fa cu st fi se th db cn F) (u := 0) rfl (by decide) (ct_N_reserve hn (fun ov1 un1 n1 fa1 r h0 => ?_))
  show mm_W _ _ _ _ _ _ _ (4, [(0, .ref 1), (1, .int 1), (2, .int (nI a)), (3, .int (nI b))], [.int (nI r)], wC ov1 un1 (nI n1) dp fa1 cu st fi se th db cn F, 0)
  have hr := res_r h0 hn.1
  have s1 := stg_0 hfa hn.1 h0
  have Z1 := at_res h0 hn.1
  have A1 := at_keep A (res_k h0 hn.1)
  have B1 := at_keep B (res_k h0 hn.1)
  have P1 := at_keep P (res_k h0 hn.1)
  have F1 := res_f (spec := nmul1 R1 x y) (C := 32) h0 (by omega)
  have E1 : fa1 = 0 → nmul1 R1 x y = Option.bind (nmul0 (sh 1 x) (sh 1 y)) (fun bd => (nmul0 (g4 bd) R1).bind fun bdr => (nmul0 x y).bind fun ac => (nadd 1 (g4 ac) (g4 bdr)).bind fun p => (nmul0 x (sh 1 y)).bind fun ad => (nmul0 (sh 1 x) y).bind fun bc => (nadd 1 (g4 ad) (g4 bc)).bind fun q => some (jn 1 p q)) := fun _ => rfl
  refine mm_skip (mm_call_mono _ _) 4 (st' := (9, [(4, .int (nI r)), (0, .ref 1), (1, .int 1), (2, .int (nI a)), (3, .int (nI b))], [.int (nI a), .int 1, .ref 1], wC ov1 un1 (nI n1) dp fa1 cu st fi se th db cn F, 0)) rfl ?_
  refine mm_inv (mm_call_mono _ _) (j := 141) (a := [.ref 1, .int 1, .int (nI a)]) (M := wC ov1 un1 (nI n1) dp fa1 cu st fi se th db cn F) (u := 0) rfl (by decide) (ct_N_isZero_1 (a := a) A.1.1 ?_)
  show mm_W _ _ _ _ _ _ _ (12, [(4, .int (nI r)), (0, .ref 1), (1, .int 1), (2, .int (nI a)), (3, .int (nI b))], [.int (bz (isz 2 ov1 a))], wC ov1 un1 (nI n1) dp fa1 cu st fi se th db cn F, 0)
  refine mm_branch (mm_call_mono _ _) (c := (bz (isz 2 ov1 a)) = 0) (s1 := (15, [(4, .int (nI r)), (0, .ref 1), (1, .int 1), (2, .int (nI a)), (3, .int (nI b))], [], wC ov1 un1 (nI n1) dp fa1 cu st fi se th db cn F, 0)) (s2 := (24, [(4, .int (nI r)), (0, .ref 1), (1, .int 1), (2, .int (nI a)), (3, .int (nI b))], [], wC ov1 un1 (nI n1) dp fa1 cu st fi se th db cn F, 0)) rfl (fun z1 => ?_) (fun z1 => ?_)
  · skip
    refine mm_skip (mm_call_mono _ _) 3 (st' := (18, [(4, .int (nI r)), (0, .ref 1), (1, .int 1), (2, .int (nI a)), (3, .int (nI b))], [.int (nI b), .int 1, .ref 1], wC ov1 un1 (nI n1) dp fa1 cu st fi se th db cn F, 0)) rfl ?_
    refine mm_inv (mm_call_mono _ _) (j := 141) (a := [.ref 1, .int 1, .int (nI b)]) (M := wC ov1 un1 (nI n1) dp fa1 cu st fi se th db cn F) (u := 0) rfl (by decide) (ct_N_isZero_1 (a := b) B.1.1 ?_)
    show mm_W _ _ _ _ _ _ _ (21, [(4, .int (nI r)), (0, .ref 1), (1, .int 1), (2, .int (nI a)), (3, .int (nI b))], [.int (bz (isz 2 ov1 b))], wC ov1 un1 (nI n1) dp fa1 cu st fi se th db cn F, 0)
    refine mm_branch (mm_call_mono _ _) (c := (bz (isz 2 ov1 b)) = 0) (s1 := (27, [(4, .int (nI r)), (0, .ref 1), (1, .int 1), (2, .int (nI a)), (3, .int (nI b))], [], wC ov1 un1 (nI n1) dp fa1 cu st fi se th db cn F, 0)) (s2 := (24, [(4, .int (nI r)), (0, .ref 1), (1, .int 1), (2, .int (nI a)), (3, .int (nI b))], [], wC ov1 un1 (nI n1) dp fa1 cu st fi se th db cn F, 0)) rfl (fun z2 => ?_) (fun z2 => ?_)
    · skip
      refine mm_skip (mm_call_mono _ _) 1 (st' := (28, [(4, .int (nI r)), (0, .ref 1), (1, .int 1), (2, .int (nI a)), (3, .int (nI b))], [.int 1], wC ov1 un1 (nI n1) dp fa1 cu st fi se th db cn F, 0)) rfl ?_
      refine mm_branch (mm_call_mono _ _) (c := (0 : Int32) < 1) (s1 := (70, [(4, .int (nI r)), (0, .ref 1), (1, .int 1), (2, .int (nI a)), (3, .int (nI b))], [], wC ov1 un1 (nI n1) dp fa1 cu st fi se th db cn F, 0)) (s2 := (31, [(4, .int (nI r)), (0, .ref 1), (1, .int 1), (2, .int (nI a)), (3, .int (nI b))], [], wC ov1 un1 (nI n1) dp fa1 cu st fi se th db cn F, 0)) rfl (fun _ => ?_) (fun h => absurd (by decide) h)
      refine mm_skip (mm_call_mono _ _) 22 (st' := (101, [(7, .int ((nI b) + 1)), (6, .int ((nI a) + 1)), (5, .int 0), (4, .int (nI r)), (0, .ref 1), (1, .int 1), (2, .int (nI a)), (3, .int (nI b))], [.int ((nI b) + 1), .int ((nI a) + 1), .int 0, .ref 1, .int 0, .ref 1], wC ov1 un1 (nI n1) dp fa1 cu st fi se th db cn F, 0)) rfl ?_
      rw [nI_p1 (b)]
      rw [nI_p1 (a)]
      show mm_W _ _ _ _ _ _ _ (101, [(7, .int (nI (b + 1))), (6, .int (nI (a + 1))), (5, .int 0), (4, .int (nI r)), (0, .ref 1), (1, .int 1), (2, .int (nI a)), (3, .int (nI b))], [.int (nI (b + 1)), .int (nI (a + 1)), .int 0, .ref 1, .int 0, .ref 1], wC ov1 un1 (nI n1) dp fa1 cu st fi se th db cn F, 0)
      refine mm_inv (mm_call_mono _ _) (j := 145) (a := [.ref 1, .int 0, .int (nI (a + 1)), .int (nI (b + 1))]) (M := wC ov1 un1 (nI n1) dp fa1 cu st fi se th db cn F) (u := 0) rfl (by decide) (at_N_product_0 s1.2.1 s1.1 (at_hi A1 1 (by omega)) (at_hi B1 1 (by omega)) (fun ov2 un2 n2 fa2 ibd h1 => ?_))
      show mm_W _ _ _ _ _ _ _ (104, [(7, .int (nI (b + 1))), (6, .int (nI (a + 1))), (5, .int 0), (4, .int (nI r)), (0, .ref 1), (1, .int 1), (2, .int (nI a)), (3, .int (nI b))], [.int (nI ibd), .int 0, .ref 1], wC ov2 un2 (nI n2) dp fa2 cu st fi se th db cn F, 0)
      have s2 := stg_s s1 hn.1 h1
      have F2 := seq_f s1 F1 E1 h1 (by omega)
      have E2 := seq_e E1 h1
      have A2 := at_keep A1 (op_k h1)
      have B2 := at_keep B1 (op_k h1)
      have P2 := at_keep P1 (op_k h1)
      have Z2 := at_keep Z1 (op_k h1)
      have bd2 := at_new h1
      refine mm_skip (mm_call_mono _ _) 1 (st' := (105, [(7, .int (nI (b + 1))), (6, .int (nI (a + 1))), (5, .int 0), (4, .int (nI r)), (0, .ref 1), (1, .int 1), (2, .int (nI a)), (3, .int (nI b))], [.int 1, .int (nI ibd), .int 0, .ref 1], wC ov2 un2 (nI n2) dp fa2 cu st fi se th db cn F, 0)) rfl ?_
      refine mm_inv (mm_call_mono _ _) (j := 120) (a := [.int 1]) (M := wC ov2 un2 (nI n2) dp fa2 cu st fi se th db cn F) (u := 0) rfl (by decide) (ct_N_radicandOf_1 ?_)
      show mm_W _ _ _ _ _ _ _ (108, [(7, .int (nI (b + 1))), (6, .int (nI (a + 1))), (5, .int 0), (4, .int (nI r)), (0, .ref 1), (1, .int 1), (2, .int (nI a)), (3, .int (nI b))], [.int (nI 0), .int (nI ibd), .int 0, .ref 1], wC ov2 un2 (nI n2) dp fa2 cu st fi se th db cn F, 0)
      refine mm_inv (mm_call_mono _ _) (j := 145) (a := [.ref 1, .int 0, .int (nI ibd), .int (nI 0)]) (M := wC ov2 un2 (nI n2) dp fa2 cu st fi se th db cn F) (u := 0) rfl (by decide) (at_N_product_0 s2.2.1 s2.1 (at_lo bd2 (by omega)) P2 (fun ov3 un3 n3 fa3 ibdr h2 => ?_))
      show mm_W _ _ _ _ _ _ _ (111, [(7, .int (nI (b + 1))), (6, .int (nI (a + 1))), (5, .int 0), (4, .int (nI r)), (0, .ref 1), (1, .int 1), (2, .int (nI a)), (3, .int (nI b))], [.int (nI ibdr)], wC ov3 un3 (nI n3) dp fa3 cu st fi se th db cn F, 0)
      have s3 := stg_s s2 hn.1 h2
      have F3 := seq_f s2 F2 E2 h2 (by omega)
      have E3 := seq_e E2 h2
      have A3 := at_keep A2 (op_k h2)
      have B3 := at_keep B2 (op_k h2)
      have P3 := at_keep P2 (op_k h2)
      have Z3 := at_keep Z2 (op_k h2)
      have bd3 := at_keep bd2 (op_k h2)
      have bdr3 := at_new h2
      refine mm_skip (mm_call_mono _ _) 7 (st' := (121, [(8, .int (nI ibdr)), (7, .int (nI (b + 1))), (6, .int (nI (a + 1))), (5, .int 0), (4, .int (nI r)), (0, .ref 1), (1, .int 1), (2, .int (nI a)), (3, .int (nI b))], [.int (nI b), .int (nI a), .int 0, .ref 1, .int 0, .ref 1], wC ov3 un3 (nI n3) dp fa3 cu st fi se th db cn F, 0)) rfl ?_
      refine mm_inv (mm_call_mono _ _) (j := 145) (a := [.ref 1, .int 0, .int (nI a), .int (nI b)]) (M := wC ov3 un3 (nI n3) dp fa3 cu st fi se th db cn F) (u := 0) rfl (by decide) (at_N_product_0 s3.2.1 s3.1 (at_lo A3 (by omega)) (at_lo B3 (by omega)) (fun ov4 un4 n4 fa4 iac h3 => ?_))
      show mm_W _ _ _ _ _ _ _ (124, [(8, .int (nI ibdr)), (7, .int (nI (b + 1))), (6, .int (nI (a + 1))), (5, .int 0), (4, .int (nI r)), (0, .ref 1), (1, .int 1), (2, .int (nI a)), (3, .int (nI b))], [.int (nI iac), .int 0, .ref 1], wC ov4 un4 (nI n4) dp fa4 cu st fi se th db cn F, 0)
      have s4 := stg_s s3 hn.1 h3
      have F4 := seq_f s3 F3 E3 h3 (by omega)
      have E4 := seq_e E3 h3
      have A4 := at_keep A3 (op_k h3)
      have B4 := at_keep B3 (op_k h3)
      have P4 := at_keep P3 (op_k h3)
      have Z4 := at_keep Z3 (op_k h3)
      have bdr4 := at_keep bdr3 (op_k h3)
      have ac4 := at_new h3
      refine mm_skip (mm_call_mono _ _) 1 (st' := (126, [(8, .int (nI ibdr)), (7, .int (nI (b + 1))), (6, .int (nI (a + 1))), (5, .int 0), (4, .int (nI r)), (0, .ref 1), (1, .int 1), (2, .int (nI a)), (3, .int (nI b))], [.int (nI ibdr), .int (nI iac), .int 0, .ref 1], wC ov4 un4 (nI n4) dp fa4 cu st fi se th db cn F, 0)) rfl ?_
      refine mm_inv (mm_call_mono _ _) (j := 142) (a := [.ref 1, .int 0, .int (nI iac), .int (nI ibdr)]) (M := wC ov4 un4 (nI n4) dp fa4 cu st fi se th db cn F) (u := 0) rfl (by decide) (at_N_sum_0 s4.2.1 s4.1 (at_lo ac4 (by omega)) (at_lo bdr4 (by omega)) (fun ov5 un5 n5 fa5 ipl h4 => ?_))
      show mm_W _ _ _ _ _ _ _ (129, [(8, .int (nI ibdr)), (7, .int (nI (b + 1))), (6, .int (nI (a + 1))), (5, .int 0), (4, .int (nI r)), (0, .ref 1), (1, .int 1), (2, .int (nI a)), (3, .int (nI b))], [.int (nI ipl)], wC ov5 un5 (nI n5) dp fa5 cu st fi se th db cn F, 0)
      have s5 := stg_s s4 hn.1 h4
      have F5 := seq_f s4 F4 E4 h4 (by omega)
      have E5 := seq_e E4 h4
      have A5 := at_keep A4 (op_k h4)
      have B5 := at_keep B4 (op_k h4)
      have P5 := at_keep P4 (op_k h4)
      have Z5 := at_keep Z4 (op_k h4)
      have bdr5 := at_keep bdr4 (op_k h4)
      have ac5 := at_keep ac4 (op_k h4)
      have pl5 := at_new h4
      refine mm_skip (mm_call_mono _ _) 7 (st' := (140, [(9, .int (nI ipl)), (8, .int (nI ibdr)), (7, .int (nI (b + 1))), (6, .int (nI (a + 1))), (5, .int 0), (4, .int (nI r)), (0, .ref 1), (1, .int 1), (2, .int (nI a)), (3, .int (nI b))], [.int (nI (b + 1)), .int (nI a), .int 0, .ref 1, .int 0, .ref 1], wC ov5 un5 (nI n5) dp fa5 cu st fi se th db cn F, 0)) rfl ?_
      refine mm_inv (mm_call_mono _ _) (j := 145) (a := [.ref 1, .int 0, .int (nI a), .int (nI (b + 1))]) (M := wC ov5 un5 (nI n5) dp fa5 cu st fi se th db cn F) (u := 0) rfl (by decide) (at_N_product_0 s5.2.1 s5.1 (at_lo A5 (by omega)) (at_hi B5 1 (by omega)) (fun ov6 un6 n6 fa6 iad h5 => ?_))
      show mm_W _ _ _ _ _ _ _ (143, [(9, .int (nI ipl)), (8, .int (nI ibdr)), (7, .int (nI (b + 1))), (6, .int (nI (a + 1))), (5, .int 0), (4, .int (nI r)), (0, .ref 1), (1, .int 1), (2, .int (nI a)), (3, .int (nI b))], [.int (nI iad), .int 0, .ref 1], wC ov6 un6 (nI n6) dp fa6 cu st fi se th db cn F, 0)
      have s6 := stg_s s5 hn.1 h5
      have F6 := seq_f s5 F5 E5 h5 (by omega)
      have E6 := seq_e E5 h5
      have A6 := at_keep A5 (op_k h5)
      have B6 := at_keep B5 (op_k h5)
      have P6 := at_keep P5 (op_k h5)
      have Z6 := at_keep Z5 (op_k h5)
      have pl6 := at_keep pl5 (op_k h5)
      have ad6 := at_new h5
      refine mm_skip (mm_call_mono _ _) 4 (st' := (149, [(9, .int (nI ipl)), (8, .int (nI ibdr)), (7, .int (nI (b + 1))), (6, .int (nI (a + 1))), (5, .int 0), (4, .int (nI r)), (0, .ref 1), (1, .int 1), (2, .int (nI a)), (3, .int (nI b))], [.int (nI b), .int (nI (a + 1)), .int 0, .ref 1, .int (nI iad), .int 0, .ref 1], wC ov6 un6 (nI n6) dp fa6 cu st fi se th db cn F, 0)) rfl ?_
      refine mm_inv (mm_call_mono _ _) (j := 145) (a := [.ref 1, .int 0, .int (nI (a + 1)), .int (nI b)]) (M := wC ov6 un6 (nI n6) dp fa6 cu st fi se th db cn F) (u := 0) rfl (by decide) (at_N_product_0 s6.2.1 s6.1 (at_hi A6 1 (by omega)) (at_lo B6 (by omega)) (fun ov7 un7 n7 fa7 ibc h6 => ?_))
      show mm_W _ _ _ _ _ _ _ (152, [(9, .int (nI ipl)), (8, .int (nI ibdr)), (7, .int (nI (b + 1))), (6, .int (nI (a + 1))), (5, .int 0), (4, .int (nI r)), (0, .ref 1), (1, .int 1), (2, .int (nI a)), (3, .int (nI b))], [.int (nI ibc), .int (nI iad), .int 0, .ref 1], wC ov7 un7 (nI n7) dp fa7 cu st fi se th db cn F, 0)
      have s7 := stg_s s6 hn.1 h6
      have F7 := seq_f s6 F6 E6 h6 (by omega)
      have E7 := seq_e E6 h6
      have A7 := at_keep A6 (op_k h6)
      have B7 := at_keep B6 (op_k h6)
      have P7 := at_keep P6 (op_k h6)
      have Z7 := at_keep Z6 (op_k h6)
      have pl7 := at_keep pl6 (op_k h6)
      have ad7 := at_keep ad6 (op_k h6)
      have bc7 := at_new h6
      refine mm_inv (mm_call_mono _ _) (j := 142) (a := [.ref 1, .int 0, .int (nI iad), .int (nI ibc)]) (M := wC ov7 un7 (nI n7) dp fa7 cu st fi se th db cn F) (u := 0) rfl (by decide) (at_N_sum_0 s7.2.1 s7.1 (at_lo ad7 (by omega)) (at_lo bc7 (by omega)) (fun ov8 un8 n8 fa8 iro h7 => ?_))
      show mm_W _ _ _ _ _ _ _ (155, [(9, .int (nI ipl)), (8, .int (nI ibdr)), (7, .int (nI (b + 1))), (6, .int (nI (a + 1))), (5, .int 0), (4, .int (nI r)), (0, .ref 1), (1, .int 1), (2, .int (nI a)), (3, .int (nI b))], [.int (nI iro)], wC ov8 un8 (nI n8) dp fa8 cu st fi se th db cn F, 0)
      have s8 := stg_s s7 hn.1 h7
      have F8 := seq_f s7 F7 E7 h7 (by omega)
      have E8 := seq_e E7 h7
      have A8 := at_keep A7 (op_k h7)
      have B8 := at_keep B7 (op_k h7)
      have P8 := at_keep P7 (op_k h7)
      have Z8 := at_keep Z7 (op_k h7)
      have pl8 := at_keep pl7 (op_k h7)
      have ad8 := at_keep ad7 (op_k h7)
      have bc8 := at_keep bc7 (op_k h7)
      have ro8 := at_new h7
      refine mm_skip (mm_call_mono _ _) 6 (st' := (166, [(10, .int (nI iro)), (9, .int (nI ipl)), (8, .int (nI ibdr)), (7, .int (nI (b + 1))), (6, .int (nI (a + 1))), (5, .int 0), (4, .int (nI r)), (0, .ref 1), (1, .int 1), (2, .int (nI a)), (3, .int (nI b))], [.int (nI iro), .int (nI ipl), .int (nI r), .int 0, .ref 1], wC ov8 un8 (nI n8) dp fa8 cu st fi se th db cn F, 0)) rfl ?_
      refine mm_inv (mm_call_mono _ _) (j := 140) (a := [.ref 1, .int 0, .int (nI r), .int (nI ipl), .int (nI iro)]) (M := wC ov8 un8 (nI n8) dp fa8 cu st fi se th db cn F) (u := 0) rfl (by decide) (ct_N_pair_0 (r := r) (a := ipl) (b := iro) (by omega) (by have := h4.1; omega) (by have := h7.1; omega) ?_)
      show mm_W _ _ _ _ _ _ _ (169, [(10, .int (nI iro)), (9, .int (nI ipl)), (8, .int (nI ibdr)), (7, .int (nI (b + 1))), (6, .int (nI (a + 1))), (5, .int 0), (4, .int (nI r)), (0, .ref 1), (1, .int 1), (2, .int (nI a)), (3, .int (nI b))], [.int (nI r)], wC (prow ov8 1 r ipl iro) (prow un8 1 r ipl iro) (nI (r + 4)) dp fa8 cu st fi se th db cn F, 0)
      exact mm_ret (mm_call_mono _ _) (c := True) (r := .inl (some (.int (nI r)))) (M := wC (prow ov8 1 r ipl iro) (prow un8 1 r ipl iro) (nI (r + 4)) dp fa8 cu st fi se th db cn F) (u := 0) rfl trivial (by decide) (hQ _ _ _ _ _ (pair_fin (C := 32) (by omega) ⟨hr.1, hr.2.1⟩ (fun q0 => by have e7 := op_rn h7 q0; have e6 := op_rn h6 e7.2; have e5 := op_rn h5 e6.2; have e4 := op_rn h4 e5.2; have e3 := op_rn h3 e4.2; have e2 := op_rn h2 e3.2; have e1 := op_rn h1 e2.2; exact res_n h0 e1.2) s8 Z8 pl8 ro8 (fun q0 => by have e7 := op_rn h7 q0; have e6 := op_rn h6 e7.2; have e5 := op_rn h5 e6.2; have e4 := op_rn h4 e5.2; have e3 := op_rn h3 e4.2; have e2 := op_rn h2 e3.2; have e1 := op_rn h1 e2.2; have e0 := res_n h0 e1.2; have t4 := (s4.2.2.2.2 e4.2).2.1; have t7 := (s7.2.2.2.2 e7.2).2.1; omega) E8 F8))
    · skip
      refine mm_skip (mm_call_mono _ _) 1 (st' := (26, [(4, .int (nI r)), (0, .ref 1), (1, .int 1), (2, .int (nI a)), (3, .int (nI b))], [.int (nI r)], wC ov1 un1 (nI n1) dp fa1 cu st fi se th db cn F, 0)) rfl ?_
      exact mm_ret (mm_call_mono _ _) (c := True) (r := .inl (some (.int (nI r)))) (M := wC ov1 un1 (nI n1) dp fa1 cu st fi se th db cn F) (u := 0) rfl trivial (by decide) (hQ _ _ _ _ _ (op_zero hfa hn.1 h0 (by omega) (fun q0 => (zM_S (h := 1) (by omega) zM_0 (at_v P1 q0)) _ _ (at_v A1 q0) (at_v B1 q0) (Or.inr (rd0 B1 (bz_1 z2) q0)))))
  · skip
    refine mm_skip (mm_call_mono _ _) 1 (st' := (26, [(4, .int (nI r)), (0, .ref 1), (1, .int 1), (2, .int (nI a)), (3, .int (nI b))], [.int (nI r)], wC ov1 un1 (nI n1) dp fa1 cu st fi se th db cn F, 0)) rfl ?_
    exact mm_ret (mm_call_mono _ _) (c := True) (r := .inl (some (.int (nI r)))) (M := wC ov1 un1 (nI n1) dp fa1 cu st fi se th db cn F) (u := 0) rfl trivial (by decide) (hQ _ _ _ _ _ (op_zero hfa hn.1 h0 (by omega) (fun q0 => (zM_S (h := 1) (by omega) zM_0 (at_v P1 q0)) _ _ (at_v A1 q0) (at_v B1 q0) (Or.inl (rd0 A1 (bz_1 z1) q0)))))

set_option maxRecDepth 100000 in
theorem at_N_product_2 {d : Nat} {ov un : Nat → Int32} {dp fa : Int32} {cu : mm_cu} {st fi se th db : Nat → Int32} {cn : Int32} {F : mm_M} {n a b : Nat} {x y R1 R2 : Nat → fr} {Q : mm_R → mm_M → Prop} (hfa : mm_z fa) (hn : 308 ≤ n ∧ n ≤ 1332) (P : isAt ov un n fa 1 0 R1) (S : isAt ov un n fa 2 4 R2) (A : isAt ov un n fa 4 a x) (B : isAt ov un n fa 4 b y) (hQ : ∀ (ov1 un1 : Nat → Int32) (n1 : Nat) (fa1 : Int32) (r : Nat), opR ov un n fa 56 (nmul2 R1 R2 x y) ov1 un1 n1 fa1 r → Q (.inl (some (.int (nI r)))) (wC ov1 un1 (nI n1) dp fa1 cu st fi se th db cn F)) : mm_call mm_Tb (d + 4) 145 [.ref 1, .int 2, .int (nI a), .int (nI b)] (wC ov un (nI n) dp fa cu st fi se th db cn F) Q := by
  refine mm_in mt_145 (Nat.le_of_ble_eq_true rfl) ?_
  show mm_W _ _ _ _ _ _ _ (0, [(0, .ref 1), (1, .int 2), (2, .int (nI a)), (3, .int (nI b))], [], wC ov un (nI n) dp fa cu st fi se th db cn F, 0)
  refine mm_skip (mm_call_mono _ _) 1 (st' := (1, [(0, .ref 1), (1, .int 2), (2, .int (nI a)), (3, .int (nI b))], [.ref 1], wC ov un (nI n) dp fa cu st fi se th db cn F, 0)) rfl ?_
  refine mm_inv (mm_call_mono _ _) (j := 138) (a := [.ref 1]) (M := wC ov un (nI n) dp fa cu st fi se th db cn F) (u := 0) rfl (by decide) (ct_N_reserve hn (fun ov1 un1 n1 fa1 r h0 => ?_))
  show mm_W _ _ _ _ _ _ _ (4, [(0, .ref 1), (1, .int 2), (2, .int (nI a)), (3, .int (nI b))], [.int (nI r)], wC ov1 un1 (nI n1) dp fa1 cu st fi se th db cn F, 0)
  have hr := res_r h0 hn.1
  have s1 := stg_0 hfa hn.1 h0
  have Z1 := at_res h0 hn.1
  have A1 := at_keep A (res_k h0 hn.1)
  have B1 := at_keep B (res_k h0 hn.1)
  have P1 := at_keep P (res_k h0 hn.1)
  have S1 := at_keep S (res_k h0 hn.1)
  have F1 := res_f (spec := nmul2 R1 R2 x y) (C := 56) h0 (by omega)
  have E1 : fa1 = 0 → nmul2 R1 R2 x y = Option.bind ((nmul1 R1) (sh 2 x) (sh 2 y)) (fun bd => ((nmul1 R1) (g4 bd) R2).bind fun bdr => ((nmul1 R1) x y).bind fun ac => (nadd 2 (g4 ac) (g4 bdr)).bind fun p => ((nmul1 R1) x (sh 2 y)).bind fun ad => ((nmul1 R1) (sh 2 x) y).bind fun bc => (nadd 2 (g4 ad) (g4 bc)).bind fun q => some (jn 2 p q)) := fun _ => rfl
  refine mm_skip (mm_call_mono _ _) 4 (st' := (9, [(4, .int (nI r)), (0, .ref 1), (1, .int 2), (2, .int (nI a)), (3, .int (nI b))], [.int (nI a), .int 2, .ref 1], wC ov1 un1 (nI n1) dp fa1 cu st fi se th db cn F, 0)) rfl ?_
  refine mm_inv (mm_call_mono _ _) (j := 141) (a := [.ref 1, .int 2, .int (nI a)]) (M := wC ov1 un1 (nI n1) dp fa1 cu st fi se th db cn F) (u := 0) rfl (by decide) (ct_N_isZero_2 (a := a) A.1.1 ?_)
  show mm_W _ _ _ _ _ _ _ (12, [(4, .int (nI r)), (0, .ref 1), (1, .int 2), (2, .int (nI a)), (3, .int (nI b))], [.int (bz (isz 4 ov1 a))], wC ov1 un1 (nI n1) dp fa1 cu st fi se th db cn F, 0)
  refine mm_branch (mm_call_mono _ _) (c := (bz (isz 4 ov1 a)) = 0) (s1 := (15, [(4, .int (nI r)), (0, .ref 1), (1, .int 2), (2, .int (nI a)), (3, .int (nI b))], [], wC ov1 un1 (nI n1) dp fa1 cu st fi se th db cn F, 0)) (s2 := (24, [(4, .int (nI r)), (0, .ref 1), (1, .int 2), (2, .int (nI a)), (3, .int (nI b))], [], wC ov1 un1 (nI n1) dp fa1 cu st fi se th db cn F, 0)) rfl (fun z1 => ?_) (fun z1 => ?_)
  · skip
    refine mm_skip (mm_call_mono _ _) 3 (st' := (18, [(4, .int (nI r)), (0, .ref 1), (1, .int 2), (2, .int (nI a)), (3, .int (nI b))], [.int (nI b), .int 2, .ref 1], wC ov1 un1 (nI n1) dp fa1 cu st fi se th db cn F, 0)) rfl ?_
    refine mm_inv (mm_call_mono _ _) (j := 141) (a := [.ref 1, .int 2, .int (nI b)]) (M := wC ov1 un1 (nI n1) dp fa1 cu st fi se th db cn F) (u := 0) rfl (by decide) (ct_N_isZero_2 (a := b) B.1.1 ?_)
    show mm_W _ _ _ _ _ _ _ (21, [(4, .int (nI r)), (0, .ref 1), (1, .int 2), (2, .int (nI a)), (3, .int (nI b))], [.int (bz (isz 4 ov1 b))], wC ov1 un1 (nI n1) dp fa1 cu st fi se th db cn F, 0)
    refine mm_branch (mm_call_mono _ _) (c := (bz (isz 4 ov1 b)) = 0) (s1 := (27, [(4, .int (nI r)), (0, .ref 1), (1, .int 2), (2, .int (nI a)), (3, .int (nI b))], [], wC ov1 un1 (nI n1) dp fa1 cu st fi se th db cn F, 0)) (s2 := (24, [(4, .int (nI r)), (0, .ref 1), (1, .int 2), (2, .int (nI a)), (3, .int (nI b))], [], wC ov1 un1 (nI n1) dp fa1 cu st fi se th db cn F, 0)) rfl (fun z2 => ?_) (fun z2 => ?_)
    · skip
      refine mm_skip (mm_call_mono _ _) 1 (st' := (28, [(4, .int (nI r)), (0, .ref 1), (1, .int 2), (2, .int (nI a)), (3, .int (nI b))], [.int 2], wC ov1 un1 (nI n1) dp fa1 cu st fi se th db cn F, 0)) rfl ?_
      refine mm_branch (mm_call_mono _ _) (c := (0 : Int32) < 2) (s1 := (70, [(4, .int (nI r)), (0, .ref 1), (1, .int 2), (2, .int (nI a)), (3, .int (nI b))], [], wC ov1 un1 (nI n1) dp fa1 cu st fi se th db cn F, 0)) (s2 := (31, [(4, .int (nI r)), (0, .ref 1), (1, .int 2), (2, .int (nI a)), (3, .int (nI b))], [], wC ov1 un1 (nI n1) dp fa1 cu st fi se th db cn F, 0)) rfl (fun _ => ?_) (fun h => absurd (by decide) h)
      refine mm_skip (mm_call_mono _ _) 22 (st' := (101, [(7, .int ((nI b) + 2)), (6, .int ((nI a) + 2)), (5, .int 1), (4, .int (nI r)), (0, .ref 1), (1, .int 2), (2, .int (nI a)), (3, .int (nI b))], [.int ((nI b) + 2), .int ((nI a) + 2), .int 1, .ref 1, .int 1, .ref 1], wC ov1 un1 (nI n1) dp fa1 cu st fi se th db cn F, 0)) rfl ?_
      rw [nI_p2 (b)]
      rw [nI_p2 (a)]
      show mm_W _ _ _ _ _ _ _ (101, [(7, .int (nI (b + 2))), (6, .int (nI (a + 2))), (5, .int 1), (4, .int (nI r)), (0, .ref 1), (1, .int 2), (2, .int (nI a)), (3, .int (nI b))], [.int (nI (b + 2)), .int (nI (a + 2)), .int 1, .ref 1, .int 1, .ref 1], wC ov1 un1 (nI n1) dp fa1 cu st fi se th db cn F, 0)
      refine mm_inv (mm_call_mono _ _) (j := 145) (a := [.ref 1, .int 1, .int (nI (a + 2)), .int (nI (b + 2))]) (M := wC ov1 un1 (nI n1) dp fa1 cu st fi se th db cn F) (u := 0) rfl (by decide) (at_N_product_1 s1.2.1 s1.1 P1 (at_hi A1 2 (by omega)) (at_hi B1 2 (by omega)) (fun ov2 un2 n2 fa2 ibd h1 => ?_))
      show mm_W _ _ _ _ _ _ _ (104, [(7, .int (nI (b + 2))), (6, .int (nI (a + 2))), (5, .int 1), (4, .int (nI r)), (0, .ref 1), (1, .int 2), (2, .int (nI a)), (3, .int (nI b))], [.int (nI ibd), .int 1, .ref 1], wC ov2 un2 (nI n2) dp fa2 cu st fi se th db cn F, 0)
      have s2 := stg_s s1 hn.1 h1
      have F2 := seq_f s1 F1 E1 h1 (by omega)
      have E2 := seq_e E1 h1
      have A2 := at_keep A1 (op_k h1)
      have B2 := at_keep B1 (op_k h1)
      have P2 := at_keep P1 (op_k h1)
      have S2 := at_keep S1 (op_k h1)
      have Z2 := at_keep Z1 (op_k h1)
      have bd2 := at_new h1
      refine mm_skip (mm_call_mono _ _) 1 (st' := (105, [(7, .int (nI (b + 2))), (6, .int (nI (a + 2))), (5, .int 1), (4, .int (nI r)), (0, .ref 1), (1, .int 2), (2, .int (nI a)), (3, .int (nI b))], [.int 2, .int (nI ibd), .int 1, .ref 1], wC ov2 un2 (nI n2) dp fa2 cu st fi se th db cn F, 0)) rfl ?_
      refine mm_inv (mm_call_mono _ _) (j := 120) (a := [.int 2]) (M := wC ov2 un2 (nI n2) dp fa2 cu st fi se th db cn F) (u := 0) rfl (by decide) (ct_N_radicandOf_2 ?_)
      show mm_W _ _ _ _ _ _ _ (108, [(7, .int (nI (b + 2))), (6, .int (nI (a + 2))), (5, .int 1), (4, .int (nI r)), (0, .ref 1), (1, .int 2), (2, .int (nI a)), (3, .int (nI b))], [.int (nI 4), .int (nI ibd), .int 1, .ref 1], wC ov2 un2 (nI n2) dp fa2 cu st fi se th db cn F, 0)
      refine mm_inv (mm_call_mono _ _) (j := 145) (a := [.ref 1, .int 1, .int (nI ibd), .int (nI 4)]) (M := wC ov2 un2 (nI n2) dp fa2 cu st fi se th db cn F) (u := 0) rfl (by decide) (at_N_product_1 s2.2.1 s2.1 P2 (at_lo bd2 (by omega)) S2 (fun ov3 un3 n3 fa3 ibdr h2 => ?_))
      show mm_W _ _ _ _ _ _ _ (111, [(7, .int (nI (b + 2))), (6, .int (nI (a + 2))), (5, .int 1), (4, .int (nI r)), (0, .ref 1), (1, .int 2), (2, .int (nI a)), (3, .int (nI b))], [.int (nI ibdr)], wC ov3 un3 (nI n3) dp fa3 cu st fi se th db cn F, 0)
      have s3 := stg_s s2 hn.1 h2
      have F3 := seq_f s2 F2 E2 h2 (by omega)
      have E3 := seq_e E2 h2
      have A3 := at_keep A2 (op_k h2)
      have B3 := at_keep B2 (op_k h2)
      have P3 := at_keep P2 (op_k h2)
      have S3 := at_keep S2 (op_k h2)
      have Z3 := at_keep Z2 (op_k h2)
      have bd3 := at_keep bd2 (op_k h2)
      have bdr3 := at_new h2
      refine mm_skip (mm_call_mono _ _) 7 (st' := (121, [(8, .int (nI ibdr)), (7, .int (nI (b + 2))), (6, .int (nI (a + 2))), (5, .int 1), (4, .int (nI r)), (0, .ref 1), (1, .int 2), (2, .int (nI a)), (3, .int (nI b))], [.int (nI b), .int (nI a), .int 1, .ref 1, .int 1, .ref 1], wC ov3 un3 (nI n3) dp fa3 cu st fi se th db cn F, 0)) rfl ?_
      refine mm_inv (mm_call_mono _ _) (j := 145) (a := [.ref 1, .int 1, .int (nI a), .int (nI b)]) (M := wC ov3 un3 (nI n3) dp fa3 cu st fi se th db cn F) (u := 0) rfl (by decide) (at_N_product_1 s3.2.1 s3.1 P3 (at_lo A3 (by omega)) (at_lo B3 (by omega)) (fun ov4 un4 n4 fa4 iac h3 => ?_))
      show mm_W _ _ _ _ _ _ _ (124, [(8, .int (nI ibdr)), (7, .int (nI (b + 2))), (6, .int (nI (a + 2))), (5, .int 1), (4, .int (nI r)), (0, .ref 1), (1, .int 2), (2, .int (nI a)), (3, .int (nI b))], [.int (nI iac), .int 1, .ref 1], wC ov4 un4 (nI n4) dp fa4 cu st fi se th db cn F, 0)
      have s4 := stg_s s3 hn.1 h3
      have F4 := seq_f s3 F3 E3 h3 (by omega)
      have E4 := seq_e E3 h3
      have A4 := at_keep A3 (op_k h3)
      have B4 := at_keep B3 (op_k h3)
      have P4 := at_keep P3 (op_k h3)
      have S4 := at_keep S3 (op_k h3)
      have Z4 := at_keep Z3 (op_k h3)
      have bdr4 := at_keep bdr3 (op_k h3)
      have ac4 := at_new h3
      refine mm_skip (mm_call_mono _ _) 1 (st' := (126, [(8, .int (nI ibdr)), (7, .int (nI (b + 2))), (6, .int (nI (a + 2))), (5, .int 1), (4, .int (nI r)), (0, .ref 1), (1, .int 2), (2, .int (nI a)), (3, .int (nI b))], [.int (nI ibdr), .int (nI iac), .int 1, .ref 1], wC ov4 un4 (nI n4) dp fa4 cu st fi se th db cn F, 0)) rfl ?_
      refine mm_inv (mm_call_mono _ _) (j := 142) (a := [.ref 1, .int 1, .int (nI iac), .int (nI ibdr)]) (M := wC ov4 un4 (nI n4) dp fa4 cu st fi se th db cn F) (u := 0) rfl (by decide) (at_N_sum_1 s4.2.1 s4.1 (at_lo ac4 (by omega)) (at_lo bdr4 (by omega)) (fun ov5 un5 n5 fa5 ipl h4 => ?_))
      show mm_W _ _ _ _ _ _ _ (129, [(8, .int (nI ibdr)), (7, .int (nI (b + 2))), (6, .int (nI (a + 2))), (5, .int 1), (4, .int (nI r)), (0, .ref 1), (1, .int 2), (2, .int (nI a)), (3, .int (nI b))], [.int (nI ipl)], wC ov5 un5 (nI n5) dp fa5 cu st fi se th db cn F, 0)
      have s5 := stg_s s4 hn.1 h4
      have F5 := seq_f s4 F4 E4 h4 (by omega)
      have E5 := seq_e E4 h4
      have A5 := at_keep A4 (op_k h4)
      have B5 := at_keep B4 (op_k h4)
      have P5 := at_keep P4 (op_k h4)
      have S5 := at_keep S4 (op_k h4)
      have Z5 := at_keep Z4 (op_k h4)
      have bdr5 := at_keep bdr4 (op_k h4)
      have ac5 := at_keep ac4 (op_k h4)
      have pl5 := at_new h4
      refine mm_skip (mm_call_mono _ _) 7 (st' := (140, [(9, .int (nI ipl)), (8, .int (nI ibdr)), (7, .int (nI (b + 2))), (6, .int (nI (a + 2))), (5, .int 1), (4, .int (nI r)), (0, .ref 1), (1, .int 2), (2, .int (nI a)), (3, .int (nI b))], [.int (nI (b + 2)), .int (nI a), .int 1, .ref 1, .int 1, .ref 1], wC ov5 un5 (nI n5) dp fa5 cu st fi se th db cn F, 0)) rfl ?_
      refine mm_inv (mm_call_mono _ _) (j := 145) (a := [.ref 1, .int 1, .int (nI a), .int (nI (b + 2))]) (M := wC ov5 un5 (nI n5) dp fa5 cu st fi se th db cn F) (u := 0) rfl (by decide) (at_N_product_1 s5.2.1 s5.1 P5 (at_lo A5 (by omega)) (at_hi B5 2 (by omega)) (fun ov6 un6 n6 fa6 iad h5 => ?_))
      show mm_W _ _ _ _ _ _ _ (143, [(9, .int (nI ipl)), (8, .int (nI ibdr)), (7, .int (nI (b + 2))), (6, .int (nI (a + 2))), (5, .int 1), (4, .int (nI r)), (0, .ref 1), (1, .int 2), (2, .int (nI a)), (3, .int (nI b))], [.int (nI iad), .int 1, .ref 1], wC ov6 un6 (nI n6) dp fa6 cu st fi se th db cn F, 0)
      have s6 := stg_s s5 hn.1 h5
      have F6 := seq_f s5 F5 E5 h5 (by omega)
      have E6 := seq_e E5 h5
      have A6 := at_keep A5 (op_k h5)
      have B6 := at_keep B5 (op_k h5)
      have P6 := at_keep P5 (op_k h5)
      have S6 := at_keep S5 (op_k h5)
      have Z6 := at_keep Z5 (op_k h5)
      have pl6 := at_keep pl5 (op_k h5)
      have ad6 := at_new h5
      refine mm_skip (mm_call_mono _ _) 4 (st' := (149, [(9, .int (nI ipl)), (8, .int (nI ibdr)), (7, .int (nI (b + 2))), (6, .int (nI (a + 2))), (5, .int 1), (4, .int (nI r)), (0, .ref 1), (1, .int 2), (2, .int (nI a)), (3, .int (nI b))], [.int (nI b), .int (nI (a + 2)), .int 1, .ref 1, .int (nI iad), .int 1, .ref 1], wC ov6 un6 (nI n6) dp fa6 cu st fi se th db cn F, 0)) rfl ?_
      refine mm_inv (mm_call_mono _ _) (j := 145) (a := [.ref 1, .int 1, .int (nI (a + 2)), .int (nI b)]) (M := wC ov6 un6 (nI n6) dp fa6 cu st fi se th db cn F) (u := 0) rfl (by decide) (at_N_product_1 s6.2.1 s6.1 P6 (at_hi A6 2 (by omega)) (at_lo B6 (by omega)) (fun ov7 un7 n7 fa7 ibc h6 => ?_))
      show mm_W _ _ _ _ _ _ _ (152, [(9, .int (nI ipl)), (8, .int (nI ibdr)), (7, .int (nI (b + 2))), (6, .int (nI (a + 2))), (5, .int 1), (4, .int (nI r)), (0, .ref 1), (1, .int 2), (2, .int (nI a)), (3, .int (nI b))], [.int (nI ibc), .int (nI iad), .int 1, .ref 1], wC ov7 un7 (nI n7) dp fa7 cu st fi se th db cn F, 0)
      have s7 := stg_s s6 hn.1 h6
      have F7 := seq_f s6 F6 E6 h6 (by omega)
      have E7 := seq_e E6 h6
      have A7 := at_keep A6 (op_k h6)
      have B7 := at_keep B6 (op_k h6)
      have P7 := at_keep P6 (op_k h6)
      have S7 := at_keep S6 (op_k h6)
      have Z7 := at_keep Z6 (op_k h6)
      have pl7 := at_keep pl6 (op_k h6)
      have ad7 := at_keep ad6 (op_k h6)
      have bc7 := at_new h6
      refine mm_inv (mm_call_mono _ _) (j := 142) (a := [.ref 1, .int 1, .int (nI iad), .int (nI ibc)]) (M := wC ov7 un7 (nI n7) dp fa7 cu st fi se th db cn F) (u := 0) rfl (by decide) (at_N_sum_1 s7.2.1 s7.1 (at_lo ad7 (by omega)) (at_lo bc7 (by omega)) (fun ov8 un8 n8 fa8 iro h7 => ?_))
      show mm_W _ _ _ _ _ _ _ (155, [(9, .int (nI ipl)), (8, .int (nI ibdr)), (7, .int (nI (b + 2))), (6, .int (nI (a + 2))), (5, .int 1), (4, .int (nI r)), (0, .ref 1), (1, .int 2), (2, .int (nI a)), (3, .int (nI b))], [.int (nI iro)], wC ov8 un8 (nI n8) dp fa8 cu st fi se th db cn F, 0)
      have s8 := stg_s s7 hn.1 h7
      have F8 := seq_f s7 F7 E7 h7 (by omega)
      have E8 := seq_e E7 h7
      have A8 := at_keep A7 (op_k h7)
      have B8 := at_keep B7 (op_k h7)
      have P8 := at_keep P7 (op_k h7)
      have S8 := at_keep S7 (op_k h7)
      have Z8 := at_keep Z7 (op_k h7)
      have pl8 := at_keep pl7 (op_k h7)
      have ad8 := at_keep ad7 (op_k h7)
      have bc8 := at_keep bc7 (op_k h7)
      have ro8 := at_new h7
      refine mm_skip (mm_call_mono _ _) 6 (st' := (166, [(10, .int (nI iro)), (9, .int (nI ipl)), (8, .int (nI ibdr)), (7, .int (nI (b + 2))), (6, .int (nI (a + 2))), (5, .int 1), (4, .int (nI r)), (0, .ref 1), (1, .int 2), (2, .int (nI a)), (3, .int (nI b))], [.int (nI iro), .int (nI ipl), .int (nI r), .int 1, .ref 1], wC ov8 un8 (nI n8) dp fa8 cu st fi se th db cn F, 0)) rfl ?_
      refine mm_inv (mm_call_mono _ _) (j := 140) (a := [.ref 1, .int 1, .int (nI r), .int (nI ipl), .int (nI iro)]) (M := wC ov8 un8 (nI n8) dp fa8 cu st fi se th db cn F) (u := 0) rfl (by decide) (ct_N_pair_1 (r := r) (a := ipl) (b := iro) (by omega) (by have := h4.1; omega) (by have := h7.1; omega) ?_)
      show mm_W _ _ _ _ _ _ _ (169, [(10, .int (nI iro)), (9, .int (nI ipl)), (8, .int (nI ibdr)), (7, .int (nI (b + 2))), (6, .int (nI (a + 2))), (5, .int 1), (4, .int (nI r)), (0, .ref 1), (1, .int 2), (2, .int (nI a)), (3, .int (nI b))], [.int (nI r)], wC (prow ov8 2 r ipl iro) (prow un8 2 r ipl iro) (nI (r + 4)) dp fa8 cu st fi se th db cn F, 0)
      exact mm_ret (mm_call_mono _ _) (c := True) (r := .inl (some (.int (nI r)))) (M := wC (prow ov8 2 r ipl iro) (prow un8 2 r ipl iro) (nI (r + 4)) dp fa8 cu st fi se th db cn F) (u := 0) rfl trivial (by decide) (hQ _ _ _ _ _ (pair_fin (C := 56) (by omega) ⟨hr.1, hr.2.1⟩ (fun q0 => by have e7 := op_rn h7 q0; have e6 := op_rn h6 e7.2; have e5 := op_rn h5 e6.2; have e4 := op_rn h4 e5.2; have e3 := op_rn h3 e4.2; have e2 := op_rn h2 e3.2; have e1 := op_rn h1 e2.2; exact res_n h0 e1.2) s8 Z8 pl8 ro8 (fun q0 => by have e7 := op_rn h7 q0; have e6 := op_rn h6 e7.2; have e5 := op_rn h5 e6.2; have e4 := op_rn h4 e5.2; have e3 := op_rn h3 e4.2; have e2 := op_rn h2 e3.2; have e1 := op_rn h1 e2.2; have e0 := res_n h0 e1.2; have t4 := (s4.2.2.2.2 e4.2).2.1; have t7 := (s7.2.2.2.2 e7.2).2.1; omega) E8 F8))
    · skip
      refine mm_skip (mm_call_mono _ _) 1 (st' := (26, [(4, .int (nI r)), (0, .ref 1), (1, .int 2), (2, .int (nI a)), (3, .int (nI b))], [.int (nI r)], wC ov1 un1 (nI n1) dp fa1 cu st fi se th db cn F, 0)) rfl ?_
      exact mm_ret (mm_call_mono _ _) (c := True) (r := .inl (some (.int (nI r)))) (M := wC ov1 un1 (nI n1) dp fa1 cu st fi se th db cn F) (u := 0) rfl trivial (by decide) (hQ _ _ _ _ _ (op_zero hfa hn.1 h0 (by omega) (fun q0 => (zM_S (h := 2) (by omega) (zM_S (h := 1) (by omega) zM_0 (at_v P1 q0)) (at_v S1 q0)) _ _ (at_v A1 q0) (at_v B1 q0) (Or.inr (rd0 B1 (bz_1 z2) q0)))))
  · skip
    refine mm_skip (mm_call_mono _ _) 1 (st' := (26, [(4, .int (nI r)), (0, .ref 1), (1, .int 2), (2, .int (nI a)), (3, .int (nI b))], [.int (nI r)], wC ov1 un1 (nI n1) dp fa1 cu st fi se th db cn F, 0)) rfl ?_
    exact mm_ret (mm_call_mono _ _) (c := True) (r := .inl (some (.int (nI r)))) (M := wC ov1 un1 (nI n1) dp fa1 cu st fi se th db cn F) (u := 0) rfl trivial (by decide) (hQ _ _ _ _ _ (op_zero hfa hn.1 h0 (by omega) (fun q0 => (zM_S (h := 2) (by omega) (zM_S (h := 1) (by omega) zM_0 (at_v P1 q0)) (at_v S1 q0)) _ _ (at_v A1 q0) (at_v B1 q0) (Or.inl (rd0 A1 (bz_1 z1) q0)))))

