section RT
variable (h : Nat) (M : (Nat → fr) → (Nat → fr) → Option n4) (I : (Nat → fr) → Option n4) (G Gf : (Nat → fr) → Option Int) (Rt : (Nat → fr) → Option (Option n4)) (R x : Nat → fr)
def rtFin (w : n4) : Option (Option n4) := (nadd h (g4 w) (g4 w)).bind fun ww => (I (g4 ww)).bind fun iw => (M (sh h x) (g4 iw)).bind fun v => (some (jn h w v)).bind fun r => (Gf (g4 r)).bind fun s => if s < 0 then (nneg (2 * h) (g4 r)).bind fun m => some (some m) else some (some r)
def rtTry (y : n4) (k : Option n4 → Option (Option n4)) : Option (Option n4) := (nhalf h (g4 y)).bind fun hh => (G (g4 hh)).bind fun s => if 0 < s then (Rt (g4 hh)).bind k else k none
def rtK1 : Option n4 → Option (Option n4)
  | some w => rtFin h M I Gf x w
  | none => some none
def rtT1 (n : n4) : Option (Option n4) := (nneg h (g4 n)).bind fun mn => (nadd h x (g4 mn)).bind fun su => rtTry h G Rt su (rtK1 h M I Gf x)
def rtK0 (n : n4) : Option n4 → Option (Option n4)
  | some w => rtFin h M I Gf x w
  | none => rtT1 h M I G Gf Rt x n
def rtT0 (n : n4) : Option (Option n4) := (nadd h x (g4 n)).bind fun su => rtTry h G Rt su (rtK0 h M I G Gf Rt x n)
def rtKn : Option n4 → Option (Option n4)
  | some n => rtT0 h M I G Gf Rt x n
  | none => some none
def rtKb : Option n4 → Option (Option n4)
  | some w => (some (jn h zz w)).bind fun r => some (some r)
  | none => some none
def rtKa : Option n4 → Option (Option n4)
  | some w => (some (jn h w zz)).bind fun r => some (some r)
  | none => (I R).bind fun ir => (M x (g4 ir)).bind fun q => (Rt (g4 q)).bind (rtKb h)
def nrtS : Option (Option n4) := if ∀ j, j < h → (x (h + j)).1 = 0 then (Rt x).bind (rtKa h M I Rt R x) else
  (M (sh h x) (sh h x)).bind fun bb => (M (g4 bb) R).bind fun bbr => (M x x).bind fun aa => (nneg h (g4 bbr)).bind fun nb => (nadd h (g4 aa) (g4 nb)).bind fun sq => (G (g4 sq)).bind fun s => if s < 0 then some none else (Rt (g4 sq)).bind (rtKn h M I G Gf Rt x)
end RT
noncomputable def nrt1 (R x : Nat → fr) : Option (Option n4) := nrtS 1 nmul0 ninv0 nsg0 (nsg1 R) nrt0 R x
noncomputable def nrt2 (R1 R2 x : Nat → fr) : Option (Option n4) := nrtS 2 (nmul1 R1) (ninv1 R1) (nsg1 R1) (nsg2 R1 R2) (nrt1 R1) R2 x
/-- reserve as an operation -/
theorem op_res {ov un ov1 un1 : Nat → Int32} {n n1 r : Nat} {fa fa1 : Int32} (hfa : mm_z fa) (hn : 308 ≤ n) (h : resR ov un n fa ov1 un1 n1 fa1 r) : opR ov un n fa 4 (some zz) ov1 un1 n1 fa1 r := op_zero hfa hn h (by omega) (fun _ => rfl)
/-- a pair made at a number that was reserved in the middle of the work -/
theorem pair_op {ov un ov1 un1 ov2 un2 : Nat → Int32} {n n1 n2 r a b h : Nat} {fa fa1 fa2 : Int32} {P Q : n4} (hh : h = 1 ∨ h = 2) (hn : 308 ≤ n) (h0 : resR ov un n fa ov1 un1 n1 fa1 r) (s : stl ov un n fa 8 ov2 un2 n2 fa2) (hk : fa2 = 0 → fa1 = 0) (hz : isAt ov2 un2 n2 fa2 4 r (fun _ => z0)) (hp : isAt ov2 un2 n2 fa2 4 a (g4 P)) (hq : isAt ov2 un2 n2 fa2 4 b (g4 Q)) (hb : fa2 = 0 → b + 4 ≤ r ∨ r + 4 ≤ b) (hF : fa2 = 1 → fa = 0 → n + 8 ≤ 1332 → False) :
    opR ov un n fa 8 (some (jn h P Q)) (prow ov2 h r a b) (prow un2 h r a b) (r + 4) fa2 r := by
  have hr := res_r h0 hn
  obtain ⟨a1, a2, a3, a4, a5⟩ := s
  refine ⟨⟨hr.1, hr.2.1⟩, by omega, a2, fun k hk => ?_, a4, fun q0 => ?_, fun q9 q0 hroom => ?_⟩
  · rw [prow_out (by omega), prow_out (by omega)]; exact a3 k hk
  · obtain ⟨q1, q2, q3, q4⟩ := a5 q0
    have hrn := res_n h0 (hk q0)
    have hb4 := hb q0
    have ea : ∀ j, j < h → rf (prow ov2 h r a b) (prow un2 h r a b) (r + j) = g4 P j := fun j hj => by
      rw [← hp.2 q0 j (by omega)]
      show ((prow ov2 h r a b (r + j)).toInt, (prow un2 h r a b (r + j)).toInt) = rf ov2 un2 (a + j)
      rw [prow_a hj, prow_a hj]; rfl
    have pb : ∀ (f : Nat → Int32) (j : Nat), j < h → prow f h r a b (r + h + j) = f (b + j) := fun f j hj => by
      unfold prow va_cpy
      rw [if_pos (by omega), show b + (r + h + j - (r + h)) = b + j by omega, if_neg (by omega)]
    have eb : ∀ j, j < h → rf (prow ov2 h r a b) (prow un2 h r a b) (r + h + j) = g4 Q j := fun j hj => by
      rw [← hq.2 q0 j (by omega)]
      show ((prow ov2 h r a b (r + h + j)).toInt, (prow un2 h r a b (r + h + j)).toInt) = rf ov2 un2 (b + j)
      rw [pb _ j hj, pb _ j hj]; rfl
    have ez : ∀ j, 2 * h ≤ j → j < 4 → rf (prow ov2 h r a b) (prow un2 h r a b) (r + j) = z0 := fun j h1 h2 => by
      have e9 : rd ov2 un2 r j = z0 := hz.2 q0 j h2
      rw [← e9]
      show ((prow ov2 h r a b (r + j)).toInt, (prow un2 h r a b (r + j)).toInt) = rf ov2 un2 (r + j)
      rw [prow_out (by omega), prow_out (by omega)]; rfl
    have e : r4 (prow ov2 h r a b) (prow un2 h r a b) r = jn h P Q := by
      unfold r4
      rcases hh with rfl | rfl
      · rw [ez 2 (by omega) (by omega), ez 3 (by omega) (by omega), show rf (prow ov2 1 r a b) (prow un2 1 r a b) r = g4 P 0 from ea 0 (by omega), show rf (prow ov2 1 r a b) (prow un2 1 r a b) (r + 1) = g4 Q 0 from eb 0 (by omega)]
        rfl
      · rw [show rf (prow ov2 2 r a b) (prow un2 2 r a b) r = g4 P 0 from ea 0 (by omega), ea 1 (by omega), show rf (prow ov2 2 r a b) (prow un2 2 r a b) (r + 2) = g4 Q 0 from eb 0 (by omega), show rf (prow ov2 2 r a b) (prow un2 2 r a b) (r + 3) = g4 Q 1 from eb 1 (by omega)]
        rfl
    have vp := at_v hp q0
    have vq := at_v hq q0
    refine ⟨q1, hrn, by omega, fun k hk => ?_, by rw [e], ?_⟩
    · rw [prow_out (by omega), prow_out (by omega)]; exact q4 k hk
    · rw [e]
      rcases hh with rfl | rfl
      · exact ⟨vp 0 (by omega), vq 0 (by omega), fv_z0, fv_z0⟩
      · exact ⟨vp 0 (by omega), vp 1 (by omega), vq 0 (by omega), vq 1 (by omega)⟩
  · exact (hF q9 q0 hroom).elim
theorem res_ok {ov un ov1 un1 : Nat → Int32} {n n1 r : Nat} {fa fa1 : Int32} (h : resR ov un n fa ov1 un1 n1 fa1 r) (h0 : fa = 0) (hroom : n + 4 ≤ 1332) : fa1 = 0 ∧ n1 = n + 4 := by
  obtain ⟨h1 | h1, h2, -⟩ := h
  · exact ⟨h1.2.2.trans h0, by omega⟩
  · omega
theorem stl_res {ov un ov1 un1 ov2 un2 : Nat → Int32} {n n1 n2 r w : Nat} {fa fa1 fa2 : Int32} (h : stl ov un n fa w ov1 un1 n1 fa1) (h2 : resR ov1 un1 n1 fa1 ov2 un2 n2 fa2 r) : stl ov un n fa (w + 4) ov2 un2 n2 fa2 := stl_s h (op_res h.2.1 h.1.1 h2)
theorem at_zz {ov un : Nat → Int32} {n r : Nat} {fa : Int32} (h : isAt ov un n fa 4 r (fun _ => z0)) : isAt ov un n fa 4 r (g4 zz) := by
  have e : g4 zz = fun _ => z0 := funext g4_zz
  rw [e]; exact h
theorem r4_at {ov un : Nat → Int32} {n r : Nat} {fa : Int32} {V : n4} (h : isAt ov un n fa 4 r (g4 V)) (h0 : fa = 0) : r4 ov un r = V := by
  have z := h.2 h0
  unfold r4
  rw [show rf ov un r = g4 V 0 from z 0 (by omega), show rf ov un (r + 1) = g4 V 1 from z 1 (by omega), show rf ov un (r + 2) = g4 V 2 from z 2 (by omega), show rf ov un (r + 3) = g4 V 3 from z 3 (by omega)]
  rfl
/-- a root, where it stands -/
theorem rt_yes {ov un ov1 un1 : Nat → Int32} {n n1 w C r : Nat} {fa fa1 : Int32} {T : Option (Option n4)} {V : n4} (hs : stl ov un n fa w ov1 un1 n1 fa1) (hw : w ≤ C) (E : fa1 = 0 → T = some (some V)) (F : fa1 = 1 → fa = 0 → n + C ≤ 1332 → T = none) (at1 : isAt ov1 un1 n1 fa1 4 r (g4 V)) (hr : 308 ≤ r) (hrn : fa1 = 0 → n ≤ r) : rtR ov un n fa C T ov1 un1 n1 fa1 (nI r) := by
  obtain ⟨a1, a2, a3, a4, a5⟩ := hs
  have hr4 := at1.1.1
  refine ⟨a1, a2, a3, a4, Or.inr ⟨r, rfl, hr, hr4⟩, fun h0 => ?_, F⟩
  obtain ⟨p1, p2, p3, p4⟩ := a5 h0
  refine ⟨p1, p2, by omega, p4, fun e9 => absurd e9 (nI_m1 (by omega)), fun r2 hr2 e9 => ?_⟩
  have er : r = r2 := (nI_eq (by omega) (by omega)).mp e9
  subst er
  have e := r4_at at1 h0
  have vv := at_v at1 h0
  exact ⟨hrn h0, (at1.1.2 h0).1, by rw [e]; exact E h0, by rw [e]; exact ⟨vv 0 (by omega), vv 1 (by omega), vv 2 (by omega), vv 3 (by omega)⟩⟩
section RTL
variable {h : Nat} {M : (Nat → fr) → (Nat → fr) → Option n4} {I : (Nat → fr) → Option n4} {G Gf : (Nat → fr) → Option Int} {Rt : (Nat → fr) → Option (Option n4)} {R x : Nat → fr}
theorem nrtS_n (hz : ¬ ∀ j, j < h → (x (h + j)).1 = 0) : nrtS h M I G Gf Rt R x = (M (sh h x) (sh h x)).bind fun bb => (M (g4 bb) R).bind fun bbr => (M x x).bind fun aa => (nneg h (g4 bbr)).bind fun nb => (nadd h (g4 aa) (g4 nb)).bind fun sq => (G (g4 sq)).bind fun s => if s < 0 then some none else (Rt (g4 sq)).bind (rtKn h M I G Gf Rt x) := if_neg hz
theorem nrtS_z (hz : ∀ j, j < h → (x (h + j)).1 = 0) : nrtS h M I G Gf Rt R x = (Rt x).bind (rtKa h M I Rt R x) := if_pos hz
end RTL
theorem isz_at {ov un : Nat → Int32} {n a h : Nat} {fa : Int32} {x : Nat → fr} (A : isAt ov un n fa (2 * h) a x) (h0 : fa = 0) : isz h ov (a + h) ↔ ∀ j, j < h → (x (h + j)).1 = 0 := by
  have key : ∀ j, j < h → (x (h + j)).1 = (ov (a + h + j)).toInt := fun j hj => by
    rw [← A.2 h0 (h + j) (by omega)]
    show (ov (a + (h + j))).toInt = _
    rw [Nat.add_assoc]
  constructor
  · intro z j hj
    rw [key j hj, z j hj]; decide
  · intro z j hj
    have e := z j hj
    rw [key j hj] at e
    exact Int32.toInt_inj.mp (by rw [e]; decide)
theorem i32_lt {v : Int32} (h : ¬ (0 : Int32) ≤ v) : v.toInt < 0 := by
  have := Int32.lt_iff_toInt_lt.mp (Int32.not_le.mp h)
  rw [show (0 : Int32).toInt = 0 by decide] at this
  exact this
theorem i32_ge {v : Int32} (h : (0 : Int32) ≤ v) : ¬ v.toInt < 0 := by
  have := Int32.le_iff_toInt_le.mp h
  rw [show (0 : Int32).toInt = 0 by decide] at this
  omega
theorem i32_le {v : Int32} (h : v ≤ (0 : Int32)) : ¬ 0 < v.toInt := by
  have := Int32.le_iff_toInt_le.mp h
  rw [show (0 : Int32).toInt = 0 by decide] at this
  omega
theorem i32_gt {v : Int32} (h : ¬ v ≤ (0 : Int32)) : 0 < v.toInt := by
  have := Int32.lt_iff_toInt_lt.mp (Int32.not_le.mp h)
  rw [show (0 : Int32).toInt = 0 by decide] at this
  exact this
