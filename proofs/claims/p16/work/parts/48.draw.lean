/-- a number that is kept at a -/
def kp (ov un : Nat → Int32) (a : Nat) (v : n4) : Prop := v4 v ∧ r4 ov un a = v
theorem at_kp {ov un : Nat → Int32} {a n : Nat} {fa : Int32} {v : n4} (h : kp ov un a v) (ha : a + 4 ≤ 308) (hn : 308 ≤ n) : isAt ov un n fa 4 a (g4 v) := by
  have e : ∀ j, j < 4 → rd ov un a j = g4 v j := fun j hj => by
    show rf ov un (a + j) = _
    rw [← g4_r4 hj, h.2]
  exact ⟨⟨by omega, fun _ => ⟨by omega, fun j hj => by rw [e j hj]; exact v4_g h.1 hj⟩⟩, fun _ => e⟩
theorem kp_at {ov un : Nat → Int32} {a n : Nat} {fa : Int32} {v : n4} (h : isAt ov un n fa 4 a (g4 v)) (h0 : fa = 0) : kp ov un a v := by
  have vv := at_v h h0
  exact ⟨⟨vv 0 (by omega), vv 1 (by omega), vv 2 (by omega), vv 3 (by omega)⟩, r4_at h h0⟩
theorem rf_inj {ov un : Nat → Int32} {a b : Nat} (h : rf ov un a = rf ov un b) : ov a = ov b ∧ un a = un b := ⟨Int32.toInt_inj.mp (congrArg Prod.fst h), Int32.toInt_inj.mp (congrArg Prod.snd h)⟩
theorem alk_r4 {ov un : Nat → Int32} {a b : Nat} : alk ov un a b ↔ r4 ov un a = r4 ov un b := by
  constructor
  · intro h
    have e : ∀ j, j < 4 → rf ov un (a + j) = rf ov un (b + j) := fun j hj => by unfold rf; rw [(h j hj).1, (h j hj).2]
    unfold r4
    rw [show rf ov un a = rf ov un b from e 0 (by omega), e 1 (by omega), e 2 (by omega), e 3 (by omega)]
  · intro h j hj
    refine rf_inj ?_
    rw [← g4_r4 hj, ← g4_r4 hj, h]
theorem bz_congr {p q : Prop} [Decidable p] [Decidable q] (h : p ↔ q) : bz p = bz q := by
  by_cases hp : p
  · rw [bz_t hp, bz_t (h.mp hp)]
  · rw [bz_f hp, bz_f (fun z => hp (h.mpr z))]
abbrev n4z (v : n4) : Prop := ∀ j, j < 4 → (g4 v j).1 = 0
theorem isz_r4 {ov un : Nat → Int32} {a : Nat} : isz 4 ov a ↔ n4z (r4 ov un a) := by
  constructor
  · intro h j hj
    rw [g4_r4 hj]
    show (ov (a + j)).toInt = 0
    rw [h j hj]; decide
  · intro h j hj
    have e := h j hj
    rw [g4_r4 hj] at e
    exact Int32.toInt_inj.mp (show (ov (a + j)).toInt = (0 : Int32).toInt from e.trans (by decide))
/-- behind a copy -/
def cpR (ov un : Nat → Int32) (x y : Nat) (ov1 un1 : Nat → Int32) : Prop := (∀ k, ¬ (y ≤ k ∧ k < y + 4) → ov1 k = ov k ∧ un1 k = un k) ∧ ∀ j, j < 4 → ov1 (y + j) = ov (x + j) ∧ un1 (y + j) = un (x + j)
theorem at_cp {ov un ov1 un1 : Nat → Int32} {n m a x y : Nat} {fa : Int32} {v : Nat → fr} (h : isAt ov un n fa m a v) (c : cpR ov un x y ov1 un1) (hd : a + m ≤ y ∨ y + 4 ≤ a) : isAt ov1 un1 n fa m a v := at_keep2 h (fun h0 => ⟨h0, Nat.le_refl _, fun j hj => c.1 (a + j) (by omega)⟩)
theorem at_cn {ov un ov1 un1 : Nat → Int32} {n x y : Nat} {fa : Int32} {v : n4} (h : isAt ov un n fa 4 x (g4 v)) (c : cpR ov un x y ov1 un1) (hy : y + 4 ≤ 308) (hn : 308 ≤ n) : isAt ov1 un1 n fa 4 y (g4 v) := by
  have e : ∀ j, j < 4 → rd ov1 un1 y j = rd ov un x j := fun j hj => by
    show rf ov1 un1 (y + j) = rf ov un (x + j)
    unfold rf
    rw [(c.2 j hj).1, (c.2 j hj).2]
  exact ⟨⟨by omega, fun h0 => ⟨by omega, fun j hj => by rw [e j hj]; exact (h.1.2 h0).2 j hj⟩⟩, fun h0 j hj => by rw [e j hj]; exact h.2 h0 j hj⟩
theorem rd_cp {ov un ov1 un1 : Nat → Int32} {n x y : Nat} {fa : Int32} {L : lvR} (h : rdA ov un n fa L) (c : cpR ov un x y ov1 un1) (hy : 8 ≤ y) : rdA ov1 un1 n fa L := ⟨fun q => at_cp (h.1 q) c (by omega), fun q => at_cp (h.2 q) c (by omega)⟩
/-- where the work of one object stands: w fractions taken, rows kept but those of Z -/
def sto (Z : Nat → Prop) (ov un : Nat → Int32) (w : Nat) (ov1 un1 : Nat → Int32) (n1 : Nat) (fa1 : Int32) : Prop :=
  (308 ≤ n1 ∧ n1 ≤ 1332) ∧ mm_z fa1 ∧ (∀ k, k < 308 → ¬ Z k → ov1 k = ov k ∧ un1 k = un k) ∧ (fa1 = 0 → n1 ≤ 308 + w)
theorem sto_0 {Z : Nat → Prop} {ov un : Nat → Int32} : sto Z ov un 0 ov un 308 0 := ⟨by omega, Or.inl rfl, fun _ _ _ => ⟨rfl, rfl⟩, fun _ => by omega⟩
theorem sto_t {Z : Nat → Prop} {ov un ov1 un1 ov2 un2 : Nat → Int32} {n1 n2 w v : Nat} {fa1 fa2 : Int32} (h : sto Z ov un w ov1 un1 n1 fa1) (h2 : stl ov1 un1 n1 fa1 v ov2 un2 n2 fa2) : sto Z ov un (w + v) ov2 un2 n2 fa2 := by
  obtain ⟨a1, a2, a3, a4⟩ := h
  obtain ⟨b1, b2, b3, b4, b5⟩ := h2
  refine ⟨b1, b2, fun k hk hz => ⟨(b3 k hk).1.trans (a3 k hk hz).1, (b3 k hk).2.trans (a3 k hk hz).2⟩, fun h0 => ?_⟩
  have p1 := b5 h0
  have p2 := a4 p1.1
  omega
theorem stl_1 {ov un ov1 un1 : Nat → Int32} {n n1 r g cost : Nat} {fa fa1 : Int32} {T : Option n4} (h2 : opL ov un n fa g cost T ov1 un1 n1 fa1 r) : stl ov un n fa g ov1 un1 n1 fa1 := by
  obtain ⟨b1, b2, b3, b4, b5, b6, -⟩ := h2
  refine ⟨b2, b3, b4, b5, fun h0 => ?_⟩
  obtain ⟨q1, q2, q3, q4, q5, -⟩ := b6 h0
  exact ⟨q1, by omega, q4, q5⟩
theorem sto_L {Z : Nat → Prop} {ov un ov1 un1 ov2 un2 : Nat → Int32} {n1 n2 w r g cost : Nat} {fa1 fa2 : Int32} {T : Option n4} (h : sto Z ov un w ov1 un1 n1 fa1) (h2 : opL ov1 un1 n1 fa1 g cost T ov2 un2 n2 fa2 r) : sto Z ov un (w + g) ov2 un2 n2 fa2 := sto_t h (stl_1 h2)
theorem stl_q {ov un ov1 un1 : Nat → Int32} {n n1 cost : Nat} {fa fa1 v : Int32} {T : Option Int} (h2 : sgR ov un n fa cost T ov1 un1 n1 fa1 v) : stl ov un n fa cost ov1 un1 n1 fa1 := by
  obtain ⟨b1, b2, b3, b4, b5, -⟩ := h2
  refine ⟨b1, b2, b3, b4, fun h0 => ?_⟩
  obtain ⟨q1, q2, q3, q4, -⟩ := b5 h0
  exact ⟨q1, q2, q3, q4⟩
theorem sto_cp {Z : Nat → Prop} {ov un ov1 un1 ov2 un2 : Nat → Int32} {n1 w x y : Nat} {fa1 : Int32} (h : sto Z ov un w ov1 un1 n1 fa1) (c : cpR ov1 un1 x y ov2 un2) (hZ : ∀ k, y ≤ k → k < y + 4 → Z k) : sto Z ov un w ov2 un2 n1 fa1 := by
  obtain ⟨a1, a2, a3, a4⟩ := h
  refine ⟨a1, a2, fun k hk hz => ?_, a4⟩
  obtain ⟨e1, e2⟩ := c.1 k (fun q => hz (hZ k q.1 q.2))
  exact ⟨e1.trans (a3 k hk hz).1, e2.trans (a3 k hk hz).2⟩
theorem sto_F {Z : Nat → Prop} {ov un ov1 un1 : Nat → Int32} {n1 w C : Nat} {fa1 fa2 : Int32} {X Y : Type} {T : Option Y} {spec : Option X} {k : Y → Option X} (hs : sto Z ov un w ov1 un1 n1 fa1) (F : fa1 = 1 → spec = none) (E : fa1 = 0 → spec = T.bind k) (h : fa2 = 1 → fa1 = 0 → n1 + C ≤ 1332 → T = none) (hC : w + C ≤ 1024) : fa2 = 1 → spec = none := by
  intro h9
  rcases hs.2.1 with hz | hz
  · rw [E hz, h h9 hz (by have := hs.2.2.2 hz; omega)]
    rfl
  · exact F hz
theorem sto_f {Z : Nat → Prop} {ov un ov1 un1 ov2 un2 : Nat → Int32} {n1 n2 w r g cost : Nat} {fa1 fa2 : Int32} {X : Type} {T : Option n4} {spec : Option X} {k : n4 → Option X} (hs : sto Z ov un w ov1 un1 n1 fa1) (F : fa1 = 1 → spec = none) (E : fa1 = 0 → spec = T.bind k) (h : opL ov1 un1 n1 fa1 g cost T ov2 un2 n2 fa2 r) (hC : w + cost ≤ 1024) : fa2 = 1 → spec = none := sto_F hs F E h.2.2.2.2.2.2 hC
/-- the three numbers of an object, of which u are used -/
abbrev o3 : Type := n4 × n4 × n4
def hold (u : Nat) (ov un : Nat → Int32) (o : Nat) (v : o3) : Prop := kp ov un (8 + 12 * o) v.1 ∧ (2 ≤ u → kp ov un (12 + 12 * o) v.2.1) ∧ (3 ≤ u → kp ov un (16 + 12 * o) v.2.2)
/-- the rows that object o may change, drawn at level l -/
def zd (l o k : Nat) : Prop := (4 * l ≤ k ∧ k < 8) ∨ (8 + 12 * o ≤ k ∧ k < 20 + 12 * o)
/-- behind the drawing of object o -/
def drR (ov un : Nat → Int32) (l o u : Nat) (T : Option (o3 × lvR)) (ov1 un1 : Nat → Int32) (n1 : Nat) (fa1 : Int32) (L1 : lvR) : Prop :=
  (308 ≤ n1 ∧ n1 ≤ 1332) ∧ mm_z fa1 ∧ (∀ k, k < 308 → ¬ zd l o k → ov1 k = ov k ∧ un1 k = un k) ∧ (fa1 = 0 → L1.1 ≤ 2 ∧ rdA ov1 un1 308 0 L1 ∧ ∃ v, T = some (v, L1) ∧ hold u ov1 un1 o v) ∧ (fa1 = 1 → T = none)
theorem rd_0 {ov un : Nat → Int32} {n : Nat} {fa : Int32} {L : lvR} (h : rdA ov un n fa L) (h0 : fa = 0) : rdA ov un 308 0 L := by
  refine ⟨fun q => ?_, fun q => ?_⟩
  · have z := h.1 q
    exact ⟨⟨z.1.1, fun _ => ⟨by omega, (z.1.2 h0).2⟩⟩, fun _ => z.2 h0⟩
  · have z := h.2 q
    exact ⟨⟨z.1.1, fun _ => ⟨by omega, (z.1.2 h0).2⟩⟩, fun _ => z.2 h0⟩
theorem dr_of {ov un ov1 un1 : Nat → Int32} {l o u w n1 : Nat} {fa1 : Int32} {T : Option (o3 × lvR)} {L1 : lvR} {v : o3} (hs : sto (zd l o) ov un w ov1 un1 n1 fa1) (hl : L1.1 ≤ 2) (R : rdA ov1 un1 n1 fa1 L1) (E : fa1 = 0 → T = some (v, L1)) (F : fa1 = 1 → T = none) (hh : fa1 = 0 → hold u ov1 un1 o v) : drR ov un l o u T ov1 un1 n1 fa1 L1 :=
  ⟨hs.1, hs.2.1, hs.2.2.1, fun h0 => ⟨hl, rd_0 R h0, v, E h0, hh h0⟩, F⟩
theorem dr_f {ov un : Nat → Int32} {l o u : Nat} {T : Option (o3 × lvR)} {L1 : lvR} (F : T = none) : drR ov un l o u T ov un 308 1 L1 :=
  ⟨by omega, Or.inr rfl, fun _ _ _ => ⟨rfl, rfl⟩, fun h0 => absurd h0 z10, fun _ => F⟩
def mLine (L : lvR) (xp yp xq yq : n4) : Option (o3 × lvR) := if xp = xq ∧ yp = yq then none else
  (xsub L.1 yq yp).bind fun a => (xsub L.1 xp xq).bind fun b => (xmul L a xp).bind fun u => (xmul L b yp).bind fun v => (xadd L.1 u v).bind fun c => some ((a, b, c), L)
def xdist (L : lvR) (xp yp xq yq : n4) : Option n4 := (xsub L.1 xq xp).bind fun u => (xsub L.1 yq yp).bind fun v => (xmul L u u).bind fun a => (xmul L v v).bind fun b => (xadd L.1 a b).bind fun s => some s
def mCirc (L : lvR) (xp yp xq yq : n4) : Option (o3 × lvR) := (xdist L xp yp xq yq).bind fun s => if n4z s then none else some ((s, zz, zz), L)
def mMid (L : lvR) (xp yp xq yq : n4) : Option (o3 × lvR) := (xadd L.1 xp xq).bind fun a => (xhalf L.1 a).bind fun x => (xadd L.1 yp yq).bind fun b => (xhalf L.1 b).bind fun y => some ((x, y, zz), L)
def mMeet (L : lvR) (a1 b1 c1 a2 b2 c2 : n4) : Option (o3 × lvR) := (xmul L a1 b2).bind fun t1 => (xmul L a2 b1).bind fun t2 => (xsub L.1 t1 t2).bind fun d => (xinv L d).bind fun m => (xmul L c1 b2).bind fun t3 => (xmul L c2 b1).bind fun t4 => (xsub L.1 t3 t4).bind fun x => (xmul L a1 c2).bind fun t5 => (xmul L a2 c1).bind fun t6 => (xsub L.1 t5 t6).bind fun y => (xmul L x m).bind fun X => (xmul L y m).bind fun Y => some ((X, Y, zz), L)
def mCom (L : lvR) (xp yp s1 xq yq s2 : n4) : Option o3 := (xsub L.1 xq xp).bind fun d => (xsub L.1 yq yp).bind fun e => (xadd L.1 d d).bind fun a => (xadd L.1 e e).bind fun b => (xmul L xq xq).bind fun t1 => (xmul L xp xp).bind fun t2 => (xsub L.1 t1 t2).bind fun u => (xmul L yq yq).bind fun t3 => (xmul L yp yp).bind fun t4 => (xsub L.1 t3 t4).bind fun v => (xsub L.1 s1 s2).bind fun t5 => (xadd L.1 u v).bind fun t6 => (xadd L.1 t5 t6).bind fun c => some (a, b, c)
def mMea (L : lvR) (a b c x y s : n4) : Option o3 := (xmul L a a).bind fun t1 => (xmul L b b).bind fun t2 => (xadd L.1 t1 t2).bind fun n => (xmul L a x).bind fun t3 => (xmul L b y).bind fun t4 => (xadd L.1 t3 t4).bind fun t5 => (xsub L.1 c t5).bind fun e => (xinv L n).bind fun m => (xmul L s n).bind fun t6 => (xmul L e e).bind fun t7 => (xsub L.1 t6 t7).bind fun v => some (e, m, v)
def xpm (L : lvR) (less : Bool) (x y : n4) : Option n4 := cond less (xsub L.1 x y) (xadd L.1 x y)
def mDraw (L : lvR) (a b x y e m r : n4) (less : Bool) : Option (o3 × lvR) := (xmul L e m).bind fun al => (xmul L r m).bind fun ac => (xmul L a al).bind fun t1 => (xadd L.1 x t1).bind fun x1 => (xmul L b al).bind fun t2 => (xadd L.1 y t2).bind fun y1 => (xneg L.1 b).bind fun nb => (xmul L nb ac).bind fun sx => (xmul L a ac).bind fun sy => (xpm L less x1 sx).bind fun X => (xpm L less y1 sy).bind fun Y => some ((X, Y, zz), L)
set_option maxRecDepth 100000 in
theorem gw_copy {d : Nat} {ov un : Nat → Int32} {nx dp fa : Int32} {cu : mm_cu} {st fi se th db : Nat → Int32} {cn : Int32} {F : mm_M} {x y : Nat} {Q : mm_R → mm_M → Prop} (hx : x + 4 ≤ 1332) (hy : y + 4 ≤ 1332) (hQ : ∀ (ov1 un1 : Nat → Int32), cpR ov un x y ov1 un1 → Q (.inl none) (wC ov1 un1 nx dp fa cu st fi se th db cn F)) : mm_call mm_Tb (d + 1) 124 [.ref 1, .int (nI x), .int (nI y)] (wC ov un nx dp fa cu st fi se th db cn F) Q := by
  refine mm_in mt_124 (Nat.le_of_ble_eq_true rfl) ?_
  show mm_W _ _ _ _ _ _ _ (0, [(0, .ref 1), (1, .int (nI x)), (2, .int (nI y))], [], wC ov un nx dp fa cu st fi se th db cn F, 0)
  refine mm_skip (mm_call_mono _ _) 7 (st' := (11, [(0, .ref 1), (1, .int (nI x)), (2, .int (nI y))], [.int 4, .int (nI y), .ref 8, .int (nI x), .ref 8], wC ov un nx dp fa cu st fi se th db cn F, 0)) rfl ?_
  refine mm_need (mm_call_mono _ _) (c := ¬ (nI x) < 0 ∧ ¬ (nI y) < 0 ∧ ¬ (4 : Int32) < 0 ∧ (Int32.toNatClampNeg (nI x)) + 4 ≤ 1332 ∧ (Int32.toNatClampNeg (nI y)) + 4 ≤ 1332) (s' := (14, [(0, .ref 1), (1, .int (nI x)), (2, .int (nI y))], [], wC (va_cpy ov ov (Int32.toNatClampNeg (nI x)) (Int32.toNatClampNeg (nI y)) 4) un nx dp fa cu st fi se th db cn F, 0)) rfl (cp_ok4 hx hy) ?_
  rw [nI_clamp (show x < 2 ^ 31 by omega)]
  rw [nI_clamp (show y < 2 ^ 31 by omega)]
  show mm_W _ _ _ _ _ _ _ (14, [(0, .ref 1), (1, .int (nI x)), (2, .int (nI y))], [], wC (va_cpy ov ov x y 4) un nx dp fa cu st fi se th db cn F, 0)
  refine mm_skip (mm_call_mono _ _) 7 (st' := (25, [(0, .ref 1), (1, .int (nI x)), (2, .int (nI y))], [.int 4, .int (nI y), .ref 9, .int (nI x), .ref 9], wC (va_cpy ov ov x y 4) un nx dp fa cu st fi se th db cn F, 0)) rfl ?_
  refine mm_need (mm_call_mono _ _) (c := ¬ (nI x) < 0 ∧ ¬ (nI y) < 0 ∧ ¬ (4 : Int32) < 0 ∧ (Int32.toNatClampNeg (nI x)) + 4 ≤ 1332 ∧ (Int32.toNatClampNeg (nI y)) + 4 ≤ 1332) (s' := (28, [(0, .ref 1), (1, .int (nI x)), (2, .int (nI y))], [], wC (va_cpy ov ov x y 4) (va_cpy un un (Int32.toNatClampNeg (nI x)) (Int32.toNatClampNeg (nI y)) 4) nx dp fa cu st fi se th db cn F, 0)) rfl (cp_ok4 hx hy) ?_
  rw [nI_clamp (show x < 2 ^ 31 by omega)]
  rw [nI_clamp (show y < 2 ^ 31 by omega)]
  show mm_W _ _ _ _ _ _ _ (28, [(0, .ref 1), (1, .int (nI x)), (2, .int (nI y))], [], wC (va_cpy ov ov x y 4) (va_cpy un un x y 4) nx dp fa cu st fi se th db cn F, 0)
  exact mm_ret (mm_call_mono _ _) (c := True) (r := .inl none) (M := wC (va_cpy ov ov x y 4) (va_cpy un un x y 4) nx dp fa cu st fi se th db cn F) (u := 0) rfl trivial (by decide) (hQ _ _ ⟨fun k hk => ⟨cpy_out hk, cpy_out hk⟩, fun j hj => ⟨cpy_in hj, cpy_in hj⟩⟩)

set_option maxRecDepth 100000 in
theorem gd_sqd {d : Nat} {ov un : Nat → Int32} {fa : Int32} {cu : mm_cu} {st fi se th db : Nat → Int32} {cn : Int32} {F : mm_M} {n p q : Nat} {xp yp xq yq : n4} {L : lvR} {Q : mm_R → mm_M → Prop} (hl : L.1 ≤ 2) (hfa : mm_z fa) (hn : 308 ≤ n ∧ n ≤ 1332) (R : rdA ov un n fa L) (A : isAt ov un n fa 4 (8 + 12 * p) (g4 xp)) (B : isAt ov un n fa 4 (12 + 12 * p) (g4 yp)) (C : isAt ov un n fa 4 (8 + 12 * q) (g4 xq)) (D : isAt ov un n fa 4 (12 + 12 * q) (g4 yq)) (hQ : ∀ (ov1 un1 : Nat → Int32) (n1 : Nat) (fa1 : Int32) (r : Nat), opL ov un n fa 28 80 (xdist L xp yp xq yq) ov1 un1 n1 fa1 r → Q (.inl (some (.int (nI r)))) (wC ov1 un1 (nI n1) (nI L.1) fa1 cu st fi se th db cn F)) : mm_call mm_Tb (d + 7) 38 [.ref 0, .int (nI p), .int (nI q)] (wC ov un (nI n) (nI L.1) fa cu st fi se th db cn F) Q := by
  have s0 := stl_0 (ov := ov) (un := un) hfa hn
  have E0 : fa = 0 → xdist L xp yp xq yq = Option.bind (xsub L.1 xq xp) _ := fun _ => rfl
  have F0 : fa = 1 → fa = 0 → n + 80 ≤ 1332 → xdist L xp yp xq yq = none := f_0
  refine mm_in mt_38 (Nat.le_of_ble_eq_true rfl) ?_
  show mm_W _ _ _ _ _ _ _ (0, [(0, .ref 0), (1, .int (nI p)), (2, .int (nI q))], [], wC ov un (nI n) (nI L.1) fa cu st fi se th db cn F, 0)
  refine mm_skip (mm_call_mono _ _) 3 (st' := (5, [(0, .ref 0), (1, .int (nI p)), (2, .int (nI q))], [.int (nI q), .ref 1], wC ov un (nI n) (nI L.1) fa cu st fi se th db cn F, 0)) rfl ?_
  refine mm_inv (mm_call_mono _ _) (j := 41) (a := [.int (nI q)]) (M := wC ov un (nI n) (nI L.1) fa cu st fi se th db cn F) (u := 0) rfl (by decide) (ct_C_xOf ?_)
  show mm_W _ _ _ _ _ _ _ (8, [(0, .ref 0), (1, .int (nI p)), (2, .int (nI q))], [.int (nI (8 + 12 * q)), .ref 1], wC ov un (nI n) (nI L.1) fa cu st fi se th db cn F, 0)
  refine mm_skip (mm_call_mono _ _) 1 (st' := (9, [(0, .ref 0), (1, .int (nI p)), (2, .int (nI q))], [.int (nI p), .int (nI (8 + 12 * q)), .ref 1], wC ov un (nI n) (nI L.1) fa cu st fi se th db cn F, 0)) rfl ?_
  refine mm_inv (mm_call_mono _ _) (j := 41) (a := [.int (nI p)]) (M := wC ov un (nI n) (nI L.1) fa cu st fi se th db cn F) (u := 0) rfl (by decide) (ct_C_xOf ?_)
  show mm_W _ _ _ _ _ _ _ (12, [(0, .ref 0), (1, .int (nI p)), (2, .int (nI q))], [.int (nI (8 + 12 * p)), .int (nI (8 + 12 * q)), .ref 1], wC ov un (nI n) (nI L.1) fa cu st fi se th db cn F, 0)
  refine mm_inv (mm_call_mono _ _) (j := 130) (a := [.ref 1, .int (nI (8 + 12 * q)), .int (nI (8 + 12 * p))]) (M := wC ov un (nI n) (nI L.1) fa cu st fi se th db cn F) (u := 0) rfl (by decide) (gw_minus hl s0.2.1 s0.1 C A (fun ov1 un1 n1 fa1 y1 h1 => ?_))
  show mm_W _ _ _ _ _ _ _ (15, [(0, .ref 0), (1, .int (nI p)), (2, .int (nI q))], [.int (nI y1)], wC ov1 un1 (nI n1) (nI L.1) fa1 cu st fi se th db cn F, 0)
  have s1 := stl_L s0 h1
  have F1 := sqL_f s0 F0 E0 h1 (by omega)
  have E1 := sqL_e E0 h1
  have g1 := h1.1.1
  have A_1 := at_keep A (opL_k h1)
  have B_1 := at_keep B (opL_k h1)
  have C_1 := at_keep C (opL_k h1)
  have D_1 := at_keep D (opL_k h1)
  have R_1 := rd_keep R (opL_k h1)
  have W1_1 := at_newL h1
  refine mm_skip (mm_call_mono _ _) 4 (st' := (21, [(3, .int (nI y1)), (0, .ref 0), (1, .int (nI p)), (2, .int (nI q))], [.int (nI q), .ref 1], wC ov1 un1 (nI n1) (nI L.1) fa1 cu st fi se th db cn F, 0)) rfl ?_
  refine mm_inv (mm_call_mono _ _) (j := 42) (a := [.int (nI q)]) (M := wC ov1 un1 (nI n1) (nI L.1) fa1 cu st fi se th db cn F) (u := 0) rfl (by decide) (ct_C_yOf ?_)
  show mm_W _ _ _ _ _ _ _ (24, [(3, .int (nI y1)), (0, .ref 0), (1, .int (nI p)), (2, .int (nI q))], [.int (nI (12 + 12 * q)), .ref 1], wC ov1 un1 (nI n1) (nI L.1) fa1 cu st fi se th db cn F, 0)
  refine mm_skip (mm_call_mono _ _) 1 (st' := (25, [(3, .int (nI y1)), (0, .ref 0), (1, .int (nI p)), (2, .int (nI q))], [.int (nI p), .int (nI (12 + 12 * q)), .ref 1], wC ov1 un1 (nI n1) (nI L.1) fa1 cu st fi se th db cn F, 0)) rfl ?_
  refine mm_inv (mm_call_mono _ _) (j := 42) (a := [.int (nI p)]) (M := wC ov1 un1 (nI n1) (nI L.1) fa1 cu st fi se th db cn F) (u := 0) rfl (by decide) (ct_C_yOf ?_)
  show mm_W _ _ _ _ _ _ _ (28, [(3, .int (nI y1)), (0, .ref 0), (1, .int (nI p)), (2, .int (nI q))], [.int (nI (12 + 12 * p)), .int (nI (12 + 12 * q)), .ref 1], wC ov1 un1 (nI n1) (nI L.1) fa1 cu st fi se th db cn F, 0)
  refine mm_inv (mm_call_mono _ _) (j := 130) (a := [.ref 1, .int (nI (12 + 12 * q)), .int (nI (12 + 12 * p))]) (M := wC ov1 un1 (nI n1) (nI L.1) fa1 cu st fi se th db cn F) (u := 0) rfl (by decide) (gw_minus hl s1.2.1 s1.1 D_1 B_1 (fun ov2 un2 n2 fa2 y2 h2 => ?_))
  show mm_W _ _ _ _ _ _ _ (31, [(3, .int (nI y1)), (0, .ref 0), (1, .int (nI p)), (2, .int (nI q))], [.int (nI y2)], wC ov2 un2 (nI n2) (nI L.1) fa2 cu st fi se th db cn F, 0)
  have s2 := stl_L s1 h2
  have F2 := sqL_f s1 F1 E1 h2 (by omega)
  have E2 := sqL_e E1 h2
  have g2 := h2.1.1
  have A_2 := at_keep A_1 (opL_k h2)
  have B_2 := at_keep B_1 (opL_k h2)
  have C_2 := at_keep C_1 (opL_k h2)
  have D_2 := at_keep D_1 (opL_k h2)
  have W1_2 := at_keep W1_1 (opL_k h2)
  have R_2 := rd_keep R_1 (opL_k h2)
  have W2_2 := at_newL h2
  refine mm_skip (mm_call_mono _ _) 7 (st' := (43, [(4, .int (nI y2)), (3, .int (nI y1)), (0, .ref 0), (1, .int (nI p)), (2, .int (nI q))], [.int (nI y1), .int (nI y1), .ref 1, .ref 1], wC ov2 un2 (nI n2) (nI L.1) fa2 cu st fi se th db cn F, 0)) rfl ?_
  refine mm_inv (mm_call_mono _ _) (j := 131) (a := [.ref 1, .int (nI y1), .int (nI y1)]) (M := wC ov2 un2 (nI n2) (nI L.1) fa2 cu st fi se th db cn F) (u := 0) rfl (by decide) (gw_times hl s2.2.1 s2.1 R_2 W1_2 W1_2 (fun ov3 un3 n3 fa3 y3 h3 => ?_))
  show mm_W _ _ _ _ _ _ _ (46, [(4, .int (nI y2)), (3, .int (nI y1)), (0, .ref 0), (1, .int (nI p)), (2, .int (nI q))], [.int (nI y3), .ref 1], wC ov3 un3 (nI n3) (nI L.1) fa3 cu st fi se th db cn F, 0)
  have s3 := stl_L s2 h3
  have F3 := sqL_f s2 F2 E2 h3 (by omega)
  have E3 := sqL_e E2 h3
  have g3 := h3.1.1
  have A_3 := at_keep A_2 (opL_k h3)
  have B_3 := at_keep B_2 (opL_k h3)
  have C_3 := at_keep C_2 (opL_k h3)
  have D_3 := at_keep D_2 (opL_k h3)
  have W1_3 := at_keep W1_2 (opL_k h3)
  have W2_3 := at_keep W2_2 (opL_k h3)
  have R_3 := rd_keep R_2 (opL_k h3)
  have W3_3 := at_newL h3
  refine mm_skip (mm_call_mono _ _) 4 (st' := (54, [(4, .int (nI y2)), (3, .int (nI y1)), (0, .ref 0), (1, .int (nI p)), (2, .int (nI q))], [.int (nI y2), .int (nI y2), .ref 1, .int (nI y3), .ref 1], wC ov3 un3 (nI n3) (nI L.1) fa3 cu st fi se th db cn F, 0)) rfl ?_
  refine mm_inv (mm_call_mono _ _) (j := 131) (a := [.ref 1, .int (nI y2), .int (nI y2)]) (M := wC ov3 un3 (nI n3) (nI L.1) fa3 cu st fi se th db cn F) (u := 0) rfl (by decide) (gw_times hl s3.2.1 s3.1 R_3 W2_3 W2_3 (fun ov4 un4 n4 fa4 y4 h4 => ?_))
  show mm_W _ _ _ _ _ _ _ (57, [(4, .int (nI y2)), (3, .int (nI y1)), (0, .ref 0), (1, .int (nI p)), (2, .int (nI q))], [.int (nI y4), .int (nI y3), .ref 1], wC ov4 un4 (nI n4) (nI L.1) fa4 cu st fi se th db cn F, 0)
  have s4 := stl_L s3 h4
  have F4 := sqL_f s3 F3 E3 h4 (by omega)
  have E4 := sqL_e E3 h4
  have g4 := h4.1.1
  have A_4 := at_keep A_3 (opL_k h4)
  have B_4 := at_keep B_3 (opL_k h4)
  have C_4 := at_keep C_3 (opL_k h4)
  have D_4 := at_keep D_3 (opL_k h4)
  have W1_4 := at_keep W1_3 (opL_k h4)
  have W2_4 := at_keep W2_3 (opL_k h4)
  have W3_4 := at_keep W3_3 (opL_k h4)
  have R_4 := rd_keep R_3 (opL_k h4)
  have W4_4 := at_newL h4
  refine mm_inv (mm_call_mono _ _) (j := 129) (a := [.ref 1, .int (nI y3), .int (nI y4)]) (M := wC ov4 un4 (nI n4) (nI L.1) fa4 cu st fi se th db cn F) (u := 0) rfl (by decide) (gw_plus hl s4.2.1 s4.1 W3_4 W4_4 (fun ov5 un5 n5 fa5 y5 h5 => ?_))
  show mm_W _ _ _ _ _ _ _ (60, [(4, .int (nI y2)), (3, .int (nI y1)), (0, .ref 0), (1, .int (nI p)), (2, .int (nI q))], [.int (nI y5)], wC ov5 un5 (nI n5) (nI L.1) fa5 cu st fi se th db cn F, 0)
  have s5 := stl_L s4 h5
  have F5 := sqL_f s4 F4 E4 h5 (by omega)
  have E5 := sqL_e E4 h5
  have g5 := h5.1.1
  have A_5 := at_keep A_4 (opL_k h5)
  have B_5 := at_keep B_4 (opL_k h5)
  have C_5 := at_keep C_4 (opL_k h5)
  have D_5 := at_keep D_4 (opL_k h5)
  have W1_5 := at_keep W1_4 (opL_k h5)
  have W2_5 := at_keep W2_4 (opL_k h5)
  have W3_5 := at_keep W3_4 (opL_k h5)
  have W4_5 := at_keep W4_4 (opL_k h5)
  have R_5 := rd_keep R_4 (opL_k h5)
  have W5_5 := at_newL h5
  exact mm_ret (mm_call_mono _ _) (c := True) (r := .inl (some (.int (nI y5)))) (M := wC ov5 un5 (nI n5) (nI L.1) fa5 cu st fi se th db cn F) (u := 0) rfl trivial (by decide) (hQ _ _ _ _ _ (opL_fin (C := 80) s5 (by omega) E5 F5 W5_5 g5 (fun q0 => by have e1 := h5.2.2.2.2.2.1 q0; have e2 := (s4.2.2.2.2 e1.1).2.1; omega)))

set_option maxRecDepth 100000 in
theorem gd_coincide {d : Nat} {ov un : Nat → Int32} {nx dp fa : Int32} {cu : mm_cu} {st fi se th db : Nat → Int32} {cn : Int32} {F : mm_M} {p q : Nat} {xp yp xq yq : n4} {Q : mm_R → mm_M → Prop} (hp : p < 25) (hq : q < 25) (A : kp ov un (8 + 12 * p) xp) (B : kp ov un (12 + 12 * p) yp) (C : kp ov un (8 + 12 * q) xq) (D : kp ov un (12 + 12 * q) yq) (hQ : Q (.inl (some (.int (bz (xp = xq ∧ yp = yq))))) (wC ov un nx dp fa cu st fi se th db cn F)) : mm_call mm_Tb (d + 3) 37 [.ref 0, .int (nI p), .int (nI q)] (wC ov un nx dp fa cu st fi se th db cn F) Q := by
  have x1 : alk ov un (8 + 12 * p) (8 + 12 * q) ↔ xp = xq := alk_r4.trans (by rw [A.2, C.2])
  have x2 : alk ov un (12 + 12 * p) (12 + 12 * q) ↔ yp = yq := alk_r4.trans (by rw [B.2, D.2])
  refine mm_in mt_37 (Nat.le_of_ble_eq_true rfl) ?_
  show mm_W _ _ _ _ _ _ _ (0, [(0, .ref 0), (1, .int (nI p)), (2, .int (nI q))], [], wC ov un nx dp fa cu st fi se th db cn F, 0)
  refine mm_skip (mm_call_mono _ _) 3 (st' := (5, [(0, .ref 0), (1, .int (nI p)), (2, .int (nI q))], [.int (nI p), .ref 1], wC ov un nx dp fa cu st fi se th db cn F, 0)) rfl ?_
  refine mm_inv (mm_call_mono _ _) (j := 41) (a := [.int (nI p)]) (M := wC ov un nx dp fa cu st fi se th db cn F) (u := 0) rfl (by decide) (ct_C_xOf ?_)
  show mm_W _ _ _ _ _ _ _ (8, [(0, .ref 0), (1, .int (nI p)), (2, .int (nI q))], [.int (nI (8 + 12 * p)), .ref 1], wC ov un nx dp fa cu st fi se th db cn F, 0)
  refine mm_skip (mm_call_mono _ _) 1 (st' := (9, [(0, .ref 0), (1, .int (nI p)), (2, .int (nI q))], [.int (nI q), .int (nI (8 + 12 * p)), .ref 1], wC ov un nx dp fa cu st fi se th db cn F, 0)) rfl ?_
  refine mm_inv (mm_call_mono _ _) (j := 41) (a := [.int (nI q)]) (M := wC ov un nx dp fa cu st fi se th db cn F) (u := 0) rfl (by decide) (ct_C_xOf ?_)
  show mm_W _ _ _ _ _ _ _ (12, [(0, .ref 0), (1, .int (nI p)), (2, .int (nI q))], [.int (nI (8 + 12 * q)), .int (nI (8 + 12 * p)), .ref 1], wC ov un nx dp fa cu st fi se th db cn F, 0)
  refine mm_inv (mm_call_mono _ _) (j := 125) (a := [.ref 1, .int (nI (8 + 12 * p)), .int (nI (8 + 12 * q))]) (M := wC ov un nx dp fa cu st fi se th db cn F) (u := 0) rfl (by decide) (ct_N_alike (x := 8 + 12 * p) (y := 8 + 12 * q) (by omega) (by omega) ?_)
  show mm_W _ _ _ _ _ _ _ (15, [(0, .ref 0), (1, .int (nI p)), (2, .int (nI q))], [.int (bz (alk ov un (8 + 12 * p) (8 + 12 * q)))], wC ov un nx dp fa cu st fi se th db cn F, 0)
  refine mm_branch (mm_call_mono _ _) (c := (bz (alk ov un (8 + 12 * p) (8 + 12 * q))) = 0) (s1 := (40, [(0, .ref 0), (1, .int (nI p)), (2, .int (nI q))], [], wC ov un nx dp fa cu st fi se th db cn F, 0)) (s2 := (18, [(0, .ref 0), (1, .int (nI p)), (2, .int (nI q))], [], wC ov un nx dp fa cu st fi se th db cn F, 0)) rfl (fun z1 => ?_) (fun z1 => ?_)
  · skip
    refine mm_skip (mm_call_mono _ _) 1 (st' := (41, [(0, .ref 0), (1, .int (nI p)), (2, .int (nI q))], [.int 0], wC ov un nx dp fa cu st fi se th db cn F, 0)) rfl ?_
    exact mm_ret (mm_call_mono _ _) (c := mm_z 0) (r := .inl (some (.int 0))) (M := wC ov un nx dp fa cu st fi se th db cn F) (u := 0) rfl (by unfold mm_z; decide) (by decide) (by rw [bz_f (show ¬ (xp = xq ∧ yp = yq) from fun z => bz_0 z1 (x1.mpr z.1))] at hQ; exact hQ)
  · skip
    refine mm_skip (mm_call_mono _ _) 3 (st' := (23, [(0, .ref 0), (1, .int (nI p)), (2, .int (nI q))], [.int (nI p), .ref 1], wC ov un nx dp fa cu st fi se th db cn F, 0)) rfl ?_
    refine mm_inv (mm_call_mono _ _) (j := 42) (a := [.int (nI p)]) (M := wC ov un nx dp fa cu st fi se th db cn F) (u := 0) rfl (by decide) (ct_C_yOf ?_)
    show mm_W _ _ _ _ _ _ _ (26, [(0, .ref 0), (1, .int (nI p)), (2, .int (nI q))], [.int (nI (12 + 12 * p)), .ref 1], wC ov un nx dp fa cu st fi se th db cn F, 0)
    refine mm_skip (mm_call_mono _ _) 1 (st' := (27, [(0, .ref 0), (1, .int (nI p)), (2, .int (nI q))], [.int (nI q), .int (nI (12 + 12 * p)), .ref 1], wC ov un nx dp fa cu st fi se th db cn F, 0)) rfl ?_
    refine mm_inv (mm_call_mono _ _) (j := 42) (a := [.int (nI q)]) (M := wC ov un nx dp fa cu st fi se th db cn F) (u := 0) rfl (by decide) (ct_C_yOf ?_)
    show mm_W _ _ _ _ _ _ _ (30, [(0, .ref 0), (1, .int (nI p)), (2, .int (nI q))], [.int (nI (12 + 12 * q)), .int (nI (12 + 12 * p)), .ref 1], wC ov un nx dp fa cu st fi se th db cn F, 0)
    refine mm_inv (mm_call_mono _ _) (j := 125) (a := [.ref 1, .int (nI (12 + 12 * p)), .int (nI (12 + 12 * q))]) (M := wC ov un nx dp fa cu st fi se th db cn F) (u := 0) rfl (by decide) (ct_N_alike (x := 12 + 12 * p) (y := 12 + 12 * q) (by omega) (by omega) ?_)
    show mm_W _ _ _ _ _ _ _ (33, [(0, .ref 0), (1, .int (nI p)), (2, .int (nI q))], [.int (bz (alk ov un (12 + 12 * p) (12 + 12 * q)))], wC ov un nx dp fa cu st fi se th db cn F, 0)
    refine mm_branch (mm_call_mono _ _) (c := (bz (alk ov un (12 + 12 * p) (12 + 12 * q))) = 0) (s1 := (40, [(0, .ref 0), (1, .int (nI p)), (2, .int (nI q))], [], wC ov un nx dp fa cu st fi se th db cn F, 0)) (s2 := (36, [(0, .ref 0), (1, .int (nI p)), (2, .int (nI q))], [], wC ov un nx dp fa cu st fi se th db cn F, 0)) rfl (fun z2 => ?_) (fun z2 => ?_)
    · skip
      refine mm_skip (mm_call_mono _ _) 1 (st' := (41, [(0, .ref 0), (1, .int (nI p)), (2, .int (nI q))], [.int 0], wC ov un nx dp fa cu st fi se th db cn F, 0)) rfl ?_
      exact mm_ret (mm_call_mono _ _) (c := mm_z 0) (r := .inl (some (.int 0))) (M := wC ov un nx dp fa cu st fi se th db cn F) (u := 0) rfl (by unfold mm_z; decide) (by decide) (by rw [bz_f (show ¬ (xp = xq ∧ yp = yq) from fun z => bz_0 z2 (x2.mpr z.2))] at hQ; exact hQ)
    · skip
      refine mm_skip (mm_call_mono _ _) 2 (st' := (41, [(0, .ref 0), (1, .int (nI p)), (2, .int (nI q))], [.int 1], wC ov un nx dp fa cu st fi se th db cn F, 0)) rfl ?_
      exact mm_ret (mm_call_mono _ _) (c := mm_z 1) (r := .inl (some (.int 1))) (M := wC ov un nx dp fa cu st fi se th db cn F) (u := 0) rfl (by unfold mm_z; decide) (by decide) (by rw [bz_t (show xp = xq ∧ yp = yq from ⟨x1.mp (bz_1 z1), x2.mp (bz_1 z2)⟩)] at hQ; exact hQ)

