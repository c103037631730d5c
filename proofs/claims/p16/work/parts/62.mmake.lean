/-- the three numbers of an object of the reference -/
def hM (s : Nat → fr) (l o : Nat) (v : o3) : Prop := tM s 0 l (12 * o) v.1 ∧ tM s 0 l (12 * o + 4) v.2.1 ∧ tM s 0 l (12 * o + 8) v.2.2
/-- behind the making of object o -/
def drM (s : Nat → fr) (L : lvR) (o : Nat) (T : Option (o3 × lvR)) (s1 : Nat → fr) (w1 fa1 : Int32) (L1 : lvR) : Prop :=
  (∀ k, fv (s1 k)) ∧ mm_z w1 ∧ mm_z fa1 ∧ (∀ k, k < 300 → ¬ (12 * o ≤ k ∧ k < 12 * o + 12) → ¬ zr L k → s1 k = s k) ∧ L1.1 ≤ 2 ∧ (w1 = 0 → fa1 = 0 → ∃ v, T = some (v, L1) ∧ hM s1 L1.1 o v ∧ rdM s1 0 L1) ∧ (w1 = 1 ∨ fa1 = 1 → T = none)
theorem dr_ofM {s s1 : Nat → fr} {w1 : Int32} {Z : Nat → Prop} {o : Nat} {L L1 : lvR} {T : Option (o3 × lvR)} {v1 v2 v3 : n4} (h : ms s 0 Z s1 w1) (hZ : ∀ k, Z k → 300 ≤ k ∨ (12 * o ≤ k ∧ k < 12 * o + 12) ∨ zr L k) (hl : L1.1 ≤ 2) (A : tM s1 w1 L1.1 (12 * o) v1) (B : tM s1 w1 L1.1 (12 * o + 4) v2) (C : tM s1 w1 L1.1 (12 * o + 8) v3) (R : rdM s1 w1 L1) (E : w1 = 0 → T = some ((v1, v2, v3), L1)) (F : w1 = 1 → (0 : Int32) = 0 → T = none) : drM s L o T s1 w1 0 L1 := by
  refine ⟨h.1, h.2.1, Or.inl rfl, fun k h1 h2 h3 => h.2.2.1 k (fun q => (hZ k q).elim (fun q => by omega) (fun q => q.elim h2 h3)), hl, fun h0 _ => ?_, fun hc => hc.elim (fun q => F q rfl) (fun q => absurd q.symm z10)⟩
  subst h0
  exact ⟨_, E rfl, ⟨A, B, C⟩, R⟩
theorem dr_fM {s s1 : Nat → fr} {w1 fa1 : Int32} {Z : Nat → Prop} {o : Nat} {L L1 : lvR} {T : Option (o3 × lvR)} (h : ms s 0 Z s1 w1) (hZ : ∀ k, Z k → 300 ≤ k ∨ (12 * o ≤ k ∧ k < 12 * o + 12) ∨ zr L k) (hl : L1.1 ≤ 2) (hz : mm_z fa1) (hf : w1 = 1 ∨ fa1 = 1) (F : T = none) : drM s L o T s1 w1 fa1 L1 :=
  ⟨h.1, h.2.1, hz, fun k h1 h2 h3 => h.2.2.1 k (fun q => (hZ k q).elim (fun q => by omega) (fun q => q.elim h2 h3)), hl, fun h0 h1 => absurd hf (by rw [h0, h1]; decide), fun _ => F⟩
theorem drM_tr {s s0 s1 : Nat → fr} {w1 fa1 : Int32} {Z : Nat → Prop} {o : Nat} {L L1 : lvR} {T T' : Option (o3 × lvR)} (h : ms s 0 Z s0 0) (hZ : ∀ k, Z k → 300 ≤ k ∨ (12 * o ≤ k ∧ k < 12 * o + 12) ∨ zr L k) (e : T' = T) (h2 : drM s0 L o T s1 w1 fa1 L1) : drM s L o T' s1 w1 fa1 L1 := by
  obtain ⟨a1, a2, a3, a4, a5, a6, a7⟩ := h2
  rw [e]
  exact ⟨a1, a2, a3, fun k h1 h2 h3 => (a4 k h1 h2 h3).trans (h.2.2.1 k (fun q => (hZ k q).elim (fun q => by omega) (fun q => q.elim h2 h3))), a5, a6, a7⟩
theorem n4_ext {x y : n4} (h : ∀ j, j < 4 → g4 x j = g4 y j) : x = y := Prod.ext (h 0 (by omega)) (Prod.ext (h 1 (by omega)) (Prod.ext (h 2 (by omega)) (h 3 (by omega))))
theorem alm_eq {s : Nat → fr} {l A B : Nat} {x y : n4} (X : tM s 0 l A x) (Y : tM s 0 l B y) : alm s A B ↔ x = y := by
  constructor
  · intro h
    exact n4_ext (fun j hj => by rw [← X.1 rfl j hj, ← Y.1 rfl j hj]; exact h j hj)
  · intro h j hj
    rw [X.1 rfl j hj, Y.1 rfl j hj, h]
theorem isz_n4 {s : Nat → fr} {A : Nat} : iszm 4 s A ↔ n4z (pd 4 s A) := by
  constructor
  · intro h j hj; rw [g4_pd (by unfold lv; decide) hj]; exact h j hj
  · intro h j hj; have := h j hj; rw [g4_pd (by unfold lv; decide) hj] at this; exact this
theorem v4_pd {s : Nat → fr} {A : Nat} (hV : ∀ k, fv (s k)) : v4 (pd 4 s A) := ⟨hV _, hV _, hV _, hV _⟩
theorem v4_t {s : Nat → fr} {l A : Nat} {x : n4} (hV : ∀ k, fv (s k)) (X : tM s 0 l A x) : v4 x := ⟨by have := X.1 rfl 0 (by omega); rw [show x.1 = s (A + 0) from this.symm]; exact hV _, by have := X.1 rfl 1 (by omega); rw [show x.2.1 = s (A + 1) from this.symm]; exact hV _, by have := X.1 rfl 2 (by omega); rw [show x.2.2.1 = s (A + 2) from this.symm]; exact hV _, by have := X.1 rfl 3 (by omega); rw [show x.2.2.2 = s (A + 3) from this.symm]; exact hV _⟩
/-- the radicands fit -/
def rdV (L : lvR) : Prop := (1 ≤ L.1 → ∀ j, j < 1 → fv (g4 L.2.1 j)) ∧ (2 ≤ L.1 → ∀ j, j < 2 → fv (g4 L.2.2 j))
theorem rdV_of {s : Nat → fr} {L : lvR} (hV : ∀ k, fv (s k)) (R : rdM s 0 L) : rdV L := ⟨fun q j hj => by rw [← R.1 q rfl j hj]; exact hV _, fun q j hj => by rw [← R.2 q rfl j hj]; exact hV _⟩
theorem xinv_z {L : lvR} {x : n4} (hl : L.1 ≤ 2) (hR : rdV L) (hx : v4 x) (hz : n4z x) : xinv L x = none := by
  obtain ⟨l, R1, R2⟩ := L
  have hl : l ≤ 2 := hl
  rcases (show l = 0 ∨ l = 1 ∨ l = 2 by omega) with rfl | rfl | rfl
  · exact if_pos (hz 0 (by omega))
  · exact ninvS_z (Or.inl rfl) zM_0 ninv0_z (hR.1 (Nat.le_refl 1)) (fun j hj => v4_g hx (by omega)) (fun j hj => hz j (by omega))
  · exact ninvS_z (Or.inr rfl) (zM_S (Or.inl rfl) zM_0 (hR.1 (show 1 ≤ 2 by decide))) (ninv1_z (hR.1 (show 1 ≤ 2 by decide))) (hR.2 (Nat.le_refl 2)) (fun j hj => v4_g hx (by omega)) (fun j hj => hz j (by omega))
theorem xmul_z {L : lvR} {x y : n4} (hl : L.1 ≤ 2) (hR : rdV L) (hx : v4 x) (hy : v4 y) (hz : n4z x) : xmul L x y = some zz := by
  obtain ⟨l, R1, R2⟩ := L
  have hl : l ≤ 2 := hl
  rcases (show l = 0 ∨ l = 1 ∨ l = 2 by omega) with rfl | rfl | rfl
  · exact zM_0 _ _ (fun j hj => v4_g hx (by omega)) (fun j hj => v4_g hy (by omega)) (Or.inl (fun j hj => hz j (by omega)))
  · exact zM_S (Or.inl rfl) zM_0 (hR.1 (Nat.le_refl 1)) _ _ (fun j hj => v4_g hx (by omega)) (fun j hj => v4_g hy (by omega)) (Or.inl (fun j hj => hz j (by omega)))
  · exact zM_S (Or.inr rfl) (zM_S (Or.inl rfl) zM_0 (hR.1 (show 1 ≤ 2 by decide))) (hR.2 (Nat.le_refl 2)) _ _ (fun j hj => v4_g hx (by omega)) (fun j hj => v4_g hy (by omega)) (Or.inl (fun j hj => hz j (by omega)))
theorem xadd_zz {l : Nat} (hl : l ≤ 2) : xadd l zz zz = some zz := by
  rcases (show l = 0 ∨ l = 1 ∨ l = 2 by omega) with rfl | rfl | rfl <;> rfl
theorem n4z_zz : n4z zz := fun j _ => by rw [g4_zz]; rfl
theorem v4_zz : v4 zz := ⟨fv_z0, fv_z0, fv_z0, fv_z0⟩
theorem mCut_z {L : lvR} {a b c x y s : n4} {less : Bool} (hl : L.1 ≤ 2) (hR : rdV L) (ha : v4 a) (hb : v4 b) (hx : v4 x) (hy : v4 y) (za : n4z a) (zb : n4z b) : mCut L a b c x y s less = none := by
  unfold mCut mMea
  rw [xmul_z hl hR ha ha za, xmul_z hl hR hb hb zb, xmul_z hl hR ha hx za, xmul_z hl hR hb hy zb]
  show (((xadd L.1 zz zz).bind fun n => (xadd L.1 zz zz).bind fun t5 => (xsub L.1 c t5).bind fun e => (xinv L n).bind fun m => _).bind _) = none
  rw [xadd_zz hl]
  show (((xsub L.1 c zz).bind fun e => (xinv L zz).bind fun m => _).bind _) = none
  rw [xinv_z hl hR v4_zz n4z_zz]
  cases xsub L.1 c zz <;> rfl
def rLine (L : lvR) (xp yp xq yq : n4) : Option (o3 × lvR) := if xp = xq ∧ yp = yq then none else (xsub L.1 yq yp).bind fun a => (xsub L.1 xp xq).bind fun b => (xprod L a xp b yp).bind fun c => some ((a, b, c), L)
theorem rLine_eq {L : lvR} {xp yp xq yq : n4} : rLine L xp yp xq yq = mLine L xp yp xq yq := by
  unfold rLine mLine
  simp only [prod_b]
def rMeet (L : lvR) (a1 b1 c1 a2 b2 c2 : n4) : Option (o3 × lvR) := (xcr L a1 b2 a2 b1).bind fun d => (xinv L d).bind fun m => (xcr L c1 b2 c2 b1).bind fun x => (xmul L x m).bind fun X => (xcr L a1 c2 a2 c1).bind fun y => (xmul L y m).bind fun Y => some ((X, Y, zz), L)
theorem rMeet_eq {L : lvR} {a1 b1 c1 a2 b2 c2 : n4} : rMeet L a1 b1 c1 a2 b2 c2 = mMeet L a1 b1 c1 a2 b2 c2 := by
  have e : ∀ x m : n4, ((xmul L x m).bind fun X => (xcr L a1 c2 a2 c1).bind fun y => (xmul L y m).bind fun Y => some (((X, Y, zz), L) : o3 × lvR)) = (xcr L a1 c2 a2 c1).bind fun y => (xmul L x m).bind fun X => (xmul L y m).bind fun Y => some ((X, Y, zz), L) := fun x m => bcm _ _ _
  unfold rMeet mMeet
  simp only [e]
  simp only [cr_b]
def rMea (L : lvR) (a b c x y s : n4) : Option o3 := (xprod L a a b b).bind fun n => (xprod L a x b y).bind fun t5 => (xsub L.1 c t5).bind fun e => (xinv L n).bind fun m => (xcr L s n e e).bind fun v => some (e, m, v)
theorem rMea_eq {L : lvR} {a b c x y s : n4} : rMea L a b c x y s = mMea L a b c x y s := by
  unfold rMea mMea
  simp only [prod_b, cr_b]
def rDraw (L : lvR) (a b x y e m r : n4) (less : Bool) : Option (o3 × lvR) := (xmul L e m).bind fun al => (xmul L r m).bind fun ac => (xneg L.1 b).bind fun nb => (xmul L a al).bind fun t1 => (xadd L.1 x t1).bind fun x1 => (xmul L nb ac).bind fun sx => (xmul L b al).bind fun t2 => (xadd L.1 y t2).bind fun y1 => (xmul L a ac).bind fun sy => (xpm L less x1 sx).bind fun X => (xpm L less y1 sy).bind fun Y => some ((X, Y, zz), L)
theorem rDraw_eq {L : lvR} {a b x y e m r : n4} {less : Bool} : rDraw L a b x y e m r less = mDraw L a b x y e m r less := by
  unfold rDraw mDraw
  cases xmul L e m with
  | none => rfl
  | some al =>
    show (xmul L r m).bind _ = (xmul L r m).bind _
    cases xmul L r m with
    | none => rfl
    | some ac =>
      show ((xneg L.1 b).bind fun nb => (xmul L a al).bind fun t1 => _) = (xmul L a al).bind fun t1 => _
      rw [bcm (xneg L.1 b) (xmul L a al)]
      cases xmul L a al with
      | none => rfl
      | some t1 =>
        show ((xneg L.1 b).bind fun nb => (xadd L.1 x t1).bind fun x1 => _) = (xadd L.1 x t1).bind fun x1 => _
        rw [bcm (xneg L.1 b) (xadd L.1 x t1)]
        cases xadd L.1 x t1 with
        | none => rfl
        | some x1 =>
          show ((xneg L.1 b).bind fun nb => (xmul L nb ac).bind fun sx => (xmul L b al).bind fun t2 => (xadd L.1 y t2).bind fun y1 => _) = (xmul L b al).bind fun t2 => (xadd L.1 y t2).bind fun y1 => (xneg L.1 b).bind fun nb => (xmul L nb ac).bind fun sx => _
          cases xmul L b al with
          | none =>
            cases xneg L.1 b with
            | none => rfl
            | some nb => exact bn _
          | some t2 =>
            show ((xneg L.1 b).bind fun nb => (xmul L nb ac).bind fun sx => (xadd L.1 y t2).bind fun y1 => _) = (xadd L.1 y t2).bind fun y1 => (xneg L.1 b).bind fun nb => (xmul L nb ac).bind fun sx => _
            cases xadd L.1 y t2 with
            | none =>
              cases xneg L.1 b with
              | none => rfl
              | some nb => exact bn _
            | some y1 => rfl
def rCom (L : lvR) (xp yp s1 xq yq s2 : n4) : Option o3 := (xsub L.1 xq xp).bind fun d => (xadd L.1 d d).bind fun a => (xsub L.1 yq yp).bind fun e => (xadd L.1 e e).bind fun b => (xcr L xq xq xp xp).bind fun u => (xcr L yq yq yp yp).bind fun v => (xadd L.1 u v).bind fun t6 => (xsub L.1 s1 s2).bind fun t5 => (xadd L.1 t5 t6).bind fun c => some (a, b, c)
theorem rCom_eq {L : lvR} {xp yp s1 xq yq s2 : n4} : rCom L xp yp s1 xq yq s2 = mCom L xp yp s1 xq yq s2 := by
  have e1 : ∀ u v a b : n4, ((xadd L.1 u v).bind fun t6 => (xsub L.1 s1 s2).bind fun t5 => (xadd L.1 t5 t6).bind fun c => some ((a, b, c) : o3)) = (xsub L.1 s1 s2).bind fun t5 => (xadd L.1 u v).bind fun t6 => (xadd L.1 t5 t6).bind fun c => some (a, b, c) := fun u v a b => bcm _ _ _
  unfold rCom mCom
  simp only [e1, cr_b]
  cases xsub L.1 xq xp with
  | none => rfl
  | some d =>
    show ((xadd L.1 d d).bind fun a => (xsub L.1 yq yp).bind fun e => _) = (xsub L.1 yq yp).bind fun e => (xadd L.1 d d).bind fun a => _
    exact bcm _ _ _
theorem t_tk {s s1 : Nat → fr} {wi w1 fa1 : Int32} {l a D : Nat} {v w : n4} {L L1 : lvR} {T : Option (n4 × lvR)} (H : tM s wi l a v) (h : tkM s wi L D T s1 w1 fa1 L1 w) (hl : l ≤ L1.1) (hd : (a + 4 ≤ 288 ∨ 368 ≤ a) ∧ (a + 4 ≤ D ∨ D + 4 ≤ a)) : tM s1 w1 L1.1 a v := ⟨fun h0 j hj => by
  rw [h.2.2.2.2.2.1 (a + j) (by omega) (by omega) (by unfold zr; omega)]; exact H.1 (h.2.2.2.2.2.2.2.1 h0) j hj, fun h0 => lz_le (H.2 (h.2.2.2.2.2.2.2.1 h0)) hl h.2.2.2.1⟩
theorem ms_tk {s s1 s2 : Nat → fr} {wi w1 w2 fa2 : Int32} {Z : Nat → Prop} {D : Nat} {L L1 : lvR} {T : Option (n4 × lvR)} {v : n4} (h : ms s wi Z s1 w1) (h2 : tkM s1 w1 L D T s2 w2 fa2 L1 v) (hZ : ∀ k, (300 ≤ k ∧ k < 368) ∨ (D ≤ k ∧ k < D + 4) ∨ zr L k → Z k) : ms s wi Z s2 w2 := by
  obtain ⟨a1, a2, a3, a4, a5⟩ := h
  obtain ⟨b1, b2, b3, b4, b5, b6, b7, b8, b9, b10⟩ := h2
  exact ⟨b1, b2, fun k hk => (b6 k (fun q => hk (hZ k (Or.inl q))) (fun q => hk (hZ k (Or.inr (Or.inl q)))) (fun q => hk (hZ k (Or.inr (Or.inr q))))).trans (a3 k hk), fun q => b7 (a4 q), fun q => a5 (b8 q)⟩
theorem tk_F {s s1 s2 : Nat → fr} {wi w1 w2 fa2 : Int32} {Z : Nat → Prop} {D : Nat} {L L1 : lvR} {X : Type} {T : Option (n4 × lvR)} {v : n4} {spec : Option X} {k : n4 × lvR → Option X} (h : ms s wi Z s1 w1) (F : w1 = 1 → wi = 0 → spec = none) (E : w1 = 0 → spec = T.bind k) (h2 : tkM s1 w1 L D T s2 w2 fa2 L1 v) : w2 = 1 ∨ fa2 = 1 → wi = 0 → spec = none := fun h9 h0 => by
  rcases h.2.1 with hz | hz
  · rw [E hz, h2.2.2.2.2.2.2.2.2.2 h9 hz]; rfl
  · exact F hz h0
theorem tk_E {s1 s2 : Nat → fr} {w1 w2 fa2 : Int32} {D : Nat} {L L1 : lvR} {X : Type} {T : Option (n4 × lvR)} {v : n4} {spec : Option X} {k : n4 × lvR → Option X} (E : w1 = 0 → spec = T.bind k) (h2 : tkM s1 w1 L D T s2 w2 fa2 L1 v) (hf : fa2 = 0) : w2 = 0 → spec = k (v, L1) := fun h0 => by
  rw [E (h2.2.2.2.2.2.2.2.1 h0), (h2.2.2.2.2.2.2.2.2.1 h0 hf).1]; rfl
theorem tk_t {s1 s2 : Nat → fr} {w1 w2 fa2 : Int32} {D : Nat} {L L1 : lvR} {T : Option (n4 × lvR)} {v : n4} (h2 : tkM s1 w1 L D T s2 w2 fa2 L1 v) (hf : fa2 = 0) : tM s2 w2 L1.1 D v ∧ rdM s2 w2 L1 :=
  ⟨⟨fun h0 => (h2.2.2.2.2.2.2.2.2.1 h0 hf).2.1.1 h0, fun h0 => (h2.2.2.2.2.2.2.2.2.1 h0 hf).2.1.2 h0⟩, ⟨fun q h0 => (h2.2.2.2.2.2.2.2.2.1 h0 hf).2.2.1 q h0, fun q h0 => (h2.2.2.2.2.2.2.2.2.1 h0 hf).2.2.2 q h0⟩⟩
set_option maxRecDepth 100000 in
theorem rk_line {d : Nat} {pre : mm_pre} {s : Nat → fr} {op oq : Nat → Int64} {tr fa ob : Int32} {st of : Nat → Int32} {F : mm_M} {L : lvR} {o : Nat} {p q : Nat} {xp yp xq yq : n4} {Q : mm_R → mm_M → Prop} (hV : ∀ k, fv (s k)) (hl : L.1 ≤ 2) (hg : p < o ∧ q < o ∧ o < 24) (R : rdM s 0 L) (A : tM s 0 L.1 (12 * p) xp) (B : tM s 0 L.1 ((12 * p + 4)) yp) (C : tM s 0 L.1 (12 * q) xq) (D : tM s 0 L.1 ((12 * q + 4)) yq) (hQ : ∀ (s1 : Nat → fr) (w1 fa1 : Int32), drM s L o (mLine L xp yp xq yq) s1 w1 fa1 L → Q (.inl none) (wP pre (wN (PP s1) (QQ s1) op oq tr (nI L.1) w1 fa1 ob st of F))) : mm_call mm_Tb (d + 9) 89 [.ref 10, .int (nI o), .int (nI p), .int (nI q)] (wP pre (wN (PP s) (QQ s) op oq tr (nI L.1) 0 fa ob st of F)) Q := by
  have S0 := ms_0 (wi := 0) (Z := fun k => 300 ≤ k ∨ (12 * o ≤ k ∧ k < 12 * o + 12)) hV (Or.inl rfl)
  have F0 : (0 : Int32) = 1 → (0 : Int32) = 0 → rLine L xp yp xq yq = none := fun h1 h0 => absurd (h1.symm.trans h0) z10
  refine mm_in mt_89 (Nat.le_of_ble_eq_true rfl) ?_
  show mm_W _ _ _ _ _ _ _ (0, [(0, .ref 10), (1, .int (nI o)), (2, .int (nI p)), (3, .int (nI q))], [], wP pre (wN (PP s) (QQ s) op oq tr (nI L.1) 0 fa ob st of F), 0)
  refine mm_skip (mm_call_mono _ _) 3 (st' := (3, [(0, .ref 10), (1, .int (nI o)), (2, .int (nI p)), (3, .int (nI q))], [.int (nI p), .ref 10, .ref 10], wP pre (wN (PP s) (QQ s) op oq tr (nI L.1) 0 fa ob st of F), 0)) rfl ?_
  refine mm_inv (mm_call_mono _ _) (j := 83) (a := [.int (nI p)]) (M := wP pre (wN (PP s) (QQ s) op oq tr (nI L.1) 0 fa ob st of F)) (u := 0) rfl (by decide) (rm_xOf (o := p) ?_)
  show mm_W _ _ _ _ _ _ _ (6, [(0, .ref 10), (1, .int (nI o)), (2, .int (nI p)), (3, .int (nI q))], [.int (nI (12 * p)), .ref 10, .ref 10], wP pre (wN (PP s) (QQ s) op oq tr (nI L.1) 0 fa ob st of F), 0)
  refine mm_skip (mm_call_mono _ _) 1 (st' := (7, [(0, .ref 10), (1, .int (nI o)), (2, .int (nI p)), (3, .int (nI q))], [.int (nI q), .int (nI (12 * p)), .ref 10, .ref 10], wP pre (wN (PP s) (QQ s) op oq tr (nI L.1) 0 fa ob st of F), 0)) rfl ?_
  refine mm_inv (mm_call_mono _ _) (j := 83) (a := [.int (nI q)]) (M := wP pre (wN (PP s) (QQ s) op oq tr (nI L.1) 0 fa ob st of F)) (u := 0) rfl (by decide) (rm_xOf (o := q) ?_)
  show mm_W _ _ _ _ _ _ _ (10, [(0, .ref 10), (1, .int (nI o)), (2, .int (nI p)), (3, .int (nI q))], [.int (nI (12 * q)), .int (nI (12 * p)), .ref 10, .ref 10], wP pre (wN (PP s) (QQ s) op oq tr (nI L.1) 0 fa ob st of F), 0)
  refine mm_inv (mm_call_mono _ _) (j := 64) (a := [.ref 10, .int (nI (12 * p)), .int (nI (12 * q))]) (M := wP pre (wN (PP s) (QQ s) op oq tr (nI L.1) 0 fa ob st of F)) (u := 0) rfl (by decide) (rm_alike (A := (12 * p)) (B := (12 * q)) hV (by omega) (by omega) ?_)
  show mm_W _ _ _ _ _ _ _ (13, [(0, .ref 10), (1, .int (nI o)), (2, .int (nI p)), (3, .int (nI q))], [.int (bz (alm s ((12 * p)) ((12 * q)))), .ref 10], wP pre (wN (PP s) (QQ s) op oq tr (nI L.1) 0 fa ob st of F), 0)
  refine mm_branch (mm_call_mono _ _) (c := (bz (alm s ((12 * p)) ((12 * q)))) = 0) (s1 := (35, [(0, .ref 10), (1, .int (nI o)), (2, .int (nI p)), (3, .int (nI q))], [.ref 10], wP pre (wN (PP s) (QQ s) op oq tr (nI L.1) 0 fa ob st of F), 0)) (s2 := (16, [(0, .ref 10), (1, .int (nI o)), (2, .int (nI p)), (3, .int (nI q))], [.ref 10], wP pre (wN (PP s) (QQ s) op oq tr (nI L.1) 0 fa ob st of F), 0)) rfl (fun z1 => ?_) (fun z1 => ?_)
  · have E0 : (0 : Int32) = 0 → rLine L xp yp xq yq = Option.bind (xsub L.1 yq yp) _ := fun _ => if_neg (fun z => bz_0 z1 ((alm_eq A C).mpr z.1))
    refine mm_skip (mm_call_mono _ _) 1 (st' := (36, [(0, .ref 10), (1, .int (nI o)), (2, .int (nI p)), (3, .int (nI q))], [.int 0, .ref 10], wP pre (wN (PP s) (QQ s) op oq tr (nI L.1) 0 fa ob st of F), 0)) rfl ?_
    refine mm_need (mm_call_mono _ _) (c := mm_z 0) (s' := (39, [(0, .ref 10), (1, .int (nI o)), (2, .int (nI p)), (3, .int (nI q))], [], wP pre (wN (PP s) (QQ s) op oq tr (nI L.1) 0 0 ob st of F), 0)) rfl (by unfold mm_z; decide) ?_
    refine mm_skip (mm_call_mono _ _) 2 (st' := (43, [(0, .ref 10), (1, .int (nI o)), (2, .int (nI p)), (3, .int (nI q))], [.int 0], wP pre (wN (PP s) (QQ s) op oq tr (nI L.1) 0 0 ob st of F), 0)) rfl ?_
    refine mm_branch (mm_call_mono _ _) (c := (0 : Int32) = 0) (s1 := (47, [(0, .ref 10), (1, .int (nI o)), (2, .int (nI p)), (3, .int (nI q))], [], wP pre (wN (PP s) (QQ s) op oq tr (nI L.1) 0 0 ob st of F), 0)) (s2 := (46, [(0, .ref 10), (1, .int (nI o)), (2, .int (nI p)), (3, .int (nI q))], [], wP pre (wN (PP s) (QQ s) op oq tr (nI L.1) 0 0 ob st of F), 0)) rfl (fun _ => ?_) (fun h => absurd (by decide) h)
    refine mm_skip (mm_call_mono _ _) 2 (st' := (49, [(0, .ref 10), (1, .int (nI o)), (2, .int (nI p)), (3, .int (nI q))], [.int (nI o), .ref 10], wP pre (wN (PP s) (QQ s) op oq tr (nI L.1) 0 0 ob st of F), 0)) rfl ?_
    refine mm_inv (mm_call_mono _ _) (j := 83) (a := [.int (nI o)]) (M := wP pre (wN (PP s) (QQ s) op oq tr (nI L.1) 0 0 ob st of F)) (u := 0) rfl (by decide) (rm_xOf (o := o) ?_)
    show mm_W _ _ _ _ _ _ _ (52, [(0, .ref 10), (1, .int (nI o)), (2, .int (nI p)), (3, .int (nI q))], [.int (nI (12 * o)), .ref 10], wP pre (wN (PP s) (QQ s) op oq tr (nI L.1) 0 0 ob st of F), 0)
    refine mm_skip (mm_call_mono _ _) 1 (st' := (53, [(0, .ref 10), (1, .int (nI o)), (2, .int (nI p)), (3, .int (nI q))], [.int (nI q), .int (nI (12 * o)), .ref 10], wP pre (wN (PP s) (QQ s) op oq tr (nI L.1) 0 0 ob st of F), 0)) rfl ?_
    refine mm_inv (mm_call_mono _ _) (j := 84) (a := [.int (nI q)]) (M := wP pre (wN (PP s) (QQ s) op oq tr (nI L.1) 0 0 ob st of F)) (u := 0) rfl (by decide) (rm_yOf (o := q) ?_)
    show mm_W _ _ _ _ _ _ _ (56, [(0, .ref 10), (1, .int (nI o)), (2, .int (nI p)), (3, .int (nI q))], [.int (nI (12 * q + 4)), .int (nI (12 * o)), .ref 10], wP pre (wN (PP s) (QQ s) op oq tr (nI L.1) 0 0 ob st of F), 0)
    refine mm_skip (mm_call_mono _ _) 1 (st' := (57, [(0, .ref 10), (1, .int (nI o)), (2, .int (nI p)), (3, .int (nI q))], [.int (nI p), .int (nI (12 * q + 4)), .int (nI (12 * o)), .ref 10], wP pre (wN (PP s) (QQ s) op oq tr (nI L.1) 0 0 ob st of F), 0)) rfl ?_
    refine mm_inv (mm_call_mono _ _) (j := 84) (a := [.int (nI p)]) (M := wP pre (wN (PP s) (QQ s) op oq tr (nI L.1) 0 0 ob st of F)) (u := 0) rfl (by decide) (rm_yOf (o := p) ?_)
    show mm_W _ _ _ _ _ _ _ (60, [(0, .ref 10), (1, .int (nI o)), (2, .int (nI p)), (3, .int (nI q))], [.int (nI (12 * p + 4)), .int (nI (12 * q + 4)), .int (nI (12 * o)), .ref 10], wP pre (wN (PP s) (QQ s) op oq tr (nI L.1) 0 0 ob st of F), 0)
    refine mm_skip (mm_call_mono _ _) 1 (st' := (61, [(0, .ref 10), (1, .int (nI o)), (2, .int (nI p)), (3, .int (nI q))], [.int 4, .int (nI (12 * p + 4)), .int (nI (12 * q + 4)), .int (nI (12 * o)), .ref 10], wP pre (wN (PP s) (QQ s) op oq tr (nI L.1) 0 0 ob st of F), 0)) rfl ?_
    refine mm_inv (mm_call_mono _ _) (j := 60) (a := [.ref 10, .int (nI (12 * o)), .int (nI (12 * q + 4)), .int (nI (12 * p + 4)), .int 4]) (M := wP pre (wN (PP s) (QQ s) op oq tr (nI L.1) 0 0 ob st of F)) (u := 0) rfl (by decide) (rg_sub (D := (12 * o)) (A := (12 * q + 4)) (B := (12 * p + 4)) hV (Or.inl rfl) hl (by omega) D B (fun s1 w1 h1 => ?_))
    show mm_W _ _ _ _ _ _ _ (64, [(0, .ref 10), (1, .int (nI o)), (2, .int (nI p)), (3, .int (nI q))], [], wP pre (wN (PP s1) (QQ s1) op oq tr (nI L.1) w1 0 ob st of F), 0)
    have V1 := h1.1
    have z1 := h1.2.1
    have S1 := gs_s S0 h1 (fun k => by omega)
    have F1 := g_F S0 F0 E0 h1
    have E1 := g_E E0 h1
    have R_1 := r_k R h1 (by omega)
    have A_1 := t_k A h1 (by omega)
    have B_1 := t_k B h1 (by omega)
    have C_1 := t_k C h1 (by omega)
    have D_1 := t_k D h1 (by omega)
    have W1_1 := t_new h1
    refine mm_skip (mm_call_mono _ _) 2 (st' := (66, [(0, .ref 10), (1, .int (nI o)), (2, .int (nI p)), (3, .int (nI q))], [.int (nI o), .ref 10], wP pre (wN (PP s1) (QQ s1) op oq tr (nI L.1) w1 0 ob st of F), 0)) rfl ?_
    refine mm_inv (mm_call_mono _ _) (j := 84) (a := [.int (nI o)]) (M := wP pre (wN (PP s1) (QQ s1) op oq tr (nI L.1) w1 0 ob st of F)) (u := 0) rfl (by decide) (rm_yOf (o := o) ?_)
    show mm_W _ _ _ _ _ _ _ (69, [(0, .ref 10), (1, .int (nI o)), (2, .int (nI p)), (3, .int (nI q))], [.int (nI (12 * o + 4)), .ref 10], wP pre (wN (PP s1) (QQ s1) op oq tr (nI L.1) w1 0 ob st of F), 0)
    refine mm_skip (mm_call_mono _ _) 1 (st' := (70, [(0, .ref 10), (1, .int (nI o)), (2, .int (nI p)), (3, .int (nI q))], [.int (nI p), .int (nI (12 * o + 4)), .ref 10], wP pre (wN (PP s1) (QQ s1) op oq tr (nI L.1) w1 0 ob st of F), 0)) rfl ?_
    refine mm_inv (mm_call_mono _ _) (j := 83) (a := [.int (nI p)]) (M := wP pre (wN (PP s1) (QQ s1) op oq tr (nI L.1) w1 0 ob st of F)) (u := 0) rfl (by decide) (rm_xOf (o := p) ?_)
    show mm_W _ _ _ _ _ _ _ (73, [(0, .ref 10), (1, .int (nI o)), (2, .int (nI p)), (3, .int (nI q))], [.int (nI (12 * p)), .int (nI (12 * o + 4)), .ref 10], wP pre (wN (PP s1) (QQ s1) op oq tr (nI L.1) w1 0 ob st of F), 0)
    refine mm_skip (mm_call_mono _ _) 1 (st' := (74, [(0, .ref 10), (1, .int (nI o)), (2, .int (nI p)), (3, .int (nI q))], [.int (nI q), .int (nI (12 * p)), .int (nI (12 * o + 4)), .ref 10], wP pre (wN (PP s1) (QQ s1) op oq tr (nI L.1) w1 0 ob st of F), 0)) rfl ?_
    refine mm_inv (mm_call_mono _ _) (j := 83) (a := [.int (nI q)]) (M := wP pre (wN (PP s1) (QQ s1) op oq tr (nI L.1) w1 0 ob st of F)) (u := 0) rfl (by decide) (rm_xOf (o := q) ?_)
    show mm_W _ _ _ _ _ _ _ (77, [(0, .ref 10), (1, .int (nI o)), (2, .int (nI p)), (3, .int (nI q))], [.int (nI (12 * q)), .int (nI (12 * p)), .int (nI (12 * o + 4)), .ref 10], wP pre (wN (PP s1) (QQ s1) op oq tr (nI L.1) w1 0 ob st of F), 0)
    refine mm_skip (mm_call_mono _ _) 1 (st' := (78, [(0, .ref 10), (1, .int (nI o)), (2, .int (nI p)), (3, .int (nI q))], [.int 4, .int (nI (12 * q)), .int (nI (12 * p)), .int (nI (12 * o + 4)), .ref 10], wP pre (wN (PP s1) (QQ s1) op oq tr (nI L.1) w1 0 ob st of F), 0)) rfl ?_
    refine mm_inv (mm_call_mono _ _) (j := 60) (a := [.ref 10, .int (nI (12 * o + 4)), .int (nI (12 * p)), .int (nI (12 * q)), .int 4]) (M := wP pre (wN (PP s1) (QQ s1) op oq tr (nI L.1) w1 0 ob st of F)) (u := 0) rfl (by decide) (rg_sub (D := (12 * o + 4)) (A := (12 * p)) (B := (12 * q)) V1 z1 hl (by omega) A_1 C_1 (fun s2 w2 h2 => ?_))
    show mm_W _ _ _ _ _ _ _ (81, [(0, .ref 10), (1, .int (nI o)), (2, .int (nI p)), (3, .int (nI q))], [], wP pre (wN (PP s2) (QQ s2) op oq tr (nI L.1) w2 0 ob st of F), 0)
    have V2 := h2.1
    have z2 := h2.2.1
    have S2 := gs_s S1 h2 (fun k => by omega)
    have F2 := g_F S1 F1 E1 h2
    have E2 := g_E E1 h2
    have R_2 := r_k R_1 h2 (by omega)
    have A_2 := t_k A_1 h2 (by omega)
    have B_2 := t_k B_1 h2 (by omega)
    have C_2 := t_k C_1 h2 (by omega)
    have D_2 := t_k D_1 h2 (by omega)
    have W1_2 := t_k W1_1 h2 (by omega)
    have W2_2 := t_new h2
    refine mm_skip (mm_call_mono _ _) 7 (st' := (90, [(0, .ref 10), (1, .int (nI o)), (2, .int (nI p)), (3, .int (nI q))], [.int (nI o), .int ((12 * (nI o)) + 8), .ref 10], wP pre (wN (PP s2) (QQ s2) op oq tr (nI L.1) w2 0 ob st of F), 0)) rfl ?_
    rw [nI_m12 o]
    rw [nI_p8 ((12 * o))]
    show mm_W _ _ _ _ _ _ _ (90, [(0, .ref 10), (1, .int (nI o)), (2, .int (nI p)), (3, .int (nI q))], [.int (nI o), .int (nI (12 * o + 8)), .ref 10], wP pre (wN (PP s2) (QQ s2) op oq tr (nI L.1) w2 0 ob st of F), 0)
    refine mm_inv (mm_call_mono _ _) (j := 83) (a := [.int (nI o)]) (M := wP pre (wN (PP s2) (QQ s2) op oq tr (nI L.1) w2 0 ob st of F)) (u := 0) rfl (by decide) (rm_xOf (o := o) ?_)
    show mm_W _ _ _ _ _ _ _ (93, [(0, .ref 10), (1, .int (nI o)), (2, .int (nI p)), (3, .int (nI q))], [.int (nI (12 * o)), .int (nI (12 * o + 8)), .ref 10], wP pre (wN (PP s2) (QQ s2) op oq tr (nI L.1) w2 0 ob st of F), 0)
    refine mm_skip (mm_call_mono _ _) 1 (st' := (94, [(0, .ref 10), (1, .int (nI o)), (2, .int (nI p)), (3, .int (nI q))], [.int (nI p), .int (nI (12 * o)), .int (nI (12 * o + 8)), .ref 10], wP pre (wN (PP s2) (QQ s2) op oq tr (nI L.1) w2 0 ob st of F), 0)) rfl ?_
    refine mm_inv (mm_call_mono _ _) (j := 83) (a := [.int (nI p)]) (M := wP pre (wN (PP s2) (QQ s2) op oq tr (nI L.1) w2 0 ob st of F)) (u := 0) rfl (by decide) (rm_xOf (o := p) ?_)
    show mm_W _ _ _ _ _ _ _ (97, [(0, .ref 10), (1, .int (nI o)), (2, .int (nI p)), (3, .int (nI q))], [.int (nI (12 * p)), .int (nI (12 * o)), .int (nI (12 * o + 8)), .ref 10], wP pre (wN (PP s2) (QQ s2) op oq tr (nI L.1) w2 0 ob st of F), 0)
    refine mm_skip (mm_call_mono _ _) 1 (st' := (98, [(0, .ref 10), (1, .int (nI o)), (2, .int (nI p)), (3, .int (nI q))], [.int (nI o), .int (nI (12 * p)), .int (nI (12 * o)), .int (nI (12 * o + 8)), .ref 10], wP pre (wN (PP s2) (QQ s2) op oq tr (nI L.1) w2 0 ob st of F), 0)) rfl ?_
    refine mm_inv (mm_call_mono _ _) (j := 84) (a := [.int (nI o)]) (M := wP pre (wN (PP s2) (QQ s2) op oq tr (nI L.1) w2 0 ob st of F)) (u := 0) rfl (by decide) (rm_yOf (o := o) ?_)
    show mm_W _ _ _ _ _ _ _ (101, [(0, .ref 10), (1, .int (nI o)), (2, .int (nI p)), (3, .int (nI q))], [.int (nI (12 * o + 4)), .int (nI (12 * p)), .int (nI (12 * o)), .int (nI (12 * o + 8)), .ref 10], wP pre (wN (PP s2) (QQ s2) op oq tr (nI L.1) w2 0 ob st of F), 0)
    refine mm_skip (mm_call_mono _ _) 1 (st' := (102, [(0, .ref 10), (1, .int (nI o)), (2, .int (nI p)), (3, .int (nI q))], [.int (nI p), .int (nI (12 * o + 4)), .int (nI (12 * p)), .int (nI (12 * o)), .int (nI (12 * o + 8)), .ref 10], wP pre (wN (PP s2) (QQ s2) op oq tr (nI L.1) w2 0 ob st of F), 0)) rfl ?_
    refine mm_inv (mm_call_mono _ _) (j := 84) (a := [.int (nI p)]) (M := wP pre (wN (PP s2) (QQ s2) op oq tr (nI L.1) w2 0 ob st of F)) (u := 0) rfl (by decide) (rm_yOf (o := p) ?_)
    show mm_W _ _ _ _ _ _ _ (105, [(0, .ref 10), (1, .int (nI o)), (2, .int (nI p)), (3, .int (nI q))], [.int (nI (12 * p + 4)), .int (nI (12 * o + 4)), .int (nI (12 * p)), .int (nI (12 * o)), .int (nI (12 * o + 8)), .ref 10], wP pre (wN (PP s2) (QQ s2) op oq tr (nI L.1) w2 0 ob st of F), 0)
    refine mm_inv (mm_call_mono _ _) (j := 86) (a := [.ref 10, .int (nI (12 * o + 8)), .int (nI (12 * o)), .int (nI (12 * p)), .int (nI (12 * o + 4)), .int (nI (12 * p + 4))]) (M := wP pre (wN (PP s2) (QQ s2) op oq tr (nI L.1) w2 0 ob st of F)) (u := 0) rfl (by decide) (rg_products (D := (12 * o + 8)) (A := (12 * o)) (B := (12 * p)) (C := (12 * o + 4)) (E := (12 * p + 4)) V2 z2 hl (by omega) R_2 W1_2 A_2 W2_2 B_2 (fun s3 w3 h3 => ?_))
    show mm_W _ _ _ _ _ _ _ (108, [(0, .ref 10), (1, .int (nI o)), (2, .int (nI p)), (3, .int (nI q))], [], wP pre (wN (PP s3) (QQ s3) op oq tr (nI L.1) w3 0 ob st of F), 0)
    have V3 := h3.1
    have z3 := h3.2.1
    have S3 := gs_s S2 h3 (fun k => by omega)
    have F3 := g_F S2 F2 E2 h3
    have E3 := g_E E2 h3
    have R_3 := r_k R_2 h3 (by omega)
    have A_3 := t_k A_2 h3 (by omega)
    have B_3 := t_k B_2 h3 (by omega)
    have C_3 := t_k C_2 h3 (by omega)
    have D_3 := t_k D_2 h3 (by omega)
    have W1_3 := t_k W1_2 h3 (by omega)
    have W2_3 := t_k W2_2 h3 (by omega)
    have W3_3 := t_new h3
    exact mm_ret (mm_call_mono _ _) (c := True) (r := .inl none) (M := wP pre (wN (PP s3) (QQ s3) op oq tr (nI L.1) w3 0 ob st of F)) (u := 0) rfl trivial (by decide) (by have e9 := dr_ofM (L := L) S3 (fun k q => q.elim Or.inl (fun q => Or.inr (Or.inl q))) hl W1_3 W2_3 W3_3 R_3 E3 F3; rw [rLine_eq] at e9; exact hQ _ _ _ e9)
  · skip
    refine mm_skip (mm_call_mono _ _) 2 (st' := (18, [(0, .ref 10), (1, .int (nI o)), (2, .int (nI p)), (3, .int (nI q))], [.int (nI p), .ref 10, .ref 10], wP pre (wN (PP s) (QQ s) op oq tr (nI L.1) 0 fa ob st of F), 0)) rfl ?_
    refine mm_inv (mm_call_mono _ _) (j := 84) (a := [.int (nI p)]) (M := wP pre (wN (PP s) (QQ s) op oq tr (nI L.1) 0 fa ob st of F)) (u := 0) rfl (by decide) (rm_yOf (o := p) ?_)
    show mm_W _ _ _ _ _ _ _ (21, [(0, .ref 10), (1, .int (nI o)), (2, .int (nI p)), (3, .int (nI q))], [.int (nI (12 * p + 4)), .ref 10, .ref 10], wP pre (wN (PP s) (QQ s) op oq tr (nI L.1) 0 fa ob st of F), 0)
    refine mm_skip (mm_call_mono _ _) 1 (st' := (22, [(0, .ref 10), (1, .int (nI o)), (2, .int (nI p)), (3, .int (nI q))], [.int (nI q), .int (nI (12 * p + 4)), .ref 10, .ref 10], wP pre (wN (PP s) (QQ s) op oq tr (nI L.1) 0 fa ob st of F), 0)) rfl ?_
    refine mm_inv (mm_call_mono _ _) (j := 84) (a := [.int (nI q)]) (M := wP pre (wN (PP s) (QQ s) op oq tr (nI L.1) 0 fa ob st of F)) (u := 0) rfl (by decide) (rm_yOf (o := q) ?_)
    show mm_W _ _ _ _ _ _ _ (25, [(0, .ref 10), (1, .int (nI o)), (2, .int (nI p)), (3, .int (nI q))], [.int (nI (12 * q + 4)), .int (nI (12 * p + 4)), .ref 10, .ref 10], wP pre (wN (PP s) (QQ s) op oq tr (nI L.1) 0 fa ob st of F), 0)
    refine mm_inv (mm_call_mono _ _) (j := 64) (a := [.ref 10, .int (nI (12 * p + 4)), .int (nI (12 * q + 4))]) (M := wP pre (wN (PP s) (QQ s) op oq tr (nI L.1) 0 fa ob st of F)) (u := 0) rfl (by decide) (rm_alike (A := (12 * p + 4)) (B := (12 * q + 4)) hV (by omega) (by omega) ?_)
    show mm_W _ _ _ _ _ _ _ (28, [(0, .ref 10), (1, .int (nI o)), (2, .int (nI p)), (3, .int (nI q))], [.int (bz (alm s ((12 * p + 4)) ((12 * q + 4)))), .ref 10], wP pre (wN (PP s) (QQ s) op oq tr (nI L.1) 0 fa ob st of F), 0)
    refine mm_branch (mm_call_mono _ _) (c := (bz (alm s ((12 * p + 4)) ((12 * q + 4)))) = 0) (s1 := (35, [(0, .ref 10), (1, .int (nI o)), (2, .int (nI p)), (3, .int (nI q))], [.ref 10], wP pre (wN (PP s) (QQ s) op oq tr (nI L.1) 0 fa ob st of F), 0)) (s2 := (31, [(0, .ref 10), (1, .int (nI o)), (2, .int (nI p)), (3, .int (nI q))], [.ref 10], wP pre (wN (PP s) (QQ s) op oq tr (nI L.1) 0 fa ob st of F), 0)) rfl (fun z2 => ?_) (fun z2 => ?_)
    · have E0 : (0 : Int32) = 0 → rLine L xp yp xq yq = Option.bind (xsub L.1 yq yp) _ := fun _ => if_neg (fun z => bz_0 z2 ((alm_eq B D).mpr z.2))
      refine mm_skip (mm_call_mono _ _) 1 (st' := (36, [(0, .ref 10), (1, .int (nI o)), (2, .int (nI p)), (3, .int (nI q))], [.int 0, .ref 10], wP pre (wN (PP s) (QQ s) op oq tr (nI L.1) 0 fa ob st of F), 0)) rfl ?_
      refine mm_need (mm_call_mono _ _) (c := mm_z 0) (s' := (39, [(0, .ref 10), (1, .int (nI o)), (2, .int (nI p)), (3, .int (nI q))], [], wP pre (wN (PP s) (QQ s) op oq tr (nI L.1) 0 0 ob st of F), 0)) rfl (by unfold mm_z; decide) ?_
      refine mm_skip (mm_call_mono _ _) 2 (st' := (43, [(0, .ref 10), (1, .int (nI o)), (2, .int (nI p)), (3, .int (nI q))], [.int 0], wP pre (wN (PP s) (QQ s) op oq tr (nI L.1) 0 0 ob st of F), 0)) rfl ?_
      refine mm_branch (mm_call_mono _ _) (c := (0 : Int32) = 0) (s1 := (47, [(0, .ref 10), (1, .int (nI o)), (2, .int (nI p)), (3, .int (nI q))], [], wP pre (wN (PP s) (QQ s) op oq tr (nI L.1) 0 0 ob st of F), 0)) (s2 := (46, [(0, .ref 10), (1, .int (nI o)), (2, .int (nI p)), (3, .int (nI q))], [], wP pre (wN (PP s) (QQ s) op oq tr (nI L.1) 0 0 ob st of F), 0)) rfl (fun _ => ?_) (fun h => absurd (by decide) h)
      refine mm_skip (mm_call_mono _ _) 2 (st' := (49, [(0, .ref 10), (1, .int (nI o)), (2, .int (nI p)), (3, .int (nI q))], [.int (nI o), .ref 10], wP pre (wN (PP s) (QQ s) op oq tr (nI L.1) 0 0 ob st of F), 0)) rfl ?_
      refine mm_inv (mm_call_mono _ _) (j := 83) (a := [.int (nI o)]) (M := wP pre (wN (PP s) (QQ s) op oq tr (nI L.1) 0 0 ob st of F)) (u := 0) rfl (by decide) (rm_xOf (o := o) ?_)
      show mm_W _ _ _ _ _ _ _ (52, [(0, .ref 10), (1, .int (nI o)), (2, .int (nI p)), (3, .int (nI q))], [.int (nI (12 * o)), .ref 10], wP pre (wN (PP s) (QQ s) op oq tr (nI L.1) 0 0 ob st of F), 0)
      refine mm_skip (mm_call_mono _ _) 1 (st' := (53, [(0, .ref 10), (1, .int (nI o)), (2, .int (nI p)), (3, .int (nI q))], [.int (nI q), .int (nI (12 * o)), .ref 10], wP pre (wN (PP s) (QQ s) op oq tr (nI L.1) 0 0 ob st of F), 0)) rfl ?_
      refine mm_inv (mm_call_mono _ _) (j := 84) (a := [.int (nI q)]) (M := wP pre (wN (PP s) (QQ s) op oq tr (nI L.1) 0 0 ob st of F)) (u := 0) rfl (by decide) (rm_yOf (o := q) ?_)
      show mm_W _ _ _ _ _ _ _ (56, [(0, .ref 10), (1, .int (nI o)), (2, .int (nI p)), (3, .int (nI q))], [.int (nI (12 * q + 4)), .int (nI (12 * o)), .ref 10], wP pre (wN (PP s) (QQ s) op oq tr (nI L.1) 0 0 ob st of F), 0)
      refine mm_skip (mm_call_mono _ _) 1 (st' := (57, [(0, .ref 10), (1, .int (nI o)), (2, .int (nI p)), (3, .int (nI q))], [.int (nI p), .int (nI (12 * q + 4)), .int (nI (12 * o)), .ref 10], wP pre (wN (PP s) (QQ s) op oq tr (nI L.1) 0 0 ob st of F), 0)) rfl ?_
      refine mm_inv (mm_call_mono _ _) (j := 84) (a := [.int (nI p)]) (M := wP pre (wN (PP s) (QQ s) op oq tr (nI L.1) 0 0 ob st of F)) (u := 0) rfl (by decide) (rm_yOf (o := p) ?_)
      show mm_W _ _ _ _ _ _ _ (60, [(0, .ref 10), (1, .int (nI o)), (2, .int (nI p)), (3, .int (nI q))], [.int (nI (12 * p + 4)), .int (nI (12 * q + 4)), .int (nI (12 * o)), .ref 10], wP pre (wN (PP s) (QQ s) op oq tr (nI L.1) 0 0 ob st of F), 0)
      refine mm_skip (mm_call_mono _ _) 1 (st' := (61, [(0, .ref 10), (1, .int (nI o)), (2, .int (nI p)), (3, .int (nI q))], [.int 4, .int (nI (12 * p + 4)), .int (nI (12 * q + 4)), .int (nI (12 * o)), .ref 10], wP pre (wN (PP s) (QQ s) op oq tr (nI L.1) 0 0 ob st of F), 0)) rfl ?_
      refine mm_inv (mm_call_mono _ _) (j := 60) (a := [.ref 10, .int (nI (12 * o)), .int (nI (12 * q + 4)), .int (nI (12 * p + 4)), .int 4]) (M := wP pre (wN (PP s) (QQ s) op oq tr (nI L.1) 0 0 ob st of F)) (u := 0) rfl (by decide) (rg_sub (D := (12 * o)) (A := (12 * q + 4)) (B := (12 * p + 4)) hV (Or.inl rfl) hl (by omega) D B (fun s4 w4 h4 => ?_))
      show mm_W _ _ _ _ _ _ _ (64, [(0, .ref 10), (1, .int (nI o)), (2, .int (nI p)), (3, .int (nI q))], [], wP pre (wN (PP s4) (QQ s4) op oq tr (nI L.1) w4 0 ob st of F), 0)
      have V4 := h4.1
      have z4 := h4.2.1
      have S4 := gs_s S0 h4 (fun k => by omega)
      have F4 := g_F S0 F0 E0 h4
      have E4 := g_E E0 h4
      have R_4 := r_k R h4 (by omega)
      have A_4 := t_k A h4 (by omega)
      have B_4 := t_k B h4 (by omega)
      have C_4 := t_k C h4 (by omega)
      have W4_4 := t_new h4
      refine mm_skip (mm_call_mono _ _) 2 (st' := (66, [(0, .ref 10), (1, .int (nI o)), (2, .int (nI p)), (3, .int (nI q))], [.int (nI o), .ref 10], wP pre (wN (PP s4) (QQ s4) op oq tr (nI L.1) w4 0 ob st of F), 0)) rfl ?_
      refine mm_inv (mm_call_mono _ _) (j := 84) (a := [.int (nI o)]) (M := wP pre (wN (PP s4) (QQ s4) op oq tr (nI L.1) w4 0 ob st of F)) (u := 0) rfl (by decide) (rm_yOf (o := o) ?_)
      show mm_W _ _ _ _ _ _ _ (69, [(0, .ref 10), (1, .int (nI o)), (2, .int (nI p)), (3, .int (nI q))], [.int (nI (12 * o + 4)), .ref 10], wP pre (wN (PP s4) (QQ s4) op oq tr (nI L.1) w4 0 ob st of F), 0)
      refine mm_skip (mm_call_mono _ _) 1 (st' := (70, [(0, .ref 10), (1, .int (nI o)), (2, .int (nI p)), (3, .int (nI q))], [.int (nI p), .int (nI (12 * o + 4)), .ref 10], wP pre (wN (PP s4) (QQ s4) op oq tr (nI L.1) w4 0 ob st of F), 0)) rfl ?_
      refine mm_inv (mm_call_mono _ _) (j := 83) (a := [.int (nI p)]) (M := wP pre (wN (PP s4) (QQ s4) op oq tr (nI L.1) w4 0 ob st of F)) (u := 0) rfl (by decide) (rm_xOf (o := p) ?_)
      show mm_W _ _ _ _ _ _ _ (73, [(0, .ref 10), (1, .int (nI o)), (2, .int (nI p)), (3, .int (nI q))], [.int (nI (12 * p)), .int (nI (12 * o + 4)), .ref 10], wP pre (wN (PP s4) (QQ s4) op oq tr (nI L.1) w4 0 ob st of F), 0)
      refine mm_skip (mm_call_mono _ _) 1 (st' := (74, [(0, .ref 10), (1, .int (nI o)), (2, .int (nI p)), (3, .int (nI q))], [.int (nI q), .int (nI (12 * p)), .int (nI (12 * o + 4)), .ref 10], wP pre (wN (PP s4) (QQ s4) op oq tr (nI L.1) w4 0 ob st of F), 0)) rfl ?_
      refine mm_inv (mm_call_mono _ _) (j := 83) (a := [.int (nI q)]) (M := wP pre (wN (PP s4) (QQ s4) op oq tr (nI L.1) w4 0 ob st of F)) (u := 0) rfl (by decide) (rm_xOf (o := q) ?_)
      show mm_W _ _ _ _ _ _ _ (77, [(0, .ref 10), (1, .int (nI o)), (2, .int (nI p)), (3, .int (nI q))], [.int (nI (12 * q)), .int (nI (12 * p)), .int (nI (12 * o + 4)), .ref 10], wP pre (wN (PP s4) (QQ s4) op oq tr (nI L.1) w4 0 ob st of F), 0)
      refine mm_skip (mm_call_mono _ _) 1 (st' := (78, [(0, .ref 10), (1, .int (nI o)), (2, .int (nI p)), (3, .int (nI q))], [.int 4, .int (nI (12 * q)), .int (nI (12 * p)), .int (nI (12 * o + 4)), .ref 10], wP pre (wN (PP s4) (QQ s4) op oq tr (nI L.1) w4 0 ob st of F), 0)) rfl ?_
      refine mm_inv (mm_call_mono _ _) (j := 60) (a := [.ref 10, .int (nI (12 * o + 4)), .int (nI (12 * p)), .int (nI (12 * q)), .int 4]) (M := wP pre (wN (PP s4) (QQ s4) op oq tr (nI L.1) w4 0 ob st of F)) (u := 0) rfl (by decide) (rg_sub (D := (12 * o + 4)) (A := (12 * p)) (B := (12 * q)) V4 z4 hl (by omega) A_4 C_4 (fun s5 w5 h5 => ?_))
      show mm_W _ _ _ _ _ _ _ (81, [(0, .ref 10), (1, .int (nI o)), (2, .int (nI p)), (3, .int (nI q))], [], wP pre (wN (PP s5) (QQ s5) op oq tr (nI L.1) w5 0 ob st of F), 0)
      have V5 := h5.1
      have z5 := h5.2.1
      have S5 := gs_s S4 h5 (fun k => by omega)
      have F5 := g_F S4 F4 E4 h5
      have E5 := g_E E4 h5
      have R_5 := r_k R_4 h5 (by omega)
      have A_5 := t_k A_4 h5 (by omega)
      have B_5 := t_k B_4 h5 (by omega)
      have W4_5 := t_k W4_4 h5 (by omega)
      have W5_5 := t_new h5
      refine mm_skip (mm_call_mono _ _) 7 (st' := (90, [(0, .ref 10), (1, .int (nI o)), (2, .int (nI p)), (3, .int (nI q))], [.int (nI o), .int ((12 * (nI o)) + 8), .ref 10], wP pre (wN (PP s5) (QQ s5) op oq tr (nI L.1) w5 0 ob st of F), 0)) rfl ?_
      rw [nI_m12 o]
      rw [nI_p8 ((12 * o))]
      show mm_W _ _ _ _ _ _ _ (90, [(0, .ref 10), (1, .int (nI o)), (2, .int (nI p)), (3, .int (nI q))], [.int (nI o), .int (nI (12 * o + 8)), .ref 10], wP pre (wN (PP s5) (QQ s5) op oq tr (nI L.1) w5 0 ob st of F), 0)
      refine mm_inv (mm_call_mono _ _) (j := 83) (a := [.int (nI o)]) (M := wP pre (wN (PP s5) (QQ s5) op oq tr (nI L.1) w5 0 ob st of F)) (u := 0) rfl (by decide) (rm_xOf (o := o) ?_)
      show mm_W _ _ _ _ _ _ _ (93, [(0, .ref 10), (1, .int (nI o)), (2, .int (nI p)), (3, .int (nI q))], [.int (nI (12 * o)), .int (nI (12 * o + 8)), .ref 10], wP pre (wN (PP s5) (QQ s5) op oq tr (nI L.1) w5 0 ob st of F), 0)
      refine mm_skip (mm_call_mono _ _) 1 (st' := (94, [(0, .ref 10), (1, .int (nI o)), (2, .int (nI p)), (3, .int (nI q))], [.int (nI p), .int (nI (12 * o)), .int (nI (12 * o + 8)), .ref 10], wP pre (wN (PP s5) (QQ s5) op oq tr (nI L.1) w5 0 ob st of F), 0)) rfl ?_
      refine mm_inv (mm_call_mono _ _) (j := 83) (a := [.int (nI p)]) (M := wP pre (wN (PP s5) (QQ s5) op oq tr (nI L.1) w5 0 ob st of F)) (u := 0) rfl (by decide) (rm_xOf (o := p) ?_)
      show mm_W _ _ _ _ _ _ _ (97, [(0, .ref 10), (1, .int (nI o)), (2, .int (nI p)), (3, .int (nI q))], [.int (nI (12 * p)), .int (nI (12 * o)), .int (nI (12 * o + 8)), .ref 10], wP pre (wN (PP s5) (QQ s5) op oq tr (nI L.1) w5 0 ob st of F), 0)
      refine mm_skip (mm_call_mono _ _) 1 (st' := (98, [(0, .ref 10), (1, .int (nI o)), (2, .int (nI p)), (3, .int (nI q))], [.int (nI o), .int (nI (12 * p)), .int (nI (12 * o)), .int (nI (12 * o + 8)), .ref 10], wP pre (wN (PP s5) (QQ s5) op oq tr (nI L.1) w5 0 ob st of F), 0)) rfl ?_
      refine mm_inv (mm_call_mono _ _) (j := 84) (a := [.int (nI o)]) (M := wP pre (wN (PP s5) (QQ s5) op oq tr (nI L.1) w5 0 ob st of F)) (u := 0) rfl (by decide) (rm_yOf (o := o) ?_)
      show mm_W _ _ _ _ _ _ _ (101, [(0, .ref 10), (1, .int (nI o)), (2, .int (nI p)), (3, .int (nI q))], [.int (nI (12 * o + 4)), .int (nI (12 * p)), .int (nI (12 * o)), .int (nI (12 * o + 8)), .ref 10], wP pre (wN (PP s5) (QQ s5) op oq tr (nI L.1) w5 0 ob st of F), 0)
      refine mm_skip (mm_call_mono _ _) 1 (st' := (102, [(0, .ref 10), (1, .int (nI o)), (2, .int (nI p)), (3, .int (nI q))], [.int (nI p), .int (nI (12 * o + 4)), .int (nI (12 * p)), .int (nI (12 * o)), .int (nI (12 * o + 8)), .ref 10], wP pre (wN (PP s5) (QQ s5) op oq tr (nI L.1) w5 0 ob st of F), 0)) rfl ?_
      refine mm_inv (mm_call_mono _ _) (j := 84) (a := [.int (nI p)]) (M := wP pre (wN (PP s5) (QQ s5) op oq tr (nI L.1) w5 0 ob st of F)) (u := 0) rfl (by decide) (rm_yOf (o := p) ?_)
      show mm_W _ _ _ _ _ _ _ (105, [(0, .ref 10), (1, .int (nI o)), (2, .int (nI p)), (3, .int (nI q))], [.int (nI (12 * p + 4)), .int (nI (12 * o + 4)), .int (nI (12 * p)), .int (nI (12 * o)), .int (nI (12 * o + 8)), .ref 10], wP pre (wN (PP s5) (QQ s5) op oq tr (nI L.1) w5 0 ob st of F), 0)
      refine mm_inv (mm_call_mono _ _) (j := 86) (a := [.ref 10, .int (nI (12 * o + 8)), .int (nI (12 * o)), .int (nI (12 * p)), .int (nI (12 * o + 4)), .int (nI (12 * p + 4))]) (M := wP pre (wN (PP s5) (QQ s5) op oq tr (nI L.1) w5 0 ob st of F)) (u := 0) rfl (by decide) (rg_products (D := (12 * o + 8)) (A := (12 * o)) (B := (12 * p)) (C := (12 * o + 4)) (E := (12 * p + 4)) V5 z5 hl (by omega) R_5 W4_5 A_5 W5_5 B_5 (fun s6 w6 h6 => ?_))
      show mm_W _ _ _ _ _ _ _ (108, [(0, .ref 10), (1, .int (nI o)), (2, .int (nI p)), (3, .int (nI q))], [], wP pre (wN (PP s6) (QQ s6) op oq tr (nI L.1) w6 0 ob st of F), 0)
      have V6 := h6.1
      have z6 := h6.2.1
      have S6 := gs_s S5 h6 (fun k => by omega)
      have F6 := g_F S5 F5 E5 h6
      have E6 := g_E E5 h6
      have R_6 := r_k R_5 h6 (by omega)
      have W4_6 := t_k W4_5 h6 (by omega)
      have W5_6 := t_k W5_5 h6 (by omega)
      have W6_6 := t_new h6
      exact mm_ret (mm_call_mono _ _) (c := True) (r := .inl none) (M := wP pre (wN (PP s6) (QQ s6) op oq tr (nI L.1) w6 0 ob st of F)) (u := 0) rfl trivial (by decide) (by have e9 := dr_ofM (L := L) S6 (fun k q => q.elim Or.inl (fun q => Or.inr (Or.inl q))) hl W4_6 W5_6 W6_6 R_6 E6 F6; rw [rLine_eq] at e9; exact hQ _ _ _ e9)
    · skip
      refine mm_skip (mm_call_mono _ _) 2 (st' := (36, [(0, .ref 10), (1, .int (nI o)), (2, .int (nI p)), (3, .int (nI q))], [.int 1, .ref 10], wP pre (wN (PP s) (QQ s) op oq tr (nI L.1) 0 fa ob st of F), 0)) rfl ?_
      refine mm_need (mm_call_mono _ _) (c := mm_z 1) (s' := (39, [(0, .ref 10), (1, .int (nI o)), (2, .int (nI p)), (3, .int (nI q))], [], wP pre (wN (PP s) (QQ s) op oq tr (nI L.1) 0 1 ob st of F), 0)) rfl (by unfold mm_z; decide) ?_
      refine mm_skip (mm_call_mono _ _) 2 (st' := (43, [(0, .ref 10), (1, .int (nI o)), (2, .int (nI p)), (3, .int (nI q))], [.int 1], wP pre (wN (PP s) (QQ s) op oq tr (nI L.1) 0 1 ob st of F), 0)) rfl ?_
      refine mm_branch (mm_call_mono _ _) (c := (1 : Int32) = 0) (s1 := (47, [(0, .ref 10), (1, .int (nI o)), (2, .int (nI p)), (3, .int (nI q))], [], wP pre (wN (PP s) (QQ s) op oq tr (nI L.1) 0 1 ob st of F), 0)) (s2 := (46, [(0, .ref 10), (1, .int (nI o)), (2, .int (nI p)), (3, .int (nI q))], [], wP pre (wN (PP s) (QQ s) op oq tr (nI L.1) 0 1 ob st of F), 0)) rfl (fun h => absurd h (by decide)) (fun _ => ?_)
      exact mm_ret (mm_call_mono _ _) (c := True) (r := .inl none) (M := wP pre (wN (PP s) (QQ s) op oq tr (nI L.1) 0 1 ob st of F)) (u := 0) rfl trivial (by decide) (hQ _ _ _ (dr_fM (L := L) S0 (fun k q => q.elim Or.inl (fun q => Or.inr (Or.inl q))) hl (Or.inr rfl) (Or.inr rfl) (by rw [← rLine_eq]; exact if_pos ⟨(alm_eq A C).mp (bz_1 z1), (alm_eq B D).mp (bz_1 z2)⟩)))

set_option maxRecDepth 100000 in
theorem rk_middle {d : Nat} {pre : mm_pre} {s : Nat → fr} {op oq : Nat → Int64} {tr ob : Int32} {st of : Nat → Int32} {F : mm_M} {L : lvR} {o : Nat} {p q : Nat} {xp yp xq yq : n4} {Q : mm_R → mm_M → Prop} (hV : ∀ k, fv (s k)) (hl : L.1 ≤ 2) (hg : p < o ∧ q < o ∧ o < 24) (R : rdM s 0 L) (Hf : isM s 0 1 299 (fun _ => (1, 2))) (A : tM s 0 L.1 (12 * p) xp) (B : tM s 0 L.1 ((12 * p + 4)) yp) (C : tM s 0 L.1 (12 * q) xq) (D : tM s 0 L.1 ((12 * q + 4)) yq) (G : tM s 0 L.1 ((12 * o + 8)) zz) (hQ : ∀ (s1 : Nat → fr) (w1 fa1 : Int32), drM s L o (mMid L xp yp xq yq) s1 w1 fa1 L → Q (.inl none) (wP pre (wN (PP s1) (QQ s1) op oq tr (nI L.1) w1 fa1 ob st of F))) : mm_call mm_Tb (d + 9) 90 [.ref 10, .int (nI o), .int (nI p), .int (nI q)] (wP pre (wN (PP s) (QQ s) op oq tr (nI L.1) 0 0 ob st of F)) Q := by
  have S0 := ms_0 (wi := 0) (Z := fun k => 300 ≤ k ∨ (12 * o ≤ k ∧ k < 12 * o + 12)) hV (Or.inl rfl)
  have F0 : (0 : Int32) = 1 → (0 : Int32) = 0 → mMid L xp yp xq yq = none := fun h1 h0 => absurd (h1.symm.trans h0) z10
  have E0 : (0 : Int32) = 0 → mMid L xp yp xq yq = Option.bind (xadd L.1 xp xq) _ := fun _ => rfl
  refine mm_in mt_90 (Nat.le_of_ble_eq_true rfl) ?_
  show mm_W _ _ _ _ _ _ _ (0, [(0, .ref 10), (1, .int (nI o)), (2, .int (nI p)), (3, .int (nI q))], [], wP pre (wN (PP s) (QQ s) op oq tr (nI L.1) 0 0 ob st of F), 0)
  refine mm_skip (mm_call_mono _ _) 2 (st' := (2, [(0, .ref 10), (1, .int (nI o)), (2, .int (nI p)), (3, .int (nI q))], [.int 0, .ref 10], wP pre (wN (PP s) (QQ s) op oq tr (nI L.1) 0 0 ob st of F), 0)) rfl ?_
  refine mm_inv (mm_call_mono _ _) (j := 85) (a := [.int 0]) (M := wP pre (wN (PP s) (QQ s) op oq tr (nI L.1) 0 0 ob st of F)) (u := 0) rfl (by decide) (rm_work ?_)
  show mm_W _ _ _ _ _ _ _ (5, [(0, .ref 10), (1, .int (nI o)), (2, .int (nI p)), (3, .int (nI q))], [.int 368, .ref 10], wP pre (wN (PP s) (QQ s) op oq tr (nI L.1) 0 0 ob st of F), 0)
  refine mm_skip (mm_call_mono _ _) 1 (st' := (6, [(0, .ref 10), (1, .int (nI o)), (2, .int (nI p)), (3, .int (nI q))], [.int (nI p), .int 368, .ref 10], wP pre (wN (PP s) (QQ s) op oq tr (nI L.1) 0 0 ob st of F), 0)) rfl ?_
  refine mm_inv (mm_call_mono _ _) (j := 83) (a := [.int (nI p)]) (M := wP pre (wN (PP s) (QQ s) op oq tr (nI L.1) 0 0 ob st of F)) (u := 0) rfl (by decide) (rm_xOf (o := p) ?_)
  show mm_W _ _ _ _ _ _ _ (9, [(0, .ref 10), (1, .int (nI o)), (2, .int (nI p)), (3, .int (nI q))], [.int (nI (12 * p)), .int 368, .ref 10], wP pre (wN (PP s) (QQ s) op oq tr (nI L.1) 0 0 ob st of F), 0)
  refine mm_skip (mm_call_mono _ _) 1 (st' := (10, [(0, .ref 10), (1, .int (nI o)), (2, .int (nI p)), (3, .int (nI q))], [.int (nI q), .int (nI (12 * p)), .int 368, .ref 10], wP pre (wN (PP s) (QQ s) op oq tr (nI L.1) 0 0 ob st of F), 0)) rfl ?_
  refine mm_inv (mm_call_mono _ _) (j := 83) (a := [.int (nI q)]) (M := wP pre (wN (PP s) (QQ s) op oq tr (nI L.1) 0 0 ob st of F)) (u := 0) rfl (by decide) (rm_xOf (o := q) ?_)
  show mm_W _ _ _ _ _ _ _ (13, [(0, .ref 10), (1, .int (nI o)), (2, .int (nI p)), (3, .int (nI q))], [.int (nI (12 * q)), .int (nI (12 * p)), .int 368, .ref 10], wP pre (wN (PP s) (QQ s) op oq tr (nI L.1) 0 0 ob st of F), 0)
  refine mm_skip (mm_call_mono _ _) 1 (st' := (14, [(0, .ref 10), (1, .int (nI o)), (2, .int (nI p)), (3, .int (nI q))], [.int 4, .int (nI (12 * q)), .int (nI (12 * p)), .int 368, .ref 10], wP pre (wN (PP s) (QQ s) op oq tr (nI L.1) 0 0 ob st of F), 0)) rfl ?_
  refine mm_inv (mm_call_mono _ _) (j := 59) (a := [.ref 10, .int 368, .int (nI (12 * p)), .int (nI (12 * q)), .int 4]) (M := wP pre (wN (PP s) (QQ s) op oq tr (nI L.1) 0 0 ob st of F)) (u := 0) rfl (by decide) (rg_add (D := 368) (A := (12 * p)) (B := (12 * q)) hV (Or.inl rfl) hl (by omega) A C (fun s1 w1 h1 => ?_))
  show mm_W _ _ _ _ _ _ _ (17, [(0, .ref 10), (1, .int (nI o)), (2, .int (nI p)), (3, .int (nI q))], [], wP pre (wN (PP s1) (QQ s1) op oq tr (nI L.1) w1 0 ob st of F), 0)
  have V1 := h1.1
  have z1 := h1.2.1
  have S1 := gs_s S0 h1 (fun k => by omega)
  have F1 := g_F S0 F0 E0 h1
  have E1 := g_E E0 h1
  have R_1 := r_k R h1 (by omega)
  have Hf_1 := f_k Hf h1 (by omega)
  have B_1 := t_k B h1 (by omega)
  have D_1 := t_k D h1 (by omega)
  have G_1 := t_k G h1 (by omega)
  have W1_1 := t_new h1
  refine mm_skip (mm_call_mono _ _) 2 (st' := (19, [(0, .ref 10), (1, .int (nI o)), (2, .int (nI p)), (3, .int (nI q))], [.int (nI o), .ref 10], wP pre (wN (PP s1) (QQ s1) op oq tr (nI L.1) w1 0 ob st of F), 0)) rfl ?_
  refine mm_inv (mm_call_mono _ _) (j := 83) (a := [.int (nI o)]) (M := wP pre (wN (PP s1) (QQ s1) op oq tr (nI L.1) w1 0 ob st of F)) (u := 0) rfl (by decide) (rm_xOf (o := o) ?_)
  show mm_W _ _ _ _ _ _ _ (22, [(0, .ref 10), (1, .int (nI o)), (2, .int (nI p)), (3, .int (nI q))], [.int (nI (12 * o)), .ref 10], wP pre (wN (PP s1) (QQ s1) op oq tr (nI L.1) w1 0 ob st of F), 0)
  refine mm_skip (mm_call_mono _ _) 1 (st' := (23, [(0, .ref 10), (1, .int (nI o)), (2, .int (nI p)), (3, .int (nI q))], [.int 0, .int (nI (12 * o)), .ref 10], wP pre (wN (PP s1) (QQ s1) op oq tr (nI L.1) w1 0 ob st of F), 0)) rfl ?_
  refine mm_inv (mm_call_mono _ _) (j := 85) (a := [.int 0]) (M := wP pre (wN (PP s1) (QQ s1) op oq tr (nI L.1) w1 0 ob st of F)) (u := 0) rfl (by decide) (rm_work ?_)
  show mm_W _ _ _ _ _ _ _ (26, [(0, .ref 10), (1, .int (nI o)), (2, .int (nI p)), (3, .int (nI q))], [.int 368, .int (nI (12 * o)), .ref 10], wP pre (wN (PP s1) (QQ s1) op oq tr (nI L.1) w1 0 ob st of F), 0)
  refine mm_skip (mm_call_mono _ _) 1 (st' := (27, [(0, .ref 10), (1, .int (nI o)), (2, .int (nI p)), (3, .int (nI q))], [.int 4, .int 368, .int (nI (12 * o)), .ref 10], wP pre (wN (PP s1) (QQ s1) op oq tr (nI L.1) w1 0 ob st of F), 0)) rfl ?_
  refine mm_inv (mm_call_mono _ _) (j := 62) (a := [.ref 10, .int (nI (12 * o)), .int 368, .int 4]) (M := wP pre (wN (PP s1) (QQ s1) op oq tr (nI L.1) w1 0 ob st of F)) (u := 0) rfl (by decide) (rg_halve (D := (12 * o)) (A := 368) V1 z1 hl (by omega) Hf_1 W1_1 (fun s2 w2 h2 => ?_))
  show mm_W _ _ _ _ _ _ _ (30, [(0, .ref 10), (1, .int (nI o)), (2, .int (nI p)), (3, .int (nI q))], [], wP pre (wN (PP s2) (QQ s2) op oq tr (nI L.1) w2 0 ob st of F), 0)
  have V2 := h2.1
  have z2 := h2.2.1
  have S2 := gs_s S1 h2 (fun k => by omega)
  have F2 := g_F S1 F1 E1 h2
  have E2 := g_E E1 h2
  have R_2 := r_k R_1 h2 (by omega)
  have Hf_2 := f_k Hf_1 h2 (by omega)
  have B_2 := t_k B_1 h2 (by omega)
  have D_2 := t_k D_1 h2 (by omega)
  have G_2 := t_k G_1 h2 (by omega)
  have W2_2 := t_new h2
  refine mm_skip (mm_call_mono _ _) 2 (st' := (32, [(0, .ref 10), (1, .int (nI o)), (2, .int (nI p)), (3, .int (nI q))], [.int 0, .ref 10], wP pre (wN (PP s2) (QQ s2) op oq tr (nI L.1) w2 0 ob st of F), 0)) rfl ?_
  refine mm_inv (mm_call_mono _ _) (j := 85) (a := [.int 0]) (M := wP pre (wN (PP s2) (QQ s2) op oq tr (nI L.1) w2 0 ob st of F)) (u := 0) rfl (by decide) (rm_work ?_)
  show mm_W _ _ _ _ _ _ _ (35, [(0, .ref 10), (1, .int (nI o)), (2, .int (nI p)), (3, .int (nI q))], [.int 368, .ref 10], wP pre (wN (PP s2) (QQ s2) op oq tr (nI L.1) w2 0 ob st of F), 0)
  refine mm_skip (mm_call_mono _ _) 1 (st' := (36, [(0, .ref 10), (1, .int (nI o)), (2, .int (nI p)), (3, .int (nI q))], [.int (nI p), .int 368, .ref 10], wP pre (wN (PP s2) (QQ s2) op oq tr (nI L.1) w2 0 ob st of F), 0)) rfl ?_
  refine mm_inv (mm_call_mono _ _) (j := 84) (a := [.int (nI p)]) (M := wP pre (wN (PP s2) (QQ s2) op oq tr (nI L.1) w2 0 ob st of F)) (u := 0) rfl (by decide) (rm_yOf (o := p) ?_)
  show mm_W _ _ _ _ _ _ _ (39, [(0, .ref 10), (1, .int (nI o)), (2, .int (nI p)), (3, .int (nI q))], [.int (nI (12 * p + 4)), .int 368, .ref 10], wP pre (wN (PP s2) (QQ s2) op oq tr (nI L.1) w2 0 ob st of F), 0)
  refine mm_skip (mm_call_mono _ _) 1 (st' := (40, [(0, .ref 10), (1, .int (nI o)), (2, .int (nI p)), (3, .int (nI q))], [.int (nI q), .int (nI (12 * p + 4)), .int 368, .ref 10], wP pre (wN (PP s2) (QQ s2) op oq tr (nI L.1) w2 0 ob st of F), 0)) rfl ?_
  refine mm_inv (mm_call_mono _ _) (j := 84) (a := [.int (nI q)]) (M := wP pre (wN (PP s2) (QQ s2) op oq tr (nI L.1) w2 0 ob st of F)) (u := 0) rfl (by decide) (rm_yOf (o := q) ?_)
  show mm_W _ _ _ _ _ _ _ (43, [(0, .ref 10), (1, .int (nI o)), (2, .int (nI p)), (3, .int (nI q))], [.int (nI (12 * q + 4)), .int (nI (12 * p + 4)), .int 368, .ref 10], wP pre (wN (PP s2) (QQ s2) op oq tr (nI L.1) w2 0 ob st of F), 0)
  refine mm_skip (mm_call_mono _ _) 1 (st' := (44, [(0, .ref 10), (1, .int (nI o)), (2, .int (nI p)), (3, .int (nI q))], [.int 4, .int (nI (12 * q + 4)), .int (nI (12 * p + 4)), .int 368, .ref 10], wP pre (wN (PP s2) (QQ s2) op oq tr (nI L.1) w2 0 ob st of F), 0)) rfl ?_
  refine mm_inv (mm_call_mono _ _) (j := 59) (a := [.ref 10, .int 368, .int (nI (12 * p + 4)), .int (nI (12 * q + 4)), .int 4]) (M := wP pre (wN (PP s2) (QQ s2) op oq tr (nI L.1) w2 0 ob st of F)) (u := 0) rfl (by decide) (rg_add (D := 368) (A := (12 * p + 4)) (B := (12 * q + 4)) V2 z2 hl (by omega) B_2 D_2 (fun s3 w3 h3 => ?_))
  show mm_W _ _ _ _ _ _ _ (47, [(0, .ref 10), (1, .int (nI o)), (2, .int (nI p)), (3, .int (nI q))], [], wP pre (wN (PP s3) (QQ s3) op oq tr (nI L.1) w3 0 ob st of F), 0)
  have V3 := h3.1
  have z3 := h3.2.1
  have S3 := gs_s S2 h3 (fun k => by omega)
  have F3 := g_F S2 F2 E2 h3
  have E3 := g_E E2 h3
  have R_3 := r_k R_2 h3 (by omega)
  have Hf_3 := f_k Hf_2 h3 (by omega)
  have G_3 := t_k G_2 h3 (by omega)
  have W2_3 := t_k W2_2 h3 (by omega)
  have W3_3 := t_new h3
  refine mm_skip (mm_call_mono _ _) 2 (st' := (49, [(0, .ref 10), (1, .int (nI o)), (2, .int (nI p)), (3, .int (nI q))], [.int (nI o), .ref 10], wP pre (wN (PP s3) (QQ s3) op oq tr (nI L.1) w3 0 ob st of F), 0)) rfl ?_
  refine mm_inv (mm_call_mono _ _) (j := 84) (a := [.int (nI o)]) (M := wP pre (wN (PP s3) (QQ s3) op oq tr (nI L.1) w3 0 ob st of F)) (u := 0) rfl (by decide) (rm_yOf (o := o) ?_)
  show mm_W _ _ _ _ _ _ _ (52, [(0, .ref 10), (1, .int (nI o)), (2, .int (nI p)), (3, .int (nI q))], [.int (nI (12 * o + 4)), .ref 10], wP pre (wN (PP s3) (QQ s3) op oq tr (nI L.1) w3 0 ob st of F), 0)
  refine mm_skip (mm_call_mono _ _) 1 (st' := (53, [(0, .ref 10), (1, .int (nI o)), (2, .int (nI p)), (3, .int (nI q))], [.int 0, .int (nI (12 * o + 4)), .ref 10], wP pre (wN (PP s3) (QQ s3) op oq tr (nI L.1) w3 0 ob st of F), 0)) rfl ?_
  refine mm_inv (mm_call_mono _ _) (j := 85) (a := [.int 0]) (M := wP pre (wN (PP s3) (QQ s3) op oq tr (nI L.1) w3 0 ob st of F)) (u := 0) rfl (by decide) (rm_work ?_)
  show mm_W _ _ _ _ _ _ _ (56, [(0, .ref 10), (1, .int (nI o)), (2, .int (nI p)), (3, .int (nI q))], [.int 368, .int (nI (12 * o + 4)), .ref 10], wP pre (wN (PP s3) (QQ s3) op oq tr (nI L.1) w3 0 ob st of F), 0)
  refine mm_skip (mm_call_mono _ _) 1 (st' := (57, [(0, .ref 10), (1, .int (nI o)), (2, .int (nI p)), (3, .int (nI q))], [.int 4, .int 368, .int (nI (12 * o + 4)), .ref 10], wP pre (wN (PP s3) (QQ s3) op oq tr (nI L.1) w3 0 ob st of F), 0)) rfl ?_
  refine mm_inv (mm_call_mono _ _) (j := 62) (a := [.ref 10, .int (nI (12 * o + 4)), .int 368, .int 4]) (M := wP pre (wN (PP s3) (QQ s3) op oq tr (nI L.1) w3 0 ob st of F)) (u := 0) rfl (by decide) (rg_halve (D := (12 * o + 4)) (A := 368) V3 z3 hl (by omega) Hf_3 W3_3 (fun s4 w4 h4 => ?_))
  show mm_W _ _ _ _ _ _ _ (60, [(0, .ref 10), (1, .int (nI o)), (2, .int (nI p)), (3, .int (nI q))], [], wP pre (wN (PP s4) (QQ s4) op oq tr (nI L.1) w4 0 ob st of F), 0)
  have V4 := h4.1
  have z4 := h4.2.1
  have S4 := gs_s S3 h4 (fun k => by omega)
  have F4 := g_F S3 F3 E3 h4
  have E4 := g_E E3 h4
  have R_4 := r_k R_3 h4 (by omega)
  have Hf_4 := f_k Hf_3 h4 (by omega)
  have G_4 := t_k G_3 h4 (by omega)
  have W2_4 := t_k W2_3 h4 (by omega)
  have W4_4 := t_new h4
  exact mm_ret (mm_call_mono _ _) (c := True) (r := .inl none) (M := wP pre (wN (PP s4) (QQ s4) op oq tr (nI L.1) w4 0 ob st of F)) (u := 0) rfl trivial (by decide) (hQ _ _ _ (dr_ofM (L := L) S4 (fun k q => q.elim Or.inl (fun q => Or.inr (Or.inl q))) hl W2_4 W4_4 G_4 R_4 E4 F4))

set_option maxRecDepth 100000 in
theorem rk_meet {d : Nat} {pre : mm_pre} {s : Nat → fr} {op oq : Nat → Int64} {tr fa ob : Int32} {st of : Nat → Int32} {F : mm_M} {L : lvR} {o : Nat} {p q : Nat} {a1 b1 c1 a2 b2 c2 : n4} {Q : mm_R → mm_M → Prop} (hV : ∀ k, fv (s k)) (hl : L.1 ≤ 2) (hg : p < o ∧ q < o ∧ o < 24) (R : rdM s 0 L) (A : tM s 0 L.1 (12 * p) a1) (B : tM s 0 L.1 ((12 * p + 4)) b1) (C : tM s 0 L.1 ((12 * p + 8)) c1) (D : tM s 0 L.1 (12 * q) a2) (G : tM s 0 L.1 ((12 * q + 4)) b2) (H : tM s 0 L.1 ((12 * q + 8)) c2) (I : tM s 0 L.1 ((12 * o + 8)) zz) (hQ : ∀ (s1 : Nat → fr) (w1 fa1 : Int32), drM s L o (mMeet L a1 b1 c1 a2 b2 c2) s1 w1 fa1 L → Q (.inl none) (wP pre (wN (PP s1) (QQ s1) op oq tr (nI L.1) w1 fa1 ob st of F))) : mm_call mm_Tb (d + 9) 91 [.ref 10, .int (nI o), .int (nI p), .int (nI q)] (wP pre (wN (PP s) (QQ s) op oq tr (nI L.1) 0 fa ob st of F)) Q := by
  have S0 := ms_0 (wi := 0) (Z := fun k => 300 ≤ k ∨ (12 * o ≤ k ∧ k < 12 * o + 12)) hV (Or.inl rfl)
  have F0 : (0 : Int32) = 1 → (0 : Int32) = 0 → rMeet L a1 b1 c1 a2 b2 c2 = none := fun h1 h0 => absurd (h1.symm.trans h0) z10
  have E0 : (0 : Int32) = 0 → rMeet L a1 b1 c1 a2 b2 c2 = Option.bind (xcr L a1 b2 a2 b1) _ := fun _ => rfl
  refine mm_in mt_91 (Nat.le_of_ble_eq_true rfl) ?_
  show mm_W _ _ _ _ _ _ _ (0, [(0, .ref 10), (1, .int (nI o)), (2, .int (nI p)), (3, .int (nI q))], [], wP pre (wN (PP s) (QQ s) op oq tr (nI L.1) 0 fa ob st of F), 0)
  refine mm_skip (mm_call_mono _ _) 2 (st' := (2, [(0, .ref 10), (1, .int (nI o)), (2, .int (nI p)), (3, .int (nI q))], [.int 0, .ref 10], wP pre (wN (PP s) (QQ s) op oq tr (nI L.1) 0 fa ob st of F), 0)) rfl ?_
  refine mm_inv (mm_call_mono _ _) (j := 85) (a := [.int 0]) (M := wP pre (wN (PP s) (QQ s) op oq tr (nI L.1) 0 fa ob st of F)) (u := 0) rfl (by decide) (rm_work ?_)
  show mm_W _ _ _ _ _ _ _ (5, [(0, .ref 10), (1, .int (nI o)), (2, .int (nI p)), (3, .int (nI q))], [.int 368, .ref 10], wP pre (wN (PP s) (QQ s) op oq tr (nI L.1) 0 fa ob st of F), 0)
  refine mm_skip (mm_call_mono _ _) 1 (st' := (6, [(0, .ref 10), (1, .int (nI o)), (2, .int (nI p)), (3, .int (nI q))], [.int (nI p), .int 368, .ref 10], wP pre (wN (PP s) (QQ s) op oq tr (nI L.1) 0 fa ob st of F), 0)) rfl ?_
  refine mm_inv (mm_call_mono _ _) (j := 83) (a := [.int (nI p)]) (M := wP pre (wN (PP s) (QQ s) op oq tr (nI L.1) 0 fa ob st of F)) (u := 0) rfl (by decide) (rm_xOf (o := p) ?_)
  show mm_W _ _ _ _ _ _ _ (9, [(0, .ref 10), (1, .int (nI o)), (2, .int (nI p)), (3, .int (nI q))], [.int (nI (12 * p)), .int 368, .ref 10], wP pre (wN (PP s) (QQ s) op oq tr (nI L.1) 0 fa ob st of F), 0)
  refine mm_skip (mm_call_mono _ _) 1 (st' := (10, [(0, .ref 10), (1, .int (nI o)), (2, .int (nI p)), (3, .int (nI q))], [.int (nI q), .int (nI (12 * p)), .int 368, .ref 10], wP pre (wN (PP s) (QQ s) op oq tr (nI L.1) 0 fa ob st of F), 0)) rfl ?_
  refine mm_inv (mm_call_mono _ _) (j := 84) (a := [.int (nI q)]) (M := wP pre (wN (PP s) (QQ s) op oq tr (nI L.1) 0 fa ob st of F)) (u := 0) rfl (by decide) (rm_yOf (o := q) ?_)
  show mm_W _ _ _ _ _ _ _ (13, [(0, .ref 10), (1, .int (nI o)), (2, .int (nI p)), (3, .int (nI q))], [.int (nI (12 * q + 4)), .int (nI (12 * p)), .int 368, .ref 10], wP pre (wN (PP s) (QQ s) op oq tr (nI L.1) 0 fa ob st of F), 0)
  refine mm_skip (mm_call_mono _ _) 1 (st' := (14, [(0, .ref 10), (1, .int (nI o)), (2, .int (nI p)), (3, .int (nI q))], [.int (nI q), .int (nI (12 * q + 4)), .int (nI (12 * p)), .int 368, .ref 10], wP pre (wN (PP s) (QQ s) op oq tr (nI L.1) 0 fa ob st of F), 0)) rfl ?_
  refine mm_inv (mm_call_mono _ _) (j := 83) (a := [.int (nI q)]) (M := wP pre (wN (PP s) (QQ s) op oq tr (nI L.1) 0 fa ob st of F)) (u := 0) rfl (by decide) (rm_xOf (o := q) ?_)
  show mm_W _ _ _ _ _ _ _ (17, [(0, .ref 10), (1, .int (nI o)), (2, .int (nI p)), (3, .int (nI q))], [.int (nI (12 * q)), .int (nI (12 * q + 4)), .int (nI (12 * p)), .int 368, .ref 10], wP pre (wN (PP s) (QQ s) op oq tr (nI L.1) 0 fa ob st of F), 0)
  refine mm_skip (mm_call_mono _ _) 1 (st' := (18, [(0, .ref 10), (1, .int (nI o)), (2, .int (nI p)), (3, .int (nI q))], [.int (nI p), .int (nI (12 * q)), .int (nI (12 * q + 4)), .int (nI (12 * p)), .int 368, .ref 10], wP pre (wN (PP s) (QQ s) op oq tr (nI L.1) 0 fa ob st of F), 0)) rfl ?_
  refine mm_inv (mm_call_mono _ _) (j := 84) (a := [.int (nI p)]) (M := wP pre (wN (PP s) (QQ s) op oq tr (nI L.1) 0 fa ob st of F)) (u := 0) rfl (by decide) (rm_yOf (o := p) ?_)
  show mm_W _ _ _ _ _ _ _ (21, [(0, .ref 10), (1, .int (nI o)), (2, .int (nI p)), (3, .int (nI q))], [.int (nI (12 * p + 4)), .int (nI (12 * q)), .int (nI (12 * q + 4)), .int (nI (12 * p)), .int 368, .ref 10], wP pre (wN (PP s) (QQ s) op oq tr (nI L.1) 0 fa ob st of F), 0)
  refine mm_inv (mm_call_mono _ _) (j := 87) (a := [.ref 10, .int 368, .int (nI (12 * p)), .int (nI (12 * q + 4)), .int (nI (12 * q)), .int (nI (12 * p + 4))]) (M := wP pre (wN (PP s) (QQ s) op oq tr (nI L.1) 0 fa ob st of F)) (u := 0) rfl (by decide) (rg_cross (D := 368) (A := (12 * p)) (B := (12 * q + 4)) (C := (12 * q)) (E := (12 * p + 4)) hV (Or.inl rfl) hl (by omega) R A G D B (fun s1 w1 h1 => ?_))
  show mm_W _ _ _ _ _ _ _ (24, [(0, .ref 10), (1, .int (nI o)), (2, .int (nI p)), (3, .int (nI q))], [], wP pre (wN (PP s1) (QQ s1) op oq tr (nI L.1) w1 fa ob st of F), 0)
  have V1 := h1.1
  have z1 := h1.2.1
  have S1 := gs_s S0 h1 (fun k => by omega)
  have F1 := g_F S0 F0 E0 h1
  have E1 := g_E E0 h1
  have R_1 := r_k R h1 (by omega)
  have A_1 := t_k A h1 (by omega)
  have B_1 := t_k B h1 (by omega)
  have C_1 := t_k C h1 (by omega)
  have D_1 := t_k D h1 (by omega)
  have G_1 := t_k G h1 (by omega)
  have H_1 := t_k H h1 (by omega)
  have I_1 := t_k I h1 (by omega)
  have W1_1 := t_new h1
  refine mm_skip (mm_call_mono _ _) 3 (st' := (27, [(0, .ref 10), (1, .int (nI o)), (2, .int (nI p)), (3, .int (nI q))], [.int 0, .ref 10, .ref 10], wP pre (wN (PP s1) (QQ s1) op oq tr (nI L.1) w1 fa ob st of F), 0)) rfl ?_
  refine mm_inv (mm_call_mono _ _) (j := 85) (a := [.int 0]) (M := wP pre (wN (PP s1) (QQ s1) op oq tr (nI L.1) w1 fa ob st of F)) (u := 0) rfl (by decide) (rm_work ?_)
  show mm_W _ _ _ _ _ _ _ (30, [(0, .ref 10), (1, .int (nI o)), (2, .int (nI p)), (3, .int (nI q))], [.int 368, .ref 10, .ref 10], wP pre (wN (PP s1) (QQ s1) op oq tr (nI L.1) w1 fa ob st of F), 0)
  refine mm_skip (mm_call_mono _ _) 1 (st' := (31, [(0, .ref 10), (1, .int (nI o)), (2, .int (nI p)), (3, .int (nI q))], [.int 4, .int 368, .ref 10, .ref 10], wP pre (wN (PP s1) (QQ s1) op oq tr (nI L.1) w1 fa ob st of F), 0)) rfl ?_
  refine mm_inv (mm_call_mono _ _) (j := 63) (a := [.ref 10, .int 368, .int 4]) (M := wP pre (wN (PP s1) (QQ s1) op oq tr (nI L.1) w1 fa ob st of F)) (u := 0) rfl (by decide) (rm_isZero_4 (A := 368) V1 (by omega) ?_)
  show mm_W _ _ _ _ _ _ _ (34, [(0, .ref 10), (1, .int (nI o)), (2, .int (nI p)), (3, .int (nI q))], [.int (bz (iszm 4 s1 (368))), .ref 10], wP pre (wN (PP s1) (QQ s1) op oq tr (nI L.1) w1 fa ob st of F), 0)
  refine mm_need (mm_call_mono _ _) (c := mm_z (bz (iszm 4 s1 (368)))) (s' := (37, [(0, .ref 10), (1, .int (nI o)), (2, .int (nI p)), (3, .int (nI q))], [], wP pre (wN (PP s1) (QQ s1) op oq tr (nI L.1) w1 (bz (iszm 4 s1 (368))) ob st of F), 0)) rfl (bz_z _) ?_
  refine mm_skip (mm_call_mono _ _) 2 (st' := (41, [(0, .ref 10), (1, .int (nI o)), (2, .int (nI p)), (3, .int (nI q))], [.int (bz (iszm 4 s1 (368)))], wP pre (wN (PP s1) (QQ s1) op oq tr (nI L.1) w1 (bz (iszm 4 s1 (368))) ob st of F), 0)) rfl ?_
  refine mm_branch (mm_call_mono _ _) (c := (bz (iszm 4 s1 (368))) = 0) (s1 := (44, [(0, .ref 10), (1, .int (nI o)), (2, .int (nI p)), (3, .int (nI q))], [], wP pre (wN (PP s1) (QQ s1) op oq tr (nI L.1) w1 (bz (iszm 4 s1 (368))) ob st of F), 0)) (s2 := (51, [(0, .ref 10), (1, .int (nI o)), (2, .int (nI p)), (3, .int (nI q))], [], wP pre (wN (PP s1) (QQ s1) op oq tr (nI L.1) w1 (bz (iszm 4 s1 (368))) ob st of F), 0)) rfl (fun g1 => ?_) (fun g1 => ?_)
  · skip
    refine mm_skip (mm_call_mono _ _) 2 (st' := (48, [(0, .ref 10), (1, .int (nI o)), (2, .int (nI p)), (3, .int (nI q))], [.int w1], wP pre (wN (PP s1) (QQ s1) op oq tr (nI L.1) w1 (bz (iszm 4 s1 (368))) ob st of F), 0)) rfl ?_
    refine mm_branch (mm_call_mono _ _) (c := w1 = 0) (s1 := (52, [(0, .ref 10), (1, .int (nI o)), (2, .int (nI p)), (3, .int (nI q))], [], wP pre (wN (PP s1) (QQ s1) op oq tr (nI L.1) w1 (bz (iszm 4 s1 (368))) ob st of F), 0)) (s2 := (51, [(0, .ref 10), (1, .int (nI o)), (2, .int (nI p)), (3, .int (nI q))], [], wP pre (wN (PP s1) (QQ s1) op oq tr (nI L.1) w1 (bz (iszm 4 s1 (368))) ob st of F), 0)) rfl (fun g2 => ?_) (fun g2 => ?_)
    · skip
      refine mm_skip (mm_call_mono _ _) 2 (st' := (54, [(0, .ref 10), (1, .int (nI o)), (2, .int (nI p)), (3, .int (nI q))], [.int 1, .ref 10], wP pre (wN (PP s1) (QQ s1) op oq tr (nI L.1) w1 (bz (iszm 4 s1 (368))) ob st of F), 0)) rfl ?_
      refine mm_inv (mm_call_mono _ _) (j := 85) (a := [.int 1]) (M := wP pre (wN (PP s1) (QQ s1) op oq tr (nI L.1) w1 (bz (iszm 4 s1 (368))) ob st of F)) (u := 0) rfl (by decide) (rm_work ?_)
      show mm_W _ _ _ _ _ _ _ (57, [(0, .ref 10), (1, .int (nI o)), (2, .int (nI p)), (3, .int (nI q))], [.int 372, .ref 10], wP pre (wN (PP s1) (QQ s1) op oq tr (nI L.1) w1 (bz (iszm 4 s1 (368))) ob st of F), 0)
      refine mm_skip (mm_call_mono _ _) 1 (st' := (58, [(0, .ref 10), (1, .int (nI o)), (2, .int (nI p)), (3, .int (nI q))], [.int 0, .int 372, .ref 10], wP pre (wN (PP s1) (QQ s1) op oq tr (nI L.1) w1 (bz (iszm 4 s1 (368))) ob st of F), 0)) rfl ?_
      refine mm_inv (mm_call_mono _ _) (j := 85) (a := [.int 0]) (M := wP pre (wN (PP s1) (QQ s1) op oq tr (nI L.1) w1 (bz (iszm 4 s1 (368))) ob st of F)) (u := 0) rfl (by decide) (rm_work ?_)
      show mm_W _ _ _ _ _ _ _ (61, [(0, .ref 10), (1, .int (nI o)), (2, .int (nI p)), (3, .int (nI q))], [.int 368, .int 372, .ref 10], wP pre (wN (PP s1) (QQ s1) op oq tr (nI L.1) w1 (bz (iszm 4 s1 (368))) ob st of F), 0)
      refine mm_inv (mm_call_mono _ _) (j := 79) (a := [.ref 10, .int 372, .int 368]) (M := wP pre (wN (PP s1) (QQ s1) op oq tr (nI L.1) w1 (bz (iszm 4 s1 (368))) ob st of F)) (u := 0) rfl (by decide) (rg_inv (D := 372) (A := 368) V1 z1 hl (by omega) R_1 W1_1 (fun s2 w2 h2 => ?_))
      show mm_W _ _ _ _ _ _ _ (64, [(0, .ref 10), (1, .int (nI o)), (2, .int (nI p)), (3, .int (nI q))], [], wP pre (wN (PP s2) (QQ s2) op oq tr (nI L.1) w2 (bz (iszm 4 s1 (368))) ob st of F), 0)
      have V2 := h2.1
      have z2 := h2.2.1
      have S2 := gs_s S1 h2 (fun k => by omega)
      have F2 := g_F S1 F1 E1 h2
      have E2 := g_E E1 h2
      have R_2 := r_k R_1 h2 (by omega)
      have A_2 := t_k A_1 h2 (by omega)
      have B_2 := t_k B_1 h2 (by omega)
      have C_2 := t_k C_1 h2 (by omega)
      have D_2 := t_k D_1 h2 (by omega)
      have G_2 := t_k G_1 h2 (by omega)
      have H_2 := t_k H_1 h2 (by omega)
      have I_2 := t_k I_1 h2 (by omega)
      have W2_2 := t_new h2
      refine mm_skip (mm_call_mono _ _) 2 (st' := (66, [(0, .ref 10), (1, .int (nI o)), (2, .int (nI p)), (3, .int (nI q))], [.int 2, .ref 10], wP pre (wN (PP s2) (QQ s2) op oq tr (nI L.1) w2 (bz (iszm 4 s1 (368))) ob st of F), 0)) rfl ?_
      refine mm_inv (mm_call_mono _ _) (j := 85) (a := [.int 2]) (M := wP pre (wN (PP s2) (QQ s2) op oq tr (nI L.1) w2 (bz (iszm 4 s1 (368))) ob st of F)) (u := 0) rfl (by decide) (rm_work ?_)
      show mm_W _ _ _ _ _ _ _ (69, [(0, .ref 10), (1, .int (nI o)), (2, .int (nI p)), (3, .int (nI q))], [.int 376, .ref 10], wP pre (wN (PP s2) (QQ s2) op oq tr (nI L.1) w2 (bz (iszm 4 s1 (368))) ob st of F), 0)
      refine mm_skip (mm_call_mono _ _) 6 (st' := (77, [(0, .ref 10), (1, .int (nI o)), (2, .int (nI p)), (3, .int (nI q))], [.int (nI q), .int ((12 * (nI p)) + 8), .int 376, .ref 10], wP pre (wN (PP s2) (QQ s2) op oq tr (nI L.1) w2 (bz (iszm 4 s1 (368))) ob st of F), 0)) rfl ?_
      rw [nI_m12 p]
      rw [nI_p8 ((12 * p))]
      show mm_W _ _ _ _ _ _ _ (77, [(0, .ref 10), (1, .int (nI o)), (2, .int (nI p)), (3, .int (nI q))], [.int (nI q), .int (nI (12 * p + 8)), .int 376, .ref 10], wP pre (wN (PP s2) (QQ s2) op oq tr (nI L.1) w2 (bz (iszm 4 s1 (368))) ob st of F), 0)
      refine mm_inv (mm_call_mono _ _) (j := 84) (a := [.int (nI q)]) (M := wP pre (wN (PP s2) (QQ s2) op oq tr (nI L.1) w2 (bz (iszm 4 s1 (368))) ob st of F)) (u := 0) rfl (by decide) (rm_yOf (o := q) ?_)
      show mm_W _ _ _ _ _ _ _ (80, [(0, .ref 10), (1, .int (nI o)), (2, .int (nI p)), (3, .int (nI q))], [.int (nI (12 * q + 4)), .int (nI (12 * p + 8)), .int 376, .ref 10], wP pre (wN (PP s2) (QQ s2) op oq tr (nI L.1) w2 (bz (iszm 4 s1 (368))) ob st of F), 0)
      refine mm_skip (mm_call_mono _ _) 6 (st' := (88, [(0, .ref 10), (1, .int (nI o)), (2, .int (nI p)), (3, .int (nI q))], [.int (nI p), .int ((12 * (nI q)) + 8), .int (nI (12 * q + 4)), .int (nI (12 * p + 8)), .int 376, .ref 10], wP pre (wN (PP s2) (QQ s2) op oq tr (nI L.1) w2 (bz (iszm 4 s1 (368))) ob st of F), 0)) rfl ?_
      rw [nI_m12 q]
      rw [nI_p8 ((12 * q))]
      show mm_W _ _ _ _ _ _ _ (88, [(0, .ref 10), (1, .int (nI o)), (2, .int (nI p)), (3, .int (nI q))], [.int (nI p), .int (nI (12 * q + 8)), .int (nI (12 * q + 4)), .int (nI (12 * p + 8)), .int 376, .ref 10], wP pre (wN (PP s2) (QQ s2) op oq tr (nI L.1) w2 (bz (iszm 4 s1 (368))) ob st of F), 0)
      refine mm_inv (mm_call_mono _ _) (j := 84) (a := [.int (nI p)]) (M := wP pre (wN (PP s2) (QQ s2) op oq tr (nI L.1) w2 (bz (iszm 4 s1 (368))) ob st of F)) (u := 0) rfl (by decide) (rm_yOf (o := p) ?_)
      show mm_W _ _ _ _ _ _ _ (91, [(0, .ref 10), (1, .int (nI o)), (2, .int (nI p)), (3, .int (nI q))], [.int (nI (12 * p + 4)), .int (nI (12 * q + 8)), .int (nI (12 * q + 4)), .int (nI (12 * p + 8)), .int 376, .ref 10], wP pre (wN (PP s2) (QQ s2) op oq tr (nI L.1) w2 (bz (iszm 4 s1 (368))) ob st of F), 0)
      refine mm_inv (mm_call_mono _ _) (j := 87) (a := [.ref 10, .int 376, .int (nI (12 * p + 8)), .int (nI (12 * q + 4)), .int (nI (12 * q + 8)), .int (nI (12 * p + 4))]) (M := wP pre (wN (PP s2) (QQ s2) op oq tr (nI L.1) w2 (bz (iszm 4 s1 (368))) ob st of F)) (u := 0) rfl (by decide) (rg_cross (D := 376) (A := (12 * p + 8)) (B := (12 * q + 4)) (C := (12 * q + 8)) (E := (12 * p + 4)) V2 z2 hl (by omega) R_2 C_2 G_2 H_2 B_2 (fun s3 w3 h3 => ?_))
      show mm_W _ _ _ _ _ _ _ (94, [(0, .ref 10), (1, .int (nI o)), (2, .int (nI p)), (3, .int (nI q))], [], wP pre (wN (PP s3) (QQ s3) op oq tr (nI L.1) w3 (bz (iszm 4 s1 (368))) ob st of F), 0)
      have V3 := h3.1
      have z3 := h3.2.1
      have S3 := gs_s S2 h3 (fun k => by omega)
      have F3 := g_F S2 F2 E2 h3
      have E3 := g_E E2 h3
      have R_3 := r_k R_2 h3 (by omega)
      have A_3 := t_k A_2 h3 (by omega)
      have C_3 := t_k C_2 h3 (by omega)
      have D_3 := t_k D_2 h3 (by omega)
      have H_3 := t_k H_2 h3 (by omega)
      have I_3 := t_k I_2 h3 (by omega)
      have W2_3 := t_k W2_2 h3 (by omega)
      have W3_3 := t_new h3
      refine mm_skip (mm_call_mono _ _) 2 (st' := (96, [(0, .ref 10), (1, .int (nI o)), (2, .int (nI p)), (3, .int (nI q))], [.int (nI o), .ref 10], wP pre (wN (PP s3) (QQ s3) op oq tr (nI L.1) w3 (bz (iszm 4 s1 (368))) ob st of F), 0)) rfl ?_
      refine mm_inv (mm_call_mono _ _) (j := 83) (a := [.int (nI o)]) (M := wP pre (wN (PP s3) (QQ s3) op oq tr (nI L.1) w3 (bz (iszm 4 s1 (368))) ob st of F)) (u := 0) rfl (by decide) (rm_xOf (o := o) ?_)
      show mm_W _ _ _ _ _ _ _ (99, [(0, .ref 10), (1, .int (nI o)), (2, .int (nI p)), (3, .int (nI q))], [.int (nI (12 * o)), .ref 10], wP pre (wN (PP s3) (QQ s3) op oq tr (nI L.1) w3 (bz (iszm 4 s1 (368))) ob st of F), 0)
      refine mm_skip (mm_call_mono _ _) 1 (st' := (100, [(0, .ref 10), (1, .int (nI o)), (2, .int (nI p)), (3, .int (nI q))], [.int 2, .int (nI (12 * o)), .ref 10], wP pre (wN (PP s3) (QQ s3) op oq tr (nI L.1) w3 (bz (iszm 4 s1 (368))) ob st of F), 0)) rfl ?_
      refine mm_inv (mm_call_mono _ _) (j := 85) (a := [.int 2]) (M := wP pre (wN (PP s3) (QQ s3) op oq tr (nI L.1) w3 (bz (iszm 4 s1 (368))) ob st of F)) (u := 0) rfl (by decide) (rm_work ?_)
      show mm_W _ _ _ _ _ _ _ (103, [(0, .ref 10), (1, .int (nI o)), (2, .int (nI p)), (3, .int (nI q))], [.int 376, .int (nI (12 * o)), .ref 10], wP pre (wN (PP s3) (QQ s3) op oq tr (nI L.1) w3 (bz (iszm 4 s1 (368))) ob st of F), 0)
      refine mm_skip (mm_call_mono _ _) 1 (st' := (104, [(0, .ref 10), (1, .int (nI o)), (2, .int (nI p)), (3, .int (nI q))], [.int 1, .int 376, .int (nI (12 * o)), .ref 10], wP pre (wN (PP s3) (QQ s3) op oq tr (nI L.1) w3 (bz (iszm 4 s1 (368))) ob st of F), 0)) rfl ?_
      refine mm_inv (mm_call_mono _ _) (j := 85) (a := [.int 1]) (M := wP pre (wN (PP s3) (QQ s3) op oq tr (nI L.1) w3 (bz (iszm 4 s1 (368))) ob st of F)) (u := 0) rfl (by decide) (rm_work ?_)
      show mm_W _ _ _ _ _ _ _ (107, [(0, .ref 10), (1, .int (nI o)), (2, .int (nI p)), (3, .int (nI q))], [.int 372, .int 376, .int (nI (12 * o)), .ref 10], wP pre (wN (PP s3) (QQ s3) op oq tr (nI L.1) w3 (bz (iszm 4 s1 (368))) ob st of F), 0)
      refine mm_inv (mm_call_mono _ _) (j := 78) (a := [.ref 10, .int (nI (12 * o)), .int 376, .int 372]) (M := wP pre (wN (PP s3) (QQ s3) op oq tr (nI L.1) w3 (bz (iszm 4 s1 (368))) ob st of F)) (u := 0) rfl (by decide) (rg_mul (D := (12 * o)) (A := 376) (B := 372) V3 z3 hl (by omega) R_3 W3_3 W2_3 (fun s4 w4 h4 => ?_))
      show mm_W _ _ _ _ _ _ _ (110, [(0, .ref 10), (1, .int (nI o)), (2, .int (nI p)), (3, .int (nI q))], [], wP pre (wN (PP s4) (QQ s4) op oq tr (nI L.1) w4 (bz (iszm 4 s1 (368))) ob st of F), 0)
      have V4 := h4.1
      have z4 := h4.2.1
      have S4 := gs_s S3 h4 (fun k => by omega)
      have F4 := g_F S3 F3 E3 h4
      have E4 := g_E E3 h4
      have R_4 := r_k R_3 h4 (by omega)
      have A_4 := t_k A_3 h4 (by omega)
      have C_4 := t_k C_3 h4 (by omega)
      have D_4 := t_k D_3 h4 (by omega)
      have H_4 := t_k H_3 h4 (by omega)
      have I_4 := t_k I_3 h4 (by omega)
      have W2_4 := t_k W2_3 h4 (by omega)
      have W4_4 := t_new h4
      refine mm_skip (mm_call_mono _ _) 2 (st' := (112, [(0, .ref 10), (1, .int (nI o)), (2, .int (nI p)), (3, .int (nI q))], [.int 2, .ref 10], wP pre (wN (PP s4) (QQ s4) op oq tr (nI L.1) w4 (bz (iszm 4 s1 (368))) ob st of F), 0)) rfl ?_
      refine mm_inv (mm_call_mono _ _) (j := 85) (a := [.int 2]) (M := wP pre (wN (PP s4) (QQ s4) op oq tr (nI L.1) w4 (bz (iszm 4 s1 (368))) ob st of F)) (u := 0) rfl (by decide) (rm_work ?_)
      show mm_W _ _ _ _ _ _ _ (115, [(0, .ref 10), (1, .int (nI o)), (2, .int (nI p)), (3, .int (nI q))], [.int 376, .ref 10], wP pre (wN (PP s4) (QQ s4) op oq tr (nI L.1) w4 (bz (iszm 4 s1 (368))) ob st of F), 0)
      refine mm_skip (mm_call_mono _ _) 1 (st' := (116, [(0, .ref 10), (1, .int (nI o)), (2, .int (nI p)), (3, .int (nI q))], [.int (nI p), .int 376, .ref 10], wP pre (wN (PP s4) (QQ s4) op oq tr (nI L.1) w4 (bz (iszm 4 s1 (368))) ob st of F), 0)) rfl ?_
      refine mm_inv (mm_call_mono _ _) (j := 83) (a := [.int (nI p)]) (M := wP pre (wN (PP s4) (QQ s4) op oq tr (nI L.1) w4 (bz (iszm 4 s1 (368))) ob st of F)) (u := 0) rfl (by decide) (rm_xOf (o := p) ?_)
      show mm_W _ _ _ _ _ _ _ (119, [(0, .ref 10), (1, .int (nI o)), (2, .int (nI p)), (3, .int (nI q))], [.int (nI (12 * p)), .int 376, .ref 10], wP pre (wN (PP s4) (QQ s4) op oq tr (nI L.1) w4 (bz (iszm 4 s1 (368))) ob st of F), 0)
      refine mm_skip (mm_call_mono _ _) 6 (st' := (127, [(0, .ref 10), (1, .int (nI o)), (2, .int (nI p)), (3, .int (nI q))], [.int (nI q), .int ((12 * (nI q)) + 8), .int (nI (12 * p)), .int 376, .ref 10], wP pre (wN (PP s4) (QQ s4) op oq tr (nI L.1) w4 (bz (iszm 4 s1 (368))) ob st of F), 0)) rfl ?_
      rw [nI_m12 q]
      rw [nI_p8 ((12 * q))]
      show mm_W _ _ _ _ _ _ _ (127, [(0, .ref 10), (1, .int (nI o)), (2, .int (nI p)), (3, .int (nI q))], [.int (nI q), .int (nI (12 * q + 8)), .int (nI (12 * p)), .int 376, .ref 10], wP pre (wN (PP s4) (QQ s4) op oq tr (nI L.1) w4 (bz (iszm 4 s1 (368))) ob st of F), 0)
      refine mm_inv (mm_call_mono _ _) (j := 83) (a := [.int (nI q)]) (M := wP pre (wN (PP s4) (QQ s4) op oq tr (nI L.1) w4 (bz (iszm 4 s1 (368))) ob st of F)) (u := 0) rfl (by decide) (rm_xOf (o := q) ?_)
      show mm_W _ _ _ _ _ _ _ (130, [(0, .ref 10), (1, .int (nI o)), (2, .int (nI p)), (3, .int (nI q))], [.int (nI (12 * q)), .int (nI (12 * q + 8)), .int (nI (12 * p)), .int 376, .ref 10], wP pre (wN (PP s4) (QQ s4) op oq tr (nI L.1) w4 (bz (iszm 4 s1 (368))) ob st of F), 0)
      refine mm_skip (mm_call_mono _ _) 5 (st' := (137, [(0, .ref 10), (1, .int (nI o)), (2, .int (nI p)), (3, .int (nI q))], [.int ((12 * (nI p)) + 8), .int (nI (12 * q)), .int (nI (12 * q + 8)), .int (nI (12 * p)), .int 376, .ref 10], wP pre (wN (PP s4) (QQ s4) op oq tr (nI L.1) w4 (bz (iszm 4 s1 (368))) ob st of F), 0)) rfl ?_
      rw [nI_m12 p]
      rw [nI_p8 ((12 * p))]
      show mm_W _ _ _ _ _ _ _ (137, [(0, .ref 10), (1, .int (nI o)), (2, .int (nI p)), (3, .int (nI q))], [.int (nI (12 * p + 8)), .int (nI (12 * q)), .int (nI (12 * q + 8)), .int (nI (12 * p)), .int 376, .ref 10], wP pre (wN (PP s4) (QQ s4) op oq tr (nI L.1) w4 (bz (iszm 4 s1 (368))) ob st of F), 0)
      refine mm_inv (mm_call_mono _ _) (j := 87) (a := [.ref 10, .int 376, .int (nI (12 * p)), .int (nI (12 * q + 8)), .int (nI (12 * q)), .int (nI (12 * p + 8))]) (M := wP pre (wN (PP s4) (QQ s4) op oq tr (nI L.1) w4 (bz (iszm 4 s1 (368))) ob st of F)) (u := 0) rfl (by decide) (rg_cross (D := 376) (A := (12 * p)) (B := (12 * q + 8)) (C := (12 * q)) (E := (12 * p + 8)) V4 z4 hl (by omega) R_4 A_4 H_4 D_4 C_4 (fun s5 w5 h5 => ?_))
      show mm_W _ _ _ _ _ _ _ (140, [(0, .ref 10), (1, .int (nI o)), (2, .int (nI p)), (3, .int (nI q))], [], wP pre (wN (PP s5) (QQ s5) op oq tr (nI L.1) w5 (bz (iszm 4 s1 (368))) ob st of F), 0)
      have V5 := h5.1
      have z5 := h5.2.1
      have S5 := gs_s S4 h5 (fun k => by omega)
      have F5 := g_F S4 F4 E4 h5
      have E5 := g_E E4 h5
      have R_5 := r_k R_4 h5 (by omega)
      have I_5 := t_k I_4 h5 (by omega)
      have W2_5 := t_k W2_4 h5 (by omega)
      have W4_5 := t_k W4_4 h5 (by omega)
      have W5_5 := t_new h5
      refine mm_skip (mm_call_mono _ _) 2 (st' := (142, [(0, .ref 10), (1, .int (nI o)), (2, .int (nI p)), (3, .int (nI q))], [.int (nI o), .ref 10], wP pre (wN (PP s5) (QQ s5) op oq tr (nI L.1) w5 (bz (iszm 4 s1 (368))) ob st of F), 0)) rfl ?_
      refine mm_inv (mm_call_mono _ _) (j := 84) (a := [.int (nI o)]) (M := wP pre (wN (PP s5) (QQ s5) op oq tr (nI L.1) w5 (bz (iszm 4 s1 (368))) ob st of F)) (u := 0) rfl (by decide) (rm_yOf (o := o) ?_)
      show mm_W _ _ _ _ _ _ _ (145, [(0, .ref 10), (1, .int (nI o)), (2, .int (nI p)), (3, .int (nI q))], [.int (nI (12 * o + 4)), .ref 10], wP pre (wN (PP s5) (QQ s5) op oq tr (nI L.1) w5 (bz (iszm 4 s1 (368))) ob st of F), 0)
      refine mm_skip (mm_call_mono _ _) 1 (st' := (146, [(0, .ref 10), (1, .int (nI o)), (2, .int (nI p)), (3, .int (nI q))], [.int 2, .int (nI (12 * o + 4)), .ref 10], wP pre (wN (PP s5) (QQ s5) op oq tr (nI L.1) w5 (bz (iszm 4 s1 (368))) ob st of F), 0)) rfl ?_
      refine mm_inv (mm_call_mono _ _) (j := 85) (a := [.int 2]) (M := wP pre (wN (PP s5) (QQ s5) op oq tr (nI L.1) w5 (bz (iszm 4 s1 (368))) ob st of F)) (u := 0) rfl (by decide) (rm_work ?_)
      show mm_W _ _ _ _ _ _ _ (149, [(0, .ref 10), (1, .int (nI o)), (2, .int (nI p)), (3, .int (nI q))], [.int 376, .int (nI (12 * o + 4)), .ref 10], wP pre (wN (PP s5) (QQ s5) op oq tr (nI L.1) w5 (bz (iszm 4 s1 (368))) ob st of F), 0)
      refine mm_skip (mm_call_mono _ _) 1 (st' := (150, [(0, .ref 10), (1, .int (nI o)), (2, .int (nI p)), (3, .int (nI q))], [.int 1, .int 376, .int (nI (12 * o + 4)), .ref 10], wP pre (wN (PP s5) (QQ s5) op oq tr (nI L.1) w5 (bz (iszm 4 s1 (368))) ob st of F), 0)) rfl ?_
      refine mm_inv (mm_call_mono _ _) (j := 85) (a := [.int 1]) (M := wP pre (wN (PP s5) (QQ s5) op oq tr (nI L.1) w5 (bz (iszm 4 s1 (368))) ob st of F)) (u := 0) rfl (by decide) (rm_work ?_)
      show mm_W _ _ _ _ _ _ _ (153, [(0, .ref 10), (1, .int (nI o)), (2, .int (nI p)), (3, .int (nI q))], [.int 372, .int 376, .int (nI (12 * o + 4)), .ref 10], wP pre (wN (PP s5) (QQ s5) op oq tr (nI L.1) w5 (bz (iszm 4 s1 (368))) ob st of F), 0)
      refine mm_inv (mm_call_mono _ _) (j := 78) (a := [.ref 10, .int (nI (12 * o + 4)), .int 376, .int 372]) (M := wP pre (wN (PP s5) (QQ s5) op oq tr (nI L.1) w5 (bz (iszm 4 s1 (368))) ob st of F)) (u := 0) rfl (by decide) (rg_mul (D := (12 * o + 4)) (A := 376) (B := 372) V5 z5 hl (by omega) R_5 W5_5 W2_5 (fun s6 w6 h6 => ?_))
      show mm_W _ _ _ _ _ _ _ (156, [(0, .ref 10), (1, .int (nI o)), (2, .int (nI p)), (3, .int (nI q))], [], wP pre (wN (PP s6) (QQ s6) op oq tr (nI L.1) w6 (bz (iszm 4 s1 (368))) ob st of F), 0)
      have V6 := h6.1
      have z6 := h6.2.1
      have S6 := gs_s S5 h6 (fun k => by omega)
      have F6 := g_F S5 F5 E5 h6
      have E6 := g_E E5 h6
      have R_6 := r_k R_5 h6 (by omega)
      have I_6 := t_k I_5 h6 (by omega)
      have W4_6 := t_k W4_5 h6 (by omega)
      have W6_6 := t_new h6
      exact mm_ret (mm_call_mono _ _) (c := True) (r := .inl none) (M := wP pre (wN (PP s6) (QQ s6) op oq tr (nI L.1) w6 (bz (iszm 4 s1 (368))) ob st of F)) (u := 0) rfl trivial (by decide) (by have e9 := dr_ofM (L := L) S6 (fun k q => q.elim Or.inl (fun q => Or.inr (Or.inl q))) hl W4_6 W6_6 I_6 R_6 E6 F6; rw [rMeet_eq] at e9; have e8 := g1; rw [e8]; exact hQ _ _ _ e9)
    · skip
      exact mm_ret (mm_call_mono _ _) (c := True) (r := .inl none) (M := wP pre (wN (PP s1) (QQ s1) op oq tr (nI L.1) w1 (bz (iszm 4 s1 (368))) ob st of F)) (u := 0) rfl trivial (by decide) (hQ _ _ _ (dr_fM (L := L) S1 (fun k q => q.elim Or.inl (fun q => Or.inr (Or.inl q))) hl (bz_z _) (Or.inl (mm_z1 z1 g2)) (by rw [← rMeet_eq]; exact F1 (mm_z1 z1 g2) rfl)))
  · skip
    exact mm_ret (mm_call_mono _ _) (c := True) (r := .inl none) (M := wP pre (wN (PP s1) (QQ s1) op oq tr (nI L.1) w1 (bz (iszm 4 s1 (368))) ob st of F)) (u := 0) rfl trivial (by decide) (hQ _ _ _ (dr_fM (L := L) S1 (fun k q => q.elim Or.inl (fun q => Or.inr (Or.inl q))) hl (bz_z _) (Or.inr (bz_t (bz_1 g1))) (by rw [← rMeet_eq]; exact (z1).elim (fun q => (E1 q).trans (by subst q; rw [xinv_z hl (rdV_of V1 R_1) (v4_pd V1) (isz_n4.mp (bz_1 g1))]; rfl)) (fun q => F1 q rfl))))

noncomputable def rCut (L : lvR) (a b c x y s : n4) (less : Bool) : Option (o3 × lvR) := (xprod L a a b b).bind fun n => (xprod L a x b y).bind fun t5 => (xsub L.1 c t5).bind fun e => (xinv L n).bind fun m => (xcr L s n e e).bind fun v => (xtake L v).bind fun r => rDraw r.2 a b x y e m r.1 less
theorem rCut_eq {L : lvR} {a b c x y s : n4} {less : Bool} : rCut L a b c x y s less = mCut L a b c x y s less := by
  unfold rCut mCut
  rw [← rMea_eq]
  unfold rMea
  simp only [rDraw_eq]
  cases xprod L a a b b with
  | none => rfl
  | some n =>
    show (xprod L a x b y).bind _ = ((xprod L a x b y).bind _).bind _
    cases xprod L a x b y with
    | none => rfl
    | some t5 =>
      show (xsub L.1 c t5).bind _ = ((xsub L.1 c t5).bind _).bind _
      cases xsub L.1 c t5 with
      | none => rfl
      | some e =>
        show (xinv L n).bind _ = ((xinv L n).bind _).bind _
        cases xinv L n with
        | none => rfl
        | some m =>
          show (xcr L s n e e).bind _ = ((xcr L s n e e).bind _).bind _
          cases xcr L s n e e <;> rfl
set_option maxRecDepth 100000 in
theorem rk_cut_0 {d : Nat} {pre : mm_pre} {s : Nat → fr} {op oq : Nat → Int64} {tr ob : Int32} {st of : Nat → Int32} {F : mm_M} {L : lvR} {o : Nat} {LN kc ct : Nat} {va vb vc x y sq : n4} {Q : mm_R → mm_M → Prop} (hV : ∀ k, fv (s k)) (hl : L.1 ≤ 2) (hg : kc < o ∧ ct < o ∧ o < 24 ∧ (LN + 12 ≤ 288 ∨ LN = 368) ∧ (LN + 12 ≤ 12 * o ∨ 12 * o + 12 ≤ LN)) (hof : of (4 * kc) = nI ct) (R : rdM s 0 L) (Hf : isM s 0 1 299 (fun _ => (1, 2))) (A : tM s 0 L.1 (LN) va) (B : tM s 0 L.1 ((LN + 4)) vb) (C : tM s 0 L.1 ((LN + 8)) vc) (D : tM s 0 L.1 (12 * ct) x) (G : tM s 0 L.1 ((12 * ct + 4)) y) (H : tM s 0 L.1 (12 * kc) sq) (I : tM s 0 L.1 ((12 * o + 8)) zz) (hQ : ∀ (s1 : Nat → fr) (w1 fa1 : Int32) (L1 : lvR), drM s L o (mCut L va vb vc x y sq true) s1 w1 fa1 L1 → Q (.inl none) (wP pre (wN (PP s1) (QQ s1) op oq tr (nI L1.1) w1 fa1 ob st of F))) : mm_call mm_Tb (d + 12) 92 [.ref 10, .int (nI o), .int (nI LN), .int (nI kc), .int 0] (wP pre (wN (PP s) (QQ s) op oq tr (nI L.1) 0 0 ob st of F)) Q := by
  have S0 := ms_0 (wi := 0) (Z := fun k => 300 ≤ k ∨ (12 * o ≤ k ∧ k < 12 * o + 12) ∨ (288 ≤ k ∧ k < 291 ∧ (L.1 = 0 ∨ (L.1 = 1 ∧ 289 ≤ k)))) hV (Or.inl rfl)
  have F0 : (0 : Int32) = 1 → (0 : Int32) = 0 → rCut L va vb vc x y sq true = none := fun h1 h0 => absurd (h1.symm.trans h0) z10
  have E0 : (0 : Int32) = 0 → rCut L va vb vc x y sq true = Option.bind (xprod L va va vb vb) _ := fun _ => rfl
  refine mm_in mt_92 (Nat.le_of_ble_eq_true rfl) ?_
  show mm_W _ _ _ _ _ _ _ (0, [(0, .ref 10), (1, .int (nI o)), (2, .int (nI LN)), (3, .int (nI kc)), (4, .int 0)], [], wP pre (wN (PP s) (QQ s) op oq tr (nI L.1) 0 0 ob st of F), 0)
  refine mm_skip (mm_call_mono _ _) 5 (st' := (7, [(0, .ref 10), (1, .int (nI o)), (2, .int (nI LN)), (3, .int (nI kc)), (4, .int 0)], [.int (4 * (nI kc)), .ref 16], wP pre (wN (PP s) (QQ s) op oq tr (nI L.1) 0 0 ob st of F), 0)) rfl ?_
  rw [nI_m4 kc]
  show mm_W _ _ _ _ _ _ _ (7, [(0, .ref 10), (1, .int (nI o)), (2, .int (nI LN)), (3, .int (nI kc)), (4, .int 0)], [.int (nI (4 * kc)), .ref 16], wP pre (wN (PP s) (QQ s) op oq tr (nI L.1) 0 0 ob st of F), 0)
  refine mm_need (mm_call_mono _ _) (c := vp_in (nI (4 * kc)) 96) (s' := (8, [(0, .ref 10), (1, .int (nI o)), (2, .int (nI LN)), (3, .int (nI kc)), (4, .int 0)], [.int (of (Int32.toNatClampNeg (nI (4 * kc))))], wP pre (wN (PP s) (QQ s) op oq tr (nI L.1) 0 0 ob st of F), 0)) rfl (vp_in_nI (show (4 * kc) < 96 by omega) (by decide)) ?_
  rw [nI_clamp (show (4 * kc) < 2 ^ 31 by omega)]
  show mm_W _ _ _ _ _ _ _ (8, [(0, .ref 10), (1, .int (nI o)), (2, .int (nI LN)), (3, .int (nI kc)), (4, .int 0)], [.int (of (4 * kc))], wP pre (wN (PP s) (QQ s) op oq tr (nI L.1) 0 0 ob st of F), 0)
  rw [hof]
  show mm_W _ _ _ _ _ _ _ (8, [(0, .ref 10), (1, .int (nI o)), (2, .int (nI LN)), (3, .int (nI kc)), (4, .int 0)], [.int (nI ct)], wP pre (wN (PP s) (QQ s) op oq tr (nI L.1) 0 0 ob st of F), 0)
  refine mm_skip (mm_call_mono _ _) 9 (st' := (20, [(7, .int ((nI LN) + 4)), (6, .int (nI LN)), (5, .int (nI ct)), (0, .ref 10), (1, .int (nI o)), (2, .int (nI LN)), (3, .int (nI kc)), (4, .int 0)], [.int 4, .ref 10], wP pre (wN (PP s) (QQ s) op oq tr (nI L.1) 0 0 ob st of F), 0)) rfl ?_
  rw [nI_p4 (LN)]
  show mm_W _ _ _ _ _ _ _ (20, [(7, .int (nI (LN + 4))), (6, .int (nI LN)), (5, .int (nI ct)), (0, .ref 10), (1, .int (nI o)), (2, .int (nI LN)), (3, .int (nI kc)), (4, .int 0)], [.int 4, .ref 10], wP pre (wN (PP s) (QQ s) op oq tr (nI L.1) 0 0 ob st of F), 0)
  refine mm_inv (mm_call_mono _ _) (j := 85) (a := [.int 4]) (M := wP pre (wN (PP s) (QQ s) op oq tr (nI L.1) 0 0 ob st of F)) (u := 0) rfl (by decide) (rm_work ?_)
  show mm_W _ _ _ _ _ _ _ (23, [(7, .int (nI (LN + 4))), (6, .int (nI LN)), (5, .int (nI ct)), (0, .ref 10), (1, .int (nI o)), (2, .int (nI LN)), (3, .int (nI kc)), (4, .int 0)], [.int 384, .ref 10], wP pre (wN (PP s) (QQ s) op oq tr (nI L.1) 0 0 ob st of F), 0)
  refine mm_skip (mm_call_mono _ _) 4 (st' := (31, [(7, .int (nI (LN + 4))), (6, .int (nI LN)), (5, .int (nI ct)), (0, .ref 10), (1, .int (nI o)), (2, .int (nI LN)), (3, .int (nI kc)), (4, .int 0)], [.int (nI (LN + 4)), .int (nI (LN + 4)), .int (nI LN), .int (nI LN), .int 384, .ref 10], wP pre (wN (PP s) (QQ s) op oq tr (nI L.1) 0 0 ob st of F), 0)) rfl ?_
  refine mm_inv (mm_call_mono _ _) (j := 86) (a := [.ref 10, .int 384, .int (nI LN), .int (nI LN), .int (nI (LN + 4)), .int (nI (LN + 4))]) (M := wP pre (wN (PP s) (QQ s) op oq tr (nI L.1) 0 0 ob st of F)) (u := 0) rfl (by decide) (rg_products (D := 384) (A := LN) (B := LN) (C := (LN + 4)) (E := (LN + 4)) hV (Or.inl rfl) hl (by omega) R A A B B (fun s1 w1 h1 => ?_))
  show mm_W _ _ _ _ _ _ _ (34, [(7, .int (nI (LN + 4))), (6, .int (nI LN)), (5, .int (nI ct)), (0, .ref 10), (1, .int (nI o)), (2, .int (nI LN)), (3, .int (nI kc)), (4, .int 0)], [], wP pre (wN (PP s1) (QQ s1) op oq tr (nI L.1) w1 0 ob st of F), 0)
  have V1 := h1.1
  have z1 := h1.2.1
  have S1 := gs_s S0 h1 (fun k => by omega)
  have F1 := g_F S0 F0 E0 h1
  have E1 := g_E E0 h1
  have R_1 := r_k R h1 (by omega)
  have Hf_1 := f_k Hf h1 (by omega)
  have A_1 := t_k A h1 (by omega)
  have B_1 := t_k B h1 (by omega)
  have C_1 := t_k C h1 (by omega)
  have D_1 := t_k D h1 (by omega)
  have G_1 := t_k G h1 (by omega)
  have H_1 := t_k H h1 (by omega)
  have I_1 := t_k I h1 (by omega)
  have W1_1 := t_new h1
  refine mm_skip (mm_call_mono _ _) 2 (st' := (36, [(7, .int (nI (LN + 4))), (6, .int (nI LN)), (5, .int (nI ct)), (0, .ref 10), (1, .int (nI o)), (2, .int (nI LN)), (3, .int (nI kc)), (4, .int 0)], [.int 5, .ref 10], wP pre (wN (PP s1) (QQ s1) op oq tr (nI L.1) w1 0 ob st of F), 0)) rfl ?_
  refine mm_inv (mm_call_mono _ _) (j := 85) (a := [.int 5]) (M := wP pre (wN (PP s1) (QQ s1) op oq tr (nI L.1) w1 0 ob st of F)) (u := 0) rfl (by decide) (rm_work ?_)
  show mm_W _ _ _ _ _ _ _ (39, [(7, .int (nI (LN + 4))), (6, .int (nI LN)), (5, .int (nI ct)), (0, .ref 10), (1, .int (nI o)), (2, .int (nI LN)), (3, .int (nI kc)), (4, .int 0)], [.int 388, .ref 10], wP pre (wN (PP s1) (QQ s1) op oq tr (nI L.1) w1 0 ob st of F), 0)
  refine mm_skip (mm_call_mono _ _) 2 (st' := (43, [(7, .int (nI (LN + 4))), (6, .int (nI LN)), (5, .int (nI ct)), (0, .ref 10), (1, .int (nI o)), (2, .int (nI LN)), (3, .int (nI kc)), (4, .int 0)], [.int (nI ct), .int (nI LN), .int 388, .ref 10], wP pre (wN (PP s1) (QQ s1) op oq tr (nI L.1) w1 0 ob st of F), 0)) rfl ?_
  refine mm_inv (mm_call_mono _ _) (j := 83) (a := [.int (nI ct)]) (M := wP pre (wN (PP s1) (QQ s1) op oq tr (nI L.1) w1 0 ob st of F)) (u := 0) rfl (by decide) (rm_xOf (o := ct) ?_)
  show mm_W _ _ _ _ _ _ _ (46, [(7, .int (nI (LN + 4))), (6, .int (nI LN)), (5, .int (nI ct)), (0, .ref 10), (1, .int (nI o)), (2, .int (nI LN)), (3, .int (nI kc)), (4, .int 0)], [.int (nI (12 * ct)), .int (nI LN), .int 388, .ref 10], wP pre (wN (PP s1) (QQ s1) op oq tr (nI L.1) w1 0 ob st of F), 0)
  refine mm_skip (mm_call_mono _ _) 2 (st' := (50, [(7, .int (nI (LN + 4))), (6, .int (nI LN)), (5, .int (nI ct)), (0, .ref 10), (1, .int (nI o)), (2, .int (nI LN)), (3, .int (nI kc)), (4, .int 0)], [.int (nI ct), .int (nI (LN + 4)), .int (nI (12 * ct)), .int (nI LN), .int 388, .ref 10], wP pre (wN (PP s1) (QQ s1) op oq tr (nI L.1) w1 0 ob st of F), 0)) rfl ?_
  refine mm_inv (mm_call_mono _ _) (j := 84) (a := [.int (nI ct)]) (M := wP pre (wN (PP s1) (QQ s1) op oq tr (nI L.1) w1 0 ob st of F)) (u := 0) rfl (by decide) (rm_yOf (o := ct) ?_)
  show mm_W _ _ _ _ _ _ _ (53, [(7, .int (nI (LN + 4))), (6, .int (nI LN)), (5, .int (nI ct)), (0, .ref 10), (1, .int (nI o)), (2, .int (nI LN)), (3, .int (nI kc)), (4, .int 0)], [.int (nI (12 * ct + 4)), .int (nI (LN + 4)), .int (nI (12 * ct)), .int (nI LN), .int 388, .ref 10], wP pre (wN (PP s1) (QQ s1) op oq tr (nI L.1) w1 0 ob st of F), 0)
  refine mm_inv (mm_call_mono _ _) (j := 86) (a := [.ref 10, .int 388, .int (nI LN), .int (nI (12 * ct)), .int (nI (LN + 4)), .int (nI (12 * ct + 4))]) (M := wP pre (wN (PP s1) (QQ s1) op oq tr (nI L.1) w1 0 ob st of F)) (u := 0) rfl (by decide) (rg_products (D := 388) (A := LN) (B := (12 * ct)) (C := (LN + 4)) (E := (12 * ct + 4)) V1 z1 hl (by omega) R_1 A_1 D_1 B_1 G_1 (fun s2 w2 h2 => ?_))
  show mm_W _ _ _ _ _ _ _ (56, [(7, .int (nI (LN + 4))), (6, .int (nI LN)), (5, .int (nI ct)), (0, .ref 10), (1, .int (nI o)), (2, .int (nI LN)), (3, .int (nI kc)), (4, .int 0)], [], wP pre (wN (PP s2) (QQ s2) op oq tr (nI L.1) w2 0 ob st of F), 0)
  have V2 := h2.1
  have z2 := h2.2.1
  have S2 := gs_s S1 h2 (fun k => by omega)
  have F2 := g_F S1 F1 E1 h2
  have E2 := g_E E1 h2
  have R_2 := r_k R_1 h2 (by omega)
  have Hf_2 := f_k Hf_1 h2 (by omega)
  have A_2 := t_k A_1 h2 (by omega)
  have B_2 := t_k B_1 h2 (by omega)
  have C_2 := t_k C_1 h2 (by omega)
  have D_2 := t_k D_1 h2 (by omega)
  have G_2 := t_k G_1 h2 (by omega)
  have H_2 := t_k H_1 h2 (by omega)
  have I_2 := t_k I_1 h2 (by omega)
  have W1_2 := t_k W1_1 h2 (by omega)
  have W2_2 := t_new h2
  refine mm_skip (mm_call_mono _ _) 2 (st' := (58, [(7, .int (nI (LN + 4))), (6, .int (nI LN)), (5, .int (nI ct)), (0, .ref 10), (1, .int (nI o)), (2, .int (nI LN)), (3, .int (nI kc)), (4, .int 0)], [.int 5, .ref 10], wP pre (wN (PP s2) (QQ s2) op oq tr (nI L.1) w2 0 ob st of F), 0)) rfl ?_
  refine mm_inv (mm_call_mono _ _) (j := 85) (a := [.int 5]) (M := wP pre (wN (PP s2) (QQ s2) op oq tr (nI L.1) w2 0 ob st of F)) (u := 0) rfl (by decide) (rm_work ?_)
  show mm_W _ _ _ _ _ _ _ (61, [(7, .int (nI (LN + 4))), (6, .int (nI LN)), (5, .int (nI ct)), (0, .ref 10), (1, .int (nI o)), (2, .int (nI LN)), (3, .int (nI kc)), (4, .int 0)], [.int 388, .ref 10], wP pre (wN (PP s2) (QQ s2) op oq tr (nI L.1) w2 0 ob st of F), 0)
  refine mm_skip (mm_call_mono _ _) 4 (st' := (66, [(7, .int (nI (LN + 4))), (6, .int (nI LN)), (5, .int (nI ct)), (0, .ref 10), (1, .int (nI o)), (2, .int (nI LN)), (3, .int (nI kc)), (4, .int 0)], [.int 5, .int ((nI LN) + 8), .int 388, .ref 10], wP pre (wN (PP s2) (QQ s2) op oq tr (nI L.1) w2 0 ob st of F), 0)) rfl ?_
  rw [nI_p8 (LN)]
  show mm_W _ _ _ _ _ _ _ (66, [(7, .int (nI (LN + 4))), (6, .int (nI LN)), (5, .int (nI ct)), (0, .ref 10), (1, .int (nI o)), (2, .int (nI LN)), (3, .int (nI kc)), (4, .int 0)], [.int 5, .int (nI (LN + 8)), .int 388, .ref 10], wP pre (wN (PP s2) (QQ s2) op oq tr (nI L.1) w2 0 ob st of F), 0)
  refine mm_inv (mm_call_mono _ _) (j := 85) (a := [.int 5]) (M := wP pre (wN (PP s2) (QQ s2) op oq tr (nI L.1) w2 0 ob st of F)) (u := 0) rfl (by decide) (rm_work ?_)
  show mm_W _ _ _ _ _ _ _ (69, [(7, .int (nI (LN + 4))), (6, .int (nI LN)), (5, .int (nI ct)), (0, .ref 10), (1, .int (nI o)), (2, .int (nI LN)), (3, .int (nI kc)), (4, .int 0)], [.int 388, .int (nI (LN + 8)), .int 388, .ref 10], wP pre (wN (PP s2) (QQ s2) op oq tr (nI L.1) w2 0 ob st of F), 0)
  refine mm_skip (mm_call_mono _ _) 1 (st' := (70, [(7, .int (nI (LN + 4))), (6, .int (nI LN)), (5, .int (nI ct)), (0, .ref 10), (1, .int (nI o)), (2, .int (nI LN)), (3, .int (nI kc)), (4, .int 0)], [.int 4, .int 388, .int (nI (LN + 8)), .int 388, .ref 10], wP pre (wN (PP s2) (QQ s2) op oq tr (nI L.1) w2 0 ob st of F), 0)) rfl ?_
  refine mm_inv (mm_call_mono _ _) (j := 60) (a := [.ref 10, .int 388, .int (nI (LN + 8)), .int 388, .int 4]) (M := wP pre (wN (PP s2) (QQ s2) op oq tr (nI L.1) w2 0 ob st of F)) (u := 0) rfl (by decide) (rg_sub (D := 388) (A := (LN + 8)) (B := 388) V2 z2 hl (by omega) C_2 W2_2 (fun s3 w3 h3 => ?_))
  show mm_W _ _ _ _ _ _ _ (73, [(7, .int (nI (LN + 4))), (6, .int (nI LN)), (5, .int (nI ct)), (0, .ref 10), (1, .int (nI o)), (2, .int (nI LN)), (3, .int (nI kc)), (4, .int 0)], [], wP pre (wN (PP s3) (QQ s3) op oq tr (nI L.1) w3 0 ob st of F), 0)
  have V3 := h3.1
  have z3 := h3.2.1
  have S3 := gs_s S2 h3 (fun k => by omega)
  have F3 := g_F S2 F2 E2 h3
  have E3 := g_E E2 h3
  have R_3 := r_k R_2 h3 (by omega)
  have Hf_3 := f_k Hf_2 h3 (by omega)
  have A_3 := t_k A_2 h3 (by omega)
  have B_3 := t_k B_2 h3 (by omega)
  have D_3 := t_k D_2 h3 (by omega)
  have G_3 := t_k G_2 h3 (by omega)
  have H_3 := t_k H_2 h3 (by omega)
  have I_3 := t_k I_2 h3 (by omega)
  have W1_3 := t_k W1_2 h3 (by omega)
  have W3_3 := t_new h3
  refine mm_skip (mm_call_mono _ _) 2 (st' := (76, [(7, .int (nI (LN + 4))), (6, .int (nI LN)), (5, .int (nI ct)), (0, .ref 10), (1, .int (nI o)), (2, .int (nI LN)), (3, .int (nI kc)), (4, .int 0)], [.int 6, .ref 10], wP pre (wN (PP s3) (QQ s3) op oq tr (nI L.1) w3 0 ob st of F), 0)) rfl ?_
  refine mm_inv (mm_call_mono _ _) (j := 85) (a := [.int 6]) (M := wP pre (wN (PP s3) (QQ s3) op oq tr (nI L.1) w3 0 ob st of F)) (u := 0) rfl (by decide) (rm_work ?_)
  show mm_W _ _ _ _ _ _ _ (79, [(7, .int (nI (LN + 4))), (6, .int (nI LN)), (5, .int (nI ct)), (0, .ref 10), (1, .int (nI o)), (2, .int (nI LN)), (3, .int (nI kc)), (4, .int 0)], [.int 392, .ref 10], wP pre (wN (PP s3) (QQ s3) op oq tr (nI L.1) w3 0 ob st of F), 0)
  refine mm_skip (mm_call_mono _ _) 1 (st' := (80, [(7, .int (nI (LN + 4))), (6, .int (nI LN)), (5, .int (nI ct)), (0, .ref 10), (1, .int (nI o)), (2, .int (nI LN)), (3, .int (nI kc)), (4, .int 0)], [.int 4, .int 392, .ref 10], wP pre (wN (PP s3) (QQ s3) op oq tr (nI L.1) w3 0 ob st of F), 0)) rfl ?_
  refine mm_inv (mm_call_mono _ _) (j := 85) (a := [.int 4]) (M := wP pre (wN (PP s3) (QQ s3) op oq tr (nI L.1) w3 0 ob st of F)) (u := 0) rfl (by decide) (rm_work ?_)
  show mm_W _ _ _ _ _ _ _ (83, [(7, .int (nI (LN + 4))), (6, .int (nI LN)), (5, .int (nI ct)), (0, .ref 10), (1, .int (nI o)), (2, .int (nI LN)), (3, .int (nI kc)), (4, .int 0)], [.int 384, .int 392, .ref 10], wP pre (wN (PP s3) (QQ s3) op oq tr (nI L.1) w3 0 ob st of F), 0)
  refine mm_inv (mm_call_mono _ _) (j := 79) (a := [.ref 10, .int 392, .int 384]) (M := wP pre (wN (PP s3) (QQ s3) op oq tr (nI L.1) w3 0 ob st of F)) (u := 0) rfl (by decide) (rg_inv (D := 392) (A := 384) V3 z3 hl (by omega) R_3 W1_3 (fun s4 w4 h4 => ?_))
  show mm_W _ _ _ _ _ _ _ (86, [(7, .int (nI (LN + 4))), (6, .int (nI LN)), (5, .int (nI ct)), (0, .ref 10), (1, .int (nI o)), (2, .int (nI LN)), (3, .int (nI kc)), (4, .int 0)], [], wP pre (wN (PP s4) (QQ s4) op oq tr (nI L.1) w4 0 ob st of F), 0)
  have V4 := h4.1
  have z4 := h4.2.1
  have S4 := gs_s S3 h4 (fun k => by omega)
  have F4 := g_F S3 F3 E3 h4
  have E4 := g_E E3 h4
  have R_4 := r_k R_3 h4 (by omega)
  have Hf_4 := f_k Hf_3 h4 (by omega)
  have A_4 := t_k A_3 h4 (by omega)
  have B_4 := t_k B_3 h4 (by omega)
  have D_4 := t_k D_3 h4 (by omega)
  have G_4 := t_k G_3 h4 (by omega)
  have H_4 := t_k H_3 h4 (by omega)
  have I_4 := t_k I_3 h4 (by omega)
  have W1_4 := t_k W1_3 h4 (by omega)
  have W3_4 := t_k W3_3 h4 (by omega)
  have W4_4 := t_new h4
  refine mm_skip (mm_call_mono _ _) 2 (st' := (89, [(7, .int (nI (LN + 4))), (6, .int (nI LN)), (5, .int (nI ct)), (0, .ref 10), (1, .int (nI o)), (2, .int (nI LN)), (3, .int (nI kc)), (4, .int 0)], [.int 7, .ref 10], wP pre (wN (PP s4) (QQ s4) op oq tr (nI L.1) w4 0 ob st of F), 0)) rfl ?_
  refine mm_inv (mm_call_mono _ _) (j := 85) (a := [.int 7]) (M := wP pre (wN (PP s4) (QQ s4) op oq tr (nI L.1) w4 0 ob st of F)) (u := 0) rfl (by decide) (rm_work ?_)
  show mm_W _ _ _ _ _ _ _ (92, [(7, .int (nI (LN + 4))), (6, .int (nI LN)), (5, .int (nI ct)), (0, .ref 10), (1, .int (nI o)), (2, .int (nI LN)), (3, .int (nI kc)), (4, .int 0)], [.int 396, .ref 10], wP pre (wN (PP s4) (QQ s4) op oq tr (nI L.1) w4 0 ob st of F), 0)
  refine mm_skip (mm_call_mono _ _) 4 (st' := (97, [(7, .int (nI (LN + 4))), (6, .int (nI LN)), (5, .int (nI ct)), (0, .ref 10), (1, .int (nI o)), (2, .int (nI LN)), (3, .int (nI kc)), (4, .int 0)], [.int 4, .int (12 * (nI kc)), .int 396, .ref 10], wP pre (wN (PP s4) (QQ s4) op oq tr (nI L.1) w4 0 ob st of F), 0)) rfl ?_
  rw [nI_m12 kc]
  show mm_W _ _ _ _ _ _ _ (97, [(7, .int (nI (LN + 4))), (6, .int (nI LN)), (5, .int (nI ct)), (0, .ref 10), (1, .int (nI o)), (2, .int (nI LN)), (3, .int (nI kc)), (4, .int 0)], [.int 4, .int (nI (12 * kc)), .int 396, .ref 10], wP pre (wN (PP s4) (QQ s4) op oq tr (nI L.1) w4 0 ob st of F), 0)
  refine mm_inv (mm_call_mono _ _) (j := 85) (a := [.int 4]) (M := wP pre (wN (PP s4) (QQ s4) op oq tr (nI L.1) w4 0 ob st of F)) (u := 0) rfl (by decide) (rm_work ?_)
  show mm_W _ _ _ _ _ _ _ (100, [(7, .int (nI (LN + 4))), (6, .int (nI LN)), (5, .int (nI ct)), (0, .ref 10), (1, .int (nI o)), (2, .int (nI LN)), (3, .int (nI kc)), (4, .int 0)], [.int 384, .int (nI (12 * kc)), .int 396, .ref 10], wP pre (wN (PP s4) (QQ s4) op oq tr (nI L.1) w4 0 ob st of F), 0)
  refine mm_skip (mm_call_mono _ _) 1 (st' := (101, [(7, .int (nI (LN + 4))), (6, .int (nI LN)), (5, .int (nI ct)), (0, .ref 10), (1, .int (nI o)), (2, .int (nI LN)), (3, .int (nI kc)), (4, .int 0)], [.int 5, .int 384, .int (nI (12 * kc)), .int 396, .ref 10], wP pre (wN (PP s4) (QQ s4) op oq tr (nI L.1) w4 0 ob st of F), 0)) rfl ?_
  refine mm_inv (mm_call_mono _ _) (j := 85) (a := [.int 5]) (M := wP pre (wN (PP s4) (QQ s4) op oq tr (nI L.1) w4 0 ob st of F)) (u := 0) rfl (by decide) (rm_work ?_)
  show mm_W _ _ _ _ _ _ _ (104, [(7, .int (nI (LN + 4))), (6, .int (nI LN)), (5, .int (nI ct)), (0, .ref 10), (1, .int (nI o)), (2, .int (nI LN)), (3, .int (nI kc)), (4, .int 0)], [.int 388, .int 384, .int (nI (12 * kc)), .int 396, .ref 10], wP pre (wN (PP s4) (QQ s4) op oq tr (nI L.1) w4 0 ob st of F), 0)
  refine mm_skip (mm_call_mono _ _) 1 (st' := (105, [(7, .int (nI (LN + 4))), (6, .int (nI LN)), (5, .int (nI ct)), (0, .ref 10), (1, .int (nI o)), (2, .int (nI LN)), (3, .int (nI kc)), (4, .int 0)], [.int 5, .int 388, .int 384, .int (nI (12 * kc)), .int 396, .ref 10], wP pre (wN (PP s4) (QQ s4) op oq tr (nI L.1) w4 0 ob st of F), 0)) rfl ?_
  refine mm_inv (mm_call_mono _ _) (j := 85) (a := [.int 5]) (M := wP pre (wN (PP s4) (QQ s4) op oq tr (nI L.1) w4 0 ob st of F)) (u := 0) rfl (by decide) (rm_work ?_)
  show mm_W _ _ _ _ _ _ _ (108, [(7, .int (nI (LN + 4))), (6, .int (nI LN)), (5, .int (nI ct)), (0, .ref 10), (1, .int (nI o)), (2, .int (nI LN)), (3, .int (nI kc)), (4, .int 0)], [.int 388, .int 388, .int 384, .int (nI (12 * kc)), .int 396, .ref 10], wP pre (wN (PP s4) (QQ s4) op oq tr (nI L.1) w4 0 ob st of F), 0)
  refine mm_inv (mm_call_mono _ _) (j := 87) (a := [.ref 10, .int 396, .int (nI (12 * kc)), .int 384, .int 388, .int 388]) (M := wP pre (wN (PP s4) (QQ s4) op oq tr (nI L.1) w4 0 ob st of F)) (u := 0) rfl (by decide) (rg_cross (D := 396) (A := (12 * kc)) (B := 384) (C := 388) (E := 388) V4 z4 hl (by omega) R_4 H_4 W1_4 W3_4 W3_4 (fun s5 w5 h5 => ?_))
  show mm_W _ _ _ _ _ _ _ (111, [(7, .int (nI (LN + 4))), (6, .int (nI LN)), (5, .int (nI ct)), (0, .ref 10), (1, .int (nI o)), (2, .int (nI LN)), (3, .int (nI kc)), (4, .int 0)], [], wP pre (wN (PP s5) (QQ s5) op oq tr (nI L.1) w5 0 ob st of F), 0)
  have V5 := h5.1
  have z5 := h5.2.1
  have S5 := gs_s S4 h5 (fun k => by omega)
  have F5 := g_F S4 F4 E4 h5
  have E5 := g_E E4 h5
  have R_5 := r_k R_4 h5 (by omega)
  have Hf_5 := f_k Hf_4 h5 (by omega)
  have A_5 := t_k A_4 h5 (by omega)
  have B_5 := t_k B_4 h5 (by omega)
  have D_5 := t_k D_4 h5 (by omega)
  have G_5 := t_k G_4 h5 (by omega)
  have I_5 := t_k I_4 h5 (by omega)
  have W3_5 := t_k W3_4 h5 (by omega)
  have W4_5 := t_k W4_4 h5 (by omega)
  have W5_5 := t_new h5
  refine mm_skip (mm_call_mono _ _) 2 (st' := (114, [(7, .int (nI (LN + 4))), (6, .int (nI LN)), (5, .int (nI ct)), (0, .ref 10), (1, .int (nI o)), (2, .int (nI LN)), (3, .int (nI kc)), (4, .int 0)], [.int 8, .ref 10], wP pre (wN (PP s5) (QQ s5) op oq tr (nI L.1) w5 0 ob st of F), 0)) rfl ?_
  refine mm_inv (mm_call_mono _ _) (j := 85) (a := [.int 8]) (M := wP pre (wN (PP s5) (QQ s5) op oq tr (nI L.1) w5 0 ob st of F)) (u := 0) rfl (by decide) (rm_work ?_)
  show mm_W _ _ _ _ _ _ _ (117, [(7, .int (nI (LN + 4))), (6, .int (nI LN)), (5, .int (nI ct)), (0, .ref 10), (1, .int (nI o)), (2, .int (nI LN)), (3, .int (nI kc)), (4, .int 0)], [.int 400, .ref 10], wP pre (wN (PP s5) (QQ s5) op oq tr (nI L.1) w5 0 ob st of F), 0)
  refine mm_skip (mm_call_mono _ _) 1 (st' := (119, [(7, .int (nI (LN + 4))), (6, .int (nI LN)), (5, .int (nI ct)), (0, .ref 10), (1, .int (nI o)), (2, .int (nI LN)), (3, .int (nI kc)), (4, .int 0)], [.int 7, .int 400, .ref 10], wP pre (wN (PP s5) (QQ s5) op oq tr (nI L.1) w5 0 ob st of F), 0)) rfl ?_
  refine mm_inv (mm_call_mono _ _) (j := 85) (a := [.int 7]) (M := wP pre (wN (PP s5) (QQ s5) op oq tr (nI L.1) w5 0 ob st of F)) (u := 0) rfl (by decide) (rm_work ?_)
  show mm_W _ _ _ _ _ _ _ (122, [(7, .int (nI (LN + 4))), (6, .int (nI LN)), (5, .int (nI ct)), (0, .ref 10), (1, .int (nI o)), (2, .int (nI LN)), (3, .int (nI kc)), (4, .int 0)], [.int 396, .int 400, .ref 10], wP pre (wN (PP s5) (QQ s5) op oq tr (nI L.1) w5 0 ob st of F), 0)
  refine mm_inv (mm_call_mono _ _) (j := 82) (a := [.ref 10, .int 400, .int 396]) (M := wP pre (wN (PP s5) (QQ s5) op oq tr (nI L.1) w5 0 ob st of F)) (u := 0) rfl (by decide) (rg_take (D := 400) (A := 396) V5 z5 hl (by omega) R_5 Hf_5 W5_5 (fun s6 w6 fa6 L1 vr h6 => ?_))
  show mm_W _ _ _ _ _ _ _ (125, [(7, .int (nI (LN + 4))), (6, .int (nI LN)), (5, .int (nI ct)), (0, .ref 10), (1, .int (nI o)), (2, .int (nI LN)), (3, .int (nI kc)), (4, .int 0)], [], wP pre (wN (PP s6) (QQ s6) op oq tr (nI L1.1) w6 fa6 ob st of F), 0)
  have V6 := h6.1
  have z6 := h6.2.1
  have hl1 := h6.2.2.2.1
  have hl2 := h6.2.2.2.2.1
  have S6 := ms_tk S5 h6 (fun k => by unfold zr; omega)
  have FT := tk_F S5 F5 E5 h6
  have F6 := fun (q : w6 = 1) h => FT (Or.inl q) h
  have A_6 := t_tk A_5 h6 hl2 (by omega)
  have B_6 := t_tk B_5 h6 hl2 (by omega)
  have D_6 := t_tk D_5 h6 hl2 (by omega)
  have G_6 := t_tk G_5 h6 hl2 (by omega)
  have I_6 := t_tk I_5 h6 hl2 (by omega)
  have W3_6 := t_tk W3_5 h6 hl2 (by omega)
  have W4_6 := t_tk W4_5 h6 hl2 (by omega)
  refine mm_skip (mm_call_mono _ _) 2 (st' := (129, [(7, .int (nI (LN + 4))), (6, .int (nI LN)), (5, .int (nI ct)), (0, .ref 10), (1, .int (nI o)), (2, .int (nI LN)), (3, .int (nI kc)), (4, .int 0)], [.int fa6], wP pre (wN (PP s6) (QQ s6) op oq tr (nI L1.1) w6 fa6 ob st of F), 0)) rfl ?_
  refine mm_branch (mm_call_mono _ _) (c := fa6 = 0) (s1 := (132, [(7, .int (nI (LN + 4))), (6, .int (nI LN)), (5, .int (nI ct)), (0, .ref 10), (1, .int (nI o)), (2, .int (nI LN)), (3, .int (nI kc)), (4, .int 0)], [], wP pre (wN (PP s6) (QQ s6) op oq tr (nI L1.1) w6 fa6 ob st of F), 0)) (s2 := (139, [(7, .int (nI (LN + 4))), (6, .int (nI LN)), (5, .int (nI ct)), (0, .ref 10), (1, .int (nI o)), (2, .int (nI LN)), (3, .int (nI kc)), (4, .int 0)], [], wP pre (wN (PP s6) (QQ s6) op oq tr (nI L1.1) w6 fa6 ob st of F), 0)) rfl (fun g1 => ?_) (fun g1 => ?_)
  · skip
    have E6 := tk_E E5 h6 g1
    obtain ⟨W6_6, R_6⟩ := tk_t h6 g1
    refine mm_skip (mm_call_mono _ _) 2 (st' := (136, [(7, .int (nI (LN + 4))), (6, .int (nI LN)), (5, .int (nI ct)), (0, .ref 10), (1, .int (nI o)), (2, .int (nI LN)), (3, .int (nI kc)), (4, .int 0)], [.int w6], wP pre (wN (PP s6) (QQ s6) op oq tr (nI L1.1) w6 fa6 ob st of F), 0)) rfl ?_
    refine mm_branch (mm_call_mono _ _) (c := w6 = 0) (s1 := (140, [(7, .int (nI (LN + 4))), (6, .int (nI LN)), (5, .int (nI ct)), (0, .ref 10), (1, .int (nI o)), (2, .int (nI LN)), (3, .int (nI kc)), (4, .int 0)], [], wP pre (wN (PP s6) (QQ s6) op oq tr (nI L1.1) w6 fa6 ob st of F), 0)) (s2 := (139, [(7, .int (nI (LN + 4))), (6, .int (nI LN)), (5, .int (nI ct)), (0, .ref 10), (1, .int (nI o)), (2, .int (nI LN)), (3, .int (nI kc)), (4, .int 0)], [], wP pre (wN (PP s6) (QQ s6) op oq tr (nI L1.1) w6 fa6 ob st of F), 0)) rfl (fun g2 => ?_) (fun g2 => ?_)
    · skip
      refine mm_skip (mm_call_mono _ _) 2 (st' := (143, [(7, .int (nI (LN + 4))), (6, .int (nI LN)), (5, .int (nI ct)), (0, .ref 10), (1, .int (nI o)), (2, .int (nI LN)), (3, .int (nI kc)), (4, .int 0)], [.int 9, .ref 10], wP pre (wN (PP s6) (QQ s6) op oq tr (nI L1.1) w6 fa6 ob st of F), 0)) rfl ?_
      refine mm_inv (mm_call_mono _ _) (j := 85) (a := [.int 9]) (M := wP pre (wN (PP s6) (QQ s6) op oq tr (nI L1.1) w6 fa6 ob st of F)) (u := 0) rfl (by decide) (rm_work ?_)
      show mm_W _ _ _ _ _ _ _ (146, [(7, .int (nI (LN + 4))), (6, .int (nI LN)), (5, .int (nI ct)), (0, .ref 10), (1, .int (nI o)), (2, .int (nI LN)), (3, .int (nI kc)), (4, .int 0)], [.int 404, .ref 10], wP pre (wN (PP s6) (QQ s6) op oq tr (nI L1.1) w6 fa6 ob st of F), 0)
      refine mm_skip (mm_call_mono _ _) 1 (st' := (147, [(7, .int (nI (LN + 4))), (6, .int (nI LN)), (5, .int (nI ct)), (0, .ref 10), (1, .int (nI o)), (2, .int (nI LN)), (3, .int (nI kc)), (4, .int 0)], [.int 5, .int 404, .ref 10], wP pre (wN (PP s6) (QQ s6) op oq tr (nI L1.1) w6 fa6 ob st of F), 0)) rfl ?_
      refine mm_inv (mm_call_mono _ _) (j := 85) (a := [.int 5]) (M := wP pre (wN (PP s6) (QQ s6) op oq tr (nI L1.1) w6 fa6 ob st of F)) (u := 0) rfl (by decide) (rm_work ?_)
      show mm_W _ _ _ _ _ _ _ (150, [(7, .int (nI (LN + 4))), (6, .int (nI LN)), (5, .int (nI ct)), (0, .ref 10), (1, .int (nI o)), (2, .int (nI LN)), (3, .int (nI kc)), (4, .int 0)], [.int 388, .int 404, .ref 10], wP pre (wN (PP s6) (QQ s6) op oq tr (nI L1.1) w6 fa6 ob st of F), 0)
      refine mm_skip (mm_call_mono _ _) 1 (st' := (152, [(7, .int (nI (LN + 4))), (6, .int (nI LN)), (5, .int (nI ct)), (0, .ref 10), (1, .int (nI o)), (2, .int (nI LN)), (3, .int (nI kc)), (4, .int 0)], [.int 6, .int 388, .int 404, .ref 10], wP pre (wN (PP s6) (QQ s6) op oq tr (nI L1.1) w6 fa6 ob st of F), 0)) rfl ?_
      refine mm_inv (mm_call_mono _ _) (j := 85) (a := [.int 6]) (M := wP pre (wN (PP s6) (QQ s6) op oq tr (nI L1.1) w6 fa6 ob st of F)) (u := 0) rfl (by decide) (rm_work ?_)
      show mm_W _ _ _ _ _ _ _ (155, [(7, .int (nI (LN + 4))), (6, .int (nI LN)), (5, .int (nI ct)), (0, .ref 10), (1, .int (nI o)), (2, .int (nI LN)), (3, .int (nI kc)), (4, .int 0)], [.int 392, .int 388, .int 404, .ref 10], wP pre (wN (PP s6) (QQ s6) op oq tr (nI L1.1) w6 fa6 ob st of F), 0)
      refine mm_inv (mm_call_mono _ _) (j := 78) (a := [.ref 10, .int 404, .int 388, .int 392]) (M := wP pre (wN (PP s6) (QQ s6) op oq tr (nI L1.1) w6 fa6 ob st of F)) (u := 0) rfl (by decide) (rg_mul (D := 404) (A := 388) (B := 392) V6 z6 hl1 (by omega) R_6 W3_6 W4_6 (fun s7 w7 h7 => ?_))
      show mm_W _ _ _ _ _ _ _ (158, [(7, .int (nI (LN + 4))), (6, .int (nI LN)), (5, .int (nI ct)), (0, .ref 10), (1, .int (nI o)), (2, .int (nI LN)), (3, .int (nI kc)), (4, .int 0)], [], wP pre (wN (PP s7) (QQ s7) op oq tr (nI L1.1) w7 fa6 ob st of F), 0)
      have V7 := h7.1
      have z7 := h7.2.1
      have S7 := gs_s S6 h7 (fun k => by omega)
      have F7 := g_F S6 F6 E6 h7
      have E7 := g_E E6 h7
      have R_7 := r_k R_6 h7 (by omega)
      have A_7 := t_k A_6 h7 (by omega)
      have B_7 := t_k B_6 h7 (by omega)
      have D_7 := t_k D_6 h7 (by omega)
      have G_7 := t_k G_6 h7 (by omega)
      have I_7 := t_k I_6 h7 (by omega)
      have W4_7 := t_k W4_6 h7 (by omega)
      have W6_7 := t_k W6_6 h7 (by omega)
      have W7_7 := t_new h7
      refine mm_skip (mm_call_mono _ _) 2 (st' := (161, [(7, .int (nI (LN + 4))), (6, .int (nI LN)), (5, .int (nI ct)), (0, .ref 10), (1, .int (nI o)), (2, .int (nI LN)), (3, .int (nI kc)), (4, .int 0)], [.int 10, .ref 10], wP pre (wN (PP s7) (QQ s7) op oq tr (nI L1.1) w7 fa6 ob st of F), 0)) rfl ?_
      refine mm_inv (mm_call_mono _ _) (j := 85) (a := [.int 10]) (M := wP pre (wN (PP s7) (QQ s7) op oq tr (nI L1.1) w7 fa6 ob st of F)) (u := 0) rfl (by decide) (rm_work ?_)
      show mm_W _ _ _ _ _ _ _ (164, [(7, .int (nI (LN + 4))), (6, .int (nI LN)), (5, .int (nI ct)), (0, .ref 10), (1, .int (nI o)), (2, .int (nI LN)), (3, .int (nI kc)), (4, .int 0)], [.int 408, .ref 10], wP pre (wN (PP s7) (QQ s7) op oq tr (nI L1.1) w7 fa6 ob st of F), 0)
      refine mm_skip (mm_call_mono _ _) 1 (st' := (166, [(7, .int (nI (LN + 4))), (6, .int (nI LN)), (5, .int (nI ct)), (0, .ref 10), (1, .int (nI o)), (2, .int (nI LN)), (3, .int (nI kc)), (4, .int 0)], [.int 8, .int 408, .ref 10], wP pre (wN (PP s7) (QQ s7) op oq tr (nI L1.1) w7 fa6 ob st of F), 0)) rfl ?_
      refine mm_inv (mm_call_mono _ _) (j := 85) (a := [.int 8]) (M := wP pre (wN (PP s7) (QQ s7) op oq tr (nI L1.1) w7 fa6 ob st of F)) (u := 0) rfl (by decide) (rm_work ?_)
      show mm_W _ _ _ _ _ _ _ (169, [(7, .int (nI (LN + 4))), (6, .int (nI LN)), (5, .int (nI ct)), (0, .ref 10), (1, .int (nI o)), (2, .int (nI LN)), (3, .int (nI kc)), (4, .int 0)], [.int 400, .int 408, .ref 10], wP pre (wN (PP s7) (QQ s7) op oq tr (nI L1.1) w7 fa6 ob st of F), 0)
      refine mm_skip (mm_call_mono _ _) 1 (st' := (171, [(7, .int (nI (LN + 4))), (6, .int (nI LN)), (5, .int (nI ct)), (0, .ref 10), (1, .int (nI o)), (2, .int (nI LN)), (3, .int (nI kc)), (4, .int 0)], [.int 6, .int 400, .int 408, .ref 10], wP pre (wN (PP s7) (QQ s7) op oq tr (nI L1.1) w7 fa6 ob st of F), 0)) rfl ?_
      refine mm_inv (mm_call_mono _ _) (j := 85) (a := [.int 6]) (M := wP pre (wN (PP s7) (QQ s7) op oq tr (nI L1.1) w7 fa6 ob st of F)) (u := 0) rfl (by decide) (rm_work ?_)
      show mm_W _ _ _ _ _ _ _ (174, [(7, .int (nI (LN + 4))), (6, .int (nI LN)), (5, .int (nI ct)), (0, .ref 10), (1, .int (nI o)), (2, .int (nI LN)), (3, .int (nI kc)), (4, .int 0)], [.int 392, .int 400, .int 408, .ref 10], wP pre (wN (PP s7) (QQ s7) op oq tr (nI L1.1) w7 fa6 ob st of F), 0)
      refine mm_inv (mm_call_mono _ _) (j := 78) (a := [.ref 10, .int 408, .int 400, .int 392]) (M := wP pre (wN (PP s7) (QQ s7) op oq tr (nI L1.1) w7 fa6 ob st of F)) (u := 0) rfl (by decide) (rg_mul (D := 408) (A := 400) (B := 392) V7 z7 hl1 (by omega) R_7 W6_7 W4_7 (fun s8 w8 h8 => ?_))
      show mm_W _ _ _ _ _ _ _ (177, [(7, .int (nI (LN + 4))), (6, .int (nI LN)), (5, .int (nI ct)), (0, .ref 10), (1, .int (nI o)), (2, .int (nI LN)), (3, .int (nI kc)), (4, .int 0)], [], wP pre (wN (PP s8) (QQ s8) op oq tr (nI L1.1) w8 fa6 ob st of F), 0)
      have V8 := h8.1
      have z8 := h8.2.1
      have S8 := gs_s S7 h8 (fun k => by omega)
      have F8 := g_F S7 F7 E7 h8
      have E8 := g_E E7 h8
      have R_8 := r_k R_7 h8 (by omega)
      have A_8 := t_k A_7 h8 (by omega)
      have B_8 := t_k B_7 h8 (by omega)
      have D_8 := t_k D_7 h8 (by omega)
      have G_8 := t_k G_7 h8 (by omega)
      have I_8 := t_k I_7 h8 (by omega)
      have W7_8 := t_k W7_7 h8 (by omega)
      have W8_8 := t_new h8
      refine mm_skip (mm_call_mono _ _) 2 (st' := (180, [(7, .int (nI (LN + 4))), (6, .int (nI LN)), (5, .int (nI ct)), (0, .ref 10), (1, .int (nI o)), (2, .int (nI LN)), (3, .int (nI kc)), (4, .int 0)], [.int 11, .ref 10], wP pre (wN (PP s8) (QQ s8) op oq tr (nI L1.1) w8 fa6 ob st of F), 0)) rfl ?_
      refine mm_inv (mm_call_mono _ _) (j := 85) (a := [.int 11]) (M := wP pre (wN (PP s8) (QQ s8) op oq tr (nI L1.1) w8 fa6 ob st of F)) (u := 0) rfl (by decide) (rm_work ?_)
      show mm_W _ _ _ _ _ _ _ (183, [(7, .int (nI (LN + 4))), (6, .int (nI LN)), (5, .int (nI ct)), (0, .ref 10), (1, .int (nI o)), (2, .int (nI LN)), (3, .int (nI kc)), (4, .int 0)], [.int 412, .ref 10], wP pre (wN (PP s8) (QQ s8) op oq tr (nI L1.1) w8 fa6 ob st of F), 0)
      refine mm_skip (mm_call_mono _ _) 2 (st' := (186, [(7, .int (nI (LN + 4))), (6, .int (nI LN)), (5, .int (nI ct)), (0, .ref 10), (1, .int (nI o)), (2, .int (nI LN)), (3, .int (nI kc)), (4, .int 0)], [.int 4, .int (nI (LN + 4)), .int 412, .ref 10], wP pre (wN (PP s8) (QQ s8) op oq tr (nI L1.1) w8 fa6 ob st of F), 0)) rfl ?_
      refine mm_inv (mm_call_mono _ _) (j := 61) (a := [.ref 10, .int 412, .int (nI (LN + 4)), .int 4]) (M := wP pre (wN (PP s8) (QQ s8) op oq tr (nI L1.1) w8 fa6 ob st of F)) (u := 0) rfl (by decide) (rg_neg (D := 412) (A := (LN + 4)) V8 z8 hl1 (by omega) B_8 (fun s9 w9 h9 => ?_))
      show mm_W _ _ _ _ _ _ _ (189, [(7, .int (nI (LN + 4))), (6, .int (nI LN)), (5, .int (nI ct)), (0, .ref 10), (1, .int (nI o)), (2, .int (nI LN)), (3, .int (nI kc)), (4, .int 0)], [], wP pre (wN (PP s9) (QQ s9) op oq tr (nI L1.1) w9 fa6 ob st of F), 0)
      have V9 := h9.1
      have z9 := h9.2.1
      have S9 := gs_s S8 h9 (fun k => by omega)
      have F9 := g_F S8 F8 E8 h9
      have E9 := g_E E8 h9
      have R_9 := r_k R_8 h9 (by omega)
      have A_9 := t_k A_8 h9 (by omega)
      have B_9 := t_k B_8 h9 (by omega)
      have D_9 := t_k D_8 h9 (by omega)
      have G_9 := t_k G_8 h9 (by omega)
      have I_9 := t_k I_8 h9 (by omega)
      have W7_9 := t_k W7_8 h9 (by omega)
      have W8_9 := t_k W8_8 h9 (by omega)
      have W9_9 := t_new h9
      refine mm_skip (mm_call_mono _ _) 2 (st' := (192, [(7, .int (nI (LN + 4))), (6, .int (nI LN)), (5, .int (nI ct)), (0, .ref 10), (1, .int (nI o)), (2, .int (nI LN)), (3, .int (nI kc)), (4, .int 0)], [.int 12, .ref 10], wP pre (wN (PP s9) (QQ s9) op oq tr (nI L1.1) w9 fa6 ob st of F), 0)) rfl ?_
      refine mm_inv (mm_call_mono _ _) (j := 85) (a := [.int 12]) (M := wP pre (wN (PP s9) (QQ s9) op oq tr (nI L1.1) w9 fa6 ob st of F)) (u := 0) rfl (by decide) (rm_work ?_)
      show mm_W _ _ _ _ _ _ _ (195, [(7, .int (nI (LN + 4))), (6, .int (nI LN)), (5, .int (nI ct)), (0, .ref 10), (1, .int (nI o)), (2, .int (nI LN)), (3, .int (nI kc)), (4, .int 0)], [.int 416, .ref 10], wP pre (wN (PP s9) (QQ s9) op oq tr (nI L1.1) w9 fa6 ob st of F), 0)
      refine mm_skip (mm_call_mono _ _) 2 (st' := (199, [(7, .int (nI (LN + 4))), (6, .int (nI LN)), (5, .int (nI ct)), (0, .ref 10), (1, .int (nI o)), (2, .int (nI LN)), (3, .int (nI kc)), (4, .int 0)], [.int 9, .int (nI LN), .int 416, .ref 10], wP pre (wN (PP s9) (QQ s9) op oq tr (nI L1.1) w9 fa6 ob st of F), 0)) rfl ?_
      refine mm_inv (mm_call_mono _ _) (j := 85) (a := [.int 9]) (M := wP pre (wN (PP s9) (QQ s9) op oq tr (nI L1.1) w9 fa6 ob st of F)) (u := 0) rfl (by decide) (rm_work ?_)
      show mm_W _ _ _ _ _ _ _ (202, [(7, .int (nI (LN + 4))), (6, .int (nI LN)), (5, .int (nI ct)), (0, .ref 10), (1, .int (nI o)), (2, .int (nI LN)), (3, .int (nI kc)), (4, .int 0)], [.int 404, .int (nI LN), .int 416, .ref 10], wP pre (wN (PP s9) (QQ s9) op oq tr (nI L1.1) w9 fa6 ob st of F), 0)
      refine mm_inv (mm_call_mono _ _) (j := 78) (a := [.ref 10, .int 416, .int (nI LN), .int 404]) (M := wP pre (wN (PP s9) (QQ s9) op oq tr (nI L1.1) w9 fa6 ob st of F)) (u := 0) rfl (by decide) (rg_mul (D := 416) (A := LN) (B := 404) V9 z9 hl1 (by omega) R_9 A_9 W7_9 (fun s10 w10 h10 => ?_))
      show mm_W _ _ _ _ _ _ _ (205, [(7, .int (nI (LN + 4))), (6, .int (nI LN)), (5, .int (nI ct)), (0, .ref 10), (1, .int (nI o)), (2, .int (nI LN)), (3, .int (nI kc)), (4, .int 0)], [], wP pre (wN (PP s10) (QQ s10) op oq tr (nI L1.1) w10 fa6 ob st of F), 0)
      have V10 := h10.1
      have z10 := h10.2.1
      have S10 := gs_s S9 h10 (fun k => by omega)
      have F10 := g_F S9 F9 E9 h10
      have E10 := g_E E9 h10
      have R_10 := r_k R_9 h10 (by omega)
      have A_10 := t_k A_9 h10 (by omega)
      have B_10 := t_k B_9 h10 (by omega)
      have D_10 := t_k D_9 h10 (by omega)
      have G_10 := t_k G_9 h10 (by omega)
      have I_10 := t_k I_9 h10 (by omega)
      have W7_10 := t_k W7_9 h10 (by omega)
      have W8_10 := t_k W8_9 h10 (by omega)
      have W9_10 := t_k W9_9 h10 (by omega)
      have W10_10 := t_new h10
      refine mm_skip (mm_call_mono _ _) 2 (st' := (208, [(7, .int (nI (LN + 4))), (6, .int (nI LN)), (5, .int (nI ct)), (0, .ref 10), (1, .int (nI o)), (2, .int (nI LN)), (3, .int (nI kc)), (4, .int 0)], [.int 12, .ref 10], wP pre (wN (PP s10) (QQ s10) op oq tr (nI L1.1) w10 fa6 ob st of F), 0)) rfl ?_
      refine mm_inv (mm_call_mono _ _) (j := 85) (a := [.int 12]) (M := wP pre (wN (PP s10) (QQ s10) op oq tr (nI L1.1) w10 fa6 ob st of F)) (u := 0) rfl (by decide) (rm_work ?_)
      show mm_W _ _ _ _ _ _ _ (211, [(7, .int (nI (LN + 4))), (6, .int (nI LN)), (5, .int (nI ct)), (0, .ref 10), (1, .int (nI o)), (2, .int (nI LN)), (3, .int (nI kc)), (4, .int 0)], [.int 416, .ref 10], wP pre (wN (PP s10) (QQ s10) op oq tr (nI L1.1) w10 fa6 ob st of F), 0)
      refine mm_skip (mm_call_mono _ _) 1 (st' := (213, [(7, .int (nI (LN + 4))), (6, .int (nI LN)), (5, .int (nI ct)), (0, .ref 10), (1, .int (nI o)), (2, .int (nI LN)), (3, .int (nI kc)), (4, .int 0)], [.int (nI ct), .int 416, .ref 10], wP pre (wN (PP s10) (QQ s10) op oq tr (nI L1.1) w10 fa6 ob st of F), 0)) rfl ?_
      refine mm_inv (mm_call_mono _ _) (j := 83) (a := [.int (nI ct)]) (M := wP pre (wN (PP s10) (QQ s10) op oq tr (nI L1.1) w10 fa6 ob st of F)) (u := 0) rfl (by decide) (rm_xOf (o := ct) ?_)
      show mm_W _ _ _ _ _ _ _ (216, [(7, .int (nI (LN + 4))), (6, .int (nI LN)), (5, .int (nI ct)), (0, .ref 10), (1, .int (nI o)), (2, .int (nI LN)), (3, .int (nI kc)), (4, .int 0)], [.int (nI (12 * ct)), .int 416, .ref 10], wP pre (wN (PP s10) (QQ s10) op oq tr (nI L1.1) w10 fa6 ob st of F), 0)
      refine mm_skip (mm_call_mono _ _) 1 (st' := (218, [(7, .int (nI (LN + 4))), (6, .int (nI LN)), (5, .int (nI ct)), (0, .ref 10), (1, .int (nI o)), (2, .int (nI LN)), (3, .int (nI kc)), (4, .int 0)], [.int 12, .int (nI (12 * ct)), .int 416, .ref 10], wP pre (wN (PP s10) (QQ s10) op oq tr (nI L1.1) w10 fa6 ob st of F), 0)) rfl ?_
      refine mm_inv (mm_call_mono _ _) (j := 85) (a := [.int 12]) (M := wP pre (wN (PP s10) (QQ s10) op oq tr (nI L1.1) w10 fa6 ob st of F)) (u := 0) rfl (by decide) (rm_work ?_)
      show mm_W _ _ _ _ _ _ _ (221, [(7, .int (nI (LN + 4))), (6, .int (nI LN)), (5, .int (nI ct)), (0, .ref 10), (1, .int (nI o)), (2, .int (nI LN)), (3, .int (nI kc)), (4, .int 0)], [.int 416, .int (nI (12 * ct)), .int 416, .ref 10], wP pre (wN (PP s10) (QQ s10) op oq tr (nI L1.1) w10 fa6 ob st of F), 0)
      refine mm_skip (mm_call_mono _ _) 1 (st' := (222, [(7, .int (nI (LN + 4))), (6, .int (nI LN)), (5, .int (nI ct)), (0, .ref 10), (1, .int (nI o)), (2, .int (nI LN)), (3, .int (nI kc)), (4, .int 0)], [.int 4, .int 416, .int (nI (12 * ct)), .int 416, .ref 10], wP pre (wN (PP s10) (QQ s10) op oq tr (nI L1.1) w10 fa6 ob st of F), 0)) rfl ?_
      refine mm_inv (mm_call_mono _ _) (j := 59) (a := [.ref 10, .int 416, .int (nI (12 * ct)), .int 416, .int 4]) (M := wP pre (wN (PP s10) (QQ s10) op oq tr (nI L1.1) w10 fa6 ob st of F)) (u := 0) rfl (by decide) (rg_add (D := 416) (A := (12 * ct)) (B := 416) V10 z10 hl1 (by omega) D_10 W10_10 (fun s11 w11 h11 => ?_))
      show mm_W _ _ _ _ _ _ _ (225, [(7, .int (nI (LN + 4))), (6, .int (nI LN)), (5, .int (nI ct)), (0, .ref 10), (1, .int (nI o)), (2, .int (nI LN)), (3, .int (nI kc)), (4, .int 0)], [], wP pre (wN (PP s11) (QQ s11) op oq tr (nI L1.1) w11 fa6 ob st of F), 0)
      have V11 := h11.1
      have z11 := h11.2.1
      have S11 := gs_s S10 h11 (fun k => by omega)
      have F11 := g_F S10 F10 E10 h11
      have E11 := g_E E10 h11
      have R_11 := r_k R_10 h11 (by omega)
      have A_11 := t_k A_10 h11 (by omega)
      have B_11 := t_k B_10 h11 (by omega)
      have G_11 := t_k G_10 h11 (by omega)
      have I_11 := t_k I_10 h11 (by omega)
      have W7_11 := t_k W7_10 h11 (by omega)
      have W8_11 := t_k W8_10 h11 (by omega)
      have W9_11 := t_k W9_10 h11 (by omega)
      have W11_11 := t_new h11
      refine mm_skip (mm_call_mono _ _) 2 (st' := (228, [(7, .int (nI (LN + 4))), (6, .int (nI LN)), (5, .int (nI ct)), (0, .ref 10), (1, .int (nI o)), (2, .int (nI LN)), (3, .int (nI kc)), (4, .int 0)], [.int 13, .ref 10], wP pre (wN (PP s11) (QQ s11) op oq tr (nI L1.1) w11 fa6 ob st of F), 0)) rfl ?_
      refine mm_inv (mm_call_mono _ _) (j := 85) (a := [.int 13]) (M := wP pre (wN (PP s11) (QQ s11) op oq tr (nI L1.1) w11 fa6 ob st of F)) (u := 0) rfl (by decide) (rm_work ?_)
      show mm_W _ _ _ _ _ _ _ (231, [(7, .int (nI (LN + 4))), (6, .int (nI LN)), (5, .int (nI ct)), (0, .ref 10), (1, .int (nI o)), (2, .int (nI LN)), (3, .int (nI kc)), (4, .int 0)], [.int 420, .ref 10], wP pre (wN (PP s11) (QQ s11) op oq tr (nI L1.1) w11 fa6 ob st of F), 0)
      refine mm_skip (mm_call_mono _ _) 1 (st' := (233, [(7, .int (nI (LN + 4))), (6, .int (nI LN)), (5, .int (nI ct)), (0, .ref 10), (1, .int (nI o)), (2, .int (nI LN)), (3, .int (nI kc)), (4, .int 0)], [.int 11, .int 420, .ref 10], wP pre (wN (PP s11) (QQ s11) op oq tr (nI L1.1) w11 fa6 ob st of F), 0)) rfl ?_
      refine mm_inv (mm_call_mono _ _) (j := 85) (a := [.int 11]) (M := wP pre (wN (PP s11) (QQ s11) op oq tr (nI L1.1) w11 fa6 ob st of F)) (u := 0) rfl (by decide) (rm_work ?_)
      show mm_W _ _ _ _ _ _ _ (236, [(7, .int (nI (LN + 4))), (6, .int (nI LN)), (5, .int (nI ct)), (0, .ref 10), (1, .int (nI o)), (2, .int (nI LN)), (3, .int (nI kc)), (4, .int 0)], [.int 412, .int 420, .ref 10], wP pre (wN (PP s11) (QQ s11) op oq tr (nI L1.1) w11 fa6 ob st of F), 0)
      refine mm_skip (mm_call_mono _ _) 1 (st' := (238, [(7, .int (nI (LN + 4))), (6, .int (nI LN)), (5, .int (nI ct)), (0, .ref 10), (1, .int (nI o)), (2, .int (nI LN)), (3, .int (nI kc)), (4, .int 0)], [.int 10, .int 412, .int 420, .ref 10], wP pre (wN (PP s11) (QQ s11) op oq tr (nI L1.1) w11 fa6 ob st of F), 0)) rfl ?_
      refine mm_inv (mm_call_mono _ _) (j := 85) (a := [.int 10]) (M := wP pre (wN (PP s11) (QQ s11) op oq tr (nI L1.1) w11 fa6 ob st of F)) (u := 0) rfl (by decide) (rm_work ?_)
      show mm_W _ _ _ _ _ _ _ (241, [(7, .int (nI (LN + 4))), (6, .int (nI LN)), (5, .int (nI ct)), (0, .ref 10), (1, .int (nI o)), (2, .int (nI LN)), (3, .int (nI kc)), (4, .int 0)], [.int 408, .int 412, .int 420, .ref 10], wP pre (wN (PP s11) (QQ s11) op oq tr (nI L1.1) w11 fa6 ob st of F), 0)
      refine mm_inv (mm_call_mono _ _) (j := 78) (a := [.ref 10, .int 420, .int 412, .int 408]) (M := wP pre (wN (PP s11) (QQ s11) op oq tr (nI L1.1) w11 fa6 ob st of F)) (u := 0) rfl (by decide) (rg_mul (D := 420) (A := 412) (B := 408) V11 z11 hl1 (by omega) R_11 W9_11 W8_11 (fun s12 w12 h12 => ?_))
      show mm_W _ _ _ _ _ _ _ (244, [(7, .int (nI (LN + 4))), (6, .int (nI LN)), (5, .int (nI ct)), (0, .ref 10), (1, .int (nI o)), (2, .int (nI LN)), (3, .int (nI kc)), (4, .int 0)], [], wP pre (wN (PP s12) (QQ s12) op oq tr (nI L1.1) w12 fa6 ob st of F), 0)
      have V12 := h12.1
      have z12 := h12.2.1
      have S12 := gs_s S11 h12 (fun k => by omega)
      have F12 := g_F S11 F11 E11 h12
      have E12 := g_E E11 h12
      have R_12 := r_k R_11 h12 (by omega)
      have A_12 := t_k A_11 h12 (by omega)
      have B_12 := t_k B_11 h12 (by omega)
      have G_12 := t_k G_11 h12 (by omega)
      have I_12 := t_k I_11 h12 (by omega)
      have W7_12 := t_k W7_11 h12 (by omega)
      have W8_12 := t_k W8_11 h12 (by omega)
      have W11_12 := t_k W11_11 h12 (by omega)
      have W12_12 := t_new h12
      refine mm_skip (mm_call_mono _ _) 2 (st' := (247, [(7, .int (nI (LN + 4))), (6, .int (nI LN)), (5, .int (nI ct)), (0, .ref 10), (1, .int (nI o)), (2, .int (nI LN)), (3, .int (nI kc)), (4, .int 0)], [.int 14, .ref 10], wP pre (wN (PP s12) (QQ s12) op oq tr (nI L1.1) w12 fa6 ob st of F), 0)) rfl ?_
      refine mm_inv (mm_call_mono _ _) (j := 85) (a := [.int 14]) (M := wP pre (wN (PP s12) (QQ s12) op oq tr (nI L1.1) w12 fa6 ob st of F)) (u := 0) rfl (by decide) (rm_work ?_)
      show mm_W _ _ _ _ _ _ _ (250, [(7, .int (nI (LN + 4))), (6, .int (nI LN)), (5, .int (nI ct)), (0, .ref 10), (1, .int (nI o)), (2, .int (nI LN)), (3, .int (nI kc)), (4, .int 0)], [.int 424, .ref 10], wP pre (wN (PP s12) (QQ s12) op oq tr (nI L1.1) w12 fa6 ob st of F), 0)
      refine mm_skip (mm_call_mono _ _) 2 (st' := (254, [(7, .int (nI (LN + 4))), (6, .int (nI LN)), (5, .int (nI ct)), (0, .ref 10), (1, .int (nI o)), (2, .int (nI LN)), (3, .int (nI kc)), (4, .int 0)], [.int 9, .int (nI (LN + 4)), .int 424, .ref 10], wP pre (wN (PP s12) (QQ s12) op oq tr (nI L1.1) w12 fa6 ob st of F), 0)) rfl ?_
      refine mm_inv (mm_call_mono _ _) (j := 85) (a := [.int 9]) (M := wP pre (wN (PP s12) (QQ s12) op oq tr (nI L1.1) w12 fa6 ob st of F)) (u := 0) rfl (by decide) (rm_work ?_)
      show mm_W _ _ _ _ _ _ _ (257, [(7, .int (nI (LN + 4))), (6, .int (nI LN)), (5, .int (nI ct)), (0, .ref 10), (1, .int (nI o)), (2, .int (nI LN)), (3, .int (nI kc)), (4, .int 0)], [.int 404, .int (nI (LN + 4)), .int 424, .ref 10], wP pre (wN (PP s12) (QQ s12) op oq tr (nI L1.1) w12 fa6 ob st of F), 0)
      refine mm_inv (mm_call_mono _ _) (j := 78) (a := [.ref 10, .int 424, .int (nI (LN + 4)), .int 404]) (M := wP pre (wN (PP s12) (QQ s12) op oq tr (nI L1.1) w12 fa6 ob st of F)) (u := 0) rfl (by decide) (rg_mul (D := 424) (A := (LN + 4)) (B := 404) V12 z12 hl1 (by omega) R_12 B_12 W7_12 (fun s13 w13 h13 => ?_))
      show mm_W _ _ _ _ _ _ _ (260, [(7, .int (nI (LN + 4))), (6, .int (nI LN)), (5, .int (nI ct)), (0, .ref 10), (1, .int (nI o)), (2, .int (nI LN)), (3, .int (nI kc)), (4, .int 0)], [], wP pre (wN (PP s13) (QQ s13) op oq tr (nI L1.1) w13 fa6 ob st of F), 0)
      have V13 := h13.1
      have z13 := h13.2.1
      have S13 := gs_s S12 h13 (fun k => by omega)
      have F13 := g_F S12 F12 E12 h13
      have E13 := g_E E12 h13
      have R_13 := r_k R_12 h13 (by omega)
      have A_13 := t_k A_12 h13 (by omega)
      have G_13 := t_k G_12 h13 (by omega)
      have I_13 := t_k I_12 h13 (by omega)
      have W8_13 := t_k W8_12 h13 (by omega)
      have W11_13 := t_k W11_12 h13 (by omega)
      have W12_13 := t_k W12_12 h13 (by omega)
      have W13_13 := t_new h13
      refine mm_skip (mm_call_mono _ _) 2 (st' := (263, [(7, .int (nI (LN + 4))), (6, .int (nI LN)), (5, .int (nI ct)), (0, .ref 10), (1, .int (nI o)), (2, .int (nI LN)), (3, .int (nI kc)), (4, .int 0)], [.int 14, .ref 10], wP pre (wN (PP s13) (QQ s13) op oq tr (nI L1.1) w13 fa6 ob st of F), 0)) rfl ?_
      refine mm_inv (mm_call_mono _ _) (j := 85) (a := [.int 14]) (M := wP pre (wN (PP s13) (QQ s13) op oq tr (nI L1.1) w13 fa6 ob st of F)) (u := 0) rfl (by decide) (rm_work ?_)
      show mm_W _ _ _ _ _ _ _ (266, [(7, .int (nI (LN + 4))), (6, .int (nI LN)), (5, .int (nI ct)), (0, .ref 10), (1, .int (nI o)), (2, .int (nI LN)), (3, .int (nI kc)), (4, .int 0)], [.int 424, .ref 10], wP pre (wN (PP s13) (QQ s13) op oq tr (nI L1.1) w13 fa6 ob st of F), 0)
      refine mm_skip (mm_call_mono _ _) 1 (st' := (268, [(7, .int (nI (LN + 4))), (6, .int (nI LN)), (5, .int (nI ct)), (0, .ref 10), (1, .int (nI o)), (2, .int (nI LN)), (3, .int (nI kc)), (4, .int 0)], [.int (nI ct), .int 424, .ref 10], wP pre (wN (PP s13) (QQ s13) op oq tr (nI L1.1) w13 fa6 ob st of F), 0)) rfl ?_
      refine mm_inv (mm_call_mono _ _) (j := 84) (a := [.int (nI ct)]) (M := wP pre (wN (PP s13) (QQ s13) op oq tr (nI L1.1) w13 fa6 ob st of F)) (u := 0) rfl (by decide) (rm_yOf (o := ct) ?_)
      show mm_W _ _ _ _ _ _ _ (271, [(7, .int (nI (LN + 4))), (6, .int (nI LN)), (5, .int (nI ct)), (0, .ref 10), (1, .int (nI o)), (2, .int (nI LN)), (3, .int (nI kc)), (4, .int 0)], [.int (nI (12 * ct + 4)), .int 424, .ref 10], wP pre (wN (PP s13) (QQ s13) op oq tr (nI L1.1) w13 fa6 ob st of F), 0)
      refine mm_skip (mm_call_mono _ _) 1 (st' := (273, [(7, .int (nI (LN + 4))), (6, .int (nI LN)), (5, .int (nI ct)), (0, .ref 10), (1, .int (nI o)), (2, .int (nI LN)), (3, .int (nI kc)), (4, .int 0)], [.int 14, .int (nI (12 * ct + 4)), .int 424, .ref 10], wP pre (wN (PP s13) (QQ s13) op oq tr (nI L1.1) w13 fa6 ob st of F), 0)) rfl ?_
      refine mm_inv (mm_call_mono _ _) (j := 85) (a := [.int 14]) (M := wP pre (wN (PP s13) (QQ s13) op oq tr (nI L1.1) w13 fa6 ob st of F)) (u := 0) rfl (by decide) (rm_work ?_)
      show mm_W _ _ _ _ _ _ _ (276, [(7, .int (nI (LN + 4))), (6, .int (nI LN)), (5, .int (nI ct)), (0, .ref 10), (1, .int (nI o)), (2, .int (nI LN)), (3, .int (nI kc)), (4, .int 0)], [.int 424, .int (nI (12 * ct + 4)), .int 424, .ref 10], wP pre (wN (PP s13) (QQ s13) op oq tr (nI L1.1) w13 fa6 ob st of F), 0)
      refine mm_skip (mm_call_mono _ _) 1 (st' := (277, [(7, .int (nI (LN + 4))), (6, .int (nI LN)), (5, .int (nI ct)), (0, .ref 10), (1, .int (nI o)), (2, .int (nI LN)), (3, .int (nI kc)), (4, .int 0)], [.int 4, .int 424, .int (nI (12 * ct + 4)), .int 424, .ref 10], wP pre (wN (PP s13) (QQ s13) op oq tr (nI L1.1) w13 fa6 ob st of F), 0)) rfl ?_
      refine mm_inv (mm_call_mono _ _) (j := 59) (a := [.ref 10, .int 424, .int (nI (12 * ct + 4)), .int 424, .int 4]) (M := wP pre (wN (PP s13) (QQ s13) op oq tr (nI L1.1) w13 fa6 ob st of F)) (u := 0) rfl (by decide) (rg_add (D := 424) (A := (12 * ct + 4)) (B := 424) V13 z13 hl1 (by omega) G_13 W13_13 (fun s14 w14 h14 => ?_))
      show mm_W _ _ _ _ _ _ _ (280, [(7, .int (nI (LN + 4))), (6, .int (nI LN)), (5, .int (nI ct)), (0, .ref 10), (1, .int (nI o)), (2, .int (nI LN)), (3, .int (nI kc)), (4, .int 0)], [], wP pre (wN (PP s14) (QQ s14) op oq tr (nI L1.1) w14 fa6 ob st of F), 0)
      have V14 := h14.1
      have z14 := h14.2.1
      have S14 := gs_s S13 h14 (fun k => by omega)
      have F14 := g_F S13 F13 E13 h14
      have E14 := g_E E13 h14
      have R_14 := r_k R_13 h14 (by omega)
      have A_14 := t_k A_13 h14 (by omega)
      have I_14 := t_k I_13 h14 (by omega)
      have W8_14 := t_k W8_13 h14 (by omega)
      have W11_14 := t_k W11_13 h14 (by omega)
      have W12_14 := t_k W12_13 h14 (by omega)
      have W14_14 := t_new h14
      refine mm_skip (mm_call_mono _ _) 2 (st' := (283, [(7, .int (nI (LN + 4))), (6, .int (nI LN)), (5, .int (nI ct)), (0, .ref 10), (1, .int (nI o)), (2, .int (nI LN)), (3, .int (nI kc)), (4, .int 0)], [.int 15, .ref 10], wP pre (wN (PP s14) (QQ s14) op oq tr (nI L1.1) w14 fa6 ob st of F), 0)) rfl ?_
      refine mm_inv (mm_call_mono _ _) (j := 85) (a := [.int 15]) (M := wP pre (wN (PP s14) (QQ s14) op oq tr (nI L1.1) w14 fa6 ob st of F)) (u := 0) rfl (by decide) (rm_work ?_)
      show mm_W _ _ _ _ _ _ _ (286, [(7, .int (nI (LN + 4))), (6, .int (nI LN)), (5, .int (nI ct)), (0, .ref 10), (1, .int (nI o)), (2, .int (nI LN)), (3, .int (nI kc)), (4, .int 0)], [.int 428, .ref 10], wP pre (wN (PP s14) (QQ s14) op oq tr (nI L1.1) w14 fa6 ob st of F), 0)
      refine mm_skip (mm_call_mono _ _) 2 (st' := (290, [(7, .int (nI (LN + 4))), (6, .int (nI LN)), (5, .int (nI ct)), (0, .ref 10), (1, .int (nI o)), (2, .int (nI LN)), (3, .int (nI kc)), (4, .int 0)], [.int 10, .int (nI LN), .int 428, .ref 10], wP pre (wN (PP s14) (QQ s14) op oq tr (nI L1.1) w14 fa6 ob st of F), 0)) rfl ?_
      refine mm_inv (mm_call_mono _ _) (j := 85) (a := [.int 10]) (M := wP pre (wN (PP s14) (QQ s14) op oq tr (nI L1.1) w14 fa6 ob st of F)) (u := 0) rfl (by decide) (rm_work ?_)
      show mm_W _ _ _ _ _ _ _ (293, [(7, .int (nI (LN + 4))), (6, .int (nI LN)), (5, .int (nI ct)), (0, .ref 10), (1, .int (nI o)), (2, .int (nI LN)), (3, .int (nI kc)), (4, .int 0)], [.int 408, .int (nI LN), .int 428, .ref 10], wP pre (wN (PP s14) (QQ s14) op oq tr (nI L1.1) w14 fa6 ob st of F), 0)
      refine mm_inv (mm_call_mono _ _) (j := 78) (a := [.ref 10, .int 428, .int (nI LN), .int 408]) (M := wP pre (wN (PP s14) (QQ s14) op oq tr (nI L1.1) w14 fa6 ob st of F)) (u := 0) rfl (by decide) (rg_mul (D := 428) (A := LN) (B := 408) V14 z14 hl1 (by omega) R_14 A_14 W8_14 (fun s15 w15 h15 => ?_))
      show mm_W _ _ _ _ _ _ _ (296, [(7, .int (nI (LN + 4))), (6, .int (nI LN)), (5, .int (nI ct)), (0, .ref 10), (1, .int (nI o)), (2, .int (nI LN)), (3, .int (nI kc)), (4, .int 0)], [], wP pre (wN (PP s15) (QQ s15) op oq tr (nI L1.1) w15 fa6 ob st of F), 0)
      have V15 := h15.1
      have z15 := h15.2.1
      have S15 := gs_s S14 h15 (fun k => by omega)
      have F15 := g_F S14 F14 E14 h15
      have E15 := g_E E14 h15
      have R_15 := r_k R_14 h15 (by omega)
      have I_15 := t_k I_14 h15 (by omega)
      have W11_15 := t_k W11_14 h15 (by omega)
      have W12_15 := t_k W12_14 h15 (by omega)
      have W14_15 := t_k W14_14 h15 (by omega)
      have W15_15 := t_new h15
      refine mm_skip (mm_call_mono _ _) 1 (st' := (298, [(7, .int (nI (LN + 4))), (6, .int (nI LN)), (5, .int (nI ct)), (0, .ref 10), (1, .int (nI o)), (2, .int (nI LN)), (3, .int (nI kc)), (4, .int 0)], [.int 0], wP pre (wN (PP s15) (QQ s15) op oq tr (nI L1.1) w15 fa6 ob st of F), 0)) rfl ?_
      refine mm_branch (mm_call_mono _ _) (c := (0 : Int32) = 0) (s1 := (301, [(7, .int (nI (LN + 4))), (6, .int (nI LN)), (5, .int (nI ct)), (0, .ref 10), (1, .int (nI o)), (2, .int (nI LN)), (3, .int (nI kc)), (4, .int 0)], [], wP pre (wN (PP s15) (QQ s15) op oq tr (nI L1.1) w15 fa6 ob st of F), 0)) (s2 := (342, [(7, .int (nI (LN + 4))), (6, .int (nI LN)), (5, .int (nI ct)), (0, .ref 10), (1, .int (nI o)), (2, .int (nI LN)), (3, .int (nI kc)), (4, .int 0)], [], wP pre (wN (PP s15) (QQ s15) op oq tr (nI L1.1) w15 fa6 ob st of F), 0)) rfl (fun _ => ?_) (fun h => absurd (by decide) h)
      refine mm_skip (mm_call_mono _ _) 2 (st' := (303, [(7, .int (nI (LN + 4))), (6, .int (nI LN)), (5, .int (nI ct)), (0, .ref 10), (1, .int (nI o)), (2, .int (nI LN)), (3, .int (nI kc)), (4, .int 0)], [.int (nI o), .ref 10], wP pre (wN (PP s15) (QQ s15) op oq tr (nI L1.1) w15 fa6 ob st of F), 0)) rfl ?_
      refine mm_inv (mm_call_mono _ _) (j := 83) (a := [.int (nI o)]) (M := wP pre (wN (PP s15) (QQ s15) op oq tr (nI L1.1) w15 fa6 ob st of F)) (u := 0) rfl (by decide) (rm_xOf (o := o) ?_)
      show mm_W _ _ _ _ _ _ _ (306, [(7, .int (nI (LN + 4))), (6, .int (nI LN)), (5, .int (nI ct)), (0, .ref 10), (1, .int (nI o)), (2, .int (nI LN)), (3, .int (nI kc)), (4, .int 0)], [.int (nI (12 * o)), .ref 10], wP pre (wN (PP s15) (QQ s15) op oq tr (nI L1.1) w15 fa6 ob st of F), 0)
      refine mm_skip (mm_call_mono _ _) 1 (st' := (308, [(7, .int (nI (LN + 4))), (6, .int (nI LN)), (5, .int (nI ct)), (0, .ref 10), (1, .int (nI o)), (2, .int (nI LN)), (3, .int (nI kc)), (4, .int 0)], [.int 12, .int (nI (12 * o)), .ref 10], wP pre (wN (PP s15) (QQ s15) op oq tr (nI L1.1) w15 fa6 ob st of F), 0)) rfl ?_
      refine mm_inv (mm_call_mono _ _) (j := 85) (a := [.int 12]) (M := wP pre (wN (PP s15) (QQ s15) op oq tr (nI L1.1) w15 fa6 ob st of F)) (u := 0) rfl (by decide) (rm_work ?_)
      show mm_W _ _ _ _ _ _ _ (311, [(7, .int (nI (LN + 4))), (6, .int (nI LN)), (5, .int (nI ct)), (0, .ref 10), (1, .int (nI o)), (2, .int (nI LN)), (3, .int (nI kc)), (4, .int 0)], [.int 416, .int (nI (12 * o)), .ref 10], wP pre (wN (PP s15) (QQ s15) op oq tr (nI L1.1) w15 fa6 ob st of F), 0)
      refine mm_skip (mm_call_mono _ _) 1 (st' := (313, [(7, .int (nI (LN + 4))), (6, .int (nI LN)), (5, .int (nI ct)), (0, .ref 10), (1, .int (nI o)), (2, .int (nI LN)), (3, .int (nI kc)), (4, .int 0)], [.int 13, .int 416, .int (nI (12 * o)), .ref 10], wP pre (wN (PP s15) (QQ s15) op oq tr (nI L1.1) w15 fa6 ob st of F), 0)) rfl ?_
      refine mm_inv (mm_call_mono _ _) (j := 85) (a := [.int 13]) (M := wP pre (wN (PP s15) (QQ s15) op oq tr (nI L1.1) w15 fa6 ob st of F)) (u := 0) rfl (by decide) (rm_work ?_)
      show mm_W _ _ _ _ _ _ _ (316, [(7, .int (nI (LN + 4))), (6, .int (nI LN)), (5, .int (nI ct)), (0, .ref 10), (1, .int (nI o)), (2, .int (nI LN)), (3, .int (nI kc)), (4, .int 0)], [.int 420, .int 416, .int (nI (12 * o)), .ref 10], wP pre (wN (PP s15) (QQ s15) op oq tr (nI L1.1) w15 fa6 ob st of F), 0)
      refine mm_skip (mm_call_mono _ _) 1 (st' := (317, [(7, .int (nI (LN + 4))), (6, .int (nI LN)), (5, .int (nI ct)), (0, .ref 10), (1, .int (nI o)), (2, .int (nI LN)), (3, .int (nI kc)), (4, .int 0)], [.int 4, .int 420, .int 416, .int (nI (12 * o)), .ref 10], wP pre (wN (PP s15) (QQ s15) op oq tr (nI L1.1) w15 fa6 ob st of F), 0)) rfl ?_
      refine mm_inv (mm_call_mono _ _) (j := 60) (a := [.ref 10, .int (nI (12 * o)), .int 416, .int 420, .int 4]) (M := wP pre (wN (PP s15) (QQ s15) op oq tr (nI L1.1) w15 fa6 ob st of F)) (u := 0) rfl (by decide) (rg_sub (D := (12 * o)) (A := 416) (B := 420) V15 z15 hl1 (by omega) W11_15 W12_15 (fun s16 w16 h16 => ?_))
      show mm_W _ _ _ _ _ _ _ (320, [(7, .int (nI (LN + 4))), (6, .int (nI LN)), (5, .int (nI ct)), (0, .ref 10), (1, .int (nI o)), (2, .int (nI LN)), (3, .int (nI kc)), (4, .int 0)], [], wP pre (wN (PP s16) (QQ s16) op oq tr (nI L1.1) w16 fa6 ob st of F), 0)
      have V16 := h16.1
      have z16 := h16.2.1
      have S16 := gs_s S15 h16 (fun k => by omega)
      have F16 := g_F S15 F15 E15 h16
      have E16 := g_E E15 h16
      have R_16 := r_k R_15 h16 (by omega)
      have I_16 := t_k I_15 h16 (by omega)
      have W14_16 := t_k W14_15 h16 (by omega)
      have W15_16 := t_k W15_15 h16 (by omega)
      have W16_16 := t_new h16
      refine mm_skip (mm_call_mono _ _) 2 (st' := (322, [(7, .int (nI (LN + 4))), (6, .int (nI LN)), (5, .int (nI ct)), (0, .ref 10), (1, .int (nI o)), (2, .int (nI LN)), (3, .int (nI kc)), (4, .int 0)], [.int (nI o), .ref 10], wP pre (wN (PP s16) (QQ s16) op oq tr (nI L1.1) w16 fa6 ob st of F), 0)) rfl ?_
      refine mm_inv (mm_call_mono _ _) (j := 84) (a := [.int (nI o)]) (M := wP pre (wN (PP s16) (QQ s16) op oq tr (nI L1.1) w16 fa6 ob st of F)) (u := 0) rfl (by decide) (rm_yOf (o := o) ?_)
      show mm_W _ _ _ _ _ _ _ (325, [(7, .int (nI (LN + 4))), (6, .int (nI LN)), (5, .int (nI ct)), (0, .ref 10), (1, .int (nI o)), (2, .int (nI LN)), (3, .int (nI kc)), (4, .int 0)], [.int (nI (12 * o + 4)), .ref 10], wP pre (wN (PP s16) (QQ s16) op oq tr (nI L1.1) w16 fa6 ob st of F), 0)
      refine mm_skip (mm_call_mono _ _) 1 (st' := (327, [(7, .int (nI (LN + 4))), (6, .int (nI LN)), (5, .int (nI ct)), (0, .ref 10), (1, .int (nI o)), (2, .int (nI LN)), (3, .int (nI kc)), (4, .int 0)], [.int 14, .int (nI (12 * o + 4)), .ref 10], wP pre (wN (PP s16) (QQ s16) op oq tr (nI L1.1) w16 fa6 ob st of F), 0)) rfl ?_
      refine mm_inv (mm_call_mono _ _) (j := 85) (a := [.int 14]) (M := wP pre (wN (PP s16) (QQ s16) op oq tr (nI L1.1) w16 fa6 ob st of F)) (u := 0) rfl (by decide) (rm_work ?_)
      show mm_W _ _ _ _ _ _ _ (330, [(7, .int (nI (LN + 4))), (6, .int (nI LN)), (5, .int (nI ct)), (0, .ref 10), (1, .int (nI o)), (2, .int (nI LN)), (3, .int (nI kc)), (4, .int 0)], [.int 424, .int (nI (12 * o + 4)), .ref 10], wP pre (wN (PP s16) (QQ s16) op oq tr (nI L1.1) w16 fa6 ob st of F), 0)
      refine mm_skip (mm_call_mono _ _) 1 (st' := (332, [(7, .int (nI (LN + 4))), (6, .int (nI LN)), (5, .int (nI ct)), (0, .ref 10), (1, .int (nI o)), (2, .int (nI LN)), (3, .int (nI kc)), (4, .int 0)], [.int 15, .int 424, .int (nI (12 * o + 4)), .ref 10], wP pre (wN (PP s16) (QQ s16) op oq tr (nI L1.1) w16 fa6 ob st of F), 0)) rfl ?_
      refine mm_inv (mm_call_mono _ _) (j := 85) (a := [.int 15]) (M := wP pre (wN (PP s16) (QQ s16) op oq tr (nI L1.1) w16 fa6 ob st of F)) (u := 0) rfl (by decide) (rm_work ?_)
      show mm_W _ _ _ _ _ _ _ (335, [(7, .int (nI (LN + 4))), (6, .int (nI LN)), (5, .int (nI ct)), (0, .ref 10), (1, .int (nI o)), (2, .int (nI LN)), (3, .int (nI kc)), (4, .int 0)], [.int 428, .int 424, .int (nI (12 * o + 4)), .ref 10], wP pre (wN (PP s16) (QQ s16) op oq tr (nI L1.1) w16 fa6 ob st of F), 0)
      refine mm_skip (mm_call_mono _ _) 1 (st' := (336, [(7, .int (nI (LN + 4))), (6, .int (nI LN)), (5, .int (nI ct)), (0, .ref 10), (1, .int (nI o)), (2, .int (nI LN)), (3, .int (nI kc)), (4, .int 0)], [.int 4, .int 428, .int 424, .int (nI (12 * o + 4)), .ref 10], wP pre (wN (PP s16) (QQ s16) op oq tr (nI L1.1) w16 fa6 ob st of F), 0)) rfl ?_
      refine mm_inv (mm_call_mono _ _) (j := 60) (a := [.ref 10, .int (nI (12 * o + 4)), .int 424, .int 428, .int 4]) (M := wP pre (wN (PP s16) (QQ s16) op oq tr (nI L1.1) w16 fa6 ob st of F)) (u := 0) rfl (by decide) (rg_sub (D := (12 * o + 4)) (A := 424) (B := 428) V16 z16 hl1 (by omega) W14_16 W15_16 (fun s17 w17 h17 => ?_))
      show mm_W _ _ _ _ _ _ _ (339, [(7, .int (nI (LN + 4))), (6, .int (nI LN)), (5, .int (nI ct)), (0, .ref 10), (1, .int (nI o)), (2, .int (nI LN)), (3, .int (nI kc)), (4, .int 0)], [], wP pre (wN (PP s17) (QQ s17) op oq tr (nI L1.1) w17 fa6 ob st of F), 0)
      have V17 := h17.1
      have z17 := h17.2.1
      have S17 := gs_s S16 h17 (fun k => by omega)
      have F17 := g_F S16 F16 E16 h17
      have E17 := g_E E16 h17
      have R_17 := r_k R_16 h17 (by omega)
      have I_17 := t_k I_16 h17 (by omega)
      have W16_17 := t_k W16_16 h17 (by omega)
      have W17_17 := t_new h17
      refine mm_skip (mm_call_mono _ _) 1 (st' := (380, [(7, .int (nI (LN + 4))), (6, .int (nI LN)), (5, .int (nI ct)), (0, .ref 10), (1, .int (nI o)), (2, .int (nI LN)), (3, .int (nI kc)), (4, .int 0)], [], wP pre (wN (PP s17) (QQ s17) op oq tr (nI L1.1) w17 fa6 ob st of F), 0)) rfl ?_
      exact mm_ret (mm_call_mono _ _) (c := True) (r := .inl none) (M := wP pre (wN (PP s17) (QQ s17) op oq tr (nI L1.1) w17 fa6 ob st of F)) (u := 0) rfl trivial (by decide) (by have e9 := dr_ofM (L := L) S17 (fun k q => q) hl1 W16_17 W17_17 I_17 R_17 E17 F17; rw [rCut_eq] at e9; rw [g1]; exact hQ _ _ _ _ e9)
    · skip
      exact mm_ret (mm_call_mono _ _) (c := True) (r := .inl none) (M := wP pre (wN (PP s6) (QQ s6) op oq tr (nI L1.1) w6 fa6 ob st of F)) (u := 0) rfl trivial (by decide) (hQ _ _ _ _ (dr_fM (L := L) S6 (fun k q => q) hl1 h6.2.2.1 (Or.inl (mm_z1 z6 g2)) (by rw [← rCut_eq]; exact FT (Or.inl (mm_z1 z6 g2)) rfl)))
  · skip
    exact mm_ret (mm_call_mono _ _) (c := True) (r := .inl none) (M := wP pre (wN (PP s6) (QQ s6) op oq tr (nI L1.1) w6 fa6 ob st of F)) (u := 0) rfl trivial (by decide) (hQ _ _ _ _ (dr_fM (L := L) S6 (fun k q => q) hl1 h6.2.2.1 (Or.inr (mm_z1 h6.2.2.1 g1)) (by rw [← rCut_eq]; exact FT (Or.inr (mm_z1 h6.2.2.1 g1)) rfl)))

set_option maxRecDepth 100000 in
theorem rk_cut_1 {d : Nat} {pre : mm_pre} {s : Nat → fr} {op oq : Nat → Int64} {tr ob : Int32} {st of : Nat → Int32} {F : mm_M} {L : lvR} {o : Nat} {LN kc ct : Nat} {va vb vc x y sq : n4} {Q : mm_R → mm_M → Prop} (hV : ∀ k, fv (s k)) (hl : L.1 ≤ 2) (hg : kc < o ∧ ct < o ∧ o < 24 ∧ (LN + 12 ≤ 288 ∨ LN = 368) ∧ (LN + 12 ≤ 12 * o ∨ 12 * o + 12 ≤ LN)) (hof : of (4 * kc) = nI ct) (R : rdM s 0 L) (Hf : isM s 0 1 299 (fun _ => (1, 2))) (A : tM s 0 L.1 (LN) va) (B : tM s 0 L.1 ((LN + 4)) vb) (C : tM s 0 L.1 ((LN + 8)) vc) (D : tM s 0 L.1 (12 * ct) x) (G : tM s 0 L.1 ((12 * ct + 4)) y) (H : tM s 0 L.1 (12 * kc) sq) (I : tM s 0 L.1 ((12 * o + 8)) zz) (hQ : ∀ (s1 : Nat → fr) (w1 fa1 : Int32) (L1 : lvR), drM s L o (mCut L va vb vc x y sq false) s1 w1 fa1 L1 → Q (.inl none) (wP pre (wN (PP s1) (QQ s1) op oq tr (nI L1.1) w1 fa1 ob st of F))) : mm_call mm_Tb (d + 12) 92 [.ref 10, .int (nI o), .int (nI LN), .int (nI kc), .int 1] (wP pre (wN (PP s) (QQ s) op oq tr (nI L.1) 0 0 ob st of F)) Q := by
  have S0 := ms_0 (wi := 0) (Z := fun k => 300 ≤ k ∨ (12 * o ≤ k ∧ k < 12 * o + 12) ∨ (288 ≤ k ∧ k < 291 ∧ (L.1 = 0 ∨ (L.1 = 1 ∧ 289 ≤ k)))) hV (Or.inl rfl)
  have F0 : (0 : Int32) = 1 → (0 : Int32) = 0 → rCut L va vb vc x y sq false = none := fun h1 h0 => absurd (h1.symm.trans h0) z10
  have E0 : (0 : Int32) = 0 → rCut L va vb vc x y sq false = Option.bind (xprod L va va vb vb) _ := fun _ => rfl
  refine mm_in mt_92 (Nat.le_of_ble_eq_true rfl) ?_
  show mm_W _ _ _ _ _ _ _ (0, [(0, .ref 10), (1, .int (nI o)), (2, .int (nI LN)), (3, .int (nI kc)), (4, .int 1)], [], wP pre (wN (PP s) (QQ s) op oq tr (nI L.1) 0 0 ob st of F), 0)
  refine mm_skip (mm_call_mono _ _) 5 (st' := (7, [(0, .ref 10), (1, .int (nI o)), (2, .int (nI LN)), (3, .int (nI kc)), (4, .int 1)], [.int (4 * (nI kc)), .ref 16], wP pre (wN (PP s) (QQ s) op oq tr (nI L.1) 0 0 ob st of F), 0)) rfl ?_
  rw [nI_m4 kc]
  show mm_W _ _ _ _ _ _ _ (7, [(0, .ref 10), (1, .int (nI o)), (2, .int (nI LN)), (3, .int (nI kc)), (4, .int 1)], [.int (nI (4 * kc)), .ref 16], wP pre (wN (PP s) (QQ s) op oq tr (nI L.1) 0 0 ob st of F), 0)
  refine mm_need (mm_call_mono _ _) (c := vp_in (nI (4 * kc)) 96) (s' := (8, [(0, .ref 10), (1, .int (nI o)), (2, .int (nI LN)), (3, .int (nI kc)), (4, .int 1)], [.int (of (Int32.toNatClampNeg (nI (4 * kc))))], wP pre (wN (PP s) (QQ s) op oq tr (nI L.1) 0 0 ob st of F), 0)) rfl (vp_in_nI (show (4 * kc) < 96 by omega) (by decide)) ?_
  rw [nI_clamp (show (4 * kc) < 2 ^ 31 by omega)]
  show mm_W _ _ _ _ _ _ _ (8, [(0, .ref 10), (1, .int (nI o)), (2, .int (nI LN)), (3, .int (nI kc)), (4, .int 1)], [.int (of (4 * kc))], wP pre (wN (PP s) (QQ s) op oq tr (nI L.1) 0 0 ob st of F), 0)
  rw [hof]
  show mm_W _ _ _ _ _ _ _ (8, [(0, .ref 10), (1, .int (nI o)), (2, .int (nI LN)), (3, .int (nI kc)), (4, .int 1)], [.int (nI ct)], wP pre (wN (PP s) (QQ s) op oq tr (nI L.1) 0 0 ob st of F), 0)
  refine mm_skip (mm_call_mono _ _) 9 (st' := (20, [(7, .int ((nI LN) + 4)), (6, .int (nI LN)), (5, .int (nI ct)), (0, .ref 10), (1, .int (nI o)), (2, .int (nI LN)), (3, .int (nI kc)), (4, .int 1)], [.int 4, .ref 10], wP pre (wN (PP s) (QQ s) op oq tr (nI L.1) 0 0 ob st of F), 0)) rfl ?_
  rw [nI_p4 (LN)]
  show mm_W _ _ _ _ _ _ _ (20, [(7, .int (nI (LN + 4))), (6, .int (nI LN)), (5, .int (nI ct)), (0, .ref 10), (1, .int (nI o)), (2, .int (nI LN)), (3, .int (nI kc)), (4, .int 1)], [.int 4, .ref 10], wP pre (wN (PP s) (QQ s) op oq tr (nI L.1) 0 0 ob st of F), 0)
  refine mm_inv (mm_call_mono _ _) (j := 85) (a := [.int 4]) (M := wP pre (wN (PP s) (QQ s) op oq tr (nI L.1) 0 0 ob st of F)) (u := 0) rfl (by decide) (rm_work ?_)
  show mm_W _ _ _ _ _ _ _ (23, [(7, .int (nI (LN + 4))), (6, .int (nI LN)), (5, .int (nI ct)), (0, .ref 10), (1, .int (nI o)), (2, .int (nI LN)), (3, .int (nI kc)), (4, .int 1)], [.int 384, .ref 10], wP pre (wN (PP s) (QQ s) op oq tr (nI L.1) 0 0 ob st of F), 0)
  refine mm_skip (mm_call_mono _ _) 4 (st' := (31, [(7, .int (nI (LN + 4))), (6, .int (nI LN)), (5, .int (nI ct)), (0, .ref 10), (1, .int (nI o)), (2, .int (nI LN)), (3, .int (nI kc)), (4, .int 1)], [.int (nI (LN + 4)), .int (nI (LN + 4)), .int (nI LN), .int (nI LN), .int 384, .ref 10], wP pre (wN (PP s) (QQ s) op oq tr (nI L.1) 0 0 ob st of F), 0)) rfl ?_
  refine mm_inv (mm_call_mono _ _) (j := 86) (a := [.ref 10, .int 384, .int (nI LN), .int (nI LN), .int (nI (LN + 4)), .int (nI (LN + 4))]) (M := wP pre (wN (PP s) (QQ s) op oq tr (nI L.1) 0 0 ob st of F)) (u := 0) rfl (by decide) (rg_products (D := 384) (A := LN) (B := LN) (C := (LN + 4)) (E := (LN + 4)) hV (Or.inl rfl) hl (by omega) R A A B B (fun s1 w1 h1 => ?_))
  show mm_W _ _ _ _ _ _ _ (34, [(7, .int (nI (LN + 4))), (6, .int (nI LN)), (5, .int (nI ct)), (0, .ref 10), (1, .int (nI o)), (2, .int (nI LN)), (3, .int (nI kc)), (4, .int 1)], [], wP pre (wN (PP s1) (QQ s1) op oq tr (nI L.1) w1 0 ob st of F), 0)
  have V1 := h1.1
  have z1 := h1.2.1
  have S1 := gs_s S0 h1 (fun k => by omega)
  have F1 := g_F S0 F0 E0 h1
  have E1 := g_E E0 h1
  have R_1 := r_k R h1 (by omega)
  have Hf_1 := f_k Hf h1 (by omega)
  have A_1 := t_k A h1 (by omega)
  have B_1 := t_k B h1 (by omega)
  have C_1 := t_k C h1 (by omega)
  have D_1 := t_k D h1 (by omega)
  have G_1 := t_k G h1 (by omega)
  have H_1 := t_k H h1 (by omega)
  have I_1 := t_k I h1 (by omega)
  have W1_1 := t_new h1
  refine mm_skip (mm_call_mono _ _) 2 (st' := (36, [(7, .int (nI (LN + 4))), (6, .int (nI LN)), (5, .int (nI ct)), (0, .ref 10), (1, .int (nI o)), (2, .int (nI LN)), (3, .int (nI kc)), (4, .int 1)], [.int 5, .ref 10], wP pre (wN (PP s1) (QQ s1) op oq tr (nI L.1) w1 0 ob st of F), 0)) rfl ?_
  refine mm_inv (mm_call_mono _ _) (j := 85) (a := [.int 5]) (M := wP pre (wN (PP s1) (QQ s1) op oq tr (nI L.1) w1 0 ob st of F)) (u := 0) rfl (by decide) (rm_work ?_)
  show mm_W _ _ _ _ _ _ _ (39, [(7, .int (nI (LN + 4))), (6, .int (nI LN)), (5, .int (nI ct)), (0, .ref 10), (1, .int (nI o)), (2, .int (nI LN)), (3, .int (nI kc)), (4, .int 1)], [.int 388, .ref 10], wP pre (wN (PP s1) (QQ s1) op oq tr (nI L.1) w1 0 ob st of F), 0)
  refine mm_skip (mm_call_mono _ _) 2 (st' := (43, [(7, .int (nI (LN + 4))), (6, .int (nI LN)), (5, .int (nI ct)), (0, .ref 10), (1, .int (nI o)), (2, .int (nI LN)), (3, .int (nI kc)), (4, .int 1)], [.int (nI ct), .int (nI LN), .int 388, .ref 10], wP pre (wN (PP s1) (QQ s1) op oq tr (nI L.1) w1 0 ob st of F), 0)) rfl ?_
  refine mm_inv (mm_call_mono _ _) (j := 83) (a := [.int (nI ct)]) (M := wP pre (wN (PP s1) (QQ s1) op oq tr (nI L.1) w1 0 ob st of F)) (u := 0) rfl (by decide) (rm_xOf (o := ct) ?_)
  show mm_W _ _ _ _ _ _ _ (46, [(7, .int (nI (LN + 4))), (6, .int (nI LN)), (5, .int (nI ct)), (0, .ref 10), (1, .int (nI o)), (2, .int (nI LN)), (3, .int (nI kc)), (4, .int 1)], [.int (nI (12 * ct)), .int (nI LN), .int 388, .ref 10], wP pre (wN (PP s1) (QQ s1) op oq tr (nI L.1) w1 0 ob st of F), 0)
  refine mm_skip (mm_call_mono _ _) 2 (st' := (50, [(7, .int (nI (LN + 4))), (6, .int (nI LN)), (5, .int (nI ct)), (0, .ref 10), (1, .int (nI o)), (2, .int (nI LN)), (3, .int (nI kc)), (4, .int 1)], [.int (nI ct), .int (nI (LN + 4)), .int (nI (12 * ct)), .int (nI LN), .int 388, .ref 10], wP pre (wN (PP s1) (QQ s1) op oq tr (nI L.1) w1 0 ob st of F), 0)) rfl ?_
  refine mm_inv (mm_call_mono _ _) (j := 84) (a := [.int (nI ct)]) (M := wP pre (wN (PP s1) (QQ s1) op oq tr (nI L.1) w1 0 ob st of F)) (u := 0) rfl (by decide) (rm_yOf (o := ct) ?_)
  show mm_W _ _ _ _ _ _ _ (53, [(7, .int (nI (LN + 4))), (6, .int (nI LN)), (5, .int (nI ct)), (0, .ref 10), (1, .int (nI o)), (2, .int (nI LN)), (3, .int (nI kc)), (4, .int 1)], [.int (nI (12 * ct + 4)), .int (nI (LN + 4)), .int (nI (12 * ct)), .int (nI LN), .int 388, .ref 10], wP pre (wN (PP s1) (QQ s1) op oq tr (nI L.1) w1 0 ob st of F), 0)
  refine mm_inv (mm_call_mono _ _) (j := 86) (a := [.ref 10, .int 388, .int (nI LN), .int (nI (12 * ct)), .int (nI (LN + 4)), .int (nI (12 * ct + 4))]) (M := wP pre (wN (PP s1) (QQ s1) op oq tr (nI L.1) w1 0 ob st of F)) (u := 0) rfl (by decide) (rg_products (D := 388) (A := LN) (B := (12 * ct)) (C := (LN + 4)) (E := (12 * ct + 4)) V1 z1 hl (by omega) R_1 A_1 D_1 B_1 G_1 (fun s2 w2 h2 => ?_))
  show mm_W _ _ _ _ _ _ _ (56, [(7, .int (nI (LN + 4))), (6, .int (nI LN)), (5, .int (nI ct)), (0, .ref 10), (1, .int (nI o)), (2, .int (nI LN)), (3, .int (nI kc)), (4, .int 1)], [], wP pre (wN (PP s2) (QQ s2) op oq tr (nI L.1) w2 0 ob st of F), 0)
  have V2 := h2.1
  have z2 := h2.2.1
  have S2 := gs_s S1 h2 (fun k => by omega)
  have F2 := g_F S1 F1 E1 h2
  have E2 := g_E E1 h2
  have R_2 := r_k R_1 h2 (by omega)
  have Hf_2 := f_k Hf_1 h2 (by omega)
  have A_2 := t_k A_1 h2 (by omega)
  have B_2 := t_k B_1 h2 (by omega)
  have C_2 := t_k C_1 h2 (by omega)
  have D_2 := t_k D_1 h2 (by omega)
  have G_2 := t_k G_1 h2 (by omega)
  have H_2 := t_k H_1 h2 (by omega)
  have I_2 := t_k I_1 h2 (by omega)
  have W1_2 := t_k W1_1 h2 (by omega)
  have W2_2 := t_new h2
  refine mm_skip (mm_call_mono _ _) 2 (st' := (58, [(7, .int (nI (LN + 4))), (6, .int (nI LN)), (5, .int (nI ct)), (0, .ref 10), (1, .int (nI o)), (2, .int (nI LN)), (3, .int (nI kc)), (4, .int 1)], [.int 5, .ref 10], wP pre (wN (PP s2) (QQ s2) op oq tr (nI L.1) w2 0 ob st of F), 0)) rfl ?_
  refine mm_inv (mm_call_mono _ _) (j := 85) (a := [.int 5]) (M := wP pre (wN (PP s2) (QQ s2) op oq tr (nI L.1) w2 0 ob st of F)) (u := 0) rfl (by decide) (rm_work ?_)
  show mm_W _ _ _ _ _ _ _ (61, [(7, .int (nI (LN + 4))), (6, .int (nI LN)), (5, .int (nI ct)), (0, .ref 10), (1, .int (nI o)), (2, .int (nI LN)), (3, .int (nI kc)), (4, .int 1)], [.int 388, .ref 10], wP pre (wN (PP s2) (QQ s2) op oq tr (nI L.1) w2 0 ob st of F), 0)
  refine mm_skip (mm_call_mono _ _) 4 (st' := (66, [(7, .int (nI (LN + 4))), (6, .int (nI LN)), (5, .int (nI ct)), (0, .ref 10), (1, .int (nI o)), (2, .int (nI LN)), (3, .int (nI kc)), (4, .int 1)], [.int 5, .int ((nI LN) + 8), .int 388, .ref 10], wP pre (wN (PP s2) (QQ s2) op oq tr (nI L.1) w2 0 ob st of F), 0)) rfl ?_
  rw [nI_p8 (LN)]
  show mm_W _ _ _ _ _ _ _ (66, [(7, .int (nI (LN + 4))), (6, .int (nI LN)), (5, .int (nI ct)), (0, .ref 10), (1, .int (nI o)), (2, .int (nI LN)), (3, .int (nI kc)), (4, .int 1)], [.int 5, .int (nI (LN + 8)), .int 388, .ref 10], wP pre (wN (PP s2) (QQ s2) op oq tr (nI L.1) w2 0 ob st of F), 0)
  refine mm_inv (mm_call_mono _ _) (j := 85) (a := [.int 5]) (M := wP pre (wN (PP s2) (QQ s2) op oq tr (nI L.1) w2 0 ob st of F)) (u := 0) rfl (by decide) (rm_work ?_)
  show mm_W _ _ _ _ _ _ _ (69, [(7, .int (nI (LN + 4))), (6, .int (nI LN)), (5, .int (nI ct)), (0, .ref 10), (1, .int (nI o)), (2, .int (nI LN)), (3, .int (nI kc)), (4, .int 1)], [.int 388, .int (nI (LN + 8)), .int 388, .ref 10], wP pre (wN (PP s2) (QQ s2) op oq tr (nI L.1) w2 0 ob st of F), 0)
  refine mm_skip (mm_call_mono _ _) 1 (st' := (70, [(7, .int (nI (LN + 4))), (6, .int (nI LN)), (5, .int (nI ct)), (0, .ref 10), (1, .int (nI o)), (2, .int (nI LN)), (3, .int (nI kc)), (4, .int 1)], [.int 4, .int 388, .int (nI (LN + 8)), .int 388, .ref 10], wP pre (wN (PP s2) (QQ s2) op oq tr (nI L.1) w2 0 ob st of F), 0)) rfl ?_
  refine mm_inv (mm_call_mono _ _) (j := 60) (a := [.ref 10, .int 388, .int (nI (LN + 8)), .int 388, .int 4]) (M := wP pre (wN (PP s2) (QQ s2) op oq tr (nI L.1) w2 0 ob st of F)) (u := 0) rfl (by decide) (rg_sub (D := 388) (A := (LN + 8)) (B := 388) V2 z2 hl (by omega) C_2 W2_2 (fun s3 w3 h3 => ?_))
  show mm_W _ _ _ _ _ _ _ (73, [(7, .int (nI (LN + 4))), (6, .int (nI LN)), (5, .int (nI ct)), (0, .ref 10), (1, .int (nI o)), (2, .int (nI LN)), (3, .int (nI kc)), (4, .int 1)], [], wP pre (wN (PP s3) (QQ s3) op oq tr (nI L.1) w3 0 ob st of F), 0)
  have V3 := h3.1
  have z3 := h3.2.1
  have S3 := gs_s S2 h3 (fun k => by omega)
  have F3 := g_F S2 F2 E2 h3
  have E3 := g_E E2 h3
  have R_3 := r_k R_2 h3 (by omega)
  have Hf_3 := f_k Hf_2 h3 (by omega)
  have A_3 := t_k A_2 h3 (by omega)
  have B_3 := t_k B_2 h3 (by omega)
  have D_3 := t_k D_2 h3 (by omega)
  have G_3 := t_k G_2 h3 (by omega)
  have H_3 := t_k H_2 h3 (by omega)
  have I_3 := t_k I_2 h3 (by omega)
  have W1_3 := t_k W1_2 h3 (by omega)
  have W3_3 := t_new h3
  refine mm_skip (mm_call_mono _ _) 2 (st' := (76, [(7, .int (nI (LN + 4))), (6, .int (nI LN)), (5, .int (nI ct)), (0, .ref 10), (1, .int (nI o)), (2, .int (nI LN)), (3, .int (nI kc)), (4, .int 1)], [.int 6, .ref 10], wP pre (wN (PP s3) (QQ s3) op oq tr (nI L.1) w3 0 ob st of F), 0)) rfl ?_
  refine mm_inv (mm_call_mono _ _) (j := 85) (a := [.int 6]) (M := wP pre (wN (PP s3) (QQ s3) op oq tr (nI L.1) w3 0 ob st of F)) (u := 0) rfl (by decide) (rm_work ?_)
  show mm_W _ _ _ _ _ _ _ (79, [(7, .int (nI (LN + 4))), (6, .int (nI LN)), (5, .int (nI ct)), (0, .ref 10), (1, .int (nI o)), (2, .int (nI LN)), (3, .int (nI kc)), (4, .int 1)], [.int 392, .ref 10], wP pre (wN (PP s3) (QQ s3) op oq tr (nI L.1) w3 0 ob st of F), 0)
  refine mm_skip (mm_call_mono _ _) 1 (st' := (80, [(7, .int (nI (LN + 4))), (6, .int (nI LN)), (5, .int (nI ct)), (0, .ref 10), (1, .int (nI o)), (2, .int (nI LN)), (3, .int (nI kc)), (4, .int 1)], [.int 4, .int 392, .ref 10], wP pre (wN (PP s3) (QQ s3) op oq tr (nI L.1) w3 0 ob st of F), 0)) rfl ?_
  refine mm_inv (mm_call_mono _ _) (j := 85) (a := [.int 4]) (M := wP pre (wN (PP s3) (QQ s3) op oq tr (nI L.1) w3 0 ob st of F)) (u := 0) rfl (by decide) (rm_work ?_)
  show mm_W _ _ _ _ _ _ _ (83, [(7, .int (nI (LN + 4))), (6, .int (nI LN)), (5, .int (nI ct)), (0, .ref 10), (1, .int (nI o)), (2, .int (nI LN)), (3, .int (nI kc)), (4, .int 1)], [.int 384, .int 392, .ref 10], wP pre (wN (PP s3) (QQ s3) op oq tr (nI L.1) w3 0 ob st of F), 0)
  refine mm_inv (mm_call_mono _ _) (j := 79) (a := [.ref 10, .int 392, .int 384]) (M := wP pre (wN (PP s3) (QQ s3) op oq tr (nI L.1) w3 0 ob st of F)) (u := 0) rfl (by decide) (rg_inv (D := 392) (A := 384) V3 z3 hl (by omega) R_3 W1_3 (fun s4 w4 h4 => ?_))
  show mm_W _ _ _ _ _ _ _ (86, [(7, .int (nI (LN + 4))), (6, .int (nI LN)), (5, .int (nI ct)), (0, .ref 10), (1, .int (nI o)), (2, .int (nI LN)), (3, .int (nI kc)), (4, .int 1)], [], wP pre (wN (PP s4) (QQ s4) op oq tr (nI L.1) w4 0 ob st of F), 0)
  have V4 := h4.1
  have z4 := h4.2.1
  have S4 := gs_s S3 h4 (fun k => by omega)
  have F4 := g_F S3 F3 E3 h4
  have E4 := g_E E3 h4
  have R_4 := r_k R_3 h4 (by omega)
  have Hf_4 := f_k Hf_3 h4 (by omega)
  have A_4 := t_k A_3 h4 (by omega)
  have B_4 := t_k B_3 h4 (by omega)
  have D_4 := t_k D_3 h4 (by omega)
  have G_4 := t_k G_3 h4 (by omega)
  have H_4 := t_k H_3 h4 (by omega)
  have I_4 := t_k I_3 h4 (by omega)
  have W1_4 := t_k W1_3 h4 (by omega)
  have W3_4 := t_k W3_3 h4 (by omega)
  have W4_4 := t_new h4
  refine mm_skip (mm_call_mono _ _) 2 (st' := (89, [(7, .int (nI (LN + 4))), (6, .int (nI LN)), (5, .int (nI ct)), (0, .ref 10), (1, .int (nI o)), (2, .int (nI LN)), (3, .int (nI kc)), (4, .int 1)], [.int 7, .ref 10], wP pre (wN (PP s4) (QQ s4) op oq tr (nI L.1) w4 0 ob st of F), 0)) rfl ?_
  refine mm_inv (mm_call_mono _ _) (j := 85) (a := [.int 7]) (M := wP pre (wN (PP s4) (QQ s4) op oq tr (nI L.1) w4 0 ob st of F)) (u := 0) rfl (by decide) (rm_work ?_)
  show mm_W _ _ _ _ _ _ _ (92, [(7, .int (nI (LN + 4))), (6, .int (nI LN)), (5, .int (nI ct)), (0, .ref 10), (1, .int (nI o)), (2, .int (nI LN)), (3, .int (nI kc)), (4, .int 1)], [.int 396, .ref 10], wP pre (wN (PP s4) (QQ s4) op oq tr (nI L.1) w4 0 ob st of F), 0)
  refine mm_skip (mm_call_mono _ _) 4 (st' := (97, [(7, .int (nI (LN + 4))), (6, .int (nI LN)), (5, .int (nI ct)), (0, .ref 10), (1, .int (nI o)), (2, .int (nI LN)), (3, .int (nI kc)), (4, .int 1)], [.int 4, .int (12 * (nI kc)), .int 396, .ref 10], wP pre (wN (PP s4) (QQ s4) op oq tr (nI L.1) w4 0 ob st of F), 0)) rfl ?_
  rw [nI_m12 kc]
  show mm_W _ _ _ _ _ _ _ (97, [(7, .int (nI (LN + 4))), (6, .int (nI LN)), (5, .int (nI ct)), (0, .ref 10), (1, .int (nI o)), (2, .int (nI LN)), (3, .int (nI kc)), (4, .int 1)], [.int 4, .int (nI (12 * kc)), .int 396, .ref 10], wP pre (wN (PP s4) (QQ s4) op oq tr (nI L.1) w4 0 ob st of F), 0)
  refine mm_inv (mm_call_mono _ _) (j := 85) (a := [.int 4]) (M := wP pre (wN (PP s4) (QQ s4) op oq tr (nI L.1) w4 0 ob st of F)) (u := 0) rfl (by decide) (rm_work ?_)
  show mm_W _ _ _ _ _ _ _ (100, [(7, .int (nI (LN + 4))), (6, .int (nI LN)), (5, .int (nI ct)), (0, .ref 10), (1, .int (nI o)), (2, .int (nI LN)), (3, .int (nI kc)), (4, .int 1)], [.int 384, .int (nI (12 * kc)), .int 396, .ref 10], wP pre (wN (PP s4) (QQ s4) op oq tr (nI L.1) w4 0 ob st of F), 0)
  refine mm_skip (mm_call_mono _ _) 1 (st' := (101, [(7, .int (nI (LN + 4))), (6, .int (nI LN)), (5, .int (nI ct)), (0, .ref 10), (1, .int (nI o)), (2, .int (nI LN)), (3, .int (nI kc)), (4, .int 1)], [.int 5, .int 384, .int (nI (12 * kc)), .int 396, .ref 10], wP pre (wN (PP s4) (QQ s4) op oq tr (nI L.1) w4 0 ob st of F), 0)) rfl ?_
  refine mm_inv (mm_call_mono _ _) (j := 85) (a := [.int 5]) (M := wP pre (wN (PP s4) (QQ s4) op oq tr (nI L.1) w4 0 ob st of F)) (u := 0) rfl (by decide) (rm_work ?_)
  show mm_W _ _ _ _ _ _ _ (104, [(7, .int (nI (LN + 4))), (6, .int (nI LN)), (5, .int (nI ct)), (0, .ref 10), (1, .int (nI o)), (2, .int (nI LN)), (3, .int (nI kc)), (4, .int 1)], [.int 388, .int 384, .int (nI (12 * kc)), .int 396, .ref 10], wP pre (wN (PP s4) (QQ s4) op oq tr (nI L.1) w4 0 ob st of F), 0)
  refine mm_skip (mm_call_mono _ _) 1 (st' := (105, [(7, .int (nI (LN + 4))), (6, .int (nI LN)), (5, .int (nI ct)), (0, .ref 10), (1, .int (nI o)), (2, .int (nI LN)), (3, .int (nI kc)), (4, .int 1)], [.int 5, .int 388, .int 384, .int (nI (12 * kc)), .int 396, .ref 10], wP pre (wN (PP s4) (QQ s4) op oq tr (nI L.1) w4 0 ob st of F), 0)) rfl ?_
  refine mm_inv (mm_call_mono _ _) (j := 85) (a := [.int 5]) (M := wP pre (wN (PP s4) (QQ s4) op oq tr (nI L.1) w4 0 ob st of F)) (u := 0) rfl (by decide) (rm_work ?_)
  show mm_W _ _ _ _ _ _ _ (108, [(7, .int (nI (LN + 4))), (6, .int (nI LN)), (5, .int (nI ct)), (0, .ref 10), (1, .int (nI o)), (2, .int (nI LN)), (3, .int (nI kc)), (4, .int 1)], [.int 388, .int 388, .int 384, .int (nI (12 * kc)), .int 396, .ref 10], wP pre (wN (PP s4) (QQ s4) op oq tr (nI L.1) w4 0 ob st of F), 0)
  refine mm_inv (mm_call_mono _ _) (j := 87) (a := [.ref 10, .int 396, .int (nI (12 * kc)), .int 384, .int 388, .int 388]) (M := wP pre (wN (PP s4) (QQ s4) op oq tr (nI L.1) w4 0 ob st of F)) (u := 0) rfl (by decide) (rg_cross (D := 396) (A := (12 * kc)) (B := 384) (C := 388) (E := 388) V4 z4 hl (by omega) R_4 H_4 W1_4 W3_4 W3_4 (fun s5 w5 h5 => ?_))
  show mm_W _ _ _ _ _ _ _ (111, [(7, .int (nI (LN + 4))), (6, .int (nI LN)), (5, .int (nI ct)), (0, .ref 10), (1, .int (nI o)), (2, .int (nI LN)), (3, .int (nI kc)), (4, .int 1)], [], wP pre (wN (PP s5) (QQ s5) op oq tr (nI L.1) w5 0 ob st of F), 0)
  have V5 := h5.1
  have z5 := h5.2.1
  have S5 := gs_s S4 h5 (fun k => by omega)
  have F5 := g_F S4 F4 E4 h5
  have E5 := g_E E4 h5
  have R_5 := r_k R_4 h5 (by omega)
  have Hf_5 := f_k Hf_4 h5 (by omega)
  have A_5 := t_k A_4 h5 (by omega)
  have B_5 := t_k B_4 h5 (by omega)
  have D_5 := t_k D_4 h5 (by omega)
  have G_5 := t_k G_4 h5 (by omega)
  have I_5 := t_k I_4 h5 (by omega)
  have W3_5 := t_k W3_4 h5 (by omega)
  have W4_5 := t_k W4_4 h5 (by omega)
  have W5_5 := t_new h5
  refine mm_skip (mm_call_mono _ _) 2 (st' := (114, [(7, .int (nI (LN + 4))), (6, .int (nI LN)), (5, .int (nI ct)), (0, .ref 10), (1, .int (nI o)), (2, .int (nI LN)), (3, .int (nI kc)), (4, .int 1)], [.int 8, .ref 10], wP pre (wN (PP s5) (QQ s5) op oq tr (nI L.1) w5 0 ob st of F), 0)) rfl ?_
  refine mm_inv (mm_call_mono _ _) (j := 85) (a := [.int 8]) (M := wP pre (wN (PP s5) (QQ s5) op oq tr (nI L.1) w5 0 ob st of F)) (u := 0) rfl (by decide) (rm_work ?_)
  show mm_W _ _ _ _ _ _ _ (117, [(7, .int (nI (LN + 4))), (6, .int (nI LN)), (5, .int (nI ct)), (0, .ref 10), (1, .int (nI o)), (2, .int (nI LN)), (3, .int (nI kc)), (4, .int 1)], [.int 400, .ref 10], wP pre (wN (PP s5) (QQ s5) op oq tr (nI L.1) w5 0 ob st of F), 0)
  refine mm_skip (mm_call_mono _ _) 1 (st' := (119, [(7, .int (nI (LN + 4))), (6, .int (nI LN)), (5, .int (nI ct)), (0, .ref 10), (1, .int (nI o)), (2, .int (nI LN)), (3, .int (nI kc)), (4, .int 1)], [.int 7, .int 400, .ref 10], wP pre (wN (PP s5) (QQ s5) op oq tr (nI L.1) w5 0 ob st of F), 0)) rfl ?_
  refine mm_inv (mm_call_mono _ _) (j := 85) (a := [.int 7]) (M := wP pre (wN (PP s5) (QQ s5) op oq tr (nI L.1) w5 0 ob st of F)) (u := 0) rfl (by decide) (rm_work ?_)
  show mm_W _ _ _ _ _ _ _ (122, [(7, .int (nI (LN + 4))), (6, .int (nI LN)), (5, .int (nI ct)), (0, .ref 10), (1, .int (nI o)), (2, .int (nI LN)), (3, .int (nI kc)), (4, .int 1)], [.int 396, .int 400, .ref 10], wP pre (wN (PP s5) (QQ s5) op oq tr (nI L.1) w5 0 ob st of F), 0)
  refine mm_inv (mm_call_mono _ _) (j := 82) (a := [.ref 10, .int 400, .int 396]) (M := wP pre (wN (PP s5) (QQ s5) op oq tr (nI L.1) w5 0 ob st of F)) (u := 0) rfl (by decide) (rg_take (D := 400) (A := 396) V5 z5 hl (by omega) R_5 Hf_5 W5_5 (fun s6 w6 fa6 L1 vr h6 => ?_))
  show mm_W _ _ _ _ _ _ _ (125, [(7, .int (nI (LN + 4))), (6, .int (nI LN)), (5, .int (nI ct)), (0, .ref 10), (1, .int (nI o)), (2, .int (nI LN)), (3, .int (nI kc)), (4, .int 1)], [], wP pre (wN (PP s6) (QQ s6) op oq tr (nI L1.1) w6 fa6 ob st of F), 0)
  have V6 := h6.1
  have z6 := h6.2.1
  have hl1 := h6.2.2.2.1
  have hl2 := h6.2.2.2.2.1
  have S6 := ms_tk S5 h6 (fun k => by unfold zr; omega)
  have FT := tk_F S5 F5 E5 h6
  have F6 := fun (q : w6 = 1) h => FT (Or.inl q) h
  have A_6 := t_tk A_5 h6 hl2 (by omega)
  have B_6 := t_tk B_5 h6 hl2 (by omega)
  have D_6 := t_tk D_5 h6 hl2 (by omega)
  have G_6 := t_tk G_5 h6 hl2 (by omega)
  have I_6 := t_tk I_5 h6 hl2 (by omega)
  have W3_6 := t_tk W3_5 h6 hl2 (by omega)
  have W4_6 := t_tk W4_5 h6 hl2 (by omega)
  refine mm_skip (mm_call_mono _ _) 2 (st' := (129, [(7, .int (nI (LN + 4))), (6, .int (nI LN)), (5, .int (nI ct)), (0, .ref 10), (1, .int (nI o)), (2, .int (nI LN)), (3, .int (nI kc)), (4, .int 1)], [.int fa6], wP pre (wN (PP s6) (QQ s6) op oq tr (nI L1.1) w6 fa6 ob st of F), 0)) rfl ?_
  refine mm_branch (mm_call_mono _ _) (c := fa6 = 0) (s1 := (132, [(7, .int (nI (LN + 4))), (6, .int (nI LN)), (5, .int (nI ct)), (0, .ref 10), (1, .int (nI o)), (2, .int (nI LN)), (3, .int (nI kc)), (4, .int 1)], [], wP pre (wN (PP s6) (QQ s6) op oq tr (nI L1.1) w6 fa6 ob st of F), 0)) (s2 := (139, [(7, .int (nI (LN + 4))), (6, .int (nI LN)), (5, .int (nI ct)), (0, .ref 10), (1, .int (nI o)), (2, .int (nI LN)), (3, .int (nI kc)), (4, .int 1)], [], wP pre (wN (PP s6) (QQ s6) op oq tr (nI L1.1) w6 fa6 ob st of F), 0)) rfl (fun g1 => ?_) (fun g1 => ?_)
  · skip
    have E6 := tk_E E5 h6 g1
    obtain ⟨W6_6, R_6⟩ := tk_t h6 g1
    refine mm_skip (mm_call_mono _ _) 2 (st' := (136, [(7, .int (nI (LN + 4))), (6, .int (nI LN)), (5, .int (nI ct)), (0, .ref 10), (1, .int (nI o)), (2, .int (nI LN)), (3, .int (nI kc)), (4, .int 1)], [.int w6], wP pre (wN (PP s6) (QQ s6) op oq tr (nI L1.1) w6 fa6 ob st of F), 0)) rfl ?_
    refine mm_branch (mm_call_mono _ _) (c := w6 = 0) (s1 := (140, [(7, .int (nI (LN + 4))), (6, .int (nI LN)), (5, .int (nI ct)), (0, .ref 10), (1, .int (nI o)), (2, .int (nI LN)), (3, .int (nI kc)), (4, .int 1)], [], wP pre (wN (PP s6) (QQ s6) op oq tr (nI L1.1) w6 fa6 ob st of F), 0)) (s2 := (139, [(7, .int (nI (LN + 4))), (6, .int (nI LN)), (5, .int (nI ct)), (0, .ref 10), (1, .int (nI o)), (2, .int (nI LN)), (3, .int (nI kc)), (4, .int 1)], [], wP pre (wN (PP s6) (QQ s6) op oq tr (nI L1.1) w6 fa6 ob st of F), 0)) rfl (fun g2 => ?_) (fun g2 => ?_)
    · skip
      refine mm_skip (mm_call_mono _ _) 2 (st' := (143, [(7, .int (nI (LN + 4))), (6, .int (nI LN)), (5, .int (nI ct)), (0, .ref 10), (1, .int (nI o)), (2, .int (nI LN)), (3, .int (nI kc)), (4, .int 1)], [.int 9, .ref 10], wP pre (wN (PP s6) (QQ s6) op oq tr (nI L1.1) w6 fa6 ob st of F), 0)) rfl ?_
      refine mm_inv (mm_call_mono _ _) (j := 85) (a := [.int 9]) (M := wP pre (wN (PP s6) (QQ s6) op oq tr (nI L1.1) w6 fa6 ob st of F)) (u := 0) rfl (by decide) (rm_work ?_)
      show mm_W _ _ _ _ _ _ _ (146, [(7, .int (nI (LN + 4))), (6, .int (nI LN)), (5, .int (nI ct)), (0, .ref 10), (1, .int (nI o)), (2, .int (nI LN)), (3, .int (nI kc)), (4, .int 1)], [.int 404, .ref 10], wP pre (wN (PP s6) (QQ s6) op oq tr (nI L1.1) w6 fa6 ob st of F), 0)
      refine mm_skip (mm_call_mono _ _) 1 (st' := (147, [(7, .int (nI (LN + 4))), (6, .int (nI LN)), (5, .int (nI ct)), (0, .ref 10), (1, .int (nI o)), (2, .int (nI LN)), (3, .int (nI kc)), (4, .int 1)], [.int 5, .int 404, .ref 10], wP pre (wN (PP s6) (QQ s6) op oq tr (nI L1.1) w6 fa6 ob st of F), 0)) rfl ?_
      refine mm_inv (mm_call_mono _ _) (j := 85) (a := [.int 5]) (M := wP pre (wN (PP s6) (QQ s6) op oq tr (nI L1.1) w6 fa6 ob st of F)) (u := 0) rfl (by decide) (rm_work ?_)
      show mm_W _ _ _ _ _ _ _ (150, [(7, .int (nI (LN + 4))), (6, .int (nI LN)), (5, .int (nI ct)), (0, .ref 10), (1, .int (nI o)), (2, .int (nI LN)), (3, .int (nI kc)), (4, .int 1)], [.int 388, .int 404, .ref 10], wP pre (wN (PP s6) (QQ s6) op oq tr (nI L1.1) w6 fa6 ob st of F), 0)
      refine mm_skip (mm_call_mono _ _) 1 (st' := (152, [(7, .int (nI (LN + 4))), (6, .int (nI LN)), (5, .int (nI ct)), (0, .ref 10), (1, .int (nI o)), (2, .int (nI LN)), (3, .int (nI kc)), (4, .int 1)], [.int 6, .int 388, .int 404, .ref 10], wP pre (wN (PP s6) (QQ s6) op oq tr (nI L1.1) w6 fa6 ob st of F), 0)) rfl ?_
      refine mm_inv (mm_call_mono _ _) (j := 85) (a := [.int 6]) (M := wP pre (wN (PP s6) (QQ s6) op oq tr (nI L1.1) w6 fa6 ob st of F)) (u := 0) rfl (by decide) (rm_work ?_)
      show mm_W _ _ _ _ _ _ _ (155, [(7, .int (nI (LN + 4))), (6, .int (nI LN)), (5, .int (nI ct)), (0, .ref 10), (1, .int (nI o)), (2, .int (nI LN)), (3, .int (nI kc)), (4, .int 1)], [.int 392, .int 388, .int 404, .ref 10], wP pre (wN (PP s6) (QQ s6) op oq tr (nI L1.1) w6 fa6 ob st of F), 0)
      refine mm_inv (mm_call_mono _ _) (j := 78) (a := [.ref 10, .int 404, .int 388, .int 392]) (M := wP pre (wN (PP s6) (QQ s6) op oq tr (nI L1.1) w6 fa6 ob st of F)) (u := 0) rfl (by decide) (rg_mul (D := 404) (A := 388) (B := 392) V6 z6 hl1 (by omega) R_6 W3_6 W4_6 (fun s7 w7 h7 => ?_))
      show mm_W _ _ _ _ _ _ _ (158, [(7, .int (nI (LN + 4))), (6, .int (nI LN)), (5, .int (nI ct)), (0, .ref 10), (1, .int (nI o)), (2, .int (nI LN)), (3, .int (nI kc)), (4, .int 1)], [], wP pre (wN (PP s7) (QQ s7) op oq tr (nI L1.1) w7 fa6 ob st of F), 0)
      have V7 := h7.1
      have z7 := h7.2.1
      have S7 := gs_s S6 h7 (fun k => by omega)
      have F7 := g_F S6 F6 E6 h7
      have E7 := g_E E6 h7
      have R_7 := r_k R_6 h7 (by omega)
      have A_7 := t_k A_6 h7 (by omega)
      have B_7 := t_k B_6 h7 (by omega)
      have D_7 := t_k D_6 h7 (by omega)
      have G_7 := t_k G_6 h7 (by omega)
      have I_7 := t_k I_6 h7 (by omega)
      have W4_7 := t_k W4_6 h7 (by omega)
      have W6_7 := t_k W6_6 h7 (by omega)
      have W7_7 := t_new h7
      refine mm_skip (mm_call_mono _ _) 2 (st' := (161, [(7, .int (nI (LN + 4))), (6, .int (nI LN)), (5, .int (nI ct)), (0, .ref 10), (1, .int (nI o)), (2, .int (nI LN)), (3, .int (nI kc)), (4, .int 1)], [.int 10, .ref 10], wP pre (wN (PP s7) (QQ s7) op oq tr (nI L1.1) w7 fa6 ob st of F), 0)) rfl ?_
      refine mm_inv (mm_call_mono _ _) (j := 85) (a := [.int 10]) (M := wP pre (wN (PP s7) (QQ s7) op oq tr (nI L1.1) w7 fa6 ob st of F)) (u := 0) rfl (by decide) (rm_work ?_)
      show mm_W _ _ _ _ _ _ _ (164, [(7, .int (nI (LN + 4))), (6, .int (nI LN)), (5, .int (nI ct)), (0, .ref 10), (1, .int (nI o)), (2, .int (nI LN)), (3, .int (nI kc)), (4, .int 1)], [.int 408, .ref 10], wP pre (wN (PP s7) (QQ s7) op oq tr (nI L1.1) w7 fa6 ob st of F), 0)
      refine mm_skip (mm_call_mono _ _) 1 (st' := (166, [(7, .int (nI (LN + 4))), (6, .int (nI LN)), (5, .int (nI ct)), (0, .ref 10), (1, .int (nI o)), (2, .int (nI LN)), (3, .int (nI kc)), (4, .int 1)], [.int 8, .int 408, .ref 10], wP pre (wN (PP s7) (QQ s7) op oq tr (nI L1.1) w7 fa6 ob st of F), 0)) rfl ?_
      refine mm_inv (mm_call_mono _ _) (j := 85) (a := [.int 8]) (M := wP pre (wN (PP s7) (QQ s7) op oq tr (nI L1.1) w7 fa6 ob st of F)) (u := 0) rfl (by decide) (rm_work ?_)
      show mm_W _ _ _ _ _ _ _ (169, [(7, .int (nI (LN + 4))), (6, .int (nI LN)), (5, .int (nI ct)), (0, .ref 10), (1, .int (nI o)), (2, .int (nI LN)), (3, .int (nI kc)), (4, .int 1)], [.int 400, .int 408, .ref 10], wP pre (wN (PP s7) (QQ s7) op oq tr (nI L1.1) w7 fa6 ob st of F), 0)
      refine mm_skip (mm_call_mono _ _) 1 (st' := (171, [(7, .int (nI (LN + 4))), (6, .int (nI LN)), (5, .int (nI ct)), (0, .ref 10), (1, .int (nI o)), (2, .int (nI LN)), (3, .int (nI kc)), (4, .int 1)], [.int 6, .int 400, .int 408, .ref 10], wP pre (wN (PP s7) (QQ s7) op oq tr (nI L1.1) w7 fa6 ob st of F), 0)) rfl ?_
      refine mm_inv (mm_call_mono _ _) (j := 85) (a := [.int 6]) (M := wP pre (wN (PP s7) (QQ s7) op oq tr (nI L1.1) w7 fa6 ob st of F)) (u := 0) rfl (by decide) (rm_work ?_)
      show mm_W _ _ _ _ _ _ _ (174, [(7, .int (nI (LN + 4))), (6, .int (nI LN)), (5, .int (nI ct)), (0, .ref 10), (1, .int (nI o)), (2, .int (nI LN)), (3, .int (nI kc)), (4, .int 1)], [.int 392, .int 400, .int 408, .ref 10], wP pre (wN (PP s7) (QQ s7) op oq tr (nI L1.1) w7 fa6 ob st of F), 0)
      refine mm_inv (mm_call_mono _ _) (j := 78) (a := [.ref 10, .int 408, .int 400, .int 392]) (M := wP pre (wN (PP s7) (QQ s7) op oq tr (nI L1.1) w7 fa6 ob st of F)) (u := 0) rfl (by decide) (rg_mul (D := 408) (A := 400) (B := 392) V7 z7 hl1 (by omega) R_7 W6_7 W4_7 (fun s8 w8 h8 => ?_))
      show mm_W _ _ _ _ _ _ _ (177, [(7, .int (nI (LN + 4))), (6, .int (nI LN)), (5, .int (nI ct)), (0, .ref 10), (1, .int (nI o)), (2, .int (nI LN)), (3, .int (nI kc)), (4, .int 1)], [], wP pre (wN (PP s8) (QQ s8) op oq tr (nI L1.1) w8 fa6 ob st of F), 0)
      have V8 := h8.1
      have z8 := h8.2.1
      have S8 := gs_s S7 h8 (fun k => by omega)
      have F8 := g_F S7 F7 E7 h8
      have E8 := g_E E7 h8
      have R_8 := r_k R_7 h8 (by omega)
      have A_8 := t_k A_7 h8 (by omega)
      have B_8 := t_k B_7 h8 (by omega)
      have D_8 := t_k D_7 h8 (by omega)
      have G_8 := t_k G_7 h8 (by omega)
      have I_8 := t_k I_7 h8 (by omega)
      have W7_8 := t_k W7_7 h8 (by omega)
      have W8_8 := t_new h8
      refine mm_skip (mm_call_mono _ _) 2 (st' := (180, [(7, .int (nI (LN + 4))), (6, .int (nI LN)), (5, .int (nI ct)), (0, .ref 10), (1, .int (nI o)), (2, .int (nI LN)), (3, .int (nI kc)), (4, .int 1)], [.int 11, .ref 10], wP pre (wN (PP s8) (QQ s8) op oq tr (nI L1.1) w8 fa6 ob st of F), 0)) rfl ?_
      refine mm_inv (mm_call_mono _ _) (j := 85) (a := [.int 11]) (M := wP pre (wN (PP s8) (QQ s8) op oq tr (nI L1.1) w8 fa6 ob st of F)) (u := 0) rfl (by decide) (rm_work ?_)
      show mm_W _ _ _ _ _ _ _ (183, [(7, .int (nI (LN + 4))), (6, .int (nI LN)), (5, .int (nI ct)), (0, .ref 10), (1, .int (nI o)), (2, .int (nI LN)), (3, .int (nI kc)), (4, .int 1)], [.int 412, .ref 10], wP pre (wN (PP s8) (QQ s8) op oq tr (nI L1.1) w8 fa6 ob st of F), 0)
      refine mm_skip (mm_call_mono _ _) 2 (st' := (186, [(7, .int (nI (LN + 4))), (6, .int (nI LN)), (5, .int (nI ct)), (0, .ref 10), (1, .int (nI o)), (2, .int (nI LN)), (3, .int (nI kc)), (4, .int 1)], [.int 4, .int (nI (LN + 4)), .int 412, .ref 10], wP pre (wN (PP s8) (QQ s8) op oq tr (nI L1.1) w8 fa6 ob st of F), 0)) rfl ?_
      refine mm_inv (mm_call_mono _ _) (j := 61) (a := [.ref 10, .int 412, .int (nI (LN + 4)), .int 4]) (M := wP pre (wN (PP s8) (QQ s8) op oq tr (nI L1.1) w8 fa6 ob st of F)) (u := 0) rfl (by decide) (rg_neg (D := 412) (A := (LN + 4)) V8 z8 hl1 (by omega) B_8 (fun s9 w9 h9 => ?_))
      show mm_W _ _ _ _ _ _ _ (189, [(7, .int (nI (LN + 4))), (6, .int (nI LN)), (5, .int (nI ct)), (0, .ref 10), (1, .int (nI o)), (2, .int (nI LN)), (3, .int (nI kc)), (4, .int 1)], [], wP pre (wN (PP s9) (QQ s9) op oq tr (nI L1.1) w9 fa6 ob st of F), 0)
      have V9 := h9.1
      have z9 := h9.2.1
      have S9 := gs_s S8 h9 (fun k => by omega)
      have F9 := g_F S8 F8 E8 h9
      have E9 := g_E E8 h9
      have R_9 := r_k R_8 h9 (by omega)
      have A_9 := t_k A_8 h9 (by omega)
      have B_9 := t_k B_8 h9 (by omega)
      have D_9 := t_k D_8 h9 (by omega)
      have G_9 := t_k G_8 h9 (by omega)
      have I_9 := t_k I_8 h9 (by omega)
      have W7_9 := t_k W7_8 h9 (by omega)
      have W8_9 := t_k W8_8 h9 (by omega)
      have W9_9 := t_new h9
      refine mm_skip (mm_call_mono _ _) 2 (st' := (192, [(7, .int (nI (LN + 4))), (6, .int (nI LN)), (5, .int (nI ct)), (0, .ref 10), (1, .int (nI o)), (2, .int (nI LN)), (3, .int (nI kc)), (4, .int 1)], [.int 12, .ref 10], wP pre (wN (PP s9) (QQ s9) op oq tr (nI L1.1) w9 fa6 ob st of F), 0)) rfl ?_
      refine mm_inv (mm_call_mono _ _) (j := 85) (a := [.int 12]) (M := wP pre (wN (PP s9) (QQ s9) op oq tr (nI L1.1) w9 fa6 ob st of F)) (u := 0) rfl (by decide) (rm_work ?_)
      show mm_W _ _ _ _ _ _ _ (195, [(7, .int (nI (LN + 4))), (6, .int (nI LN)), (5, .int (nI ct)), (0, .ref 10), (1, .int (nI o)), (2, .int (nI LN)), (3, .int (nI kc)), (4, .int 1)], [.int 416, .ref 10], wP pre (wN (PP s9) (QQ s9) op oq tr (nI L1.1) w9 fa6 ob st of F), 0)
      refine mm_skip (mm_call_mono _ _) 2 (st' := (199, [(7, .int (nI (LN + 4))), (6, .int (nI LN)), (5, .int (nI ct)), (0, .ref 10), (1, .int (nI o)), (2, .int (nI LN)), (3, .int (nI kc)), (4, .int 1)], [.int 9, .int (nI LN), .int 416, .ref 10], wP pre (wN (PP s9) (QQ s9) op oq tr (nI L1.1) w9 fa6 ob st of F), 0)) rfl ?_
      refine mm_inv (mm_call_mono _ _) (j := 85) (a := [.int 9]) (M := wP pre (wN (PP s9) (QQ s9) op oq tr (nI L1.1) w9 fa6 ob st of F)) (u := 0) rfl (by decide) (rm_work ?_)
      show mm_W _ _ _ _ _ _ _ (202, [(7, .int (nI (LN + 4))), (6, .int (nI LN)), (5, .int (nI ct)), (0, .ref 10), (1, .int (nI o)), (2, .int (nI LN)), (3, .int (nI kc)), (4, .int 1)], [.int 404, .int (nI LN), .int 416, .ref 10], wP pre (wN (PP s9) (QQ s9) op oq tr (nI L1.1) w9 fa6 ob st of F), 0)
      refine mm_inv (mm_call_mono _ _) (j := 78) (a := [.ref 10, .int 416, .int (nI LN), .int 404]) (M := wP pre (wN (PP s9) (QQ s9) op oq tr (nI L1.1) w9 fa6 ob st of F)) (u := 0) rfl (by decide) (rg_mul (D := 416) (A := LN) (B := 404) V9 z9 hl1 (by omega) R_9 A_9 W7_9 (fun s10 w10 h10 => ?_))
      show mm_W _ _ _ _ _ _ _ (205, [(7, .int (nI (LN + 4))), (6, .int (nI LN)), (5, .int (nI ct)), (0, .ref 10), (1, .int (nI o)), (2, .int (nI LN)), (3, .int (nI kc)), (4, .int 1)], [], wP pre (wN (PP s10) (QQ s10) op oq tr (nI L1.1) w10 fa6 ob st of F), 0)
      have V10 := h10.1
      have z10 := h10.2.1
      have S10 := gs_s S9 h10 (fun k => by omega)
      have F10 := g_F S9 F9 E9 h10
      have E10 := g_E E9 h10
      have R_10 := r_k R_9 h10 (by omega)
      have A_10 := t_k A_9 h10 (by omega)
      have B_10 := t_k B_9 h10 (by omega)
      have D_10 := t_k D_9 h10 (by omega)
      have G_10 := t_k G_9 h10 (by omega)
      have I_10 := t_k I_9 h10 (by omega)
      have W7_10 := t_k W7_9 h10 (by omega)
      have W8_10 := t_k W8_9 h10 (by omega)
      have W9_10 := t_k W9_9 h10 (by omega)
      have W10_10 := t_new h10
      refine mm_skip (mm_call_mono _ _) 2 (st' := (208, [(7, .int (nI (LN + 4))), (6, .int (nI LN)), (5, .int (nI ct)), (0, .ref 10), (1, .int (nI o)), (2, .int (nI LN)), (3, .int (nI kc)), (4, .int 1)], [.int 12, .ref 10], wP pre (wN (PP s10) (QQ s10) op oq tr (nI L1.1) w10 fa6 ob st of F), 0)) rfl ?_
      refine mm_inv (mm_call_mono _ _) (j := 85) (a := [.int 12]) (M := wP pre (wN (PP s10) (QQ s10) op oq tr (nI L1.1) w10 fa6 ob st of F)) (u := 0) rfl (by decide) (rm_work ?_)
      show mm_W _ _ _ _ _ _ _ (211, [(7, .int (nI (LN + 4))), (6, .int (nI LN)), (5, .int (nI ct)), (0, .ref 10), (1, .int (nI o)), (2, .int (nI LN)), (3, .int (nI kc)), (4, .int 1)], [.int 416, .ref 10], wP pre (wN (PP s10) (QQ s10) op oq tr (nI L1.1) w10 fa6 ob st of F), 0)
      refine mm_skip (mm_call_mono _ _) 1 (st' := (213, [(7, .int (nI (LN + 4))), (6, .int (nI LN)), (5, .int (nI ct)), (0, .ref 10), (1, .int (nI o)), (2, .int (nI LN)), (3, .int (nI kc)), (4, .int 1)], [.int (nI ct), .int 416, .ref 10], wP pre (wN (PP s10) (QQ s10) op oq tr (nI L1.1) w10 fa6 ob st of F), 0)) rfl ?_
      refine mm_inv (mm_call_mono _ _) (j := 83) (a := [.int (nI ct)]) (M := wP pre (wN (PP s10) (QQ s10) op oq tr (nI L1.1) w10 fa6 ob st of F)) (u := 0) rfl (by decide) (rm_xOf (o := ct) ?_)
      show mm_W _ _ _ _ _ _ _ (216, [(7, .int (nI (LN + 4))), (6, .int (nI LN)), (5, .int (nI ct)), (0, .ref 10), (1, .int (nI o)), (2, .int (nI LN)), (3, .int (nI kc)), (4, .int 1)], [.int (nI (12 * ct)), .int 416, .ref 10], wP pre (wN (PP s10) (QQ s10) op oq tr (nI L1.1) w10 fa6 ob st of F), 0)
      refine mm_skip (mm_call_mono _ _) 1 (st' := (218, [(7, .int (nI (LN + 4))), (6, .int (nI LN)), (5, .int (nI ct)), (0, .ref 10), (1, .int (nI o)), (2, .int (nI LN)), (3, .int (nI kc)), (4, .int 1)], [.int 12, .int (nI (12 * ct)), .int 416, .ref 10], wP pre (wN (PP s10) (QQ s10) op oq tr (nI L1.1) w10 fa6 ob st of F), 0)) rfl ?_
      refine mm_inv (mm_call_mono _ _) (j := 85) (a := [.int 12]) (M := wP pre (wN (PP s10) (QQ s10) op oq tr (nI L1.1) w10 fa6 ob st of F)) (u := 0) rfl (by decide) (rm_work ?_)
      show mm_W _ _ _ _ _ _ _ (221, [(7, .int (nI (LN + 4))), (6, .int (nI LN)), (5, .int (nI ct)), (0, .ref 10), (1, .int (nI o)), (2, .int (nI LN)), (3, .int (nI kc)), (4, .int 1)], [.int 416, .int (nI (12 * ct)), .int 416, .ref 10], wP pre (wN (PP s10) (QQ s10) op oq tr (nI L1.1) w10 fa6 ob st of F), 0)
      refine mm_skip (mm_call_mono _ _) 1 (st' := (222, [(7, .int (nI (LN + 4))), (6, .int (nI LN)), (5, .int (nI ct)), (0, .ref 10), (1, .int (nI o)), (2, .int (nI LN)), (3, .int (nI kc)), (4, .int 1)], [.int 4, .int 416, .int (nI (12 * ct)), .int 416, .ref 10], wP pre (wN (PP s10) (QQ s10) op oq tr (nI L1.1) w10 fa6 ob st of F), 0)) rfl ?_
      refine mm_inv (mm_call_mono _ _) (j := 59) (a := [.ref 10, .int 416, .int (nI (12 * ct)), .int 416, .int 4]) (M := wP pre (wN (PP s10) (QQ s10) op oq tr (nI L1.1) w10 fa6 ob st of F)) (u := 0) rfl (by decide) (rg_add (D := 416) (A := (12 * ct)) (B := 416) V10 z10 hl1 (by omega) D_10 W10_10 (fun s11 w11 h11 => ?_))
      show mm_W _ _ _ _ _ _ _ (225, [(7, .int (nI (LN + 4))), (6, .int (nI LN)), (5, .int (nI ct)), (0, .ref 10), (1, .int (nI o)), (2, .int (nI LN)), (3, .int (nI kc)), (4, .int 1)], [], wP pre (wN (PP s11) (QQ s11) op oq tr (nI L1.1) w11 fa6 ob st of F), 0)
      have V11 := h11.1
      have z11 := h11.2.1
      have S11 := gs_s S10 h11 (fun k => by omega)
      have F11 := g_F S10 F10 E10 h11
      have E11 := g_E E10 h11
      have R_11 := r_k R_10 h11 (by omega)
      have A_11 := t_k A_10 h11 (by omega)
      have B_11 := t_k B_10 h11 (by omega)
      have G_11 := t_k G_10 h11 (by omega)
      have I_11 := t_k I_10 h11 (by omega)
      have W7_11 := t_k W7_10 h11 (by omega)
      have W8_11 := t_k W8_10 h11 (by omega)
      have W9_11 := t_k W9_10 h11 (by omega)
      have W11_11 := t_new h11
      refine mm_skip (mm_call_mono _ _) 2 (st' := (228, [(7, .int (nI (LN + 4))), (6, .int (nI LN)), (5, .int (nI ct)), (0, .ref 10), (1, .int (nI o)), (2, .int (nI LN)), (3, .int (nI kc)), (4, .int 1)], [.int 13, .ref 10], wP pre (wN (PP s11) (QQ s11) op oq tr (nI L1.1) w11 fa6 ob st of F), 0)) rfl ?_
      refine mm_inv (mm_call_mono _ _) (j := 85) (a := [.int 13]) (M := wP pre (wN (PP s11) (QQ s11) op oq tr (nI L1.1) w11 fa6 ob st of F)) (u := 0) rfl (by decide) (rm_work ?_)
      show mm_W _ _ _ _ _ _ _ (231, [(7, .int (nI (LN + 4))), (6, .int (nI LN)), (5, .int (nI ct)), (0, .ref 10), (1, .int (nI o)), (2, .int (nI LN)), (3, .int (nI kc)), (4, .int 1)], [.int 420, .ref 10], wP pre (wN (PP s11) (QQ s11) op oq tr (nI L1.1) w11 fa6 ob st of F), 0)
      refine mm_skip (mm_call_mono _ _) 1 (st' := (233, [(7, .int (nI (LN + 4))), (6, .int (nI LN)), (5, .int (nI ct)), (0, .ref 10), (1, .int (nI o)), (2, .int (nI LN)), (3, .int (nI kc)), (4, .int 1)], [.int 11, .int 420, .ref 10], wP pre (wN (PP s11) (QQ s11) op oq tr (nI L1.1) w11 fa6 ob st of F), 0)) rfl ?_
      refine mm_inv (mm_call_mono _ _) (j := 85) (a := [.int 11]) (M := wP pre (wN (PP s11) (QQ s11) op oq tr (nI L1.1) w11 fa6 ob st of F)) (u := 0) rfl (by decide) (rm_work ?_)
      show mm_W _ _ _ _ _ _ _ (236, [(7, .int (nI (LN + 4))), (6, .int (nI LN)), (5, .int (nI ct)), (0, .ref 10), (1, .int (nI o)), (2, .int (nI LN)), (3, .int (nI kc)), (4, .int 1)], [.int 412, .int 420, .ref 10], wP pre (wN (PP s11) (QQ s11) op oq tr (nI L1.1) w11 fa6 ob st of F), 0)
      refine mm_skip (mm_call_mono _ _) 1 (st' := (238, [(7, .int (nI (LN + 4))), (6, .int (nI LN)), (5, .int (nI ct)), (0, .ref 10), (1, .int (nI o)), (2, .int (nI LN)), (3, .int (nI kc)), (4, .int 1)], [.int 10, .int 412, .int 420, .ref 10], wP pre (wN (PP s11) (QQ s11) op oq tr (nI L1.1) w11 fa6 ob st of F), 0)) rfl ?_
      refine mm_inv (mm_call_mono _ _) (j := 85) (a := [.int 10]) (M := wP pre (wN (PP s11) (QQ s11) op oq tr (nI L1.1) w11 fa6 ob st of F)) (u := 0) rfl (by decide) (rm_work ?_)
      show mm_W _ _ _ _ _ _ _ (241, [(7, .int (nI (LN + 4))), (6, .int (nI LN)), (5, .int (nI ct)), (0, .ref 10), (1, .int (nI o)), (2, .int (nI LN)), (3, .int (nI kc)), (4, .int 1)], [.int 408, .int 412, .int 420, .ref 10], wP pre (wN (PP s11) (QQ s11) op oq tr (nI L1.1) w11 fa6 ob st of F), 0)
      refine mm_inv (mm_call_mono _ _) (j := 78) (a := [.ref 10, .int 420, .int 412, .int 408]) (M := wP pre (wN (PP s11) (QQ s11) op oq tr (nI L1.1) w11 fa6 ob st of F)) (u := 0) rfl (by decide) (rg_mul (D := 420) (A := 412) (B := 408) V11 z11 hl1 (by omega) R_11 W9_11 W8_11 (fun s12 w12 h12 => ?_))
      show mm_W _ _ _ _ _ _ _ (244, [(7, .int (nI (LN + 4))), (6, .int (nI LN)), (5, .int (nI ct)), (0, .ref 10), (1, .int (nI o)), (2, .int (nI LN)), (3, .int (nI kc)), (4, .int 1)], [], wP pre (wN (PP s12) (QQ s12) op oq tr (nI L1.1) w12 fa6 ob st of F), 0)
      have V12 := h12.1
      have z12 := h12.2.1
      have S12 := gs_s S11 h12 (fun k => by omega)
      have F12 := g_F S11 F11 E11 h12
      have E12 := g_E E11 h12
      have R_12 := r_k R_11 h12 (by omega)
      have A_12 := t_k A_11 h12 (by omega)
      have B_12 := t_k B_11 h12 (by omega)
      have G_12 := t_k G_11 h12 (by omega)
      have I_12 := t_k I_11 h12 (by omega)
      have W7_12 := t_k W7_11 h12 (by omega)
      have W8_12 := t_k W8_11 h12 (by omega)
      have W11_12 := t_k W11_11 h12 (by omega)
      have W12_12 := t_new h12
      refine mm_skip (mm_call_mono _ _) 2 (st' := (247, [(7, .int (nI (LN + 4))), (6, .int (nI LN)), (5, .int (nI ct)), (0, .ref 10), (1, .int (nI o)), (2, .int (nI LN)), (3, .int (nI kc)), (4, .int 1)], [.int 14, .ref 10], wP pre (wN (PP s12) (QQ s12) op oq tr (nI L1.1) w12 fa6 ob st of F), 0)) rfl ?_
      refine mm_inv (mm_call_mono _ _) (j := 85) (a := [.int 14]) (M := wP pre (wN (PP s12) (QQ s12) op oq tr (nI L1.1) w12 fa6 ob st of F)) (u := 0) rfl (by decide) (rm_work ?_)
      show mm_W _ _ _ _ _ _ _ (250, [(7, .int (nI (LN + 4))), (6, .int (nI LN)), (5, .int (nI ct)), (0, .ref 10), (1, .int (nI o)), (2, .int (nI LN)), (3, .int (nI kc)), (4, .int 1)], [.int 424, .ref 10], wP pre (wN (PP s12) (QQ s12) op oq tr (nI L1.1) w12 fa6 ob st of F), 0)
      refine mm_skip (mm_call_mono _ _) 2 (st' := (254, [(7, .int (nI (LN + 4))), (6, .int (nI LN)), (5, .int (nI ct)), (0, .ref 10), (1, .int (nI o)), (2, .int (nI LN)), (3, .int (nI kc)), (4, .int 1)], [.int 9, .int (nI (LN + 4)), .int 424, .ref 10], wP pre (wN (PP s12) (QQ s12) op oq tr (nI L1.1) w12 fa6 ob st of F), 0)) rfl ?_
      refine mm_inv (mm_call_mono _ _) (j := 85) (a := [.int 9]) (M := wP pre (wN (PP s12) (QQ s12) op oq tr (nI L1.1) w12 fa6 ob st of F)) (u := 0) rfl (by decide) (rm_work ?_)
      show mm_W _ _ _ _ _ _ _ (257, [(7, .int (nI (LN + 4))), (6, .int (nI LN)), (5, .int (nI ct)), (0, .ref 10), (1, .int (nI o)), (2, .int (nI LN)), (3, .int (nI kc)), (4, .int 1)], [.int 404, .int (nI (LN + 4)), .int 424, .ref 10], wP pre (wN (PP s12) (QQ s12) op oq tr (nI L1.1) w12 fa6 ob st of F), 0)
      refine mm_inv (mm_call_mono _ _) (j := 78) (a := [.ref 10, .int 424, .int (nI (LN + 4)), .int 404]) (M := wP pre (wN (PP s12) (QQ s12) op oq tr (nI L1.1) w12 fa6 ob st of F)) (u := 0) rfl (by decide) (rg_mul (D := 424) (A := (LN + 4)) (B := 404) V12 z12 hl1 (by omega) R_12 B_12 W7_12 (fun s13 w13 h13 => ?_))
      show mm_W _ _ _ _ _ _ _ (260, [(7, .int (nI (LN + 4))), (6, .int (nI LN)), (5, .int (nI ct)), (0, .ref 10), (1, .int (nI o)), (2, .int (nI LN)), (3, .int (nI kc)), (4, .int 1)], [], wP pre (wN (PP s13) (QQ s13) op oq tr (nI L1.1) w13 fa6 ob st of F), 0)
      have V13 := h13.1
      have z13 := h13.2.1
      have S13 := gs_s S12 h13 (fun k => by omega)
      have F13 := g_F S12 F12 E12 h13
      have E13 := g_E E12 h13
      have R_13 := r_k R_12 h13 (by omega)
      have A_13 := t_k A_12 h13 (by omega)
      have G_13 := t_k G_12 h13 (by omega)
      have I_13 := t_k I_12 h13 (by omega)
      have W8_13 := t_k W8_12 h13 (by omega)
      have W11_13 := t_k W11_12 h13 (by omega)
      have W12_13 := t_k W12_12 h13 (by omega)
      have W13_13 := t_new h13
      refine mm_skip (mm_call_mono _ _) 2 (st' := (263, [(7, .int (nI (LN + 4))), (6, .int (nI LN)), (5, .int (nI ct)), (0, .ref 10), (1, .int (nI o)), (2, .int (nI LN)), (3, .int (nI kc)), (4, .int 1)], [.int 14, .ref 10], wP pre (wN (PP s13) (QQ s13) op oq tr (nI L1.1) w13 fa6 ob st of F), 0)) rfl ?_
      refine mm_inv (mm_call_mono _ _) (j := 85) (a := [.int 14]) (M := wP pre (wN (PP s13) (QQ s13) op oq tr (nI L1.1) w13 fa6 ob st of F)) (u := 0) rfl (by decide) (rm_work ?_)
      show mm_W _ _ _ _ _ _ _ (266, [(7, .int (nI (LN + 4))), (6, .int (nI LN)), (5, .int (nI ct)), (0, .ref 10), (1, .int (nI o)), (2, .int (nI LN)), (3, .int (nI kc)), (4, .int 1)], [.int 424, .ref 10], wP pre (wN (PP s13) (QQ s13) op oq tr (nI L1.1) w13 fa6 ob st of F), 0)
      refine mm_skip (mm_call_mono _ _) 1 (st' := (268, [(7, .int (nI (LN + 4))), (6, .int (nI LN)), (5, .int (nI ct)), (0, .ref 10), (1, .int (nI o)), (2, .int (nI LN)), (3, .int (nI kc)), (4, .int 1)], [.int (nI ct), .int 424, .ref 10], wP pre (wN (PP s13) (QQ s13) op oq tr (nI L1.1) w13 fa6 ob st of F), 0)) rfl ?_
      refine mm_inv (mm_call_mono _ _) (j := 84) (a := [.int (nI ct)]) (M := wP pre (wN (PP s13) (QQ s13) op oq tr (nI L1.1) w13 fa6 ob st of F)) (u := 0) rfl (by decide) (rm_yOf (o := ct) ?_)
      show mm_W _ _ _ _ _ _ _ (271, [(7, .int (nI (LN + 4))), (6, .int (nI LN)), (5, .int (nI ct)), (0, .ref 10), (1, .int (nI o)), (2, .int (nI LN)), (3, .int (nI kc)), (4, .int 1)], [.int (nI (12 * ct + 4)), .int 424, .ref 10], wP pre (wN (PP s13) (QQ s13) op oq tr (nI L1.1) w13 fa6 ob st of F), 0)
      refine mm_skip (mm_call_mono _ _) 1 (st' := (273, [(7, .int (nI (LN + 4))), (6, .int (nI LN)), (5, .int (nI ct)), (0, .ref 10), (1, .int (nI o)), (2, .int (nI LN)), (3, .int (nI kc)), (4, .int 1)], [.int 14, .int (nI (12 * ct + 4)), .int 424, .ref 10], wP pre (wN (PP s13) (QQ s13) op oq tr (nI L1.1) w13 fa6 ob st of F), 0)) rfl ?_
      refine mm_inv (mm_call_mono _ _) (j := 85) (a := [.int 14]) (M := wP pre (wN (PP s13) (QQ s13) op oq tr (nI L1.1) w13 fa6 ob st of F)) (u := 0) rfl (by decide) (rm_work ?_)
      show mm_W _ _ _ _ _ _ _ (276, [(7, .int (nI (LN + 4))), (6, .int (nI LN)), (5, .int (nI ct)), (0, .ref 10), (1, .int (nI o)), (2, .int (nI LN)), (3, .int (nI kc)), (4, .int 1)], [.int 424, .int (nI (12 * ct + 4)), .int 424, .ref 10], wP pre (wN (PP s13) (QQ s13) op oq tr (nI L1.1) w13 fa6 ob st of F), 0)
      refine mm_skip (mm_call_mono _ _) 1 (st' := (277, [(7, .int (nI (LN + 4))), (6, .int (nI LN)), (5, .int (nI ct)), (0, .ref 10), (1, .int (nI o)), (2, .int (nI LN)), (3, .int (nI kc)), (4, .int 1)], [.int 4, .int 424, .int (nI (12 * ct + 4)), .int 424, .ref 10], wP pre (wN (PP s13) (QQ s13) op oq tr (nI L1.1) w13 fa6 ob st of F), 0)) rfl ?_
      refine mm_inv (mm_call_mono _ _) (j := 59) (a := [.ref 10, .int 424, .int (nI (12 * ct + 4)), .int 424, .int 4]) (M := wP pre (wN (PP s13) (QQ s13) op oq tr (nI L1.1) w13 fa6 ob st of F)) (u := 0) rfl (by decide) (rg_add (D := 424) (A := (12 * ct + 4)) (B := 424) V13 z13 hl1 (by omega) G_13 W13_13 (fun s14 w14 h14 => ?_))
      show mm_W _ _ _ _ _ _ _ (280, [(7, .int (nI (LN + 4))), (6, .int (nI LN)), (5, .int (nI ct)), (0, .ref 10), (1, .int (nI o)), (2, .int (nI LN)), (3, .int (nI kc)), (4, .int 1)], [], wP pre (wN (PP s14) (QQ s14) op oq tr (nI L1.1) w14 fa6 ob st of F), 0)
      have V14 := h14.1
      have z14 := h14.2.1
      have S14 := gs_s S13 h14 (fun k => by omega)
      have F14 := g_F S13 F13 E13 h14
      have E14 := g_E E13 h14
      have R_14 := r_k R_13 h14 (by omega)
      have A_14 := t_k A_13 h14 (by omega)
      have I_14 := t_k I_13 h14 (by omega)
      have W8_14 := t_k W8_13 h14 (by omega)
      have W11_14 := t_k W11_13 h14 (by omega)
      have W12_14 := t_k W12_13 h14 (by omega)
      have W14_14 := t_new h14
      refine mm_skip (mm_call_mono _ _) 2 (st' := (283, [(7, .int (nI (LN + 4))), (6, .int (nI LN)), (5, .int (nI ct)), (0, .ref 10), (1, .int (nI o)), (2, .int (nI LN)), (3, .int (nI kc)), (4, .int 1)], [.int 15, .ref 10], wP pre (wN (PP s14) (QQ s14) op oq tr (nI L1.1) w14 fa6 ob st of F), 0)) rfl ?_
      refine mm_inv (mm_call_mono _ _) (j := 85) (a := [.int 15]) (M := wP pre (wN (PP s14) (QQ s14) op oq tr (nI L1.1) w14 fa6 ob st of F)) (u := 0) rfl (by decide) (rm_work ?_)
      show mm_W _ _ _ _ _ _ _ (286, [(7, .int (nI (LN + 4))), (6, .int (nI LN)), (5, .int (nI ct)), (0, .ref 10), (1, .int (nI o)), (2, .int (nI LN)), (3, .int (nI kc)), (4, .int 1)], [.int 428, .ref 10], wP pre (wN (PP s14) (QQ s14) op oq tr (nI L1.1) w14 fa6 ob st of F), 0)
      refine mm_skip (mm_call_mono _ _) 2 (st' := (290, [(7, .int (nI (LN + 4))), (6, .int (nI LN)), (5, .int (nI ct)), (0, .ref 10), (1, .int (nI o)), (2, .int (nI LN)), (3, .int (nI kc)), (4, .int 1)], [.int 10, .int (nI LN), .int 428, .ref 10], wP pre (wN (PP s14) (QQ s14) op oq tr (nI L1.1) w14 fa6 ob st of F), 0)) rfl ?_
      refine mm_inv (mm_call_mono _ _) (j := 85) (a := [.int 10]) (M := wP pre (wN (PP s14) (QQ s14) op oq tr (nI L1.1) w14 fa6 ob st of F)) (u := 0) rfl (by decide) (rm_work ?_)
      show mm_W _ _ _ _ _ _ _ (293, [(7, .int (nI (LN + 4))), (6, .int (nI LN)), (5, .int (nI ct)), (0, .ref 10), (1, .int (nI o)), (2, .int (nI LN)), (3, .int (nI kc)), (4, .int 1)], [.int 408, .int (nI LN), .int 428, .ref 10], wP pre (wN (PP s14) (QQ s14) op oq tr (nI L1.1) w14 fa6 ob st of F), 0)
      refine mm_inv (mm_call_mono _ _) (j := 78) (a := [.ref 10, .int 428, .int (nI LN), .int 408]) (M := wP pre (wN (PP s14) (QQ s14) op oq tr (nI L1.1) w14 fa6 ob st of F)) (u := 0) rfl (by decide) (rg_mul (D := 428) (A := LN) (B := 408) V14 z14 hl1 (by omega) R_14 A_14 W8_14 (fun s15 w15 h15 => ?_))
      show mm_W _ _ _ _ _ _ _ (296, [(7, .int (nI (LN + 4))), (6, .int (nI LN)), (5, .int (nI ct)), (0, .ref 10), (1, .int (nI o)), (2, .int (nI LN)), (3, .int (nI kc)), (4, .int 1)], [], wP pre (wN (PP s15) (QQ s15) op oq tr (nI L1.1) w15 fa6 ob st of F), 0)
      have V15 := h15.1
      have z15 := h15.2.1
      have S15 := gs_s S14 h15 (fun k => by omega)
      have F15 := g_F S14 F14 E14 h15
      have E15 := g_E E14 h15
      have R_15 := r_k R_14 h15 (by omega)
      have I_15 := t_k I_14 h15 (by omega)
      have W11_15 := t_k W11_14 h15 (by omega)
      have W12_15 := t_k W12_14 h15 (by omega)
      have W14_15 := t_k W14_14 h15 (by omega)
      have W15_15 := t_new h15
      refine mm_skip (mm_call_mono _ _) 1 (st' := (298, [(7, .int (nI (LN + 4))), (6, .int (nI LN)), (5, .int (nI ct)), (0, .ref 10), (1, .int (nI o)), (2, .int (nI LN)), (3, .int (nI kc)), (4, .int 1)], [.int 1], wP pre (wN (PP s15) (QQ s15) op oq tr (nI L1.1) w15 fa6 ob st of F), 0)) rfl ?_
      refine mm_branch (mm_call_mono _ _) (c := (1 : Int32) = 0) (s1 := (301, [(7, .int (nI (LN + 4))), (6, .int (nI LN)), (5, .int (nI ct)), (0, .ref 10), (1, .int (nI o)), (2, .int (nI LN)), (3, .int (nI kc)), (4, .int 1)], [], wP pre (wN (PP s15) (QQ s15) op oq tr (nI L1.1) w15 fa6 ob st of F), 0)) (s2 := (342, [(7, .int (nI (LN + 4))), (6, .int (nI LN)), (5, .int (nI ct)), (0, .ref 10), (1, .int (nI o)), (2, .int (nI LN)), (3, .int (nI kc)), (4, .int 1)], [], wP pre (wN (PP s15) (QQ s15) op oq tr (nI L1.1) w15 fa6 ob st of F), 0)) rfl (fun h => absurd h (by decide)) (fun _ => ?_)
      refine mm_skip (mm_call_mono _ _) 2 (st' := (344, [(7, .int (nI (LN + 4))), (6, .int (nI LN)), (5, .int (nI ct)), (0, .ref 10), (1, .int (nI o)), (2, .int (nI LN)), (3, .int (nI kc)), (4, .int 1)], [.int (nI o), .ref 10], wP pre (wN (PP s15) (QQ s15) op oq tr (nI L1.1) w15 fa6 ob st of F), 0)) rfl ?_
      refine mm_inv (mm_call_mono _ _) (j := 83) (a := [.int (nI o)]) (M := wP pre (wN (PP s15) (QQ s15) op oq tr (nI L1.1) w15 fa6 ob st of F)) (u := 0) rfl (by decide) (rm_xOf (o := o) ?_)
      show mm_W _ _ _ _ _ _ _ (347, [(7, .int (nI (LN + 4))), (6, .int (nI LN)), (5, .int (nI ct)), (0, .ref 10), (1, .int (nI o)), (2, .int (nI LN)), (3, .int (nI kc)), (4, .int 1)], [.int (nI (12 * o)), .ref 10], wP pre (wN (PP s15) (QQ s15) op oq tr (nI L1.1) w15 fa6 ob st of F), 0)
      refine mm_skip (mm_call_mono _ _) 1 (st' := (349, [(7, .int (nI (LN + 4))), (6, .int (nI LN)), (5, .int (nI ct)), (0, .ref 10), (1, .int (nI o)), (2, .int (nI LN)), (3, .int (nI kc)), (4, .int 1)], [.int 12, .int (nI (12 * o)), .ref 10], wP pre (wN (PP s15) (QQ s15) op oq tr (nI L1.1) w15 fa6 ob st of F), 0)) rfl ?_
      refine mm_inv (mm_call_mono _ _) (j := 85) (a := [.int 12]) (M := wP pre (wN (PP s15) (QQ s15) op oq tr (nI L1.1) w15 fa6 ob st of F)) (u := 0) rfl (by decide) (rm_work ?_)
      show mm_W _ _ _ _ _ _ _ (352, [(7, .int (nI (LN + 4))), (6, .int (nI LN)), (5, .int (nI ct)), (0, .ref 10), (1, .int (nI o)), (2, .int (nI LN)), (3, .int (nI kc)), (4, .int 1)], [.int 416, .int (nI (12 * o)), .ref 10], wP pre (wN (PP s15) (QQ s15) op oq tr (nI L1.1) w15 fa6 ob st of F), 0)
      refine mm_skip (mm_call_mono _ _) 1 (st' := (354, [(7, .int (nI (LN + 4))), (6, .int (nI LN)), (5, .int (nI ct)), (0, .ref 10), (1, .int (nI o)), (2, .int (nI LN)), (3, .int (nI kc)), (4, .int 1)], [.int 13, .int 416, .int (nI (12 * o)), .ref 10], wP pre (wN (PP s15) (QQ s15) op oq tr (nI L1.1) w15 fa6 ob st of F), 0)) rfl ?_
      refine mm_inv (mm_call_mono _ _) (j := 85) (a := [.int 13]) (M := wP pre (wN (PP s15) (QQ s15) op oq tr (nI L1.1) w15 fa6 ob st of F)) (u := 0) rfl (by decide) (rm_work ?_)
      show mm_W _ _ _ _ _ _ _ (357, [(7, .int (nI (LN + 4))), (6, .int (nI LN)), (5, .int (nI ct)), (0, .ref 10), (1, .int (nI o)), (2, .int (nI LN)), (3, .int (nI kc)), (4, .int 1)], [.int 420, .int 416, .int (nI (12 * o)), .ref 10], wP pre (wN (PP s15) (QQ s15) op oq tr (nI L1.1) w15 fa6 ob st of F), 0)
      refine mm_skip (mm_call_mono _ _) 1 (st' := (358, [(7, .int (nI (LN + 4))), (6, .int (nI LN)), (5, .int (nI ct)), (0, .ref 10), (1, .int (nI o)), (2, .int (nI LN)), (3, .int (nI kc)), (4, .int 1)], [.int 4, .int 420, .int 416, .int (nI (12 * o)), .ref 10], wP pre (wN (PP s15) (QQ s15) op oq tr (nI L1.1) w15 fa6 ob st of F), 0)) rfl ?_
      refine mm_inv (mm_call_mono _ _) (j := 59) (a := [.ref 10, .int (nI (12 * o)), .int 416, .int 420, .int 4]) (M := wP pre (wN (PP s15) (QQ s15) op oq tr (nI L1.1) w15 fa6 ob st of F)) (u := 0) rfl (by decide) (rg_add (D := (12 * o)) (A := 416) (B := 420) V15 z15 hl1 (by omega) W11_15 W12_15 (fun s16 w16 h16 => ?_))
      show mm_W _ _ _ _ _ _ _ (361, [(7, .int (nI (LN + 4))), (6, .int (nI LN)), (5, .int (nI ct)), (0, .ref 10), (1, .int (nI o)), (2, .int (nI LN)), (3, .int (nI kc)), (4, .int 1)], [], wP pre (wN (PP s16) (QQ s16) op oq tr (nI L1.1) w16 fa6 ob st of F), 0)
      have V16 := h16.1
      have z16 := h16.2.1
      have S16 := gs_s S15 h16 (fun k => by omega)
      have F16 := g_F S15 F15 E15 h16
      have E16 := g_E E15 h16
      have R_16 := r_k R_15 h16 (by omega)
      have I_16 := t_k I_15 h16 (by omega)
      have W14_16 := t_k W14_15 h16 (by omega)
      have W15_16 := t_k W15_15 h16 (by omega)
      have W16_16 := t_new h16
      refine mm_skip (mm_call_mono _ _) 2 (st' := (363, [(7, .int (nI (LN + 4))), (6, .int (nI LN)), (5, .int (nI ct)), (0, .ref 10), (1, .int (nI o)), (2, .int (nI LN)), (3, .int (nI kc)), (4, .int 1)], [.int (nI o), .ref 10], wP pre (wN (PP s16) (QQ s16) op oq tr (nI L1.1) w16 fa6 ob st of F), 0)) rfl ?_
      refine mm_inv (mm_call_mono _ _) (j := 84) (a := [.int (nI o)]) (M := wP pre (wN (PP s16) (QQ s16) op oq tr (nI L1.1) w16 fa6 ob st of F)) (u := 0) rfl (by decide) (rm_yOf (o := o) ?_)
      show mm_W _ _ _ _ _ _ _ (366, [(7, .int (nI (LN + 4))), (6, .int (nI LN)), (5, .int (nI ct)), (0, .ref 10), (1, .int (nI o)), (2, .int (nI LN)), (3, .int (nI kc)), (4, .int 1)], [.int (nI (12 * o + 4)), .ref 10], wP pre (wN (PP s16) (QQ s16) op oq tr (nI L1.1) w16 fa6 ob st of F), 0)
      refine mm_skip (mm_call_mono _ _) 1 (st' := (368, [(7, .int (nI (LN + 4))), (6, .int (nI LN)), (5, .int (nI ct)), (0, .ref 10), (1, .int (nI o)), (2, .int (nI LN)), (3, .int (nI kc)), (4, .int 1)], [.int 14, .int (nI (12 * o + 4)), .ref 10], wP pre (wN (PP s16) (QQ s16) op oq tr (nI L1.1) w16 fa6 ob st of F), 0)) rfl ?_
      refine mm_inv (mm_call_mono _ _) (j := 85) (a := [.int 14]) (M := wP pre (wN (PP s16) (QQ s16) op oq tr (nI L1.1) w16 fa6 ob st of F)) (u := 0) rfl (by decide) (rm_work ?_)
      show mm_W _ _ _ _ _ _ _ (371, [(7, .int (nI (LN + 4))), (6, .int (nI LN)), (5, .int (nI ct)), (0, .ref 10), (1, .int (nI o)), (2, .int (nI LN)), (3, .int (nI kc)), (4, .int 1)], [.int 424, .int (nI (12 * o + 4)), .ref 10], wP pre (wN (PP s16) (QQ s16) op oq tr (nI L1.1) w16 fa6 ob st of F), 0)
      refine mm_skip (mm_call_mono _ _) 1 (st' := (373, [(7, .int (nI (LN + 4))), (6, .int (nI LN)), (5, .int (nI ct)), (0, .ref 10), (1, .int (nI o)), (2, .int (nI LN)), (3, .int (nI kc)), (4, .int 1)], [.int 15, .int 424, .int (nI (12 * o + 4)), .ref 10], wP pre (wN (PP s16) (QQ s16) op oq tr (nI L1.1) w16 fa6 ob st of F), 0)) rfl ?_
      refine mm_inv (mm_call_mono _ _) (j := 85) (a := [.int 15]) (M := wP pre (wN (PP s16) (QQ s16) op oq tr (nI L1.1) w16 fa6 ob st of F)) (u := 0) rfl (by decide) (rm_work ?_)
      show mm_W _ _ _ _ _ _ _ (376, [(7, .int (nI (LN + 4))), (6, .int (nI LN)), (5, .int (nI ct)), (0, .ref 10), (1, .int (nI o)), (2, .int (nI LN)), (3, .int (nI kc)), (4, .int 1)], [.int 428, .int 424, .int (nI (12 * o + 4)), .ref 10], wP pre (wN (PP s16) (QQ s16) op oq tr (nI L1.1) w16 fa6 ob st of F), 0)
      refine mm_skip (mm_call_mono _ _) 1 (st' := (377, [(7, .int (nI (LN + 4))), (6, .int (nI LN)), (5, .int (nI ct)), (0, .ref 10), (1, .int (nI o)), (2, .int (nI LN)), (3, .int (nI kc)), (4, .int 1)], [.int 4, .int 428, .int 424, .int (nI (12 * o + 4)), .ref 10], wP pre (wN (PP s16) (QQ s16) op oq tr (nI L1.1) w16 fa6 ob st of F), 0)) rfl ?_
      refine mm_inv (mm_call_mono _ _) (j := 59) (a := [.ref 10, .int (nI (12 * o + 4)), .int 424, .int 428, .int 4]) (M := wP pre (wN (PP s16) (QQ s16) op oq tr (nI L1.1) w16 fa6 ob st of F)) (u := 0) rfl (by decide) (rg_add (D := (12 * o + 4)) (A := 424) (B := 428) V16 z16 hl1 (by omega) W14_16 W15_16 (fun s17 w17 h17 => ?_))
      show mm_W _ _ _ _ _ _ _ (380, [(7, .int (nI (LN + 4))), (6, .int (nI LN)), (5, .int (nI ct)), (0, .ref 10), (1, .int (nI o)), (2, .int (nI LN)), (3, .int (nI kc)), (4, .int 1)], [], wP pre (wN (PP s17) (QQ s17) op oq tr (nI L1.1) w17 fa6 ob st of F), 0)
      have V17 := h17.1
      have z17 := h17.2.1
      have S17 := gs_s S16 h17 (fun k => by omega)
      have F17 := g_F S16 F16 E16 h17
      have E17 := g_E E16 h17
      have R_17 := r_k R_16 h17 (by omega)
      have I_17 := t_k I_16 h17 (by omega)
      have W16_17 := t_k W16_16 h17 (by omega)
      have W17_17 := t_new h17
      exact mm_ret (mm_call_mono _ _) (c := True) (r := .inl none) (M := wP pre (wN (PP s17) (QQ s17) op oq tr (nI L1.1) w17 fa6 ob st of F)) (u := 0) rfl trivial (by decide) (by have e9 := dr_ofM (L := L) S17 (fun k q => q) hl1 W16_17 W17_17 I_17 R_17 E17 F17; rw [rCut_eq] at e9; rw [g1]; exact hQ _ _ _ _ e9)
    · skip
      exact mm_ret (mm_call_mono _ _) (c := True) (r := .inl none) (M := wP pre (wN (PP s6) (QQ s6) op oq tr (nI L1.1) w6 fa6 ob st of F)) (u := 0) rfl trivial (by decide) (hQ _ _ _ _ (dr_fM (L := L) S6 (fun k q => q) hl1 h6.2.2.1 (Or.inl (mm_z1 z6 g2)) (by rw [← rCut_eq]; exact FT (Or.inl (mm_z1 z6 g2)) rfl)))
  · skip
    exact mm_ret (mm_call_mono _ _) (c := True) (r := .inl none) (M := wP pre (wN (PP s6) (QQ s6) op oq tr (nI L1.1) w6 fa6 ob st of F)) (u := 0) rfl trivial (by decide) (hQ _ _ _ _ (dr_fM (L := L) S6 (fun k q => q) hl1 h6.2.2.1 (Or.inr (mm_z1 h6.2.2.1 g1)) (by rw [← rCut_eq]; exact FT (Or.inr (mm_z1 h6.2.2.1 g1)) rfl)))

theorem isz_t {s : Nat → fr} {l A : Nat} {x : n4} (X : tM s 0 l A x) (h : iszm 4 s A) : n4z x := fun j hj => by rw [← X.1 rfl j hj]; exact h j hj
theorem rCom_b {L : lvR} {xp yp s1 xq yq s2 : n4} {X : Type} (k : o3 → Option X) : (rCom L xp yp s1 xq yq s2).bind k = (xsub L.1 xq xp).bind fun d => (xadd L.1 d d).bind fun a => (xsub L.1 yq yp).bind fun e => (xadd L.1 e e).bind fun b => (xcr L xq xq xp xp).bind fun u => (xcr L yq yq yp yp).bind fun v => (xadd L.1 u v).bind fun t6 => (xsub L.1 s1 s2).bind fun t5 => (xadd L.1 t5 t6).bind fun c => k (a, b, c) := by
  unfold rCom
  cases xsub L.1 xq xp with
  | none => rfl
  | some d =>
    show ((xadd L.1 d d).bind _).bind k = (xadd L.1 d d).bind _
    cases xadd L.1 d d with
    | none => rfl
    | some a =>
      show ((xsub L.1 yq yp).bind _).bind k = (xsub L.1 yq yp).bind _
      cases xsub L.1 yq yp with
      | none => rfl
      | some e =>
        show ((xadd L.1 e e).bind _).bind k = (xadd L.1 e e).bind _
        cases xadd L.1 e e with
        | none => rfl
        | some b =>
          show ((xcr L xq xq xp xp).bind _).bind k = (xcr L xq xq xp xp).bind _
          cases xcr L xq xq xp xp with
          | none => rfl
          | some u =>
            show ((xcr L yq yq yp yp).bind _).bind k = (xcr L yq yq yp yp).bind _
            cases xcr L yq yq yp yp with
            | none => rfl
            | some v =>
              show ((xadd L.1 u v).bind _).bind k = (xadd L.1 u v).bind _
              cases xadd L.1 u v with
              | none => rfl
              | some t6 =>
                show ((xsub L.1 s1 s2).bind _).bind k = (xsub L.1 s1 s2).bind _
                cases xsub L.1 s1 s2 with
                | none => rfl
                | some t5 =>
                  show ((xadd L.1 t5 t6).bind _).bind k = (xadd L.1 t5 t6).bind _
                  cases xadd L.1 t5 t6 <;> rfl
set_option maxRecDepth 100000 in
theorem rk_circles_0 {d : Nat} {pre : mm_pre} {s : Nat → fr} {op oq : Nat → Int64} {tr ob : Int32} {st of : Nat → Int32} {F : mm_M} {L : lvR} {o : Nat} {p q c e : Nat} {xp yp sa xq yq sb : n4} {Q : mm_R → mm_M → Prop} (hV : ∀ k, fv (s k)) (hl : L.1 ≤ 2) (hg : p < o ∧ q < o ∧ c < o ∧ e < o ∧ o < 24) (hofp : of (4 * p) = nI c) (hofq : of (4 * q) = nI e) (R : rdM s 0 L) (Hf : isM s 0 1 299 (fun _ => (1, 2))) (A : tM s 0 L.1 (12 * c) xp) (B : tM s 0 L.1 ((12 * c + 4)) yp) (C : tM s 0 L.1 (12 * e) xq) (D : tM s 0 L.1 ((12 * e + 4)) yq) (G : tM s 0 L.1 (12 * p) sa) (H : tM s 0 L.1 (12 * q) sb) (I : tM s 0 L.1 ((12 * o + 8)) zz) (hQ : ∀ (s1 : Nat → fr) (w1 fa1 : Int32) (L1 : lvR), drM s L o (mCir L xp yp sa xq yq sb true) s1 w1 fa1 L1 → Q (.inl none) (wP pre (wN (PP s1) (QQ s1) op oq tr (nI L1.1) w1 fa1 ob st of F))) : mm_call mm_Tb (d + 13) 93 [.ref 10, .int (nI o), .int (nI p), .int (nI q), .int 0] (wP pre (wN (PP s) (QQ s) op oq tr (nI L.1) 0 0 ob st of F)) Q := by
  have S0 := ms_0 (wi := 0) (Z := fun k => 300 ≤ k ∨ (12 * o ≤ k ∧ k < 12 * o + 12)) hV (Or.inl rfl)
  have F0 : (0 : Int32) = 1 → (0 : Int32) = 0 → mCir L xp yp sa xq yq sb true = none := fun h1 h0 => absurd (h1.symm.trans h0) z10
  have E0 : (0 : Int32) = 0 → mCir L xp yp sa xq yq sb true = Option.bind (xsub L.1 xq xp) _ := fun _ => by show (mCom L xp yp sa xq yq sb).bind _ = _; rw [← rCom_eq]; exact rCom_b _
  refine mm_in mt_93 (Nat.le_of_ble_eq_true rfl) ?_
  show mm_W _ _ _ _ _ _ _ (0, [(0, .ref 10), (1, .int (nI o)), (2, .int (nI p)), (3, .int (nI q)), (4, .int 0)], [], wP pre (wN (PP s) (QQ s) op oq tr (nI L.1) 0 0 ob st of F), 0)
  refine mm_skip (mm_call_mono _ _) 5 (st' := (7, [(0, .ref 10), (1, .int (nI o)), (2, .int (nI p)), (3, .int (nI q)), (4, .int 0)], [.int (4 * (nI p)), .ref 16], wP pre (wN (PP s) (QQ s) op oq tr (nI L.1) 0 0 ob st of F), 0)) rfl ?_
  rw [nI_m4 p]
  show mm_W _ _ _ _ _ _ _ (7, [(0, .ref 10), (1, .int (nI o)), (2, .int (nI p)), (3, .int (nI q)), (4, .int 0)], [.int (nI (4 * p)), .ref 16], wP pre (wN (PP s) (QQ s) op oq tr (nI L.1) 0 0 ob st of F), 0)
  refine mm_need (mm_call_mono _ _) (c := vp_in (nI (4 * p)) 96) (s' := (8, [(0, .ref 10), (1, .int (nI o)), (2, .int (nI p)), (3, .int (nI q)), (4, .int 0)], [.int (of (Int32.toNatClampNeg (nI (4 * p))))], wP pre (wN (PP s) (QQ s) op oq tr (nI L.1) 0 0 ob st of F), 0)) rfl (vp_in_nI (show (4 * p) < 96 by omega) (by decide)) ?_
  rw [nI_clamp (show (4 * p) < 2 ^ 31 by omega)]
  show mm_W _ _ _ _ _ _ _ (8, [(0, .ref 10), (1, .int (nI o)), (2, .int (nI p)), (3, .int (nI q)), (4, .int 0)], [.int (of (4 * p))], wP pre (wN (PP s) (QQ s) op oq tr (nI L.1) 0 0 ob st of F), 0)
  rw [hofp]
  show mm_W _ _ _ _ _ _ _ (8, [(0, .ref 10), (1, .int (nI o)), (2, .int (nI p)), (3, .int (nI q)), (4, .int 0)], [.int (nI c)], wP pre (wN (PP s) (QQ s) op oq tr (nI L.1) 0 0 ob st of F), 0)
  refine mm_skip (mm_call_mono _ _) 6 (st' := (17, [(5, .int (nI c)), (0, .ref 10), (1, .int (nI o)), (2, .int (nI p)), (3, .int (nI q)), (4, .int 0)], [.int (4 * (nI q)), .ref 16], wP pre (wN (PP s) (QQ s) op oq tr (nI L.1) 0 0 ob st of F), 0)) rfl ?_
  rw [nI_m4 q]
  show mm_W _ _ _ _ _ _ _ (17, [(5, .int (nI c)), (0, .ref 10), (1, .int (nI o)), (2, .int (nI p)), (3, .int (nI q)), (4, .int 0)], [.int (nI (4 * q)), .ref 16], wP pre (wN (PP s) (QQ s) op oq tr (nI L.1) 0 0 ob st of F), 0)
  refine mm_need (mm_call_mono _ _) (c := vp_in (nI (4 * q)) 96) (s' := (18, [(5, .int (nI c)), (0, .ref 10), (1, .int (nI o)), (2, .int (nI p)), (3, .int (nI q)), (4, .int 0)], [.int (of (Int32.toNatClampNeg (nI (4 * q))))], wP pre (wN (PP s) (QQ s) op oq tr (nI L.1) 0 0 ob st of F), 0)) rfl (vp_in_nI (show (4 * q) < 96 by omega) (by decide)) ?_
  rw [nI_clamp (show (4 * q) < 2 ^ 31 by omega)]
  show mm_W _ _ _ _ _ _ _ (18, [(5, .int (nI c)), (0, .ref 10), (1, .int (nI o)), (2, .int (nI p)), (3, .int (nI q)), (4, .int 0)], [.int (of (4 * q))], wP pre (wN (PP s) (QQ s) op oq tr (nI L.1) 0 0 ob st of F), 0)
  rw [hofq]
  show mm_W _ _ _ _ _ _ _ (18, [(5, .int (nI c)), (0, .ref 10), (1, .int (nI o)), (2, .int (nI p)), (3, .int (nI q)), (4, .int 0)], [.int (nI e)], wP pre (wN (PP s) (QQ s) op oq tr (nI L.1) 0 0 ob st of F), 0)
  refine mm_skip (mm_call_mono _ _) 3 (st' := (22, [(6, .int (nI e)), (5, .int (nI c)), (0, .ref 10), (1, .int (nI o)), (2, .int (nI p)), (3, .int (nI q)), (4, .int 0)], [.int 0, .ref 10], wP pre (wN (PP s) (QQ s) op oq tr (nI L.1) 0 0 ob st of F), 0)) rfl ?_
  refine mm_inv (mm_call_mono _ _) (j := 85) (a := [.int 0]) (M := wP pre (wN (PP s) (QQ s) op oq tr (nI L.1) 0 0 ob st of F)) (u := 0) rfl (by decide) (rm_work ?_)
  show mm_W _ _ _ _ _ _ _ (25, [(6, .int (nI e)), (5, .int (nI c)), (0, .ref 10), (1, .int (nI o)), (2, .int (nI p)), (3, .int (nI q)), (4, .int 0)], [.int 368, .ref 10], wP pre (wN (PP s) (QQ s) op oq tr (nI L.1) 0 0 ob st of F), 0)
  refine mm_skip (mm_call_mono _ _) 1 (st' := (27, [(6, .int (nI e)), (5, .int (nI c)), (0, .ref 10), (1, .int (nI o)), (2, .int (nI p)), (3, .int (nI q)), (4, .int 0)], [.int (nI e), .int 368, .ref 10], wP pre (wN (PP s) (QQ s) op oq tr (nI L.1) 0 0 ob st of F), 0)) rfl ?_
  refine mm_inv (mm_call_mono _ _) (j := 83) (a := [.int (nI e)]) (M := wP pre (wN (PP s) (QQ s) op oq tr (nI L.1) 0 0 ob st of F)) (u := 0) rfl (by decide) (rm_xOf (o := e) ?_)
  show mm_W _ _ _ _ _ _ _ (30, [(6, .int (nI e)), (5, .int (nI c)), (0, .ref 10), (1, .int (nI o)), (2, .int (nI p)), (3, .int (nI q)), (4, .int 0)], [.int (nI (12 * e)), .int 368, .ref 10], wP pre (wN (PP s) (QQ s) op oq tr (nI L.1) 0 0 ob st of F), 0)
  refine mm_skip (mm_call_mono _ _) 1 (st' := (32, [(6, .int (nI e)), (5, .int (nI c)), (0, .ref 10), (1, .int (nI o)), (2, .int (nI p)), (3, .int (nI q)), (4, .int 0)], [.int (nI c), .int (nI (12 * e)), .int 368, .ref 10], wP pre (wN (PP s) (QQ s) op oq tr (nI L.1) 0 0 ob st of F), 0)) rfl ?_
  refine mm_inv (mm_call_mono _ _) (j := 83) (a := [.int (nI c)]) (M := wP pre (wN (PP s) (QQ s) op oq tr (nI L.1) 0 0 ob st of F)) (u := 0) rfl (by decide) (rm_xOf (o := c) ?_)
  show mm_W _ _ _ _ _ _ _ (35, [(6, .int (nI e)), (5, .int (nI c)), (0, .ref 10), (1, .int (nI o)), (2, .int (nI p)), (3, .int (nI q)), (4, .int 0)], [.int (nI (12 * c)), .int (nI (12 * e)), .int 368, .ref 10], wP pre (wN (PP s) (QQ s) op oq tr (nI L.1) 0 0 ob st of F), 0)
  refine mm_skip (mm_call_mono _ _) 1 (st' := (36, [(6, .int (nI e)), (5, .int (nI c)), (0, .ref 10), (1, .int (nI o)), (2, .int (nI p)), (3, .int (nI q)), (4, .int 0)], [.int 4, .int (nI (12 * c)), .int (nI (12 * e)), .int 368, .ref 10], wP pre (wN (PP s) (QQ s) op oq tr (nI L.1) 0 0 ob st of F), 0)) rfl ?_
  refine mm_inv (mm_call_mono _ _) (j := 60) (a := [.ref 10, .int 368, .int (nI (12 * e)), .int (nI (12 * c)), .int 4]) (M := wP pre (wN (PP s) (QQ s) op oq tr (nI L.1) 0 0 ob st of F)) (u := 0) rfl (by decide) (rg_sub (D := 368) (A := (12 * e)) (B := (12 * c)) hV (Or.inl rfl) hl (by omega) C A (fun s1 w1 h1 => ?_))
  show mm_W _ _ _ _ _ _ _ (39, [(6, .int (nI e)), (5, .int (nI c)), (0, .ref 10), (1, .int (nI o)), (2, .int (nI p)), (3, .int (nI q)), (4, .int 0)], [], wP pre (wN (PP s1) (QQ s1) op oq tr (nI L.1) w1 0 ob st of F), 0)
  have V1 := h1.1
  have z1 := h1.2.1
  have S1 := gs_s S0 h1 (fun k => by omega)
  have F1 := g_F S0 F0 E0 h1
  have E1 := g_E E0 h1
  have R_1 := r_k R h1 (by omega)
  have Hf_1 := f_k Hf h1 (by omega)
  have A_1 := t_k A h1 (by omega)
  have B_1 := t_k B h1 (by omega)
  have C_1 := t_k C h1 (by omega)
  have D_1 := t_k D h1 (by omega)
  have G_1 := t_k G h1 (by omega)
  have H_1 := t_k H h1 (by omega)
  have I_1 := t_k I h1 (by omega)
  have W1_1 := t_new h1
  refine mm_skip (mm_call_mono _ _) 2 (st' := (41, [(6, .int (nI e)), (5, .int (nI c)), (0, .ref 10), (1, .int (nI o)), (2, .int (nI p)), (3, .int (nI q)), (4, .int 0)], [.int 0, .ref 10], wP pre (wN (PP s1) (QQ s1) op oq tr (nI L.1) w1 0 ob st of F), 0)) rfl ?_
  refine mm_inv (mm_call_mono _ _) (j := 85) (a := [.int 0]) (M := wP pre (wN (PP s1) (QQ s1) op oq tr (nI L.1) w1 0 ob st of F)) (u := 0) rfl (by decide) (rm_work ?_)
  show mm_W _ _ _ _ _ _ _ (44, [(6, .int (nI e)), (5, .int (nI c)), (0, .ref 10), (1, .int (nI o)), (2, .int (nI p)), (3, .int (nI q)), (4, .int 0)], [.int 368, .ref 10], wP pre (wN (PP s1) (QQ s1) op oq tr (nI L.1) w1 0 ob st of F), 0)
  refine mm_skip (mm_call_mono _ _) 1 (st' := (45, [(6, .int (nI e)), (5, .int (nI c)), (0, .ref 10), (1, .int (nI o)), (2, .int (nI p)), (3, .int (nI q)), (4, .int 0)], [.int 0, .int 368, .ref 10], wP pre (wN (PP s1) (QQ s1) op oq tr (nI L.1) w1 0 ob st of F), 0)) rfl ?_
  refine mm_inv (mm_call_mono _ _) (j := 85) (a := [.int 0]) (M := wP pre (wN (PP s1) (QQ s1) op oq tr (nI L.1) w1 0 ob st of F)) (u := 0) rfl (by decide) (rm_work ?_)
  show mm_W _ _ _ _ _ _ _ (48, [(6, .int (nI e)), (5, .int (nI c)), (0, .ref 10), (1, .int (nI o)), (2, .int (nI p)), (3, .int (nI q)), (4, .int 0)], [.int 368, .int 368, .ref 10], wP pre (wN (PP s1) (QQ s1) op oq tr (nI L.1) w1 0 ob st of F), 0)
  refine mm_skip (mm_call_mono _ _) 1 (st' := (49, [(6, .int (nI e)), (5, .int (nI c)), (0, .ref 10), (1, .int (nI o)), (2, .int (nI p)), (3, .int (nI q)), (4, .int 0)], [.int 0, .int 368, .int 368, .ref 10], wP pre (wN (PP s1) (QQ s1) op oq tr (nI L.1) w1 0 ob st of F), 0)) rfl ?_
  refine mm_inv (mm_call_mono _ _) (j := 85) (a := [.int 0]) (M := wP pre (wN (PP s1) (QQ s1) op oq tr (nI L.1) w1 0 ob st of F)) (u := 0) rfl (by decide) (rm_work ?_)
  show mm_W _ _ _ _ _ _ _ (52, [(6, .int (nI e)), (5, .int (nI c)), (0, .ref 10), (1, .int (nI o)), (2, .int (nI p)), (3, .int (nI q)), (4, .int 0)], [.int 368, .int 368, .int 368, .ref 10], wP pre (wN (PP s1) (QQ s1) op oq tr (nI L.1) w1 0 ob st of F), 0)
  refine mm_skip (mm_call_mono _ _) 1 (st' := (53, [(6, .int (nI e)), (5, .int (nI c)), (0, .ref 10), (1, .int (nI o)), (2, .int (nI p)), (3, .int (nI q)), (4, .int 0)], [.int 4, .int 368, .int 368, .int 368, .ref 10], wP pre (wN (PP s1) (QQ s1) op oq tr (nI L.1) w1 0 ob st of F), 0)) rfl ?_
  refine mm_inv (mm_call_mono _ _) (j := 59) (a := [.ref 10, .int 368, .int 368, .int 368, .int 4]) (M := wP pre (wN (PP s1) (QQ s1) op oq tr (nI L.1) w1 0 ob st of F)) (u := 0) rfl (by decide) (rg_add (D := 368) (A := 368) (B := 368) V1 z1 hl (by omega) W1_1 W1_1 (fun s2 w2 h2 => ?_))
  show mm_W _ _ _ _ _ _ _ (56, [(6, .int (nI e)), (5, .int (nI c)), (0, .ref 10), (1, .int (nI o)), (2, .int (nI p)), (3, .int (nI q)), (4, .int 0)], [], wP pre (wN (PP s2) (QQ s2) op oq tr (nI L.1) w2 0 ob st of F), 0)
  have V2 := h2.1
  have z2 := h2.2.1
  have S2 := gs_s S1 h2 (fun k => by omega)
  have F2 := g_F S1 F1 E1 h2
  have E2 := g_E E1 h2
  have R_2 := r_k R_1 h2 (by omega)
  have Hf_2 := f_k Hf_1 h2 (by omega)
  have A_2 := t_k A_1 h2 (by omega)
  have B_2 := t_k B_1 h2 (by omega)
  have C_2 := t_k C_1 h2 (by omega)
  have D_2 := t_k D_1 h2 (by omega)
  have G_2 := t_k G_1 h2 (by omega)
  have H_2 := t_k H_1 h2 (by omega)
  have I_2 := t_k I_1 h2 (by omega)
  have W2_2 := t_new h2
  refine mm_skip (mm_call_mono _ _) 2 (st' := (58, [(6, .int (nI e)), (5, .int (nI c)), (0, .ref 10), (1, .int (nI o)), (2, .int (nI p)), (3, .int (nI q)), (4, .int 0)], [.int 1, .ref 10], wP pre (wN (PP s2) (QQ s2) op oq tr (nI L.1) w2 0 ob st of F), 0)) rfl ?_
  refine mm_inv (mm_call_mono _ _) (j := 85) (a := [.int 1]) (M := wP pre (wN (PP s2) (QQ s2) op oq tr (nI L.1) w2 0 ob st of F)) (u := 0) rfl (by decide) (rm_work ?_)
  show mm_W _ _ _ _ _ _ _ (61, [(6, .int (nI e)), (5, .int (nI c)), (0, .ref 10), (1, .int (nI o)), (2, .int (nI p)), (3, .int (nI q)), (4, .int 0)], [.int 372, .ref 10], wP pre (wN (PP s2) (QQ s2) op oq tr (nI L.1) w2 0 ob st of F), 0)
  refine mm_skip (mm_call_mono _ _) 1 (st' := (63, [(6, .int (nI e)), (5, .int (nI c)), (0, .ref 10), (1, .int (nI o)), (2, .int (nI p)), (3, .int (nI q)), (4, .int 0)], [.int (nI e), .int 372, .ref 10], wP pre (wN (PP s2) (QQ s2) op oq tr (nI L.1) w2 0 ob st of F), 0)) rfl ?_
  refine mm_inv (mm_call_mono _ _) (j := 84) (a := [.int (nI e)]) (M := wP pre (wN (PP s2) (QQ s2) op oq tr (nI L.1) w2 0 ob st of F)) (u := 0) rfl (by decide) (rm_yOf (o := e) ?_)
  show mm_W _ _ _ _ _ _ _ (66, [(6, .int (nI e)), (5, .int (nI c)), (0, .ref 10), (1, .int (nI o)), (2, .int (nI p)), (3, .int (nI q)), (4, .int 0)], [.int (nI (12 * e + 4)), .int 372, .ref 10], wP pre (wN (PP s2) (QQ s2) op oq tr (nI L.1) w2 0 ob st of F), 0)
  refine mm_skip (mm_call_mono _ _) 1 (st' := (68, [(6, .int (nI e)), (5, .int (nI c)), (0, .ref 10), (1, .int (nI o)), (2, .int (nI p)), (3, .int (nI q)), (4, .int 0)], [.int (nI c), .int (nI (12 * e + 4)), .int 372, .ref 10], wP pre (wN (PP s2) (QQ s2) op oq tr (nI L.1) w2 0 ob st of F), 0)) rfl ?_
  refine mm_inv (mm_call_mono _ _) (j := 84) (a := [.int (nI c)]) (M := wP pre (wN (PP s2) (QQ s2) op oq tr (nI L.1) w2 0 ob st of F)) (u := 0) rfl (by decide) (rm_yOf (o := c) ?_)
  show mm_W _ _ _ _ _ _ _ (71, [(6, .int (nI e)), (5, .int (nI c)), (0, .ref 10), (1, .int (nI o)), (2, .int (nI p)), (3, .int (nI q)), (4, .int 0)], [.int (nI (12 * c + 4)), .int (nI (12 * e + 4)), .int 372, .ref 10], wP pre (wN (PP s2) (QQ s2) op oq tr (nI L.1) w2 0 ob st of F), 0)
  refine mm_skip (mm_call_mono _ _) 1 (st' := (72, [(6, .int (nI e)), (5, .int (nI c)), (0, .ref 10), (1, .int (nI o)), (2, .int (nI p)), (3, .int (nI q)), (4, .int 0)], [.int 4, .int (nI (12 * c + 4)), .int (nI (12 * e + 4)), .int 372, .ref 10], wP pre (wN (PP s2) (QQ s2) op oq tr (nI L.1) w2 0 ob st of F), 0)) rfl ?_
  refine mm_inv (mm_call_mono _ _) (j := 60) (a := [.ref 10, .int 372, .int (nI (12 * e + 4)), .int (nI (12 * c + 4)), .int 4]) (M := wP pre (wN (PP s2) (QQ s2) op oq tr (nI L.1) w2 0 ob st of F)) (u := 0) rfl (by decide) (rg_sub (D := 372) (A := (12 * e + 4)) (B := (12 * c + 4)) V2 z2 hl (by omega) D_2 B_2 (fun s3 w3 h3 => ?_))
  show mm_W _ _ _ _ _ _ _ (75, [(6, .int (nI e)), (5, .int (nI c)), (0, .ref 10), (1, .int (nI o)), (2, .int (nI p)), (3, .int (nI q)), (4, .int 0)], [], wP pre (wN (PP s3) (QQ s3) op oq tr (nI L.1) w3 0 ob st of F), 0)
  have V3 := h3.1
  have z3 := h3.2.1
  have S3 := gs_s S2 h3 (fun k => by omega)
  have F3 := g_F S2 F2 E2 h3
  have E3 := g_E E2 h3
  have R_3 := r_k R_2 h3 (by omega)
  have Hf_3 := f_k Hf_2 h3 (by omega)
  have A_3 := t_k A_2 h3 (by omega)
  have B_3 := t_k B_2 h3 (by omega)
  have C_3 := t_k C_2 h3 (by omega)
  have D_3 := t_k D_2 h3 (by omega)
  have G_3 := t_k G_2 h3 (by omega)
  have H_3 := t_k H_2 h3 (by omega)
  have I_3 := t_k I_2 h3 (by omega)
  have W2_3 := t_k W2_2 h3 (by omega)
  have W3_3 := t_new h3
  refine mm_skip (mm_call_mono _ _) 2 (st' := (77, [(6, .int (nI e)), (5, .int (nI c)), (0, .ref 10), (1, .int (nI o)), (2, .int (nI p)), (3, .int (nI q)), (4, .int 0)], [.int 1, .ref 10], wP pre (wN (PP s3) (QQ s3) op oq tr (nI L.1) w3 0 ob st of F), 0)) rfl ?_
  refine mm_inv (mm_call_mono _ _) (j := 85) (a := [.int 1]) (M := wP pre (wN (PP s3) (QQ s3) op oq tr (nI L.1) w3 0 ob st of F)) (u := 0) rfl (by decide) (rm_work ?_)
  show mm_W _ _ _ _ _ _ _ (80, [(6, .int (nI e)), (5, .int (nI c)), (0, .ref 10), (1, .int (nI o)), (2, .int (nI p)), (3, .int (nI q)), (4, .int 0)], [.int 372, .ref 10], wP pre (wN (PP s3) (QQ s3) op oq tr (nI L.1) w3 0 ob st of F), 0)
  refine mm_skip (mm_call_mono _ _) 1 (st' := (81, [(6, .int (nI e)), (5, .int (nI c)), (0, .ref 10), (1, .int (nI o)), (2, .int (nI p)), (3, .int (nI q)), (4, .int 0)], [.int 1, .int 372, .ref 10], wP pre (wN (PP s3) (QQ s3) op oq tr (nI L.1) w3 0 ob st of F), 0)) rfl ?_
  refine mm_inv (mm_call_mono _ _) (j := 85) (a := [.int 1]) (M := wP pre (wN (PP s3) (QQ s3) op oq tr (nI L.1) w3 0 ob st of F)) (u := 0) rfl (by decide) (rm_work ?_)
  show mm_W _ _ _ _ _ _ _ (84, [(6, .int (nI e)), (5, .int (nI c)), (0, .ref 10), (1, .int (nI o)), (2, .int (nI p)), (3, .int (nI q)), (4, .int 0)], [.int 372, .int 372, .ref 10], wP pre (wN (PP s3) (QQ s3) op oq tr (nI L.1) w3 0 ob st of F), 0)
  refine mm_skip (mm_call_mono _ _) 1 (st' := (85, [(6, .int (nI e)), (5, .int (nI c)), (0, .ref 10), (1, .int (nI o)), (2, .int (nI p)), (3, .int (nI q)), (4, .int 0)], [.int 1, .int 372, .int 372, .ref 10], wP pre (wN (PP s3) (QQ s3) op oq tr (nI L.1) w3 0 ob st of F), 0)) rfl ?_
  refine mm_inv (mm_call_mono _ _) (j := 85) (a := [.int 1]) (M := wP pre (wN (PP s3) (QQ s3) op oq tr (nI L.1) w3 0 ob st of F)) (u := 0) rfl (by decide) (rm_work ?_)
  show mm_W _ _ _ _ _ _ _ (88, [(6, .int (nI e)), (5, .int (nI c)), (0, .ref 10), (1, .int (nI o)), (2, .int (nI p)), (3, .int (nI q)), (4, .int 0)], [.int 372, .int 372, .int 372, .ref 10], wP pre (wN (PP s3) (QQ s3) op oq tr (nI L.1) w3 0 ob st of F), 0)
  refine mm_skip (mm_call_mono _ _) 1 (st' := (89, [(6, .int (nI e)), (5, .int (nI c)), (0, .ref 10), (1, .int (nI o)), (2, .int (nI p)), (3, .int (nI q)), (4, .int 0)], [.int 4, .int 372, .int 372, .int 372, .ref 10], wP pre (wN (PP s3) (QQ s3) op oq tr (nI L.1) w3 0 ob st of F), 0)) rfl ?_
  refine mm_inv (mm_call_mono _ _) (j := 59) (a := [.ref 10, .int 372, .int 372, .int 372, .int 4]) (M := wP pre (wN (PP s3) (QQ s3) op oq tr (nI L.1) w3 0 ob st of F)) (u := 0) rfl (by decide) (rg_add (D := 372) (A := 372) (B := 372) V3 z3 hl (by omega) W3_3 W3_3 (fun s4 w4 h4 => ?_))
  show mm_W _ _ _ _ _ _ _ (92, [(6, .int (nI e)), (5, .int (nI c)), (0, .ref 10), (1, .int (nI o)), (2, .int (nI p)), (3, .int (nI q)), (4, .int 0)], [], wP pre (wN (PP s4) (QQ s4) op oq tr (nI L.1) w4 0 ob st of F), 0)
  have V4 := h4.1
  have z4 := h4.2.1
  have S4 := gs_s S3 h4 (fun k => by omega)
  have F4 := g_F S3 F3 E3 h4
  have E4 := g_E E3 h4
  have R_4 := r_k R_3 h4 (by omega)
  have Hf_4 := f_k Hf_3 h4 (by omega)
  have A_4 := t_k A_3 h4 (by omega)
  have B_4 := t_k B_3 h4 (by omega)
  have C_4 := t_k C_3 h4 (by omega)
  have D_4 := t_k D_3 h4 (by omega)
  have G_4 := t_k G_3 h4 (by omega)
  have H_4 := t_k H_3 h4 (by omega)
  have I_4 := t_k I_3 h4 (by omega)
  have W2_4 := t_k W2_3 h4 (by omega)
  have W4_4 := t_new h4
  refine mm_skip (mm_call_mono _ _) 2 (st' := (94, [(6, .int (nI e)), (5, .int (nI c)), (0, .ref 10), (1, .int (nI o)), (2, .int (nI p)), (3, .int (nI q)), (4, .int 0)], [.int 2, .ref 10], wP pre (wN (PP s4) (QQ s4) op oq tr (nI L.1) w4 0 ob st of F), 0)) rfl ?_
  refine mm_inv (mm_call_mono _ _) (j := 85) (a := [.int 2]) (M := wP pre (wN (PP s4) (QQ s4) op oq tr (nI L.1) w4 0 ob st of F)) (u := 0) rfl (by decide) (rm_work ?_)
  show mm_W _ _ _ _ _ _ _ (97, [(6, .int (nI e)), (5, .int (nI c)), (0, .ref 10), (1, .int (nI o)), (2, .int (nI p)), (3, .int (nI q)), (4, .int 0)], [.int 376, .ref 10], wP pre (wN (PP s4) (QQ s4) op oq tr (nI L.1) w4 0 ob st of F), 0)
  refine mm_skip (mm_call_mono _ _) 1 (st' := (99, [(6, .int (nI e)), (5, .int (nI c)), (0, .ref 10), (1, .int (nI o)), (2, .int (nI p)), (3, .int (nI q)), (4, .int 0)], [.int (nI e), .int 376, .ref 10], wP pre (wN (PP s4) (QQ s4) op oq tr (nI L.1) w4 0 ob st of F), 0)) rfl ?_
  refine mm_inv (mm_call_mono _ _) (j := 83) (a := [.int (nI e)]) (M := wP pre (wN (PP s4) (QQ s4) op oq tr (nI L.1) w4 0 ob st of F)) (u := 0) rfl (by decide) (rm_xOf (o := e) ?_)
  show mm_W _ _ _ _ _ _ _ (102, [(6, .int (nI e)), (5, .int (nI c)), (0, .ref 10), (1, .int (nI o)), (2, .int (nI p)), (3, .int (nI q)), (4, .int 0)], [.int (nI (12 * e)), .int 376, .ref 10], wP pre (wN (PP s4) (QQ s4) op oq tr (nI L.1) w4 0 ob st of F), 0)
  refine mm_skip (mm_call_mono _ _) 1 (st' := (104, [(6, .int (nI e)), (5, .int (nI c)), (0, .ref 10), (1, .int (nI o)), (2, .int (nI p)), (3, .int (nI q)), (4, .int 0)], [.int (nI e), .int (nI (12 * e)), .int 376, .ref 10], wP pre (wN (PP s4) (QQ s4) op oq tr (nI L.1) w4 0 ob st of F), 0)) rfl ?_
  refine mm_inv (mm_call_mono _ _) (j := 83) (a := [.int (nI e)]) (M := wP pre (wN (PP s4) (QQ s4) op oq tr (nI L.1) w4 0 ob st of F)) (u := 0) rfl (by decide) (rm_xOf (o := e) ?_)
  show mm_W _ _ _ _ _ _ _ (107, [(6, .int (nI e)), (5, .int (nI c)), (0, .ref 10), (1, .int (nI o)), (2, .int (nI p)), (3, .int (nI q)), (4, .int 0)], [.int (nI (12 * e)), .int (nI (12 * e)), .int 376, .ref 10], wP pre (wN (PP s4) (QQ s4) op oq tr (nI L.1) w4 0 ob st of F), 0)
  refine mm_skip (mm_call_mono _ _) 1 (st' := (109, [(6, .int (nI e)), (5, .int (nI c)), (0, .ref 10), (1, .int (nI o)), (2, .int (nI p)), (3, .int (nI q)), (4, .int 0)], [.int (nI c), .int (nI (12 * e)), .int (nI (12 * e)), .int 376, .ref 10], wP pre (wN (PP s4) (QQ s4) op oq tr (nI L.1) w4 0 ob st of F), 0)) rfl ?_
  refine mm_inv (mm_call_mono _ _) (j := 83) (a := [.int (nI c)]) (M := wP pre (wN (PP s4) (QQ s4) op oq tr (nI L.1) w4 0 ob st of F)) (u := 0) rfl (by decide) (rm_xOf (o := c) ?_)
  show mm_W _ _ _ _ _ _ _ (112, [(6, .int (nI e)), (5, .int (nI c)), (0, .ref 10), (1, .int (nI o)), (2, .int (nI p)), (3, .int (nI q)), (4, .int 0)], [.int (nI (12 * c)), .int (nI (12 * e)), .int (nI (12 * e)), .int 376, .ref 10], wP pre (wN (PP s4) (QQ s4) op oq tr (nI L.1) w4 0 ob st of F), 0)
  refine mm_skip (mm_call_mono _ _) 1 (st' := (114, [(6, .int (nI e)), (5, .int (nI c)), (0, .ref 10), (1, .int (nI o)), (2, .int (nI p)), (3, .int (nI q)), (4, .int 0)], [.int (nI c), .int (nI (12 * c)), .int (nI (12 * e)), .int (nI (12 * e)), .int 376, .ref 10], wP pre (wN (PP s4) (QQ s4) op oq tr (nI L.1) w4 0 ob st of F), 0)) rfl ?_
  refine mm_inv (mm_call_mono _ _) (j := 83) (a := [.int (nI c)]) (M := wP pre (wN (PP s4) (QQ s4) op oq tr (nI L.1) w4 0 ob st of F)) (u := 0) rfl (by decide) (rm_xOf (o := c) ?_)
  show mm_W _ _ _ _ _ _ _ (117, [(6, .int (nI e)), (5, .int (nI c)), (0, .ref 10), (1, .int (nI o)), (2, .int (nI p)), (3, .int (nI q)), (4, .int 0)], [.int (nI (12 * c)), .int (nI (12 * c)), .int (nI (12 * e)), .int (nI (12 * e)), .int 376, .ref 10], wP pre (wN (PP s4) (QQ s4) op oq tr (nI L.1) w4 0 ob st of F), 0)
  refine mm_inv (mm_call_mono _ _) (j := 87) (a := [.ref 10, .int 376, .int (nI (12 * e)), .int (nI (12 * e)), .int (nI (12 * c)), .int (nI (12 * c))]) (M := wP pre (wN (PP s4) (QQ s4) op oq tr (nI L.1) w4 0 ob st of F)) (u := 0) rfl (by decide) (rg_cross (D := 376) (A := (12 * e)) (B := (12 * e)) (C := (12 * c)) (E := (12 * c)) V4 z4 hl (by omega) R_4 C_4 C_4 A_4 A_4 (fun s5 w5 h5 => ?_))
  show mm_W _ _ _ _ _ _ _ (120, [(6, .int (nI e)), (5, .int (nI c)), (0, .ref 10), (1, .int (nI o)), (2, .int (nI p)), (3, .int (nI q)), (4, .int 0)], [], wP pre (wN (PP s5) (QQ s5) op oq tr (nI L.1) w5 0 ob st of F), 0)
  have V5 := h5.1
  have z5 := h5.2.1
  have S5 := gs_s S4 h5 (fun k => by omega)
  have F5 := g_F S4 F4 E4 h5
  have E5 := g_E E4 h5
  have R_5 := r_k R_4 h5 (by omega)
  have Hf_5 := f_k Hf_4 h5 (by omega)
  have A_5 := t_k A_4 h5 (by omega)
  have B_5 := t_k B_4 h5 (by omega)
  have D_5 := t_k D_4 h5 (by omega)
  have G_5 := t_k G_4 h5 (by omega)
  have H_5 := t_k H_4 h5 (by omega)
  have I_5 := t_k I_4 h5 (by omega)
  have W2_5 := t_k W2_4 h5 (by omega)
  have W4_5 := t_k W4_4 h5 (by omega)
  have W5_5 := t_new h5
  refine mm_skip (mm_call_mono _ _) 2 (st' := (122, [(6, .int (nI e)), (5, .int (nI c)), (0, .ref 10), (1, .int (nI o)), (2, .int (nI p)), (3, .int (nI q)), (4, .int 0)], [.int 3, .ref 10], wP pre (wN (PP s5) (QQ s5) op oq tr (nI L.1) w5 0 ob st of F), 0)) rfl ?_
  refine mm_inv (mm_call_mono _ _) (j := 85) (a := [.int 3]) (M := wP pre (wN (PP s5) (QQ s5) op oq tr (nI L.1) w5 0 ob st of F)) (u := 0) rfl (by decide) (rm_work ?_)
  show mm_W _ _ _ _ _ _ _ (125, [(6, .int (nI e)), (5, .int (nI c)), (0, .ref 10), (1, .int (nI o)), (2, .int (nI p)), (3, .int (nI q)), (4, .int 0)], [.int 380, .ref 10], wP pre (wN (PP s5) (QQ s5) op oq tr (nI L.1) w5 0 ob st of F), 0)
  refine mm_skip (mm_call_mono _ _) 1 (st' := (127, [(6, .int (nI e)), (5, .int (nI c)), (0, .ref 10), (1, .int (nI o)), (2, .int (nI p)), (3, .int (nI q)), (4, .int 0)], [.int (nI e), .int 380, .ref 10], wP pre (wN (PP s5) (QQ s5) op oq tr (nI L.1) w5 0 ob st of F), 0)) rfl ?_
  refine mm_inv (mm_call_mono _ _) (j := 84) (a := [.int (nI e)]) (M := wP pre (wN (PP s5) (QQ s5) op oq tr (nI L.1) w5 0 ob st of F)) (u := 0) rfl (by decide) (rm_yOf (o := e) ?_)
  show mm_W _ _ _ _ _ _ _ (130, [(6, .int (nI e)), (5, .int (nI c)), (0, .ref 10), (1, .int (nI o)), (2, .int (nI p)), (3, .int (nI q)), (4, .int 0)], [.int (nI (12 * e + 4)), .int 380, .ref 10], wP pre (wN (PP s5) (QQ s5) op oq tr (nI L.1) w5 0 ob st of F), 0)
  refine mm_skip (mm_call_mono _ _) 1 (st' := (132, [(6, .int (nI e)), (5, .int (nI c)), (0, .ref 10), (1, .int (nI o)), (2, .int (nI p)), (3, .int (nI q)), (4, .int 0)], [.int (nI e), .int (nI (12 * e + 4)), .int 380, .ref 10], wP pre (wN (PP s5) (QQ s5) op oq tr (nI L.1) w5 0 ob st of F), 0)) rfl ?_
  refine mm_inv (mm_call_mono _ _) (j := 84) (a := [.int (nI e)]) (M := wP pre (wN (PP s5) (QQ s5) op oq tr (nI L.1) w5 0 ob st of F)) (u := 0) rfl (by decide) (rm_yOf (o := e) ?_)
  show mm_W _ _ _ _ _ _ _ (135, [(6, .int (nI e)), (5, .int (nI c)), (0, .ref 10), (1, .int (nI o)), (2, .int (nI p)), (3, .int (nI q)), (4, .int 0)], [.int (nI (12 * e + 4)), .int (nI (12 * e + 4)), .int 380, .ref 10], wP pre (wN (PP s5) (QQ s5) op oq tr (nI L.1) w5 0 ob st of F), 0)
  refine mm_skip (mm_call_mono _ _) 1 (st' := (137, [(6, .int (nI e)), (5, .int (nI c)), (0, .ref 10), (1, .int (nI o)), (2, .int (nI p)), (3, .int (nI q)), (4, .int 0)], [.int (nI c), .int (nI (12 * e + 4)), .int (nI (12 * e + 4)), .int 380, .ref 10], wP pre (wN (PP s5) (QQ s5) op oq tr (nI L.1) w5 0 ob st of F), 0)) rfl ?_
  refine mm_inv (mm_call_mono _ _) (j := 84) (a := [.int (nI c)]) (M := wP pre (wN (PP s5) (QQ s5) op oq tr (nI L.1) w5 0 ob st of F)) (u := 0) rfl (by decide) (rm_yOf (o := c) ?_)
  show mm_W _ _ _ _ _ _ _ (140, [(6, .int (nI e)), (5, .int (nI c)), (0, .ref 10), (1, .int (nI o)), (2, .int (nI p)), (3, .int (nI q)), (4, .int 0)], [.int (nI (12 * c + 4)), .int (nI (12 * e + 4)), .int (nI (12 * e + 4)), .int 380, .ref 10], wP pre (wN (PP s5) (QQ s5) op oq tr (nI L.1) w5 0 ob st of F), 0)
  refine mm_skip (mm_call_mono _ _) 1 (st' := (142, [(6, .int (nI e)), (5, .int (nI c)), (0, .ref 10), (1, .int (nI o)), (2, .int (nI p)), (3, .int (nI q)), (4, .int 0)], [.int (nI c), .int (nI (12 * c + 4)), .int (nI (12 * e + 4)), .int (nI (12 * e + 4)), .int 380, .ref 10], wP pre (wN (PP s5) (QQ s5) op oq tr (nI L.1) w5 0 ob st of F), 0)) rfl ?_
  refine mm_inv (mm_call_mono _ _) (j := 84) (a := [.int (nI c)]) (M := wP pre (wN (PP s5) (QQ s5) op oq tr (nI L.1) w5 0 ob st of F)) (u := 0) rfl (by decide) (rm_yOf (o := c) ?_)
  show mm_W _ _ _ _ _ _ _ (145, [(6, .int (nI e)), (5, .int (nI c)), (0, .ref 10), (1, .int (nI o)), (2, .int (nI p)), (3, .int (nI q)), (4, .int 0)], [.int (nI (12 * c + 4)), .int (nI (12 * c + 4)), .int (nI (12 * e + 4)), .int (nI (12 * e + 4)), .int 380, .ref 10], wP pre (wN (PP s5) (QQ s5) op oq tr (nI L.1) w5 0 ob st of F), 0)
  refine mm_inv (mm_call_mono _ _) (j := 87) (a := [.ref 10, .int 380, .int (nI (12 * e + 4)), .int (nI (12 * e + 4)), .int (nI (12 * c + 4)), .int (nI (12 * c + 4))]) (M := wP pre (wN (PP s5) (QQ s5) op oq tr (nI L.1) w5 0 ob st of F)) (u := 0) rfl (by decide) (rg_cross (D := 380) (A := (12 * e + 4)) (B := (12 * e + 4)) (C := (12 * c + 4)) (E := (12 * c + 4)) V5 z5 hl (by omega) R_5 D_5 D_5 B_5 B_5 (fun s6 w6 h6 => ?_))
  show mm_W _ _ _ _ _ _ _ (148, [(6, .int (nI e)), (5, .int (nI c)), (0, .ref 10), (1, .int (nI o)), (2, .int (nI p)), (3, .int (nI q)), (4, .int 0)], [], wP pre (wN (PP s6) (QQ s6) op oq tr (nI L.1) w6 0 ob st of F), 0)
  have V6 := h6.1
  have z6 := h6.2.1
  have S6 := gs_s S5 h6 (fun k => by omega)
  have F6 := g_F S5 F5 E5 h6
  have E6 := g_E E5 h6
  have R_6 := r_k R_5 h6 (by omega)
  have Hf_6 := f_k Hf_5 h6 (by omega)
  have A_6 := t_k A_5 h6 (by omega)
  have B_6 := t_k B_5 h6 (by omega)
  have G_6 := t_k G_5 h6 (by omega)
  have H_6 := t_k H_5 h6 (by omega)
  have I_6 := t_k I_5 h6 (by omega)
  have W2_6 := t_k W2_5 h6 (by omega)
  have W4_6 := t_k W4_5 h6 (by omega)
  have W5_6 := t_k W5_5 h6 (by omega)
  have W6_6 := t_new h6
  refine mm_skip (mm_call_mono _ _) 2 (st' := (150, [(6, .int (nI e)), (5, .int (nI c)), (0, .ref 10), (1, .int (nI o)), (2, .int (nI p)), (3, .int (nI q)), (4, .int 0)], [.int 2, .ref 10], wP pre (wN (PP s6) (QQ s6) op oq tr (nI L.1) w6 0 ob st of F), 0)) rfl ?_
  refine mm_inv (mm_call_mono _ _) (j := 85) (a := [.int 2]) (M := wP pre (wN (PP s6) (QQ s6) op oq tr (nI L.1) w6 0 ob st of F)) (u := 0) rfl (by decide) (rm_work ?_)
  show mm_W _ _ _ _ _ _ _ (153, [(6, .int (nI e)), (5, .int (nI c)), (0, .ref 10), (1, .int (nI o)), (2, .int (nI p)), (3, .int (nI q)), (4, .int 0)], [.int 376, .ref 10], wP pre (wN (PP s6) (QQ s6) op oq tr (nI L.1) w6 0 ob st of F), 0)
  refine mm_skip (mm_call_mono _ _) 1 (st' := (154, [(6, .int (nI e)), (5, .int (nI c)), (0, .ref 10), (1, .int (nI o)), (2, .int (nI p)), (3, .int (nI q)), (4, .int 0)], [.int 2, .int 376, .ref 10], wP pre (wN (PP s6) (QQ s6) op oq tr (nI L.1) w6 0 ob st of F), 0)) rfl ?_
  refine mm_inv (mm_call_mono _ _) (j := 85) (a := [.int 2]) (M := wP pre (wN (PP s6) (QQ s6) op oq tr (nI L.1) w6 0 ob st of F)) (u := 0) rfl (by decide) (rm_work ?_)
  show mm_W _ _ _ _ _ _ _ (157, [(6, .int (nI e)), (5, .int (nI c)), (0, .ref 10), (1, .int (nI o)), (2, .int (nI p)), (3, .int (nI q)), (4, .int 0)], [.int 376, .int 376, .ref 10], wP pre (wN (PP s6) (QQ s6) op oq tr (nI L.1) w6 0 ob st of F), 0)
  refine mm_skip (mm_call_mono _ _) 1 (st' := (158, [(6, .int (nI e)), (5, .int (nI c)), (0, .ref 10), (1, .int (nI o)), (2, .int (nI p)), (3, .int (nI q)), (4, .int 0)], [.int 3, .int 376, .int 376, .ref 10], wP pre (wN (PP s6) (QQ s6) op oq tr (nI L.1) w6 0 ob st of F), 0)) rfl ?_
  refine mm_inv (mm_call_mono _ _) (j := 85) (a := [.int 3]) (M := wP pre (wN (PP s6) (QQ s6) op oq tr (nI L.1) w6 0 ob st of F)) (u := 0) rfl (by decide) (rm_work ?_)
  show mm_W _ _ _ _ _ _ _ (161, [(6, .int (nI e)), (5, .int (nI c)), (0, .ref 10), (1, .int (nI o)), (2, .int (nI p)), (3, .int (nI q)), (4, .int 0)], [.int 380, .int 376, .int 376, .ref 10], wP pre (wN (PP s6) (QQ s6) op oq tr (nI L.1) w6 0 ob st of F), 0)
  refine mm_skip (mm_call_mono _ _) 1 (st' := (162, [(6, .int (nI e)), (5, .int (nI c)), (0, .ref 10), (1, .int (nI o)), (2, .int (nI p)), (3, .int (nI q)), (4, .int 0)], [.int 4, .int 380, .int 376, .int 376, .ref 10], wP pre (wN (PP s6) (QQ s6) op oq tr (nI L.1) w6 0 ob st of F), 0)) rfl ?_
  refine mm_inv (mm_call_mono _ _) (j := 59) (a := [.ref 10, .int 376, .int 376, .int 380, .int 4]) (M := wP pre (wN (PP s6) (QQ s6) op oq tr (nI L.1) w6 0 ob st of F)) (u := 0) rfl (by decide) (rg_add (D := 376) (A := 376) (B := 380) V6 z6 hl (by omega) W5_6 W6_6 (fun s7 w7 h7 => ?_))
  show mm_W _ _ _ _ _ _ _ (165, [(6, .int (nI e)), (5, .int (nI c)), (0, .ref 10), (1, .int (nI o)), (2, .int (nI p)), (3, .int (nI q)), (4, .int 0)], [], wP pre (wN (PP s7) (QQ s7) op oq tr (nI L.1) w7 0 ob st of F), 0)
  have V7 := h7.1
  have z7 := h7.2.1
  have S7 := gs_s S6 h7 (fun k => by omega)
  have F7 := g_F S6 F6 E6 h7
  have E7 := g_E E6 h7
  have R_7 := r_k R_6 h7 (by omega)
  have Hf_7 := f_k Hf_6 h7 (by omega)
  have A_7 := t_k A_6 h7 (by omega)
  have B_7 := t_k B_6 h7 (by omega)
  have G_7 := t_k G_6 h7 (by omega)
  have H_7 := t_k H_6 h7 (by omega)
  have I_7 := t_k I_6 h7 (by omega)
  have W2_7 := t_k W2_6 h7 (by omega)
  have W4_7 := t_k W4_6 h7 (by omega)
  have W7_7 := t_new h7
  refine mm_skip (mm_call_mono _ _) 2 (st' := (167, [(6, .int (nI e)), (5, .int (nI c)), (0, .ref 10), (1, .int (nI o)), (2, .int (nI p)), (3, .int (nI q)), (4, .int 0)], [.int 3, .ref 10], wP pre (wN (PP s7) (QQ s7) op oq tr (nI L.1) w7 0 ob st of F), 0)) rfl ?_
  refine mm_inv (mm_call_mono _ _) (j := 85) (a := [.int 3]) (M := wP pre (wN (PP s7) (QQ s7) op oq tr (nI L.1) w7 0 ob st of F)) (u := 0) rfl (by decide) (rm_work ?_)
  show mm_W _ _ _ _ _ _ _ (170, [(6, .int (nI e)), (5, .int (nI c)), (0, .ref 10), (1, .int (nI o)), (2, .int (nI p)), (3, .int (nI q)), (4, .int 0)], [.int 380, .ref 10], wP pre (wN (PP s7) (QQ s7) op oq tr (nI L.1) w7 0 ob st of F), 0)
  refine mm_skip (mm_call_mono _ _) 7 (st' := (179, [(6, .int (nI e)), (5, .int (nI c)), (0, .ref 10), (1, .int (nI o)), (2, .int (nI p)), (3, .int (nI q)), (4, .int 0)], [.int 4, .int (12 * (nI q)), .int (12 * (nI p)), .int 380, .ref 10], wP pre (wN (PP s7) (QQ s7) op oq tr (nI L.1) w7 0 ob st of F), 0)) rfl ?_
  rw [nI_m12 q]
  rw [nI_m12 p]
  show mm_W _ _ _ _ _ _ _ (179, [(6, .int (nI e)), (5, .int (nI c)), (0, .ref 10), (1, .int (nI o)), (2, .int (nI p)), (3, .int (nI q)), (4, .int 0)], [.int 4, .int (nI (12 * q)), .int (nI (12 * p)), .int 380, .ref 10], wP pre (wN (PP s7) (QQ s7) op oq tr (nI L.1) w7 0 ob st of F), 0)
  refine mm_inv (mm_call_mono _ _) (j := 60) (a := [.ref 10, .int 380, .int (nI (12 * p)), .int (nI (12 * q)), .int 4]) (M := wP pre (wN (PP s7) (QQ s7) op oq tr (nI L.1) w7 0 ob st of F)) (u := 0) rfl (by decide) (rg_sub (D := 380) (A := (12 * p)) (B := (12 * q)) V7 z7 hl (by omega) G_7 H_7 (fun s8 w8 h8 => ?_))
  show mm_W _ _ _ _ _ _ _ (182, [(6, .int (nI e)), (5, .int (nI c)), (0, .ref 10), (1, .int (nI o)), (2, .int (nI p)), (3, .int (nI q)), (4, .int 0)], [], wP pre (wN (PP s8) (QQ s8) op oq tr (nI L.1) w8 0 ob st of F), 0)
  have V8 := h8.1
  have z8 := h8.2.1
  have S8 := gs_s S7 h8 (fun k => by omega)
  have F8 := g_F S7 F7 E7 h8
  have E8 := g_E E7 h8
  have R_8 := r_k R_7 h8 (by omega)
  have Hf_8 := f_k Hf_7 h8 (by omega)
  have A_8 := t_k A_7 h8 (by omega)
  have B_8 := t_k B_7 h8 (by omega)
  have G_8 := t_k G_7 h8 (by omega)
  have I_8 := t_k I_7 h8 (by omega)
  have W2_8 := t_k W2_7 h8 (by omega)
  have W4_8 := t_k W4_7 h8 (by omega)
  have W7_8 := t_k W7_7 h8 (by omega)
  have W8_8 := t_new h8
  refine mm_skip (mm_call_mono _ _) 2 (st' := (184, [(6, .int (nI e)), (5, .int (nI c)), (0, .ref 10), (1, .int (nI o)), (2, .int (nI p)), (3, .int (nI q)), (4, .int 0)], [.int 2, .ref 10], wP pre (wN (PP s8) (QQ s8) op oq tr (nI L.1) w8 0 ob st of F), 0)) rfl ?_
  refine mm_inv (mm_call_mono _ _) (j := 85) (a := [.int 2]) (M := wP pre (wN (PP s8) (QQ s8) op oq tr (nI L.1) w8 0 ob st of F)) (u := 0) rfl (by decide) (rm_work ?_)
  show mm_W _ _ _ _ _ _ _ (187, [(6, .int (nI e)), (5, .int (nI c)), (0, .ref 10), (1, .int (nI o)), (2, .int (nI p)), (3, .int (nI q)), (4, .int 0)], [.int 376, .ref 10], wP pre (wN (PP s8) (QQ s8) op oq tr (nI L.1) w8 0 ob st of F), 0)
  refine mm_skip (mm_call_mono _ _) 1 (st' := (188, [(6, .int (nI e)), (5, .int (nI c)), (0, .ref 10), (1, .int (nI o)), (2, .int (nI p)), (3, .int (nI q)), (4, .int 0)], [.int 3, .int 376, .ref 10], wP pre (wN (PP s8) (QQ s8) op oq tr (nI L.1) w8 0 ob st of F), 0)) rfl ?_
  refine mm_inv (mm_call_mono _ _) (j := 85) (a := [.int 3]) (M := wP pre (wN (PP s8) (QQ s8) op oq tr (nI L.1) w8 0 ob st of F)) (u := 0) rfl (by decide) (rm_work ?_)
  show mm_W _ _ _ _ _ _ _ (191, [(6, .int (nI e)), (5, .int (nI c)), (0, .ref 10), (1, .int (nI o)), (2, .int (nI p)), (3, .int (nI q)), (4, .int 0)], [.int 380, .int 376, .ref 10], wP pre (wN (PP s8) (QQ s8) op oq tr (nI L.1) w8 0 ob st of F), 0)
  refine mm_skip (mm_call_mono _ _) 1 (st' := (192, [(6, .int (nI e)), (5, .int (nI c)), (0, .ref 10), (1, .int (nI o)), (2, .int (nI p)), (3, .int (nI q)), (4, .int 0)], [.int 2, .int 380, .int 376, .ref 10], wP pre (wN (PP s8) (QQ s8) op oq tr (nI L.1) w8 0 ob st of F), 0)) rfl ?_
  refine mm_inv (mm_call_mono _ _) (j := 85) (a := [.int 2]) (M := wP pre (wN (PP s8) (QQ s8) op oq tr (nI L.1) w8 0 ob st of F)) (u := 0) rfl (by decide) (rm_work ?_)
  show mm_W _ _ _ _ _ _ _ (195, [(6, .int (nI e)), (5, .int (nI c)), (0, .ref 10), (1, .int (nI o)), (2, .int (nI p)), (3, .int (nI q)), (4, .int 0)], [.int 376, .int 380, .int 376, .ref 10], wP pre (wN (PP s8) (QQ s8) op oq tr (nI L.1) w8 0 ob st of F), 0)
  refine mm_skip (mm_call_mono _ _) 1 (st' := (196, [(6, .int (nI e)), (5, .int (nI c)), (0, .ref 10), (1, .int (nI o)), (2, .int (nI p)), (3, .int (nI q)), (4, .int 0)], [.int 4, .int 376, .int 380, .int 376, .ref 10], wP pre (wN (PP s8) (QQ s8) op oq tr (nI L.1) w8 0 ob st of F), 0)) rfl ?_
  refine mm_inv (mm_call_mono _ _) (j := 59) (a := [.ref 10, .int 376, .int 380, .int 376, .int 4]) (M := wP pre (wN (PP s8) (QQ s8) op oq tr (nI L.1) w8 0 ob st of F)) (u := 0) rfl (by decide) (rg_add (D := 376) (A := 380) (B := 376) V8 z8 hl (by omega) W8_8 W7_8 (fun s9 w9 h9 => ?_))
  show mm_W _ _ _ _ _ _ _ (199, [(6, .int (nI e)), (5, .int (nI c)), (0, .ref 10), (1, .int (nI o)), (2, .int (nI p)), (3, .int (nI q)), (4, .int 0)], [], wP pre (wN (PP s9) (QQ s9) op oq tr (nI L.1) w9 0 ob st of F), 0)
  have V9 := h9.1
  have z9 := h9.2.1
  have S9 := gs_s S8 h9 (fun k => by omega)
  have F9 := g_F S8 F8 E8 h9
  have E9 := g_E E8 h9
  have R_9 := r_k R_8 h9 (by omega)
  have Hf_9 := f_k Hf_8 h9 (by omega)
  have A_9 := t_k A_8 h9 (by omega)
  have B_9 := t_k B_8 h9 (by omega)
  have G_9 := t_k G_8 h9 (by omega)
  have I_9 := t_k I_8 h9 (by omega)
  have W2_9 := t_k W2_8 h9 (by omega)
  have W4_9 := t_k W4_8 h9 (by omega)
  have W9_9 := t_new h9
  refine mm_skip (mm_call_mono _ _) 3 (st' := (202, [(6, .int (nI e)), (5, .int (nI c)), (0, .ref 10), (1, .int (nI o)), (2, .int (nI p)), (3, .int (nI q)), (4, .int 0)], [.int 0, .ref 10, .ref 10], wP pre (wN (PP s9) (QQ s9) op oq tr (nI L.1) w9 0 ob st of F), 0)) rfl ?_
  refine mm_inv (mm_call_mono _ _) (j := 85) (a := [.int 0]) (M := wP pre (wN (PP s9) (QQ s9) op oq tr (nI L.1) w9 0 ob st of F)) (u := 0) rfl (by decide) (rm_work ?_)
  show mm_W _ _ _ _ _ _ _ (205, [(6, .int (nI e)), (5, .int (nI c)), (0, .ref 10), (1, .int (nI o)), (2, .int (nI p)), (3, .int (nI q)), (4, .int 0)], [.int 368, .ref 10, .ref 10], wP pre (wN (PP s9) (QQ s9) op oq tr (nI L.1) w9 0 ob st of F), 0)
  refine mm_skip (mm_call_mono _ _) 1 (st' := (206, [(6, .int (nI e)), (5, .int (nI c)), (0, .ref 10), (1, .int (nI o)), (2, .int (nI p)), (3, .int (nI q)), (4, .int 0)], [.int 4, .int 368, .ref 10, .ref 10], wP pre (wN (PP s9) (QQ s9) op oq tr (nI L.1) w9 0 ob st of F), 0)) rfl ?_
  refine mm_inv (mm_call_mono _ _) (j := 63) (a := [.ref 10, .int 368, .int 4]) (M := wP pre (wN (PP s9) (QQ s9) op oq tr (nI L.1) w9 0 ob st of F)) (u := 0) rfl (by decide) (rm_isZero_4 (A := 368) V9 (by omega) ?_)
  show mm_W _ _ _ _ _ _ _ (209, [(6, .int (nI e)), (5, .int (nI c)), (0, .ref 10), (1, .int (nI o)), (2, .int (nI p)), (3, .int (nI q)), (4, .int 0)], [.int (bz (iszm 4 s9 (368))), .ref 10], wP pre (wN (PP s9) (QQ s9) op oq tr (nI L.1) w9 0 ob st of F), 0)
  refine mm_branch (mm_call_mono _ _) (c := (bz (iszm 4 s9 (368))) = 0) (s1 := (228, [(6, .int (nI e)), (5, .int (nI c)), (0, .ref 10), (1, .int (nI o)), (2, .int (nI p)), (3, .int (nI q)), (4, .int 0)], [.ref 10], wP pre (wN (PP s9) (QQ s9) op oq tr (nI L.1) w9 0 ob st of F), 0)) (s2 := (212, [(6, .int (nI e)), (5, .int (nI c)), (0, .ref 10), (1, .int (nI o)), (2, .int (nI p)), (3, .int (nI q)), (4, .int 0)], [.ref 10], wP pre (wN (PP s9) (QQ s9) op oq tr (nI L.1) w9 0 ob st of F), 0)) rfl (fun g1 => ?_) (fun g1 => ?_)
  · skip
    refine mm_skip (mm_call_mono _ _) 1 (st' := (229, [(6, .int (nI e)), (5, .int (nI c)), (0, .ref 10), (1, .int (nI o)), (2, .int (nI p)), (3, .int (nI q)), (4, .int 0)], [.int 0, .ref 10], wP pre (wN (PP s9) (QQ s9) op oq tr (nI L.1) w9 0 ob st of F), 0)) rfl ?_
    refine mm_need (mm_call_mono _ _) (c := mm_z 0) (s' := (232, [(6, .int (nI e)), (5, .int (nI c)), (0, .ref 10), (1, .int (nI o)), (2, .int (nI p)), (3, .int (nI q)), (4, .int 0)], [], wP pre (wN (PP s9) (QQ s9) op oq tr (nI L.1) w9 0 ob st of F), 0)) rfl (by unfold mm_z; decide) ?_
    refine mm_skip (mm_call_mono _ _) 2 (st' := (236, [(6, .int (nI e)), (5, .int (nI c)), (0, .ref 10), (1, .int (nI o)), (2, .int (nI p)), (3, .int (nI q)), (4, .int 0)], [.int 0], wP pre (wN (PP s9) (QQ s9) op oq tr (nI L.1) w9 0 ob st of F), 0)) rfl ?_
    refine mm_branch (mm_call_mono _ _) (c := (0 : Int32) = 0) (s1 := (239, [(6, .int (nI e)), (5, .int (nI c)), (0, .ref 10), (1, .int (nI o)), (2, .int (nI p)), (3, .int (nI q)), (4, .int 0)], [], wP pre (wN (PP s9) (QQ s9) op oq tr (nI L.1) w9 0 ob st of F), 0)) (s2 := (258, [(6, .int (nI e)), (5, .int (nI c)), (0, .ref 10), (1, .int (nI o)), (2, .int (nI p)), (3, .int (nI q)), (4, .int 0)], [], wP pre (wN (PP s9) (QQ s9) op oq tr (nI L.1) w9 0 ob st of F), 0)) rfl (fun _ => ?_) (fun h => absurd (by decide) h)
    refine mm_skip (mm_call_mono _ _) 2 (st' := (243, [(6, .int (nI e)), (5, .int (nI c)), (0, .ref 10), (1, .int (nI o)), (2, .int (nI p)), (3, .int (nI q)), (4, .int 0)], [.int w9], wP pre (wN (PP s9) (QQ s9) op oq tr (nI L.1) w9 0 ob st of F), 0)) rfl ?_
    refine mm_branch (mm_call_mono _ _) (c := w9 = 0) (s1 := (246, [(6, .int (nI e)), (5, .int (nI c)), (0, .ref 10), (1, .int (nI o)), (2, .int (nI p)), (3, .int (nI q)), (4, .int 0)], [], wP pre (wN (PP s9) (QQ s9) op oq tr (nI L.1) w9 0 ob st of F), 0)) (s2 := (258, [(6, .int (nI e)), (5, .int (nI c)), (0, .ref 10), (1, .int (nI o)), (2, .int (nI p)), (3, .int (nI q)), (4, .int 0)], [], wP pre (wN (PP s9) (QQ s9) op oq tr (nI L.1) w9 0 ob st of F), 0)) rfl (fun gw => ?_) (fun gw => ?_)
    · skip
      subst gw
      refine mm_skip (mm_call_mono _ _) 3 (st' := (249, [(6, .int (nI e)), (5, .int (nI c)), (0, .ref 10), (1, .int (nI o)), (2, .int (nI p)), (3, .int (nI q)), (4, .int 0)], [.int 0, .int (nI o), .ref 10], wP pre (wN (PP s9) (QQ s9) op oq tr (nI L.1) 0 0 ob st of F), 0)) rfl ?_
      refine mm_inv (mm_call_mono _ _) (j := 85) (a := [.int 0]) (M := wP pre (wN (PP s9) (QQ s9) op oq tr (nI L.1) 0 0 ob st of F)) (u := 0) rfl (by decide) (rm_work ?_)
      show mm_W _ _ _ _ _ _ _ (252, [(6, .int (nI e)), (5, .int (nI c)), (0, .ref 10), (1, .int (nI o)), (2, .int (nI p)), (3, .int (nI q)), (4, .int 0)], [.int 368, .int (nI o), .ref 10], wP pre (wN (PP s9) (QQ s9) op oq tr (nI L.1) 0 0 ob st of F), 0)
      refine mm_skip (mm_call_mono _ _) 2 (st' := (255, [(6, .int (nI e)), (5, .int (nI c)), (0, .ref 10), (1, .int (nI o)), (2, .int (nI p)), (3, .int (nI q)), (4, .int 0)], [.int 0, .int (nI p), .int 368, .int (nI o), .ref 10], wP pre (wN (PP s9) (QQ s9) op oq tr (nI L.1) 0 0 ob st of F), 0)) rfl ?_
      refine mm_inv (mm_call_mono _ _) (j := 92) (a := [.ref 10, .int (nI o), .int 368, .int (nI p), .int 0]) (M := wP pre (wN (PP s9) (QQ s9) op oq tr (nI L.1) 0 0 ob st of F)) (u := 0) rfl (by decide) (rk_cut_0 (LN := 368) (kc := p) (ct := c) V9 hl (by omega) hofp R_9 Hf_9 W2_9 W4_9 W9_9 A_9 B_9 G_9 I_9 (fun s1 w1 fa1 L1 hd => ?_))
      show mm_W _ _ _ _ _ _ _ (258, [(6, .int (nI e)), (5, .int (nI c)), (0, .ref 10), (1, .int (nI o)), (2, .int (nI p)), (3, .int (nI q)), (4, .int 0)], [], wP pre (wN (PP s1) (QQ s1) op oq tr (nI L1.1) w1 fa1 ob st of F), 0)
      exact mm_ret (mm_call_mono _ _) (c := True) (r := .inl none) (M := wP pre (wN (PP s1) (QQ s1) op oq tr (nI L1.1) w1 fa1 ob st of F)) (u := 0) rfl trivial (by decide) (hQ _ _ _ _ (drM_tr (L := L) S9 (fun k q => q.elim Or.inl (fun q => Or.inr (Or.inl q))) (E9 rfl) hd))
    · skip
      exact mm_ret (mm_call_mono _ _) (c := True) (r := .inl none) (M := wP pre (wN (PP s9) (QQ s9) op oq tr (nI L.1) w9 0 ob st of F)) (u := 0) rfl trivial (by decide) (hQ _ _ _ _ (dr_fM (L := L) (L1 := L) S9 (fun k q => q.elim Or.inl (fun q => Or.inr (Or.inl q))) hl (Or.inl rfl) (Or.inl (mm_z1 z9 gw)) (F9 (mm_z1 z9 gw) rfl)))
  · skip
    refine mm_skip (mm_call_mono _ _) 2 (st' := (214, [(6, .int (nI e)), (5, .int (nI c)), (0, .ref 10), (1, .int (nI o)), (2, .int (nI p)), (3, .int (nI q)), (4, .int 0)], [.int 1, .ref 10, .ref 10], wP pre (wN (PP s9) (QQ s9) op oq tr (nI L.1) w9 0 ob st of F), 0)) rfl ?_
    refine mm_inv (mm_call_mono _ _) (j := 85) (a := [.int 1]) (M := wP pre (wN (PP s9) (QQ s9) op oq tr (nI L.1) w9 0 ob st of F)) (u := 0) rfl (by decide) (rm_work ?_)
    show mm_W _ _ _ _ _ _ _ (217, [(6, .int (nI e)), (5, .int (nI c)), (0, .ref 10), (1, .int (nI o)), (2, .int (nI p)), (3, .int (nI q)), (4, .int 0)], [.int 372, .ref 10, .ref 10], wP pre (wN (PP s9) (QQ s9) op oq tr (nI L.1) w9 0 ob st of F), 0)
    refine mm_skip (mm_call_mono _ _) 1 (st' := (218, [(6, .int (nI e)), (5, .int (nI c)), (0, .ref 10), (1, .int (nI o)), (2, .int (nI p)), (3, .int (nI q)), (4, .int 0)], [.int 4, .int 372, .ref 10, .ref 10], wP pre (wN (PP s9) (QQ s9) op oq tr (nI L.1) w9 0 ob st of F), 0)) rfl ?_
    refine mm_inv (mm_call_mono _ _) (j := 63) (a := [.ref 10, .int 372, .int 4]) (M := wP pre (wN (PP s9) (QQ s9) op oq tr (nI L.1) w9 0 ob st of F)) (u := 0) rfl (by decide) (rm_isZero_4 (A := 372) V9 (by omega) ?_)
    show mm_W _ _ _ _ _ _ _ (221, [(6, .int (nI e)), (5, .int (nI c)), (0, .ref 10), (1, .int (nI o)), (2, .int (nI p)), (3, .int (nI q)), (4, .int 0)], [.int (bz (iszm 4 s9 (372))), .ref 10], wP pre (wN (PP s9) (QQ s9) op oq tr (nI L.1) w9 0 ob st of F), 0)
    refine mm_branch (mm_call_mono _ _) (c := (bz (iszm 4 s9 (372))) = 0) (s1 := (228, [(6, .int (nI e)), (5, .int (nI c)), (0, .ref 10), (1, .int (nI o)), (2, .int (nI p)), (3, .int (nI q)), (4, .int 0)], [.ref 10], wP pre (wN (PP s9) (QQ s9) op oq tr (nI L.1) w9 0 ob st of F), 0)) (s2 := (224, [(6, .int (nI e)), (5, .int (nI c)), (0, .ref 10), (1, .int (nI o)), (2, .int (nI p)), (3, .int (nI q)), (4, .int 0)], [.ref 10], wP pre (wN (PP s9) (QQ s9) op oq tr (nI L.1) w9 0 ob st of F), 0)) rfl (fun g2 => ?_) (fun g2 => ?_)
    · skip
      refine mm_skip (mm_call_mono _ _) 1 (st' := (229, [(6, .int (nI e)), (5, .int (nI c)), (0, .ref 10), (1, .int (nI o)), (2, .int (nI p)), (3, .int (nI q)), (4, .int 0)], [.int 0, .ref 10], wP pre (wN (PP s9) (QQ s9) op oq tr (nI L.1) w9 0 ob st of F), 0)) rfl ?_
      refine mm_need (mm_call_mono _ _) (c := mm_z 0) (s' := (232, [(6, .int (nI e)), (5, .int (nI c)), (0, .ref 10), (1, .int (nI o)), (2, .int (nI p)), (3, .int (nI q)), (4, .int 0)], [], wP pre (wN (PP s9) (QQ s9) op oq tr (nI L.1) w9 0 ob st of F), 0)) rfl (by unfold mm_z; decide) ?_
      refine mm_skip (mm_call_mono _ _) 2 (st' := (236, [(6, .int (nI e)), (5, .int (nI c)), (0, .ref 10), (1, .int (nI o)), (2, .int (nI p)), (3, .int (nI q)), (4, .int 0)], [.int 0], wP pre (wN (PP s9) (QQ s9) op oq tr (nI L.1) w9 0 ob st of F), 0)) rfl ?_
      refine mm_branch (mm_call_mono _ _) (c := (0 : Int32) = 0) (s1 := (239, [(6, .int (nI e)), (5, .int (nI c)), (0, .ref 10), (1, .int (nI o)), (2, .int (nI p)), (3, .int (nI q)), (4, .int 0)], [], wP pre (wN (PP s9) (QQ s9) op oq tr (nI L.1) w9 0 ob st of F), 0)) (s2 := (258, [(6, .int (nI e)), (5, .int (nI c)), (0, .ref 10), (1, .int (nI o)), (2, .int (nI p)), (3, .int (nI q)), (4, .int 0)], [], wP pre (wN (PP s9) (QQ s9) op oq tr (nI L.1) w9 0 ob st of F), 0)) rfl (fun _ => ?_) (fun h => absurd (by decide) h)
      refine mm_skip (mm_call_mono _ _) 2 (st' := (243, [(6, .int (nI e)), (5, .int (nI c)), (0, .ref 10), (1, .int (nI o)), (2, .int (nI p)), (3, .int (nI q)), (4, .int 0)], [.int w9], wP pre (wN (PP s9) (QQ s9) op oq tr (nI L.1) w9 0 ob st of F), 0)) rfl ?_
      refine mm_branch (mm_call_mono _ _) (c := w9 = 0) (s1 := (246, [(6, .int (nI e)), (5, .int (nI c)), (0, .ref 10), (1, .int (nI o)), (2, .int (nI p)), (3, .int (nI q)), (4, .int 0)], [], wP pre (wN (PP s9) (QQ s9) op oq tr (nI L.1) w9 0 ob st of F), 0)) (s2 := (258, [(6, .int (nI e)), (5, .int (nI c)), (0, .ref 10), (1, .int (nI o)), (2, .int (nI p)), (3, .int (nI q)), (4, .int 0)], [], wP pre (wN (PP s9) (QQ s9) op oq tr (nI L.1) w9 0 ob st of F), 0)) rfl (fun gw => ?_) (fun gw => ?_)
      · skip
        subst gw
        refine mm_skip (mm_call_mono _ _) 3 (st' := (249, [(6, .int (nI e)), (5, .int (nI c)), (0, .ref 10), (1, .int (nI o)), (2, .int (nI p)), (3, .int (nI q)), (4, .int 0)], [.int 0, .int (nI o), .ref 10], wP pre (wN (PP s9) (QQ s9) op oq tr (nI L.1) 0 0 ob st of F), 0)) rfl ?_
        refine mm_inv (mm_call_mono _ _) (j := 85) (a := [.int 0]) (M := wP pre (wN (PP s9) (QQ s9) op oq tr (nI L.1) 0 0 ob st of F)) (u := 0) rfl (by decide) (rm_work ?_)
        show mm_W _ _ _ _ _ _ _ (252, [(6, .int (nI e)), (5, .int (nI c)), (0, .ref 10), (1, .int (nI o)), (2, .int (nI p)), (3, .int (nI q)), (4, .int 0)], [.int 368, .int (nI o), .ref 10], wP pre (wN (PP s9) (QQ s9) op oq tr (nI L.1) 0 0 ob st of F), 0)
        refine mm_skip (mm_call_mono _ _) 2 (st' := (255, [(6, .int (nI e)), (5, .int (nI c)), (0, .ref 10), (1, .int (nI o)), (2, .int (nI p)), (3, .int (nI q)), (4, .int 0)], [.int 0, .int (nI p), .int 368, .int (nI o), .ref 10], wP pre (wN (PP s9) (QQ s9) op oq tr (nI L.1) 0 0 ob st of F), 0)) rfl ?_
        refine mm_inv (mm_call_mono _ _) (j := 92) (a := [.ref 10, .int (nI o), .int 368, .int (nI p), .int 0]) (M := wP pre (wN (PP s9) (QQ s9) op oq tr (nI L.1) 0 0 ob st of F)) (u := 0) rfl (by decide) (rk_cut_0 (LN := 368) (kc := p) (ct := c) V9 hl (by omega) hofp R_9 Hf_9 W2_9 W4_9 W9_9 A_9 B_9 G_9 I_9 (fun s1 w1 fa1 L1 hd => ?_))
        show mm_W _ _ _ _ _ _ _ (258, [(6, .int (nI e)), (5, .int (nI c)), (0, .ref 10), (1, .int (nI o)), (2, .int (nI p)), (3, .int (nI q)), (4, .int 0)], [], wP pre (wN (PP s1) (QQ s1) op oq tr (nI L1.1) w1 fa1 ob st of F), 0)
        exact mm_ret (mm_call_mono _ _) (c := True) (r := .inl none) (M := wP pre (wN (PP s1) (QQ s1) op oq tr (nI L1.1) w1 fa1 ob st of F)) (u := 0) rfl trivial (by decide) (hQ _ _ _ _ (drM_tr (L := L) S9 (fun k q => q.elim Or.inl (fun q => Or.inr (Or.inl q))) (E9 rfl) hd))
      · skip
        exact mm_ret (mm_call_mono _ _) (c := True) (r := .inl none) (M := wP pre (wN (PP s9) (QQ s9) op oq tr (nI L.1) w9 0 ob st of F)) (u := 0) rfl trivial (by decide) (hQ _ _ _ _ (dr_fM (L := L) (L1 := L) S9 (fun k q => q.elim Or.inl (fun q => Or.inr (Or.inl q))) hl (Or.inl rfl) (Or.inl (mm_z1 z9 gw)) (F9 (mm_z1 z9 gw) rfl)))
    · skip
      refine mm_skip (mm_call_mono _ _) 2 (st' := (229, [(6, .int (nI e)), (5, .int (nI c)), (0, .ref 10), (1, .int (nI o)), (2, .int (nI p)), (3, .int (nI q)), (4, .int 0)], [.int 1, .ref 10], wP pre (wN (PP s9) (QQ s9) op oq tr (nI L.1) w9 0 ob st of F), 0)) rfl ?_
      refine mm_need (mm_call_mono _ _) (c := mm_z 1) (s' := (232, [(6, .int (nI e)), (5, .int (nI c)), (0, .ref 10), (1, .int (nI o)), (2, .int (nI p)), (3, .int (nI q)), (4, .int 0)], [], wP pre (wN (PP s9) (QQ s9) op oq tr (nI L.1) w9 1 ob st of F), 0)) rfl (by unfold mm_z; decide) ?_
      refine mm_skip (mm_call_mono _ _) 2 (st' := (236, [(6, .int (nI e)), (5, .int (nI c)), (0, .ref 10), (1, .int (nI o)), (2, .int (nI p)), (3, .int (nI q)), (4, .int 0)], [.int 1], wP pre (wN (PP s9) (QQ s9) op oq tr (nI L.1) w9 1 ob st of F), 0)) rfl ?_
      refine mm_branch (mm_call_mono _ _) (c := (1 : Int32) = 0) (s1 := (239, [(6, .int (nI e)), (5, .int (nI c)), (0, .ref 10), (1, .int (nI o)), (2, .int (nI p)), (3, .int (nI q)), (4, .int 0)], [], wP pre (wN (PP s9) (QQ s9) op oq tr (nI L.1) w9 1 ob st of F), 0)) (s2 := (258, [(6, .int (nI e)), (5, .int (nI c)), (0, .ref 10), (1, .int (nI o)), (2, .int (nI p)), (3, .int (nI q)), (4, .int 0)], [], wP pre (wN (PP s9) (QQ s9) op oq tr (nI L.1) w9 1 ob st of F), 0)) rfl (fun h => absurd h (by decide)) (fun _ => ?_)
      exact mm_ret (mm_call_mono _ _) (c := True) (r := .inl none) (M := wP pre (wN (PP s9) (QQ s9) op oq tr (nI L.1) w9 1 ob st of F)) (u := 0) rfl trivial (by decide) (hQ _ _ _ _ (dr_fM (L := L) (L1 := L) S9 (fun k q => q.elim Or.inl (fun q => Or.inr (Or.inl q))) hl (Or.inr rfl) (Or.inr rfl) ((z9).elim (fun q => (E9 q).trans (by subst q; exact mCut_z hl (rdV_of V9 R_9) (v4_t V9 W2_9) (v4_t V9 W4_9) (v4_t V9 A_9) (v4_t V9 B_9) (isz_t W2_9 (bz_1 g1)) (isz_t W4_9 (bz_1 g2)))) (fun q => F9 q rfl))))

set_option maxRecDepth 100000 in
theorem rk_circles_1 {d : Nat} {pre : mm_pre} {s : Nat → fr} {op oq : Nat → Int64} {tr ob : Int32} {st of : Nat → Int32} {F : mm_M} {L : lvR} {o : Nat} {p q c e : Nat} {xp yp sa xq yq sb : n4} {Q : mm_R → mm_M → Prop} (hV : ∀ k, fv (s k)) (hl : L.1 ≤ 2) (hg : p < o ∧ q < o ∧ c < o ∧ e < o ∧ o < 24) (hofp : of (4 * p) = nI c) (hofq : of (4 * q) = nI e) (R : rdM s 0 L) (Hf : isM s 0 1 299 (fun _ => (1, 2))) (A : tM s 0 L.1 (12 * c) xp) (B : tM s 0 L.1 ((12 * c + 4)) yp) (C : tM s 0 L.1 (12 * e) xq) (D : tM s 0 L.1 ((12 * e + 4)) yq) (G : tM s 0 L.1 (12 * p) sa) (H : tM s 0 L.1 (12 * q) sb) (I : tM s 0 L.1 ((12 * o + 8)) zz) (hQ : ∀ (s1 : Nat → fr) (w1 fa1 : Int32) (L1 : lvR), drM s L o (mCir L xp yp sa xq yq sb false) s1 w1 fa1 L1 → Q (.inl none) (wP pre (wN (PP s1) (QQ s1) op oq tr (nI L1.1) w1 fa1 ob st of F))) : mm_call mm_Tb (d + 13) 93 [.ref 10, .int (nI o), .int (nI p), .int (nI q), .int 1] (wP pre (wN (PP s) (QQ s) op oq tr (nI L.1) 0 0 ob st of F)) Q := by
  have S0 := ms_0 (wi := 0) (Z := fun k => 300 ≤ k ∨ (12 * o ≤ k ∧ k < 12 * o + 12)) hV (Or.inl rfl)
  have F0 : (0 : Int32) = 1 → (0 : Int32) = 0 → mCir L xp yp sa xq yq sb false = none := fun h1 h0 => absurd (h1.symm.trans h0) z10
  have E0 : (0 : Int32) = 0 → mCir L xp yp sa xq yq sb false = Option.bind (xsub L.1 xq xp) _ := fun _ => by show (mCom L xp yp sa xq yq sb).bind _ = _; rw [← rCom_eq]; exact rCom_b _
  refine mm_in mt_93 (Nat.le_of_ble_eq_true rfl) ?_
  show mm_W _ _ _ _ _ _ _ (0, [(0, .ref 10), (1, .int (nI o)), (2, .int (nI p)), (3, .int (nI q)), (4, .int 1)], [], wP pre (wN (PP s) (QQ s) op oq tr (nI L.1) 0 0 ob st of F), 0)
  refine mm_skip (mm_call_mono _ _) 5 (st' := (7, [(0, .ref 10), (1, .int (nI o)), (2, .int (nI p)), (3, .int (nI q)), (4, .int 1)], [.int (4 * (nI p)), .ref 16], wP pre (wN (PP s) (QQ s) op oq tr (nI L.1) 0 0 ob st of F), 0)) rfl ?_
  rw [nI_m4 p]
  show mm_W _ _ _ _ _ _ _ (7, [(0, .ref 10), (1, .int (nI o)), (2, .int (nI p)), (3, .int (nI q)), (4, .int 1)], [.int (nI (4 * p)), .ref 16], wP pre (wN (PP s) (QQ s) op oq tr (nI L.1) 0 0 ob st of F), 0)
  refine mm_need (mm_call_mono _ _) (c := vp_in (nI (4 * p)) 96) (s' := (8, [(0, .ref 10), (1, .int (nI o)), (2, .int (nI p)), (3, .int (nI q)), (4, .int 1)], [.int (of (Int32.toNatClampNeg (nI (4 * p))))], wP pre (wN (PP s) (QQ s) op oq tr (nI L.1) 0 0 ob st of F), 0)) rfl (vp_in_nI (show (4 * p) < 96 by omega) (by decide)) ?_
  rw [nI_clamp (show (4 * p) < 2 ^ 31 by omega)]
  show mm_W _ _ _ _ _ _ _ (8, [(0, .ref 10), (1, .int (nI o)), (2, .int (nI p)), (3, .int (nI q)), (4, .int 1)], [.int (of (4 * p))], wP pre (wN (PP s) (QQ s) op oq tr (nI L.1) 0 0 ob st of F), 0)
  rw [hofp]
  show mm_W _ _ _ _ _ _ _ (8, [(0, .ref 10), (1, .int (nI o)), (2, .int (nI p)), (3, .int (nI q)), (4, .int 1)], [.int (nI c)], wP pre (wN (PP s) (QQ s) op oq tr (nI L.1) 0 0 ob st of F), 0)
  refine mm_skip (mm_call_mono _ _) 6 (st' := (17, [(5, .int (nI c)), (0, .ref 10), (1, .int (nI o)), (2, .int (nI p)), (3, .int (nI q)), (4, .int 1)], [.int (4 * (nI q)), .ref 16], wP pre (wN (PP s) (QQ s) op oq tr (nI L.1) 0 0 ob st of F), 0)) rfl ?_
  rw [nI_m4 q]
  show mm_W _ _ _ _ _ _ _ (17, [(5, .int (nI c)), (0, .ref 10), (1, .int (nI o)), (2, .int (nI p)), (3, .int (nI q)), (4, .int 1)], [.int (nI (4 * q)), .ref 16], wP pre (wN (PP s) (QQ s) op oq tr (nI L.1) 0 0 ob st of F), 0)
  refine mm_need (mm_call_mono _ _) (c := vp_in (nI (4 * q)) 96) (s' := (18, [(5, .int (nI c)), (0, .ref 10), (1, .int (nI o)), (2, .int (nI p)), (3, .int (nI q)), (4, .int 1)], [.int (of (Int32.toNatClampNeg (nI (4 * q))))], wP pre (wN (PP s) (QQ s) op oq tr (nI L.1) 0 0 ob st of F), 0)) rfl (vp_in_nI (show (4 * q) < 96 by omega) (by decide)) ?_
  rw [nI_clamp (show (4 * q) < 2 ^ 31 by omega)]
  show mm_W _ _ _ _ _ _ _ (18, [(5, .int (nI c)), (0, .ref 10), (1, .int (nI o)), (2, .int (nI p)), (3, .int (nI q)), (4, .int 1)], [.int (of (4 * q))], wP pre (wN (PP s) (QQ s) op oq tr (nI L.1) 0 0 ob st of F), 0)
  rw [hofq]
  show mm_W _ _ _ _ _ _ _ (18, [(5, .int (nI c)), (0, .ref 10), (1, .int (nI o)), (2, .int (nI p)), (3, .int (nI q)), (4, .int 1)], [.int (nI e)], wP pre (wN (PP s) (QQ s) op oq tr (nI L.1) 0 0 ob st of F), 0)
  refine mm_skip (mm_call_mono _ _) 3 (st' := (22, [(6, .int (nI e)), (5, .int (nI c)), (0, .ref 10), (1, .int (nI o)), (2, .int (nI p)), (3, .int (nI q)), (4, .int 1)], [.int 0, .ref 10], wP pre (wN (PP s) (QQ s) op oq tr (nI L.1) 0 0 ob st of F), 0)) rfl ?_
  refine mm_inv (mm_call_mono _ _) (j := 85) (a := [.int 0]) (M := wP pre (wN (PP s) (QQ s) op oq tr (nI L.1) 0 0 ob st of F)) (u := 0) rfl (by decide) (rm_work ?_)
  show mm_W _ _ _ _ _ _ _ (25, [(6, .int (nI e)), (5, .int (nI c)), (0, .ref 10), (1, .int (nI o)), (2, .int (nI p)), (3, .int (nI q)), (4, .int 1)], [.int 368, .ref 10], wP pre (wN (PP s) (QQ s) op oq tr (nI L.1) 0 0 ob st of F), 0)
  refine mm_skip (mm_call_mono _ _) 1 (st' := (27, [(6, .int (nI e)), (5, .int (nI c)), (0, .ref 10), (1, .int (nI o)), (2, .int (nI p)), (3, .int (nI q)), (4, .int 1)], [.int (nI e), .int 368, .ref 10], wP pre (wN (PP s) (QQ s) op oq tr (nI L.1) 0 0 ob st of F), 0)) rfl ?_
  refine mm_inv (mm_call_mono _ _) (j := 83) (a := [.int (nI e)]) (M := wP pre (wN (PP s) (QQ s) op oq tr (nI L.1) 0 0 ob st of F)) (u := 0) rfl (by decide) (rm_xOf (o := e) ?_)
  show mm_W _ _ _ _ _ _ _ (30, [(6, .int (nI e)), (5, .int (nI c)), (0, .ref 10), (1, .int (nI o)), (2, .int (nI p)), (3, .int (nI q)), (4, .int 1)], [.int (nI (12 * e)), .int 368, .ref 10], wP pre (wN (PP s) (QQ s) op oq tr (nI L.1) 0 0 ob st of F), 0)
  refine mm_skip (mm_call_mono _ _) 1 (st' := (32, [(6, .int (nI e)), (5, .int (nI c)), (0, .ref 10), (1, .int (nI o)), (2, .int (nI p)), (3, .int (nI q)), (4, .int 1)], [.int (nI c), .int (nI (12 * e)), .int 368, .ref 10], wP pre (wN (PP s) (QQ s) op oq tr (nI L.1) 0 0 ob st of F), 0)) rfl ?_
  refine mm_inv (mm_call_mono _ _) (j := 83) (a := [.int (nI c)]) (M := wP pre (wN (PP s) (QQ s) op oq tr (nI L.1) 0 0 ob st of F)) (u := 0) rfl (by decide) (rm_xOf (o := c) ?_)
  show mm_W _ _ _ _ _ _ _ (35, [(6, .int (nI e)), (5, .int (nI c)), (0, .ref 10), (1, .int (nI o)), (2, .int (nI p)), (3, .int (nI q)), (4, .int 1)], [.int (nI (12 * c)), .int (nI (12 * e)), .int 368, .ref 10], wP pre (wN (PP s) (QQ s) op oq tr (nI L.1) 0 0 ob st of F), 0)
  refine mm_skip (mm_call_mono _ _) 1 (st' := (36, [(6, .int (nI e)), (5, .int (nI c)), (0, .ref 10), (1, .int (nI o)), (2, .int (nI p)), (3, .int (nI q)), (4, .int 1)], [.int 4, .int (nI (12 * c)), .int (nI (12 * e)), .int 368, .ref 10], wP pre (wN (PP s) (QQ s) op oq tr (nI L.1) 0 0 ob st of F), 0)) rfl ?_
  refine mm_inv (mm_call_mono _ _) (j := 60) (a := [.ref 10, .int 368, .int (nI (12 * e)), .int (nI (12 * c)), .int 4]) (M := wP pre (wN (PP s) (QQ s) op oq tr (nI L.1) 0 0 ob st of F)) (u := 0) rfl (by decide) (rg_sub (D := 368) (A := (12 * e)) (B := (12 * c)) hV (Or.inl rfl) hl (by omega) C A (fun s1 w1 h1 => ?_))
  show mm_W _ _ _ _ _ _ _ (39, [(6, .int (nI e)), (5, .int (nI c)), (0, .ref 10), (1, .int (nI o)), (2, .int (nI p)), (3, .int (nI q)), (4, .int 1)], [], wP pre (wN (PP s1) (QQ s1) op oq tr (nI L.1) w1 0 ob st of F), 0)
  have V1 := h1.1
  have z1 := h1.2.1
  have S1 := gs_s S0 h1 (fun k => by omega)
  have F1 := g_F S0 F0 E0 h1
  have E1 := g_E E0 h1
  have R_1 := r_k R h1 (by omega)
  have Hf_1 := f_k Hf h1 (by omega)
  have A_1 := t_k A h1 (by omega)
  have B_1 := t_k B h1 (by omega)
  have C_1 := t_k C h1 (by omega)
  have D_1 := t_k D h1 (by omega)
  have G_1 := t_k G h1 (by omega)
  have H_1 := t_k H h1 (by omega)
  have I_1 := t_k I h1 (by omega)
  have W1_1 := t_new h1
  refine mm_skip (mm_call_mono _ _) 2 (st' := (41, [(6, .int (nI e)), (5, .int (nI c)), (0, .ref 10), (1, .int (nI o)), (2, .int (nI p)), (3, .int (nI q)), (4, .int 1)], [.int 0, .ref 10], wP pre (wN (PP s1) (QQ s1) op oq tr (nI L.1) w1 0 ob st of F), 0)) rfl ?_
  refine mm_inv (mm_call_mono _ _) (j := 85) (a := [.int 0]) (M := wP pre (wN (PP s1) (QQ s1) op oq tr (nI L.1) w1 0 ob st of F)) (u := 0) rfl (by decide) (rm_work ?_)
  show mm_W _ _ _ _ _ _ _ (44, [(6, .int (nI e)), (5, .int (nI c)), (0, .ref 10), (1, .int (nI o)), (2, .int (nI p)), (3, .int (nI q)), (4, .int 1)], [.int 368, .ref 10], wP pre (wN (PP s1) (QQ s1) op oq tr (nI L.1) w1 0 ob st of F), 0)
  refine mm_skip (mm_call_mono _ _) 1 (st' := (45, [(6, .int (nI e)), (5, .int (nI c)), (0, .ref 10), (1, .int (nI o)), (2, .int (nI p)), (3, .int (nI q)), (4, .int 1)], [.int 0, .int 368, .ref 10], wP pre (wN (PP s1) (QQ s1) op oq tr (nI L.1) w1 0 ob st of F), 0)) rfl ?_
  refine mm_inv (mm_call_mono _ _) (j := 85) (a := [.int 0]) (M := wP pre (wN (PP s1) (QQ s1) op oq tr (nI L.1) w1 0 ob st of F)) (u := 0) rfl (by decide) (rm_work ?_)
  show mm_W _ _ _ _ _ _ _ (48, [(6, .int (nI e)), (5, .int (nI c)), (0, .ref 10), (1, .int (nI o)), (2, .int (nI p)), (3, .int (nI q)), (4, .int 1)], [.int 368, .int 368, .ref 10], wP pre (wN (PP s1) (QQ s1) op oq tr (nI L.1) w1 0 ob st of F), 0)
  refine mm_skip (mm_call_mono _ _) 1 (st' := (49, [(6, .int (nI e)), (5, .int (nI c)), (0, .ref 10), (1, .int (nI o)), (2, .int (nI p)), (3, .int (nI q)), (4, .int 1)], [.int 0, .int 368, .int 368, .ref 10], wP pre (wN (PP s1) (QQ s1) op oq tr (nI L.1) w1 0 ob st of F), 0)) rfl ?_
  refine mm_inv (mm_call_mono _ _) (j := 85) (a := [.int 0]) (M := wP pre (wN (PP s1) (QQ s1) op oq tr (nI L.1) w1 0 ob st of F)) (u := 0) rfl (by decide) (rm_work ?_)
  show mm_W _ _ _ _ _ _ _ (52, [(6, .int (nI e)), (5, .int (nI c)), (0, .ref 10), (1, .int (nI o)), (2, .int (nI p)), (3, .int (nI q)), (4, .int 1)], [.int 368, .int 368, .int 368, .ref 10], wP pre (wN (PP s1) (QQ s1) op oq tr (nI L.1) w1 0 ob st of F), 0)
  refine mm_skip (mm_call_mono _ _) 1 (st' := (53, [(6, .int (nI e)), (5, .int (nI c)), (0, .ref 10), (1, .int (nI o)), (2, .int (nI p)), (3, .int (nI q)), (4, .int 1)], [.int 4, .int 368, .int 368, .int 368, .ref 10], wP pre (wN (PP s1) (QQ s1) op oq tr (nI L.1) w1 0 ob st of F), 0)) rfl ?_
  refine mm_inv (mm_call_mono _ _) (j := 59) (a := [.ref 10, .int 368, .int 368, .int 368, .int 4]) (M := wP pre (wN (PP s1) (QQ s1) op oq tr (nI L.1) w1 0 ob st of F)) (u := 0) rfl (by decide) (rg_add (D := 368) (A := 368) (B := 368) V1 z1 hl (by omega) W1_1 W1_1 (fun s2 w2 h2 => ?_))
  show mm_W _ _ _ _ _ _ _ (56, [(6, .int (nI e)), (5, .int (nI c)), (0, .ref 10), (1, .int (nI o)), (2, .int (nI p)), (3, .int (nI q)), (4, .int 1)], [], wP pre (wN (PP s2) (QQ s2) op oq tr (nI L.1) w2 0 ob st of F), 0)
  have V2 := h2.1
  have z2 := h2.2.1
  have S2 := gs_s S1 h2 (fun k => by omega)
  have F2 := g_F S1 F1 E1 h2
  have E2 := g_E E1 h2
  have R_2 := r_k R_1 h2 (by omega)
  have Hf_2 := f_k Hf_1 h2 (by omega)
  have A_2 := t_k A_1 h2 (by omega)
  have B_2 := t_k B_1 h2 (by omega)
  have C_2 := t_k C_1 h2 (by omega)
  have D_2 := t_k D_1 h2 (by omega)
  have G_2 := t_k G_1 h2 (by omega)
  have H_2 := t_k H_1 h2 (by omega)
  have I_2 := t_k I_1 h2 (by omega)
  have W2_2 := t_new h2
  refine mm_skip (mm_call_mono _ _) 2 (st' := (58, [(6, .int (nI e)), (5, .int (nI c)), (0, .ref 10), (1, .int (nI o)), (2, .int (nI p)), (3, .int (nI q)), (4, .int 1)], [.int 1, .ref 10], wP pre (wN (PP s2) (QQ s2) op oq tr (nI L.1) w2 0 ob st of F), 0)) rfl ?_
  refine mm_inv (mm_call_mono _ _) (j := 85) (a := [.int 1]) (M := wP pre (wN (PP s2) (QQ s2) op oq tr (nI L.1) w2 0 ob st of F)) (u := 0) rfl (by decide) (rm_work ?_)
  show mm_W _ _ _ _ _ _ _ (61, [(6, .int (nI e)), (5, .int (nI c)), (0, .ref 10), (1, .int (nI o)), (2, .int (nI p)), (3, .int (nI q)), (4, .int 1)], [.int 372, .ref 10], wP pre (wN (PP s2) (QQ s2) op oq tr (nI L.1) w2 0 ob st of F), 0)
  refine mm_skip (mm_call_mono _ _) 1 (st' := (63, [(6, .int (nI e)), (5, .int (nI c)), (0, .ref 10), (1, .int (nI o)), (2, .int (nI p)), (3, .int (nI q)), (4, .int 1)], [.int (nI e), .int 372, .ref 10], wP pre (wN (PP s2) (QQ s2) op oq tr (nI L.1) w2 0 ob st of F), 0)) rfl ?_
  refine mm_inv (mm_call_mono _ _) (j := 84) (a := [.int (nI e)]) (M := wP pre (wN (PP s2) (QQ s2) op oq tr (nI L.1) w2 0 ob st of F)) (u := 0) rfl (by decide) (rm_yOf (o := e) ?_)
  show mm_W _ _ _ _ _ _ _ (66, [(6, .int (nI e)), (5, .int (nI c)), (0, .ref 10), (1, .int (nI o)), (2, .int (nI p)), (3, .int (nI q)), (4, .int 1)], [.int (nI (12 * e + 4)), .int 372, .ref 10], wP pre (wN (PP s2) (QQ s2) op oq tr (nI L.1) w2 0 ob st of F), 0)
  refine mm_skip (mm_call_mono _ _) 1 (st' := (68, [(6, .int (nI e)), (5, .int (nI c)), (0, .ref 10), (1, .int (nI o)), (2, .int (nI p)), (3, .int (nI q)), (4, .int 1)], [.int (nI c), .int (nI (12 * e + 4)), .int 372, .ref 10], wP pre (wN (PP s2) (QQ s2) op oq tr (nI L.1) w2 0 ob st of F), 0)) rfl ?_
  refine mm_inv (mm_call_mono _ _) (j := 84) (a := [.int (nI c)]) (M := wP pre (wN (PP s2) (QQ s2) op oq tr (nI L.1) w2 0 ob st of F)) (u := 0) rfl (by decide) (rm_yOf (o := c) ?_)
  show mm_W _ _ _ _ _ _ _ (71, [(6, .int (nI e)), (5, .int (nI c)), (0, .ref 10), (1, .int (nI o)), (2, .int (nI p)), (3, .int (nI q)), (4, .int 1)], [.int (nI (12 * c + 4)), .int (nI (12 * e + 4)), .int 372, .ref 10], wP pre (wN (PP s2) (QQ s2) op oq tr (nI L.1) w2 0 ob st of F), 0)
  refine mm_skip (mm_call_mono _ _) 1 (st' := (72, [(6, .int (nI e)), (5, .int (nI c)), (0, .ref 10), (1, .int (nI o)), (2, .int (nI p)), (3, .int (nI q)), (4, .int 1)], [.int 4, .int (nI (12 * c + 4)), .int (nI (12 * e + 4)), .int 372, .ref 10], wP pre (wN (PP s2) (QQ s2) op oq tr (nI L.1) w2 0 ob st of F), 0)) rfl ?_
  refine mm_inv (mm_call_mono _ _) (j := 60) (a := [.ref 10, .int 372, .int (nI (12 * e + 4)), .int (nI (12 * c + 4)), .int 4]) (M := wP pre (wN (PP s2) (QQ s2) op oq tr (nI L.1) w2 0 ob st of F)) (u := 0) rfl (by decide) (rg_sub (D := 372) (A := (12 * e + 4)) (B := (12 * c + 4)) V2 z2 hl (by omega) D_2 B_2 (fun s3 w3 h3 => ?_))
  show mm_W _ _ _ _ _ _ _ (75, [(6, .int (nI e)), (5, .int (nI c)), (0, .ref 10), (1, .int (nI o)), (2, .int (nI p)), (3, .int (nI q)), (4, .int 1)], [], wP pre (wN (PP s3) (QQ s3) op oq tr (nI L.1) w3 0 ob st of F), 0)
  have V3 := h3.1
  have z3 := h3.2.1
  have S3 := gs_s S2 h3 (fun k => by omega)
  have F3 := g_F S2 F2 E2 h3
  have E3 := g_E E2 h3
  have R_3 := r_k R_2 h3 (by omega)
  have Hf_3 := f_k Hf_2 h3 (by omega)
  have A_3 := t_k A_2 h3 (by omega)
  have B_3 := t_k B_2 h3 (by omega)
  have C_3 := t_k C_2 h3 (by omega)
  have D_3 := t_k D_2 h3 (by omega)
  have G_3 := t_k G_2 h3 (by omega)
  have H_3 := t_k H_2 h3 (by omega)
  have I_3 := t_k I_2 h3 (by omega)
  have W2_3 := t_k W2_2 h3 (by omega)
  have W3_3 := t_new h3
  refine mm_skip (mm_call_mono _ _) 2 (st' := (77, [(6, .int (nI e)), (5, .int (nI c)), (0, .ref 10), (1, .int (nI o)), (2, .int (nI p)), (3, .int (nI q)), (4, .int 1)], [.int 1, .ref 10], wP pre (wN (PP s3) (QQ s3) op oq tr (nI L.1) w3 0 ob st of F), 0)) rfl ?_
  refine mm_inv (mm_call_mono _ _) (j := 85) (a := [.int 1]) (M := wP pre (wN (PP s3) (QQ s3) op oq tr (nI L.1) w3 0 ob st of F)) (u := 0) rfl (by decide) (rm_work ?_)
  show mm_W _ _ _ _ _ _ _ (80, [(6, .int (nI e)), (5, .int (nI c)), (0, .ref 10), (1, .int (nI o)), (2, .int (nI p)), (3, .int (nI q)), (4, .int 1)], [.int 372, .ref 10], wP pre (wN (PP s3) (QQ s3) op oq tr (nI L.1) w3 0 ob st of F), 0)
  refine mm_skip (mm_call_mono _ _) 1 (st' := (81, [(6, .int (nI e)), (5, .int (nI c)), (0, .ref 10), (1, .int (nI o)), (2, .int (nI p)), (3, .int (nI q)), (4, .int 1)], [.int 1, .int 372, .ref 10], wP pre (wN (PP s3) (QQ s3) op oq tr (nI L.1) w3 0 ob st of F), 0)) rfl ?_
  refine mm_inv (mm_call_mono _ _) (j := 85) (a := [.int 1]) (M := wP pre (wN (PP s3) (QQ s3) op oq tr (nI L.1) w3 0 ob st of F)) (u := 0) rfl (by decide) (rm_work ?_)
  show mm_W _ _ _ _ _ _ _ (84, [(6, .int (nI e)), (5, .int (nI c)), (0, .ref 10), (1, .int (nI o)), (2, .int (nI p)), (3, .int (nI q)), (4, .int 1)], [.int 372, .int 372, .ref 10], wP pre (wN (PP s3) (QQ s3) op oq tr (nI L.1) w3 0 ob st of F), 0)
  refine mm_skip (mm_call_mono _ _) 1 (st' := (85, [(6, .int (nI e)), (5, .int (nI c)), (0, .ref 10), (1, .int (nI o)), (2, .int (nI p)), (3, .int (nI q)), (4, .int 1)], [.int 1, .int 372, .int 372, .ref 10], wP pre (wN (PP s3) (QQ s3) op oq tr (nI L.1) w3 0 ob st of F), 0)) rfl ?_
  refine mm_inv (mm_call_mono _ _) (j := 85) (a := [.int 1]) (M := wP pre (wN (PP s3) (QQ s3) op oq tr (nI L.1) w3 0 ob st of F)) (u := 0) rfl (by decide) (rm_work ?_)
  show mm_W _ _ _ _ _ _ _ (88, [(6, .int (nI e)), (5, .int (nI c)), (0, .ref 10), (1, .int (nI o)), (2, .int (nI p)), (3, .int (nI q)), (4, .int 1)], [.int 372, .int 372, .int 372, .ref 10], wP pre (wN (PP s3) (QQ s3) op oq tr (nI L.1) w3 0 ob st of F), 0)
  refine mm_skip (mm_call_mono _ _) 1 (st' := (89, [(6, .int (nI e)), (5, .int (nI c)), (0, .ref 10), (1, .int (nI o)), (2, .int (nI p)), (3, .int (nI q)), (4, .int 1)], [.int 4, .int 372, .int 372, .int 372, .ref 10], wP pre (wN (PP s3) (QQ s3) op oq tr (nI L.1) w3 0 ob st of F), 0)) rfl ?_
  refine mm_inv (mm_call_mono _ _) (j := 59) (a := [.ref 10, .int 372, .int 372, .int 372, .int 4]) (M := wP pre (wN (PP s3) (QQ s3) op oq tr (nI L.1) w3 0 ob st of F)) (u := 0) rfl (by decide) (rg_add (D := 372) (A := 372) (B := 372) V3 z3 hl (by omega) W3_3 W3_3 (fun s4 w4 h4 => ?_))
  show mm_W _ _ _ _ _ _ _ (92, [(6, .int (nI e)), (5, .int (nI c)), (0, .ref 10), (1, .int (nI o)), (2, .int (nI p)), (3, .int (nI q)), (4, .int 1)], [], wP pre (wN (PP s4) (QQ s4) op oq tr (nI L.1) w4 0 ob st of F), 0)
  have V4 := h4.1
  have z4 := h4.2.1
  have S4 := gs_s S3 h4 (fun k => by omega)
  have F4 := g_F S3 F3 E3 h4
  have E4 := g_E E3 h4
  have R_4 := r_k R_3 h4 (by omega)
  have Hf_4 := f_k Hf_3 h4 (by omega)
  have A_4 := t_k A_3 h4 (by omega)
  have B_4 := t_k B_3 h4 (by omega)
  have C_4 := t_k C_3 h4 (by omega)
  have D_4 := t_k D_3 h4 (by omega)
  have G_4 := t_k G_3 h4 (by omega)
  have H_4 := t_k H_3 h4 (by omega)
  have I_4 := t_k I_3 h4 (by omega)
  have W2_4 := t_k W2_3 h4 (by omega)
  have W4_4 := t_new h4
  refine mm_skip (mm_call_mono _ _) 2 (st' := (94, [(6, .int (nI e)), (5, .int (nI c)), (0, .ref 10), (1, .int (nI o)), (2, .int (nI p)), (3, .int (nI q)), (4, .int 1)], [.int 2, .ref 10], wP pre (wN (PP s4) (QQ s4) op oq tr (nI L.1) w4 0 ob st of F), 0)) rfl ?_
  refine mm_inv (mm_call_mono _ _) (j := 85) (a := [.int 2]) (M := wP pre (wN (PP s4) (QQ s4) op oq tr (nI L.1) w4 0 ob st of F)) (u := 0) rfl (by decide) (rm_work ?_)
  show mm_W _ _ _ _ _ _ _ (97, [(6, .int (nI e)), (5, .int (nI c)), (0, .ref 10), (1, .int (nI o)), (2, .int (nI p)), (3, .int (nI q)), (4, .int 1)], [.int 376, .ref 10], wP pre (wN (PP s4) (QQ s4) op oq tr (nI L.1) w4 0 ob st of F), 0)
  refine mm_skip (mm_call_mono _ _) 1 (st' := (99, [(6, .int (nI e)), (5, .int (nI c)), (0, .ref 10), (1, .int (nI o)), (2, .int (nI p)), (3, .int (nI q)), (4, .int 1)], [.int (nI e), .int 376, .ref 10], wP pre (wN (PP s4) (QQ s4) op oq tr (nI L.1) w4 0 ob st of F), 0)) rfl ?_
  refine mm_inv (mm_call_mono _ _) (j := 83) (a := [.int (nI e)]) (M := wP pre (wN (PP s4) (QQ s4) op oq tr (nI L.1) w4 0 ob st of F)) (u := 0) rfl (by decide) (rm_xOf (o := e) ?_)
  show mm_W _ _ _ _ _ _ _ (102, [(6, .int (nI e)), (5, .int (nI c)), (0, .ref 10), (1, .int (nI o)), (2, .int (nI p)), (3, .int (nI q)), (4, .int 1)], [.int (nI (12 * e)), .int 376, .ref 10], wP pre (wN (PP s4) (QQ s4) op oq tr (nI L.1) w4 0 ob st of F), 0)
  refine mm_skip (mm_call_mono _ _) 1 (st' := (104, [(6, .int (nI e)), (5, .int (nI c)), (0, .ref 10), (1, .int (nI o)), (2, .int (nI p)), (3, .int (nI q)), (4, .int 1)], [.int (nI e), .int (nI (12 * e)), .int 376, .ref 10], wP pre (wN (PP s4) (QQ s4) op oq tr (nI L.1) w4 0 ob st of F), 0)) rfl ?_
  refine mm_inv (mm_call_mono _ _) (j := 83) (a := [.int (nI e)]) (M := wP pre (wN (PP s4) (QQ s4) op oq tr (nI L.1) w4 0 ob st of F)) (u := 0) rfl (by decide) (rm_xOf (o := e) ?_)
  show mm_W _ _ _ _ _ _ _ (107, [(6, .int (nI e)), (5, .int (nI c)), (0, .ref 10), (1, .int (nI o)), (2, .int (nI p)), (3, .int (nI q)), (4, .int 1)], [.int (nI (12 * e)), .int (nI (12 * e)), .int 376, .ref 10], wP pre (wN (PP s4) (QQ s4) op oq tr (nI L.1) w4 0 ob st of F), 0)
  refine mm_skip (mm_call_mono _ _) 1 (st' := (109, [(6, .int (nI e)), (5, .int (nI c)), (0, .ref 10), (1, .int (nI o)), (2, .int (nI p)), (3, .int (nI q)), (4, .int 1)], [.int (nI c), .int (nI (12 * e)), .int (nI (12 * e)), .int 376, .ref 10], wP pre (wN (PP s4) (QQ s4) op oq tr (nI L.1) w4 0 ob st of F), 0)) rfl ?_
  refine mm_inv (mm_call_mono _ _) (j := 83) (a := [.int (nI c)]) (M := wP pre (wN (PP s4) (QQ s4) op oq tr (nI L.1) w4 0 ob st of F)) (u := 0) rfl (by decide) (rm_xOf (o := c) ?_)
  show mm_W _ _ _ _ _ _ _ (112, [(6, .int (nI e)), (5, .int (nI c)), (0, .ref 10), (1, .int (nI o)), (2, .int (nI p)), (3, .int (nI q)), (4, .int 1)], [.int (nI (12 * c)), .int (nI (12 * e)), .int (nI (12 * e)), .int 376, .ref 10], wP pre (wN (PP s4) (QQ s4) op oq tr (nI L.1) w4 0 ob st of F), 0)
  refine mm_skip (mm_call_mono _ _) 1 (st' := (114, [(6, .int (nI e)), (5, .int (nI c)), (0, .ref 10), (1, .int (nI o)), (2, .int (nI p)), (3, .int (nI q)), (4, .int 1)], [.int (nI c), .int (nI (12 * c)), .int (nI (12 * e)), .int (nI (12 * e)), .int 376, .ref 10], wP pre (wN (PP s4) (QQ s4) op oq tr (nI L.1) w4 0 ob st of F), 0)) rfl ?_
  refine mm_inv (mm_call_mono _ _) (j := 83) (a := [.int (nI c)]) (M := wP pre (wN (PP s4) (QQ s4) op oq tr (nI L.1) w4 0 ob st of F)) (u := 0) rfl (by decide) (rm_xOf (o := c) ?_)
  show mm_W _ _ _ _ _ _ _ (117, [(6, .int (nI e)), (5, .int (nI c)), (0, .ref 10), (1, .int (nI o)), (2, .int (nI p)), (3, .int (nI q)), (4, .int 1)], [.int (nI (12 * c)), .int (nI (12 * c)), .int (nI (12 * e)), .int (nI (12 * e)), .int 376, .ref 10], wP pre (wN (PP s4) (QQ s4) op oq tr (nI L.1) w4 0 ob st of F), 0)
  refine mm_inv (mm_call_mono _ _) (j := 87) (a := [.ref 10, .int 376, .int (nI (12 * e)), .int (nI (12 * e)), .int (nI (12 * c)), .int (nI (12 * c))]) (M := wP pre (wN (PP s4) (QQ s4) op oq tr (nI L.1) w4 0 ob st of F)) (u := 0) rfl (by decide) (rg_cross (D := 376) (A := (12 * e)) (B := (12 * e)) (C := (12 * c)) (E := (12 * c)) V4 z4 hl (by omega) R_4 C_4 C_4 A_4 A_4 (fun s5 w5 h5 => ?_))
  show mm_W _ _ _ _ _ _ _ (120, [(6, .int (nI e)), (5, .int (nI c)), (0, .ref 10), (1, .int (nI o)), (2, .int (nI p)), (3, .int (nI q)), (4, .int 1)], [], wP pre (wN (PP s5) (QQ s5) op oq tr (nI L.1) w5 0 ob st of F), 0)
  have V5 := h5.1
  have z5 := h5.2.1
  have S5 := gs_s S4 h5 (fun k => by omega)
  have F5 := g_F S4 F4 E4 h5
  have E5 := g_E E4 h5
  have R_5 := r_k R_4 h5 (by omega)
  have Hf_5 := f_k Hf_4 h5 (by omega)
  have A_5 := t_k A_4 h5 (by omega)
  have B_5 := t_k B_4 h5 (by omega)
  have D_5 := t_k D_4 h5 (by omega)
  have G_5 := t_k G_4 h5 (by omega)
  have H_5 := t_k H_4 h5 (by omega)
  have I_5 := t_k I_4 h5 (by omega)
  have W2_5 := t_k W2_4 h5 (by omega)
  have W4_5 := t_k W4_4 h5 (by omega)
  have W5_5 := t_new h5
  refine mm_skip (mm_call_mono _ _) 2 (st' := (122, [(6, .int (nI e)), (5, .int (nI c)), (0, .ref 10), (1, .int (nI o)), (2, .int (nI p)), (3, .int (nI q)), (4, .int 1)], [.int 3, .ref 10], wP pre (wN (PP s5) (QQ s5) op oq tr (nI L.1) w5 0 ob st of F), 0)) rfl ?_
  refine mm_inv (mm_call_mono _ _) (j := 85) (a := [.int 3]) (M := wP pre (wN (PP s5) (QQ s5) op oq tr (nI L.1) w5 0 ob st of F)) (u := 0) rfl (by decide) (rm_work ?_)
  show mm_W _ _ _ _ _ _ _ (125, [(6, .int (nI e)), (5, .int (nI c)), (0, .ref 10), (1, .int (nI o)), (2, .int (nI p)), (3, .int (nI q)), (4, .int 1)], [.int 380, .ref 10], wP pre (wN (PP s5) (QQ s5) op oq tr (nI L.1) w5 0 ob st of F), 0)
  refine mm_skip (mm_call_mono _ _) 1 (st' := (127, [(6, .int (nI e)), (5, .int (nI c)), (0, .ref 10), (1, .int (nI o)), (2, .int (nI p)), (3, .int (nI q)), (4, .int 1)], [.int (nI e), .int 380, .ref 10], wP pre (wN (PP s5) (QQ s5) op oq tr (nI L.1) w5 0 ob st of F), 0)) rfl ?_
  refine mm_inv (mm_call_mono _ _) (j := 84) (a := [.int (nI e)]) (M := wP pre (wN (PP s5) (QQ s5) op oq tr (nI L.1) w5 0 ob st of F)) (u := 0) rfl (by decide) (rm_yOf (o := e) ?_)
  show mm_W _ _ _ _ _ _ _ (130, [(6, .int (nI e)), (5, .int (nI c)), (0, .ref 10), (1, .int (nI o)), (2, .int (nI p)), (3, .int (nI q)), (4, .int 1)], [.int (nI (12 * e + 4)), .int 380, .ref 10], wP pre (wN (PP s5) (QQ s5) op oq tr (nI L.1) w5 0 ob st of F), 0)
  refine mm_skip (mm_call_mono _ _) 1 (st' := (132, [(6, .int (nI e)), (5, .int (nI c)), (0, .ref 10), (1, .int (nI o)), (2, .int (nI p)), (3, .int (nI q)), (4, .int 1)], [.int (nI e), .int (nI (12 * e + 4)), .int 380, .ref 10], wP pre (wN (PP s5) (QQ s5) op oq tr (nI L.1) w5 0 ob st of F), 0)) rfl ?_
  refine mm_inv (mm_call_mono _ _) (j := 84) (a := [.int (nI e)]) (M := wP pre (wN (PP s5) (QQ s5) op oq tr (nI L.1) w5 0 ob st of F)) (u := 0) rfl (by decide) (rm_yOf (o := e) ?_)
  show mm_W _ _ _ _ _ _ _ (135, [(6, .int (nI e)), (5, .int (nI c)), (0, .ref 10), (1, .int (nI o)), (2, .int (nI p)), (3, .int (nI q)), (4, .int 1)], [.int (nI (12 * e + 4)), .int (nI (12 * e + 4)), .int 380, .ref 10], wP pre (wN (PP s5) (QQ s5) op oq tr (nI L.1) w5 0 ob st of F), 0)
  refine mm_skip (mm_call_mono _ _) 1 (st' := (137, [(6, .int (nI e)), (5, .int (nI c)), (0, .ref 10), (1, .int (nI o)), (2, .int (nI p)), (3, .int (nI q)), (4, .int 1)], [.int (nI c), .int (nI (12 * e + 4)), .int (nI (12 * e + 4)), .int 380, .ref 10], wP pre (wN (PP s5) (QQ s5) op oq tr (nI L.1) w5 0 ob st of F), 0)) rfl ?_
  refine mm_inv (mm_call_mono _ _) (j := 84) (a := [.int (nI c)]) (M := wP pre (wN (PP s5) (QQ s5) op oq tr (nI L.1) w5 0 ob st of F)) (u := 0) rfl (by decide) (rm_yOf (o := c) ?_)
  show mm_W _ _ _ _ _ _ _ (140, [(6, .int (nI e)), (5, .int (nI c)), (0, .ref 10), (1, .int (nI o)), (2, .int (nI p)), (3, .int (nI q)), (4, .int 1)], [.int (nI (12 * c + 4)), .int (nI (12 * e + 4)), .int (nI (12 * e + 4)), .int 380, .ref 10], wP pre (wN (PP s5) (QQ s5) op oq tr (nI L.1) w5 0 ob st of F), 0)
  refine mm_skip (mm_call_mono _ _) 1 (st' := (142, [(6, .int (nI e)), (5, .int (nI c)), (0, .ref 10), (1, .int (nI o)), (2, .int (nI p)), (3, .int (nI q)), (4, .int 1)], [.int (nI c), .int (nI (12 * c + 4)), .int (nI (12 * e + 4)), .int (nI (12 * e + 4)), .int 380, .ref 10], wP pre (wN (PP s5) (QQ s5) op oq tr (nI L.1) w5 0 ob st of F), 0)) rfl ?_
  refine mm_inv (mm_call_mono _ _) (j := 84) (a := [.int (nI c)]) (M := wP pre (wN (PP s5) (QQ s5) op oq tr (nI L.1) w5 0 ob st of F)) (u := 0) rfl (by decide) (rm_yOf (o := c) ?_)
  show mm_W _ _ _ _ _ _ _ (145, [(6, .int (nI e)), (5, .int (nI c)), (0, .ref 10), (1, .int (nI o)), (2, .int (nI p)), (3, .int (nI q)), (4, .int 1)], [.int (nI (12 * c + 4)), .int (nI (12 * c + 4)), .int (nI (12 * e + 4)), .int (nI (12 * e + 4)), .int 380, .ref 10], wP pre (wN (PP s5) (QQ s5) op oq tr (nI L.1) w5 0 ob st of F), 0)
  refine mm_inv (mm_call_mono _ _) (j := 87) (a := [.ref 10, .int 380, .int (nI (12 * e + 4)), .int (nI (12 * e + 4)), .int (nI (12 * c + 4)), .int (nI (12 * c + 4))]) (M := wP pre (wN (PP s5) (QQ s5) op oq tr (nI L.1) w5 0 ob st of F)) (u := 0) rfl (by decide) (rg_cross (D := 380) (A := (12 * e + 4)) (B := (12 * e + 4)) (C := (12 * c + 4)) (E := (12 * c + 4)) V5 z5 hl (by omega) R_5 D_5 D_5 B_5 B_5 (fun s6 w6 h6 => ?_))
  show mm_W _ _ _ _ _ _ _ (148, [(6, .int (nI e)), (5, .int (nI c)), (0, .ref 10), (1, .int (nI o)), (2, .int (nI p)), (3, .int (nI q)), (4, .int 1)], [], wP pre (wN (PP s6) (QQ s6) op oq tr (nI L.1) w6 0 ob st of F), 0)
  have V6 := h6.1
  have z6 := h6.2.1
  have S6 := gs_s S5 h6 (fun k => by omega)
  have F6 := g_F S5 F5 E5 h6
  have E6 := g_E E5 h6
  have R_6 := r_k R_5 h6 (by omega)
  have Hf_6 := f_k Hf_5 h6 (by omega)
  have A_6 := t_k A_5 h6 (by omega)
  have B_6 := t_k B_5 h6 (by omega)
  have G_6 := t_k G_5 h6 (by omega)
  have H_6 := t_k H_5 h6 (by omega)
  have I_6 := t_k I_5 h6 (by omega)
  have W2_6 := t_k W2_5 h6 (by omega)
  have W4_6 := t_k W4_5 h6 (by omega)
  have W5_6 := t_k W5_5 h6 (by omega)
  have W6_6 := t_new h6
  refine mm_skip (mm_call_mono _ _) 2 (st' := (150, [(6, .int (nI e)), (5, .int (nI c)), (0, .ref 10), (1, .int (nI o)), (2, .int (nI p)), (3, .int (nI q)), (4, .int 1)], [.int 2, .ref 10], wP pre (wN (PP s6) (QQ s6) op oq tr (nI L.1) w6 0 ob st of F), 0)) rfl ?_
  refine mm_inv (mm_call_mono _ _) (j := 85) (a := [.int 2]) (M := wP pre (wN (PP s6) (QQ s6) op oq tr (nI L.1) w6 0 ob st of F)) (u := 0) rfl (by decide) (rm_work ?_)
  show mm_W _ _ _ _ _ _ _ (153, [(6, .int (nI e)), (5, .int (nI c)), (0, .ref 10), (1, .int (nI o)), (2, .int (nI p)), (3, .int (nI q)), (4, .int 1)], [.int 376, .ref 10], wP pre (wN (PP s6) (QQ s6) op oq tr (nI L.1) w6 0 ob st of F), 0)
  refine mm_skip (mm_call_mono _ _) 1 (st' := (154, [(6, .int (nI e)), (5, .int (nI c)), (0, .ref 10), (1, .int (nI o)), (2, .int (nI p)), (3, .int (nI q)), (4, .int 1)], [.int 2, .int 376, .ref 10], wP pre (wN (PP s6) (QQ s6) op oq tr (nI L.1) w6 0 ob st of F), 0)) rfl ?_
  refine mm_inv (mm_call_mono _ _) (j := 85) (a := [.int 2]) (M := wP pre (wN (PP s6) (QQ s6) op oq tr (nI L.1) w6 0 ob st of F)) (u := 0) rfl (by decide) (rm_work ?_)
  show mm_W _ _ _ _ _ _ _ (157, [(6, .int (nI e)), (5, .int (nI c)), (0, .ref 10), (1, .int (nI o)), (2, .int (nI p)), (3, .int (nI q)), (4, .int 1)], [.int 376, .int 376, .ref 10], wP pre (wN (PP s6) (QQ s6) op oq tr (nI L.1) w6 0 ob st of F), 0)
  refine mm_skip (mm_call_mono _ _) 1 (st' := (158, [(6, .int (nI e)), (5, .int (nI c)), (0, .ref 10), (1, .int (nI o)), (2, .int (nI p)), (3, .int (nI q)), (4, .int 1)], [.int 3, .int 376, .int 376, .ref 10], wP pre (wN (PP s6) (QQ s6) op oq tr (nI L.1) w6 0 ob st of F), 0)) rfl ?_
  refine mm_inv (mm_call_mono _ _) (j := 85) (a := [.int 3]) (M := wP pre (wN (PP s6) (QQ s6) op oq tr (nI L.1) w6 0 ob st of F)) (u := 0) rfl (by decide) (rm_work ?_)
  show mm_W _ _ _ _ _ _ _ (161, [(6, .int (nI e)), (5, .int (nI c)), (0, .ref 10), (1, .int (nI o)), (2, .int (nI p)), (3, .int (nI q)), (4, .int 1)], [.int 380, .int 376, .int 376, .ref 10], wP pre (wN (PP s6) (QQ s6) op oq tr (nI L.1) w6 0 ob st of F), 0)
  refine mm_skip (mm_call_mono _ _) 1 (st' := (162, [(6, .int (nI e)), (5, .int (nI c)), (0, .ref 10), (1, .int (nI o)), (2, .int (nI p)), (3, .int (nI q)), (4, .int 1)], [.int 4, .int 380, .int 376, .int 376, .ref 10], wP pre (wN (PP s6) (QQ s6) op oq tr (nI L.1) w6 0 ob st of F), 0)) rfl ?_
  refine mm_inv (mm_call_mono _ _) (j := 59) (a := [.ref 10, .int 376, .int 376, .int 380, .int 4]) (M := wP pre (wN (PP s6) (QQ s6) op oq tr (nI L.1) w6 0 ob st of F)) (u := 0) rfl (by decide) (rg_add (D := 376) (A := 376) (B := 380) V6 z6 hl (by omega) W5_6 W6_6 (fun s7 w7 h7 => ?_))
  show mm_W _ _ _ _ _ _ _ (165, [(6, .int (nI e)), (5, .int (nI c)), (0, .ref 10), (1, .int (nI o)), (2, .int (nI p)), (3, .int (nI q)), (4, .int 1)], [], wP pre (wN (PP s7) (QQ s7) op oq tr (nI L.1) w7 0 ob st of F), 0)
  have V7 := h7.1
  have z7 := h7.2.1
  have S7 := gs_s S6 h7 (fun k => by omega)
  have F7 := g_F S6 F6 E6 h7
  have E7 := g_E E6 h7
  have R_7 := r_k R_6 h7 (by omega)
  have Hf_7 := f_k Hf_6 h7 (by omega)
  have A_7 := t_k A_6 h7 (by omega)
  have B_7 := t_k B_6 h7 (by omega)
  have G_7 := t_k G_6 h7 (by omega)
  have H_7 := t_k H_6 h7 (by omega)
  have I_7 := t_k I_6 h7 (by omega)
  have W2_7 := t_k W2_6 h7 (by omega)
  have W4_7 := t_k W4_6 h7 (by omega)
  have W7_7 := t_new h7
  refine mm_skip (mm_call_mono _ _) 2 (st' := (167, [(6, .int (nI e)), (5, .int (nI c)), (0, .ref 10), (1, .int (nI o)), (2, .int (nI p)), (3, .int (nI q)), (4, .int 1)], [.int 3, .ref 10], wP pre (wN (PP s7) (QQ s7) op oq tr (nI L.1) w7 0 ob st of F), 0)) rfl ?_
  refine mm_inv (mm_call_mono _ _) (j := 85) (a := [.int 3]) (M := wP pre (wN (PP s7) (QQ s7) op oq tr (nI L.1) w7 0 ob st of F)) (u := 0) rfl (by decide) (rm_work ?_)
  show mm_W _ _ _ _ _ _ _ (170, [(6, .int (nI e)), (5, .int (nI c)), (0, .ref 10), (1, .int (nI o)), (2, .int (nI p)), (3, .int (nI q)), (4, .int 1)], [.int 380, .ref 10], wP pre (wN (PP s7) (QQ s7) op oq tr (nI L.1) w7 0 ob st of F), 0)
  refine mm_skip (mm_call_mono _ _) 7 (st' := (179, [(6, .int (nI e)), (5, .int (nI c)), (0, .ref 10), (1, .int (nI o)), (2, .int (nI p)), (3, .int (nI q)), (4, .int 1)], [.int 4, .int (12 * (nI q)), .int (12 * (nI p)), .int 380, .ref 10], wP pre (wN (PP s7) (QQ s7) op oq tr (nI L.1) w7 0 ob st of F), 0)) rfl ?_
  rw [nI_m12 q]
  rw [nI_m12 p]
  show mm_W _ _ _ _ _ _ _ (179, [(6, .int (nI e)), (5, .int (nI c)), (0, .ref 10), (1, .int (nI o)), (2, .int (nI p)), (3, .int (nI q)), (4, .int 1)], [.int 4, .int (nI (12 * q)), .int (nI (12 * p)), .int 380, .ref 10], wP pre (wN (PP s7) (QQ s7) op oq tr (nI L.1) w7 0 ob st of F), 0)
  refine mm_inv (mm_call_mono _ _) (j := 60) (a := [.ref 10, .int 380, .int (nI (12 * p)), .int (nI (12 * q)), .int 4]) (M := wP pre (wN (PP s7) (QQ s7) op oq tr (nI L.1) w7 0 ob st of F)) (u := 0) rfl (by decide) (rg_sub (D := 380) (A := (12 * p)) (B := (12 * q)) V7 z7 hl (by omega) G_7 H_7 (fun s8 w8 h8 => ?_))
  show mm_W _ _ _ _ _ _ _ (182, [(6, .int (nI e)), (5, .int (nI c)), (0, .ref 10), (1, .int (nI o)), (2, .int (nI p)), (3, .int (nI q)), (4, .int 1)], [], wP pre (wN (PP s8) (QQ s8) op oq tr (nI L.1) w8 0 ob st of F), 0)
  have V8 := h8.1
  have z8 := h8.2.1
  have S8 := gs_s S7 h8 (fun k => by omega)
  have F8 := g_F S7 F7 E7 h8
  have E8 := g_E E7 h8
  have R_8 := r_k R_7 h8 (by omega)
  have Hf_8 := f_k Hf_7 h8 (by omega)
  have A_8 := t_k A_7 h8 (by omega)
  have B_8 := t_k B_7 h8 (by omega)
  have G_8 := t_k G_7 h8 (by omega)
  have I_8 := t_k I_7 h8 (by omega)
  have W2_8 := t_k W2_7 h8 (by omega)
  have W4_8 := t_k W4_7 h8 (by omega)
  have W7_8 := t_k W7_7 h8 (by omega)
  have W8_8 := t_new h8
  refine mm_skip (mm_call_mono _ _) 2 (st' := (184, [(6, .int (nI e)), (5, .int (nI c)), (0, .ref 10), (1, .int (nI o)), (2, .int (nI p)), (3, .int (nI q)), (4, .int 1)], [.int 2, .ref 10], wP pre (wN (PP s8) (QQ s8) op oq tr (nI L.1) w8 0 ob st of F), 0)) rfl ?_
  refine mm_inv (mm_call_mono _ _) (j := 85) (a := [.int 2]) (M := wP pre (wN (PP s8) (QQ s8) op oq tr (nI L.1) w8 0 ob st of F)) (u := 0) rfl (by decide) (rm_work ?_)
  show mm_W _ _ _ _ _ _ _ (187, [(6, .int (nI e)), (5, .int (nI c)), (0, .ref 10), (1, .int (nI o)), (2, .int (nI p)), (3, .int (nI q)), (4, .int 1)], [.int 376, .ref 10], wP pre (wN (PP s8) (QQ s8) op oq tr (nI L.1) w8 0 ob st of F), 0)
  refine mm_skip (mm_call_mono _ _) 1 (st' := (188, [(6, .int (nI e)), (5, .int (nI c)), (0, .ref 10), (1, .int (nI o)), (2, .int (nI p)), (3, .int (nI q)), (4, .int 1)], [.int 3, .int 376, .ref 10], wP pre (wN (PP s8) (QQ s8) op oq tr (nI L.1) w8 0 ob st of F), 0)) rfl ?_
  refine mm_inv (mm_call_mono _ _) (j := 85) (a := [.int 3]) (M := wP pre (wN (PP s8) (QQ s8) op oq tr (nI L.1) w8 0 ob st of F)) (u := 0) rfl (by decide) (rm_work ?_)
  show mm_W _ _ _ _ _ _ _ (191, [(6, .int (nI e)), (5, .int (nI c)), (0, .ref 10), (1, .int (nI o)), (2, .int (nI p)), (3, .int (nI q)), (4, .int 1)], [.int 380, .int 376, .ref 10], wP pre (wN (PP s8) (QQ s8) op oq tr (nI L.1) w8 0 ob st of F), 0)
  refine mm_skip (mm_call_mono _ _) 1 (st' := (192, [(6, .int (nI e)), (5, .int (nI c)), (0, .ref 10), (1, .int (nI o)), (2, .int (nI p)), (3, .int (nI q)), (4, .int 1)], [.int 2, .int 380, .int 376, .ref 10], wP pre (wN (PP s8) (QQ s8) op oq tr (nI L.1) w8 0 ob st of F), 0)) rfl ?_
  refine mm_inv (mm_call_mono _ _) (j := 85) (a := [.int 2]) (M := wP pre (wN (PP s8) (QQ s8) op oq tr (nI L.1) w8 0 ob st of F)) (u := 0) rfl (by decide) (rm_work ?_)
  show mm_W _ _ _ _ _ _ _ (195, [(6, .int (nI e)), (5, .int (nI c)), (0, .ref 10), (1, .int (nI o)), (2, .int (nI p)), (3, .int (nI q)), (4, .int 1)], [.int 376, .int 380, .int 376, .ref 10], wP pre (wN (PP s8) (QQ s8) op oq tr (nI L.1) w8 0 ob st of F), 0)
  refine mm_skip (mm_call_mono _ _) 1 (st' := (196, [(6, .int (nI e)), (5, .int (nI c)), (0, .ref 10), (1, .int (nI o)), (2, .int (nI p)), (3, .int (nI q)), (4, .int 1)], [.int 4, .int 376, .int 380, .int 376, .ref 10], wP pre (wN (PP s8) (QQ s8) op oq tr (nI L.1) w8 0 ob st of F), 0)) rfl ?_
  refine mm_inv (mm_call_mono _ _) (j := 59) (a := [.ref 10, .int 376, .int 380, .int 376, .int 4]) (M := wP pre (wN (PP s8) (QQ s8) op oq tr (nI L.1) w8 0 ob st of F)) (u := 0) rfl (by decide) (rg_add (D := 376) (A := 380) (B := 376) V8 z8 hl (by omega) W8_8 W7_8 (fun s9 w9 h9 => ?_))
  show mm_W _ _ _ _ _ _ _ (199, [(6, .int (nI e)), (5, .int (nI c)), (0, .ref 10), (1, .int (nI o)), (2, .int (nI p)), (3, .int (nI q)), (4, .int 1)], [], wP pre (wN (PP s9) (QQ s9) op oq tr (nI L.1) w9 0 ob st of F), 0)
  have V9 := h9.1
  have z9 := h9.2.1
  have S9 := gs_s S8 h9 (fun k => by omega)
  have F9 := g_F S8 F8 E8 h9
  have E9 := g_E E8 h9
  have R_9 := r_k R_8 h9 (by omega)
  have Hf_9 := f_k Hf_8 h9 (by omega)
  have A_9 := t_k A_8 h9 (by omega)
  have B_9 := t_k B_8 h9 (by omega)
  have G_9 := t_k G_8 h9 (by omega)
  have I_9 := t_k I_8 h9 (by omega)
  have W2_9 := t_k W2_8 h9 (by omega)
  have W4_9 := t_k W4_8 h9 (by omega)
  have W9_9 := t_new h9
  refine mm_skip (mm_call_mono _ _) 3 (st' := (202, [(6, .int (nI e)), (5, .int (nI c)), (0, .ref 10), (1, .int (nI o)), (2, .int (nI p)), (3, .int (nI q)), (4, .int 1)], [.int 0, .ref 10, .ref 10], wP pre (wN (PP s9) (QQ s9) op oq tr (nI L.1) w9 0 ob st of F), 0)) rfl ?_
  refine mm_inv (mm_call_mono _ _) (j := 85) (a := [.int 0]) (M := wP pre (wN (PP s9) (QQ s9) op oq tr (nI L.1) w9 0 ob st of F)) (u := 0) rfl (by decide) (rm_work ?_)
  show mm_W _ _ _ _ _ _ _ (205, [(6, .int (nI e)), (5, .int (nI c)), (0, .ref 10), (1, .int (nI o)), (2, .int (nI p)), (3, .int (nI q)), (4, .int 1)], [.int 368, .ref 10, .ref 10], wP pre (wN (PP s9) (QQ s9) op oq tr (nI L.1) w9 0 ob st of F), 0)
  refine mm_skip (mm_call_mono _ _) 1 (st' := (206, [(6, .int (nI e)), (5, .int (nI c)), (0, .ref 10), (1, .int (nI o)), (2, .int (nI p)), (3, .int (nI q)), (4, .int 1)], [.int 4, .int 368, .ref 10, .ref 10], wP pre (wN (PP s9) (QQ s9) op oq tr (nI L.1) w9 0 ob st of F), 0)) rfl ?_
  refine mm_inv (mm_call_mono _ _) (j := 63) (a := [.ref 10, .int 368, .int 4]) (M := wP pre (wN (PP s9) (QQ s9) op oq tr (nI L.1) w9 0 ob st of F)) (u := 0) rfl (by decide) (rm_isZero_4 (A := 368) V9 (by omega) ?_)
  show mm_W _ _ _ _ _ _ _ (209, [(6, .int (nI e)), (5, .int (nI c)), (0, .ref 10), (1, .int (nI o)), (2, .int (nI p)), (3, .int (nI q)), (4, .int 1)], [.int (bz (iszm 4 s9 (368))), .ref 10], wP pre (wN (PP s9) (QQ s9) op oq tr (nI L.1) w9 0 ob st of F), 0)
  refine mm_branch (mm_call_mono _ _) (c := (bz (iszm 4 s9 (368))) = 0) (s1 := (228, [(6, .int (nI e)), (5, .int (nI c)), (0, .ref 10), (1, .int (nI o)), (2, .int (nI p)), (3, .int (nI q)), (4, .int 1)], [.ref 10], wP pre (wN (PP s9) (QQ s9) op oq tr (nI L.1) w9 0 ob st of F), 0)) (s2 := (212, [(6, .int (nI e)), (5, .int (nI c)), (0, .ref 10), (1, .int (nI o)), (2, .int (nI p)), (3, .int (nI q)), (4, .int 1)], [.ref 10], wP pre (wN (PP s9) (QQ s9) op oq tr (nI L.1) w9 0 ob st of F), 0)) rfl (fun g1 => ?_) (fun g1 => ?_)
  · skip
    refine mm_skip (mm_call_mono _ _) 1 (st' := (229, [(6, .int (nI e)), (5, .int (nI c)), (0, .ref 10), (1, .int (nI o)), (2, .int (nI p)), (3, .int (nI q)), (4, .int 1)], [.int 0, .ref 10], wP pre (wN (PP s9) (QQ s9) op oq tr (nI L.1) w9 0 ob st of F), 0)) rfl ?_
    refine mm_need (mm_call_mono _ _) (c := mm_z 0) (s' := (232, [(6, .int (nI e)), (5, .int (nI c)), (0, .ref 10), (1, .int (nI o)), (2, .int (nI p)), (3, .int (nI q)), (4, .int 1)], [], wP pre (wN (PP s9) (QQ s9) op oq tr (nI L.1) w9 0 ob st of F), 0)) rfl (by unfold mm_z; decide) ?_
    refine mm_skip (mm_call_mono _ _) 2 (st' := (236, [(6, .int (nI e)), (5, .int (nI c)), (0, .ref 10), (1, .int (nI o)), (2, .int (nI p)), (3, .int (nI q)), (4, .int 1)], [.int 0], wP pre (wN (PP s9) (QQ s9) op oq tr (nI L.1) w9 0 ob st of F), 0)) rfl ?_
    refine mm_branch (mm_call_mono _ _) (c := (0 : Int32) = 0) (s1 := (239, [(6, .int (nI e)), (5, .int (nI c)), (0, .ref 10), (1, .int (nI o)), (2, .int (nI p)), (3, .int (nI q)), (4, .int 1)], [], wP pre (wN (PP s9) (QQ s9) op oq tr (nI L.1) w9 0 ob st of F), 0)) (s2 := (258, [(6, .int (nI e)), (5, .int (nI c)), (0, .ref 10), (1, .int (nI o)), (2, .int (nI p)), (3, .int (nI q)), (4, .int 1)], [], wP pre (wN (PP s9) (QQ s9) op oq tr (nI L.1) w9 0 ob st of F), 0)) rfl (fun _ => ?_) (fun h => absurd (by decide) h)
    refine mm_skip (mm_call_mono _ _) 2 (st' := (243, [(6, .int (nI e)), (5, .int (nI c)), (0, .ref 10), (1, .int (nI o)), (2, .int (nI p)), (3, .int (nI q)), (4, .int 1)], [.int w9], wP pre (wN (PP s9) (QQ s9) op oq tr (nI L.1) w9 0 ob st of F), 0)) rfl ?_
    refine mm_branch (mm_call_mono _ _) (c := w9 = 0) (s1 := (246, [(6, .int (nI e)), (5, .int (nI c)), (0, .ref 10), (1, .int (nI o)), (2, .int (nI p)), (3, .int (nI q)), (4, .int 1)], [], wP pre (wN (PP s9) (QQ s9) op oq tr (nI L.1) w9 0 ob st of F), 0)) (s2 := (258, [(6, .int (nI e)), (5, .int (nI c)), (0, .ref 10), (1, .int (nI o)), (2, .int (nI p)), (3, .int (nI q)), (4, .int 1)], [], wP pre (wN (PP s9) (QQ s9) op oq tr (nI L.1) w9 0 ob st of F), 0)) rfl (fun gw => ?_) (fun gw => ?_)
    · skip
      subst gw
      refine mm_skip (mm_call_mono _ _) 3 (st' := (249, [(6, .int (nI e)), (5, .int (nI c)), (0, .ref 10), (1, .int (nI o)), (2, .int (nI p)), (3, .int (nI q)), (4, .int 1)], [.int 0, .int (nI o), .ref 10], wP pre (wN (PP s9) (QQ s9) op oq tr (nI L.1) 0 0 ob st of F), 0)) rfl ?_
      refine mm_inv (mm_call_mono _ _) (j := 85) (a := [.int 0]) (M := wP pre (wN (PP s9) (QQ s9) op oq tr (nI L.1) 0 0 ob st of F)) (u := 0) rfl (by decide) (rm_work ?_)
      show mm_W _ _ _ _ _ _ _ (252, [(6, .int (nI e)), (5, .int (nI c)), (0, .ref 10), (1, .int (nI o)), (2, .int (nI p)), (3, .int (nI q)), (4, .int 1)], [.int 368, .int (nI o), .ref 10], wP pre (wN (PP s9) (QQ s9) op oq tr (nI L.1) 0 0 ob st of F), 0)
      refine mm_skip (mm_call_mono _ _) 2 (st' := (255, [(6, .int (nI e)), (5, .int (nI c)), (0, .ref 10), (1, .int (nI o)), (2, .int (nI p)), (3, .int (nI q)), (4, .int 1)], [.int 1, .int (nI p), .int 368, .int (nI o), .ref 10], wP pre (wN (PP s9) (QQ s9) op oq tr (nI L.1) 0 0 ob st of F), 0)) rfl ?_
      refine mm_inv (mm_call_mono _ _) (j := 92) (a := [.ref 10, .int (nI o), .int 368, .int (nI p), .int 1]) (M := wP pre (wN (PP s9) (QQ s9) op oq tr (nI L.1) 0 0 ob st of F)) (u := 0) rfl (by decide) (rk_cut_1 (LN := 368) (kc := p) (ct := c) V9 hl (by omega) hofp R_9 Hf_9 W2_9 W4_9 W9_9 A_9 B_9 G_9 I_9 (fun s1 w1 fa1 L1 hd => ?_))
      show mm_W _ _ _ _ _ _ _ (258, [(6, .int (nI e)), (5, .int (nI c)), (0, .ref 10), (1, .int (nI o)), (2, .int (nI p)), (3, .int (nI q)), (4, .int 1)], [], wP pre (wN (PP s1) (QQ s1) op oq tr (nI L1.1) w1 fa1 ob st of F), 0)
      exact mm_ret (mm_call_mono _ _) (c := True) (r := .inl none) (M := wP pre (wN (PP s1) (QQ s1) op oq tr (nI L1.1) w1 fa1 ob st of F)) (u := 0) rfl trivial (by decide) (hQ _ _ _ _ (drM_tr (L := L) S9 (fun k q => q.elim Or.inl (fun q => Or.inr (Or.inl q))) (E9 rfl) hd))
    · skip
      exact mm_ret (mm_call_mono _ _) (c := True) (r := .inl none) (M := wP pre (wN (PP s9) (QQ s9) op oq tr (nI L.1) w9 0 ob st of F)) (u := 0) rfl trivial (by decide) (hQ _ _ _ _ (dr_fM (L := L) (L1 := L) S9 (fun k q => q.elim Or.inl (fun q => Or.inr (Or.inl q))) hl (Or.inl rfl) (Or.inl (mm_z1 z9 gw)) (F9 (mm_z1 z9 gw) rfl)))
  · skip
    refine mm_skip (mm_call_mono _ _) 2 (st' := (214, [(6, .int (nI e)), (5, .int (nI c)), (0, .ref 10), (1, .int (nI o)), (2, .int (nI p)), (3, .int (nI q)), (4, .int 1)], [.int 1, .ref 10, .ref 10], wP pre (wN (PP s9) (QQ s9) op oq tr (nI L.1) w9 0 ob st of F), 0)) rfl ?_
    refine mm_inv (mm_call_mono _ _) (j := 85) (a := [.int 1]) (M := wP pre (wN (PP s9) (QQ s9) op oq tr (nI L.1) w9 0 ob st of F)) (u := 0) rfl (by decide) (rm_work ?_)
    show mm_W _ _ _ _ _ _ _ (217, [(6, .int (nI e)), (5, .int (nI c)), (0, .ref 10), (1, .int (nI o)), (2, .int (nI p)), (3, .int (nI q)), (4, .int 1)], [.int 372, .ref 10, .ref 10], wP pre (wN (PP s9) (QQ s9) op oq tr (nI L.1) w9 0 ob st of F), 0)
    refine mm_skip (mm_call_mono _ _) 1 (st' := (218, [(6, .int (nI e)), (5, .int (nI c)), (0, .ref 10), (1, .int (nI o)), (2, .int (nI p)), (3, .int (nI q)), (4, .int 1)], [.int 4, .int 372, .ref 10, .ref 10], wP pre (wN (PP s9) (QQ s9) op oq tr (nI L.1) w9 0 ob st of F), 0)) rfl ?_
    refine mm_inv (mm_call_mono _ _) (j := 63) (a := [.ref 10, .int 372, .int 4]) (M := wP pre (wN (PP s9) (QQ s9) op oq tr (nI L.1) w9 0 ob st of F)) (u := 0) rfl (by decide) (rm_isZero_4 (A := 372) V9 (by omega) ?_)
    show mm_W _ _ _ _ _ _ _ (221, [(6, .int (nI e)), (5, .int (nI c)), (0, .ref 10), (1, .int (nI o)), (2, .int (nI p)), (3, .int (nI q)), (4, .int 1)], [.int (bz (iszm 4 s9 (372))), .ref 10], wP pre (wN (PP s9) (QQ s9) op oq tr (nI L.1) w9 0 ob st of F), 0)
    refine mm_branch (mm_call_mono _ _) (c := (bz (iszm 4 s9 (372))) = 0) (s1 := (228, [(6, .int (nI e)), (5, .int (nI c)), (0, .ref 10), (1, .int (nI o)), (2, .int (nI p)), (3, .int (nI q)), (4, .int 1)], [.ref 10], wP pre (wN (PP s9) (QQ s9) op oq tr (nI L.1) w9 0 ob st of F), 0)) (s2 := (224, [(6, .int (nI e)), (5, .int (nI c)), (0, .ref 10), (1, .int (nI o)), (2, .int (nI p)), (3, .int (nI q)), (4, .int 1)], [.ref 10], wP pre (wN (PP s9) (QQ s9) op oq tr (nI L.1) w9 0 ob st of F), 0)) rfl (fun g2 => ?_) (fun g2 => ?_)
    · skip
      refine mm_skip (mm_call_mono _ _) 1 (st' := (229, [(6, .int (nI e)), (5, .int (nI c)), (0, .ref 10), (1, .int (nI o)), (2, .int (nI p)), (3, .int (nI q)), (4, .int 1)], [.int 0, .ref 10], wP pre (wN (PP s9) (QQ s9) op oq tr (nI L.1) w9 0 ob st of F), 0)) rfl ?_
      refine mm_need (mm_call_mono _ _) (c := mm_z 0) (s' := (232, [(6, .int (nI e)), (5, .int (nI c)), (0, .ref 10), (1, .int (nI o)), (2, .int (nI p)), (3, .int (nI q)), (4, .int 1)], [], wP pre (wN (PP s9) (QQ s9) op oq tr (nI L.1) w9 0 ob st of F), 0)) rfl (by unfold mm_z; decide) ?_
      refine mm_skip (mm_call_mono _ _) 2 (st' := (236, [(6, .int (nI e)), (5, .int (nI c)), (0, .ref 10), (1, .int (nI o)), (2, .int (nI p)), (3, .int (nI q)), (4, .int 1)], [.int 0], wP pre (wN (PP s9) (QQ s9) op oq tr (nI L.1) w9 0 ob st of F), 0)) rfl ?_
      refine mm_branch (mm_call_mono _ _) (c := (0 : Int32) = 0) (s1 := (239, [(6, .int (nI e)), (5, .int (nI c)), (0, .ref 10), (1, .int (nI o)), (2, .int (nI p)), (3, .int (nI q)), (4, .int 1)], [], wP pre (wN (PP s9) (QQ s9) op oq tr (nI L.1) w9 0 ob st of F), 0)) (s2 := (258, [(6, .int (nI e)), (5, .int (nI c)), (0, .ref 10), (1, .int (nI o)), (2, .int (nI p)), (3, .int (nI q)), (4, .int 1)], [], wP pre (wN (PP s9) (QQ s9) op oq tr (nI L.1) w9 0 ob st of F), 0)) rfl (fun _ => ?_) (fun h => absurd (by decide) h)
      refine mm_skip (mm_call_mono _ _) 2 (st' := (243, [(6, .int (nI e)), (5, .int (nI c)), (0, .ref 10), (1, .int (nI o)), (2, .int (nI p)), (3, .int (nI q)), (4, .int 1)], [.int w9], wP pre (wN (PP s9) (QQ s9) op oq tr (nI L.1) w9 0 ob st of F), 0)) rfl ?_
      refine mm_branch (mm_call_mono _ _) (c := w9 = 0) (s1 := (246, [(6, .int (nI e)), (5, .int (nI c)), (0, .ref 10), (1, .int (nI o)), (2, .int (nI p)), (3, .int (nI q)), (4, .int 1)], [], wP pre (wN (PP s9) (QQ s9) op oq tr (nI L.1) w9 0 ob st of F), 0)) (s2 := (258, [(6, .int (nI e)), (5, .int (nI c)), (0, .ref 10), (1, .int (nI o)), (2, .int (nI p)), (3, .int (nI q)), (4, .int 1)], [], wP pre (wN (PP s9) (QQ s9) op oq tr (nI L.1) w9 0 ob st of F), 0)) rfl (fun gw => ?_) (fun gw => ?_)
      · skip
        subst gw
        refine mm_skip (mm_call_mono _ _) 3 (st' := (249, [(6, .int (nI e)), (5, .int (nI c)), (0, .ref 10), (1, .int (nI o)), (2, .int (nI p)), (3, .int (nI q)), (4, .int 1)], [.int 0, .int (nI o), .ref 10], wP pre (wN (PP s9) (QQ s9) op oq tr (nI L.1) 0 0 ob st of F), 0)) rfl ?_
        refine mm_inv (mm_call_mono _ _) (j := 85) (a := [.int 0]) (M := wP pre (wN (PP s9) (QQ s9) op oq tr (nI L.1) 0 0 ob st of F)) (u := 0) rfl (by decide) (rm_work ?_)
        show mm_W _ _ _ _ _ _ _ (252, [(6, .int (nI e)), (5, .int (nI c)), (0, .ref 10), (1, .int (nI o)), (2, .int (nI p)), (3, .int (nI q)), (4, .int 1)], [.int 368, .int (nI o), .ref 10], wP pre (wN (PP s9) (QQ s9) op oq tr (nI L.1) 0 0 ob st of F), 0)
        refine mm_skip (mm_call_mono _ _) 2 (st' := (255, [(6, .int (nI e)), (5, .int (nI c)), (0, .ref 10), (1, .int (nI o)), (2, .int (nI p)), (3, .int (nI q)), (4, .int 1)], [.int 1, .int (nI p), .int 368, .int (nI o), .ref 10], wP pre (wN (PP s9) (QQ s9) op oq tr (nI L.1) 0 0 ob st of F), 0)) rfl ?_
        refine mm_inv (mm_call_mono _ _) (j := 92) (a := [.ref 10, .int (nI o), .int 368, .int (nI p), .int 1]) (M := wP pre (wN (PP s9) (QQ s9) op oq tr (nI L.1) 0 0 ob st of F)) (u := 0) rfl (by decide) (rk_cut_1 (LN := 368) (kc := p) (ct := c) V9 hl (by omega) hofp R_9 Hf_9 W2_9 W4_9 W9_9 A_9 B_9 G_9 I_9 (fun s1 w1 fa1 L1 hd => ?_))
        show mm_W _ _ _ _ _ _ _ (258, [(6, .int (nI e)), (5, .int (nI c)), (0, .ref 10), (1, .int (nI o)), (2, .int (nI p)), (3, .int (nI q)), (4, .int 1)], [], wP pre (wN (PP s1) (QQ s1) op oq tr (nI L1.1) w1 fa1 ob st of F), 0)
        exact mm_ret (mm_call_mono _ _) (c := True) (r := .inl none) (M := wP pre (wN (PP s1) (QQ s1) op oq tr (nI L1.1) w1 fa1 ob st of F)) (u := 0) rfl trivial (by decide) (hQ _ _ _ _ (drM_tr (L := L) S9 (fun k q => q.elim Or.inl (fun q => Or.inr (Or.inl q))) (E9 rfl) hd))
      · skip
        exact mm_ret (mm_call_mono _ _) (c := True) (r := .inl none) (M := wP pre (wN (PP s9) (QQ s9) op oq tr (nI L.1) w9 0 ob st of F)) (u := 0) rfl trivial (by decide) (hQ _ _ _ _ (dr_fM (L := L) (L1 := L) S9 (fun k q => q.elim Or.inl (fun q => Or.inr (Or.inl q))) hl (Or.inl rfl) (Or.inl (mm_z1 z9 gw)) (F9 (mm_z1 z9 gw) rfl)))
    · skip
      refine mm_skip (mm_call_mono _ _) 2 (st' := (229, [(6, .int (nI e)), (5, .int (nI c)), (0, .ref 10), (1, .int (nI o)), (2, .int (nI p)), (3, .int (nI q)), (4, .int 1)], [.int 1, .ref 10], wP pre (wN (PP s9) (QQ s9) op oq tr (nI L.1) w9 0 ob st of F), 0)) rfl ?_
      refine mm_need (mm_call_mono _ _) (c := mm_z 1) (s' := (232, [(6, .int (nI e)), (5, .int (nI c)), (0, .ref 10), (1, .int (nI o)), (2, .int (nI p)), (3, .int (nI q)), (4, .int 1)], [], wP pre (wN (PP s9) (QQ s9) op oq tr (nI L.1) w9 1 ob st of F), 0)) rfl (by unfold mm_z; decide) ?_
      refine mm_skip (mm_call_mono _ _) 2 (st' := (236, [(6, .int (nI e)), (5, .int (nI c)), (0, .ref 10), (1, .int (nI o)), (2, .int (nI p)), (3, .int (nI q)), (4, .int 1)], [.int 1], wP pre (wN (PP s9) (QQ s9) op oq tr (nI L.1) w9 1 ob st of F), 0)) rfl ?_
      refine mm_branch (mm_call_mono _ _) (c := (1 : Int32) = 0) (s1 := (239, [(6, .int (nI e)), (5, .int (nI c)), (0, .ref 10), (1, .int (nI o)), (2, .int (nI p)), (3, .int (nI q)), (4, .int 1)], [], wP pre (wN (PP s9) (QQ s9) op oq tr (nI L.1) w9 1 ob st of F), 0)) (s2 := (258, [(6, .int (nI e)), (5, .int (nI c)), (0, .ref 10), (1, .int (nI o)), (2, .int (nI p)), (3, .int (nI q)), (4, .int 1)], [], wP pre (wN (PP s9) (QQ s9) op oq tr (nI L.1) w9 1 ob st of F), 0)) rfl (fun h => absurd h (by decide)) (fun _ => ?_)
      exact mm_ret (mm_call_mono _ _) (c := True) (r := .inl none) (M := wP pre (wN (PP s9) (QQ s9) op oq tr (nI L.1) w9 1 ob st of F)) (u := 0) rfl trivial (by decide) (hQ _ _ _ _ (dr_fM (L := L) (L1 := L) S9 (fun k q => q.elim Or.inl (fun q => Or.inr (Or.inl q))) hl (Or.inr rfl) (Or.inr rfl) ((z9).elim (fun q => (E9 q).trans (by subst q; exact mCut_z hl (rdV_of V9 R_9) (v4_t V9 W2_9) (v4_t V9 W4_9) (v4_t V9 A_9) (v4_t V9 B_9) (isz_t W2_9 (bz_1 g1)) (isz_t W4_9 (bz_1 g2)))) (fun q => F9 q rfl))))

