section RR
variable (h : Nat) (M : (Nat → fr) → (Nat → fr) → Option n4) (I : (Nat → fr) → Option n4) (G Gf : (Nat → fr) → Option Int) (Rt : (Nat → fr) → Option (Option n4)) (R x : Nat → fr)
def hfS (su : Option n4) : Option (Option n4) := su.bind fun y => rtTry h G Rt y (rtK1 h M I Gf x)
def rKo (n : n4) : Option n4 → Option (Option n4)
  | some w => some (some w)
  | none => hfS h M I G Gf Rt x (nsub h x (g4 n))
def rKn : Option n4 → Option (Option n4)
  | some n => (hfS h M I G Gf Rt x (nadd h x (g4 n))).bind (rKo h M I G Gf Rt x n)
  | none => some none
def rrtS : Option (Option n4) := if ∀ j, j < h → (x (h + j)).1 = 0 then (Rt x).bind (rtKa h M I Rt R x) else (rnorm h M R x).bind fun sq => (G (g4 sq)).bind fun s => if s < 0 then some none else (Rt (g4 sq)).bind (rKn h M I G Gf Rt x)
end RR
section RS
variable {h : Nat} {M : (Nat → fr) → (Nat → fr) → Option n4} {I : (Nat → fr) → Option n4} {G Gf : (Nat → fr) → Option Int} {Rt : (Nat → fr) → Option (Option n4)} {R x : Nat → fr}
theorem fin_o {w : n4} {k : Option n4 → Option (Option n4)} (hk : ∀ v, k (some v) = some (some v)) : (rtFin h M I Gf x w).bind k = rtFin h M I Gf x w := by
  unfold rtFin
  cases nadd h (g4 w) (g4 w) with
  | none => rfl
  | some ww =>
    show ((I (g4 ww)).bind _).bind k = (I (g4 ww)).bind _
    cases I (g4 ww) with
    | none => rfl
    | some iw =>
      show ((M (sh h x) (g4 iw)).bind _).bind k = (M (sh h x) (g4 iw)).bind _
      cases M (sh h x) (g4 iw) with
      | none => rfl
      | some v =>
        show ((Gf (g4 (jn h w v))).bind _).bind k = (Gf (g4 (jn h w v))).bind _
        cases Gf (g4 (jn h w v)) with
        | none => rfl
        | some s =>
          show (if s < 0 then (nneg (2 * h) (g4 (jn h w v))).bind (fun m => some (some m)) else some (some (jn h w v))).bind k = if s < 0 then (nneg (2 * h) (g4 (jn h w v))).bind (fun m => some (some m)) else some (some (jn h w v))
          by_cases hs : s < 0
          · rw [if_pos hs]
            cases nneg (2 * h) (g4 (jn h w v)) with
            | none => rfl
            | some m => exact hk m
          · rw [if_neg hs]; exact hk _
theorem hf_1 {n : n4} : hfS h M I G Gf Rt x (nsub h x (g4 n)) = rtT1 h M I G Gf Rt x n := by
  unfold hfS rtT1 nsub
  cases nneg h (g4 n) with
  | none => rfl
  | some v =>
    show (((nadd h x (g4 v)).bind some).bind _) = (nadd h x (g4 v)).bind _
    cases nadd h x (g4 v) <;> rfl
theorem hf_0 {n : n4} : (hfS h M I G Gf Rt x (nadd h x (g4 n))).bind (rKo h M I G Gf Rt x n) = rtT0 h M I G Gf Rt x n := by
  have hk : ∀ v, rKo h M I G Gf Rt x n (some v) = some (some v) := fun _ => rfl
  have hn : rKo h M I G Gf Rt x n none = rtT1 h M I G Gf Rt x n := hf_1
  unfold hfS rtT0
  cases nadd h x (g4 n) with
  | none => rfl
  | some su =>
    show (rtTry h G Rt su (rtK1 h M I Gf x)).bind _ = rtTry h G Rt su (rtK0 h M I G Gf Rt x n)
    unfold rtTry
    cases nhalf h (g4 su) with
    | none => rfl
    | some hh =>
      show ((G (g4 hh)).bind _).bind _ = (G (g4 hh)).bind _
      cases G (g4 hh) with
      | none => rfl
      | some s =>
        show (if 0 < s then (Rt (g4 hh)).bind (rtK1 h M I Gf x) else rtK1 h M I Gf x none).bind _ = if 0 < s then (Rt (g4 hh)).bind (rtK0 h M I G Gf Rt x n) else rtK0 h M I G Gf Rt x n none
        by_cases hs : 0 < s
        · rw [if_pos hs, if_pos hs]
          cases Rt (g4 hh) with
          | none => rfl
          | some u =>
            cases u with
            | none => exact hn
            | some w => exact fin_o hk
        · rw [if_neg hs, if_neg hs]; exact hn
theorem rKn_eq : rKn h M I G Gf Rt x = rtKn h M I G Gf Rt x := by
  funext u
  cases u with
  | none => rfl
  | some n => exact hf_0
theorem rrt_eq : rrtS h M I G Gf Rt R x = nrtS h M I G Gf Rt R x := by
  unfold rrtS nrtS
  rw [rnorm_eq, rKn_eq]
end RS
theorem pd_M {s : Nat → fr} {w : Int32} {m d : Nat} (hm : m = 1 ∨ m = 2 ∨ m = 4) : isM s w m d (g4 (pd m s d)) := fun _ j hj => (g4_pd hm hj).symm
theorem ms_r {s s1 s2 : Nat → fr} {wi w1 w2 b : Int32} {Z : Nat → Prop} {U d m : Nat} {T : Option (Option n4)} (h : ms s wi Z s1 w1) (h2 : rtM s1 w1 U d m T s2 w2 b) (hZ : ∀ k, (300 ≤ k ∧ k < U) ∨ (d ≤ k ∧ k < d + m) → Z k) : ms s wi Z s2 w2 := by
  obtain ⟨a1, a2, a3, a4, a5⟩ := h
  obtain ⟨b1, b2, b3, b4, b5, b6, b7⟩ := h2
  exact ⟨b1, b2, fun k hk => (b3 k (fun q => hk (hZ k (Or.inl q))) (fun q => hk (hZ k (Or.inr q)))).trans (a3 k hk), fun q => b4 (a4 q), fun q => a5 (b6 q).1⟩
theorem m_Fr {s s1 s2 : Nat → fr} {wi w1 w2 b : Int32} {Z : Nat → Prop} {U d m : Nat} {X : Type} {T : Option (Option n4)} {spec : Option X} {k : Option n4 → Option X} (h : ms s wi Z s1 w1) (F : w1 = 1 → wi = 0 → spec = none) (E : w1 = 0 → spec = T.bind k) (h2 : rtM s1 w1 U d m T s2 w2 b) : w2 = 1 → wi = 0 → spec = none := fun h9 h0 => by
  rcases h.2.1 with hz | hz
  · rw [E hz, h2.2.2.2.2.2.2 h9 hz]; rfl
  · exact F hz h0
theorem m_Er0 {s1 s2 : Nat → fr} {w1 w2 b : Int32} {U d m : Nat} {X : Type} {T : Option (Option n4)} {spec : Option X} {k : Option n4 → Option X} (E : w1 = 0 → spec = T.bind k) (h2 : rtM s1 w1 U d m T s2 w2 b) (hb : b = 0) : w2 = 0 → spec = k none := fun h0 => by
  obtain ⟨q1, q2, q3⟩ := h2.2.2.2.2.2.1 h0
  rw [E q1, q2 hb]; rfl
theorem m_Er1 {s1 s2 : Nat → fr} {w1 w2 b : Int32} {U d m : Nat} {X : Type} {T : Option (Option n4)} {spec : Option X} {k : Option n4 → Option X} (E : w1 = 0 → spec = T.bind k) (h2 : rtM s1 w1 U d m T s2 w2 b) (hb : ¬ b = 0) : w2 = 0 → spec = k (some (pd m s2 d)) := fun h0 => by
  obtain ⟨q1, q2, q3⟩ := h2.2.2.2.2.2.1 h0
  rw [E q1, q3 (mm_z1 h2.2.2.2.2.1 hb)]; rfl
theorem bs {X Y : Type} {v : X} {k : X → Option Y} {spec : Option Y} {P : Prop} (E : P → spec = (some v).bind k) : P → spec = k v := E
theorem bo {Y : Type} {T : Option (Option n4)} {P : Prop} {spec : Option (Option n4)} (E : P → spec = T) : P → spec = T.bind some := fun p => by rw [E p]; cases T <;> rfl
theorem rt_f0 {s s1 : Nat → fr} {wi w1 : Int32} {Z : Nat → Prop} {U d m : Nat} {T : Option (Option n4)} (h : ms s wi Z s1 w1) (hZ : ∀ k, Z k → (300 ≤ k ∧ k < U) ∨ (d ≤ k ∧ k < d + m)) (E : w1 = 0 → T = some none) (F : w1 = 1 → wi = 0 → T = none) : rtM s wi U d m T s1 w1 0 :=
  ⟨h.1, h.2.1, fun k h1 h2 => h.2.2.1 k (fun q => (hZ k q).elim h1 h2), h.2.2.2.1, Or.inl rfl, fun h0 => ⟨h.2.2.2.2 h0, fun _ => E h0, fun q => absurd q.symm z10⟩, F⟩
theorem rt_f1 {s s1 : Nat → fr} {wi w1 : Int32} {Z : Nat → Prop} {U d m : Nat} {T : Option (Option n4)} {v : n4} (h : ms s wi Z s1 w1) (hZ : ∀ k, Z k → (300 ≤ k ∧ k < U) ∨ (d ≤ k ∧ k < d + m)) (E : w1 = 0 → T = some (some v)) (F : w1 = 1 → wi = 0 → T = none) (hv : w1 = 0 → pd m s1 d = v) : rtM s wi U d m T s1 w1 1 :=
  ⟨h.1, h.2.1, fun k h1 h2 => h.2.2.1 k (fun q => (hZ k q).elim h1 h2), h.2.2.2.1, Or.inr rfl, fun h0 => ⟨h.2.2.2.2 h0, fun q => absurd q z10, fun _ => by rw [hv h0]; exact E h0⟩, F⟩
theorem ms_up {s s1 : Nat → fr} {wi w1 : Int32} {Z : Nat → Prop} {d : Nat} (h : ms s wi Z s1 w1) (hd : Z d) : ms s wi Z (up s1 d z0) w1 := ⟨V_up h.1 fv_z0, h.2.1, fun k hk => (up_n (fun e => hk (by rw [e]; exact hd))).trans (h.2.2.1 k hk), h.2.2.2.1, h.2.2.2.2⟩
theorem ms_c {s s1 s2 : Nat → fr} {wi w1 : Int32} {Z : Nat → Prop} {d f : Nat} (h : ms s wi Z s1 w1) (c : clM s1 d f s2) (hZ : ∀ k, d + f ≤ k ∧ k < d + 4 → Z k) : ms s wi Z s2 w1 := ⟨c.1, h.2.1, fun k hk => (c.2.1 k (fun q => hk (hZ k q))).trans (h.2.2.1 k hk), h.2.2.2.1, h.2.2.2.2⟩
theorem m_c {s s1 : Nat → fr} {wi : Int32} {m a d f : Nat} {x : Nat → fr} (H : isM s wi m a x) (c : clM s d f s1) (hd : a + m ≤ d + f ∨ d + 4 ≤ a) : isM s1 wi m a x := fun h0 j hj => by
  rw [c.2.1 (a + j) (by omega)]; exact H h0 j hj
theorem jz_1 {s : Nat → fr} {w : Int32} {d : Nat} {p : n4} (A : isM s w 1 d (g4 p)) (h0 : w = 0) : pd 2 (up s (d + 1) z0) d = jn 1 p zz := by
  show (up s (d + 1) z0 d, up s (d + 1) z0 (d + 1), z0, z0) = (p.1, z0, z0, z0)
  rw [up_s, up_n (by omega), show s d = p.1 from A h0 0 (by omega)]
theorem zj_1 {s : Nat → fr} {w : Int32} {d : Nat} {q : n4} (A : isM s w 1 (d + 1) (g4 q)) (h0 : w = 0) : pd 2 (up s d z0) d = jn 1 zz q := by
  show (up s d z0 d, up s d z0 (d + 1), z0, z0) = (z0, q.1, z0, z0)
  rw [up_s, up_n (by omega), show s (d + 1) = q.1 from A h0 0 (by omega)]
theorem jz_2 {s s1 : Nat → fr} {w : Int32} {d : Nat} {p : n4} (A : isM s w 2 d (g4 p)) (c : clM s d 2 s1) (h0 : w = 0) : pd 4 s1 d = jn 2 p zz := by
  have A1 := m_c A c (by omega)
  show (s1 d, s1 (d + 1), s1 (d + 2), s1 (d + 3)) = (p.1, p.2.1, z0, z0)
  rw [show s1 d = p.1 from A1 h0 0 (by omega), show s1 (d + 1) = p.2.1 from A1 h0 1 (by omega), c.2.2 2 (by omega) (by omega), c.2.2 3 (by omega) (by omega)]
theorem zj_2 {s : Nat → fr} {w : Int32} {d : Nat} {q : n4} (Z : isM s w 2 d (fun _ => z0)) (A : isM s w 2 (d + 2) (g4 q)) (h0 : w = 0) : pd 4 s d = jn 2 zz q := by
  show (s d, s (d + 1), s (d + 2), s (d + 3)) = (z0, z0, q.1, q.2.1)
  rw [show s d = z0 from Z h0 0 (by omega), show s (d + 1) = z0 from Z h0 1 (by omega), show s (d + 2) = q.1 from A h0 0 (by omega), show s (d + 3) = q.2.1 from A h0 1 (by omega)]
theorem m_cz {s s1 : Nat → fr} {w : Int32} {d : Nat} (c : clM s d 0 s1) : isM s1 w 2 d (fun _ => z0) := fun _ j hj => c.2.2 j (by omega) (by omega)
theorem i32_l0 {v : Int32} (h : v < 0) : v.toInt < 0 := by rw [Int32.lt_iff_toInt_lt, show (0 : Int32).toInt = 0 by decide] at h; exact h
theorem i32_n0 {v : Int32} (h : ¬ v < 0) : ¬ v.toInt < 0 := by rw [Int32.lt_iff_toInt_lt, show (0 : Int32).toInt = 0 by decide] at h; exact h
theorem at_pd {s : Nat → fr} {w : Int32} {m d : Nat} {v : n4} (A : isM s w m d (g4 v)) (h0 : w = 0) (hm : m = 2 ∨ m = 4) (hv : pd m (g4 v) 0 = v) : pd m s d = v := by
  rw [← hv]
  rcases hm with rfl | rfl
  · show (s d, s (d + 1), z0, z0) = (g4 v 0, g4 v 1, z0, z0)
    rw [show s d = g4 v 0 from A h0 0 (by omega), A h0 1 (by omega)]
  · show (s d, s (d + 1), s (d + 2), s (d + 3)) = (g4 v 0, g4 v 1, g4 v 2, g4 v 3)
    rw [show s d = g4 v 0 from A h0 0 (by omega), A h0 1 (by omega), A h0 2 (by omega), A h0 3 (by omega)]
theorem rm_halve0 {d : Nat} {pre : mm_pre} {s : Nat → fr} {op oq : Nat → Int64} {tr dp wi fa ob : Int32} {st of : Nat → Int32} {F : mm_M} {D A : Nat} {x : Nat → fr} {Q : mm_R → mm_M → Prop} (hV : ∀ k, fv (s k)) (hz : mm_z wi) (hD : D < 480) (hA : A < 480) (X : isM s wi 1 A x) (Hf : isM s wi 1 299 (fun _ => (1, 2))) (hQ : ∀ (s1 : Nat → fr) (w1 : Int32), mR s wi 300 D 1 (nhalf 1 x) s1 w1 → Q (.inl none) (wP pre (wN (PP s1) (QQ s1) op oq tr dp w1 fa ob st of F))) : mm_call mm_Tb (d + 3) 52 [.ref 10, .int (nI D), .int (nI A), .int 299] (wP pre (wN (PP s) (QQ s) op oq tr dp wi fa ob st of F)) Q := rm_mul0 (B := 299) hV hz hD hA (by omega) X Hf (fun s1 w1 h1 => hQ s1 w1 (mR_T h1 (fun _ => nmul_half)))
set_option maxRecDepth 100000 in
theorem rm_half1_0 {d : Nat} {pre : mm_pre} {s : Nat → fr} {op oq : Nat → Int64} {tr dp wi fa ob : Int32} {st of : Nat → Int32} {F : mm_M} {D A : Nat} {x : Nat → fr} {n : n4} {R1 : Nat → fr} {Q : mm_R → mm_M → Prop} (hV : ∀ k, fv (s k)) (hz : mm_z wi) (hg : D + 2 ≤ 480 ∧ (D + 2 ≤ 288 ∨ 344 ≤ D) ∧ A + 2 ≤ 480 ∧ (A + 2 ≤ 300 ∨ 344 ≤ A) ∧ (D + 2 ≤ A ∨ A + 2 ≤ D)) (R : isM s wi 1 288 R1) (Hf : isM s wi 1 299 (fun _ => (1, 2))) (X : isM s wi 2 A x) (N : isM s wi 1 336 (g4 n)) (hQ : ∀ (s1 : Nat → fr) (w1 b : Int32), rtM s wi 344 D 2 (hfS 1 nmul0 ninv0 nsg0 (nsg1 R1) nrt0 x (nadd 1 x (g4 n))) s1 w1 b → isM s1 w1 1 336 (g4 n) → Q (.inl (some (.int b))) (wP pre (wN (PP s1) (QQ s1) op oq tr dp w1 fa ob st of F))) : mm_call mm_Tb (d + 6) 70 [.ref 10, .int (nI D), .int (nI A), .int 336, .int 0] (wP pre (wN (PP s) (QQ s) op oq tr dp wi fa ob st of F)) Q := by
  have S0 := ms_0 (Z := fun k => (300 ≤ k ∧ k < 344) ∨ (D ≤ k ∧ k < D + 2)) hV hz
  have E0 : wi = 0 → hfS 1 nmul0 ninv0 nsg0 (nsg1 R1) nrt0 x (nadd 1 x (g4 n)) = Option.bind (nadd 1 x (g4 n)) _ := fun _ => rfl
  have F0 : wi = 1 → wi = 0 → hfS 1 nmul0 ninv0 nsg0 (nsg1 R1) nrt0 x (nadd 1 x (g4 n)) = none := fun h1 h0 => absurd (h1.symm.trans h0) z10
  refine mm_in mt_70 (Nat.le_of_ble_eq_true rfl) ?_
  show mm_W _ _ _ _ _ _ _ (0, [(0, .ref 10), (1, .int (nI D)), (2, .int (nI A)), (3, .int 336), (4, .int 0)], [], wP pre (wN (PP s) (QQ s) op oq tr dp wi fa ob st of F), 0)
  refine mm_skip (mm_call_mono _ _) 1 (st' := (2, [(0, .ref 10), (1, .int (nI D)), (2, .int (nI A)), (3, .int 336), (4, .int 0)], [.int 0], wP pre (wN (PP s) (QQ s) op oq tr dp wi fa ob st of F), 0)) rfl ?_
  refine mm_branch (mm_call_mono _ _) (c := (0 : Int32) = 0) (s1 := (17, [(0, .ref 10), (1, .int (nI D)), (2, .int (nI A)), (3, .int 336), (4, .int 0)], [], wP pre (wN (PP s) (QQ s) op oq tr dp wi fa ob st of F), 0)) (s2 := (5, [(0, .ref 10), (1, .int (nI D)), (2, .int (nI A)), (3, .int 336), (4, .int 0)], [], wP pre (wN (PP s) (QQ s) op oq tr dp wi fa ob st of F), 0)) rfl (fun _ => ?_) (fun h => absurd (by decide) h)
  refine mm_skip (mm_call_mono _ _) 4 (st' := (23, [(0, .ref 10), (1, .int (nI D)), (2, .int (nI A)), (3, .int 336), (4, .int 0)], [.int 336, .int (nI A), .int 337, .ref 10], wP pre (wN (PP s) (QQ s) op oq tr dp wi fa ob st of F), 0)) rfl ?_
  refine mm_inv (mm_call_mono _ _) (j := 50) (a := [.ref 10, .int 337, .int (nI A), .int 336]) (M := wP pre (wN (PP s) (QQ s) op oq tr dp wi fa ob st of F)) (u := 0) rfl (by decide) (rm_add0 (D := 337) (A := A) (B := 336) hV hz (by omega) (by omega) (by omega) (m_lo X (by omega)) N (fun s1 w1 h1 => ?_))
  show mm_W _ _ _ _ _ _ _ (26, [(0, .ref 10), (1, .int (nI D)), (2, .int (nI A)), (3, .int 336), (4, .int 0)], [], wP pre (wN (PP s1) (QQ s1) op oq tr dp w1 fa ob st of F), 0)
  have V1 := h1.1
  have z1 := h1.2.1
  have S1 := ms_s S0 h1 (fun k => by omega)
  have F1 := m_F S0 F0 E0 h1
  have E1 := m_E E0 h1
  have R_1 := m_k R h1 (by omega)
  have Hf_1 := m_k Hf h1 (by omega)
  have X_1 := m_k X h1 (by omega)
  have N_1 := m_k N h1 (by omega)
  have W1_1 := m_new h1 (by decide)
  refine mm_skip (mm_call_mono _ _) 4 (st' := (36, [(0, .ref 10), (1, .int (nI D)), (2, .int (nI A)), (3, .int 336), (4, .int 0)], [.int 299, .int 337, .int 337, .ref 10], wP pre (wN (PP s1) (QQ s1) op oq tr dp w1 fa ob st of F), 0)) rfl ?_
  refine mm_inv (mm_call_mono _ _) (j := 52) (a := [.ref 10, .int 337, .int 337, .int 299]) (M := wP pre (wN (PP s1) (QQ s1) op oq tr dp w1 fa ob st of F)) (u := 0) rfl (by decide) (rm_halve0 (D := 337) (A := 337) V1 z1 (by omega) (by omega) W1_1 Hf_1 (fun s2 w2 h2 => ?_))
  show mm_W _ _ _ _ _ _ _ (39, [(0, .ref 10), (1, .int (nI D)), (2, .int (nI A)), (3, .int 336), (4, .int 0)], [], wP pre (wN (PP s2) (QQ s2) op oq tr dp w2 fa ob st of F), 0)
  have V2 := h2.1
  have z2 := h2.2.1
  have S2 := ms_s S1 h2 (fun k => by omega)
  have F2 := m_F S1 F1 E1 h2
  have E2 := m_E E1 h2
  have R_2 := m_k R_1 h2 (by omega)
  have X_2 := m_k X_1 h2 (by omega)
  have N_2 := m_k N_1 h2 (by omega)
  have W2_2 := m_new h2 (by decide)
  refine mm_skip (mm_call_mono _ _) 2 (st' := (43, [(0, .ref 10), (1, .int (nI D)), (2, .int (nI A)), (3, .int 336), (4, .int 0)], [.int 337, .ref 10], wP pre (wN (PP s2) (QQ s2) op oq tr dp w2 fa ob st of F), 0)) rfl ?_
  refine mm_inv (mm_call_mono _ _) (j := 55) (a := [.ref 10, .int 337]) (M := wP pre (wN (PP s2) (QQ s2) op oq tr dp w2 fa ob st of F)) (u := 0) rfl (by decide) (rm_sign0 (A := 337) V2 z2 (by omega) W2_2 (fun s3 w3 v3 h3 => ?_))
  show mm_W _ _ _ _ _ _ _ (46, [(0, .ref 10), (1, .int (nI D)), (2, .int (nI A)), (3, .int 336), (4, .int 0)], [.int v3], wP pre (wN (PP s3) (QQ s3) op oq tr dp w3 fa ob st of F), 0)
  have V3 := h3.1
  have z3 := h3.2.1
  have S3 := ms_g S2 h3 (fun k => by omega)
  have F3 := m_Fg S2 F2 E2 h3
  have E3 := m_Eg E2 h3
  have R_3 := m_kg R_2 h3 (by omega)
  have X_3 := m_kg X_2 h3 (by omega)
  have N_3 := m_kg N_2 h3 (by omega)
  have W2_3 := m_kg W2_2 h3 (by omega)
  refine mm_branch (mm_call_mono _ _) (c := v3 ≤ 0) (s1 := (62, [(0, .ref 10), (1, .int (nI D)), (2, .int (nI A)), (3, .int 336), (4, .int 0)], [], wP pre (wN (PP s3) (QQ s3) op oq tr dp w3 fa ob st of F), 0)) (s2 := (49, [(0, .ref 10), (1, .int (nI D)), (2, .int (nI A)), (3, .int 336), (4, .int 0)], [], wP pre (wN (PP s3) (QQ s3) op oq tr dp w3 fa ob st of F), 0)) rfl (fun g1 => ?_) (fun g1 => ?_)
  · skip
    refine mm_skip (mm_call_mono _ _) 1 (st' := (63, [(0, .ref 10), (1, .int (nI D)), (2, .int (nI A)), (3, .int 336), (4, .int 0)], [.int 0], wP pre (wN (PP s3) (QQ s3) op oq tr dp w3 fa ob st of F), 0)) rfl ?_
    exact mm_ret (mm_call_mono _ _) (c := mm_z 0) (r := .inl (some (.int 0))) (M := wP pre (wN (PP s3) (QQ s3) op oq tr dp w3 fa ob st of F)) (u := 0) rfl (by unfold mm_z; decide) (by decide) (hQ _ _ _ (rt_f0 (U := 344) (d := D) (m := 2) S3 (fun k => id) (fun h0 => (E3 h0).trans (if_neg (i32_le g1))) F3) N_3)
  · skip
    have E3 := fun h0 => (E3 h0).trans (if_pos (i32_gt g1))
    refine mm_skip (mm_call_mono _ _) 3 (st' := (56, [(0, .ref 10), (1, .int (nI D)), (2, .int (nI A)), (3, .int 336), (4, .int 0)], [.int 337, .int 338, .ref 10], wP pre (wN (PP s3) (QQ s3) op oq tr dp w3 fa ob st of F), 0)) rfl ?_
    refine mm_inv (mm_call_mono _ _) (j := 57) (a := [.ref 10, .int 338, .int 337]) (M := wP pre (wN (PP s3) (QQ s3) op oq tr dp w3 fa ob st of F)) (u := 0) rfl (by decide) (rm_root0 (D := 338) (A := 337) V3 z3 (by omega) (by omega) W2_3 (fun s4 w4 b4 h4 => ?_))
    show mm_W _ _ _ _ _ _ _ (59, [(0, .ref 10), (1, .int (nI D)), (2, .int (nI A)), (3, .int 336), (4, .int 0)], [.int b4], wP pre (wN (PP s4) (QQ s4) op oq tr dp w4 fa ob st of F), 0)
    have V4 := h4.1
    have z4 := h4.2.1
    have S4 := ms_r S3 h4 (fun k => by omega)
    have F4 := m_Fr S3 F3 E3 h4
    have R_4 := m_kr R_3 h4 (by omega)
    have X_4 := m_kr X_3 h4 (by omega)
    have N_4 := m_kr N_3 h4 (by omega)
    have W4_4 := pd_M (s := s4) (w := w4) (m := 1) (d := 338) (by decide)
    refine mm_branch (mm_call_mono _ _) (c := b4 = 0) (s1 := (62, [(0, .ref 10), (1, .int (nI D)), (2, .int (nI A)), (3, .int 336), (4, .int 0)], [], wP pre (wN (PP s4) (QQ s4) op oq tr dp w4 fa ob st of F), 0)) (s2 := (64, [(0, .ref 10), (1, .int (nI D)), (2, .int (nI A)), (3, .int 336), (4, .int 0)], [], wP pre (wN (PP s4) (QQ s4) op oq tr dp w4 fa ob st of F), 0)) rfl (fun g2 => ?_) (fun g2 => ?_)
    · skip
      have E4 := m_Er0 E3 h4 g2
      refine mm_skip (mm_call_mono _ _) 1 (st' := (63, [(0, .ref 10), (1, .int (nI D)), (2, .int (nI A)), (3, .int 336), (4, .int 0)], [.int 0], wP pre (wN (PP s4) (QQ s4) op oq tr dp w4 fa ob st of F), 0)) rfl ?_
      exact mm_ret (mm_call_mono _ _) (c := mm_z 0) (r := .inl (some (.int 0))) (M := wP pre (wN (PP s4) (QQ s4) op oq tr dp w4 fa ob st of F)) (u := 0) rfl (by unfold mm_z; decide) (by decide) (hQ _ _ _ (rt_f0 (U := 344) (d := D) (m := 2) S4 (fun k => id) E4 F4) N_4)
    · skip
      have E4 := m_Er1 E3 h4 g2
      refine mm_skip (mm_call_mono _ _) 4 (st' := (74, [(0, .ref 10), (1, .int (nI D)), (2, .int (nI A)), (3, .int 336), (4, .int 0)], [.int 338, .int 338, .int 339, .ref 10], wP pre (wN (PP s4) (QQ s4) op oq tr dp w4 fa ob st of F), 0)) rfl ?_
      refine mm_inv (mm_call_mono _ _) (j := 50) (a := [.ref 10, .int 339, .int 338, .int 338]) (M := wP pre (wN (PP s4) (QQ s4) op oq tr dp w4 fa ob st of F)) (u := 0) rfl (by decide) (rm_add0 (D := 339) (A := 338) (B := 338) V4 z4 (by omega) (by omega) (by omega) W4_4 W4_4 (fun s5 w5 h5 => ?_))
      show mm_W _ _ _ _ _ _ _ (77, [(0, .ref 10), (1, .int (nI D)), (2, .int (nI A)), (3, .int 336), (4, .int 0)], [], wP pre (wN (PP s5) (QQ s5) op oq tr dp w5 fa ob st of F), 0)
      have V5 := h5.1
      have z5 := h5.2.1
      have S5 := ms_s S4 h5 (fun k => by omega)
      have F5 := m_F S4 F4 E4 h5
      have E5 := m_E E4 h5
      have R_5 := m_k R_4 h5 (by omega)
      have X_5 := m_k X_4 h5 (by omega)
      have N_5 := m_k N_4 h5 (by omega)
      have W4_5 := m_k W4_4 h5 (by omega)
      have W5_5 := m_new h5 (by decide)
      refine mm_skip (mm_call_mono _ _) 3 (st' := (84, [(0, .ref 10), (1, .int (nI D)), (2, .int (nI A)), (3, .int 336), (4, .int 0)], [.int 339, .int 339, .ref 10], wP pre (wN (PP s5) (QQ s5) op oq tr dp w5 fa ob st of F), 0)) rfl ?_
      refine mm_inv (mm_call_mono _ _) (j := 54) (a := [.ref 10, .int 339, .int 339]) (M := wP pre (wN (PP s5) (QQ s5) op oq tr dp w5 fa ob st of F)) (u := 0) rfl (by decide) (rm_inv0 (D := 339) (A := 339) V5 z5 (by omega) (by omega) W5_5 (fun s6 w6 h6 => ?_))
      show mm_W _ _ _ _ _ _ _ (87, [(0, .ref 10), (1, .int (nI D)), (2, .int (nI A)), (3, .int 336), (4, .int 0)], [], wP pre (wN (PP s6) (QQ s6) op oq tr dp w6 fa ob st of F), 0)
      have V6 := h6.1
      have z6 := h6.2.1
      have S6 := ms_s S5 h6 (fun k => by omega)
      have F6 := m_F S5 F5 E5 h6
      have E6 := m_E E5 h6
      have R_6 := m_k R_5 h6 (by omega)
      have X_6 := m_k X_5 h6 (by omega)
      have N_6 := m_k N_5 h6 (by omega)
      have W4_6 := m_k W4_5 h6 (by omega)
      have W6_6 := m_new h6 (by decide)
      refine mm_skip (mm_call_mono _ _) 6 (st' := (97, [(0, .ref 10), (1, .int (nI D)), (2, .int (nI A)), (3, .int 336), (4, .int 0)], [.int 339, .int ((nI A) + 1), .int 339, .ref 10], wP pre (wN (PP s6) (QQ s6) op oq tr dp w6 fa ob st of F), 0)) rfl ?_
      rw [nI_p1 (A)]
      show mm_W _ _ _ _ _ _ _ (97, [(0, .ref 10), (1, .int (nI D)), (2, .int (nI A)), (3, .int 336), (4, .int 0)], [.int 339, .int (nI (A + 1)), .int 339, .ref 10], wP pre (wN (PP s6) (QQ s6) op oq tr dp w6 fa ob st of F), 0)
      refine mm_inv (mm_call_mono _ _) (j := 52) (a := [.ref 10, .int 339, .int (nI (A + 1)), .int 339]) (M := wP pre (wN (PP s6) (QQ s6) op oq tr dp w6 fa ob st of F)) (u := 0) rfl (by decide) (rm_mul0 (D := 339) (A := (A + 1)) (B := 339) V6 z6 (by omega) (by omega) (by omega) (m_hi X_6 1 (by omega)) W6_6 (fun s7 w7 h7 => ?_))
      show mm_W _ _ _ _ _ _ _ (100, [(0, .ref 10), (1, .int (nI D)), (2, .int (nI A)), (3, .int 336), (4, .int 0)], [], wP pre (wN (PP s7) (QQ s7) op oq tr dp w7 fa ob st of F), 0)
      have V7 := h7.1
      have z7 := h7.2.1
      have S7 := ms_s S6 h7 (fun k => by omega)
      have F7 := m_F S6 F6 E6 h7
      have E7 := m_E E6 h7
      have R_7 := m_k R_6 h7 (by omega)
      have N_7 := m_k N_6 h7 (by omega)
      have W4_7 := m_k W4_6 h7 (by omega)
      have W7_7 := m_new h7 (by decide)
      refine mm_skip (mm_call_mono _ _) 2 (st' := (104, [(0, .ref 10), (1, .int (nI D)), (2, .int (nI A)), (3, .int 336), (4, .int 0)], [.int 338, .ref 10], wP pre (wN (PP s7) (QQ s7) op oq tr dp w7 fa ob st of F), 0)) rfl ?_
      refine mm_inv (mm_call_mono _ _) (j := 69) (a := [.ref 10, .int 338]) (M := wP pre (wN (PP s7) (QQ s7) op oq tr dp w7 fa ob st of F)) (u := 0) rfl (by decide) (rm_sign1 (A := 338) V7 z7 (by omega) R_7 (m_jn1 W4_7 W7_7) (fun s8 w8 v8 h8 => ?_))
      show mm_W _ _ _ _ _ _ _ (107, [(0, .ref 10), (1, .int (nI D)), (2, .int (nI A)), (3, .int 336), (4, .int 0)], [.int v8], wP pre (wN (PP s8) (QQ s8) op oq tr dp w8 fa ob st of F), 0)
      have E7 := bs E7
      have V8 := h8.1
      have z8 := h8.2.1
      have S8 := ms_g S7 h8 (fun k => by omega)
      have F8 := m_Fg S7 F7 E7 h8
      have E8 := m_Eg E7 h8
      have N_8 := m_kg N_7 h8 (by omega)
      have W4_8 := m_kg W4_7 h8 (by omega)
      have W7_8 := m_kg W7_7 h8 (by omega)
      refine mm_skip (mm_call_mono _ _) 5 (st' := (115, [(5, .int v8), (0, .ref 10), (1, .int (nI D)), (2, .int (nI A)), (3, .int 336), (4, .int 0)], [.int 2, .int 338, .int (nI D), .ref 10], wP pre (wN (PP s8) (QQ s8) op oq tr dp w8 fa ob st of F), 0)) rfl ?_
      refine mm_inv (mm_call_mono _ _) (j := 58) (a := [.ref 10, .int (nI D), .int 338, .int 2]) (M := wP pre (wN (PP s8) (QQ s8) op oq tr dp w8 fa ob st of F)) (u := 0) rfl (by decide) (rm_set_2 (D := D) (A := 338) V8 z8 (by omega) (m_jn1 W4_8 W7_8) (fun s9 w9 h9 => ?_))
      show mm_W _ _ _ _ _ _ _ (118, [(5, .int v8), (0, .ref 10), (1, .int (nI D)), (2, .int (nI A)), (3, .int 336), (4, .int 0)], [], wP pre (wN (PP s9) (QQ s9) op oq tr dp w9 fa ob st of F), 0)
      have V9 := h9.1
      have z9 := h9.2.1
      obtain ⟨q9, r9, W9_9⟩ := mR_set z8 h9 (by decide)
      have S9 := ms_s S8 h9 (fun k => by omega)
      have F9 := fun h9 h0 => F8 (r9 h9) h0
      have E9 := fun h0 => E8 (q9 h0)
      have N_9 := m_k N_8 h9 (by omega)
      refine mm_skip (mm_call_mono _ _) 1 (st' := (120, [(5, .int v8), (0, .ref 10), (1, .int (nI D)), (2, .int (nI A)), (3, .int 336), (4, .int 0)], [.int v8], wP pre (wN (PP s9) (QQ s9) op oq tr dp w9 fa ob st of F), 0)) rfl ?_
      refine mm_branch (mm_call_mono _ _) (c := 0 ≤ v8) (s1 := (130, [(5, .int v8), (0, .ref 10), (1, .int (nI D)), (2, .int (nI A)), (3, .int 336), (4, .int 0)], [], wP pre (wN (PP s9) (QQ s9) op oq tr dp w9 fa ob st of F), 0)) (s2 := (123, [(5, .int v8), (0, .ref 10), (1, .int (nI D)), (2, .int (nI A)), (3, .int 336), (4, .int 0)], [], wP pre (wN (PP s9) (QQ s9) op oq tr dp w9 fa ob st of F), 0)) rfl (fun g3 => ?_) (fun g3 => ?_)
      · skip
        refine mm_skip (mm_call_mono _ _) 1 (st' := (131, [(5, .int v8), (0, .ref 10), (1, .int (nI D)), (2, .int (nI A)), (3, .int 336), (4, .int 0)], [.int 1], wP pre (wN (PP s9) (QQ s9) op oq tr dp w9 fa ob st of F), 0)) rfl ?_
        exact mm_ret (mm_call_mono _ _) (c := mm_z 1) (r := .inl (some (.int 1))) (M := wP pre (wN (PP s9) (QQ s9) op oq tr dp w9 fa ob st of F)) (u := 0) rfl (by unfold mm_z; decide) (by decide) (hQ _ _ _ (rt_f1 (U := 344) (d := D) (m := 2) S9 (fun k => id) (fun h0 => (E9 h0).trans (if_neg (i32_ge g3))) F9 (fun h0 => at_pd W9_9 h0 (by decide) (by rfl))) N_9)
      · skip
        have E9 := fun h0 => (E9 h0).trans (if_pos (i32_lt g3))
        refine mm_skip (mm_call_mono _ _) 4 (st' := (127, [(5, .int v8), (0, .ref 10), (1, .int (nI D)), (2, .int (nI A)), (3, .int 336), (4, .int 0)], [.int 2, .int (nI D), .int (nI D), .ref 10], wP pre (wN (PP s9) (QQ s9) op oq tr dp w9 fa ob st of F), 0)) rfl ?_
        refine mm_inv (mm_call_mono _ _) (j := 61) (a := [.ref 10, .int (nI D), .int (nI D), .int 2]) (M := wP pre (wN (PP s9) (QQ s9) op oq tr dp w9 fa ob st of F)) (u := 0) rfl (by decide) (rm_neg_2 (D := D) (A := D) V9 z9 (by omega) W9_9 (fun s10 w10 h10 => ?_))
        show mm_W _ _ _ _ _ _ _ (130, [(5, .int v8), (0, .ref 10), (1, .int (nI D)), (2, .int (nI A)), (3, .int 336), (4, .int 0)], [], wP pre (wN (PP s10) (QQ s10) op oq tr dp w10 fa ob st of F), 0)
        have V10 := h10.1
        have z10 := h10.2.1
        have S10 := ms_s S9 h10 (fun k => by omega)
        have F10 := m_F S9 F9 E9 h10
        have E10 := m_E E9 h10
        have N_10 := m_k N_9 h10 (by omega)
        have W10_10 := m_new h10 (by decide)
        refine mm_skip (mm_call_mono _ _) 1 (st' := (131, [(5, .int v8), (0, .ref 10), (1, .int (nI D)), (2, .int (nI A)), (3, .int 336), (4, .int 0)], [.int 1], wP pre (wN (PP s10) (QQ s10) op oq tr dp w10 fa ob st of F), 0)) rfl ?_
        exact mm_ret (mm_call_mono _ _) (c := mm_z 1) (r := .inl (some (.int 1))) (M := wP pre (wN (PP s10) (QQ s10) op oq tr dp w10 fa ob st of F)) (u := 0) rfl (by unfold mm_z; decide) (by decide) (hQ _ _ _ (rt_f1 (U := 344) (d := D) (m := 2) S10 (fun k => id) E10 F10 (fun h0 => at_pd W10_10 h0 (by decide) (by rfl))) N_10)

set_option maxRecDepth 100000 in
theorem rm_half1_1 {d : Nat} {pre : mm_pre} {s : Nat → fr} {op oq : Nat → Int64} {tr dp wi fa ob : Int32} {st of : Nat → Int32} {F : mm_M} {D A : Nat} {x : Nat → fr} {n : n4} {R1 : Nat → fr} {Q : mm_R → mm_M → Prop} (hV : ∀ k, fv (s k)) (hz : mm_z wi) (hg : D + 2 ≤ 480 ∧ (D + 2 ≤ 288 ∨ 344 ≤ D) ∧ A + 2 ≤ 480 ∧ (A + 2 ≤ 300 ∨ 344 ≤ A) ∧ (D + 2 ≤ A ∨ A + 2 ≤ D)) (R : isM s wi 1 288 R1) (Hf : isM s wi 1 299 (fun _ => (1, 2))) (X : isM s wi 2 A x) (N : isM s wi 1 336 (g4 n)) (hQ : ∀ (s1 : Nat → fr) (w1 b : Int32), rtM s wi 344 D 2 (hfS 1 nmul0 ninv0 nsg0 (nsg1 R1) nrt0 x (nsub 1 x (g4 n))) s1 w1 b → isM s1 w1 1 336 (g4 n) → Q (.inl (some (.int b))) (wP pre (wN (PP s1) (QQ s1) op oq tr dp w1 fa ob st of F))) : mm_call mm_Tb (d + 6) 70 [.ref 10, .int (nI D), .int (nI A), .int 336, .int 1] (wP pre (wN (PP s) (QQ s) op oq tr dp wi fa ob st of F)) Q := by
  have S0 := ms_0 (Z := fun k => (300 ≤ k ∧ k < 344) ∨ (D ≤ k ∧ k < D + 2)) hV hz
  have E0 : wi = 0 → hfS 1 nmul0 ninv0 nsg0 (nsg1 R1) nrt0 x (nsub 1 x (g4 n)) = Option.bind (nsub 1 x (g4 n)) _ := fun _ => rfl
  have F0 : wi = 1 → wi = 0 → hfS 1 nmul0 ninv0 nsg0 (nsg1 R1) nrt0 x (nsub 1 x (g4 n)) = none := fun h1 h0 => absurd (h1.symm.trans h0) z10
  refine mm_in mt_70 (Nat.le_of_ble_eq_true rfl) ?_
  show mm_W _ _ _ _ _ _ _ (0, [(0, .ref 10), (1, .int (nI D)), (2, .int (nI A)), (3, .int 336), (4, .int 1)], [], wP pre (wN (PP s) (QQ s) op oq tr dp wi fa ob st of F), 0)
  refine mm_skip (mm_call_mono _ _) 1 (st' := (2, [(0, .ref 10), (1, .int (nI D)), (2, .int (nI A)), (3, .int 336), (4, .int 1)], [.int 1], wP pre (wN (PP s) (QQ s) op oq tr dp wi fa ob st of F), 0)) rfl ?_
  refine mm_branch (mm_call_mono _ _) (c := (1 : Int32) = 0) (s1 := (17, [(0, .ref 10), (1, .int (nI D)), (2, .int (nI A)), (3, .int 336), (4, .int 1)], [], wP pre (wN (PP s) (QQ s) op oq tr dp wi fa ob st of F), 0)) (s2 := (5, [(0, .ref 10), (1, .int (nI D)), (2, .int (nI A)), (3, .int 336), (4, .int 1)], [], wP pre (wN (PP s) (QQ s) op oq tr dp wi fa ob st of F), 0)) rfl (fun h => absurd h (by decide)) (fun _ => ?_)
  refine mm_skip (mm_call_mono _ _) 4 (st' := (11, [(0, .ref 10), (1, .int (nI D)), (2, .int (nI A)), (3, .int 336), (4, .int 1)], [.int 336, .int (nI A), .int 337, .ref 10], wP pre (wN (PP s) (QQ s) op oq tr dp wi fa ob st of F), 0)) rfl ?_
  refine mm_inv (mm_call_mono _ _) (j := 51) (a := [.ref 10, .int 337, .int (nI A), .int 336]) (M := wP pre (wN (PP s) (QQ s) op oq tr dp wi fa ob st of F)) (u := 0) rfl (by decide) (rm_sub0 (D := 337) (A := A) (B := 336) hV hz (by omega) (by omega) (by omega) (m_lo X (by omega)) N (fun s1 w1 h1 => ?_))
  show mm_W _ _ _ _ _ _ _ (14, [(0, .ref 10), (1, .int (nI D)), (2, .int (nI A)), (3, .int 336), (4, .int 1)], [], wP pre (wN (PP s1) (QQ s1) op oq tr dp w1 fa ob st of F), 0)
  have V1 := h1.1
  have z1 := h1.2.1
  have S1 := ms_s S0 h1 (fun k => by omega)
  have F1 := m_F S0 F0 E0 h1
  have E1 := m_E E0 h1
  have R_1 := m_k R h1 (by omega)
  have Hf_1 := m_k Hf h1 (by omega)
  have X_1 := m_k X h1 (by omega)
  have N_1 := m_k N h1 (by omega)
  have W1_1 := m_new h1 (by decide)
  refine mm_skip (mm_call_mono _ _) 5 (st' := (36, [(0, .ref 10), (1, .int (nI D)), (2, .int (nI A)), (3, .int 336), (4, .int 1)], [.int 299, .int 337, .int 337, .ref 10], wP pre (wN (PP s1) (QQ s1) op oq tr dp w1 fa ob st of F), 0)) rfl ?_
  refine mm_inv (mm_call_mono _ _) (j := 52) (a := [.ref 10, .int 337, .int 337, .int 299]) (M := wP pre (wN (PP s1) (QQ s1) op oq tr dp w1 fa ob st of F)) (u := 0) rfl (by decide) (rm_halve0 (D := 337) (A := 337) V1 z1 (by omega) (by omega) W1_1 Hf_1 (fun s2 w2 h2 => ?_))
  show mm_W _ _ _ _ _ _ _ (39, [(0, .ref 10), (1, .int (nI D)), (2, .int (nI A)), (3, .int 336), (4, .int 1)], [], wP pre (wN (PP s2) (QQ s2) op oq tr dp w2 fa ob st of F), 0)
  have V2 := h2.1
  have z2 := h2.2.1
  have S2 := ms_s S1 h2 (fun k => by omega)
  have F2 := m_F S1 F1 E1 h2
  have E2 := m_E E1 h2
  have R_2 := m_k R_1 h2 (by omega)
  have X_2 := m_k X_1 h2 (by omega)
  have N_2 := m_k N_1 h2 (by omega)
  have W2_2 := m_new h2 (by decide)
  refine mm_skip (mm_call_mono _ _) 2 (st' := (43, [(0, .ref 10), (1, .int (nI D)), (2, .int (nI A)), (3, .int 336), (4, .int 1)], [.int 337, .ref 10], wP pre (wN (PP s2) (QQ s2) op oq tr dp w2 fa ob st of F), 0)) rfl ?_
  refine mm_inv (mm_call_mono _ _) (j := 55) (a := [.ref 10, .int 337]) (M := wP pre (wN (PP s2) (QQ s2) op oq tr dp w2 fa ob st of F)) (u := 0) rfl (by decide) (rm_sign0 (A := 337) V2 z2 (by omega) W2_2 (fun s3 w3 v3 h3 => ?_))
  show mm_W _ _ _ _ _ _ _ (46, [(0, .ref 10), (1, .int (nI D)), (2, .int (nI A)), (3, .int 336), (4, .int 1)], [.int v3], wP pre (wN (PP s3) (QQ s3) op oq tr dp w3 fa ob st of F), 0)
  have V3 := h3.1
  have z3 := h3.2.1
  have S3 := ms_g S2 h3 (fun k => by omega)
  have F3 := m_Fg S2 F2 E2 h3
  have E3 := m_Eg E2 h3
  have R_3 := m_kg R_2 h3 (by omega)
  have X_3 := m_kg X_2 h3 (by omega)
  have N_3 := m_kg N_2 h3 (by omega)
  have W2_3 := m_kg W2_2 h3 (by omega)
  refine mm_branch (mm_call_mono _ _) (c := v3 ≤ 0) (s1 := (62, [(0, .ref 10), (1, .int (nI D)), (2, .int (nI A)), (3, .int 336), (4, .int 1)], [], wP pre (wN (PP s3) (QQ s3) op oq tr dp w3 fa ob st of F), 0)) (s2 := (49, [(0, .ref 10), (1, .int (nI D)), (2, .int (nI A)), (3, .int 336), (4, .int 1)], [], wP pre (wN (PP s3) (QQ s3) op oq tr dp w3 fa ob st of F), 0)) rfl (fun g1 => ?_) (fun g1 => ?_)
  · skip
    refine mm_skip (mm_call_mono _ _) 1 (st' := (63, [(0, .ref 10), (1, .int (nI D)), (2, .int (nI A)), (3, .int 336), (4, .int 1)], [.int 0], wP pre (wN (PP s3) (QQ s3) op oq tr dp w3 fa ob st of F), 0)) rfl ?_
    exact mm_ret (mm_call_mono _ _) (c := mm_z 0) (r := .inl (some (.int 0))) (M := wP pre (wN (PP s3) (QQ s3) op oq tr dp w3 fa ob st of F)) (u := 0) rfl (by unfold mm_z; decide) (by decide) (hQ _ _ _ (rt_f0 (U := 344) (d := D) (m := 2) S3 (fun k => id) (fun h0 => (E3 h0).trans (if_neg (i32_le g1))) F3) N_3)
  · skip
    have E3 := fun h0 => (E3 h0).trans (if_pos (i32_gt g1))
    refine mm_skip (mm_call_mono _ _) 3 (st' := (56, [(0, .ref 10), (1, .int (nI D)), (2, .int (nI A)), (3, .int 336), (4, .int 1)], [.int 337, .int 338, .ref 10], wP pre (wN (PP s3) (QQ s3) op oq tr dp w3 fa ob st of F), 0)) rfl ?_
    refine mm_inv (mm_call_mono _ _) (j := 57) (a := [.ref 10, .int 338, .int 337]) (M := wP pre (wN (PP s3) (QQ s3) op oq tr dp w3 fa ob st of F)) (u := 0) rfl (by decide) (rm_root0 (D := 338) (A := 337) V3 z3 (by omega) (by omega) W2_3 (fun s4 w4 b4 h4 => ?_))
    show mm_W _ _ _ _ _ _ _ (59, [(0, .ref 10), (1, .int (nI D)), (2, .int (nI A)), (3, .int 336), (4, .int 1)], [.int b4], wP pre (wN (PP s4) (QQ s4) op oq tr dp w4 fa ob st of F), 0)
    have V4 := h4.1
    have z4 := h4.2.1
    have S4 := ms_r S3 h4 (fun k => by omega)
    have F4 := m_Fr S3 F3 E3 h4
    have R_4 := m_kr R_3 h4 (by omega)
    have X_4 := m_kr X_3 h4 (by omega)
    have N_4 := m_kr N_3 h4 (by omega)
    have W4_4 := pd_M (s := s4) (w := w4) (m := 1) (d := 338) (by decide)
    refine mm_branch (mm_call_mono _ _) (c := b4 = 0) (s1 := (62, [(0, .ref 10), (1, .int (nI D)), (2, .int (nI A)), (3, .int 336), (4, .int 1)], [], wP pre (wN (PP s4) (QQ s4) op oq tr dp w4 fa ob st of F), 0)) (s2 := (64, [(0, .ref 10), (1, .int (nI D)), (2, .int (nI A)), (3, .int 336), (4, .int 1)], [], wP pre (wN (PP s4) (QQ s4) op oq tr dp w4 fa ob st of F), 0)) rfl (fun g2 => ?_) (fun g2 => ?_)
    · skip
      have E4 := m_Er0 E3 h4 g2
      refine mm_skip (mm_call_mono _ _) 1 (st' := (63, [(0, .ref 10), (1, .int (nI D)), (2, .int (nI A)), (3, .int 336), (4, .int 1)], [.int 0], wP pre (wN (PP s4) (QQ s4) op oq tr dp w4 fa ob st of F), 0)) rfl ?_
      exact mm_ret (mm_call_mono _ _) (c := mm_z 0) (r := .inl (some (.int 0))) (M := wP pre (wN (PP s4) (QQ s4) op oq tr dp w4 fa ob st of F)) (u := 0) rfl (by unfold mm_z; decide) (by decide) (hQ _ _ _ (rt_f0 (U := 344) (d := D) (m := 2) S4 (fun k => id) E4 F4) N_4)
    · skip
      have E4 := m_Er1 E3 h4 g2
      refine mm_skip (mm_call_mono _ _) 4 (st' := (74, [(0, .ref 10), (1, .int (nI D)), (2, .int (nI A)), (3, .int 336), (4, .int 1)], [.int 338, .int 338, .int 339, .ref 10], wP pre (wN (PP s4) (QQ s4) op oq tr dp w4 fa ob st of F), 0)) rfl ?_
      refine mm_inv (mm_call_mono _ _) (j := 50) (a := [.ref 10, .int 339, .int 338, .int 338]) (M := wP pre (wN (PP s4) (QQ s4) op oq tr dp w4 fa ob st of F)) (u := 0) rfl (by decide) (rm_add0 (D := 339) (A := 338) (B := 338) V4 z4 (by omega) (by omega) (by omega) W4_4 W4_4 (fun s5 w5 h5 => ?_))
      show mm_W _ _ _ _ _ _ _ (77, [(0, .ref 10), (1, .int (nI D)), (2, .int (nI A)), (3, .int 336), (4, .int 1)], [], wP pre (wN (PP s5) (QQ s5) op oq tr dp w5 fa ob st of F), 0)
      have V5 := h5.1
      have z5 := h5.2.1
      have S5 := ms_s S4 h5 (fun k => by omega)
      have F5 := m_F S4 F4 E4 h5
      have E5 := m_E E4 h5
      have R_5 := m_k R_4 h5 (by omega)
      have X_5 := m_k X_4 h5 (by omega)
      have N_5 := m_k N_4 h5 (by omega)
      have W4_5 := m_k W4_4 h5 (by omega)
      have W5_5 := m_new h5 (by decide)
      refine mm_skip (mm_call_mono _ _) 3 (st' := (84, [(0, .ref 10), (1, .int (nI D)), (2, .int (nI A)), (3, .int 336), (4, .int 1)], [.int 339, .int 339, .ref 10], wP pre (wN (PP s5) (QQ s5) op oq tr dp w5 fa ob st of F), 0)) rfl ?_
      refine mm_inv (mm_call_mono _ _) (j := 54) (a := [.ref 10, .int 339, .int 339]) (M := wP pre (wN (PP s5) (QQ s5) op oq tr dp w5 fa ob st of F)) (u := 0) rfl (by decide) (rm_inv0 (D := 339) (A := 339) V5 z5 (by omega) (by omega) W5_5 (fun s6 w6 h6 => ?_))
      show mm_W _ _ _ _ _ _ _ (87, [(0, .ref 10), (1, .int (nI D)), (2, .int (nI A)), (3, .int 336), (4, .int 1)], [], wP pre (wN (PP s6) (QQ s6) op oq tr dp w6 fa ob st of F), 0)
      have V6 := h6.1
      have z6 := h6.2.1
      have S6 := ms_s S5 h6 (fun k => by omega)
      have F6 := m_F S5 F5 E5 h6
      have E6 := m_E E5 h6
      have R_6 := m_k R_5 h6 (by omega)
      have X_6 := m_k X_5 h6 (by omega)
      have N_6 := m_k N_5 h6 (by omega)
      have W4_6 := m_k W4_5 h6 (by omega)
      have W6_6 := m_new h6 (by decide)
      refine mm_skip (mm_call_mono _ _) 6 (st' := (97, [(0, .ref 10), (1, .int (nI D)), (2, .int (nI A)), (3, .int 336), (4, .int 1)], [.int 339, .int ((nI A) + 1), .int 339, .ref 10], wP pre (wN (PP s6) (QQ s6) op oq tr dp w6 fa ob st of F), 0)) rfl ?_
      rw [nI_p1 (A)]
      show mm_W _ _ _ _ _ _ _ (97, [(0, .ref 10), (1, .int (nI D)), (2, .int (nI A)), (3, .int 336), (4, .int 1)], [.int 339, .int (nI (A + 1)), .int 339, .ref 10], wP pre (wN (PP s6) (QQ s6) op oq tr dp w6 fa ob st of F), 0)
      refine mm_inv (mm_call_mono _ _) (j := 52) (a := [.ref 10, .int 339, .int (nI (A + 1)), .int 339]) (M := wP pre (wN (PP s6) (QQ s6) op oq tr dp w6 fa ob st of F)) (u := 0) rfl (by decide) (rm_mul0 (D := 339) (A := (A + 1)) (B := 339) V6 z6 (by omega) (by omega) (by omega) (m_hi X_6 1 (by omega)) W6_6 (fun s7 w7 h7 => ?_))
      show mm_W _ _ _ _ _ _ _ (100, [(0, .ref 10), (1, .int (nI D)), (2, .int (nI A)), (3, .int 336), (4, .int 1)], [], wP pre (wN (PP s7) (QQ s7) op oq tr dp w7 fa ob st of F), 0)
      have V7 := h7.1
      have z7 := h7.2.1
      have S7 := ms_s S6 h7 (fun k => by omega)
      have F7 := m_F S6 F6 E6 h7
      have E7 := m_E E6 h7
      have R_7 := m_k R_6 h7 (by omega)
      have N_7 := m_k N_6 h7 (by omega)
      have W4_7 := m_k W4_6 h7 (by omega)
      have W7_7 := m_new h7 (by decide)
      refine mm_skip (mm_call_mono _ _) 2 (st' := (104, [(0, .ref 10), (1, .int (nI D)), (2, .int (nI A)), (3, .int 336), (4, .int 1)], [.int 338, .ref 10], wP pre (wN (PP s7) (QQ s7) op oq tr dp w7 fa ob st of F), 0)) rfl ?_
      refine mm_inv (mm_call_mono _ _) (j := 69) (a := [.ref 10, .int 338]) (M := wP pre (wN (PP s7) (QQ s7) op oq tr dp w7 fa ob st of F)) (u := 0) rfl (by decide) (rm_sign1 (A := 338) V7 z7 (by omega) R_7 (m_jn1 W4_7 W7_7) (fun s8 w8 v8 h8 => ?_))
      show mm_W _ _ _ _ _ _ _ (107, [(0, .ref 10), (1, .int (nI D)), (2, .int (nI A)), (3, .int 336), (4, .int 1)], [.int v8], wP pre (wN (PP s8) (QQ s8) op oq tr dp w8 fa ob st of F), 0)
      have E7 := bs E7
      have V8 := h8.1
      have z8 := h8.2.1
      have S8 := ms_g S7 h8 (fun k => by omega)
      have F8 := m_Fg S7 F7 E7 h8
      have E8 := m_Eg E7 h8
      have N_8 := m_kg N_7 h8 (by omega)
      have W4_8 := m_kg W4_7 h8 (by omega)
      have W7_8 := m_kg W7_7 h8 (by omega)
      refine mm_skip (mm_call_mono _ _) 5 (st' := (115, [(5, .int v8), (0, .ref 10), (1, .int (nI D)), (2, .int (nI A)), (3, .int 336), (4, .int 1)], [.int 2, .int 338, .int (nI D), .ref 10], wP pre (wN (PP s8) (QQ s8) op oq tr dp w8 fa ob st of F), 0)) rfl ?_
      refine mm_inv (mm_call_mono _ _) (j := 58) (a := [.ref 10, .int (nI D), .int 338, .int 2]) (M := wP pre (wN (PP s8) (QQ s8) op oq tr dp w8 fa ob st of F)) (u := 0) rfl (by decide) (rm_set_2 (D := D) (A := 338) V8 z8 (by omega) (m_jn1 W4_8 W7_8) (fun s9 w9 h9 => ?_))
      show mm_W _ _ _ _ _ _ _ (118, [(5, .int v8), (0, .ref 10), (1, .int (nI D)), (2, .int (nI A)), (3, .int 336), (4, .int 1)], [], wP pre (wN (PP s9) (QQ s9) op oq tr dp w9 fa ob st of F), 0)
      have V9 := h9.1
      have z9 := h9.2.1
      obtain ⟨q9, r9, W9_9⟩ := mR_set z8 h9 (by decide)
      have S9 := ms_s S8 h9 (fun k => by omega)
      have F9 := fun h9 h0 => F8 (r9 h9) h0
      have E9 := fun h0 => E8 (q9 h0)
      have N_9 := m_k N_8 h9 (by omega)
      refine mm_skip (mm_call_mono _ _) 1 (st' := (120, [(5, .int v8), (0, .ref 10), (1, .int (nI D)), (2, .int (nI A)), (3, .int 336), (4, .int 1)], [.int v8], wP pre (wN (PP s9) (QQ s9) op oq tr dp w9 fa ob st of F), 0)) rfl ?_
      refine mm_branch (mm_call_mono _ _) (c := 0 ≤ v8) (s1 := (130, [(5, .int v8), (0, .ref 10), (1, .int (nI D)), (2, .int (nI A)), (3, .int 336), (4, .int 1)], [], wP pre (wN (PP s9) (QQ s9) op oq tr dp w9 fa ob st of F), 0)) (s2 := (123, [(5, .int v8), (0, .ref 10), (1, .int (nI D)), (2, .int (nI A)), (3, .int 336), (4, .int 1)], [], wP pre (wN (PP s9) (QQ s9) op oq tr dp w9 fa ob st of F), 0)) rfl (fun g3 => ?_) (fun g3 => ?_)
      · skip
        refine mm_skip (mm_call_mono _ _) 1 (st' := (131, [(5, .int v8), (0, .ref 10), (1, .int (nI D)), (2, .int (nI A)), (3, .int 336), (4, .int 1)], [.int 1], wP pre (wN (PP s9) (QQ s9) op oq tr dp w9 fa ob st of F), 0)) rfl ?_
        exact mm_ret (mm_call_mono _ _) (c := mm_z 1) (r := .inl (some (.int 1))) (M := wP pre (wN (PP s9) (QQ s9) op oq tr dp w9 fa ob st of F)) (u := 0) rfl (by unfold mm_z; decide) (by decide) (hQ _ _ _ (rt_f1 (U := 344) (d := D) (m := 2) S9 (fun k => id) (fun h0 => (E9 h0).trans (if_neg (i32_ge g3))) F9 (fun h0 => at_pd W9_9 h0 (by decide) (by rfl))) N_9)
      · skip
        have E9 := fun h0 => (E9 h0).trans (if_pos (i32_lt g3))
        refine mm_skip (mm_call_mono _ _) 4 (st' := (127, [(5, .int v8), (0, .ref 10), (1, .int (nI D)), (2, .int (nI A)), (3, .int 336), (4, .int 1)], [.int 2, .int (nI D), .int (nI D), .ref 10], wP pre (wN (PP s9) (QQ s9) op oq tr dp w9 fa ob st of F), 0)) rfl ?_
        refine mm_inv (mm_call_mono _ _) (j := 61) (a := [.ref 10, .int (nI D), .int (nI D), .int 2]) (M := wP pre (wN (PP s9) (QQ s9) op oq tr dp w9 fa ob st of F)) (u := 0) rfl (by decide) (rm_neg_2 (D := D) (A := D) V9 z9 (by omega) W9_9 (fun s10 w10 h10 => ?_))
        show mm_W _ _ _ _ _ _ _ (130, [(5, .int v8), (0, .ref 10), (1, .int (nI D)), (2, .int (nI A)), (3, .int 336), (4, .int 1)], [], wP pre (wN (PP s10) (QQ s10) op oq tr dp w10 fa ob st of F), 0)
        have V10 := h10.1
        have z10 := h10.2.1
        have S10 := ms_s S9 h10 (fun k => by omega)
        have F10 := m_F S9 F9 E9 h10
        have E10 := m_E E9 h10
        have N_10 := m_k N_9 h10 (by omega)
        have W10_10 := m_new h10 (by decide)
        refine mm_skip (mm_call_mono _ _) 1 (st' := (131, [(5, .int v8), (0, .ref 10), (1, .int (nI D)), (2, .int (nI A)), (3, .int 336), (4, .int 1)], [.int 1], wP pre (wN (PP s10) (QQ s10) op oq tr dp w10 fa ob st of F), 0)) rfl ?_
        exact mm_ret (mm_call_mono _ _) (c := mm_z 1) (r := .inl (some (.int 1))) (M := wP pre (wN (PP s10) (QQ s10) op oq tr dp w10 fa ob st of F)) (u := 0) rfl (by unfold mm_z; decide) (by decide) (hQ _ _ _ (rt_f1 (U := 344) (d := D) (m := 2) S10 (fun k => id) E10 F10 (fun h0 => at_pd W10_10 h0 (by decide) (by rfl))) N_10)

set_option maxRecDepth 100000 in
theorem rm_root1 {d : Nat} {pre : mm_pre} {s : Nat → fr} {op oq : Nat → Int64} {tr dp wi fa ob : Int32} {st of : Nat → Int32} {F : mm_M} {D A : Nat} {x : Nat → fr} {R1 : Nat → fr} {Q : mm_R → mm_M → Prop} (hV : ∀ k, fv (s k)) (hz : mm_z wi) (hg : D + 2 ≤ 480 ∧ (D + 2 ≤ 288 ∨ 344 ≤ D) ∧ A + 2 ≤ 480 ∧ (A + 2 ≤ 300 ∨ 344 ≤ A) ∧ (D + 2 ≤ A ∨ A + 2 ≤ D)) (R : isM s wi 1 288 R1) (Hf : isM s wi 1 299 (fun _ => (1, 2))) (X : isM s wi 2 A x) (hQ : ∀ (s1 : Nat → fr) (w1 b : Int32), rtM s wi 344 D 2 (nrt1 R1 x) s1 w1 b → Q (.inl (some (.int b))) (wP pre (wN (PP s1) (QQ s1) op oq tr dp w1 fa ob st of F))) : mm_call mm_Tb (d + 7) 71 [.ref 10, .int (nI D), .int (nI A)] (wP pre (wN (PP s) (QQ s) op oq tr dp wi fa ob st of F)) Q := by
  have S0 := ms_0 (Z := fun k => (300 ≤ k ∧ k < 344) ∨ (D ≤ k ∧ k < D + 2)) hV hz
  have F0 : wi = 1 → wi = 0 → rrtS 1 nmul0 ninv0 nsg0 (nsg1 R1) nrt0 R1 x = none := fun h1 h0 => absurd (h1.symm.trans h0) z10
  refine mm_in mt_71 (Nat.le_of_ble_eq_true rfl) ?_
  show mm_W _ _ _ _ _ _ _ (0, [(0, .ref 10), (1, .int (nI D)), (2, .int (nI A))], [], wP pre (wN (PP s) (QQ s) op oq tr dp wi fa ob st of F), 0)
  refine mm_skip (mm_call_mono _ _) 5 (st' := (7, [(0, .ref 10), (1, .int (nI D)), (2, .int (nI A))], [.int ((nI A) + 1), .ref 11], wP pre (wN (PP s) (QQ s) op oq tr dp wi fa ob st of F), 0)) rfl ?_
  rw [nI_p1 (A)]
  show mm_W _ _ _ _ _ _ _ (7, [(0, .ref 10), (1, .int (nI D)), (2, .int (nI A))], [.int (nI (A + 1)), .ref 11], wP pre (wN (PP s) (QQ s) op oq tr dp wi fa ob st of F), 0)
  refine mm_need (mm_call_mono _ _) (c := vp_in (nI (A + 1)) 480) (s' := (8, [(0, .ref 10), (1, .int (nI D)), (2, .int (nI A))], [.long ((PP s) (Int32.toNatClampNeg (nI (A + 1))))], wP pre (wN (PP s) (QQ s) op oq tr dp wi fa ob st of F), 0)) rfl (vp_in_nI (show (A + 1) < 480 by omega) (by decide)) ?_
  rw [nI_clamp (show (A + 1) < 2 ^ 31 by omega)]
  show mm_W _ _ _ _ _ _ _ (8, [(0, .ref 10), (1, .int (nI D)), (2, .int (nI A))], [.long ((PP s) (A + 1))], wP pre (wN (PP s) (QQ s) op oq tr dp wi fa ob st of F), 0)
  refine mm_skip (mm_call_mono _ _) 2 (st' := (10, [(0, .ref 10), (1, .int (nI D)), (2, .int (nI A))], [.int (lg_cmp ((PP s) (A + 1)) 0)], wP pre (wN (PP s) (QQ s) op oq tr dp wi fa ob st of F), 0)) rfl ?_
  refine mm_branch (mm_call_mono _ _) (c := (lg_cmp ((PP s) (A + 1)) 0) = 0) (s1 := (13, [(0, .ref 10), (1, .int (nI D)), (2, .int (nI A))], [], wP pre (wN (PP s) (QQ s) op oq tr dp wi fa ob st of F), 0)) (s2 := (116, [(0, .ref 10), (1, .int (nI D)), (2, .int (nI A))], [], wP pre (wN (PP s) (QQ s) op oq tr dp wi fa ob st of F), 0)) rfl (fun g1 => ?_) (fun g1 => ?_)
  · have E0 : wi = 0 → rrtS 1 nmul0 ninv0 nsg0 (nsg1 R1) nrt0 R1 x = Option.bind (nrt0 x) _ := fun h0 => if_pos (fun j hj => by rw [show j = 0 by omega]; show (x 1).1 = 0; rw [← X h0 1 (by omega)]; exact (cz hV).mp g1)
    refine mm_skip (mm_call_mono _ _) 3 (st' := (18, [(0, .ref 10), (1, .int (nI D)), (2, .int (nI A))], [.int (nI A), .int 336, .ref 10], wP pre (wN (PP s) (QQ s) op oq tr dp wi fa ob st of F), 0)) rfl ?_
    refine mm_inv (mm_call_mono _ _) (j := 57) (a := [.ref 10, .int 336, .int (nI A)]) (M := wP pre (wN (PP s) (QQ s) op oq tr dp wi fa ob st of F)) (u := 0) rfl (by decide) (rm_root0 (D := 336) (A := A) hV hz (by omega) (by omega) (m_lo X (by omega)) (fun s1 w1 b1 h1 => ?_))
    show mm_W _ _ _ _ _ _ _ (21, [(0, .ref 10), (1, .int (nI D)), (2, .int (nI A))], [.int b1], wP pre (wN (PP s1) (QQ s1) op oq tr dp w1 fa ob st of F), 0)
    have V1 := h1.1
    have z1 := h1.2.1
    have S1 := ms_r S0 h1 (fun k => by omega)
    have F1 := m_Fr S0 F0 E0 h1
    have R_1 := m_kr R h1 (by omega)
    have Hf_1 := m_kr Hf h1 (by omega)
    have X_1 := m_kr X h1 (by omega)
    have W1_1 := pd_M (s := s1) (w := w1) (m := 1) (d := 336) (by decide)
    refine mm_branch (mm_call_mono _ _) (c := b1 = 0) (s1 := (53, [(0, .ref 10), (1, .int (nI D)), (2, .int (nI A))], [], wP pre (wN (PP s1) (QQ s1) op oq tr dp w1 fa ob st of F), 0)) (s2 := (24, [(0, .ref 10), (1, .int (nI D)), (2, .int (nI A))], [], wP pre (wN (PP s1) (QQ s1) op oq tr dp w1 fa ob st of F), 0)) rfl (fun g2 => ?_) (fun g2 => ?_)
    · skip
      have E1 := m_Er0 E0 h1 g2
      refine mm_skip (mm_call_mono _ _) 3 (st' := (60, [(0, .ref 10), (1, .int (nI D)), (2, .int (nI A))], [.int 288, .int 336, .ref 10], wP pre (wN (PP s1) (QQ s1) op oq tr dp w1 fa ob st of F), 0)) rfl ?_
      refine mm_inv (mm_call_mono _ _) (j := 54) (a := [.ref 10, .int 336, .int 288]) (M := wP pre (wN (PP s1) (QQ s1) op oq tr dp w1 fa ob st of F)) (u := 0) rfl (by decide) (rm_inv0 (D := 336) (A := 288) V1 z1 (by omega) (by omega) R_1 (fun s2 w2 h2 => ?_))
      show mm_W _ _ _ _ _ _ _ (63, [(0, .ref 10), (1, .int (nI D)), (2, .int (nI A))], [], wP pre (wN (PP s2) (QQ s2) op oq tr dp w2 fa ob st of F), 0)
      have V2 := h2.1
      have z2 := h2.2.1
      have S2 := ms_s S1 h2 (fun k => by omega)
      have F2 := m_F S1 F1 E1 h2
      have E2 := m_E E1 h2
      have R_2 := m_k R_1 h2 (by omega)
      have Hf_2 := m_k Hf_1 h2 (by omega)
      have X_2 := m_k X_1 h2 (by omega)
      have W2_2 := m_new h2 (by decide)
      refine mm_skip (mm_call_mono _ _) 4 (st' := (71, [(0, .ref 10), (1, .int (nI D)), (2, .int (nI A))], [.int 336, .int (nI A), .int 336, .ref 10], wP pre (wN (PP s2) (QQ s2) op oq tr dp w2 fa ob st of F), 0)) rfl ?_
      refine mm_inv (mm_call_mono _ _) (j := 52) (a := [.ref 10, .int 336, .int (nI A), .int 336]) (M := wP pre (wN (PP s2) (QQ s2) op oq tr dp w2 fa ob st of F)) (u := 0) rfl (by decide) (rm_mul0 (D := 336) (A := A) (B := 336) V2 z2 (by omega) (by omega) (by omega) (m_lo X_2 (by omega)) W2_2 (fun s3 w3 h3 => ?_))
      show mm_W _ _ _ _ _ _ _ (74, [(0, .ref 10), (1, .int (nI D)), (2, .int (nI A))], [], wP pre (wN (PP s3) (QQ s3) op oq tr dp w3 fa ob st of F), 0)
      have V3 := h3.1
      have z3 := h3.2.1
      have S3 := ms_s S2 h3 (fun k => by omega)
      have F3 := m_F S2 F2 E2 h3
      have E3 := m_E E2 h3
      have R_3 := m_k R_2 h3 (by omega)
      have Hf_3 := m_k Hf_2 h3 (by omega)
      have X_3 := m_k X_2 h3 (by omega)
      have W3_3 := m_new h3 (by decide)
      refine mm_skip (mm_call_mono _ _) 3 (st' := (81, [(0, .ref 10), (1, .int (nI D)), (2, .int (nI A))], [.int 336, .int 336, .ref 10], wP pre (wN (PP s3) (QQ s3) op oq tr dp w3 fa ob st of F), 0)) rfl ?_
      refine mm_inv (mm_call_mono _ _) (j := 57) (a := [.ref 10, .int 336, .int 336]) (M := wP pre (wN (PP s3) (QQ s3) op oq tr dp w3 fa ob st of F)) (u := 0) rfl (by decide) (rm_root0 (D := 336) (A := 336) V3 z3 (by omega) (by omega) W3_3 (fun s4 w4 b4 h4 => ?_))
      show mm_W _ _ _ _ _ _ _ (84, [(0, .ref 10), (1, .int (nI D)), (2, .int (nI A))], [.int b4], wP pre (wN (PP s4) (QQ s4) op oq tr dp w4 fa ob st of F), 0)
      have V4 := h4.1
      have z4 := h4.2.1
      have S4 := ms_r S3 h4 (fun k => by omega)
      have F4 := m_Fr S3 F3 E3 h4
      have R_4 := m_kr R_3 h4 (by omega)
      have Hf_4 := m_kr Hf_3 h4 (by omega)
      have X_4 := m_kr X_3 h4 (by omega)
      have W4_4 := pd_M (s := s4) (w := w4) (m := 1) (d := 336) (by decide)
      refine mm_skip (mm_call_mono _ _) 2 (st' := (86, [(3, .int b4), (0, .ref 10), (1, .int (nI D)), (2, .int (nI A))], [.int b4], wP pre (wN (PP s4) (QQ s4) op oq tr dp w4 fa ob st of F), 0)) rfl ?_
      refine mm_branch (mm_call_mono _ _) (c := b4 = 0) (s1 := (114, [(3, .int b4), (0, .ref 10), (1, .int (nI D)), (2, .int (nI A))], [], wP pre (wN (PP s4) (QQ s4) op oq tr dp w4 fa ob st of F), 0)) (s2 := (89, [(3, .int b4), (0, .ref 10), (1, .int (nI D)), (2, .int (nI A))], [], wP pre (wN (PP s4) (QQ s4) op oq tr dp w4 fa ob st of F), 0)) rfl (fun g3 => ?_) (fun g3 => ?_)
      · skip
        have E4 := m_Er0 E3 h4 g3
        show mm_W _ _ _ _ _ _ _ (114, [(3, .int b4), (0, .ref 10), (1, .int (nI D)), (2, .int (nI A))], [], wP pre (wN (PP s4) (QQ s4) op oq tr dp w4 fa ob st of F), 0)
        refine mm_skip (mm_call_mono _ _) 1 (st' := (115, [(3, .int b4), (0, .ref 10), (1, .int (nI D)), (2, .int (nI A))], [.int b4], wP pre (wN (PP s4) (QQ s4) op oq tr dp w4 fa ob st of F), 0)) rfl ?_
        exact mm_ret (mm_call_mono _ _) (c := mm_z b4) (r := .inl (some (.int b4))) (M := wP pre (wN (PP s4) (QQ s4) op oq tr dp w4 fa ob st of F)) (u := 0) rfl h4.2.2.2.2.1 (by decide) (by have e9 := rt_f0 (U := 344) (d := D) (m := 2) S4 (fun k => id) E4 F4; rw [rrt_eq] at e9; rw [show b4 = 0 from g3]; exact hQ _ _ _ e9)
      · skip
        have E4 := m_Er1 E3 h4 g3
        refine mm_skip (mm_call_mono _ _) 6 (st' := (97, [(3, .int b4), (0, .ref 10), (1, .int (nI D)), (2, .int (nI A))], [.int 1, .int 336, .int ((nI D) + 1), .ref 10], wP pre (wN (PP s4) (QQ s4) op oq tr dp w4 fa ob st of F), 0)) rfl ?_
        rw [nI_p1 (D)]
        show mm_W _ _ _ _ _ _ _ (97, [(3, .int b4), (0, .ref 10), (1, .int (nI D)), (2, .int (nI A))], [.int 1, .int 336, .int (nI (D + 1)), .ref 10], wP pre (wN (PP s4) (QQ s4) op oq tr dp w4 fa ob st of F), 0)
        refine mm_inv (mm_call_mono _ _) (j := 58) (a := [.ref 10, .int (nI (D + 1)), .int 336, .int 1]) (M := wP pre (wN (PP s4) (QQ s4) op oq tr dp w4 fa ob st of F)) (u := 0) rfl (by decide) (rm_set_1 (D := (D + 1)) (A := 336) V4 z4 (by omega) W4_4 (fun s5 w5 h5 => ?_))
        show mm_W _ _ _ _ _ _ _ (100, [(3, .int b4), (0, .ref 10), (1, .int (nI D)), (2, .int (nI A))], [], wP pre (wN (PP s5) (QQ s5) op oq tr dp w5 fa ob st of F), 0)
        have V5 := h5.1
        have z5 := h5.2.1
        obtain ⟨q5, r5, W5_5⟩ := mR_set z4 h5 (by decide)
        have S5 := ms_s S4 h5 (fun k => by omega)
        have F5 := fun h9 h0 => F4 (r5 h9) h0
        have E5 := fun h0 => E4 (q5 h0)
        have R_5 := m_k R_4 h5 (by omega)
        have Hf_5 := m_k Hf_4 h5 (by omega)
        have X_5 := m_k X_4 h5 (by omega)
        refine mm_skip (mm_call_mono _ _) 4 (st' := (106, [(3, .int b4), (0, .ref 10), (1, .int (nI D)), (2, .int (nI A))], [.long 0, .int (nI D), .ref 11], wP pre (wN (PP s5) (QQ s5) op oq tr dp w5 fa ob st of F), 0)) rfl ?_
        refine mm_need (mm_call_mono _ _) (c := vp_in (nI D) 480) (s' := (107, [(3, .int b4), (0, .ref 10), (1, .int (nI D)), (2, .int (nI A))], [], wP pre (wN (vp_updL (PP s5) (Int32.toNatClampNeg (nI D)) 0) (QQ s5) op oq tr dp w5 fa ob st of F), 0)) rfl (vp_in_nI (show D < 480 by omega) (by decide)) ?_
        rw [nI_clamp (show D < 2 ^ 31 by omega)]
        show mm_W _ _ _ _ _ _ _ (107, [(3, .int b4), (0, .ref 10), (1, .int (nI D)), (2, .int (nI A))], [], wP pre (wN (vp_updL (PP s5) D 0) (QQ s5) op oq tr dp w5 fa ob st of F), 0)
        refine mm_skip (mm_call_mono _ _) 4 (st' := (113, [(3, .int b4), (0, .ref 10), (1, .int (nI D)), (2, .int (nI A))], [.long 1, .int (nI D), .ref 12], wP pre (wN (vp_updL (PP s5) D 0) (QQ s5) op oq tr dp w5 fa ob st of F), 0)) rfl ?_
        refine mm_need (mm_call_mono _ _) (c := vp_in (nI D) 480) (s' := (114, [(3, .int b4), (0, .ref 10), (1, .int (nI D)), (2, .int (nI A))], [], wP pre (wN (vp_updL (PP s5) D 0) (vp_updL (QQ s5) (Int32.toNatClampNeg (nI D)) 1) op oq tr dp w5 fa ob st of F), 0)) rfl (vp_in_nI (show D < 480 by omega) (by decide)) ?_
        rw [nI_clamp (show D < 2 ^ 31 by omega)]
        show mm_W _ _ _ _ _ _ _ (114, [(3, .int b4), (0, .ref 10), (1, .int (nI D)), (2, .int (nI A))], [], wP pre (wN (vp_updL (PP s5) D 0) (vp_updL (QQ s5) D 1) op oq tr dp w5 fa ob st of F), 0)
        rw [pz_v, qz_v]
        show mm_W _ _ _ _ _ _ _ (114, [(3, .int b4), (0, .ref 10), (1, .int (nI D)), (2, .int (nI A))], [], wP pre (wN (PP (up s5 D z0)) (QQ (up s5 D z0)) op oq tr dp w5 fa ob st of F), 0)
        refine mm_skip (mm_call_mono _ _) 1 (st' := (115, [(3, .int b4), (0, .ref 10), (1, .int (nI D)), (2, .int (nI A))], [.int b4], wP pre (wN (PP (up s5 D z0)) (QQ (up s5 D z0)) op oq tr dp w5 fa ob st of F), 0)) rfl ?_
        exact mm_ret (mm_call_mono _ _) (c := mm_z b4) (r := .inl (some (.int b4))) (M := wP pre (wN (PP (up s5 D z0)) (QQ (up s5 D z0)) op oq tr dp w5 fa ob st of F)) (u := 0) rfl h4.2.2.2.2.1 (by decide) (by have e9 := rt_f1 (U := 344) (d := D) (m := 2) (ms_up S5 (by omega)) (fun k => id) E5 F5 (fun h0 => zj_1 W5_5 h0); rw [rrt_eq] at e9; rw [show b4 = 1 from mm_z1 h4.2.2.2.2.1 g3]; exact hQ _ _ _ e9)
    · skip
      have E1 := m_Er1 E0 h1 g2
      refine mm_skip (mm_call_mono _ _) 4 (st' := (30, [(0, .ref 10), (1, .int (nI D)), (2, .int (nI A))], [.int 1, .int 336, .int (nI D), .ref 10], wP pre (wN (PP s1) (QQ s1) op oq tr dp w1 fa ob st of F), 0)) rfl ?_
      refine mm_inv (mm_call_mono _ _) (j := 58) (a := [.ref 10, .int (nI D), .int 336, .int 1]) (M := wP pre (wN (PP s1) (QQ s1) op oq tr dp w1 fa ob st of F)) (u := 0) rfl (by decide) (rm_set_1 (D := D) (A := 336) V1 z1 (by omega) W1_1 (fun s6 w6 h6 => ?_))
      show mm_W _ _ _ _ _ _ _ (33, [(0, .ref 10), (1, .int (nI D)), (2, .int (nI A))], [], wP pre (wN (PP s6) (QQ s6) op oq tr dp w6 fa ob st of F), 0)
      have V6 := h6.1
      have z6 := h6.2.1
      obtain ⟨q6, r6, W6_6⟩ := mR_set z1 h6 (by decide)
      have S6 := ms_s S1 h6 (fun k => by omega)
      have F6 := fun h9 h0 => F1 (r6 h9) h0
      have E6 := fun h0 => E1 (q6 h0)
      have R_6 := m_k R_1 h6 (by omega)
      have Hf_6 := m_k Hf_1 h6 (by omega)
      have X_6 := m_k X_1 h6 (by omega)
      refine mm_skip (mm_call_mono _ _) 6 (st' := (41, [(0, .ref 10), (1, .int (nI D)), (2, .int (nI A))], [.long 0, .int ((nI D) + 1), .ref 11], wP pre (wN (PP s6) (QQ s6) op oq tr dp w6 fa ob st of F), 0)) rfl ?_
      rw [nI_p1 (D)]
      show mm_W _ _ _ _ _ _ _ (41, [(0, .ref 10), (1, .int (nI D)), (2, .int (nI A))], [.long 0, .int (nI (D + 1)), .ref 11], wP pre (wN (PP s6) (QQ s6) op oq tr dp w6 fa ob st of F), 0)
      refine mm_need (mm_call_mono _ _) (c := vp_in (nI (D + 1)) 480) (s' := (42, [(0, .ref 10), (1, .int (nI D)), (2, .int (nI A))], [], wP pre (wN (vp_updL (PP s6) (Int32.toNatClampNeg (nI (D + 1))) 0) (QQ s6) op oq tr dp w6 fa ob st of F), 0)) rfl (vp_in_nI (show (D + 1) < 480 by omega) (by decide)) ?_
      rw [nI_clamp (show (D + 1) < 2 ^ 31 by omega)]
      show mm_W _ _ _ _ _ _ _ (42, [(0, .ref 10), (1, .int (nI D)), (2, .int (nI A))], [], wP pre (wN (vp_updL (PP s6) (D + 1) 0) (QQ s6) op oq tr dp w6 fa ob st of F), 0)
      refine mm_skip (mm_call_mono _ _) 6 (st' := (50, [(0, .ref 10), (1, .int (nI D)), (2, .int (nI A))], [.long 1, .int ((nI D) + 1), .ref 12], wP pre (wN (vp_updL (PP s6) (D + 1) 0) (QQ s6) op oq tr dp w6 fa ob st of F), 0)) rfl ?_
      rw [nI_p1 (D)]
      show mm_W _ _ _ _ _ _ _ (50, [(0, .ref 10), (1, .int (nI D)), (2, .int (nI A))], [.long 1, .int (nI (D + 1)), .ref 12], wP pre (wN (vp_updL (PP s6) (D + 1) 0) (QQ s6) op oq tr dp w6 fa ob st of F), 0)
      refine mm_need (mm_call_mono _ _) (c := vp_in (nI (D + 1)) 480) (s' := (51, [(0, .ref 10), (1, .int (nI D)), (2, .int (nI A))], [], wP pre (wN (vp_updL (PP s6) (D + 1) 0) (vp_updL (QQ s6) (Int32.toNatClampNeg (nI (D + 1))) 1) op oq tr dp w6 fa ob st of F), 0)) rfl (vp_in_nI (show (D + 1) < 480 by omega) (by decide)) ?_
      rw [nI_clamp (show (D + 1) < 2 ^ 31 by omega)]
      show mm_W _ _ _ _ _ _ _ (51, [(0, .ref 10), (1, .int (nI D)), (2, .int (nI A))], [], wP pre (wN (vp_updL (PP s6) (D + 1) 0) (vp_updL (QQ s6) (D + 1) 1) op oq tr dp w6 fa ob st of F), 0)
      rw [pz_v, qz_v]
      show mm_W _ _ _ _ _ _ _ (51, [(0, .ref 10), (1, .int (nI D)), (2, .int (nI A))], [], wP pre (wN (PP (up s6 (D + 1) z0)) (QQ (up s6 (D + 1) z0)) op oq tr dp w6 fa ob st of F), 0)
      refine mm_skip (mm_call_mono _ _) 1 (st' := (52, [(0, .ref 10), (1, .int (nI D)), (2, .int (nI A))], [.int 1], wP pre (wN (PP (up s6 (D + 1) z0)) (QQ (up s6 (D + 1) z0)) op oq tr dp w6 fa ob st of F), 0)) rfl ?_
      exact mm_ret (mm_call_mono _ _) (c := mm_z 1) (r := .inl (some (.int 1))) (M := wP pre (wN (PP (up s6 (D + 1) z0)) (QQ (up s6 (D + 1) z0)) op oq tr dp w6 fa ob st of F)) (u := 0) rfl (by unfold mm_z; decide) (by decide) (hQ _ _ _ (by have e9 := rt_f1 (U := 344) (d := D) (m := 2) (ms_up S6 (by omega)) (fun k => id) E6 F6 (fun h0 => jz_1 W6_6 h0); rw [rrt_eq] at e9; exact e9))
  · have E0 : wi = 0 → rrtS 1 nmul0 ninv0 nsg0 (nsg1 R1) nrt0 R1 x = Option.bind (rnorm 1 nmul0 R1 x) _ := fun h0 => if_neg (fun q => g1 ((cz hV).mpr (by rw [X h0 1 (by omega)]; exact q 0 (by omega))))
    refine mm_skip (mm_call_mono _ _) 3 (st' := (121, [(0, .ref 10), (1, .int (nI D)), (2, .int (nI A))], [.int (nI A), .int 336, .ref 10], wP pre (wN (PP s) (QQ s) op oq tr dp wi fa ob st of F), 0)) rfl ?_
    refine mm_inv (mm_call_mono _ _) (j := 67) (a := [.ref 10, .int 336, .int (nI A)]) (M := wP pre (wN (PP s) (QQ s) op oq tr dp wi fa ob st of F)) (u := 0) rfl (by decide) (rm_norm1 (D := 336) (A := A) hV hz (by omega) R X (fun s7 w7 h7 => ?_))
    show mm_W _ _ _ _ _ _ _ (124, [(0, .ref 10), (1, .int (nI D)), (2, .int (nI A))], [], wP pre (wN (PP s7) (QQ s7) op oq tr dp w7 fa ob st of F), 0)
    have V7 := h7.1
    have z7 := h7.2.1
    have S7 := ms_s S0 h7 (fun k => by omega)
    have F7 := m_F S0 F0 E0 h7
    have E7 := m_E E0 h7
    have R_7 := m_k R h7 (by omega)
    have Hf_7 := m_k Hf h7 (by omega)
    have X_7 := m_k X h7 (by omega)
    have W7_7 := m_new h7 (by decide)
    refine mm_skip (mm_call_mono _ _) 2 (st' := (128, [(0, .ref 10), (1, .int (nI D)), (2, .int (nI A))], [.int 336, .ref 10], wP pre (wN (PP s7) (QQ s7) op oq tr dp w7 fa ob st of F), 0)) rfl ?_
    refine mm_inv (mm_call_mono _ _) (j := 55) (a := [.ref 10, .int 336]) (M := wP pre (wN (PP s7) (QQ s7) op oq tr dp w7 fa ob st of F)) (u := 0) rfl (by decide) (rm_sign0 (A := 336) V7 z7 (by omega) W7_7 (fun s8 w8 v8 h8 => ?_))
    show mm_W _ _ _ _ _ _ _ (131, [(0, .ref 10), (1, .int (nI D)), (2, .int (nI A))], [.int v8], wP pre (wN (PP s8) (QQ s8) op oq tr dp w8 fa ob st of F), 0)
    have V8 := h8.1
    have z8 := h8.2.1
    have S8 := ms_g S7 h8 (fun k => by omega)
    have F8 := m_Fg S7 F7 E7 h8
    have E8 := m_Eg E7 h8
    have R_8 := m_kg R_7 h8 (by omega)
    have Hf_8 := m_kg Hf_7 h8 (by omega)
    have X_8 := m_kg X_7 h8 (by omega)
    have W7_8 := m_kg W7_7 h8 (by omega)
    refine mm_branch (mm_call_mono _ _) (c := v8 < 0) (s1 := (147, [(0, .ref 10), (1, .int (nI D)), (2, .int (nI A))], [], wP pre (wN (PP s8) (QQ s8) op oq tr dp w8 fa ob st of F), 0)) (s2 := (134, [(0, .ref 10), (1, .int (nI D)), (2, .int (nI A))], [], wP pre (wN (PP s8) (QQ s8) op oq tr dp w8 fa ob st of F), 0)) rfl (fun g5 => ?_) (fun g5 => ?_)
    · skip
      refine mm_skip (mm_call_mono _ _) 1 (st' := (148, [(0, .ref 10), (1, .int (nI D)), (2, .int (nI A))], [.int 0], wP pre (wN (PP s8) (QQ s8) op oq tr dp w8 fa ob st of F), 0)) rfl ?_
      exact mm_ret (mm_call_mono _ _) (c := mm_z 0) (r := .inl (some (.int 0))) (M := wP pre (wN (PP s8) (QQ s8) op oq tr dp w8 fa ob st of F)) (u := 0) rfl (by unfold mm_z; decide) (by decide) (hQ _ _ _ (by have e9 := rt_f0 (U := 344) (d := D) (m := 2) S8 (fun k => id) (fun h0 => (E8 h0).trans (if_pos (i32_l0 g5))) F8; rw [rrt_eq] at e9; exact e9))
    · skip
      have E8 := fun h0 => (E8 h0).trans (if_neg (i32_n0 g5))
      refine mm_skip (mm_call_mono _ _) 3 (st' := (141, [(0, .ref 10), (1, .int (nI D)), (2, .int (nI A))], [.int 336, .int 336, .ref 10], wP pre (wN (PP s8) (QQ s8) op oq tr dp w8 fa ob st of F), 0)) rfl ?_
      refine mm_inv (mm_call_mono _ _) (j := 57) (a := [.ref 10, .int 336, .int 336]) (M := wP pre (wN (PP s8) (QQ s8) op oq tr dp w8 fa ob st of F)) (u := 0) rfl (by decide) (rm_root0 (D := 336) (A := 336) V8 z8 (by omega) (by omega) W7_8 (fun s9 w9 b9 h9 => ?_))
      show mm_W _ _ _ _ _ _ _ (144, [(0, .ref 10), (1, .int (nI D)), (2, .int (nI A))], [.int b9], wP pre (wN (PP s9) (QQ s9) op oq tr dp w9 fa ob st of F), 0)
      have V9 := h9.1
      have z9 := h9.2.1
      have S9 := ms_r S8 h9 (fun k => by omega)
      have F9 := m_Fr S8 F8 E8 h9
      have R_9 := m_kr R_8 h9 (by omega)
      have Hf_9 := m_kr Hf_8 h9 (by omega)
      have X_9 := m_kr X_8 h9 (by omega)
      have W9_9 := pd_M (s := s9) (w := w9) (m := 1) (d := 336) (by decide)
      refine mm_branch (mm_call_mono _ _) (c := b9 = 0) (s1 := (147, [(0, .ref 10), (1, .int (nI D)), (2, .int (nI A))], [], wP pre (wN (PP s9) (QQ s9) op oq tr dp w9 fa ob st of F), 0)) (s2 := (149, [(0, .ref 10), (1, .int (nI D)), (2, .int (nI A))], [], wP pre (wN (PP s9) (QQ s9) op oq tr dp w9 fa ob st of F), 0)) rfl (fun g6 => ?_) (fun g6 => ?_)
      · skip
        have E9 := m_Er0 E8 h9 g6
        refine mm_skip (mm_call_mono _ _) 1 (st' := (148, [(0, .ref 10), (1, .int (nI D)), (2, .int (nI A))], [.int 0], wP pre (wN (PP s9) (QQ s9) op oq tr dp w9 fa ob st of F), 0)) rfl ?_
        exact mm_ret (mm_call_mono _ _) (c := mm_z 0) (r := .inl (some (.int 0))) (M := wP pre (wN (PP s9) (QQ s9) op oq tr dp w9 fa ob st of F)) (u := 0) rfl (by unfold mm_z; decide) (by decide) (hQ _ _ _ (by have e9 := rt_f0 (U := 344) (d := D) (m := 2) S9 (fun k => id) E9 F9; rw [rrt_eq] at e9; exact e9))
      · skip
        have E9 := m_Er1 E8 h9 g6
        refine mm_skip (mm_call_mono _ _) 5 (st' := (156, [(0, .ref 10), (1, .int (nI D)), (2, .int (nI A))], [.int 0, .int 336, .int (nI A), .int (nI D), .ref 10], wP pre (wN (PP s9) (QQ s9) op oq tr dp w9 fa ob st of F), 0)) rfl ?_
        refine mm_inv (mm_call_mono _ _) (j := 70) (a := [.ref 10, .int (nI D), .int (nI A), .int 336, .int 0]) (M := wP pre (wN (PP s9) (QQ s9) op oq tr dp w9 fa ob st of F)) (u := 0) rfl (by decide) (rm_half1_0 (D := D) (A := A) V9 z9 (by omega) R_9 Hf_9 X_9 W9_9 (fun s10 w10 b10 h10 N10 => ?_))
        show mm_W _ _ _ _ _ _ _ (159, [(0, .ref 10), (1, .int (nI D)), (2, .int (nI A))], [.int b10], wP pre (wN (PP s10) (QQ s10) op oq tr dp w10 fa ob st of F), 0)
        have V10 := h10.1
        have z10 := h10.2.1
        have S10 := ms_r S9 h10 (fun k => by omega)
        have F10 := m_Fr S9 F9 E9 h10
        have R_10 := m_kr R_9 h10 (by omega)
        have Hf_10 := m_kr Hf_9 h10 (by omega)
        have X_10 := m_kr X_9 h10 (by omega)
        have W10_10 := pd_M (s := s10) (w := w10) (m := 2) (d := D) (by decide)
        refine mm_branch (mm_call_mono _ _) (c := b10 = 0) (s1 := (162, [(0, .ref 10), (1, .int (nI D)), (2, .int (nI A))], [], wP pre (wN (PP s10) (QQ s10) op oq tr dp w10 fa ob st of F), 0)) (s2 := (175, [(0, .ref 10), (1, .int (nI D)), (2, .int (nI A))], [], wP pre (wN (PP s10) (QQ s10) op oq tr dp w10 fa ob st of F), 0)) rfl (fun g7 => ?_) (fun g7 => ?_)
        · skip
          have E10 := m_Er0 E9 h10 g7
          refine mm_skip (mm_call_mono _ _) 5 (st' := (169, [(0, .ref 10), (1, .int (nI D)), (2, .int (nI A))], [.int 1, .int 336, .int (nI A), .int (nI D), .ref 10], wP pre (wN (PP s10) (QQ s10) op oq tr dp w10 fa ob st of F), 0)) rfl ?_
          refine mm_inv (mm_call_mono _ _) (j := 70) (a := [.ref 10, .int (nI D), .int (nI A), .int 336, .int 1]) (M := wP pre (wN (PP s10) (QQ s10) op oq tr dp w10 fa ob st of F)) (u := 0) rfl (by decide) (rm_half1_1 (D := D) (A := A) V10 z10 (by omega) R_10 Hf_10 X_10 N10 (fun s11 w11 b11 h11 N11 => ?_))
          show mm_W _ _ _ _ _ _ _ (172, [(0, .ref 10), (1, .int (nI D)), (2, .int (nI A))], [.int b11], wP pre (wN (PP s11) (QQ s11) op oq tr dp w11 fa ob st of F), 0)
          have E10 := bo (Y := Unit) E10
          have V11 := h11.1
          have z11 := h11.2.1
          have S11 := ms_r S10 h11 (fun k => by omega)
          have F11 := m_Fr S10 F10 E10 h11
          have W11_11 := pd_M (s := s11) (w := w11) (m := 2) (d := D) (by decide)
          refine mm_branch (mm_call_mono _ _) (c := b11 = 0) (s1 := (179, [(0, .ref 10), (1, .int (nI D)), (2, .int (nI A))], [], wP pre (wN (PP s11) (QQ s11) op oq tr dp w11 fa ob st of F), 0)) (s2 := (175, [(0, .ref 10), (1, .int (nI D)), (2, .int (nI A))], [], wP pre (wN (PP s11) (QQ s11) op oq tr dp w11 fa ob st of F), 0)) rfl (fun g8 => ?_) (fun g8 => ?_)
          · skip
            have E11 := m_Er0 E10 h11 g8
            refine mm_skip (mm_call_mono _ _) 1 (st' := (180, [(0, .ref 10), (1, .int (nI D)), (2, .int (nI A))], [.int 0], wP pre (wN (PP s11) (QQ s11) op oq tr dp w11 fa ob st of F), 0)) rfl ?_
            exact mm_ret (mm_call_mono _ _) (c := mm_z 0) (r := .inl (some (.int 0))) (M := wP pre (wN (PP s11) (QQ s11) op oq tr dp w11 fa ob st of F)) (u := 0) rfl (by unfold mm_z; decide) (by decide) (hQ _ _ _ (by have e9 := rt_f0 (U := 344) (d := D) (m := 2) S11 (fun k => id) E11 F11; rw [rrt_eq] at e9; exact e9))
          · skip
            have E11 := m_Er1 E10 h11 g8
            refine mm_skip (mm_call_mono _ _) 2 (st' := (180, [(0, .ref 10), (1, .int (nI D)), (2, .int (nI A))], [.int 1], wP pre (wN (PP s11) (QQ s11) op oq tr dp w11 fa ob st of F), 0)) rfl ?_
            exact mm_ret (mm_call_mono _ _) (c := mm_z 1) (r := .inl (some (.int 1))) (M := wP pre (wN (PP s11) (QQ s11) op oq tr dp w11 fa ob st of F)) (u := 0) rfl (by unfold mm_z; decide) (by decide) (hQ _ _ _ (by have e9 := rt_f1 (U := 344) (d := D) (m := 2) S11 (fun k => id) E11 F11 (fun _ => rfl); rw [rrt_eq] at e9; exact e9))
        · skip
          have E10 := m_Er1 E9 h10 g7
          refine mm_skip (mm_call_mono _ _) 2 (st' := (180, [(0, .ref 10), (1, .int (nI D)), (2, .int (nI A))], [.int 1], wP pre (wN (PP s10) (QQ s10) op oq tr dp w10 fa ob st of F), 0)) rfl ?_
          exact mm_ret (mm_call_mono _ _) (c := mm_z 1) (r := .inl (some (.int 1))) (M := wP pre (wN (PP s10) (QQ s10) op oq tr dp w10 fa ob st of F)) (u := 0) rfl (by unfold mm_z; decide) (by decide) (hQ _ _ _ (by have e9 := rt_f1 (U := 344) (d := D) (m := 2) S10 (fun k => id) E10 F10 (fun _ => rfl); rw [rrt_eq] at e9; exact e9))

set_option maxRecDepth 100000 in
theorem rm_half2_0 {d : Nat} {pre : mm_pre} {s : Nat → fr} {op oq : Nat → Int64} {tr dp wi fa ob : Int32} {st of : Nat → Int32} {F : mm_M} {D A : Nat} {x : Nat → fr} {n : n4} {R1 R2 : Nat → fr} {Q : mm_R → mm_M → Prop} (hV : ∀ k, fv (s k)) (hz : mm_z wi) (hg : D + 4 ≤ 480 ∧ (D + 4 ≤ 288 ∨ 368 ≤ D) ∧ A + 4 ≤ 480 ∧ (A + 4 ≤ 300 ∨ 368 ≤ A) ∧ (D + 4 ≤ A ∨ A + 4 ≤ D)) (R : isM s wi 1 288 R1) (RR : isM s wi 2 289 R2) (Hf : isM s wi 1 299 (fun _ => (1, 2))) (X : isM s wi 4 A x) (N : isM s wi 2 346 (g4 n)) (hQ : ∀ (s1 : Nat → fr) (w1 b : Int32), rtM s wi 368 D 4 (hfS 2 (nmul1 R1) (ninv1 R1) (nsg1 R1) (nsg2 R1 R2) (nrt1 R1) x (nadd 2 x (g4 n))) s1 w1 b → isM s1 w1 2 346 (g4 n) → Q (.inl (some (.int b))) (wP pre (wN (PP s1) (QQ s1) op oq tr dp w1 fa ob st of F))) : mm_call mm_Tb (d + 8) 76 [.ref 10, .int (nI D), .int (nI A), .int 346, .int 0] (wP pre (wN (PP s) (QQ s) op oq tr dp wi fa ob st of F)) Q := by
  have S0 := ms_0 (Z := fun k => (300 ≤ k ∧ k < 368) ∨ (D ≤ k ∧ k < D + 4)) hV hz
  have E0 : wi = 0 → hfS 2 (nmul1 R1) (ninv1 R1) (nsg1 R1) (nsg2 R1 R2) (nrt1 R1) x (nadd 2 x (g4 n)) = Option.bind (nadd 2 x (g4 n)) _ := fun _ => rfl
  have F0 : wi = 1 → wi = 0 → hfS 2 (nmul1 R1) (ninv1 R1) (nsg1 R1) (nsg2 R1 R2) (nrt1 R1) x (nadd 2 x (g4 n)) = none := fun h1 h0 => absurd (h1.symm.trans h0) z10
  refine mm_in mt_76 (Nat.le_of_ble_eq_true rfl) ?_
  show mm_W _ _ _ _ _ _ _ (0, [(0, .ref 10), (1, .int (nI D)), (2, .int (nI A)), (3, .int 346), (4, .int 0)], [], wP pre (wN (PP s) (QQ s) op oq tr dp wi fa ob st of F), 0)
  refine mm_skip (mm_call_mono _ _) 3 (st' := (7, [(5, .int 348), (0, .ref 10), (1, .int (nI D)), (2, .int (nI A)), (3, .int 346), (4, .int 0)], [.int 0], wP pre (wN (PP s) (QQ s) op oq tr dp wi fa ob st of F), 0)) rfl ?_
  refine mm_branch (mm_call_mono _ _) (c := (0 : Int32) = 0) (s1 := (22, [(5, .int 348), (0, .ref 10), (1, .int (nI D)), (2, .int (nI A)), (3, .int 346), (4, .int 0)], [], wP pre (wN (PP s) (QQ s) op oq tr dp wi fa ob st of F), 0)) (s2 := (10, [(5, .int 348), (0, .ref 10), (1, .int (nI D)), (2, .int (nI A)), (3, .int 346), (4, .int 0)], [], wP pre (wN (PP s) (QQ s) op oq tr dp wi fa ob st of F), 0)) rfl (fun _ => ?_) (fun h => absurd (by decide) h)
  refine mm_skip (mm_call_mono _ _) 5 (st' := (28, [(5, .int 348), (0, .ref 10), (1, .int (nI D)), (2, .int (nI A)), (3, .int 346), (4, .int 0)], [.int 2, .int 346, .int (nI A), .int 348, .ref 10], wP pre (wN (PP s) (QQ s) op oq tr dp wi fa ob st of F), 0)) rfl ?_
  refine mm_inv (mm_call_mono _ _) (j := 59) (a := [.ref 10, .int 348, .int (nI A), .int 346, .int 2]) (M := wP pre (wN (PP s) (QQ s) op oq tr dp wi fa ob st of F)) (u := 0) rfl (by decide) (rm_add_2 (D := 348) (A := A) (B := 346) hV hz (by omega) (m_lo X (by omega)) N (fun s1 w1 h1 => ?_))
  show mm_W _ _ _ _ _ _ _ (31, [(5, .int 348), (0, .ref 10), (1, .int (nI D)), (2, .int (nI A)), (3, .int 346), (4, .int 0)], [], wP pre (wN (PP s1) (QQ s1) op oq tr dp w1 fa ob st of F), 0)
  have V1 := h1.1
  have z1 := h1.2.1
  have S1 := ms_s S0 h1 (fun k => by omega)
  have F1 := m_F S0 F0 E0 h1
  have E1 := m_E E0 h1
  have R_1 := m_k R h1 (by omega)
  have Hf_1 := m_k Hf h1 (by omega)
  have RR_1 := m_k RR h1 (by omega)
  have X_1 := m_k X h1 (by omega)
  have N_1 := m_k N h1 (by omega)
  have W1_1 := m_new h1 (by decide)
  refine mm_skip (mm_call_mono _ _) 4 (st' := (37, [(5, .int 348), (0, .ref 10), (1, .int (nI D)), (2, .int (nI A)), (3, .int 346), (4, .int 0)], [.int 2, .int 348, .int 348, .ref 10], wP pre (wN (PP s1) (QQ s1) op oq tr dp w1 fa ob st of F), 0)) rfl ?_
  refine mm_inv (mm_call_mono _ _) (j := 62) (a := [.ref 10, .int 348, .int 348, .int 2]) (M := wP pre (wN (PP s1) (QQ s1) op oq tr dp w1 fa ob st of F)) (u := 0) rfl (by decide) (rm_halve_2 (D := 348) (A := 348) V1 z1 (by omega) W1_1 Hf_1 (fun s2 w2 h2 => ?_))
  show mm_W _ _ _ _ _ _ _ (40, [(5, .int 348), (0, .ref 10), (1, .int (nI D)), (2, .int (nI A)), (3, .int 346), (4, .int 0)], [], wP pre (wN (PP s2) (QQ s2) op oq tr dp w2 fa ob st of F), 0)
  have V2 := h2.1
  have z2 := h2.2.1
  have S2 := ms_s S1 h2 (fun k => by omega)
  have F2 := m_F S1 F1 E1 h2
  have E2 := m_E E1 h2
  have R_2 := m_k R_1 h2 (by omega)
  have Hf_2 := m_k Hf_1 h2 (by omega)
  have RR_2 := m_k RR_1 h2 (by omega)
  have X_2 := m_k X_1 h2 (by omega)
  have N_2 := m_k N_1 h2 (by omega)
  have W2_2 := m_new h2 (by decide)
  refine mm_skip (mm_call_mono _ _) 4 (st' := (48, [(6, .int 352), (5, .int 348), (0, .ref 10), (1, .int (nI D)), (2, .int (nI A)), (3, .int 346), (4, .int 0)], [.int 348, .ref 10], wP pre (wN (PP s2) (QQ s2) op oq tr dp w2 fa ob st of F), 0)) rfl ?_
  refine mm_inv (mm_call_mono _ _) (j := 69) (a := [.ref 10, .int 348]) (M := wP pre (wN (PP s2) (QQ s2) op oq tr dp w2 fa ob st of F)) (u := 0) rfl (by decide) (rm_sign1 (A := 348) V2 z2 (by omega) R_2 W2_2 (fun s3 w3 v3 h3 => ?_))
  show mm_W _ _ _ _ _ _ _ (51, [(6, .int 352), (5, .int 348), (0, .ref 10), (1, .int (nI D)), (2, .int (nI A)), (3, .int 346), (4, .int 0)], [.int v3], wP pre (wN (PP s3) (QQ s3) op oq tr dp w3 fa ob st of F), 0)
  have V3 := h3.1
  have z3 := h3.2.1
  have S3 := ms_g S2 h3 (fun k => by omega)
  have F3 := m_Fg S2 F2 E2 h3
  have E3 := m_Eg E2 h3
  have R_3 := m_kg R_2 h3 (by omega)
  have Hf_3 := m_kg Hf_2 h3 (by omega)
  have RR_3 := m_kg RR_2 h3 (by omega)
  have X_3 := m_kg X_2 h3 (by omega)
  have N_3 := m_kg N_2 h3 (by omega)
  have W2_3 := m_kg W2_2 h3 (by omega)
  refine mm_branch (mm_call_mono _ _) (c := v3 ≤ 0) (s1 := (65, [(6, .int 352), (5, .int 348), (0, .ref 10), (1, .int (nI D)), (2, .int (nI A)), (3, .int 346), (4, .int 0)], [], wP pre (wN (PP s3) (QQ s3) op oq tr dp w3 fa ob st of F), 0)) (s2 := (54, [(6, .int 352), (5, .int 348), (0, .ref 10), (1, .int (nI D)), (2, .int (nI A)), (3, .int 346), (4, .int 0)], [], wP pre (wN (PP s3) (QQ s3) op oq tr dp w3 fa ob st of F), 0)) rfl (fun g1 => ?_) (fun g1 => ?_)
  · skip
    refine mm_skip (mm_call_mono _ _) 1 (st' := (66, [(6, .int 352), (5, .int 348), (0, .ref 10), (1, .int (nI D)), (2, .int (nI A)), (3, .int 346), (4, .int 0)], [.int 0], wP pre (wN (PP s3) (QQ s3) op oq tr dp w3 fa ob st of F), 0)) rfl ?_
    exact mm_ret (mm_call_mono _ _) (c := mm_z 0) (r := .inl (some (.int 0))) (M := wP pre (wN (PP s3) (QQ s3) op oq tr dp w3 fa ob st of F)) (u := 0) rfl (by unfold mm_z; decide) (by decide) (hQ _ _ _ (rt_f0 (U := 368) (d := D) (m := 4) S3 (fun k => id) (fun h0 => (E3 h0).trans (if_neg (i32_le g1))) F3) N_3)
  · skip
    have E3 := fun h0 => (E3 h0).trans (if_pos (i32_gt g1))
    refine mm_skip (mm_call_mono _ _) 3 (st' := (59, [(6, .int 352), (5, .int 348), (0, .ref 10), (1, .int (nI D)), (2, .int (nI A)), (3, .int 346), (4, .int 0)], [.int 348, .int 352, .ref 10], wP pre (wN (PP s3) (QQ s3) op oq tr dp w3 fa ob st of F), 0)) rfl ?_
    refine mm_inv (mm_call_mono _ _) (j := 71) (a := [.ref 10, .int 352, .int 348]) (M := wP pre (wN (PP s3) (QQ s3) op oq tr dp w3 fa ob st of F)) (u := 0) rfl (by decide) (rm_root1 (D := 352) (A := 348) V3 z3 (by omega) R_3 Hf_3 W2_3 (fun s4 w4 b4 h4 => ?_))
    show mm_W _ _ _ _ _ _ _ (62, [(6, .int 352), (5, .int 348), (0, .ref 10), (1, .int (nI D)), (2, .int (nI A)), (3, .int 346), (4, .int 0)], [.int b4], wP pre (wN (PP s4) (QQ s4) op oq tr dp w4 fa ob st of F), 0)
    have V4 := h4.1
    have z4 := h4.2.1
    have S4 := ms_r S3 h4 (fun k => by omega)
    have F4 := m_Fr S3 F3 E3 h4
    have R_4 := m_kr R_3 h4 (by omega)
    have RR_4 := m_kr RR_3 h4 (by omega)
    have X_4 := m_kr X_3 h4 (by omega)
    have N_4 := m_kr N_3 h4 (by omega)
    have W4_4 := pd_M (s := s4) (w := w4) (m := 2) (d := 352) (by decide)
    refine mm_branch (mm_call_mono _ _) (c := b4 = 0) (s1 := (65, [(6, .int 352), (5, .int 348), (0, .ref 10), (1, .int (nI D)), (2, .int (nI A)), (3, .int 346), (4, .int 0)], [], wP pre (wN (PP s4) (QQ s4) op oq tr dp w4 fa ob st of F), 0)) (s2 := (67, [(6, .int 352), (5, .int 348), (0, .ref 10), (1, .int (nI D)), (2, .int (nI A)), (3, .int 346), (4, .int 0)], [], wP pre (wN (PP s4) (QQ s4) op oq tr dp w4 fa ob st of F), 0)) rfl (fun g2 => ?_) (fun g2 => ?_)
    · skip
      have E4 := m_Er0 E3 h4 g2
      refine mm_skip (mm_call_mono _ _) 1 (st' := (66, [(6, .int 352), (5, .int 348), (0, .ref 10), (1, .int (nI D)), (2, .int (nI A)), (3, .int 346), (4, .int 0)], [.int 0], wP pre (wN (PP s4) (QQ s4) op oq tr dp w4 fa ob st of F), 0)) rfl ?_
      exact mm_ret (mm_call_mono _ _) (c := mm_z 0) (r := .inl (some (.int 0))) (M := wP pre (wN (PP s4) (QQ s4) op oq tr dp w4 fa ob st of F)) (u := 0) rfl (by unfold mm_z; decide) (by decide) (hQ _ _ _ (rt_f0 (U := 368) (d := D) (m := 4) S4 (fun k => id) E4 F4) N_4)
    · skip
      have E4 := m_Er1 E3 h4 g2
      refine mm_skip (mm_call_mono _ _) 7 (st' := (77, [(6, .int 352), (5, .int 348), (0, .ref 10), (1, .int (nI D)), (2, .int (nI A)), (3, .int 346), (4, .int 0)], [.int 2, .int 352, .int 352, .int 354, .ref 10], wP pre (wN (PP s4) (QQ s4) op oq tr dp w4 fa ob st of F), 0)) rfl ?_
      refine mm_inv (mm_call_mono _ _) (j := 59) (a := [.ref 10, .int 354, .int 352, .int 352, .int 2]) (M := wP pre (wN (PP s4) (QQ s4) op oq tr dp w4 fa ob st of F)) (u := 0) rfl (by decide) (rm_add_2 (D := 354) (A := 352) (B := 352) V4 z4 (by omega) W4_4 W4_4 (fun s5 w5 h5 => ?_))
      show mm_W _ _ _ _ _ _ _ (80, [(6, .int 352), (5, .int 348), (0, .ref 10), (1, .int (nI D)), (2, .int (nI A)), (3, .int 346), (4, .int 0)], [], wP pre (wN (PP s5) (QQ s5) op oq tr dp w5 fa ob st of F), 0)
      have V5 := h5.1
      have z5 := h5.2.1
      have S5 := ms_s S4 h5 (fun k => by omega)
      have F5 := m_F S4 F4 E4 h5
      have E5 := m_E E4 h5
      have R_5 := m_k R_4 h5 (by omega)
      have RR_5 := m_k RR_4 h5 (by omega)
      have X_5 := m_k X_4 h5 (by omega)
      have N_5 := m_k N_4 h5 (by omega)
      have W4_5 := m_k W4_4 h5 (by omega)
      have W5_5 := m_new h5 (by decide)
      refine mm_skip (mm_call_mono _ _) 7 (st' := (89, [(6, .int 352), (5, .int 348), (0, .ref 10), (1, .int (nI D)), (2, .int (nI A)), (3, .int 346), (4, .int 0)], [.int 354, .int 354, .ref 10], wP pre (wN (PP s5) (QQ s5) op oq tr dp w5 fa ob st of F), 0)) rfl ?_
      refine mm_inv (mm_call_mono _ _) (j := 68) (a := [.ref 10, .int 354, .int 354]) (M := wP pre (wN (PP s5) (QQ s5) op oq tr dp w5 fa ob st of F)) (u := 0) rfl (by decide) (rm_inv1 (D := 354) (A := 354) V5 z5 (by omega) R_5 W5_5 (fun s6 w6 h6 => ?_))
      show mm_W _ _ _ _ _ _ _ (92, [(6, .int 352), (5, .int 348), (0, .ref 10), (1, .int (nI D)), (2, .int (nI A)), (3, .int 346), (4, .int 0)], [], wP pre (wN (PP s6) (QQ s6) op oq tr dp w6 fa ob st of F), 0)
      have V6 := h6.1
      have z6 := h6.2.1
      have S6 := ms_s S5 h6 (fun k => by omega)
      have F6 := m_F S5 F5 E5 h6
      have E6 := m_E E5 h6
      have R_6 := m_k R_5 h6 (by omega)
      have RR_6 := m_k RR_5 h6 (by omega)
      have X_6 := m_k X_5 h6 (by omega)
      have N_6 := m_k N_5 h6 (by omega)
      have W4_6 := m_k W4_5 h6 (by omega)
      have W6_6 := m_new h6 (by decide)
      refine mm_skip (mm_call_mono _ _) 10 (st' := (104, [(6, .int 352), (5, .int 348), (0, .ref 10), (1, .int (nI D)), (2, .int (nI A)), (3, .int 346), (4, .int 0)], [.int 354, .int ((nI A) + 2), .int 354, .ref 10], wP pre (wN (PP s6) (QQ s6) op oq tr dp w6 fa ob st of F), 0)) rfl ?_
      rw [nI_p2 (A)]
      show mm_W _ _ _ _ _ _ _ (104, [(6, .int 352), (5, .int 348), (0, .ref 10), (1, .int (nI D)), (2, .int (nI A)), (3, .int 346), (4, .int 0)], [.int 354, .int (nI (A + 2)), .int 354, .ref 10], wP pre (wN (PP s6) (QQ s6) op oq tr dp w6 fa ob st of F), 0)
      refine mm_inv (mm_call_mono _ _) (j := 66) (a := [.ref 10, .int 354, .int (nI (A + 2)), .int 354]) (M := wP pre (wN (PP s6) (QQ s6) op oq tr dp w6 fa ob st of F)) (u := 0) rfl (by decide) (rm_mul1 (D := 354) (A := (A + 2)) (B := 354) V6 z6 (by omega) R_6 (m_hi X_6 2 (by omega)) W6_6 (fun s7 w7 h7 => ?_))
      show mm_W _ _ _ _ _ _ _ (107, [(6, .int 352), (5, .int 348), (0, .ref 10), (1, .int (nI D)), (2, .int (nI A)), (3, .int 346), (4, .int 0)], [], wP pre (wN (PP s7) (QQ s7) op oq tr dp w7 fa ob st of F), 0)
      have V7 := h7.1
      have z7 := h7.2.1
      have S7 := ms_s S6 h7 (fun k => by omega)
      have F7 := m_F S6 F6 E6 h7
      have E7 := m_E E6 h7
      have R_7 := m_k R_6 h7 (by omega)
      have RR_7 := m_k RR_6 h7 (by omega)
      have N_7 := m_k N_6 h7 (by omega)
      have W4_7 := m_k W4_6 h7 (by omega)
      have W7_7 := m_new h7 (by decide)
      refine mm_skip (mm_call_mono _ _) 2 (st' := (110, [(6, .int 352), (5, .int 348), (0, .ref 10), (1, .int (nI D)), (2, .int (nI A)), (3, .int 346), (4, .int 0)], [.int 352, .ref 10], wP pre (wN (PP s7) (QQ s7) op oq tr dp w7 fa ob st of F), 0)) rfl ?_
      refine mm_inv (mm_call_mono _ _) (j := 75) (a := [.ref 10, .int 352]) (M := wP pre (wN (PP s7) (QQ s7) op oq tr dp w7 fa ob st of F)) (u := 0) rfl (by decide) (rm_sign2 (A := 352) V7 z7 (by omega) R_7 RR_7 (m_jn2 W4_7 W7_7) (fun s8 w8 v8 h8 => ?_))
      show mm_W _ _ _ _ _ _ _ (113, [(6, .int 352), (5, .int 348), (0, .ref 10), (1, .int (nI D)), (2, .int (nI A)), (3, .int 346), (4, .int 0)], [.int v8], wP pre (wN (PP s8) (QQ s8) op oq tr dp w8 fa ob st of F), 0)
      have E7 := bs E7
      have V8 := h8.1
      have z8 := h8.2.1
      have S8 := ms_g S7 h8 (fun k => by omega)
      have F8 := m_Fg S7 F7 E7 h8
      have E8 := m_Eg E7 h8
      have N_8 := m_kg N_7 h8 (by omega)
      have W4_8 := m_kg W4_7 h8 (by omega)
      have W7_8 := m_kg W7_7 h8 (by omega)
      refine mm_skip (mm_call_mono _ _) 5 (st' := (120, [(7, .int v8), (6, .int 352), (5, .int 348), (0, .ref 10), (1, .int (nI D)), (2, .int (nI A)), (3, .int 346), (4, .int 0)], [.int 4, .int 352, .int (nI D), .ref 10], wP pre (wN (PP s8) (QQ s8) op oq tr dp w8 fa ob st of F), 0)) rfl ?_
      refine mm_inv (mm_call_mono _ _) (j := 58) (a := [.ref 10, .int (nI D), .int 352, .int 4]) (M := wP pre (wN (PP s8) (QQ s8) op oq tr dp w8 fa ob st of F)) (u := 0) rfl (by decide) (rm_set_4 (D := D) (A := 352) V8 z8 (by omega) (m_jn2 W4_8 W7_8) (fun s9 w9 h9 => ?_))
      show mm_W _ _ _ _ _ _ _ (123, [(7, .int v8), (6, .int 352), (5, .int 348), (0, .ref 10), (1, .int (nI D)), (2, .int (nI A)), (3, .int 346), (4, .int 0)], [], wP pre (wN (PP s9) (QQ s9) op oq tr dp w9 fa ob st of F), 0)
      have V9 := h9.1
      have z9 := h9.2.1
      obtain ⟨q9, r9, W9_9⟩ := mR_set z8 h9 (by decide)
      have S9 := ms_s S8 h9 (fun k => by omega)
      have F9 := fun h9 h0 => F8 (r9 h9) h0
      have E9 := fun h0 => E8 (q9 h0)
      have N_9 := m_k N_8 h9 (by omega)
      refine mm_skip (mm_call_mono _ _) 1 (st' := (125, [(7, .int v8), (6, .int 352), (5, .int 348), (0, .ref 10), (1, .int (nI D)), (2, .int (nI A)), (3, .int 346), (4, .int 0)], [.int v8], wP pre (wN (PP s9) (QQ s9) op oq tr dp w9 fa ob st of F), 0)) rfl ?_
      refine mm_branch (mm_call_mono _ _) (c := 0 ≤ v8) (s1 := (135, [(7, .int v8), (6, .int 352), (5, .int 348), (0, .ref 10), (1, .int (nI D)), (2, .int (nI A)), (3, .int 346), (4, .int 0)], [], wP pre (wN (PP s9) (QQ s9) op oq tr dp w9 fa ob st of F), 0)) (s2 := (128, [(7, .int v8), (6, .int 352), (5, .int 348), (0, .ref 10), (1, .int (nI D)), (2, .int (nI A)), (3, .int 346), (4, .int 0)], [], wP pre (wN (PP s9) (QQ s9) op oq tr dp w9 fa ob st of F), 0)) rfl (fun g3 => ?_) (fun g3 => ?_)
      · skip
        refine mm_skip (mm_call_mono _ _) 1 (st' := (136, [(7, .int v8), (6, .int 352), (5, .int 348), (0, .ref 10), (1, .int (nI D)), (2, .int (nI A)), (3, .int 346), (4, .int 0)], [.int 1], wP pre (wN (PP s9) (QQ s9) op oq tr dp w9 fa ob st of F), 0)) rfl ?_
        exact mm_ret (mm_call_mono _ _) (c := mm_z 1) (r := .inl (some (.int 1))) (M := wP pre (wN (PP s9) (QQ s9) op oq tr dp w9 fa ob st of F)) (u := 0) rfl (by unfold mm_z; decide) (by decide) (hQ _ _ _ (rt_f1 (U := 368) (d := D) (m := 4) S9 (fun k => id) (fun h0 => (E9 h0).trans (if_neg (i32_ge g3))) F9 (fun h0 => at_pd W9_9 h0 (by decide) (by rfl))) N_9)
      · skip
        have E9 := fun h0 => (E9 h0).trans (if_pos (i32_lt g3))
        refine mm_skip (mm_call_mono _ _) 4 (st' := (132, [(7, .int v8), (6, .int 352), (5, .int 348), (0, .ref 10), (1, .int (nI D)), (2, .int (nI A)), (3, .int 346), (4, .int 0)], [.int 4, .int (nI D), .int (nI D), .ref 10], wP pre (wN (PP s9) (QQ s9) op oq tr dp w9 fa ob st of F), 0)) rfl ?_
        refine mm_inv (mm_call_mono _ _) (j := 61) (a := [.ref 10, .int (nI D), .int (nI D), .int 4]) (M := wP pre (wN (PP s9) (QQ s9) op oq tr dp w9 fa ob st of F)) (u := 0) rfl (by decide) (rm_neg_4 (D := D) (A := D) V9 z9 (by omega) W9_9 (fun s10 w10 h10 => ?_))
        show mm_W _ _ _ _ _ _ _ (135, [(7, .int v8), (6, .int 352), (5, .int 348), (0, .ref 10), (1, .int (nI D)), (2, .int (nI A)), (3, .int 346), (4, .int 0)], [], wP pre (wN (PP s10) (QQ s10) op oq tr dp w10 fa ob st of F), 0)
        have V10 := h10.1
        have z10 := h10.2.1
        have S10 := ms_s S9 h10 (fun k => by omega)
        have F10 := m_F S9 F9 E9 h10
        have E10 := m_E E9 h10
        have N_10 := m_k N_9 h10 (by omega)
        have W10_10 := m_new h10 (by decide)
        refine mm_skip (mm_call_mono _ _) 1 (st' := (136, [(7, .int v8), (6, .int 352), (5, .int 348), (0, .ref 10), (1, .int (nI D)), (2, .int (nI A)), (3, .int 346), (4, .int 0)], [.int 1], wP pre (wN (PP s10) (QQ s10) op oq tr dp w10 fa ob st of F), 0)) rfl ?_
        exact mm_ret (mm_call_mono _ _) (c := mm_z 1) (r := .inl (some (.int 1))) (M := wP pre (wN (PP s10) (QQ s10) op oq tr dp w10 fa ob st of F)) (u := 0) rfl (by unfold mm_z; decide) (by decide) (hQ _ _ _ (rt_f1 (U := 368) (d := D) (m := 4) S10 (fun k => id) E10 F10 (fun h0 => at_pd W10_10 h0 (by decide) (by rfl))) N_10)

set_option maxRecDepth 100000 in
theorem rm_half2_1 {d : Nat} {pre : mm_pre} {s : Nat → fr} {op oq : Nat → Int64} {tr dp wi fa ob : Int32} {st of : Nat → Int32} {F : mm_M} {D A : Nat} {x : Nat → fr} {n : n4} {R1 R2 : Nat → fr} {Q : mm_R → mm_M → Prop} (hV : ∀ k, fv (s k)) (hz : mm_z wi) (hg : D + 4 ≤ 480 ∧ (D + 4 ≤ 288 ∨ 368 ≤ D) ∧ A + 4 ≤ 480 ∧ (A + 4 ≤ 300 ∨ 368 ≤ A) ∧ (D + 4 ≤ A ∨ A + 4 ≤ D)) (R : isM s wi 1 288 R1) (RR : isM s wi 2 289 R2) (Hf : isM s wi 1 299 (fun _ => (1, 2))) (X : isM s wi 4 A x) (N : isM s wi 2 346 (g4 n)) (hQ : ∀ (s1 : Nat → fr) (w1 b : Int32), rtM s wi 368 D 4 (hfS 2 (nmul1 R1) (ninv1 R1) (nsg1 R1) (nsg2 R1 R2) (nrt1 R1) x (nsub 2 x (g4 n))) s1 w1 b → isM s1 w1 2 346 (g4 n) → Q (.inl (some (.int b))) (wP pre (wN (PP s1) (QQ s1) op oq tr dp w1 fa ob st of F))) : mm_call mm_Tb (d + 8) 76 [.ref 10, .int (nI D), .int (nI A), .int 346, .int 1] (wP pre (wN (PP s) (QQ s) op oq tr dp wi fa ob st of F)) Q := by
  have S0 := ms_0 (Z := fun k => (300 ≤ k ∧ k < 368) ∨ (D ≤ k ∧ k < D + 4)) hV hz
  have E0 : wi = 0 → hfS 2 (nmul1 R1) (ninv1 R1) (nsg1 R1) (nsg2 R1 R2) (nrt1 R1) x (nsub 2 x (g4 n)) = Option.bind (nsub 2 x (g4 n)) _ := fun _ => rfl
  have F0 : wi = 1 → wi = 0 → hfS 2 (nmul1 R1) (ninv1 R1) (nsg1 R1) (nsg2 R1 R2) (nrt1 R1) x (nsub 2 x (g4 n)) = none := fun h1 h0 => absurd (h1.symm.trans h0) z10
  refine mm_in mt_76 (Nat.le_of_ble_eq_true rfl) ?_
  show mm_W _ _ _ _ _ _ _ (0, [(0, .ref 10), (1, .int (nI D)), (2, .int (nI A)), (3, .int 346), (4, .int 1)], [], wP pre (wN (PP s) (QQ s) op oq tr dp wi fa ob st of F), 0)
  refine mm_skip (mm_call_mono _ _) 3 (st' := (7, [(5, .int 348), (0, .ref 10), (1, .int (nI D)), (2, .int (nI A)), (3, .int 346), (4, .int 1)], [.int 1], wP pre (wN (PP s) (QQ s) op oq tr dp wi fa ob st of F), 0)) rfl ?_
  refine mm_branch (mm_call_mono _ _) (c := (1 : Int32) = 0) (s1 := (22, [(5, .int 348), (0, .ref 10), (1, .int (nI D)), (2, .int (nI A)), (3, .int 346), (4, .int 1)], [], wP pre (wN (PP s) (QQ s) op oq tr dp wi fa ob st of F), 0)) (s2 := (10, [(5, .int 348), (0, .ref 10), (1, .int (nI D)), (2, .int (nI A)), (3, .int 346), (4, .int 1)], [], wP pre (wN (PP s) (QQ s) op oq tr dp wi fa ob st of F), 0)) rfl (fun h => absurd h (by decide)) (fun _ => ?_)
  refine mm_skip (mm_call_mono _ _) 5 (st' := (16, [(5, .int 348), (0, .ref 10), (1, .int (nI D)), (2, .int (nI A)), (3, .int 346), (4, .int 1)], [.int 2, .int 346, .int (nI A), .int 348, .ref 10], wP pre (wN (PP s) (QQ s) op oq tr dp wi fa ob st of F), 0)) rfl ?_
  refine mm_inv (mm_call_mono _ _) (j := 60) (a := [.ref 10, .int 348, .int (nI A), .int 346, .int 2]) (M := wP pre (wN (PP s) (QQ s) op oq tr dp wi fa ob st of F)) (u := 0) rfl (by decide) (rm_sub_2 (D := 348) (A := A) (B := 346) hV hz (by omega) (m_lo X (by omega)) N (fun s1 w1 h1 => ?_))
  show mm_W _ _ _ _ _ _ _ (19, [(5, .int 348), (0, .ref 10), (1, .int (nI D)), (2, .int (nI A)), (3, .int 346), (4, .int 1)], [], wP pre (wN (PP s1) (QQ s1) op oq tr dp w1 fa ob st of F), 0)
  have V1 := h1.1
  have z1 := h1.2.1
  have S1 := ms_s S0 h1 (fun k => by omega)
  have F1 := m_F S0 F0 E0 h1
  have E1 := m_E E0 h1
  have R_1 := m_k R h1 (by omega)
  have Hf_1 := m_k Hf h1 (by omega)
  have RR_1 := m_k RR h1 (by omega)
  have X_1 := m_k X h1 (by omega)
  have N_1 := m_k N h1 (by omega)
  have W1_1 := m_new h1 (by decide)
  refine mm_skip (mm_call_mono _ _) 5 (st' := (37, [(5, .int 348), (0, .ref 10), (1, .int (nI D)), (2, .int (nI A)), (3, .int 346), (4, .int 1)], [.int 2, .int 348, .int 348, .ref 10], wP pre (wN (PP s1) (QQ s1) op oq tr dp w1 fa ob st of F), 0)) rfl ?_
  refine mm_inv (mm_call_mono _ _) (j := 62) (a := [.ref 10, .int 348, .int 348, .int 2]) (M := wP pre (wN (PP s1) (QQ s1) op oq tr dp w1 fa ob st of F)) (u := 0) rfl (by decide) (rm_halve_2 (D := 348) (A := 348) V1 z1 (by omega) W1_1 Hf_1 (fun s2 w2 h2 => ?_))
  show mm_W _ _ _ _ _ _ _ (40, [(5, .int 348), (0, .ref 10), (1, .int (nI D)), (2, .int (nI A)), (3, .int 346), (4, .int 1)], [], wP pre (wN (PP s2) (QQ s2) op oq tr dp w2 fa ob st of F), 0)
  have V2 := h2.1
  have z2 := h2.2.1
  have S2 := ms_s S1 h2 (fun k => by omega)
  have F2 := m_F S1 F1 E1 h2
  have E2 := m_E E1 h2
  have R_2 := m_k R_1 h2 (by omega)
  have Hf_2 := m_k Hf_1 h2 (by omega)
  have RR_2 := m_k RR_1 h2 (by omega)
  have X_2 := m_k X_1 h2 (by omega)
  have N_2 := m_k N_1 h2 (by omega)
  have W2_2 := m_new h2 (by decide)
  refine mm_skip (mm_call_mono _ _) 4 (st' := (48, [(6, .int 352), (5, .int 348), (0, .ref 10), (1, .int (nI D)), (2, .int (nI A)), (3, .int 346), (4, .int 1)], [.int 348, .ref 10], wP pre (wN (PP s2) (QQ s2) op oq tr dp w2 fa ob st of F), 0)) rfl ?_
  refine mm_inv (mm_call_mono _ _) (j := 69) (a := [.ref 10, .int 348]) (M := wP pre (wN (PP s2) (QQ s2) op oq tr dp w2 fa ob st of F)) (u := 0) rfl (by decide) (rm_sign1 (A := 348) V2 z2 (by omega) R_2 W2_2 (fun s3 w3 v3 h3 => ?_))
  show mm_W _ _ _ _ _ _ _ (51, [(6, .int 352), (5, .int 348), (0, .ref 10), (1, .int (nI D)), (2, .int (nI A)), (3, .int 346), (4, .int 1)], [.int v3], wP pre (wN (PP s3) (QQ s3) op oq tr dp w3 fa ob st of F), 0)
  have V3 := h3.1
  have z3 := h3.2.1
  have S3 := ms_g S2 h3 (fun k => by omega)
  have F3 := m_Fg S2 F2 E2 h3
  have E3 := m_Eg E2 h3
  have R_3 := m_kg R_2 h3 (by omega)
  have Hf_3 := m_kg Hf_2 h3 (by omega)
  have RR_3 := m_kg RR_2 h3 (by omega)
  have X_3 := m_kg X_2 h3 (by omega)
  have N_3 := m_kg N_2 h3 (by omega)
  have W2_3 := m_kg W2_2 h3 (by omega)
  refine mm_branch (mm_call_mono _ _) (c := v3 ≤ 0) (s1 := (65, [(6, .int 352), (5, .int 348), (0, .ref 10), (1, .int (nI D)), (2, .int (nI A)), (3, .int 346), (4, .int 1)], [], wP pre (wN (PP s3) (QQ s3) op oq tr dp w3 fa ob st of F), 0)) (s2 := (54, [(6, .int 352), (5, .int 348), (0, .ref 10), (1, .int (nI D)), (2, .int (nI A)), (3, .int 346), (4, .int 1)], [], wP pre (wN (PP s3) (QQ s3) op oq tr dp w3 fa ob st of F), 0)) rfl (fun g1 => ?_) (fun g1 => ?_)
  · skip
    refine mm_skip (mm_call_mono _ _) 1 (st' := (66, [(6, .int 352), (5, .int 348), (0, .ref 10), (1, .int (nI D)), (2, .int (nI A)), (3, .int 346), (4, .int 1)], [.int 0], wP pre (wN (PP s3) (QQ s3) op oq tr dp w3 fa ob st of F), 0)) rfl ?_
    exact mm_ret (mm_call_mono _ _) (c := mm_z 0) (r := .inl (some (.int 0))) (M := wP pre (wN (PP s3) (QQ s3) op oq tr dp w3 fa ob st of F)) (u := 0) rfl (by unfold mm_z; decide) (by decide) (hQ _ _ _ (rt_f0 (U := 368) (d := D) (m := 4) S3 (fun k => id) (fun h0 => (E3 h0).trans (if_neg (i32_le g1))) F3) N_3)
  · skip
    have E3 := fun h0 => (E3 h0).trans (if_pos (i32_gt g1))
    refine mm_skip (mm_call_mono _ _) 3 (st' := (59, [(6, .int 352), (5, .int 348), (0, .ref 10), (1, .int (nI D)), (2, .int (nI A)), (3, .int 346), (4, .int 1)], [.int 348, .int 352, .ref 10], wP pre (wN (PP s3) (QQ s3) op oq tr dp w3 fa ob st of F), 0)) rfl ?_
    refine mm_inv (mm_call_mono _ _) (j := 71) (a := [.ref 10, .int 352, .int 348]) (M := wP pre (wN (PP s3) (QQ s3) op oq tr dp w3 fa ob st of F)) (u := 0) rfl (by decide) (rm_root1 (D := 352) (A := 348) V3 z3 (by omega) R_3 Hf_3 W2_3 (fun s4 w4 b4 h4 => ?_))
    show mm_W _ _ _ _ _ _ _ (62, [(6, .int 352), (5, .int 348), (0, .ref 10), (1, .int (nI D)), (2, .int (nI A)), (3, .int 346), (4, .int 1)], [.int b4], wP pre (wN (PP s4) (QQ s4) op oq tr dp w4 fa ob st of F), 0)
    have V4 := h4.1
    have z4 := h4.2.1
    have S4 := ms_r S3 h4 (fun k => by omega)
    have F4 := m_Fr S3 F3 E3 h4
    have R_4 := m_kr R_3 h4 (by omega)
    have RR_4 := m_kr RR_3 h4 (by omega)
    have X_4 := m_kr X_3 h4 (by omega)
    have N_4 := m_kr N_3 h4 (by omega)
    have W4_4 := pd_M (s := s4) (w := w4) (m := 2) (d := 352) (by decide)
    refine mm_branch (mm_call_mono _ _) (c := b4 = 0) (s1 := (65, [(6, .int 352), (5, .int 348), (0, .ref 10), (1, .int (nI D)), (2, .int (nI A)), (3, .int 346), (4, .int 1)], [], wP pre (wN (PP s4) (QQ s4) op oq tr dp w4 fa ob st of F), 0)) (s2 := (67, [(6, .int 352), (5, .int 348), (0, .ref 10), (1, .int (nI D)), (2, .int (nI A)), (3, .int 346), (4, .int 1)], [], wP pre (wN (PP s4) (QQ s4) op oq tr dp w4 fa ob st of F), 0)) rfl (fun g2 => ?_) (fun g2 => ?_)
    · skip
      have E4 := m_Er0 E3 h4 g2
      refine mm_skip (mm_call_mono _ _) 1 (st' := (66, [(6, .int 352), (5, .int 348), (0, .ref 10), (1, .int (nI D)), (2, .int (nI A)), (3, .int 346), (4, .int 1)], [.int 0], wP pre (wN (PP s4) (QQ s4) op oq tr dp w4 fa ob st of F), 0)) rfl ?_
      exact mm_ret (mm_call_mono _ _) (c := mm_z 0) (r := .inl (some (.int 0))) (M := wP pre (wN (PP s4) (QQ s4) op oq tr dp w4 fa ob st of F)) (u := 0) rfl (by unfold mm_z; decide) (by decide) (hQ _ _ _ (rt_f0 (U := 368) (d := D) (m := 4) S4 (fun k => id) E4 F4) N_4)
    · skip
      have E4 := m_Er1 E3 h4 g2
      refine mm_skip (mm_call_mono _ _) 7 (st' := (77, [(6, .int 352), (5, .int 348), (0, .ref 10), (1, .int (nI D)), (2, .int (nI A)), (3, .int 346), (4, .int 1)], [.int 2, .int 352, .int 352, .int 354, .ref 10], wP pre (wN (PP s4) (QQ s4) op oq tr dp w4 fa ob st of F), 0)) rfl ?_
      refine mm_inv (mm_call_mono _ _) (j := 59) (a := [.ref 10, .int 354, .int 352, .int 352, .int 2]) (M := wP pre (wN (PP s4) (QQ s4) op oq tr dp w4 fa ob st of F)) (u := 0) rfl (by decide) (rm_add_2 (D := 354) (A := 352) (B := 352) V4 z4 (by omega) W4_4 W4_4 (fun s5 w5 h5 => ?_))
      show mm_W _ _ _ _ _ _ _ (80, [(6, .int 352), (5, .int 348), (0, .ref 10), (1, .int (nI D)), (2, .int (nI A)), (3, .int 346), (4, .int 1)], [], wP pre (wN (PP s5) (QQ s5) op oq tr dp w5 fa ob st of F), 0)
      have V5 := h5.1
      have z5 := h5.2.1
      have S5 := ms_s S4 h5 (fun k => by omega)
      have F5 := m_F S4 F4 E4 h5
      have E5 := m_E E4 h5
      have R_5 := m_k R_4 h5 (by omega)
      have RR_5 := m_k RR_4 h5 (by omega)
      have X_5 := m_k X_4 h5 (by omega)
      have N_5 := m_k N_4 h5 (by omega)
      have W4_5 := m_k W4_4 h5 (by omega)
      have W5_5 := m_new h5 (by decide)
      refine mm_skip (mm_call_mono _ _) 7 (st' := (89, [(6, .int 352), (5, .int 348), (0, .ref 10), (1, .int (nI D)), (2, .int (nI A)), (3, .int 346), (4, .int 1)], [.int 354, .int 354, .ref 10], wP pre (wN (PP s5) (QQ s5) op oq tr dp w5 fa ob st of F), 0)) rfl ?_
      refine mm_inv (mm_call_mono _ _) (j := 68) (a := [.ref 10, .int 354, .int 354]) (M := wP pre (wN (PP s5) (QQ s5) op oq tr dp w5 fa ob st of F)) (u := 0) rfl (by decide) (rm_inv1 (D := 354) (A := 354) V5 z5 (by omega) R_5 W5_5 (fun s6 w6 h6 => ?_))
      show mm_W _ _ _ _ _ _ _ (92, [(6, .int 352), (5, .int 348), (0, .ref 10), (1, .int (nI D)), (2, .int (nI A)), (3, .int 346), (4, .int 1)], [], wP pre (wN (PP s6) (QQ s6) op oq tr dp w6 fa ob st of F), 0)
      have V6 := h6.1
      have z6 := h6.2.1
      have S6 := ms_s S5 h6 (fun k => by omega)
      have F6 := m_F S5 F5 E5 h6
      have E6 := m_E E5 h6
      have R_6 := m_k R_5 h6 (by omega)
      have RR_6 := m_k RR_5 h6 (by omega)
      have X_6 := m_k X_5 h6 (by omega)
      have N_6 := m_k N_5 h6 (by omega)
      have W4_6 := m_k W4_5 h6 (by omega)
      have W6_6 := m_new h6 (by decide)
      refine mm_skip (mm_call_mono _ _) 10 (st' := (104, [(6, .int 352), (5, .int 348), (0, .ref 10), (1, .int (nI D)), (2, .int (nI A)), (3, .int 346), (4, .int 1)], [.int 354, .int ((nI A) + 2), .int 354, .ref 10], wP pre (wN (PP s6) (QQ s6) op oq tr dp w6 fa ob st of F), 0)) rfl ?_
      rw [nI_p2 (A)]
      show mm_W _ _ _ _ _ _ _ (104, [(6, .int 352), (5, .int 348), (0, .ref 10), (1, .int (nI D)), (2, .int (nI A)), (3, .int 346), (4, .int 1)], [.int 354, .int (nI (A + 2)), .int 354, .ref 10], wP pre (wN (PP s6) (QQ s6) op oq tr dp w6 fa ob st of F), 0)
      refine mm_inv (mm_call_mono _ _) (j := 66) (a := [.ref 10, .int 354, .int (nI (A + 2)), .int 354]) (M := wP pre (wN (PP s6) (QQ s6) op oq tr dp w6 fa ob st of F)) (u := 0) rfl (by decide) (rm_mul1 (D := 354) (A := (A + 2)) (B := 354) V6 z6 (by omega) R_6 (m_hi X_6 2 (by omega)) W6_6 (fun s7 w7 h7 => ?_))
      show mm_W _ _ _ _ _ _ _ (107, [(6, .int 352), (5, .int 348), (0, .ref 10), (1, .int (nI D)), (2, .int (nI A)), (3, .int 346), (4, .int 1)], [], wP pre (wN (PP s7) (QQ s7) op oq tr dp w7 fa ob st of F), 0)
      have V7 := h7.1
      have z7 := h7.2.1
      have S7 := ms_s S6 h7 (fun k => by omega)
      have F7 := m_F S6 F6 E6 h7
      have E7 := m_E E6 h7
      have R_7 := m_k R_6 h7 (by omega)
      have RR_7 := m_k RR_6 h7 (by omega)
      have N_7 := m_k N_6 h7 (by omega)
      have W4_7 := m_k W4_6 h7 (by omega)
      have W7_7 := m_new h7 (by decide)
      refine mm_skip (mm_call_mono _ _) 2 (st' := (110, [(6, .int 352), (5, .int 348), (0, .ref 10), (1, .int (nI D)), (2, .int (nI A)), (3, .int 346), (4, .int 1)], [.int 352, .ref 10], wP pre (wN (PP s7) (QQ s7) op oq tr dp w7 fa ob st of F), 0)) rfl ?_
      refine mm_inv (mm_call_mono _ _) (j := 75) (a := [.ref 10, .int 352]) (M := wP pre (wN (PP s7) (QQ s7) op oq tr dp w7 fa ob st of F)) (u := 0) rfl (by decide) (rm_sign2 (A := 352) V7 z7 (by omega) R_7 RR_7 (m_jn2 W4_7 W7_7) (fun s8 w8 v8 h8 => ?_))
      show mm_W _ _ _ _ _ _ _ (113, [(6, .int 352), (5, .int 348), (0, .ref 10), (1, .int (nI D)), (2, .int (nI A)), (3, .int 346), (4, .int 1)], [.int v8], wP pre (wN (PP s8) (QQ s8) op oq tr dp w8 fa ob st of F), 0)
      have E7 := bs E7
      have V8 := h8.1
      have z8 := h8.2.1
      have S8 := ms_g S7 h8 (fun k => by omega)
      have F8 := m_Fg S7 F7 E7 h8
      have E8 := m_Eg E7 h8
      have N_8 := m_kg N_7 h8 (by omega)
      have W4_8 := m_kg W4_7 h8 (by omega)
      have W7_8 := m_kg W7_7 h8 (by omega)
      refine mm_skip (mm_call_mono _ _) 5 (st' := (120, [(7, .int v8), (6, .int 352), (5, .int 348), (0, .ref 10), (1, .int (nI D)), (2, .int (nI A)), (3, .int 346), (4, .int 1)], [.int 4, .int 352, .int (nI D), .ref 10], wP pre (wN (PP s8) (QQ s8) op oq tr dp w8 fa ob st of F), 0)) rfl ?_
      refine mm_inv (mm_call_mono _ _) (j := 58) (a := [.ref 10, .int (nI D), .int 352, .int 4]) (M := wP pre (wN (PP s8) (QQ s8) op oq tr dp w8 fa ob st of F)) (u := 0) rfl (by decide) (rm_set_4 (D := D) (A := 352) V8 z8 (by omega) (m_jn2 W4_8 W7_8) (fun s9 w9 h9 => ?_))
      show mm_W _ _ _ _ _ _ _ (123, [(7, .int v8), (6, .int 352), (5, .int 348), (0, .ref 10), (1, .int (nI D)), (2, .int (nI A)), (3, .int 346), (4, .int 1)], [], wP pre (wN (PP s9) (QQ s9) op oq tr dp w9 fa ob st of F), 0)
      have V9 := h9.1
      have z9 := h9.2.1
      obtain ⟨q9, r9, W9_9⟩ := mR_set z8 h9 (by decide)
      have S9 := ms_s S8 h9 (fun k => by omega)
      have F9 := fun h9 h0 => F8 (r9 h9) h0
      have E9 := fun h0 => E8 (q9 h0)
      have N_9 := m_k N_8 h9 (by omega)
      refine mm_skip (mm_call_mono _ _) 1 (st' := (125, [(7, .int v8), (6, .int 352), (5, .int 348), (0, .ref 10), (1, .int (nI D)), (2, .int (nI A)), (3, .int 346), (4, .int 1)], [.int v8], wP pre (wN (PP s9) (QQ s9) op oq tr dp w9 fa ob st of F), 0)) rfl ?_
      refine mm_branch (mm_call_mono _ _) (c := 0 ≤ v8) (s1 := (135, [(7, .int v8), (6, .int 352), (5, .int 348), (0, .ref 10), (1, .int (nI D)), (2, .int (nI A)), (3, .int 346), (4, .int 1)], [], wP pre (wN (PP s9) (QQ s9) op oq tr dp w9 fa ob st of F), 0)) (s2 := (128, [(7, .int v8), (6, .int 352), (5, .int 348), (0, .ref 10), (1, .int (nI D)), (2, .int (nI A)), (3, .int 346), (4, .int 1)], [], wP pre (wN (PP s9) (QQ s9) op oq tr dp w9 fa ob st of F), 0)) rfl (fun g3 => ?_) (fun g3 => ?_)
      · skip
        refine mm_skip (mm_call_mono _ _) 1 (st' := (136, [(7, .int v8), (6, .int 352), (5, .int 348), (0, .ref 10), (1, .int (nI D)), (2, .int (nI A)), (3, .int 346), (4, .int 1)], [.int 1], wP pre (wN (PP s9) (QQ s9) op oq tr dp w9 fa ob st of F), 0)) rfl ?_
        exact mm_ret (mm_call_mono _ _) (c := mm_z 1) (r := .inl (some (.int 1))) (M := wP pre (wN (PP s9) (QQ s9) op oq tr dp w9 fa ob st of F)) (u := 0) rfl (by unfold mm_z; decide) (by decide) (hQ _ _ _ (rt_f1 (U := 368) (d := D) (m := 4) S9 (fun k => id) (fun h0 => (E9 h0).trans (if_neg (i32_ge g3))) F9 (fun h0 => at_pd W9_9 h0 (by decide) (by rfl))) N_9)
      · skip
        have E9 := fun h0 => (E9 h0).trans (if_pos (i32_lt g3))
        refine mm_skip (mm_call_mono _ _) 4 (st' := (132, [(7, .int v8), (6, .int 352), (5, .int 348), (0, .ref 10), (1, .int (nI D)), (2, .int (nI A)), (3, .int 346), (4, .int 1)], [.int 4, .int (nI D), .int (nI D), .ref 10], wP pre (wN (PP s9) (QQ s9) op oq tr dp w9 fa ob st of F), 0)) rfl ?_
        refine mm_inv (mm_call_mono _ _) (j := 61) (a := [.ref 10, .int (nI D), .int (nI D), .int 4]) (M := wP pre (wN (PP s9) (QQ s9) op oq tr dp w9 fa ob st of F)) (u := 0) rfl (by decide) (rm_neg_4 (D := D) (A := D) V9 z9 (by omega) W9_9 (fun s10 w10 h10 => ?_))
        show mm_W _ _ _ _ _ _ _ (135, [(7, .int v8), (6, .int 352), (5, .int 348), (0, .ref 10), (1, .int (nI D)), (2, .int (nI A)), (3, .int 346), (4, .int 1)], [], wP pre (wN (PP s10) (QQ s10) op oq tr dp w10 fa ob st of F), 0)
        have V10 := h10.1
        have z10 := h10.2.1
        have S10 := ms_s S9 h10 (fun k => by omega)
        have F10 := m_F S9 F9 E9 h10
        have E10 := m_E E9 h10
        have N_10 := m_k N_9 h10 (by omega)
        have W10_10 := m_new h10 (by decide)
        refine mm_skip (mm_call_mono _ _) 1 (st' := (136, [(7, .int v8), (6, .int 352), (5, .int 348), (0, .ref 10), (1, .int (nI D)), (2, .int (nI A)), (3, .int 346), (4, .int 1)], [.int 1], wP pre (wN (PP s10) (QQ s10) op oq tr dp w10 fa ob st of F), 0)) rfl ?_
        exact mm_ret (mm_call_mono _ _) (c := mm_z 1) (r := .inl (some (.int 1))) (M := wP pre (wN (PP s10) (QQ s10) op oq tr dp w10 fa ob st of F)) (u := 0) rfl (by unfold mm_z; decide) (by decide) (hQ _ _ _ (rt_f1 (U := 368) (d := D) (m := 4) S10 (fun k => id) E10 F10 (fun h0 => at_pd W10_10 h0 (by decide) (by rfl))) N_10)

set_option maxRecDepth 100000 in
theorem rm_root2 {d : Nat} {pre : mm_pre} {s : Nat → fr} {op oq : Nat → Int64} {tr dp wi fa ob : Int32} {st of : Nat → Int32} {F : mm_M} {D A : Nat} {x : Nat → fr} {R1 R2 : Nat → fr} {Q : mm_R → mm_M → Prop} (hV : ∀ k, fv (s k)) (hz : mm_z wi) (hg : D + 4 ≤ 480 ∧ (D + 4 ≤ 288 ∨ 368 ≤ D) ∧ A + 4 ≤ 480 ∧ (A + 4 ≤ 300 ∨ 368 ≤ A) ∧ (D + 4 ≤ A ∨ A + 4 ≤ D)) (R : isM s wi 1 288 R1) (RR : isM s wi 2 289 R2) (Hf : isM s wi 1 299 (fun _ => (1, 2))) (X : isM s wi 4 A x) (hQ : ∀ (s1 : Nat → fr) (w1 b : Int32), rtM s wi 368 D 4 (nrt2 R1 R2 x) s1 w1 b → Q (.inl (some (.int b))) (wP pre (wN (PP s1) (QQ s1) op oq tr dp w1 fa ob st of F))) : mm_call mm_Tb (d + 9) 77 [.ref 10, .int (nI D), .int (nI A)] (wP pre (wN (PP s) (QQ s) op oq tr dp wi fa ob st of F)) Q := by
  have S0 := ms_0 (Z := fun k => (300 ≤ k ∧ k < 368) ∨ (D ≤ k ∧ k < D + 4)) hV hz
  have F0 : wi = 1 → wi = 0 → rrtS 2 (nmul1 R1) (ninv1 R1) (nsg1 R1) (nsg2 R1 R2) (nrt1 R1) R2 x = none := fun h1 h0 => absurd (h1.symm.trans h0) z10
  refine mm_in mt_77 (Nat.le_of_ble_eq_true rfl) ?_
  show mm_W _ _ _ _ _ _ _ (0, [(0, .ref 10), (1, .int (nI D)), (2, .int (nI A))], [], wP pre (wN (PP s) (QQ s) op oq tr dp wi fa ob st of F), 0)
  refine mm_skip (mm_call_mono _ _) 5 (st' := (5, [(0, .ref 10), (1, .int (nI D)), (2, .int (nI A))], [.int 2, .int ((nI A) + 2), .ref 10], wP pre (wN (PP s) (QQ s) op oq tr dp wi fa ob st of F), 0)) rfl ?_
  rw [nI_p2 (A)]
  show mm_W _ _ _ _ _ _ _ (5, [(0, .ref 10), (1, .int (nI D)), (2, .int (nI A))], [.int 2, .int (nI (A + 2)), .ref 10], wP pre (wN (PP s) (QQ s) op oq tr dp wi fa ob st of F), 0)
  refine mm_inv (mm_call_mono _ _) (j := 63) (a := [.ref 10, .int (nI (A + 2)), .int 2]) (M := wP pre (wN (PP s) (QQ s) op oq tr dp wi fa ob st of F)) (u := 0) rfl (by decide) (rm_isZero_2 (A := A + 2) hV (by omega) ?_)
  show mm_W _ _ _ _ _ _ _ (8, [(0, .ref 10), (1, .int (nI D)), (2, .int (nI A))], [.int (bz (iszm 2 s (A + 2)))], wP pre (wN (PP s) (QQ s) op oq tr dp wi fa ob st of F), 0)
  refine mm_branch (mm_call_mono _ _) (c := (bz (iszm 2 s (A + 2))) = 0) (s1 := (94, [(0, .ref 10), (1, .int (nI D)), (2, .int (nI A))], [], wP pre (wN (PP s) (QQ s) op oq tr dp wi fa ob st of F), 0)) (s2 := (11, [(0, .ref 10), (1, .int (nI D)), (2, .int (nI A))], [], wP pre (wN (PP s) (QQ s) op oq tr dp wi fa ob st of F), 0)) rfl (fun g1 => ?_) (fun g1 => ?_)
  · have E0 : wi = 0 → rrtS 2 (nmul1 R1) (ninv1 R1) (nsg1 R1) (nsg2 R1 R2) (nrt1 R1) R2 x = Option.bind (rnorm 2 (nmul1 R1) R2 x) _ := fun h0 => if_neg (fun q => bz_0 g1 (fun j hj => by rw [Nat.add_assoc, X h0 (2 + j) (by omega)]; exact q j hj))
    refine mm_skip (mm_call_mono _ _) 3 (st' := (99, [(0, .ref 10), (1, .int (nI D)), (2, .int (nI A))], [.int (nI A), .int 344, .ref 10], wP pre (wN (PP s) (QQ s) op oq tr dp wi fa ob st of F), 0)) rfl ?_
    refine mm_inv (mm_call_mono _ _) (j := 73) (a := [.ref 10, .int 344, .int (nI A)]) (M := wP pre (wN (PP s) (QQ s) op oq tr dp wi fa ob st of F)) (u := 0) rfl (by decide) (rm_norm2 (D := 344) (A := A) hV hz (by omega) R RR X (fun s1 w1 h1 => ?_))
    show mm_W _ _ _ _ _ _ _ (102, [(0, .ref 10), (1, .int (nI D)), (2, .int (nI A))], [], wP pre (wN (PP s1) (QQ s1) op oq tr dp w1 fa ob st of F), 0)
    have V1 := h1.1
    have z1 := h1.2.1
    have S1 := ms_s S0 h1 (fun k => by omega)
    have F1 := m_F S0 F0 E0 h1
    have E1 := m_E E0 h1
    have R_1 := m_k R h1 (by omega)
    have Hf_1 := m_k Hf h1 (by omega)
    have RR_1 := m_k RR h1 (by omega)
    have X_1 := m_k X h1 (by omega)
    have W1_1 := m_new h1 (by decide)
    refine mm_skip (mm_call_mono _ _) 2 (st' := (106, [(0, .ref 10), (1, .int (nI D)), (2, .int (nI A))], [.int 344, .ref 10], wP pre (wN (PP s1) (QQ s1) op oq tr dp w1 fa ob st of F), 0)) rfl ?_
    refine mm_inv (mm_call_mono _ _) (j := 69) (a := [.ref 10, .int 344]) (M := wP pre (wN (PP s1) (QQ s1) op oq tr dp w1 fa ob st of F)) (u := 0) rfl (by decide) (rm_sign1 (A := 344) V1 z1 (by omega) R_1 W1_1 (fun s2 w2 v2 h2 => ?_))
    show mm_W _ _ _ _ _ _ _ (109, [(0, .ref 10), (1, .int (nI D)), (2, .int (nI A))], [.int v2], wP pre (wN (PP s2) (QQ s2) op oq tr dp w2 fa ob st of F), 0)
    have V2 := h2.1
    have z2 := h2.2.1
    have S2 := ms_g S1 h2 (fun k => by omega)
    have F2 := m_Fg S1 F1 E1 h2
    have E2 := m_Eg E1 h2
    have R_2 := m_kg R_1 h2 (by omega)
    have Hf_2 := m_kg Hf_1 h2 (by omega)
    have RR_2 := m_kg RR_1 h2 (by omega)
    have X_2 := m_kg X_1 h2 (by omega)
    have W1_2 := m_kg W1_1 h2 (by omega)
    refine mm_branch (mm_call_mono _ _) (c := v2 < 0) (s1 := (125, [(0, .ref 10), (1, .int (nI D)), (2, .int (nI A))], [], wP pre (wN (PP s2) (QQ s2) op oq tr dp w2 fa ob st of F), 0)) (s2 := (112, [(0, .ref 10), (1, .int (nI D)), (2, .int (nI A))], [], wP pre (wN (PP s2) (QQ s2) op oq tr dp w2 fa ob st of F), 0)) rfl (fun g5 => ?_) (fun g5 => ?_)
    · skip
      refine mm_skip (mm_call_mono _ _) 1 (st' := (126, [(0, .ref 10), (1, .int (nI D)), (2, .int (nI A))], [.int 0], wP pre (wN (PP s2) (QQ s2) op oq tr dp w2 fa ob st of F), 0)) rfl ?_
      exact mm_ret (mm_call_mono _ _) (c := mm_z 0) (r := .inl (some (.int 0))) (M := wP pre (wN (PP s2) (QQ s2) op oq tr dp w2 fa ob st of F)) (u := 0) rfl (by unfold mm_z; decide) (by decide) (hQ _ _ _ (by have e9 := rt_f0 (U := 368) (d := D) (m := 4) S2 (fun k => id) (fun h0 => (E2 h0).trans (if_pos (i32_l0 g5))) F2; rw [rrt_eq] at e9; exact e9))
    · skip
      have E2 := fun h0 => (E2 h0).trans (if_neg (i32_n0 g5))
      refine mm_skip (mm_call_mono _ _) 3 (st' := (119, [(0, .ref 10), (1, .int (nI D)), (2, .int (nI A))], [.int 344, .int 346, .ref 10], wP pre (wN (PP s2) (QQ s2) op oq tr dp w2 fa ob st of F), 0)) rfl ?_
      refine mm_inv (mm_call_mono _ _) (j := 71) (a := [.ref 10, .int 346, .int 344]) (M := wP pre (wN (PP s2) (QQ s2) op oq tr dp w2 fa ob st of F)) (u := 0) rfl (by decide) (rm_root1 (D := 346) (A := 344) V2 z2 (by omega) R_2 Hf_2 W1_2 (fun s3 w3 b3 h3 => ?_))
      show mm_W _ _ _ _ _ _ _ (122, [(0, .ref 10), (1, .int (nI D)), (2, .int (nI A))], [.int b3], wP pre (wN (PP s3) (QQ s3) op oq tr dp w3 fa ob st of F), 0)
      have V3 := h3.1
      have z3 := h3.2.1
      have S3 := ms_r S2 h3 (fun k => by omega)
      have F3 := m_Fr S2 F2 E2 h3
      have R_3 := m_kr R_2 h3 (by omega)
      have Hf_3 := m_kr Hf_2 h3 (by omega)
      have RR_3 := m_kr RR_2 h3 (by omega)
      have X_3 := m_kr X_2 h3 (by omega)
      have W3_3 := pd_M (s := s3) (w := w3) (m := 2) (d := 346) (by decide)
      refine mm_branch (mm_call_mono _ _) (c := b3 = 0) (s1 := (125, [(0, .ref 10), (1, .int (nI D)), (2, .int (nI A))], [], wP pre (wN (PP s3) (QQ s3) op oq tr dp w3 fa ob st of F), 0)) (s2 := (127, [(0, .ref 10), (1, .int (nI D)), (2, .int (nI A))], [], wP pre (wN (PP s3) (QQ s3) op oq tr dp w3 fa ob st of F), 0)) rfl (fun g6 => ?_) (fun g6 => ?_)
      · skip
        have E3 := m_Er0 E2 h3 g6
        refine mm_skip (mm_call_mono _ _) 1 (st' := (126, [(0, .ref 10), (1, .int (nI D)), (2, .int (nI A))], [.int 0], wP pre (wN (PP s3) (QQ s3) op oq tr dp w3 fa ob st of F), 0)) rfl ?_
        exact mm_ret (mm_call_mono _ _) (c := mm_z 0) (r := .inl (some (.int 0))) (M := wP pre (wN (PP s3) (QQ s3) op oq tr dp w3 fa ob st of F)) (u := 0) rfl (by unfold mm_z; decide) (by decide) (hQ _ _ _ (by have e9 := rt_f0 (U := 368) (d := D) (m := 4) S3 (fun k => id) E3 F3; rw [rrt_eq] at e9; exact e9))
      · skip
        have E3 := m_Er1 E2 h3 g6
        refine mm_skip (mm_call_mono _ _) 5 (st' := (134, [(0, .ref 10), (1, .int (nI D)), (2, .int (nI A))], [.int 0, .int 346, .int (nI A), .int (nI D), .ref 10], wP pre (wN (PP s3) (QQ s3) op oq tr dp w3 fa ob st of F), 0)) rfl ?_
        refine mm_inv (mm_call_mono _ _) (j := 76) (a := [.ref 10, .int (nI D), .int (nI A), .int 346, .int 0]) (M := wP pre (wN (PP s3) (QQ s3) op oq tr dp w3 fa ob st of F)) (u := 0) rfl (by decide) (rm_half2_0 (D := D) (A := A) V3 z3 (by omega) R_3 RR_3 Hf_3 X_3 W3_3 (fun s4 w4 b4 h4 N4 => ?_))
        show mm_W _ _ _ _ _ _ _ (137, [(0, .ref 10), (1, .int (nI D)), (2, .int (nI A))], [.int b4], wP pre (wN (PP s4) (QQ s4) op oq tr dp w4 fa ob st of F), 0)
        have V4 := h4.1
        have z4 := h4.2.1
        have S4 := ms_r S3 h4 (fun k => by omega)
        have F4 := m_Fr S3 F3 E3 h4
        have R_4 := m_kr R_3 h4 (by omega)
        have Hf_4 := m_kr Hf_3 h4 (by omega)
        have RR_4 := m_kr RR_3 h4 (by omega)
        have X_4 := m_kr X_3 h4 (by omega)
        have W4_4 := pd_M (s := s4) (w := w4) (m := 4) (d := D) (by decide)
        refine mm_branch (mm_call_mono _ _) (c := b4 = 0) (s1 := (140, [(0, .ref 10), (1, .int (nI D)), (2, .int (nI A))], [], wP pre (wN (PP s4) (QQ s4) op oq tr dp w4 fa ob st of F), 0)) (s2 := (153, [(0, .ref 10), (1, .int (nI D)), (2, .int (nI A))], [], wP pre (wN (PP s4) (QQ s4) op oq tr dp w4 fa ob st of F), 0)) rfl (fun g7 => ?_) (fun g7 => ?_)
        · skip
          have E4 := m_Er0 E3 h4 g7
          refine mm_skip (mm_call_mono _ _) 5 (st' := (147, [(0, .ref 10), (1, .int (nI D)), (2, .int (nI A))], [.int 1, .int 346, .int (nI A), .int (nI D), .ref 10], wP pre (wN (PP s4) (QQ s4) op oq tr dp w4 fa ob st of F), 0)) rfl ?_
          refine mm_inv (mm_call_mono _ _) (j := 76) (a := [.ref 10, .int (nI D), .int (nI A), .int 346, .int 1]) (M := wP pre (wN (PP s4) (QQ s4) op oq tr dp w4 fa ob st of F)) (u := 0) rfl (by decide) (rm_half2_1 (D := D) (A := A) V4 z4 (by omega) R_4 RR_4 Hf_4 X_4 N4 (fun s5 w5 b5 h5 N5 => ?_))
          show mm_W _ _ _ _ _ _ _ (150, [(0, .ref 10), (1, .int (nI D)), (2, .int (nI A))], [.int b5], wP pre (wN (PP s5) (QQ s5) op oq tr dp w5 fa ob st of F), 0)
          have E4 := bo (Y := Unit) E4
          have V5 := h5.1
          have z5 := h5.2.1
          have S5 := ms_r S4 h5 (fun k => by omega)
          have F5 := m_Fr S4 F4 E4 h5
          have R_5 := m_kr R_4 h5 (by omega)
          have Hf_5 := m_kr Hf_4 h5 (by omega)
          have RR_5 := m_kr RR_4 h5 (by omega)
          have X_5 := m_kr X_4 h5 (by omega)
          have W5_5 := pd_M (s := s5) (w := w5) (m := 4) (d := D) (by decide)
          refine mm_branch (mm_call_mono _ _) (c := b5 = 0) (s1 := (157, [(0, .ref 10), (1, .int (nI D)), (2, .int (nI A))], [], wP pre (wN (PP s5) (QQ s5) op oq tr dp w5 fa ob st of F), 0)) (s2 := (153, [(0, .ref 10), (1, .int (nI D)), (2, .int (nI A))], [], wP pre (wN (PP s5) (QQ s5) op oq tr dp w5 fa ob st of F), 0)) rfl (fun g8 => ?_) (fun g8 => ?_)
          · skip
            have E5 := m_Er0 E4 h5 g8
            refine mm_skip (mm_call_mono _ _) 1 (st' := (158, [(0, .ref 10), (1, .int (nI D)), (2, .int (nI A))], [.int 0], wP pre (wN (PP s5) (QQ s5) op oq tr dp w5 fa ob st of F), 0)) rfl ?_
            exact mm_ret (mm_call_mono _ _) (c := mm_z 0) (r := .inl (some (.int 0))) (M := wP pre (wN (PP s5) (QQ s5) op oq tr dp w5 fa ob st of F)) (u := 0) rfl (by unfold mm_z; decide) (by decide) (hQ _ _ _ (by have e9 := rt_f0 (U := 368) (d := D) (m := 4) S5 (fun k => id) E5 F5; rw [rrt_eq] at e9; exact e9))
          · skip
            have E5 := m_Er1 E4 h5 g8
            refine mm_skip (mm_call_mono _ _) 2 (st' := (158, [(0, .ref 10), (1, .int (nI D)), (2, .int (nI A))], [.int 1], wP pre (wN (PP s5) (QQ s5) op oq tr dp w5 fa ob st of F), 0)) rfl ?_
            exact mm_ret (mm_call_mono _ _) (c := mm_z 1) (r := .inl (some (.int 1))) (M := wP pre (wN (PP s5) (QQ s5) op oq tr dp w5 fa ob st of F)) (u := 0) rfl (by unfold mm_z; decide) (by decide) (hQ _ _ _ (by have e9 := rt_f1 (U := 368) (d := D) (m := 4) S5 (fun k => id) E5 F5 (fun _ => rfl); rw [rrt_eq] at e9; exact e9))
        · skip
          have E4 := m_Er1 E3 h4 g7
          refine mm_skip (mm_call_mono _ _) 2 (st' := (158, [(0, .ref 10), (1, .int (nI D)), (2, .int (nI A))], [.int 1], wP pre (wN (PP s4) (QQ s4) op oq tr dp w4 fa ob st of F), 0)) rfl ?_
          exact mm_ret (mm_call_mono _ _) (c := mm_z 1) (r := .inl (some (.int 1))) (M := wP pre (wN (PP s4) (QQ s4) op oq tr dp w4 fa ob st of F)) (u := 0) rfl (by unfold mm_z; decide) (by decide) (hQ _ _ _ (by have e9 := rt_f1 (U := 368) (d := D) (m := 4) S4 (fun k => id) E4 F4 (fun _ => rfl); rw [rrt_eq] at e9; exact e9))
  · have E0 : wi = 0 → rrtS 2 (nmul1 R1) (ninv1 R1) (nsg1 R1) (nsg2 R1 R2) (nrt1 R1) R2 x = Option.bind ((nrt1 R1) x) _ := fun h0 => if_pos (fun j hj => by rw [← X h0 (2 + j) (by omega), ← Nat.add_assoc]; exact bz_1 g1 j hj)
    refine mm_skip (mm_call_mono _ _) 3 (st' := (16, [(0, .ref 10), (1, .int (nI D)), (2, .int (nI A))], [.int (nI A), .int 344, .ref 10], wP pre (wN (PP s) (QQ s) op oq tr dp wi fa ob st of F), 0)) rfl ?_
    refine mm_inv (mm_call_mono _ _) (j := 71) (a := [.ref 10, .int 344, .int (nI A)]) (M := wP pre (wN (PP s) (QQ s) op oq tr dp wi fa ob st of F)) (u := 0) rfl (by decide) (rm_root1 (D := 344) (A := A) hV hz (by omega) R Hf (m_lo X (by omega)) (fun s6 w6 b6 h6 => ?_))
    show mm_W _ _ _ _ _ _ _ (19, [(0, .ref 10), (1, .int (nI D)), (2, .int (nI A))], [.int b6], wP pre (wN (PP s6) (QQ s6) op oq tr dp w6 fa ob st of F), 0)
    have V6 := h6.1
    have z6 := h6.2.1
    have S6 := ms_r S0 h6 (fun k => by omega)
    have F6 := m_Fr S0 F0 E0 h6
    have R_6 := m_kr R h6 (by omega)
    have Hf_6 := m_kr Hf h6 (by omega)
    have RR_6 := m_kr RR h6 (by omega)
    have X_6 := m_kr X h6 (by omega)
    have W6_6 := pd_M (s := s6) (w := w6) (m := 2) (d := 344) (by decide)
    refine mm_branch (mm_call_mono _ _) (c := b6 = 0) (s1 := (39, [(0, .ref 10), (1, .int (nI D)), (2, .int (nI A))], [], wP pre (wN (PP s6) (QQ s6) op oq tr dp w6 fa ob st of F), 0)) (s2 := (22, [(0, .ref 10), (1, .int (nI D)), (2, .int (nI A))], [], wP pre (wN (PP s6) (QQ s6) op oq tr dp w6 fa ob st of F), 0)) rfl (fun g2 => ?_) (fun g2 => ?_)
    · skip
      have E6 := m_Er0 E0 h6 g2
      refine mm_skip (mm_call_mono _ _) 3 (st' := (46, [(0, .ref 10), (1, .int (nI D)), (2, .int (nI A))], [.int 289, .int 344, .ref 10], wP pre (wN (PP s6) (QQ s6) op oq tr dp w6 fa ob st of F), 0)) rfl ?_
      refine mm_inv (mm_call_mono _ _) (j := 68) (a := [.ref 10, .int 344, .int 289]) (M := wP pre (wN (PP s6) (QQ s6) op oq tr dp w6 fa ob st of F)) (u := 0) rfl (by decide) (rm_inv1 (D := 344) (A := 289) V6 z6 (by omega) R_6 RR_6 (fun s7 w7 h7 => ?_))
      show mm_W _ _ _ _ _ _ _ (49, [(0, .ref 10), (1, .int (nI D)), (2, .int (nI A))], [], wP pre (wN (PP s7) (QQ s7) op oq tr dp w7 fa ob st of F), 0)
      have V7 := h7.1
      have z7 := h7.2.1
      have S7 := ms_s S6 h7 (fun k => by omega)
      have F7 := m_F S6 F6 E6 h7
      have E7 := m_E E6 h7
      have R_7 := m_k R_6 h7 (by omega)
      have Hf_7 := m_k Hf_6 h7 (by omega)
      have X_7 := m_k X_6 h7 (by omega)
      have W7_7 := m_new h7 (by decide)
      refine mm_skip (mm_call_mono _ _) 4 (st' := (57, [(0, .ref 10), (1, .int (nI D)), (2, .int (nI A))], [.int 344, .int (nI A), .int 344, .ref 10], wP pre (wN (PP s7) (QQ s7) op oq tr dp w7 fa ob st of F), 0)) rfl ?_
      refine mm_inv (mm_call_mono _ _) (j := 66) (a := [.ref 10, .int 344, .int (nI A), .int 344]) (M := wP pre (wN (PP s7) (QQ s7) op oq tr dp w7 fa ob st of F)) (u := 0) rfl (by decide) (rm_mul1 (D := 344) (A := A) (B := 344) V7 z7 (by omega) R_7 (m_lo X_7 (by omega)) W7_7 (fun s8 w8 h8 => ?_))
      show mm_W _ _ _ _ _ _ _ (60, [(0, .ref 10), (1, .int (nI D)), (2, .int (nI A))], [], wP pre (wN (PP s8) (QQ s8) op oq tr dp w8 fa ob st of F), 0)
      have V8 := h8.1
      have z8 := h8.2.1
      have S8 := ms_s S7 h8 (fun k => by omega)
      have F8 := m_F S7 F7 E7 h8
      have E8 := m_E E7 h8
      have R_8 := m_k R_7 h8 (by omega)
      have Hf_8 := m_k Hf_7 h8 (by omega)
      have W8_8 := m_new h8 (by decide)
      refine mm_skip (mm_call_mono _ _) 3 (st' := (67, [(0, .ref 10), (1, .int (nI D)), (2, .int (nI A))], [.int 344, .int 346, .ref 10], wP pre (wN (PP s8) (QQ s8) op oq tr dp w8 fa ob st of F), 0)) rfl ?_
      refine mm_inv (mm_call_mono _ _) (j := 71) (a := [.ref 10, .int 346, .int 344]) (M := wP pre (wN (PP s8) (QQ s8) op oq tr dp w8 fa ob st of F)) (u := 0) rfl (by decide) (rm_root1 (D := 346) (A := 344) V8 z8 (by omega) R_8 Hf_8 W8_8 (fun s9 w9 b9 h9 => ?_))
      show mm_W _ _ _ _ _ _ _ (70, [(0, .ref 10), (1, .int (nI D)), (2, .int (nI A))], [.int b9], wP pre (wN (PP s9) (QQ s9) op oq tr dp w9 fa ob st of F), 0)
      have V9 := h9.1
      have z9 := h9.2.1
      have S9 := ms_r S8 h9 (fun k => by omega)
      have F9 := m_Fr S8 F8 E8 h9
      have W9_9 := pd_M (s := s9) (w := w9) (m := 2) (d := 346) (by decide)
      refine mm_skip (mm_call_mono _ _) 2 (st' := (72, [(3, .int b9), (0, .ref 10), (1, .int (nI D)), (2, .int (nI A))], [.int b9], wP pre (wN (PP s9) (QQ s9) op oq tr dp w9 fa ob st of F), 0)) rfl ?_
      refine mm_branch (mm_call_mono _ _) (c := b9 = 0) (s1 := (92, [(3, .int b9), (0, .ref 10), (1, .int (nI D)), (2, .int (nI A))], [], wP pre (wN (PP s9) (QQ s9) op oq tr dp w9 fa ob st of F), 0)) (s2 := (75, [(3, .int b9), (0, .ref 10), (1, .int (nI D)), (2, .int (nI A))], [], wP pre (wN (PP s9) (QQ s9) op oq tr dp w9 fa ob st of F), 0)) rfl (fun g3 => ?_) (fun g3 => ?_)
      · skip
        have E9 := m_Er0 E8 h9 g3
        refine mm_skip (mm_call_mono _ _) 1 (st' := (93, [(3, .int b9), (0, .ref 10), (1, .int (nI D)), (2, .int (nI A))], [.int b9], wP pre (wN (PP s9) (QQ s9) op oq tr dp w9 fa ob st of F), 0)) rfl ?_
        exact mm_ret (mm_call_mono _ _) (c := mm_z b9) (r := .inl (some (.int b9))) (M := wP pre (wN (PP s9) (QQ s9) op oq tr dp w9 fa ob st of F)) (u := 0) rfl h9.2.2.2.2.1 (by decide) (by have e9 := rt_f0 (U := 368) (d := D) (m := 4) S9 (fun k => id) E9 F9; rw [rrt_eq] at e9; rw [show b9 = 0 from g3]; exact hQ _ _ _ e9)
      · skip
        have E9 := m_Er1 E8 h9 g3
        refine mm_skip (mm_call_mono _ _) 3 (st' := (78, [(3, .int b9), (0, .ref 10), (1, .int (nI D)), (2, .int (nI A))], [.int 0, .int (nI D), .ref 10], wP pre (wN (PP s9) (QQ s9) op oq tr dp w9 fa ob st of F), 0)) rfl ?_
        refine mm_inv (mm_call_mono _ _) (j := 65) (a := [.ref 10, .int (nI D), .int 0]) (M := wP pre (wN (PP s9) (QQ s9) op oq tr dp w9 fa ob st of F)) (u := 0) rfl (by decide) (rm_clear_0 (D := D) V9 (by omega) (fun s10 c10 => ?_))
        show mm_W _ _ _ _ _ _ _ (81, [(3, .int b9), (0, .ref 10), (1, .int (nI D)), (2, .int (nI A))], [], wP pre (wN (PP s10) (QQ s10) op oq tr dp w9 fa ob st of F), 0)
        have V10 := c10.1
        have S10 := ms_c S9 c10 (fun k => by omega)
        have F10 := F9
        have E10 := E9
        have W9_10 := m_c W9_9 c10 (by omega)
        have C10_10 := m_cz (w := w9) c10
        refine mm_skip (mm_call_mono _ _) 6 (st' := (89, [(3, .int b9), (0, .ref 10), (1, .int (nI D)), (2, .int (nI A))], [.int 2, .int 346, .int ((nI D) + 2), .ref 10], wP pre (wN (PP s10) (QQ s10) op oq tr dp w9 fa ob st of F), 0)) rfl ?_
        rw [nI_p2 (D)]
        show mm_W _ _ _ _ _ _ _ (89, [(3, .int b9), (0, .ref 10), (1, .int (nI D)), (2, .int (nI A))], [.int 2, .int 346, .int (nI (D + 2)), .ref 10], wP pre (wN (PP s10) (QQ s10) op oq tr dp w9 fa ob st of F), 0)
        refine mm_inv (mm_call_mono _ _) (j := 58) (a := [.ref 10, .int (nI (D + 2)), .int 346, .int 2]) (M := wP pre (wN (PP s10) (QQ s10) op oq tr dp w9 fa ob st of F)) (u := 0) rfl (by decide) (rm_set_2 (D := (D + 2)) (A := 346) V10 z9 (by omega) W9_10 (fun s11 w11 h11 => ?_))
        show mm_W _ _ _ _ _ _ _ (92, [(3, .int b9), (0, .ref 10), (1, .int (nI D)), (2, .int (nI A))], [], wP pre (wN (PP s11) (QQ s11) op oq tr dp w11 fa ob st of F), 0)
        have V11 := h11.1
        have z11 := h11.2.1
        obtain ⟨q11, r11, W11_11⟩ := mR_set z9 h11 (by decide)
        have S11 := ms_s S10 h11 (fun k => by omega)
        have F11 := fun h9 h0 => F10 (r11 h9) h0
        have E11 := fun h0 => E10 (q11 h0)
        have C10_11 := m_k C10_10 h11 (by omega)
        refine mm_skip (mm_call_mono _ _) 1 (st' := (93, [(3, .int b9), (0, .ref 10), (1, .int (nI D)), (2, .int (nI A))], [.int b9], wP pre (wN (PP s11) (QQ s11) op oq tr dp w11 fa ob st of F), 0)) rfl ?_
        exact mm_ret (mm_call_mono _ _) (c := mm_z b9) (r := .inl (some (.int b9))) (M := wP pre (wN (PP s11) (QQ s11) op oq tr dp w11 fa ob st of F)) (u := 0) rfl h9.2.2.2.2.1 (by decide) (by have e9 := rt_f1 (U := 368) (d := D) (m := 4) S11 (fun k => id) E11 F11 (fun h0 => zj_2 C10_11 W11_11 h0); rw [rrt_eq] at e9; rw [show b9 = 1 from mm_z1 h9.2.2.2.2.1 g3]; exact hQ _ _ _ e9)
    · skip
      have E6 := m_Er1 E0 h6 g2
      refine mm_skip (mm_call_mono _ _) 4 (st' := (28, [(0, .ref 10), (1, .int (nI D)), (2, .int (nI A))], [.int 2, .int 344, .int (nI D), .ref 10], wP pre (wN (PP s6) (QQ s6) op oq tr dp w6 fa ob st of F), 0)) rfl ?_
      refine mm_inv (mm_call_mono _ _) (j := 58) (a := [.ref 10, .int (nI D), .int 344, .int 2]) (M := wP pre (wN (PP s6) (QQ s6) op oq tr dp w6 fa ob st of F)) (u := 0) rfl (by decide) (rm_set_2 (D := D) (A := 344) V6 z6 (by omega) W6_6 (fun s12 w12 h12 => ?_))
      show mm_W _ _ _ _ _ _ _ (31, [(0, .ref 10), (1, .int (nI D)), (2, .int (nI A))], [], wP pre (wN (PP s12) (QQ s12) op oq tr dp w12 fa ob st of F), 0)
      have V12 := h12.1
      have z12 := h12.2.1
      obtain ⟨q12, r12, W12_12⟩ := mR_set z6 h12 (by decide)
      have S12 := ms_s S6 h12 (fun k => by omega)
      have F12 := fun h9 h0 => F6 (r12 h9) h0
      have E12 := fun h0 => E6 (q12 h0)
      refine mm_skip (mm_call_mono _ _) 3 (st' := (34, [(0, .ref 10), (1, .int (nI D)), (2, .int (nI A))], [.int 2, .int (nI D), .ref 10], wP pre (wN (PP s12) (QQ s12) op oq tr dp w12 fa ob st of F), 0)) rfl ?_
      refine mm_inv (mm_call_mono _ _) (j := 65) (a := [.ref 10, .int (nI D), .int 2]) (M := wP pre (wN (PP s12) (QQ s12) op oq tr dp w12 fa ob st of F)) (u := 0) rfl (by decide) (rm_clear_2 (D := D) V12 (by omega) (fun s13 c13 => ?_))
      show mm_W _ _ _ _ _ _ _ (37, [(0, .ref 10), (1, .int (nI D)), (2, .int (nI A))], [], wP pre (wN (PP s13) (QQ s13) op oq tr dp w12 fa ob st of F), 0)
      have V13 := c13.1
      have S13 := ms_c S12 c13 (fun k => by omega)
      have F13 := F12
      have E13 := E12
      refine mm_skip (mm_call_mono _ _) 1 (st' := (38, [(0, .ref 10), (1, .int (nI D)), (2, .int (nI A))], [.int 1], wP pre (wN (PP s13) (QQ s13) op oq tr dp w12 fa ob st of F), 0)) rfl ?_
      exact mm_ret (mm_call_mono _ _) (c := mm_z 1) (r := .inl (some (.int 1))) (M := wP pre (wN (PP s13) (QQ s13) op oq tr dp w12 fa ob st of F)) (u := 0) rfl (by unfold mm_z; decide) (by decide) (hQ _ _ _ (by have e9 := rt_f1 (U := 368) (d := D) (m := 4) S13 (fun k => id) E13 F13 (fun h0 => jz_2 W12_12 c13 h0); rw [rrt_eq] at e9; exact e9))

