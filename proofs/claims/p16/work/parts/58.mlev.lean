section RO
variable (h : Nat) (M : (Nat → fr) → (Nat → fr) → Option n4) (I : (Nat → fr) → Option n4) (G : (Nat → fr) → Option Int) (R x y : Nat → fr)
/-- the reference's order of work -/
def rmulS : Option n4 := (M x y).bind fun ac => (M (sh h x) (sh h y)).bind fun bd => (M (g4 bd) R).bind fun bdr => (M x (sh h y)).bind fun ad => (M (sh h x) y).bind fun bc => (nadd h (g4 ac) (g4 bdr)).bind fun p => (nadd h (g4 ad) (g4 bc)).bind fun q => some (jn h p q)
def rnorm : Option n4 := (M x x).bind fun aa => (M (sh h x) (sh h x)).bind fun bb => (M (g4 bb) R).bind fun bbr => (nsub h (g4 aa) (g4 bbr)).bind fun n => some n
def rinvS : Option n4 := (rnorm h M R x).bind fun nn => (I (g4 nn)).bind fun m => (nneg h (sh h x)).bind fun nc => (M x (g4 m)).bind fun am => (M (g4 nc) (g4 m)).bind fun bm => some (jn h am bm)
def rsgS : Option Int := (G x).bind fun s => (G (sh h x)).bind fun t => if t = 0 ∨ t = s then some s else if s = 0 then some t else (rnorm h M R x).bind fun nn => (G (g4 nn)).bind fun u => some (s * u)
end RO
section RP
variable {h : Nat} {M : (Nat → fr) → (Nat → fr) → Option n4} {I : (Nat → fr) → Option n4} {G : (Nat → fr) → Option Int} {R x y : Nat → fr}
theorem bn {X Y : Type} (T : Option X) : (T.bind fun _ => (none : Option Y)) = none := by cases T <;> rfl
theorem bcm {X Y Z : Type} (a : Option X) (b : Option Y) (f : X → Y → Option Z) : (a.bind fun x => b.bind fun y => f x y) = b.bind fun y => a.bind fun x => f x y := by
  cases a with
  | none => cases b <;> rfl
  | some x => cases b <;> rfl
theorem rmul_eq : rmulS h M R x y = nmulS h M R x y := by
  unfold rmulS nmulS
  cases hb : M (sh h x) (sh h y) with
  | none => exact bn _
  | some bd =>
    show ((M x y).bind fun ac => (M (g4 bd) R).bind fun bdr => _) = (M (g4 bd) R).bind fun bdr => _
    cases hr : M (g4 bd) R with
    | none => exact bn _
    | some bdr =>
      show ((M x y).bind fun ac => _) = (M x y).bind fun ac => _
      cases M x y with
      | none => rfl
      | some ac =>
        show ((M x (sh h y)).bind fun ad => (M (sh h x) y).bind fun bc => (nadd h (g4 ac) (g4 bdr)).bind fun p => (nadd h (g4 ad) (g4 bc)).bind fun q => some (jn h p q)) = (nadd h (g4 ac) (g4 bdr)).bind fun p => (M x (sh h y)).bind fun ad => (M (sh h x) y).bind fun bc => (nadd h (g4 ad) (g4 bc)).bind fun q => some (jn h p q)
        cases nadd h (g4 ac) (g4 bdr) with
        | none =>
          cases M x (sh h y) with
          | none => rfl
          | some ad => exact bn _
        | some p => rfl
theorem rnorm_eq {Z : Type} (k : n4 → Option Z) : (rnorm h M R x).bind k = (M (sh h x) (sh h x)).bind fun bb => (M (g4 bb) R).bind fun bbr => (M x x).bind fun aa => (nneg h (g4 bbr)).bind fun nb => (nadd h (g4 aa) (g4 nb)).bind fun nn => k nn := by
  unfold rnorm nsub
  cases M (sh h x) (sh h x) with
  | none => cases M x x <;> rfl
  | some bb =>
    show ((M x x).bind fun aa => (M (g4 bb) R).bind fun bbr => _).bind k = (M (g4 bb) R).bind fun bbr => _
    cases M (g4 bb) R with
    | none => cases M x x <;> rfl
    | some bbr =>
      cases M x x with
      | none => rfl
      | some aa =>
        show ((((nneg h (g4 bbr)).bind fun v => (nadd h (g4 aa) (g4 v)).bind some).bind fun n => some n).bind k) = (nneg h (g4 bbr)).bind fun nb => (nadd h (g4 aa) (g4 nb)).bind fun nn => k nn
        cases nneg h (g4 bbr) with
        | none => rfl
        | some nb =>
          show ((((nadd h (g4 aa) (g4 nb)).bind some).bind fun n => some n).bind k) = (nadd h (g4 aa) (g4 nb)).bind fun nn => k nn
          cases nadd h (g4 aa) (g4 nb) <;> rfl
theorem rinv_eq : rinvS h M I R x = ninvS h M I R x := by
  unfold rinvS ninvS
  rw [rnorm_eq]
  have e : ∀ m : n4, ((nneg h (sh h x)).bind fun nc => (M x (g4 m)).bind fun am => (M (g4 nc) (g4 m)).bind fun bm => some (jn h am bm)) = (M x (g4 m)).bind fun am => (nneg h (sh h x)).bind fun nc => (M (g4 nc) (g4 m)).bind fun bm => some (jn h am bm) := fun m => bcm _ _ _
  simp only [e]
theorem rsg_eq : rsgS h M G R x = nsgS h M G R x := by
  unfold rsgS nsgS
  simp only [rnorm_eq]
end RP
theorem m_kr {s s1 : Nat → fr} {wi w1 b : Int32} {m a U d n : Nat} {x : Nat → fr} {T : Option (Option n4)} (H : isM s wi m a x) (h : rtM s wi U d n T s1 w1 b) (hd : (a + m ≤ 300 ∨ U ≤ a) ∧ (a + m ≤ d ∨ d + n ≤ a)) : isM s1 w1 m a x := fun h0 j hj => by
  rw [h.2.2.1 (a + j) (by omega) (by omega)]; exact H (h.2.2.2.2.2.1 h0).1 j hj
theorem sg_finM {s s1 : Nat → fr} {wi w1 v : Int32} {Z : Nat → Prop} {U : Nat} {T : Option Int} (h : ms s wi Z s1 w1) (hZ : ∀ k, Z k → 300 ≤ k ∧ k < U) (E : w1 = 0 → T = some v.toInt) (F : w1 = 1 → wi = 0 → T = none) (hv : sg3 v) : sgM s wi U T s1 w1 v :=
  ⟨h.1, h.2.1, fun k h1 => h.2.2.1 k (fun q => h1 (hZ k q)), h.2.2.2.1, fun h0 => ⟨h.2.2.2.2 h0, E h0⟩, F, hv⟩
theorem if_st {s t : Int32} {X : Type} {a b c : X} (h1 : ¬ t = 0) (h2 : ¬ s = t) : (if t.toInt = 0 ∨ t.toInt = s.toInt then a else b) = b := if_neg (fun q => q.elim (fun e => h1 (sg3_i (e.trans (by decide)))) (fun e => h2 (sg3_i e.symm)))
theorem if_s0 {s : Int32} {X : Type} {a b : X} (h1 : ¬ s = 0) : (if s.toInt = 0 then a else b) = b := if_neg (fun e => h1 (sg3_i (e.trans (by decide))))
theorem mR_set {s s1 : Nat → fr} {wi w1 : Int32} {d m : Nat} {x : Nat → fr} (hz : mm_z wi) (h : mR s wi 300 d m (nset m x) s1 w1) (hm : m = 1 ∨ m = 2 ∨ m = 4) : (w1 = 0 → wi = 0) ∧ (w1 = 1 → wi = 1) ∧ isM s1 w1 m d x := by
  have hT : ∃ v, nset m x = some v ∧ ∀ j, j < m → g4 v j = x j := by
    rcases hm with rfl | rfl | rfl
    · exact ⟨_, rfl, fun j hj => by rw [show j = 0 by omega]; rfl⟩
    · exact ⟨_, rfl, fun j hj => by rcases (show j = 0 ∨ j = 1 by omega) with rfl | rfl <;> rfl⟩
    · exact ⟨_, rfl, fun j hj => by rcases (show j = 0 ∨ j = 1 ∨ j = 2 ∨ j = 3 by omega) with rfl | rfl | rfl | rfl <;> rfl⟩
  obtain ⟨v, e1, e2⟩ := hT
  obtain ⟨a1, a2, a3, a4, a5, a6⟩ := h
  refine ⟨fun h0 => (a5 h0).1, fun h1 => ?_, fun h0 j hj => ?_⟩
  · rcases hz with hw | hw
    · have := a6 h1 hw; rw [e1] at this; cases this
    · exact hw
  · have e := (a5 h0).2
    rw [e1] at e
    rw [← g4_pd (s := s1) (d := d) hm hj, ← Option.some.inj e]
    exact e2 j hj
set_option maxRecDepth 100000 in
theorem rm_mul1 {d : Nat} {pre : mm_pre} {s : Nat → fr} {op oq : Nat → Int64} {tr dp wi fa ob : Int32} {st of : Nat → Int32} {F : mm_M} {D A B : Nat} {x y : Nat → fr} {R1 : Nat → fr} {Q : mm_R → mm_M → Prop} (hV : ∀ k, fv (s k)) (hz : mm_z wi) (hg : D + 2 ≤ 480 ∧ (D + 2 ≤ 299 ∨ 304 ≤ D) ∧ A + 2 ≤ 480 ∧ B + 2 ≤ 480 ∧ (A + 2 ≤ 300 ∨ 304 ≤ A) ∧ (B + 2 ≤ 300 ∨ 304 ≤ B)) (R : isM s wi 1 288 R1) (X : isM s wi 2 A x) (Y : isM s wi 2 B y) (hQ : ∀ (s1 : Nat → fr) (w1 : Int32), mR s wi 304 D 2 (nmul1 R1 x y) s1 w1 → Q (.inl none) (wP pre (wN (PP s1) (QQ s1) op oq tr dp w1 fa ob st of F))) : mm_call mm_Tb (d + 4) 66 [.ref 10, .int (nI D), .int (nI A), .int (nI B)] (wP pre (wN (PP s) (QQ s) op oq tr dp wi fa ob st of F)) Q := by
  have S0 := ms_0 (Z := fun k => (300 ≤ k ∧ k < 304) ∨ (D ≤ k ∧ k < D + 2)) hV hz
  have E0 : wi = 0 → rmulS 1 nmul0 R1 x y = Option.bind (nmul0 x y) _ := fun _ => rfl
  have F0 : wi = 1 → wi = 0 → rmulS 1 nmul0 R1 x y = none := fun h1 h0 => absurd (h1.symm.trans h0) z10
  refine mm_in mt_66 (Nat.le_of_ble_eq_true rfl) ?_
  show mm_W _ _ _ _ _ _ _ (0, [(0, .ref 10), (1, .int (nI D)), (2, .int (nI A)), (3, .int (nI B))], [], wP pre (wN (PP s) (QQ s) op oq tr dp wi fa ob st of F), 0)
  refine mm_skip (mm_call_mono _ _) 4 (st' := (6, [(0, .ref 10), (1, .int (nI D)), (2, .int (nI A)), (3, .int (nI B))], [.int (nI B), .int (nI A), .int 300, .ref 10], wP pre (wN (PP s) (QQ s) op oq tr dp wi fa ob st of F), 0)) rfl ?_
  refine mm_inv (mm_call_mono _ _) (j := 52) (a := [.ref 10, .int 300, .int (nI A), .int (nI B)]) (M := wP pre (wN (PP s) (QQ s) op oq tr dp wi fa ob st of F)) (u := 0) rfl (by decide) (rm_mul0 (D := 300) (A := A) (B := B) hV hz (by omega) (by omega) (by omega) (m_lo X (by omega)) (m_lo Y (by omega)) (fun s1 w1 h1 => ?_))
  show mm_W _ _ _ _ _ _ _ (9, [(0, .ref 10), (1, .int (nI D)), (2, .int (nI A)), (3, .int (nI B))], [], wP pre (wN (PP s1) (QQ s1) op oq tr dp w1 fa ob st of F), 0)
  have V1 := h1.1
  have z1 := h1.2.1
  have S1 := ms_s S0 h1 (fun k => by omega)
  have F1 := m_F S0 F0 E0 h1
  have E1 := m_E E0 h1
  have R_1 := m_k R h1 (by omega)
  have X_1 := m_k X h1 (by omega)
  have Y_1 := m_k Y h1 (by omega)
  have W1_1 := m_new h1 (by decide)
  refine mm_skip (mm_call_mono _ _) 8 (st' := (19, [(0, .ref 10), (1, .int (nI D)), (2, .int (nI A)), (3, .int (nI B))], [.int ((nI B) + 1), .int ((nI A) + 1), .int 301, .ref 10], wP pre (wN (PP s1) (QQ s1) op oq tr dp w1 fa ob st of F), 0)) rfl ?_
  rw [nI_p1 (B)]
  rw [nI_p1 (A)]
  show mm_W _ _ _ _ _ _ _ (19, [(0, .ref 10), (1, .int (nI D)), (2, .int (nI A)), (3, .int (nI B))], [.int (nI (B + 1)), .int (nI (A + 1)), .int 301, .ref 10], wP pre (wN (PP s1) (QQ s1) op oq tr dp w1 fa ob st of F), 0)
  refine mm_inv (mm_call_mono _ _) (j := 52) (a := [.ref 10, .int 301, .int (nI (A + 1)), .int (nI (B + 1))]) (M := wP pre (wN (PP s1) (QQ s1) op oq tr dp w1 fa ob st of F)) (u := 0) rfl (by decide) (rm_mul0 (D := 301) (A := (A + 1)) (B := (B + 1)) V1 z1 (by omega) (by omega) (by omega) (m_hi X_1 1 (by omega)) (m_hi Y_1 1 (by omega)) (fun s2 w2 h2 => ?_))
  show mm_W _ _ _ _ _ _ _ (22, [(0, .ref 10), (1, .int (nI D)), (2, .int (nI A)), (3, .int (nI B))], [], wP pre (wN (PP s2) (QQ s2) op oq tr dp w2 fa ob st of F), 0)
  have V2 := h2.1
  have z2 := h2.2.1
  have S2 := ms_s S1 h2 (fun k => by omega)
  have F2 := m_F S1 F1 E1 h2
  have E2 := m_E E1 h2
  have R_2 := m_k R_1 h2 (by omega)
  have X_2 := m_k X_1 h2 (by omega)
  have Y_2 := m_k Y_1 h2 (by omega)
  have W1_2 := m_k W1_1 h2 (by omega)
  have W2_2 := m_new h2 (by decide)
  refine mm_skip (mm_call_mono _ _) 4 (st' := (32, [(0, .ref 10), (1, .int (nI D)), (2, .int (nI A)), (3, .int (nI B))], [.int 288, .int 301, .int 301, .ref 10], wP pre (wN (PP s2) (QQ s2) op oq tr dp w2 fa ob st of F), 0)) rfl ?_
  refine mm_inv (mm_call_mono _ _) (j := 52) (a := [.ref 10, .int 301, .int 301, .int 288]) (M := wP pre (wN (PP s2) (QQ s2) op oq tr dp w2 fa ob st of F)) (u := 0) rfl (by decide) (rm_mul0 (D := 301) (A := 301) (B := 288) V2 z2 (by omega) (by omega) (by omega) W2_2 R_2 (fun s3 w3 h3 => ?_))
  show mm_W _ _ _ _ _ _ _ (35, [(0, .ref 10), (1, .int (nI D)), (2, .int (nI A)), (3, .int (nI B))], [], wP pre (wN (PP s3) (QQ s3) op oq tr dp w3 fa ob st of F), 0)
  have V3 := h3.1
  have z3 := h3.2.1
  have S3 := ms_s S2 h3 (fun k => by omega)
  have F3 := m_F S2 F2 E2 h3
  have E3 := m_E E2 h3
  have X_3 := m_k X_2 h3 (by omega)
  have Y_3 := m_k Y_2 h3 (by omega)
  have W1_3 := m_k W1_2 h3 (by omega)
  have W3_3 := m_new h3 (by decide)
  refine mm_skip (mm_call_mono _ _) 6 (st' := (43, [(0, .ref 10), (1, .int (nI D)), (2, .int (nI A)), (3, .int (nI B))], [.int ((nI B) + 1), .int (nI A), .int 302, .ref 10], wP pre (wN (PP s3) (QQ s3) op oq tr dp w3 fa ob st of F), 0)) rfl ?_
  rw [nI_p1 (B)]
  show mm_W _ _ _ _ _ _ _ (43, [(0, .ref 10), (1, .int (nI D)), (2, .int (nI A)), (3, .int (nI B))], [.int (nI (B + 1)), .int (nI A), .int 302, .ref 10], wP pre (wN (PP s3) (QQ s3) op oq tr dp w3 fa ob st of F), 0)
  refine mm_inv (mm_call_mono _ _) (j := 52) (a := [.ref 10, .int 302, .int (nI A), .int (nI (B + 1))]) (M := wP pre (wN (PP s3) (QQ s3) op oq tr dp w3 fa ob st of F)) (u := 0) rfl (by decide) (rm_mul0 (D := 302) (A := A) (B := (B + 1)) V3 z3 (by omega) (by omega) (by omega) (m_lo X_3 (by omega)) (m_hi Y_3 1 (by omega)) (fun s4 w4 h4 => ?_))
  show mm_W _ _ _ _ _ _ _ (46, [(0, .ref 10), (1, .int (nI D)), (2, .int (nI A)), (3, .int (nI B))], [], wP pre (wN (PP s4) (QQ s4) op oq tr dp w4 fa ob st of F), 0)
  have V4 := h4.1
  have z4 := h4.2.1
  have S4 := ms_s S3 h4 (fun k => by omega)
  have F4 := m_F S3 F3 E3 h4
  have E4 := m_E E3 h4
  have X_4 := m_k X_3 h4 (by omega)
  have Y_4 := m_k Y_3 h4 (by omega)
  have W1_4 := m_k W1_3 h4 (by omega)
  have W3_4 := m_k W3_3 h4 (by omega)
  have W4_4 := m_new h4 (by decide)
  refine mm_skip (mm_call_mono _ _) 6 (st' := (54, [(0, .ref 10), (1, .int (nI D)), (2, .int (nI A)), (3, .int (nI B))], [.int (nI B), .int ((nI A) + 1), .int 303, .ref 10], wP pre (wN (PP s4) (QQ s4) op oq tr dp w4 fa ob st of F), 0)) rfl ?_
  rw [nI_p1 (A)]
  show mm_W _ _ _ _ _ _ _ (54, [(0, .ref 10), (1, .int (nI D)), (2, .int (nI A)), (3, .int (nI B))], [.int (nI B), .int (nI (A + 1)), .int 303, .ref 10], wP pre (wN (PP s4) (QQ s4) op oq tr dp w4 fa ob st of F), 0)
  refine mm_inv (mm_call_mono _ _) (j := 52) (a := [.ref 10, .int 303, .int (nI (A + 1)), .int (nI B)]) (M := wP pre (wN (PP s4) (QQ s4) op oq tr dp w4 fa ob st of F)) (u := 0) rfl (by decide) (rm_mul0 (D := 303) (A := (A + 1)) (B := B) V4 z4 (by omega) (by omega) (by omega) (m_hi X_4 1 (by omega)) (m_lo Y_4 (by omega)) (fun s5 w5 h5 => ?_))
  show mm_W _ _ _ _ _ _ _ (57, [(0, .ref 10), (1, .int (nI D)), (2, .int (nI A)), (3, .int (nI B))], [], wP pre (wN (PP s5) (QQ s5) op oq tr dp w5 fa ob st of F), 0)
  have V5 := h5.1
  have z5 := h5.2.1
  have S5 := ms_s S4 h5 (fun k => by omega)
  have F5 := m_F S4 F4 E4 h5
  have E5 := m_E E4 h5
  have W1_5 := m_k W1_4 h5 (by omega)
  have W3_5 := m_k W3_4 h5 (by omega)
  have W4_5 := m_k W4_4 h5 (by omega)
  have W5_5 := m_new h5 (by decide)
  refine mm_skip (mm_call_mono _ _) 4 (st' := (65, [(0, .ref 10), (1, .int (nI D)), (2, .int (nI A)), (3, .int (nI B))], [.int 301, .int 300, .int (nI D), .ref 10], wP pre (wN (PP s5) (QQ s5) op oq tr dp w5 fa ob st of F), 0)) rfl ?_
  refine mm_inv (mm_call_mono _ _) (j := 50) (a := [.ref 10, .int (nI D), .int 300, .int 301]) (M := wP pre (wN (PP s5) (QQ s5) op oq tr dp w5 fa ob st of F)) (u := 0) rfl (by decide) (rm_add0 (D := D) (A := 300) (B := 301) V5 z5 (by omega) (by omega) (by omega) W1_5 W3_5 (fun s6 w6 h6 => ?_))
  show mm_W _ _ _ _ _ _ _ (68, [(0, .ref 10), (1, .int (nI D)), (2, .int (nI A)), (3, .int (nI B))], [], wP pre (wN (PP s6) (QQ s6) op oq tr dp w6 fa ob st of F), 0)
  have V6 := h6.1
  have z6 := h6.2.1
  have S6 := ms_s S5 h6 (fun k => by omega)
  have F6 := m_F S5 F5 E5 h6
  have E6 := m_E E5 h6
  have W4_6 := m_k W4_5 h6 (by omega)
  have W5_6 := m_k W5_5 h6 (by omega)
  have W6_6 := m_new h6 (by decide)
  refine mm_skip (mm_call_mono _ _) 6 (st' := (78, [(0, .ref 10), (1, .int (nI D)), (2, .int (nI A)), (3, .int (nI B))], [.int 303, .int 302, .int ((nI D) + 1), .ref 10], wP pre (wN (PP s6) (QQ s6) op oq tr dp w6 fa ob st of F), 0)) rfl ?_
  rw [nI_p1 (D)]
  show mm_W _ _ _ _ _ _ _ (78, [(0, .ref 10), (1, .int (nI D)), (2, .int (nI A)), (3, .int (nI B))], [.int 303, .int 302, .int (nI (D + 1)), .ref 10], wP pre (wN (PP s6) (QQ s6) op oq tr dp w6 fa ob st of F), 0)
  refine mm_inv (mm_call_mono _ _) (j := 50) (a := [.ref 10, .int (nI (D + 1)), .int 302, .int 303]) (M := wP pre (wN (PP s6) (QQ s6) op oq tr dp w6 fa ob st of F)) (u := 0) rfl (by decide) (rm_add0 (D := (D + 1)) (A := 302) (B := 303) V6 z6 (by omega) (by omega) (by omega) W4_6 W5_6 (fun s7 w7 h7 => ?_))
  show mm_W _ _ _ _ _ _ _ (81, [(0, .ref 10), (1, .int (nI D)), (2, .int (nI A)), (3, .int (nI B))], [], wP pre (wN (PP s7) (QQ s7) op oq tr dp w7 fa ob st of F), 0)
  have V7 := h7.1
  have z7 := h7.2.1
  have S7 := ms_s S6 h7 (fun k => by omega)
  have F7 := m_F S6 F6 E6 h7
  have E7 := m_E E6 h7
  have W6_7 := m_k W6_6 h7 (by omega)
  have W7_7 := m_new h7 (by decide)
  exact mm_ret (mm_call_mono _ _) (c := True) (r := .inl none) (M := wP pre (wN (PP s7) (QQ s7) op oq tr dp w7 fa ob st of F)) (u := 0) rfl trivial (by decide) (hQ _ _ (mR_T (mR_fin (T := rmulS 1 nmul0 R1 x y) (U := 304) (d := D) (m := 2) S7 (fun k => id) E7 F7 (fun h0 => jn_1 W6_7 W7_7 h0)) (fun _ => rmul_eq)))

set_option maxRecDepth 100000 in
theorem rm_norm1 {d : Nat} {pre : mm_pre} {s : Nat → fr} {op oq : Nat → Int64} {tr dp wi fa ob : Int32} {st of : Nat → Int32} {F : mm_M} {D A : Nat} {x : Nat → fr} {R1 : Nat → fr} {Q : mm_R → mm_M → Prop} (hV : ∀ k, fv (s k)) (hz : mm_z wi) (hg : D + 1 ≤ 480 ∧ (D + 1 ≤ 299 ∨ 304 ≤ D) ∧ A + 2 ≤ 480 ∧ (A + 2 ≤ 300 ∨ 304 ≤ A) ∧ (D + 1 ≤ A ∨ A + 2 ≤ D) ∧ (D + 1 ≤ 288 ∨ 291 ≤ D)) (R : isM s wi 1 288 R1) (X : isM s wi 2 A x) (hQ : ∀ (s1 : Nat → fr) (w1 : Int32), mR s wi 304 D 1 (rnorm 1 nmul0 R1 x) s1 w1 → Q (.inl none) (wP pre (wN (PP s1) (QQ s1) op oq tr dp w1 fa ob st of F))) : mm_call mm_Tb (d + 4) 67 [.ref 10, .int (nI D), .int (nI A)] (wP pre (wN (PP s) (QQ s) op oq tr dp wi fa ob st of F)) Q := by
  have S0 := ms_0 (Z := fun k => (300 ≤ k ∧ k < 304) ∨ (D ≤ k ∧ k < D + 1)) hV hz
  have E0 : wi = 0 → rnorm 1 nmul0 R1 x = Option.bind (nmul0 x x) _ := fun _ => rfl
  have F0 : wi = 1 → wi = 0 → rnorm 1 nmul0 R1 x = none := fun h1 h0 => absurd (h1.symm.trans h0) z10
  refine mm_in mt_67 (Nat.le_of_ble_eq_true rfl) ?_
  show mm_W _ _ _ _ _ _ _ (0, [(0, .ref 10), (1, .int (nI D)), (2, .int (nI A))], [], wP pre (wN (PP s) (QQ s) op oq tr dp wi fa ob st of F), 0)
  refine mm_skip (mm_call_mono _ _) 4 (st' := (4, [(0, .ref 10), (1, .int (nI D)), (2, .int (nI A))], [.int (nI A), .int (nI A), .int (nI D), .ref 10], wP pre (wN (PP s) (QQ s) op oq tr dp wi fa ob st of F), 0)) rfl ?_
  refine mm_inv (mm_call_mono _ _) (j := 52) (a := [.ref 10, .int (nI D), .int (nI A), .int (nI A)]) (M := wP pre (wN (PP s) (QQ s) op oq tr dp wi fa ob st of F)) (u := 0) rfl (by decide) (rm_mul0 (D := D) (A := A) (B := A) hV hz (by omega) (by omega) (by omega) (m_lo X (by omega)) (m_lo X (by omega)) (fun s1 w1 h1 => ?_))
  show mm_W _ _ _ _ _ _ _ (7, [(0, .ref 10), (1, .int (nI D)), (2, .int (nI A))], [], wP pre (wN (PP s1) (QQ s1) op oq tr dp w1 fa ob st of F), 0)
  have V1 := h1.1
  have z1 := h1.2.1
  have S1 := ms_s S0 h1 (fun k => by omega)
  have F1 := m_F S0 F0 E0 h1
  have E1 := m_E E0 h1
  have R_1 := m_k R h1 (by omega)
  have X_1 := m_k X h1 (by omega)
  have W1_1 := m_new h1 (by decide)
  refine mm_skip (mm_call_mono _ _) 8 (st' := (17, [(0, .ref 10), (1, .int (nI D)), (2, .int (nI A))], [.int ((nI A) + 1), .int ((nI A) + 1), .int 300, .ref 10], wP pre (wN (PP s1) (QQ s1) op oq tr dp w1 fa ob st of F), 0)) rfl ?_
  rw [nI_p1 (A)]
  show mm_W _ _ _ _ _ _ _ (17, [(0, .ref 10), (1, .int (nI D)), (2, .int (nI A))], [.int (nI (A + 1)), .int (nI (A + 1)), .int 300, .ref 10], wP pre (wN (PP s1) (QQ s1) op oq tr dp w1 fa ob st of F), 0)
  refine mm_inv (mm_call_mono _ _) (j := 52) (a := [.ref 10, .int 300, .int (nI (A + 1)), .int (nI (A + 1))]) (M := wP pre (wN (PP s1) (QQ s1) op oq tr dp w1 fa ob st of F)) (u := 0) rfl (by decide) (rm_mul0 (D := 300) (A := (A + 1)) (B := (A + 1)) V1 z1 (by omega) (by omega) (by omega) (m_hi X_1 1 (by omega)) (m_hi X_1 1 (by omega)) (fun s2 w2 h2 => ?_))
  show mm_W _ _ _ _ _ _ _ (20, [(0, .ref 10), (1, .int (nI D)), (2, .int (nI A))], [], wP pre (wN (PP s2) (QQ s2) op oq tr dp w2 fa ob st of F), 0)
  have V2 := h2.1
  have z2 := h2.2.1
  have S2 := ms_s S1 h2 (fun k => by omega)
  have F2 := m_F S1 F1 E1 h2
  have E2 := m_E E1 h2
  have R_2 := m_k R_1 h2 (by omega)
  have W1_2 := m_k W1_1 h2 (by omega)
  have W2_2 := m_new h2 (by decide)
  refine mm_skip (mm_call_mono _ _) 4 (st' := (30, [(0, .ref 10), (1, .int (nI D)), (2, .int (nI A))], [.int 288, .int 300, .int 300, .ref 10], wP pre (wN (PP s2) (QQ s2) op oq tr dp w2 fa ob st of F), 0)) rfl ?_
  refine mm_inv (mm_call_mono _ _) (j := 52) (a := [.ref 10, .int 300, .int 300, .int 288]) (M := wP pre (wN (PP s2) (QQ s2) op oq tr dp w2 fa ob st of F)) (u := 0) rfl (by decide) (rm_mul0 (D := 300) (A := 300) (B := 288) V2 z2 (by omega) (by omega) (by omega) W2_2 R_2 (fun s3 w3 h3 => ?_))
  show mm_W _ _ _ _ _ _ _ (33, [(0, .ref 10), (1, .int (nI D)), (2, .int (nI A))], [], wP pre (wN (PP s3) (QQ s3) op oq tr dp w3 fa ob st of F), 0)
  have V3 := h3.1
  have z3 := h3.2.1
  have S3 := ms_s S2 h3 (fun k => by omega)
  have F3 := m_F S2 F2 E2 h3
  have E3 := m_E E2 h3
  have W1_3 := m_k W1_2 h3 (by omega)
  have W3_3 := m_new h3 (by decide)
  refine mm_skip (mm_call_mono _ _) 4 (st' := (39, [(0, .ref 10), (1, .int (nI D)), (2, .int (nI A))], [.int 300, .int (nI D), .int (nI D), .ref 10], wP pre (wN (PP s3) (QQ s3) op oq tr dp w3 fa ob st of F), 0)) rfl ?_
  refine mm_inv (mm_call_mono _ _) (j := 51) (a := [.ref 10, .int (nI D), .int (nI D), .int 300]) (M := wP pre (wN (PP s3) (QQ s3) op oq tr dp w3 fa ob st of F)) (u := 0) rfl (by decide) (rm_sub0 (D := D) (A := D) (B := 300) V3 z3 (by omega) (by omega) (by omega) W1_3 W3_3 (fun s4 w4 h4 => ?_))
  show mm_W _ _ _ _ _ _ _ (42, [(0, .ref 10), (1, .int (nI D)), (2, .int (nI A))], [], wP pre (wN (PP s4) (QQ s4) op oq tr dp w4 fa ob st of F), 0)
  have V4 := h4.1
  have z4 := h4.2.1
  have S4 := ms_s S3 h4 (fun k => by omega)
  have F4 := m_F S3 F3 E3 h4
  have E4 := m_E E3 h4
  have W4_4 := m_new h4 (by decide)
  exact mm_ret (mm_call_mono _ _) (c := True) (r := .inl none) (M := wP pre (wN (PP s4) (QQ s4) op oq tr dp w4 fa ob st of F)) (u := 0) rfl trivial (by decide) (hQ _ _ (mR_fin (T := rnorm 1 nmul0 R1 x) (U := 304) (d := D) (m := 1) S4 (fun k => id) E4 F4 (fun _ => rfl)))

set_option maxRecDepth 100000 in
theorem rm_inv1 {d : Nat} {pre : mm_pre} {s : Nat → fr} {op oq : Nat → Int64} {tr dp wi fa ob : Int32} {st of : Nat → Int32} {F : mm_M} {D A : Nat} {x : Nat → fr} {R1 : Nat → fr} {Q : mm_R → mm_M → Prop} (hV : ∀ k, fv (s k)) (hz : mm_z wi) (hg : D + 2 ≤ 480 ∧ (D + 2 ≤ 299 ∨ 316 ≤ D) ∧ A + 2 ≤ 480 ∧ (A + 2 ≤ 300 ∨ 316 ≤ A)) (R : isM s wi 1 288 R1) (X : isM s wi 2 A x) (hQ : ∀ (s1 : Nat → fr) (w1 : Int32), mR s wi 316 D 2 (ninv1 R1 x) s1 w1 → Q (.inl none) (wP pre (wN (PP s1) (QQ s1) op oq tr dp w1 fa ob st of F))) : mm_call mm_Tb (d + 5) 68 [.ref 10, .int (nI D), .int (nI A)] (wP pre (wN (PP s) (QQ s) op oq tr dp wi fa ob st of F)) Q := by
  have S0 := ms_0 (Z := fun k => (300 ≤ k ∧ k < 316) ∨ (D ≤ k ∧ k < D + 2)) hV hz
  have E0 : wi = 0 → rinvS 1 nmul0 ninv0 R1 x = Option.bind (rnorm 1 nmul0 R1 x) _ := fun _ => rfl
  have F0 : wi = 1 → wi = 0 → rinvS 1 nmul0 ninv0 R1 x = none := fun h1 h0 => absurd (h1.symm.trans h0) z10
  refine mm_in mt_68 (Nat.le_of_ble_eq_true rfl) ?_
  show mm_W _ _ _ _ _ _ _ (0, [(0, .ref 10), (1, .int (nI D)), (2, .int (nI A))], [], wP pre (wN (PP s) (QQ s) op oq tr dp wi fa ob st of F), 0)
  refine mm_skip (mm_call_mono _ _) 3 (st' := (5, [(0, .ref 10), (1, .int (nI D)), (2, .int (nI A))], [.int (nI A), .int 312, .ref 10], wP pre (wN (PP s) (QQ s) op oq tr dp wi fa ob st of F), 0)) rfl ?_
  refine mm_inv (mm_call_mono _ _) (j := 67) (a := [.ref 10, .int 312, .int (nI A)]) (M := wP pre (wN (PP s) (QQ s) op oq tr dp wi fa ob st of F)) (u := 0) rfl (by decide) (rm_norm1 (D := 312) (A := A) hV hz (by omega) R X (fun s1 w1 h1 => ?_))
  show mm_W _ _ _ _ _ _ _ (8, [(0, .ref 10), (1, .int (nI D)), (2, .int (nI A))], [], wP pre (wN (PP s1) (QQ s1) op oq tr dp w1 fa ob st of F), 0)
  have V1 := h1.1
  have z1 := h1.2.1
  have S1 := ms_s S0 h1 (fun k => by omega)
  have F1 := m_F S0 F0 E0 h1
  have E1 := m_E E0 h1
  have X_1 := m_k X h1 (by omega)
  have W1_1 := m_new h1 (by decide)
  refine mm_skip (mm_call_mono _ _) 3 (st' := (15, [(0, .ref 10), (1, .int (nI D)), (2, .int (nI A))], [.int 312, .int 312, .ref 10], wP pre (wN (PP s1) (QQ s1) op oq tr dp w1 fa ob st of F), 0)) rfl ?_
  refine mm_inv (mm_call_mono _ _) (j := 54) (a := [.ref 10, .int 312, .int 312]) (M := wP pre (wN (PP s1) (QQ s1) op oq tr dp w1 fa ob st of F)) (u := 0) rfl (by decide) (rm_inv0 (D := 312) (A := 312) V1 z1 (by omega) (by omega) W1_1 (fun s2 w2 h2 => ?_))
  show mm_W _ _ _ _ _ _ _ (18, [(0, .ref 10), (1, .int (nI D)), (2, .int (nI A))], [], wP pre (wN (PP s2) (QQ s2) op oq tr dp w2 fa ob st of F), 0)
  have V2 := h2.1
  have z2 := h2.2.1
  have S2 := ms_s S1 h2 (fun k => by omega)
  have F2 := m_F S1 F1 E1 h2
  have E2 := m_E E1 h2
  have X_2 := m_k X_1 h2 (by omega)
  have W2_2 := m_new h2 (by decide)
  refine mm_skip (mm_call_mono _ _) 5 (st' := (25, [(0, .ref 10), (1, .int (nI D)), (2, .int (nI A))], [.int ((nI A) + 1), .int 313, .ref 10], wP pre (wN (PP s2) (QQ s2) op oq tr dp w2 fa ob st of F), 0)) rfl ?_
  rw [nI_p1 (A)]
  show mm_W _ _ _ _ _ _ _ (25, [(0, .ref 10), (1, .int (nI D)), (2, .int (nI A))], [.int (nI (A + 1)), .int 313, .ref 10], wP pre (wN (PP s2) (QQ s2) op oq tr dp w2 fa ob st of F), 0)
  refine mm_inv (mm_call_mono _ _) (j := 53) (a := [.ref 10, .int 313, .int (nI (A + 1))]) (M := wP pre (wN (PP s2) (QQ s2) op oq tr dp w2 fa ob st of F)) (u := 0) rfl (by decide) (rm_neg0 (D := 313) (A := (A + 1)) V2 z2 (by omega) (by omega) (m_hi X_2 1 (by omega)) (fun s3 w3 h3 => ?_))
  show mm_W _ _ _ _ _ _ _ (28, [(0, .ref 10), (1, .int (nI D)), (2, .int (nI A))], [], wP pre (wN (PP s3) (QQ s3) op oq tr dp w3 fa ob st of F), 0)
  have V3 := h3.1
  have z3 := h3.2.1
  have S3 := ms_s S2 h3 (fun k => by omega)
  have F3 := m_F S2 F2 E2 h3
  have E3 := m_E E2 h3
  have X_3 := m_k X_2 h3 (by omega)
  have W2_3 := m_k W2_2 h3 (by omega)
  have W3_3 := m_new h3 (by decide)
  refine mm_skip (mm_call_mono _ _) 4 (st' := (34, [(0, .ref 10), (1, .int (nI D)), (2, .int (nI A))], [.int 312, .int (nI A), .int (nI D), .ref 10], wP pre (wN (PP s3) (QQ s3) op oq tr dp w3 fa ob st of F), 0)) rfl ?_
  refine mm_inv (mm_call_mono _ _) (j := 52) (a := [.ref 10, .int (nI D), .int (nI A), .int 312]) (M := wP pre (wN (PP s3) (QQ s3) op oq tr dp w3 fa ob st of F)) (u := 0) rfl (by decide) (rm_mul0 (D := D) (A := A) (B := 312) V3 z3 (by omega) (by omega) (by omega) (m_lo X_3 (by omega)) W2_3 (fun s4 w4 h4 => ?_))
  show mm_W _ _ _ _ _ _ _ (37, [(0, .ref 10), (1, .int (nI D)), (2, .int (nI A))], [], wP pre (wN (PP s4) (QQ s4) op oq tr dp w4 fa ob st of F), 0)
  have V4 := h4.1
  have z4 := h4.2.1
  have S4 := ms_s S3 h4 (fun k => by omega)
  have F4 := m_F S3 F3 E3 h4
  have E4 := m_E E3 h4
  have W2_4 := m_k W2_3 h4 (by omega)
  have W3_4 := m_k W3_3 h4 (by omega)
  have W4_4 := m_new h4 (by decide)
  refine mm_skip (mm_call_mono _ _) 6 (st' := (47, [(0, .ref 10), (1, .int (nI D)), (2, .int (nI A))], [.int 312, .int 313, .int ((nI D) + 1), .ref 10], wP pre (wN (PP s4) (QQ s4) op oq tr dp w4 fa ob st of F), 0)) rfl ?_
  rw [nI_p1 (D)]
  show mm_W _ _ _ _ _ _ _ (47, [(0, .ref 10), (1, .int (nI D)), (2, .int (nI A))], [.int 312, .int 313, .int (nI (D + 1)), .ref 10], wP pre (wN (PP s4) (QQ s4) op oq tr dp w4 fa ob st of F), 0)
  refine mm_inv (mm_call_mono _ _) (j := 52) (a := [.ref 10, .int (nI (D + 1)), .int 313, .int 312]) (M := wP pre (wN (PP s4) (QQ s4) op oq tr dp w4 fa ob st of F)) (u := 0) rfl (by decide) (rm_mul0 (D := (D + 1)) (A := 313) (B := 312) V4 z4 (by omega) (by omega) (by omega) W3_4 W2_4 (fun s5 w5 h5 => ?_))
  show mm_W _ _ _ _ _ _ _ (50, [(0, .ref 10), (1, .int (nI D)), (2, .int (nI A))], [], wP pre (wN (PP s5) (QQ s5) op oq tr dp w5 fa ob st of F), 0)
  have V5 := h5.1
  have z5 := h5.2.1
  have S5 := ms_s S4 h5 (fun k => by omega)
  have F5 := m_F S4 F4 E4 h5
  have E5 := m_E E4 h5
  have W4_5 := m_k W4_4 h5 (by omega)
  have W5_5 := m_new h5 (by decide)
  exact mm_ret (mm_call_mono _ _) (c := True) (r := .inl none) (M := wP pre (wN (PP s5) (QQ s5) op oq tr dp w5 fa ob st of F)) (u := 0) rfl trivial (by decide) (hQ _ _ (mR_T (mR_fin (T := rinvS 1 nmul0 ninv0 R1 x) (U := 316) (d := D) (m := 2) S5 (fun k => id) E5 F5 (fun h0 => jn_1 W4_5 W5_5 h0)) (fun _ => rinv_eq)))

set_option maxRecDepth 100000 in
theorem rm_sign1 {d : Nat} {pre : mm_pre} {s : Nat → fr} {op oq : Nat → Int64} {tr dp wi fa ob : Int32} {st of : Nat → Int32} {F : mm_M} {A : Nat} {x : Nat → fr} {R1 : Nat → fr} {Q : mm_R → mm_M → Prop} (hV : ∀ k, fv (s k)) (hz : mm_z wi) (hg : A + 2 ≤ 480 ∧ (A + 2 ≤ 300 ∨ 328 ≤ A)) (R : isM s wi 1 288 R1) (X : isM s wi 2 A x) (hQ : ∀ (s1 : Nat → fr) (w1 v : Int32), sgM s wi 328 (nsg1 R1 x) s1 w1 v → Q (.inl (some (.int v))) (wP pre (wN (PP s1) (QQ s1) op oq tr dp w1 fa ob st of F))) : mm_call mm_Tb (d + 5) 69 [.ref 10, .int (nI A)] (wP pre (wN (PP s) (QQ s) op oq tr dp wi fa ob st of F)) Q := by
  have S0 := ms_0 (Z := fun k => 300 ≤ k ∧ k < 328) hV hz
  have E0 : wi = 0 → rsgS 1 nmul0 nsg0 R1 x = Option.bind (nsg0 x) _ := fun _ => rfl
  have F0 : wi = 1 → wi = 0 → rsgS 1 nmul0 nsg0 R1 x = none := fun h1 h0 => absurd (h1.symm.trans h0) z10
  refine mm_in mt_69 (Nat.le_of_ble_eq_true rfl) ?_
  show mm_W _ _ _ _ _ _ _ (0, [(0, .ref 10), (1, .int (nI A))], [], wP pre (wN (PP s) (QQ s) op oq tr dp wi fa ob st of F), 0)
  refine mm_skip (mm_call_mono _ _) 2 (st' := (2, [(0, .ref 10), (1, .int (nI A))], [.int (nI A), .ref 10], wP pre (wN (PP s) (QQ s) op oq tr dp wi fa ob st of F), 0)) rfl ?_
  refine mm_inv (mm_call_mono _ _) (j := 55) (a := [.ref 10, .int (nI A)]) (M := wP pre (wN (PP s) (QQ s) op oq tr dp wi fa ob st of F)) (u := 0) rfl (by decide) (rm_sign0 (A := A) hV hz (by omega) (m_lo X (by omega)) (fun s1 w1 v1 h1 => ?_))
  show mm_W _ _ _ _ _ _ _ (5, [(0, .ref 10), (1, .int (nI A))], [.int v1], wP pre (wN (PP s1) (QQ s1) op oq tr dp w1 fa ob st of F), 0)
  have V1 := h1.1
  have z1 := h1.2.1
  have S1 := ms_g S0 h1 (fun k => by omega)
  have F1 := m_Fg S0 F0 E0 h1
  have E1 := m_Eg E0 h1
  have R_1 := m_kg R h1 (by omega)
  have X_1 := m_kg X h1 (by omega)
  refine mm_skip (mm_call_mono _ _) 5 (st' := (10, [(2, .int v1), (0, .ref 10), (1, .int (nI A))], [.int ((nI A) + 1), .ref 10], wP pre (wN (PP s1) (QQ s1) op oq tr dp w1 fa ob st of F), 0)) rfl ?_
  rw [nI_p1 (A)]
  show mm_W _ _ _ _ _ _ _ (10, [(2, .int v1), (0, .ref 10), (1, .int (nI A))], [.int (nI (A + 1)), .ref 10], wP pre (wN (PP s1) (QQ s1) op oq tr dp w1 fa ob st of F), 0)
  refine mm_inv (mm_call_mono _ _) (j := 55) (a := [.ref 10, .int (nI (A + 1))]) (M := wP pre (wN (PP s1) (QQ s1) op oq tr dp w1 fa ob st of F)) (u := 0) rfl (by decide) (rm_sign0 (A := (A + 1)) V1 z1 (by omega) (m_hi X_1 1 (by omega)) (fun s2 w2 v2 h2 => ?_))
  show mm_W _ _ _ _ _ _ _ (13, [(2, .int v1), (0, .ref 10), (1, .int (nI A))], [.int v2], wP pre (wN (PP s2) (QQ s2) op oq tr dp w2 fa ob st of F), 0)
  have V2 := h2.1
  have z2 := h2.2.1
  have S2 := ms_g S1 h2 (fun k => by omega)
  have F2 := m_Fg S1 F1 E1 h2
  have E2 := m_Eg E1 h2
  have R_2 := m_kg R_1 h2 (by omega)
  have X_2 := m_kg X_1 h2 (by omega)
  refine mm_skip (mm_call_mono _ _) 2 (st' := (15, [(3, .int v2), (2, .int v1), (0, .ref 10), (1, .int (nI A))], [.int v2], wP pre (wN (PP s2) (QQ s2) op oq tr dp w2 fa ob st of F), 0)) rfl ?_
  refine mm_branch (mm_call_mono _ _) (c := v2 = 0) (s1 := (23, [(3, .int v2), (2, .int v1), (0, .ref 10), (1, .int (nI A))], [], wP pre (wN (PP s2) (QQ s2) op oq tr dp w2 fa ob st of F), 0)) (s2 := (18, [(3, .int v2), (2, .int v1), (0, .ref 10), (1, .int (nI A))], [], wP pre (wN (PP s2) (QQ s2) op oq tr dp w2 fa ob st of F), 0)) rfl (fun g1 => ?_) (fun g1 => ?_)
  · skip
    refine mm_skip (mm_call_mono _ _) 1 (st' := (24, [(3, .int v2), (2, .int v1), (0, .ref 10), (1, .int (nI A))], [.int v1], wP pre (wN (PP s2) (QQ s2) op oq tr dp w2 fa ob st of F), 0)) rfl ?_
    exact mm_ret (mm_call_mono _ _) (c := True) (r := .inl (some (.int v1))) (M := wP pre (wN (PP s2) (QQ s2) op oq tr dp w2 fa ob st of F)) (u := 0) rfl trivial (by decide) (hQ _ _ _ (by have e9 := sg_finM (U := 328) S2 (fun k => by omega) (v := v1) (fun h0 => (E2 h0).trans (if_pos (Or.inl (by rw [g1]; decide)))) F2 h1.2.2.2.2.2.2; rw [rsg_eq] at e9; exact e9))
  · skip
    refine mm_skip (mm_call_mono _ _) 2 (st' := (20, [(3, .int v2), (2, .int v1), (0, .ref 10), (1, .int (nI A))], [.int v2, .int v1], wP pre (wN (PP s2) (QQ s2) op oq tr dp w2 fa ob st of F), 0)) rfl ?_
    refine mm_branch (mm_call_mono _ _) (c := v1 = v2) (s1 := (23, [(3, .int v2), (2, .int v1), (0, .ref 10), (1, .int (nI A))], [], wP pre (wN (PP s2) (QQ s2) op oq tr dp w2 fa ob st of F), 0)) (s2 := (25, [(3, .int v2), (2, .int v1), (0, .ref 10), (1, .int (nI A))], [], wP pre (wN (PP s2) (QQ s2) op oq tr dp w2 fa ob st of F), 0)) rfl (fun g2 => ?_) (fun g2 => ?_)
    · skip
      refine mm_skip (mm_call_mono _ _) 1 (st' := (24, [(3, .int v2), (2, .int v1), (0, .ref 10), (1, .int (nI A))], [.int v1], wP pre (wN (PP s2) (QQ s2) op oq tr dp w2 fa ob st of F), 0)) rfl ?_
      exact mm_ret (mm_call_mono _ _) (c := True) (r := .inl (some (.int v1))) (M := wP pre (wN (PP s2) (QQ s2) op oq tr dp w2 fa ob st of F)) (u := 0) rfl trivial (by decide) (hQ _ _ _ (by have e9 := sg_finM (U := 328) S2 (fun k => by omega) (v := v1) (fun h0 => (E2 h0).trans (if_pos (Or.inr (by rw [g2])))) F2 h1.2.2.2.2.2.2; rw [rsg_eq] at e9; exact e9))
    · skip
      refine mm_skip (mm_call_mono _ _) 1 (st' := (26, [(3, .int v2), (2, .int v1), (0, .ref 10), (1, .int (nI A))], [.int v1], wP pre (wN (PP s2) (QQ s2) op oq tr dp w2 fa ob st of F), 0)) rfl ?_
      refine mm_branch (mm_call_mono _ _) (c := v1 = 0) (s1 := (29, [(3, .int v2), (2, .int v1), (0, .ref 10), (1, .int (nI A))], [], wP pre (wN (PP s2) (QQ s2) op oq tr dp w2 fa ob st of F), 0)) (s2 := (31, [(3, .int v2), (2, .int v1), (0, .ref 10), (1, .int (nI A))], [], wP pre (wN (PP s2) (QQ s2) op oq tr dp w2 fa ob st of F), 0)) rfl (fun g3 => ?_) (fun g3 => ?_)
      · skip
        refine mm_skip (mm_call_mono _ _) 1 (st' := (30, [(3, .int v2), (2, .int v1), (0, .ref 10), (1, .int (nI A))], [.int v2], wP pre (wN (PP s2) (QQ s2) op oq tr dp w2 fa ob st of F), 0)) rfl ?_
        exact mm_ret (mm_call_mono _ _) (c := True) (r := .inl (some (.int v2))) (M := wP pre (wN (PP s2) (QQ s2) op oq tr dp w2 fa ob st of F)) (u := 0) rfl trivial (by decide) (hQ _ _ _ (by have e9 := sg_finM (U := 328) S2 (fun k => by omega) (v := v2) (fun h0 => (E2 h0).trans ((if_st (c := some (0 : Int)) g1 g2).trans (if_pos (by rw [g3]; decide)))) F2 h2.2.2.2.2.2.2; rw [rsg_eq] at e9; exact e9))
      · skip
        have E2 := fun h0 => ((E2 h0).trans (if_st (c := some (0 : Int)) g1 g2)).trans (if_s0 g3)
        refine mm_skip (mm_call_mono _ _) 3 (st' := (36, [(3, .int v2), (2, .int v1), (0, .ref 10), (1, .int (nI A))], [.int (nI A), .int 324, .ref 10], wP pre (wN (PP s2) (QQ s2) op oq tr dp w2 fa ob st of F), 0)) rfl ?_
        refine mm_inv (mm_call_mono _ _) (j := 67) (a := [.ref 10, .int 324, .int (nI A)]) (M := wP pre (wN (PP s2) (QQ s2) op oq tr dp w2 fa ob st of F)) (u := 0) rfl (by decide) (rm_norm1 (D := 324) (A := A) V2 z2 (by omega) R_2 X_2 (fun s3 w3 h3 => ?_))
        show mm_W _ _ _ _ _ _ _ (39, [(3, .int v2), (2, .int v1), (0, .ref 10), (1, .int (nI A))], [], wP pre (wN (PP s3) (QQ s3) op oq tr dp w3 fa ob st of F), 0)
        have V3 := h3.1
        have z3 := h3.2.1
        have S3 := ms_s S2 h3 (fun k => by omega)
        have F3 := m_F S2 F2 E2 h3
        have E3 := m_E E2 h3
        have W3_3 := m_new h3 (by decide)
        refine mm_skip (mm_call_mono _ _) 3 (st' := (44, [(3, .int v2), (2, .int v1), (0, .ref 10), (1, .int (nI A))], [.int 324, .ref 10, .int v1], wP pre (wN (PP s3) (QQ s3) op oq tr dp w3 fa ob st of F), 0)) rfl ?_
        refine mm_inv (mm_call_mono _ _) (j := 55) (a := [.ref 10, .int 324]) (M := wP pre (wN (PP s3) (QQ s3) op oq tr dp w3 fa ob st of F)) (u := 0) rfl (by decide) (rm_sign0 (A := 324) V3 z3 (by omega) W3_3 (fun s4 w4 v4 h4 => ?_))
        show mm_W _ _ _ _ _ _ _ (47, [(3, .int v2), (2, .int v1), (0, .ref 10), (1, .int (nI A))], [.int v4, .int v1], wP pre (wN (PP s4) (QQ s4) op oq tr dp w4 fa ob st of F), 0)
        have V4 := h4.1
        have z4 := h4.2.1
        have S4 := ms_g S3 h4 (fun k => by omega)
        have F4 := m_Fg S3 F3 E3 h4
        have E4 := m_Eg E3 h4
        refine mm_skip (mm_call_mono _ _) 1 (st' := (48, [(3, .int v2), (2, .int v1), (0, .ref 10), (1, .int (nI A))], [.int (v1 * v4)], wP pre (wN (PP s4) (QQ s4) op oq tr dp w4 fa ob st of F), 0)) rfl ?_
        exact mm_ret (mm_call_mono _ _) (c := True) (r := .inl (some (.int (v1 * v4)))) (M := wP pre (wN (PP s4) (QQ s4) op oq tr dp w4 fa ob st of F)) (u := 0) rfl trivial (by decide) (hQ _ _ _ (by have e9 := sg_finM (U := 328) S4 (fun k => by omega) (v := v1 * v4) (fun h0 => (E4 h0).trans (congrArg some (sg3_mul h1.2.2.2.2.2.2 h4.2.2.2.2.2.2).2.symm)) F4 (sg3_mul h1.2.2.2.2.2.2 h4.2.2.2.2.2.2).1; rw [rsg_eq] at e9; exact e9))

set_option maxRecDepth 100000 in
theorem rm_mul2 {d : Nat} {pre : mm_pre} {s : Nat → fr} {op oq : Nat → Int64} {tr dp wi fa ob : Int32} {st of : Nat → Int32} {F : mm_M} {D A B : Nat} {x y : Nat → fr} {R1 R2 : Nat → fr} {Q : mm_R → mm_M → Prop} (hV : ∀ k, fv (s k)) (hz : mm_z wi) (hg : D + 4 ≤ 480 ∧ (D + 4 ≤ 299 ∨ 312 ≤ D) ∧ A + 4 ≤ 480 ∧ B + 4 ≤ 480 ∧ (A + 4 ≤ 300 ∨ 312 ≤ A) ∧ (B + 4 ≤ 300 ∨ 312 ≤ B)) (R : isM s wi 1 288 R1) (RR : isM s wi 2 289 R2) (X : isM s wi 4 A x) (Y : isM s wi 4 B y) (hQ : ∀ (s1 : Nat → fr) (w1 : Int32), mR s wi 312 D 4 (nmul2 R1 R2 x y) s1 w1 → Q (.inl none) (wP pre (wN (PP s1) (QQ s1) op oq tr dp w1 fa ob st of F))) : mm_call mm_Tb (d + 5) 72 [.ref 10, .int (nI D), .int (nI A), .int (nI B)] (wP pre (wN (PP s) (QQ s) op oq tr dp wi fa ob st of F)) Q := by
  have S0 := ms_0 (Z := fun k => (300 ≤ k ∧ k < 312) ∨ (D ≤ k ∧ k < D + 4)) hV hz
  have E0 : wi = 0 → rmulS 2 (nmul1 R1) R2 x y = Option.bind ((nmul1 R1) x y) _ := fun _ => rfl
  have F0 : wi = 1 → wi = 0 → rmulS 2 (nmul1 R1) R2 x y = none := fun h1 h0 => absurd (h1.symm.trans h0) z10
  refine mm_in mt_72 (Nat.le_of_ble_eq_true rfl) ?_
  show mm_W _ _ _ _ _ _ _ (0, [(0, .ref 10), (1, .int (nI D)), (2, .int (nI A)), (3, .int (nI B))], [], wP pre (wN (PP s) (QQ s) op oq tr dp wi fa ob st of F), 0)
  refine mm_skip (mm_call_mono _ _) 4 (st' := (6, [(0, .ref 10), (1, .int (nI D)), (2, .int (nI A)), (3, .int (nI B))], [.int (nI B), .int (nI A), .int 304, .ref 10], wP pre (wN (PP s) (QQ s) op oq tr dp wi fa ob st of F), 0)) rfl ?_
  refine mm_inv (mm_call_mono _ _) (j := 66) (a := [.ref 10, .int 304, .int (nI A), .int (nI B)]) (M := wP pre (wN (PP s) (QQ s) op oq tr dp wi fa ob st of F)) (u := 0) rfl (by decide) (rm_mul1 (D := 304) (A := A) (B := B) hV hz (by omega) R (m_lo X (by omega)) (m_lo Y (by omega)) (fun s1 w1 h1 => ?_))
  show mm_W _ _ _ _ _ _ _ (9, [(0, .ref 10), (1, .int (nI D)), (2, .int (nI A)), (3, .int (nI B))], [], wP pre (wN (PP s1) (QQ s1) op oq tr dp w1 fa ob st of F), 0)
  have V1 := h1.1
  have z1 := h1.2.1
  have S1 := ms_s S0 h1 (fun k => by omega)
  have F1 := m_F S0 F0 E0 h1
  have E1 := m_E E0 h1
  have R_1 := m_k R h1 (by omega)
  have RR_1 := m_k RR h1 (by omega)
  have X_1 := m_k X h1 (by omega)
  have Y_1 := m_k Y h1 (by omega)
  have W1_1 := m_new h1 (by decide)
  refine mm_skip (mm_call_mono _ _) 8 (st' := (19, [(0, .ref 10), (1, .int (nI D)), (2, .int (nI A)), (3, .int (nI B))], [.int ((nI B) + 2), .int ((nI A) + 2), .int 306, .ref 10], wP pre (wN (PP s1) (QQ s1) op oq tr dp w1 fa ob st of F), 0)) rfl ?_
  rw [nI_p2 (B)]
  rw [nI_p2 (A)]
  show mm_W _ _ _ _ _ _ _ (19, [(0, .ref 10), (1, .int (nI D)), (2, .int (nI A)), (3, .int (nI B))], [.int (nI (B + 2)), .int (nI (A + 2)), .int 306, .ref 10], wP pre (wN (PP s1) (QQ s1) op oq tr dp w1 fa ob st of F), 0)
  refine mm_inv (mm_call_mono _ _) (j := 66) (a := [.ref 10, .int 306, .int (nI (A + 2)), .int (nI (B + 2))]) (M := wP pre (wN (PP s1) (QQ s1) op oq tr dp w1 fa ob st of F)) (u := 0) rfl (by decide) (rm_mul1 (D := 306) (A := (A + 2)) (B := (B + 2)) V1 z1 (by omega) R_1 (m_hi X_1 2 (by omega)) (m_hi Y_1 2 (by omega)) (fun s2 w2 h2 => ?_))
  show mm_W _ _ _ _ _ _ _ (22, [(0, .ref 10), (1, .int (nI D)), (2, .int (nI A)), (3, .int (nI B))], [], wP pre (wN (PP s2) (QQ s2) op oq tr dp w2 fa ob st of F), 0)
  have V2 := h2.1
  have z2 := h2.2.1
  have S2 := ms_s S1 h2 (fun k => by omega)
  have F2 := m_F S1 F1 E1 h2
  have E2 := m_E E1 h2
  have R_2 := m_k R_1 h2 (by omega)
  have RR_2 := m_k RR_1 h2 (by omega)
  have X_2 := m_k X_1 h2 (by omega)
  have Y_2 := m_k Y_1 h2 (by omega)
  have W1_2 := m_k W1_1 h2 (by omega)
  have W2_2 := m_new h2 (by decide)
  refine mm_skip (mm_call_mono _ _) 4 (st' := (32, [(0, .ref 10), (1, .int (nI D)), (2, .int (nI A)), (3, .int (nI B))], [.int 289, .int 306, .int 306, .ref 10], wP pre (wN (PP s2) (QQ s2) op oq tr dp w2 fa ob st of F), 0)) rfl ?_
  refine mm_inv (mm_call_mono _ _) (j := 66) (a := [.ref 10, .int 306, .int 306, .int 289]) (M := wP pre (wN (PP s2) (QQ s2) op oq tr dp w2 fa ob st of F)) (u := 0) rfl (by decide) (rm_mul1 (D := 306) (A := 306) (B := 289) V2 z2 (by omega) R_2 W2_2 RR_2 (fun s3 w3 h3 => ?_))
  show mm_W _ _ _ _ _ _ _ (35, [(0, .ref 10), (1, .int (nI D)), (2, .int (nI A)), (3, .int (nI B))], [], wP pre (wN (PP s3) (QQ s3) op oq tr dp w3 fa ob st of F), 0)
  have V3 := h3.1
  have z3 := h3.2.1
  have S3 := ms_s S2 h3 (fun k => by omega)
  have F3 := m_F S2 F2 E2 h3
  have E3 := m_E E2 h3
  have R_3 := m_k R_2 h3 (by omega)
  have X_3 := m_k X_2 h3 (by omega)
  have Y_3 := m_k Y_2 h3 (by omega)
  have W1_3 := m_k W1_2 h3 (by omega)
  have W3_3 := m_new h3 (by decide)
  refine mm_skip (mm_call_mono _ _) 6 (st' := (43, [(0, .ref 10), (1, .int (nI D)), (2, .int (nI A)), (3, .int (nI B))], [.int ((nI B) + 2), .int (nI A), .int 308, .ref 10], wP pre (wN (PP s3) (QQ s3) op oq tr dp w3 fa ob st of F), 0)) rfl ?_
  rw [nI_p2 (B)]
  show mm_W _ _ _ _ _ _ _ (43, [(0, .ref 10), (1, .int (nI D)), (2, .int (nI A)), (3, .int (nI B))], [.int (nI (B + 2)), .int (nI A), .int 308, .ref 10], wP pre (wN (PP s3) (QQ s3) op oq tr dp w3 fa ob st of F), 0)
  refine mm_inv (mm_call_mono _ _) (j := 66) (a := [.ref 10, .int 308, .int (nI A), .int (nI (B + 2))]) (M := wP pre (wN (PP s3) (QQ s3) op oq tr dp w3 fa ob st of F)) (u := 0) rfl (by decide) (rm_mul1 (D := 308) (A := A) (B := (B + 2)) V3 z3 (by omega) R_3 (m_lo X_3 (by omega)) (m_hi Y_3 2 (by omega)) (fun s4 w4 h4 => ?_))
  show mm_W _ _ _ _ _ _ _ (46, [(0, .ref 10), (1, .int (nI D)), (2, .int (nI A)), (3, .int (nI B))], [], wP pre (wN (PP s4) (QQ s4) op oq tr dp w4 fa ob st of F), 0)
  have V4 := h4.1
  have z4 := h4.2.1
  have S4 := ms_s S3 h4 (fun k => by omega)
  have F4 := m_F S3 F3 E3 h4
  have E4 := m_E E3 h4
  have R_4 := m_k R_3 h4 (by omega)
  have X_4 := m_k X_3 h4 (by omega)
  have Y_4 := m_k Y_3 h4 (by omega)
  have W1_4 := m_k W1_3 h4 (by omega)
  have W3_4 := m_k W3_3 h4 (by omega)
  have W4_4 := m_new h4 (by decide)
  refine mm_skip (mm_call_mono _ _) 6 (st' := (54, [(0, .ref 10), (1, .int (nI D)), (2, .int (nI A)), (3, .int (nI B))], [.int (nI B), .int ((nI A) + 2), .int 310, .ref 10], wP pre (wN (PP s4) (QQ s4) op oq tr dp w4 fa ob st of F), 0)) rfl ?_
  rw [nI_p2 (A)]
  show mm_W _ _ _ _ _ _ _ (54, [(0, .ref 10), (1, .int (nI D)), (2, .int (nI A)), (3, .int (nI B))], [.int (nI B), .int (nI (A + 2)), .int 310, .ref 10], wP pre (wN (PP s4) (QQ s4) op oq tr dp w4 fa ob st of F), 0)
  refine mm_inv (mm_call_mono _ _) (j := 66) (a := [.ref 10, .int 310, .int (nI (A + 2)), .int (nI B)]) (M := wP pre (wN (PP s4) (QQ s4) op oq tr dp w4 fa ob st of F)) (u := 0) rfl (by decide) (rm_mul1 (D := 310) (A := (A + 2)) (B := B) V4 z4 (by omega) R_4 (m_hi X_4 2 (by omega)) (m_lo Y_4 (by omega)) (fun s5 w5 h5 => ?_))
  show mm_W _ _ _ _ _ _ _ (57, [(0, .ref 10), (1, .int (nI D)), (2, .int (nI A)), (3, .int (nI B))], [], wP pre (wN (PP s5) (QQ s5) op oq tr dp w5 fa ob st of F), 0)
  have V5 := h5.1
  have z5 := h5.2.1
  have S5 := ms_s S4 h5 (fun k => by omega)
  have F5 := m_F S4 F4 E4 h5
  have E5 := m_E E4 h5
  have W1_5 := m_k W1_4 h5 (by omega)
  have W3_5 := m_k W3_4 h5 (by omega)
  have W4_5 := m_k W4_4 h5 (by omega)
  have W5_5 := m_new h5 (by decide)
  refine mm_skip (mm_call_mono _ _) 5 (st' := (66, [(0, .ref 10), (1, .int (nI D)), (2, .int (nI A)), (3, .int (nI B))], [.int 2, .int 306, .int 304, .int (nI D), .ref 10], wP pre (wN (PP s5) (QQ s5) op oq tr dp w5 fa ob st of F), 0)) rfl ?_
  refine mm_inv (mm_call_mono _ _) (j := 59) (a := [.ref 10, .int (nI D), .int 304, .int 306, .int 2]) (M := wP pre (wN (PP s5) (QQ s5) op oq tr dp w5 fa ob st of F)) (u := 0) rfl (by decide) (rm_add_2 (D := D) (A := 304) (B := 306) V5 z5 (by omega) W1_5 W3_5 (fun s6 w6 h6 => ?_))
  show mm_W _ _ _ _ _ _ _ (69, [(0, .ref 10), (1, .int (nI D)), (2, .int (nI A)), (3, .int (nI B))], [], wP pre (wN (PP s6) (QQ s6) op oq tr dp w6 fa ob st of F), 0)
  have V6 := h6.1
  have z6 := h6.2.1
  have S6 := ms_s S5 h6 (fun k => by omega)
  have F6 := m_F S5 F5 E5 h6
  have E6 := m_E E5 h6
  have W4_6 := m_k W4_5 h6 (by omega)
  have W5_6 := m_k W5_5 h6 (by omega)
  have W6_6 := m_new h6 (by decide)
  refine mm_skip (mm_call_mono _ _) 7 (st' := (80, [(0, .ref 10), (1, .int (nI D)), (2, .int (nI A)), (3, .int (nI B))], [.int 2, .int 310, .int 308, .int ((nI D) + 2), .ref 10], wP pre (wN (PP s6) (QQ s6) op oq tr dp w6 fa ob st of F), 0)) rfl ?_
  rw [nI_p2 (D)]
  show mm_W _ _ _ _ _ _ _ (80, [(0, .ref 10), (1, .int (nI D)), (2, .int (nI A)), (3, .int (nI B))], [.int 2, .int 310, .int 308, .int (nI (D + 2)), .ref 10], wP pre (wN (PP s6) (QQ s6) op oq tr dp w6 fa ob st of F), 0)
  refine mm_inv (mm_call_mono _ _) (j := 59) (a := [.ref 10, .int (nI (D + 2)), .int 308, .int 310, .int 2]) (M := wP pre (wN (PP s6) (QQ s6) op oq tr dp w6 fa ob st of F)) (u := 0) rfl (by decide) (rm_add_2 (D := (D + 2)) (A := 308) (B := 310) V6 z6 (by omega) W4_6 W5_6 (fun s7 w7 h7 => ?_))
  show mm_W _ _ _ _ _ _ _ (83, [(0, .ref 10), (1, .int (nI D)), (2, .int (nI A)), (3, .int (nI B))], [], wP pre (wN (PP s7) (QQ s7) op oq tr dp w7 fa ob st of F), 0)
  have V7 := h7.1
  have z7 := h7.2.1
  have S7 := ms_s S6 h7 (fun k => by omega)
  have F7 := m_F S6 F6 E6 h7
  have E7 := m_E E6 h7
  have W6_7 := m_k W6_6 h7 (by omega)
  have W7_7 := m_new h7 (by decide)
  exact mm_ret (mm_call_mono _ _) (c := True) (r := .inl none) (M := wP pre (wN (PP s7) (QQ s7) op oq tr dp w7 fa ob st of F)) (u := 0) rfl trivial (by decide) (hQ _ _ (mR_T (mR_fin (T := rmulS 2 (nmul1 R1) R2 x y) (U := 312) (d := D) (m := 4) S7 (fun k => id) E7 F7 (fun h0 => jn_2 W6_7 W7_7 h0)) (fun _ => rmul_eq)))

set_option maxRecDepth 100000 in
theorem rm_norm2 {d : Nat} {pre : mm_pre} {s : Nat → fr} {op oq : Nat → Int64} {tr dp wi fa ob : Int32} {st of : Nat → Int32} {F : mm_M} {D A : Nat} {x : Nat → fr} {R1 R2 : Nat → fr} {Q : mm_R → mm_M → Prop} (hV : ∀ k, fv (s k)) (hz : mm_z wi) (hg : D + 2 ≤ 480 ∧ (D + 2 ≤ 299 ∨ 312 ≤ D) ∧ A + 4 ≤ 480 ∧ (A + 4 ≤ 300 ∨ 312 ≤ A) ∧ (D + 2 ≤ A ∨ A + 4 ≤ D) ∧ (D + 2 ≤ 288 ∨ 291 ≤ D)) (R : isM s wi 1 288 R1) (RR : isM s wi 2 289 R2) (X : isM s wi 4 A x) (hQ : ∀ (s1 : Nat → fr) (w1 : Int32), mR s wi 312 D 2 (rnorm 2 (nmul1 R1) R2 x) s1 w1 → Q (.inl none) (wP pre (wN (PP s1) (QQ s1) op oq tr dp w1 fa ob st of F))) : mm_call mm_Tb (d + 5) 73 [.ref 10, .int (nI D), .int (nI A)] (wP pre (wN (PP s) (QQ s) op oq tr dp wi fa ob st of F)) Q := by
  have S0 := ms_0 (Z := fun k => (300 ≤ k ∧ k < 312) ∨ (D ≤ k ∧ k < D + 2)) hV hz
  have E0 : wi = 0 → rnorm 2 (nmul1 R1) R2 x = Option.bind ((nmul1 R1) x x) _ := fun _ => rfl
  have F0 : wi = 1 → wi = 0 → rnorm 2 (nmul1 R1) R2 x = none := fun h1 h0 => absurd (h1.symm.trans h0) z10
  refine mm_in mt_73 (Nat.le_of_ble_eq_true rfl) ?_
  show mm_W _ _ _ _ _ _ _ (0, [(0, .ref 10), (1, .int (nI D)), (2, .int (nI A))], [], wP pre (wN (PP s) (QQ s) op oq tr dp wi fa ob st of F), 0)
  refine mm_skip (mm_call_mono _ _) 4 (st' := (4, [(0, .ref 10), (1, .int (nI D)), (2, .int (nI A))], [.int (nI A), .int (nI A), .int (nI D), .ref 10], wP pre (wN (PP s) (QQ s) op oq tr dp wi fa ob st of F), 0)) rfl ?_
  refine mm_inv (mm_call_mono _ _) (j := 66) (a := [.ref 10, .int (nI D), .int (nI A), .int (nI A)]) (M := wP pre (wN (PP s) (QQ s) op oq tr dp wi fa ob st of F)) (u := 0) rfl (by decide) (rm_mul1 (D := D) (A := A) (B := A) hV hz (by omega) R (m_lo X (by omega)) (m_lo X (by omega)) (fun s1 w1 h1 => ?_))
  show mm_W _ _ _ _ _ _ _ (7, [(0, .ref 10), (1, .int (nI D)), (2, .int (nI A))], [], wP pre (wN (PP s1) (QQ s1) op oq tr dp w1 fa ob st of F), 0)
  have V1 := h1.1
  have z1 := h1.2.1
  have S1 := ms_s S0 h1 (fun k => by omega)
  have F1 := m_F S0 F0 E0 h1
  have E1 := m_E E0 h1
  have R_1 := m_k R h1 (by omega)
  have RR_1 := m_k RR h1 (by omega)
  have X_1 := m_k X h1 (by omega)
  have W1_1 := m_new h1 (by decide)
  refine mm_skip (mm_call_mono _ _) 8 (st' := (17, [(0, .ref 10), (1, .int (nI D)), (2, .int (nI A))], [.int ((nI A) + 2), .int ((nI A) + 2), .int 304, .ref 10], wP pre (wN (PP s1) (QQ s1) op oq tr dp w1 fa ob st of F), 0)) rfl ?_
  rw [nI_p2 (A)]
  show mm_W _ _ _ _ _ _ _ (17, [(0, .ref 10), (1, .int (nI D)), (2, .int (nI A))], [.int (nI (A + 2)), .int (nI (A + 2)), .int 304, .ref 10], wP pre (wN (PP s1) (QQ s1) op oq tr dp w1 fa ob st of F), 0)
  refine mm_inv (mm_call_mono _ _) (j := 66) (a := [.ref 10, .int 304, .int (nI (A + 2)), .int (nI (A + 2))]) (M := wP pre (wN (PP s1) (QQ s1) op oq tr dp w1 fa ob st of F)) (u := 0) rfl (by decide) (rm_mul1 (D := 304) (A := (A + 2)) (B := (A + 2)) V1 z1 (by omega) R_1 (m_hi X_1 2 (by omega)) (m_hi X_1 2 (by omega)) (fun s2 w2 h2 => ?_))
  show mm_W _ _ _ _ _ _ _ (20, [(0, .ref 10), (1, .int (nI D)), (2, .int (nI A))], [], wP pre (wN (PP s2) (QQ s2) op oq tr dp w2 fa ob st of F), 0)
  have V2 := h2.1
  have z2 := h2.2.1
  have S2 := ms_s S1 h2 (fun k => by omega)
  have F2 := m_F S1 F1 E1 h2
  have E2 := m_E E1 h2
  have R_2 := m_k R_1 h2 (by omega)
  have RR_2 := m_k RR_1 h2 (by omega)
  have W1_2 := m_k W1_1 h2 (by omega)
  have W2_2 := m_new h2 (by decide)
  refine mm_skip (mm_call_mono _ _) 4 (st' := (30, [(0, .ref 10), (1, .int (nI D)), (2, .int (nI A))], [.int 289, .int 304, .int 304, .ref 10], wP pre (wN (PP s2) (QQ s2) op oq tr dp w2 fa ob st of F), 0)) rfl ?_
  refine mm_inv (mm_call_mono _ _) (j := 66) (a := [.ref 10, .int 304, .int 304, .int 289]) (M := wP pre (wN (PP s2) (QQ s2) op oq tr dp w2 fa ob st of F)) (u := 0) rfl (by decide) (rm_mul1 (D := 304) (A := 304) (B := 289) V2 z2 (by omega) R_2 W2_2 RR_2 (fun s3 w3 h3 => ?_))
  show mm_W _ _ _ _ _ _ _ (33, [(0, .ref 10), (1, .int (nI D)), (2, .int (nI A))], [], wP pre (wN (PP s3) (QQ s3) op oq tr dp w3 fa ob st of F), 0)
  have V3 := h3.1
  have z3 := h3.2.1
  have S3 := ms_s S2 h3 (fun k => by omega)
  have F3 := m_F S2 F2 E2 h3
  have E3 := m_E E2 h3
  have W1_3 := m_k W1_2 h3 (by omega)
  have W3_3 := m_new h3 (by decide)
  refine mm_skip (mm_call_mono _ _) 5 (st' := (40, [(0, .ref 10), (1, .int (nI D)), (2, .int (nI A))], [.int 2, .int 304, .int (nI D), .int (nI D), .ref 10], wP pre (wN (PP s3) (QQ s3) op oq tr dp w3 fa ob st of F), 0)) rfl ?_
  refine mm_inv (mm_call_mono _ _) (j := 60) (a := [.ref 10, .int (nI D), .int (nI D), .int 304, .int 2]) (M := wP pre (wN (PP s3) (QQ s3) op oq tr dp w3 fa ob st of F)) (u := 0) rfl (by decide) (rm_sub_2 (D := D) (A := D) (B := 304) V3 z3 (by omega) W1_3 W3_3 (fun s4 w4 h4 => ?_))
  show mm_W _ _ _ _ _ _ _ (43, [(0, .ref 10), (1, .int (nI D)), (2, .int (nI A))], [], wP pre (wN (PP s4) (QQ s4) op oq tr dp w4 fa ob st of F), 0)
  have V4 := h4.1
  have z4 := h4.2.1
  have S4 := ms_s S3 h4 (fun k => by omega)
  have F4 := m_F S3 F3 E3 h4
  have E4 := m_E E3 h4
  have W4_4 := m_new h4 (by decide)
  exact mm_ret (mm_call_mono _ _) (c := True) (r := .inl none) (M := wP pre (wN (PP s4) (QQ s4) op oq tr dp w4 fa ob st of F)) (u := 0) rfl trivial (by decide) (hQ _ _ (mR_fin (T := rnorm 2 (nmul1 R1) R2 x) (U := 312) (d := D) (m := 2) S4 (fun k => id) E4 F4 (fun _ => rfl)))

set_option maxRecDepth 100000 in
theorem rm_inv2 {d : Nat} {pre : mm_pre} {s : Nat → fr} {op oq : Nat → Int64} {tr dp wi fa ob : Int32} {st of : Nat → Int32} {F : mm_M} {D A : Nat} {x : Nat → fr} {R1 R2 : Nat → fr} {Q : mm_R → mm_M → Prop} (hV : ∀ k, fv (s k)) (hz : mm_z wi) (hg : D + 4 ≤ 480 ∧ (D + 4 ≤ 299 ∨ 324 ≤ D) ∧ A + 4 ≤ 480 ∧ (A + 4 ≤ 300 ∨ 324 ≤ A)) (R : isM s wi 1 288 R1) (RR : isM s wi 2 289 R2) (X : isM s wi 4 A x) (hQ : ∀ (s1 : Nat → fr) (w1 : Int32), mR s wi 324 D 4 (ninv2 R1 R2 x) s1 w1 → Q (.inl none) (wP pre (wN (PP s1) (QQ s1) op oq tr dp w1 fa ob st of F))) : mm_call mm_Tb (d + 6) 74 [.ref 10, .int (nI D), .int (nI A)] (wP pre (wN (PP s) (QQ s) op oq tr dp wi fa ob st of F)) Q := by
  have S0 := ms_0 (Z := fun k => (300 ≤ k ∧ k < 324) ∨ (D ≤ k ∧ k < D + 4)) hV hz
  have E0 : wi = 0 → rinvS 2 (nmul1 R1) (ninv1 R1) R2 x = Option.bind (rnorm 2 (nmul1 R1) R2 x) _ := fun _ => rfl
  have F0 : wi = 1 → wi = 0 → rinvS 2 (nmul1 R1) (ninv1 R1) R2 x = none := fun h1 h0 => absurd (h1.symm.trans h0) z10
  refine mm_in mt_74 (Nat.le_of_ble_eq_true rfl) ?_
  show mm_W _ _ _ _ _ _ _ (0, [(0, .ref 10), (1, .int (nI D)), (2, .int (nI A))], [], wP pre (wN (PP s) (QQ s) op oq tr dp wi fa ob st of F), 0)
  refine mm_skip (mm_call_mono _ _) 3 (st' := (5, [(0, .ref 10), (1, .int (nI D)), (2, .int (nI A))], [.int (nI A), .int 316, .ref 10], wP pre (wN (PP s) (QQ s) op oq tr dp wi fa ob st of F), 0)) rfl ?_
  refine mm_inv (mm_call_mono _ _) (j := 73) (a := [.ref 10, .int 316, .int (nI A)]) (M := wP pre (wN (PP s) (QQ s) op oq tr dp wi fa ob st of F)) (u := 0) rfl (by decide) (rm_norm2 (D := 316) (A := A) hV hz (by omega) R RR X (fun s1 w1 h1 => ?_))
  show mm_W _ _ _ _ _ _ _ (8, [(0, .ref 10), (1, .int (nI D)), (2, .int (nI A))], [], wP pre (wN (PP s1) (QQ s1) op oq tr dp w1 fa ob st of F), 0)
  have V1 := h1.1
  have z1 := h1.2.1
  have S1 := ms_s S0 h1 (fun k => by omega)
  have F1 := m_F S0 F0 E0 h1
  have E1 := m_E E0 h1
  have R_1 := m_k R h1 (by omega)
  have X_1 := m_k X h1 (by omega)
  have W1_1 := m_new h1 (by decide)
  refine mm_skip (mm_call_mono _ _) 3 (st' := (15, [(0, .ref 10), (1, .int (nI D)), (2, .int (nI A))], [.int 316, .int 316, .ref 10], wP pre (wN (PP s1) (QQ s1) op oq tr dp w1 fa ob st of F), 0)) rfl ?_
  refine mm_inv (mm_call_mono _ _) (j := 68) (a := [.ref 10, .int 316, .int 316]) (M := wP pre (wN (PP s1) (QQ s1) op oq tr dp w1 fa ob st of F)) (u := 0) rfl (by decide) (rm_inv1 (D := 316) (A := 316) V1 z1 (by omega) R_1 W1_1 (fun s2 w2 h2 => ?_))
  show mm_W _ _ _ _ _ _ _ (18, [(0, .ref 10), (1, .int (nI D)), (2, .int (nI A))], [], wP pre (wN (PP s2) (QQ s2) op oq tr dp w2 fa ob st of F), 0)
  have V2 := h2.1
  have z2 := h2.2.1
  have S2 := ms_s S1 h2 (fun k => by omega)
  have F2 := m_F S1 F1 E1 h2
  have E2 := m_E E1 h2
  have R_2 := m_k R_1 h2 (by omega)
  have X_2 := m_k X_1 h2 (by omega)
  have W2_2 := m_new h2 (by decide)
  refine mm_skip (mm_call_mono _ _) 6 (st' := (26, [(0, .ref 10), (1, .int (nI D)), (2, .int (nI A))], [.int 2, .int ((nI A) + 2), .int 318, .ref 10], wP pre (wN (PP s2) (QQ s2) op oq tr dp w2 fa ob st of F), 0)) rfl ?_
  rw [nI_p2 (A)]
  show mm_W _ _ _ _ _ _ _ (26, [(0, .ref 10), (1, .int (nI D)), (2, .int (nI A))], [.int 2, .int (nI (A + 2)), .int 318, .ref 10], wP pre (wN (PP s2) (QQ s2) op oq tr dp w2 fa ob st of F), 0)
  refine mm_inv (mm_call_mono _ _) (j := 61) (a := [.ref 10, .int 318, .int (nI (A + 2)), .int 2]) (M := wP pre (wN (PP s2) (QQ s2) op oq tr dp w2 fa ob st of F)) (u := 0) rfl (by decide) (rm_neg_2 (D := 318) (A := (A + 2)) V2 z2 (by omega) (m_hi X_2 2 (by omega)) (fun s3 w3 h3 => ?_))
  show mm_W _ _ _ _ _ _ _ (29, [(0, .ref 10), (1, .int (nI D)), (2, .int (nI A))], [], wP pre (wN (PP s3) (QQ s3) op oq tr dp w3 fa ob st of F), 0)
  have V3 := h3.1
  have z3 := h3.2.1
  have S3 := ms_s S2 h3 (fun k => by omega)
  have F3 := m_F S2 F2 E2 h3
  have E3 := m_E E2 h3
  have R_3 := m_k R_2 h3 (by omega)
  have X_3 := m_k X_2 h3 (by omega)
  have W2_3 := m_k W2_2 h3 (by omega)
  have W3_3 := m_new h3 (by decide)
  refine mm_skip (mm_call_mono _ _) 4 (st' := (37, [(0, .ref 10), (1, .int (nI D)), (2, .int (nI A))], [.int 316, .int (nI A), .int 320, .ref 10], wP pre (wN (PP s3) (QQ s3) op oq tr dp w3 fa ob st of F), 0)) rfl ?_
  refine mm_inv (mm_call_mono _ _) (j := 66) (a := [.ref 10, .int 320, .int (nI A), .int 316]) (M := wP pre (wN (PP s3) (QQ s3) op oq tr dp w3 fa ob st of F)) (u := 0) rfl (by decide) (rm_mul1 (D := 320) (A := A) (B := 316) V3 z3 (by omega) R_3 (m_lo X_3 (by omega)) W2_3 (fun s4 w4 h4 => ?_))
  show mm_W _ _ _ _ _ _ _ (40, [(0, .ref 10), (1, .int (nI D)), (2, .int (nI A))], [], wP pre (wN (PP s4) (QQ s4) op oq tr dp w4 fa ob st of F), 0)
  have V4 := h4.1
  have z4 := h4.2.1
  have S4 := ms_s S3 h4 (fun k => by omega)
  have F4 := m_F S3 F3 E3 h4
  have E4 := m_E E3 h4
  have R_4 := m_k R_3 h4 (by omega)
  have W2_4 := m_k W2_3 h4 (by omega)
  have W3_4 := m_k W3_3 h4 (by omega)
  have W4_4 := m_new h4 (by decide)
  refine mm_skip (mm_call_mono _ _) 6 (st' := (50, [(0, .ref 10), (1, .int (nI D)), (2, .int (nI A))], [.int 316, .int 318, .int ((nI D) + 2), .ref 10], wP pre (wN (PP s4) (QQ s4) op oq tr dp w4 fa ob st of F), 0)) rfl ?_
  rw [nI_p2 (D)]
  show mm_W _ _ _ _ _ _ _ (50, [(0, .ref 10), (1, .int (nI D)), (2, .int (nI A))], [.int 316, .int 318, .int (nI (D + 2)), .ref 10], wP pre (wN (PP s4) (QQ s4) op oq tr dp w4 fa ob st of F), 0)
  refine mm_inv (mm_call_mono _ _) (j := 66) (a := [.ref 10, .int (nI (D + 2)), .int 318, .int 316]) (M := wP pre (wN (PP s4) (QQ s4) op oq tr dp w4 fa ob st of F)) (u := 0) rfl (by decide) (rm_mul1 (D := (D + 2)) (A := 318) (B := 316) V4 z4 (by omega) R_4 W3_4 W2_4 (fun s5 w5 h5 => ?_))
  show mm_W _ _ _ _ _ _ _ (53, [(0, .ref 10), (1, .int (nI D)), (2, .int (nI A))], [], wP pre (wN (PP s5) (QQ s5) op oq tr dp w5 fa ob st of F), 0)
  have V5 := h5.1
  have z5 := h5.2.1
  have S5 := ms_s S4 h5 (fun k => by omega)
  have F5 := m_F S4 F4 E4 h5
  have E5 := m_E E4 h5
  have W4_5 := m_k W4_4 h5 (by omega)
  have W5_5 := m_new h5 (by decide)
  refine mm_skip (mm_call_mono _ _) 4 (st' := (59, [(0, .ref 10), (1, .int (nI D)), (2, .int (nI A))], [.int 2, .int 320, .int (nI D), .ref 10], wP pre (wN (PP s5) (QQ s5) op oq tr dp w5 fa ob st of F), 0)) rfl ?_
  refine mm_inv (mm_call_mono _ _) (j := 58) (a := [.ref 10, .int (nI D), .int 320, .int 2]) (M := wP pre (wN (PP s5) (QQ s5) op oq tr dp w5 fa ob st of F)) (u := 0) rfl (by decide) (rm_set_2 (D := D) (A := 320) V5 z5 (by omega) W4_5 (fun s6 w6 h6 => ?_))
  show mm_W _ _ _ _ _ _ _ (62, [(0, .ref 10), (1, .int (nI D)), (2, .int (nI A))], [], wP pre (wN (PP s6) (QQ s6) op oq tr dp w6 fa ob st of F), 0)
  have V6 := h6.1
  have z6 := h6.2.1
  obtain ⟨q6, r6, W6_6⟩ := mR_set z5 h6 (by decide)
  have S6 := ms_s S5 h6 (fun k => by omega)
  have F6 := fun h9 h0 => F5 (r6 h9) h0
  have E6 := fun h0 => E5 (q6 h0)
  have W5_6 := m_k W5_5 h6 (by omega)
  exact mm_ret (mm_call_mono _ _) (c := True) (r := .inl none) (M := wP pre (wN (PP s6) (QQ s6) op oq tr dp w6 fa ob st of F)) (u := 0) rfl trivial (by decide) (hQ _ _ (mR_T (mR_fin (T := rinvS 2 (nmul1 R1) (ninv1 R1) R2 x) (U := 324) (d := D) (m := 4) S6 (fun k => id) E6 F6 (fun h0 => jn_2 W6_6 W5_6 h0)) (fun _ => rinv_eq)))

set_option maxRecDepth 100000 in
theorem rm_sign2 {d : Nat} {pre : mm_pre} {s : Nat → fr} {op oq : Nat → Int64} {tr dp wi fa ob : Int32} {st of : Nat → Int32} {F : mm_M} {A : Nat} {x : Nat → fr} {R1 R2 : Nat → fr} {Q : mm_R → mm_M → Prop} (hV : ∀ k, fv (s k)) (hz : mm_z wi) (hg : A + 4 ≤ 480 ∧ (A + 4 ≤ 300 ∨ 332 ≤ A)) (R : isM s wi 1 288 R1) (RR : isM s wi 2 289 R2) (X : isM s wi 4 A x) (hQ : ∀ (s1 : Nat → fr) (w1 v : Int32), sgM s wi 332 (nsg2 R1 R2 x) s1 w1 v → Q (.inl (some (.int v))) (wP pre (wN (PP s1) (QQ s1) op oq tr dp w1 fa ob st of F))) : mm_call mm_Tb (d + 6) 75 [.ref 10, .int (nI A)] (wP pre (wN (PP s) (QQ s) op oq tr dp wi fa ob st of F)) Q := by
  have S0 := ms_0 (Z := fun k => 300 ≤ k ∧ k < 332) hV hz
  have E0 : wi = 0 → rsgS 2 (nmul1 R1) (nsg1 R1) R2 x = Option.bind ((nsg1 R1) x) _ := fun _ => rfl
  have F0 : wi = 1 → wi = 0 → rsgS 2 (nmul1 R1) (nsg1 R1) R2 x = none := fun h1 h0 => absurd (h1.symm.trans h0) z10
  refine mm_in mt_75 (Nat.le_of_ble_eq_true rfl) ?_
  show mm_W _ _ _ _ _ _ _ (0, [(0, .ref 10), (1, .int (nI A))], [], wP pre (wN (PP s) (QQ s) op oq tr dp wi fa ob st of F), 0)
  refine mm_skip (mm_call_mono _ _) 2 (st' := (2, [(0, .ref 10), (1, .int (nI A))], [.int (nI A), .ref 10], wP pre (wN (PP s) (QQ s) op oq tr dp wi fa ob st of F), 0)) rfl ?_
  refine mm_inv (mm_call_mono _ _) (j := 69) (a := [.ref 10, .int (nI A)]) (M := wP pre (wN (PP s) (QQ s) op oq tr dp wi fa ob st of F)) (u := 0) rfl (by decide) (rm_sign1 (A := A) hV hz (by omega) R (m_lo X (by omega)) (fun s1 w1 v1 h1 => ?_))
  show mm_W _ _ _ _ _ _ _ (5, [(0, .ref 10), (1, .int (nI A))], [.int v1], wP pre (wN (PP s1) (QQ s1) op oq tr dp w1 fa ob st of F), 0)
  have V1 := h1.1
  have z1 := h1.2.1
  have S1 := ms_g S0 h1 (fun k => by omega)
  have F1 := m_Fg S0 F0 E0 h1
  have E1 := m_Eg E0 h1
  have R_1 := m_kg R h1 (by omega)
  have RR_1 := m_kg RR h1 (by omega)
  have X_1 := m_kg X h1 (by omega)
  refine mm_skip (mm_call_mono _ _) 5 (st' := (10, [(2, .int v1), (0, .ref 10), (1, .int (nI A))], [.int ((nI A) + 2), .ref 10], wP pre (wN (PP s1) (QQ s1) op oq tr dp w1 fa ob st of F), 0)) rfl ?_
  rw [nI_p2 (A)]
  show mm_W _ _ _ _ _ _ _ (10, [(2, .int v1), (0, .ref 10), (1, .int (nI A))], [.int (nI (A + 2)), .ref 10], wP pre (wN (PP s1) (QQ s1) op oq tr dp w1 fa ob st of F), 0)
  refine mm_inv (mm_call_mono _ _) (j := 69) (a := [.ref 10, .int (nI (A + 2))]) (M := wP pre (wN (PP s1) (QQ s1) op oq tr dp w1 fa ob st of F)) (u := 0) rfl (by decide) (rm_sign1 (A := (A + 2)) V1 z1 (by omega) R_1 (m_hi X_1 2 (by omega)) (fun s2 w2 v2 h2 => ?_))
  show mm_W _ _ _ _ _ _ _ (13, [(2, .int v1), (0, .ref 10), (1, .int (nI A))], [.int v2], wP pre (wN (PP s2) (QQ s2) op oq tr dp w2 fa ob st of F), 0)
  have V2 := h2.1
  have z2 := h2.2.1
  have S2 := ms_g S1 h2 (fun k => by omega)
  have F2 := m_Fg S1 F1 E1 h2
  have E2 := m_Eg E1 h2
  have R_2 := m_kg R_1 h2 (by omega)
  have RR_2 := m_kg RR_1 h2 (by omega)
  have X_2 := m_kg X_1 h2 (by omega)
  refine mm_skip (mm_call_mono _ _) 2 (st' := (15, [(3, .int v2), (2, .int v1), (0, .ref 10), (1, .int (nI A))], [.int v2], wP pre (wN (PP s2) (QQ s2) op oq tr dp w2 fa ob st of F), 0)) rfl ?_
  refine mm_branch (mm_call_mono _ _) (c := v2 = 0) (s1 := (23, [(3, .int v2), (2, .int v1), (0, .ref 10), (1, .int (nI A))], [], wP pre (wN (PP s2) (QQ s2) op oq tr dp w2 fa ob st of F), 0)) (s2 := (18, [(3, .int v2), (2, .int v1), (0, .ref 10), (1, .int (nI A))], [], wP pre (wN (PP s2) (QQ s2) op oq tr dp w2 fa ob st of F), 0)) rfl (fun g1 => ?_) (fun g1 => ?_)
  · skip
    refine mm_skip (mm_call_mono _ _) 1 (st' := (24, [(3, .int v2), (2, .int v1), (0, .ref 10), (1, .int (nI A))], [.int v1], wP pre (wN (PP s2) (QQ s2) op oq tr dp w2 fa ob st of F), 0)) rfl ?_
    exact mm_ret (mm_call_mono _ _) (c := True) (r := .inl (some (.int v1))) (M := wP pre (wN (PP s2) (QQ s2) op oq tr dp w2 fa ob st of F)) (u := 0) rfl trivial (by decide) (hQ _ _ _ (by have e9 := sg_finM (U := 332) S2 (fun k => by omega) (v := v1) (fun h0 => (E2 h0).trans (if_pos (Or.inl (by rw [g1]; decide)))) F2 h1.2.2.2.2.2.2; rw [rsg_eq] at e9; exact e9))
  · skip
    refine mm_skip (mm_call_mono _ _) 2 (st' := (20, [(3, .int v2), (2, .int v1), (0, .ref 10), (1, .int (nI A))], [.int v2, .int v1], wP pre (wN (PP s2) (QQ s2) op oq tr dp w2 fa ob st of F), 0)) rfl ?_
    refine mm_branch (mm_call_mono _ _) (c := v1 = v2) (s1 := (23, [(3, .int v2), (2, .int v1), (0, .ref 10), (1, .int (nI A))], [], wP pre (wN (PP s2) (QQ s2) op oq tr dp w2 fa ob st of F), 0)) (s2 := (25, [(3, .int v2), (2, .int v1), (0, .ref 10), (1, .int (nI A))], [], wP pre (wN (PP s2) (QQ s2) op oq tr dp w2 fa ob st of F), 0)) rfl (fun g2 => ?_) (fun g2 => ?_)
    · skip
      refine mm_skip (mm_call_mono _ _) 1 (st' := (24, [(3, .int v2), (2, .int v1), (0, .ref 10), (1, .int (nI A))], [.int v1], wP pre (wN (PP s2) (QQ s2) op oq tr dp w2 fa ob st of F), 0)) rfl ?_
      exact mm_ret (mm_call_mono _ _) (c := True) (r := .inl (some (.int v1))) (M := wP pre (wN (PP s2) (QQ s2) op oq tr dp w2 fa ob st of F)) (u := 0) rfl trivial (by decide) (hQ _ _ _ (by have e9 := sg_finM (U := 332) S2 (fun k => by omega) (v := v1) (fun h0 => (E2 h0).trans (if_pos (Or.inr (by rw [g2])))) F2 h1.2.2.2.2.2.2; rw [rsg_eq] at e9; exact e9))
    · skip
      refine mm_skip (mm_call_mono _ _) 1 (st' := (26, [(3, .int v2), (2, .int v1), (0, .ref 10), (1, .int (nI A))], [.int v1], wP pre (wN (PP s2) (QQ s2) op oq tr dp w2 fa ob st of F), 0)) rfl ?_
      refine mm_branch (mm_call_mono _ _) (c := v1 = 0) (s1 := (29, [(3, .int v2), (2, .int v1), (0, .ref 10), (1, .int (nI A))], [], wP pre (wN (PP s2) (QQ s2) op oq tr dp w2 fa ob st of F), 0)) (s2 := (31, [(3, .int v2), (2, .int v1), (0, .ref 10), (1, .int (nI A))], [], wP pre (wN (PP s2) (QQ s2) op oq tr dp w2 fa ob st of F), 0)) rfl (fun g3 => ?_) (fun g3 => ?_)
      · skip
        refine mm_skip (mm_call_mono _ _) 1 (st' := (30, [(3, .int v2), (2, .int v1), (0, .ref 10), (1, .int (nI A))], [.int v2], wP pre (wN (PP s2) (QQ s2) op oq tr dp w2 fa ob st of F), 0)) rfl ?_
        exact mm_ret (mm_call_mono _ _) (c := True) (r := .inl (some (.int v2))) (M := wP pre (wN (PP s2) (QQ s2) op oq tr dp w2 fa ob st of F)) (u := 0) rfl trivial (by decide) (hQ _ _ _ (by have e9 := sg_finM (U := 332) S2 (fun k => by omega) (v := v2) (fun h0 => (E2 h0).trans ((if_st (c := some (0 : Int)) g1 g2).trans (if_pos (by rw [g3]; decide)))) F2 h2.2.2.2.2.2.2; rw [rsg_eq] at e9; exact e9))
      · skip
        have E2 := fun h0 => ((E2 h0).trans (if_st (c := some (0 : Int)) g1 g2)).trans (if_s0 g3)
        refine mm_skip (mm_call_mono _ _) 3 (st' := (36, [(3, .int v2), (2, .int v1), (0, .ref 10), (1, .int (nI A))], [.int (nI A), .int 328, .ref 10], wP pre (wN (PP s2) (QQ s2) op oq tr dp w2 fa ob st of F), 0)) rfl ?_
        refine mm_inv (mm_call_mono _ _) (j := 73) (a := [.ref 10, .int 328, .int (nI A)]) (M := wP pre (wN (PP s2) (QQ s2) op oq tr dp w2 fa ob st of F)) (u := 0) rfl (by decide) (rm_norm2 (D := 328) (A := A) V2 z2 (by omega) R_2 RR_2 X_2 (fun s3 w3 h3 => ?_))
        show mm_W _ _ _ _ _ _ _ (39, [(3, .int v2), (2, .int v1), (0, .ref 10), (1, .int (nI A))], [], wP pre (wN (PP s3) (QQ s3) op oq tr dp w3 fa ob st of F), 0)
        have V3 := h3.1
        have z3 := h3.2.1
        have S3 := ms_s S2 h3 (fun k => by omega)
        have F3 := m_F S2 F2 E2 h3
        have E3 := m_E E2 h3
        have R_3 := m_k R_2 h3 (by omega)
        have W3_3 := m_new h3 (by decide)
        refine mm_skip (mm_call_mono _ _) 3 (st' := (44, [(3, .int v2), (2, .int v1), (0, .ref 10), (1, .int (nI A))], [.int 328, .ref 10, .int v1], wP pre (wN (PP s3) (QQ s3) op oq tr dp w3 fa ob st of F), 0)) rfl ?_
        refine mm_inv (mm_call_mono _ _) (j := 69) (a := [.ref 10, .int 328]) (M := wP pre (wN (PP s3) (QQ s3) op oq tr dp w3 fa ob st of F)) (u := 0) rfl (by decide) (rm_sign1 (A := 328) V3 z3 (by omega) R_3 W3_3 (fun s4 w4 v4 h4 => ?_))
        show mm_W _ _ _ _ _ _ _ (47, [(3, .int v2), (2, .int v1), (0, .ref 10), (1, .int (nI A))], [.int v4, .int v1], wP pre (wN (PP s4) (QQ s4) op oq tr dp w4 fa ob st of F), 0)
        have V4 := h4.1
        have z4 := h4.2.1
        have S4 := ms_g S3 h4 (fun k => by omega)
        have F4 := m_Fg S3 F3 E3 h4
        have E4 := m_Eg E3 h4
        refine mm_skip (mm_call_mono _ _) 1 (st' := (48, [(3, .int v2), (2, .int v1), (0, .ref 10), (1, .int (nI A))], [.int (v1 * v4)], wP pre (wN (PP s4) (QQ s4) op oq tr dp w4 fa ob st of F), 0)) rfl ?_
        exact mm_ret (mm_call_mono _ _) (c := True) (r := .inl (some (.int (v1 * v4)))) (M := wP pre (wN (PP s4) (QQ s4) op oq tr dp w4 fa ob st of F)) (u := 0) rfl trivial (by decide) (hQ _ _ _ (by have e9 := sg_finM (U := 332) S4 (fun k => by omega) (v := v1 * v4) (fun h0 => (E4 h0).trans (congrArg some (sg3_mul h1.2.2.2.2.2.2 h4.2.2.2.2.2.2).2.symm)) F4 (sg3_mul h1.2.2.2.2.2.2 h4.2.2.2.2.2.2).1; rw [rsg_eq] at e9; exact e9))

