/-- what the law's helper leaves in its long[1] -/
def oW (r : oc) (o : Nat → Int64) : Nat → Int64 := match r.1 with
  | 0 => vp_updL o 0 (Int32.toInt64 r.2)
  | _ => o
theorem oc_add {S S1 : Nat → stp} {k k1 : Nat} {s : stp} {c : Nat} {v : Int32} (h : aAdd S k s = ((c, v), S1, k1)) : c = 0 ∨ (c = 2 ∧ v = 0) ∨ (c = 3 ∧ v = 0) := by
  unfold aAdd at h
  by_cases e : k = 24
  · rw [if_pos e] at h; cases h; exact Or.inr (Or.inl ⟨rfl, rfl⟩)
  · rw [if_neg e] at h
    cases hd : dr (ext S k s) (k + 1) with
    | none => rw [hd] at h; cases h; exact Or.inr (Or.inr ⟨rfl, rfl⟩)
    | some p => rw [hd] at h; cases h; exact Or.inl rfl
theorem oc_free {S S1 : Nat → stp} {k k1 : Nat} {a b c e v : Int32} {t : Nat} (hd : ∃ q, dr S k = some q) (h : aFree S k a b c e = ((t, v), S1, k1)) : t = 0 ∨ (t = 1 ∧ v = 0) ∨ (t = 2 ∧ v = 0) := by
  unfold aFree at h
  by_cases q : inp a b ∧ inp c e
  · rw [if_pos q] at h
    rcases oc_add h with h1 | h1 | h1
    · exact Or.inl h1
    · exact Or.inr (Or.inr h1)
    · exfalso
      obtain ⟨⟨w, L⟩, hd⟩ := hd
      unfold aAdd at h
      by_cases e4 : k = 24
      · rw [if_pos e4] at h; cases h; exact absurd h1.1 (by decide)
      · rw [if_neg e4] at h
        have h2 : dr (ext S k (0, 0, 0, 0, 0, 0, qf a b, qf c e)) k = some (w, L) := (ext_c (Nat.le_refl k)).trans hd
        have h3 := dr_s (q := (em (qf a b), em (qf c e), zz)) (L1 := L) h2 (by rw [ext_k]; rfl)
        rw [h3] at h; cases h; exact absurd h1.1 (by decide)
  · rw [if_neg q] at h; cases h; exact Or.inr (Or.inl ⟨rfl, rfl⟩)
theorem oc_line {S S1 : Nat → stp} {k k1 n : Nat} {a b v : Int32} {t : Nat} (h : aLine n S k a b = ((t, v), S1, k1)) : t = 0 ∨ (t = 1 ∧ v = 0) ∨ (t = 2 ∧ v = 0) ∨ (t = 3 ∧ v = 0) := by
  unfold aLine at h
  by_cases q : ckd S k a = 0 ∧ ckd S k b = 0
  · rw [if_pos q] at h
    rcases oc_add h with h1 | h1 | h1
    · exact Or.inl h1
    · exact Or.inr (Or.inr (Or.inl h1))
    · exact Or.inr (Or.inr (Or.inr h1))
  · rw [if_neg q] at h; cases h; exact Or.inr (Or.inl ⟨rfl, rfl⟩)
theorem oc_circle {S S1 : Nat → stp} {k k1 : Nat} {a b c v : Int32} {t : Nat} (h : aCirc S k a b c = ((t, v), S1, k1)) : t = 0 ∨ (t = 1 ∧ v = 0) ∨ (t = 2 ∧ v = 0) ∨ (t = 3 ∧ v = 0) := by
  unfold aCirc at h
  by_cases q : ckd S k a = 0 ∧ ckd S k b = 0 ∧ ckd S k c = 0
  · rw [if_pos q] at h
    rcases oc_add h with h1 | h1 | h1
    · exact Or.inl h1
    · exact Or.inr (Or.inr (Or.inl h1))
    · exact Or.inr (Or.inr (Or.inr h1))
  · rw [if_neg q] at h; cases h; exact Or.inr (Or.inl ⟨rfl, rfl⟩)
theorem oc_meet {S S1 : Nat → stp} {k k1 : Nat} {a b c v : Int32} {t : Nat} (h : aMeet S k a b c = ((t, v), S1, k1)) : t = 0 ∨ (t = 1 ∧ v = 0) ∨ (t = 2 ∧ v = 0) ∨ (t = 3 ∧ v = 0) := by
  unfold aMeet at h
  by_cases q : mok S k a b c
  · rw [if_pos q] at h
    rcases oc_add h with h1 | h1 | h1
    · exact Or.inl h1
    · exact Or.inr (Or.inr (Or.inl h1))
    · exact Or.inr (Or.inr (Or.inr h1))
  · rw [if_neg q] at h; cases h; exact Or.inr (Or.inl ⟨rfl, rfl⟩)
theorem oc_move {S S1 : Nat → stp} {k k1 : Nat} {x a b c e v : Int32} {t : Nat} (h : aMove S k x a b c e = ((t, v), S1, k1)) : t = 0 ∨ (t = 1 ∧ v = 0) := by
  unfold aMove at h
  by_cases q : (ckd S k x = 0 ∧ (S (cl x)).1 = 0) ∧ inp a b ∧ inp c e
  · rw [if_pos q] at h
    cases hd : dr (mvs S (cl x) (qf a b) (qf c e)) k with
    | none => rw [hd] at h; cases h; exact Or.inl rfl
    | some p => rw [hd] at h; cases h; exact Or.inl rfl
  · rw [if_neg q] at h; cases h; exact Or.inr ⟨rfl, rfl⟩
set_option maxRecDepth 100000 in
theorem gl_free {d : Nat} {ov un : Nat → Int32} {nx dp fa : Int32} {cu : mm_cu} {st fi se th db : Nat → Int32} {mp mq mop moq : Nat → Int64} {mtr mdp mwi mfa mob : Int32} {mst mof : Nat → Int32} {o : Nat → Int64} {S : Nat → stp} {k : Nat}  {x1 x2 x3 x4 : Int32} {Q : mm_R → mm_M → Prop} (hI : cI S k ov un dp st fi se th db (nI k)) (hQ : ∀ (ov1 un1 st1 fi1 se1 th1 db1 : Nat → Int32) (nx1 dp1 fa1 cn1 : Int32) (cu1 : mm_cu) (r : oc) (S1 : Nat → stp) (k1 : Nat), aFree S k x1 x2 x3 x4 = (r, S1, k1) → cI S1 k1 ov1 un1 dp1 st1 fi1 se1 th1 db1 cn1 → Q (.inl (some (.int (nI r.1)))) (wC ov1 un1 nx1 dp1 fa1 cu1 st1 fi1 se1 th1 db1 cn1 (wN mp mq mop moq mtr mdp mwi mfa mob mst mof (wO (oW r o))))) : mm_call mm_Tb (d + 20) 151 [.ref 0, .int x1, .int x2, .int x3, .int x4, .ref 17] (wC ov un nx dp fa cu st fi se th db (nI k) (wN mp mq mop moq mtr mdp mwi mfa mob mst mof (wO o))) Q := by
  refine mm_in mt_151 (Nat.le_of_ble_eq_true rfl) ?_
  show mm_W _ _ _ _ _ _ _ (0, [(0, .ref 0), (1, .int x1), (2, .int x2), (3, .int x3), (4, .int x4), (5, .ref 17)], [], wC ov un nx dp fa cu st fi se th db (nI k) (wN mp mq mop moq mtr mdp mwi mfa mob mst mof (wO o)), 0)
  refine mm_skip (mm_call_mono _ _) 7 (st' := (9, [(0, .ref 0), (1, .int x1), (2, .int x2), (3, .int x3), (4, .int x4), (5, .ref 17)], [.int x4, .int x3, .int x2, .int x1, .ref 0, .int 0, .ref 17], wC ov un nx dp fa cu st fi se th db (nI k) (wN mp mq mop moq mtr mdp mwi mfa mob mst mof (wO o)), 0)) rfl ?_
  refine mm_inv (mm_call_mono _ _) (j := 0) (a := [.ref 0, .int x1, .int x2, .int x3, .int x4]) (M := wC ov un nx dp fa cu st fi se th db (nI k) (wN mp mq mop moq mtr mdp mwi mfa mob mst mof (wO o))) (u := 4) rfl (by decide) (gf_free hI (fun ov1 un1 st1 fi1 se1 th1 db1 nx1 dp1 fa1 cn1 cu1 r S1 k1 ea hc => ?_))
  obtain ⟨c0, v0⟩ := r
  rcases oc_free (by obtain ⟨v, L, h, -⟩ := hI.2.2.2.2.2; exact ⟨_, h⟩) ea with rfl | ⟨rfl, rfl⟩ | ⟨rfl, rfl⟩
  · show mm_W _ _ _ _ _ _ _ (12, [(0, .ref 0), (1, .int x1), (2, .int x2), (3, .int x3), (4, .int x4), (5, .ref 17)], [.int v0, .int 0, .ref 17], wC ov1 un1 nx1 dp1 fa1 cu1 st1 fi1 se1 th1 db1 cn1 (wN mp mq mop moq mtr mdp mwi mfa mob mst mof (wO o)), 4)
    refine mm_skip (mm_call_mono _ _) 1 (st' := (13, [(0, .ref 0), (1, .int x1), (2, .int x2), (3, .int x3), (4, .int x4), (5, .ref 17)], [.long (Int32.toInt64 v0), .int 0, .ref 17], wC ov1 un1 nx1 dp1 fa1 cu1 st1 fi1 se1 th1 db1 cn1 (wN mp mq mop moq mtr mdp mwi mfa mob mst mof (wO o)), 4)) rfl ?_
    refine mm_need (mm_call_mono _ _) (c := vp_in 0 1) (s' := (14, [(0, .ref 0), (1, .int x1), (2, .int x2), (3, .int x3), (4, .int x4), (5, .ref 17)], [], wC ov1 un1 nx1 dp1 fa1 cu1 st1 fi1 se1 th1 db1 cn1 (wN mp mq mop moq mtr mdp mwi mfa mob mst mof (wO (vp_updL o 0 (Int32.toInt64 v0)))), 4)) rfl (by unfold vp_in; decide) ?_
    refine mm_skip (mm_call_mono _ _) 2 (st' := (26, [(0, .ref 0), (1, .int x1), (2, .int x2), (3, .int x3), (4, .int x4), (5, .ref 17)], [.int 0], wC ov1 un1 nx1 dp1 fa1 cu1 st1 fi1 se1 th1 db1 cn1 (wN mp mq mop moq mtr mdp mwi mfa mob mst mof (wO (vp_updL o 0 (Int32.toInt64 v0)))), 4)) rfl ?_
    exact mm_ret (mm_call_mono _ _) (c := True) (r := .inl (some (.int 0))) (M := wC ov1 un1 nx1 dp1 fa1 cu1 st1 fi1 se1 th1 db1 cn1 (wN mp mq mop moq mtr mdp mwi mfa mob mst mof (wO (vp_updL o 0 (Int32.toInt64 v0))))) (u := 4) rfl trivial (by decide) (hQ _ _ _ _ _ _ _ _ _ _ _ _ (0, v0) S1 k1 ea hc)

  · show mm_W _ _ _ _ _ _ _ (19, [(0, .ref 0), (1, .int x1), (2, .int x2), (3, .int x3), (4, .int x4), (5, .ref 17)], [], wC ov1 un1 nx1 dp1 fa1 cu1 st1 fi1 se1 th1 db1 cn1 (wN mp mq mop moq mtr mdp mwi mfa mob mst mof (wO o)), 4)
    refine mm_skip (mm_call_mono _ _) 1 (st' := (20, [(0, .ref 0), (1, .int x1), (2, .int x2), (3, .int x3), (4, .int x4), (5, .ref 17)], [.int 1], wC ov1 un1 nx1 dp1 fa1 cu1 st1 fi1 se1 th1 db1 cn1 (wN mp mq mop moq mtr mdp mwi mfa mob mst mof (wO o)), 4)) rfl ?_
    exact mm_ret (mm_call_mono _ _) (c := True) (r := .inl (some (.int 1))) (M := wC ov1 un1 nx1 dp1 fa1 cu1 st1 fi1 se1 th1 db1 cn1 (wN mp mq mop moq mtr mdp mwi mfa mob mst mof (wO o))) (u := 4) rfl trivial (by decide) (hQ _ _ _ _ _ _ _ _ _ _ _ _ (1, 0) S1 k1 ea hc)

  · show mm_W _ _ _ _ _ _ _ (23, [(0, .ref 0), (1, .int x1), (2, .int x2), (3, .int x3), (4, .int x4), (5, .ref 17)], [], wC ov1 un1 nx1 dp1 fa1 cu1 st1 fi1 se1 th1 db1 cn1 (wN mp mq mop moq mtr mdp mwi mfa mob mst mof (wO o)), 4)
    refine mm_skip (mm_call_mono _ _) 1 (st' := (24, [(0, .ref 0), (1, .int x1), (2, .int x2), (3, .int x3), (4, .int x4), (5, .ref 17)], [.int 2], wC ov1 un1 nx1 dp1 fa1 cu1 st1 fi1 se1 th1 db1 cn1 (wN mp mq mop moq mtr mdp mwi mfa mob mst mof (wO o)), 4)) rfl ?_
    exact mm_ret (mm_call_mono _ _) (c := True) (r := .inl (some (.int 2))) (M := wC ov1 un1 nx1 dp1 fa1 cu1 st1 fi1 se1 th1 db1 cn1 (wN mp mq mop moq mtr mdp mwi mfa mob mst mof (wO o))) (u := 4) rfl trivial (by decide) (hQ _ _ _ _ _ _ _ _ _ _ _ _ (2, 0) S1 k1 ea hc)

set_option maxRecDepth 100000 in
theorem gl_line {d : Nat} {ov un : Nat → Int32} {nx dp fa : Int32} {cu : mm_cu} {st fi se th db : Nat → Int32} {mp mq mop moq : Nat → Int64} {mtr mdp mwi mfa mob : Int32} {mst mof : Nat → Int32} {o : Nat → Int64} {S : Nat → stp} {k : Nat}  {x1 x2 : Int32} {Q : mm_R → mm_M → Prop} (hI : cI S k ov un dp st fi se th db (nI k)) (hQ : ∀ (ov1 un1 st1 fi1 se1 th1 db1 : Nat → Int32) (nx1 dp1 fa1 cn1 : Int32) (cu1 : mm_cu) (r : oc) (S1 : Nat → stp) (k1 : Nat), aLine 1 S k x1 x2 = (r, S1, k1) → cI S1 k1 ov1 un1 dp1 st1 fi1 se1 th1 db1 cn1 → Q (.inl (some (.int (nI r.1)))) (wC ov1 un1 nx1 dp1 fa1 cu1 st1 fi1 se1 th1 db1 cn1 (wN mp mq mop moq mtr mdp mwi mfa mob mst mof (wO (oW r o))))) : mm_call mm_Tb (d + 20) 152 [.ref 0, .int x1, .int x2, .ref 17] (wC ov un nx dp fa cu st fi se th db (nI k) (wN mp mq mop moq mtr mdp mwi mfa mob mst mof (wO o))) Q := by
  refine mm_in mt_152 (Nat.le_of_ble_eq_true rfl) ?_
  show mm_W _ _ _ _ _ _ _ (0, [(0, .ref 0), (1, .int x1), (2, .int x2), (3, .ref 17)], [], wC ov un nx dp fa cu st fi se th db (nI k) (wN mp mq mop moq mtr mdp mwi mfa mob mst mof (wO o)), 0)
  refine mm_skip (mm_call_mono _ _) 5 (st' := (5, [(0, .ref 0), (1, .int x1), (2, .int x2), (3, .ref 17)], [.int x2, .int x1, .ref 0, .int 0, .ref 17], wC ov un nx dp fa cu st fi se th db (nI k) (wN mp mq mop moq mtr mdp mwi mfa mob mst mof (wO o)), 0)) rfl ?_
  refine mm_inv (mm_call_mono _ _) (j := 1) (a := [.ref 0, .int x1, .int x2]) (M := wC ov un nx dp fa cu st fi se th db (nI k) (wN mp mq mop moq mtr mdp mwi mfa mob mst mof (wO o))) (u := 4) rfl (by decide) (gf_line hI (fun ov1 un1 st1 fi1 se1 th1 db1 nx1 dp1 fa1 cn1 cu1 r S1 k1 ea hc => ?_))
  obtain ⟨c0, v0⟩ := r
  rcases oc_line ea with rfl | ⟨rfl, rfl⟩ | ⟨rfl, rfl⟩ | ⟨rfl, rfl⟩
  · show mm_W _ _ _ _ _ _ _ (8, [(0, .ref 0), (1, .int x1), (2, .int x2), (3, .ref 17)], [.int v0, .int 0, .ref 17], wC ov1 un1 nx1 dp1 fa1 cu1 st1 fi1 se1 th1 db1 cn1 (wN mp mq mop moq mtr mdp mwi mfa mob mst mof (wO o)), 4)
    refine mm_skip (mm_call_mono _ _) 1 (st' := (9, [(0, .ref 0), (1, .int x1), (2, .int x2), (3, .ref 17)], [.long (Int32.toInt64 v0), .int 0, .ref 17], wC ov1 un1 nx1 dp1 fa1 cu1 st1 fi1 se1 th1 db1 cn1 (wN mp mq mop moq mtr mdp mwi mfa mob mst mof (wO o)), 4)) rfl ?_
    refine mm_need (mm_call_mono _ _) (c := vp_in 0 1) (s' := (10, [(0, .ref 0), (1, .int x1), (2, .int x2), (3, .ref 17)], [], wC ov1 un1 nx1 dp1 fa1 cu1 st1 fi1 se1 th1 db1 cn1 (wN mp mq mop moq mtr mdp mwi mfa mob mst mof (wO (vp_updL o 0 (Int32.toInt64 v0)))), 4)) rfl (by unfold vp_in; decide) ?_
    refine mm_skip (mm_call_mono _ _) 2 (st' := (26, [(0, .ref 0), (1, .int x1), (2, .int x2), (3, .ref 17)], [.int 0], wC ov1 un1 nx1 dp1 fa1 cu1 st1 fi1 se1 th1 db1 cn1 (wN mp mq mop moq mtr mdp mwi mfa mob mst mof (wO (vp_updL o 0 (Int32.toInt64 v0)))), 4)) rfl ?_
    exact mm_ret (mm_call_mono _ _) (c := True) (r := .inl (some (.int 0))) (M := wC ov1 un1 nx1 dp1 fa1 cu1 st1 fi1 se1 th1 db1 cn1 (wN mp mq mop moq mtr mdp mwi mfa mob mst mof (wO (vp_updL o 0 (Int32.toInt64 v0))))) (u := 4) rfl trivial (by decide) (hQ _ _ _ _ _ _ _ _ _ _ _ _ (0, v0) S1 k1 ea hc)

  · show mm_W _ _ _ _ _ _ _ (15, [(0, .ref 0), (1, .int x1), (2, .int x2), (3, .ref 17)], [], wC ov1 un1 nx1 dp1 fa1 cu1 st1 fi1 se1 th1 db1 cn1 (wN mp mq mop moq mtr mdp mwi mfa mob mst mof (wO o)), 4)
    refine mm_skip (mm_call_mono _ _) 1 (st' := (16, [(0, .ref 0), (1, .int x1), (2, .int x2), (3, .ref 17)], [.int 1], wC ov1 un1 nx1 dp1 fa1 cu1 st1 fi1 se1 th1 db1 cn1 (wN mp mq mop moq mtr mdp mwi mfa mob mst mof (wO o)), 4)) rfl ?_
    exact mm_ret (mm_call_mono _ _) (c := True) (r := .inl (some (.int 1))) (M := wC ov1 un1 nx1 dp1 fa1 cu1 st1 fi1 se1 th1 db1 cn1 (wN mp mq mop moq mtr mdp mwi mfa mob mst mof (wO o))) (u := 4) rfl trivial (by decide) (hQ _ _ _ _ _ _ _ _ _ _ _ _ (1, 0) S1 k1 ea hc)

  · show mm_W _ _ _ _ _ _ _ (19, [(0, .ref 0), (1, .int x1), (2, .int x2), (3, .ref 17)], [], wC ov1 un1 nx1 dp1 fa1 cu1 st1 fi1 se1 th1 db1 cn1 (wN mp mq mop moq mtr mdp mwi mfa mob mst mof (wO o)), 4)
    refine mm_skip (mm_call_mono _ _) 1 (st' := (20, [(0, .ref 0), (1, .int x1), (2, .int x2), (3, .ref 17)], [.int 2], wC ov1 un1 nx1 dp1 fa1 cu1 st1 fi1 se1 th1 db1 cn1 (wN mp mq mop moq mtr mdp mwi mfa mob mst mof (wO o)), 4)) rfl ?_
    exact mm_ret (mm_call_mono _ _) (c := True) (r := .inl (some (.int 2))) (M := wC ov1 un1 nx1 dp1 fa1 cu1 st1 fi1 se1 th1 db1 cn1 (wN mp mq mop moq mtr mdp mwi mfa mob mst mof (wO o))) (u := 4) rfl trivial (by decide) (hQ _ _ _ _ _ _ _ _ _ _ _ _ (2, 0) S1 k1 ea hc)

  · show mm_W _ _ _ _ _ _ _ (23, [(0, .ref 0), (1, .int x1), (2, .int x2), (3, .ref 17)], [], wC ov1 un1 nx1 dp1 fa1 cu1 st1 fi1 se1 th1 db1 cn1 (wN mp mq mop moq mtr mdp mwi mfa mob mst mof (wO o)), 4)
    refine mm_skip (mm_call_mono _ _) 1 (st' := (24, [(0, .ref 0), (1, .int x1), (2, .int x2), (3, .ref 17)], [.int 3], wC ov1 un1 nx1 dp1 fa1 cu1 st1 fi1 se1 th1 db1 cn1 (wN mp mq mop moq mtr mdp mwi mfa mob mst mof (wO o)), 4)) rfl ?_
    exact mm_ret (mm_call_mono _ _) (c := True) (r := .inl (some (.int 3))) (M := wC ov1 un1 nx1 dp1 fa1 cu1 st1 fi1 se1 th1 db1 cn1 (wN mp mq mop moq mtr mdp mwi mfa mob mst mof (wO o))) (u := 4) rfl trivial (by decide) (hQ _ _ _ _ _ _ _ _ _ _ _ _ (3, 0) S1 k1 ea hc)

set_option maxRecDepth 100000 in
theorem gl_middle {d : Nat} {ov un : Nat → Int32} {nx dp fa : Int32} {cu : mm_cu} {st fi se th db : Nat → Int32} {mp mq mop moq : Nat → Int64} {mtr mdp mwi mfa mob : Int32} {mst mof : Nat → Int32} {o : Nat → Int64} {S : Nat → stp} {k : Nat}  {x1 x2 : Int32} {Q : mm_R → mm_M → Prop} (hI : cI S k ov un dp st fi se th db (nI k)) (hQ : ∀ (ov1 un1 st1 fi1 se1 th1 db1 : Nat → Int32) (nx1 dp1 fa1 cn1 : Int32) (cu1 : mm_cu) (r : oc) (S1 : Nat → stp) (k1 : Nat), aLine 3 S k x1 x2 = (r, S1, k1) → cI S1 k1 ov1 un1 dp1 st1 fi1 se1 th1 db1 cn1 → Q (.inl (some (.int (nI r.1)))) (wC ov1 un1 nx1 dp1 fa1 cu1 st1 fi1 se1 th1 db1 cn1 (wN mp mq mop moq mtr mdp mwi mfa mob mst mof (wO (oW r o))))) : mm_call mm_Tb (d + 20) 154 [.ref 0, .int x1, .int x2, .ref 17] (wC ov un nx dp fa cu st fi se th db (nI k) (wN mp mq mop moq mtr mdp mwi mfa mob mst mof (wO o))) Q := by
  refine mm_in mt_154 (Nat.le_of_ble_eq_true rfl) ?_
  show mm_W _ _ _ _ _ _ _ (0, [(0, .ref 0), (1, .int x1), (2, .int x2), (3, .ref 17)], [], wC ov un nx dp fa cu st fi se th db (nI k) (wN mp mq mop moq mtr mdp mwi mfa mob mst mof (wO o)), 0)
  refine mm_skip (mm_call_mono _ _) 5 (st' := (5, [(0, .ref 0), (1, .int x1), (2, .int x2), (3, .ref 17)], [.int x2, .int x1, .ref 0, .int 0, .ref 17], wC ov un nx dp fa cu st fi se th db (nI k) (wN mp mq mop moq mtr mdp mwi mfa mob mst mof (wO o)), 0)) rfl ?_
  refine mm_inv (mm_call_mono _ _) (j := 3) (a := [.ref 0, .int x1, .int x2]) (M := wC ov un nx dp fa cu st fi se th db (nI k) (wN mp mq mop moq mtr mdp mwi mfa mob mst mof (wO o))) (u := 4) rfl (by decide) (gf_middle hI (fun ov1 un1 st1 fi1 se1 th1 db1 nx1 dp1 fa1 cn1 cu1 r S1 k1 ea hc => ?_))
  obtain ⟨c0, v0⟩ := r
  rcases oc_line ea with rfl | ⟨rfl, rfl⟩ | ⟨rfl, rfl⟩ | ⟨rfl, rfl⟩
  · show mm_W _ _ _ _ _ _ _ (8, [(0, .ref 0), (1, .int x1), (2, .int x2), (3, .ref 17)], [.int v0, .int 0, .ref 17], wC ov1 un1 nx1 dp1 fa1 cu1 st1 fi1 se1 th1 db1 cn1 (wN mp mq mop moq mtr mdp mwi mfa mob mst mof (wO o)), 4)
    refine mm_skip (mm_call_mono _ _) 1 (st' := (9, [(0, .ref 0), (1, .int x1), (2, .int x2), (3, .ref 17)], [.long (Int32.toInt64 v0), .int 0, .ref 17], wC ov1 un1 nx1 dp1 fa1 cu1 st1 fi1 se1 th1 db1 cn1 (wN mp mq mop moq mtr mdp mwi mfa mob mst mof (wO o)), 4)) rfl ?_
    refine mm_need (mm_call_mono _ _) (c := vp_in 0 1) (s' := (10, [(0, .ref 0), (1, .int x1), (2, .int x2), (3, .ref 17)], [], wC ov1 un1 nx1 dp1 fa1 cu1 st1 fi1 se1 th1 db1 cn1 (wN mp mq mop moq mtr mdp mwi mfa mob mst mof (wO (vp_updL o 0 (Int32.toInt64 v0)))), 4)) rfl (by unfold vp_in; decide) ?_
    refine mm_skip (mm_call_mono _ _) 2 (st' := (26, [(0, .ref 0), (1, .int x1), (2, .int x2), (3, .ref 17)], [.int 0], wC ov1 un1 nx1 dp1 fa1 cu1 st1 fi1 se1 th1 db1 cn1 (wN mp mq mop moq mtr mdp mwi mfa mob mst mof (wO (vp_updL o 0 (Int32.toInt64 v0)))), 4)) rfl ?_
    exact mm_ret (mm_call_mono _ _) (c := True) (r := .inl (some (.int 0))) (M := wC ov1 un1 nx1 dp1 fa1 cu1 st1 fi1 se1 th1 db1 cn1 (wN mp mq mop moq mtr mdp mwi mfa mob mst mof (wO (vp_updL o 0 (Int32.toInt64 v0))))) (u := 4) rfl trivial (by decide) (hQ _ _ _ _ _ _ _ _ _ _ _ _ (0, v0) S1 k1 ea hc)

  · show mm_W _ _ _ _ _ _ _ (15, [(0, .ref 0), (1, .int x1), (2, .int x2), (3, .ref 17)], [], wC ov1 un1 nx1 dp1 fa1 cu1 st1 fi1 se1 th1 db1 cn1 (wN mp mq mop moq mtr mdp mwi mfa mob mst mof (wO o)), 4)
    refine mm_skip (mm_call_mono _ _) 1 (st' := (16, [(0, .ref 0), (1, .int x1), (2, .int x2), (3, .ref 17)], [.int 1], wC ov1 un1 nx1 dp1 fa1 cu1 st1 fi1 se1 th1 db1 cn1 (wN mp mq mop moq mtr mdp mwi mfa mob mst mof (wO o)), 4)) rfl ?_
    exact mm_ret (mm_call_mono _ _) (c := True) (r := .inl (some (.int 1))) (M := wC ov1 un1 nx1 dp1 fa1 cu1 st1 fi1 se1 th1 db1 cn1 (wN mp mq mop moq mtr mdp mwi mfa mob mst mof (wO o))) (u := 4) rfl trivial (by decide) (hQ _ _ _ _ _ _ _ _ _ _ _ _ (1, 0) S1 k1 ea hc)

  · show mm_W _ _ _ _ _ _ _ (19, [(0, .ref 0), (1, .int x1), (2, .int x2), (3, .ref 17)], [], wC ov1 un1 nx1 dp1 fa1 cu1 st1 fi1 se1 th1 db1 cn1 (wN mp mq mop moq mtr mdp mwi mfa mob mst mof (wO o)), 4)
    refine mm_skip (mm_call_mono _ _) 1 (st' := (20, [(0, .ref 0), (1, .int x1), (2, .int x2), (3, .ref 17)], [.int 2], wC ov1 un1 nx1 dp1 fa1 cu1 st1 fi1 se1 th1 db1 cn1 (wN mp mq mop moq mtr mdp mwi mfa mob mst mof (wO o)), 4)) rfl ?_
    exact mm_ret (mm_call_mono _ _) (c := True) (r := .inl (some (.int 2))) (M := wC ov1 un1 nx1 dp1 fa1 cu1 st1 fi1 se1 th1 db1 cn1 (wN mp mq mop moq mtr mdp mwi mfa mob mst mof (wO o))) (u := 4) rfl trivial (by decide) (hQ _ _ _ _ _ _ _ _ _ _ _ _ (2, 0) S1 k1 ea hc)

  · show mm_W _ _ _ _ _ _ _ (23, [(0, .ref 0), (1, .int x1), (2, .int x2), (3, .ref 17)], [], wC ov1 un1 nx1 dp1 fa1 cu1 st1 fi1 se1 th1 db1 cn1 (wN mp mq mop moq mtr mdp mwi mfa mob mst mof (wO o)), 4)
    refine mm_skip (mm_call_mono _ _) 1 (st' := (24, [(0, .ref 0), (1, .int x1), (2, .int x2), (3, .ref 17)], [.int 3], wC ov1 un1 nx1 dp1 fa1 cu1 st1 fi1 se1 th1 db1 cn1 (wN mp mq mop moq mtr mdp mwi mfa mob mst mof (wO o)), 4)) rfl ?_
    exact mm_ret (mm_call_mono _ _) (c := True) (r := .inl (some (.int 3))) (M := wC ov1 un1 nx1 dp1 fa1 cu1 st1 fi1 se1 th1 db1 cn1 (wN mp mq mop moq mtr mdp mwi mfa mob mst mof (wO o))) (u := 4) rfl trivial (by decide) (hQ _ _ _ _ _ _ _ _ _ _ _ _ (3, 0) S1 k1 ea hc)

set_option maxRecDepth 100000 in
theorem gl_circle {d : Nat} {ov un : Nat → Int32} {nx dp fa : Int32} {cu : mm_cu} {st fi se th db : Nat → Int32} {mp mq mop moq : Nat → Int64} {mtr mdp mwi mfa mob : Int32} {mst mof : Nat → Int32} {o : Nat → Int64} {S : Nat → stp} {k : Nat}  {x1 x2 x3 : Int32} {Q : mm_R → mm_M → Prop} (hI : cI S k ov un dp st fi se th db (nI k)) (hQ : ∀ (ov1 un1 st1 fi1 se1 th1 db1 : Nat → Int32) (nx1 dp1 fa1 cn1 : Int32) (cu1 : mm_cu) (r : oc) (S1 : Nat → stp) (k1 : Nat), aCirc S k x1 x2 x3 = (r, S1, k1) → cI S1 k1 ov1 un1 dp1 st1 fi1 se1 th1 db1 cn1 → Q (.inl (some (.int (nI r.1)))) (wC ov1 un1 nx1 dp1 fa1 cu1 st1 fi1 se1 th1 db1 cn1 (wN mp mq mop moq mtr mdp mwi mfa mob mst mof (wO (oW r o))))) : mm_call mm_Tb (d + 20) 153 [.ref 0, .int x1, .int x2, .int x3, .ref 17] (wC ov un nx dp fa cu st fi se th db (nI k) (wN mp mq mop moq mtr mdp mwi mfa mob mst mof (wO o))) Q := by
  refine mm_in mt_153 (Nat.le_of_ble_eq_true rfl) ?_
  show mm_W _ _ _ _ _ _ _ (0, [(0, .ref 0), (1, .int x1), (2, .int x2), (3, .int x3), (4, .ref 17)], [], wC ov un nx dp fa cu st fi se th db (nI k) (wN mp mq mop moq mtr mdp mwi mfa mob mst mof (wO o)), 0)
  refine mm_skip (mm_call_mono _ _) 6 (st' := (7, [(0, .ref 0), (1, .int x1), (2, .int x2), (3, .int x3), (4, .ref 17)], [.int x3, .int x2, .int x1, .ref 0, .int 0, .ref 17], wC ov un nx dp fa cu st fi se th db (nI k) (wN mp mq mop moq mtr mdp mwi mfa mob mst mof (wO o)), 0)) rfl ?_
  refine mm_inv (mm_call_mono _ _) (j := 2) (a := [.ref 0, .int x1, .int x2, .int x3]) (M := wC ov un nx dp fa cu st fi se th db (nI k) (wN mp mq mop moq mtr mdp mwi mfa mob mst mof (wO o))) (u := 4) rfl (by decide) (gf_circle hI (fun ov1 un1 st1 fi1 se1 th1 db1 nx1 dp1 fa1 cn1 cu1 r S1 k1 ea hc => ?_))
  obtain ⟨c0, v0⟩ := r
  rcases oc_circle ea with rfl | ⟨rfl, rfl⟩ | ⟨rfl, rfl⟩ | ⟨rfl, rfl⟩
  · show mm_W _ _ _ _ _ _ _ (10, [(0, .ref 0), (1, .int x1), (2, .int x2), (3, .int x3), (4, .ref 17)], [.int v0, .int 0, .ref 17], wC ov1 un1 nx1 dp1 fa1 cu1 st1 fi1 se1 th1 db1 cn1 (wN mp mq mop moq mtr mdp mwi mfa mob mst mof (wO o)), 4)
    refine mm_skip (mm_call_mono _ _) 1 (st' := (11, [(0, .ref 0), (1, .int x1), (2, .int x2), (3, .int x3), (4, .ref 17)], [.long (Int32.toInt64 v0), .int 0, .ref 17], wC ov1 un1 nx1 dp1 fa1 cu1 st1 fi1 se1 th1 db1 cn1 (wN mp mq mop moq mtr mdp mwi mfa mob mst mof (wO o)), 4)) rfl ?_
    refine mm_need (mm_call_mono _ _) (c := vp_in 0 1) (s' := (12, [(0, .ref 0), (1, .int x1), (2, .int x2), (3, .int x3), (4, .ref 17)], [], wC ov1 un1 nx1 dp1 fa1 cu1 st1 fi1 se1 th1 db1 cn1 (wN mp mq mop moq mtr mdp mwi mfa mob mst mof (wO (vp_updL o 0 (Int32.toInt64 v0)))), 4)) rfl (by unfold vp_in; decide) ?_
    refine mm_skip (mm_call_mono _ _) 2 (st' := (28, [(0, .ref 0), (1, .int x1), (2, .int x2), (3, .int x3), (4, .ref 17)], [.int 0], wC ov1 un1 nx1 dp1 fa1 cu1 st1 fi1 se1 th1 db1 cn1 (wN mp mq mop moq mtr mdp mwi mfa mob mst mof (wO (vp_updL o 0 (Int32.toInt64 v0)))), 4)) rfl ?_
    exact mm_ret (mm_call_mono _ _) (c := True) (r := .inl (some (.int 0))) (M := wC ov1 un1 nx1 dp1 fa1 cu1 st1 fi1 se1 th1 db1 cn1 (wN mp mq mop moq mtr mdp mwi mfa mob mst mof (wO (vp_updL o 0 (Int32.toInt64 v0))))) (u := 4) rfl trivial (by decide) (hQ _ _ _ _ _ _ _ _ _ _ _ _ (0, v0) S1 k1 ea hc)

  · show mm_W _ _ _ _ _ _ _ (17, [(0, .ref 0), (1, .int x1), (2, .int x2), (3, .int x3), (4, .ref 17)], [], wC ov1 un1 nx1 dp1 fa1 cu1 st1 fi1 se1 th1 db1 cn1 (wN mp mq mop moq mtr mdp mwi mfa mob mst mof (wO o)), 4)
    refine mm_skip (mm_call_mono _ _) 1 (st' := (18, [(0, .ref 0), (1, .int x1), (2, .int x2), (3, .int x3), (4, .ref 17)], [.int 1], wC ov1 un1 nx1 dp1 fa1 cu1 st1 fi1 se1 th1 db1 cn1 (wN mp mq mop moq mtr mdp mwi mfa mob mst mof (wO o)), 4)) rfl ?_
    exact mm_ret (mm_call_mono _ _) (c := True) (r := .inl (some (.int 1))) (M := wC ov1 un1 nx1 dp1 fa1 cu1 st1 fi1 se1 th1 db1 cn1 (wN mp mq mop moq mtr mdp mwi mfa mob mst mof (wO o))) (u := 4) rfl trivial (by decide) (hQ _ _ _ _ _ _ _ _ _ _ _ _ (1, 0) S1 k1 ea hc)

  · show mm_W _ _ _ _ _ _ _ (21, [(0, .ref 0), (1, .int x1), (2, .int x2), (3, .int x3), (4, .ref 17)], [], wC ov1 un1 nx1 dp1 fa1 cu1 st1 fi1 se1 th1 db1 cn1 (wN mp mq mop moq mtr mdp mwi mfa mob mst mof (wO o)), 4)
    refine mm_skip (mm_call_mono _ _) 1 (st' := (22, [(0, .ref 0), (1, .int x1), (2, .int x2), (3, .int x3), (4, .ref 17)], [.int 2], wC ov1 un1 nx1 dp1 fa1 cu1 st1 fi1 se1 th1 db1 cn1 (wN mp mq mop moq mtr mdp mwi mfa mob mst mof (wO o)), 4)) rfl ?_
    exact mm_ret (mm_call_mono _ _) (c := True) (r := .inl (some (.int 2))) (M := wC ov1 un1 nx1 dp1 fa1 cu1 st1 fi1 se1 th1 db1 cn1 (wN mp mq mop moq mtr mdp mwi mfa mob mst mof (wO o))) (u := 4) rfl trivial (by decide) (hQ _ _ _ _ _ _ _ _ _ _ _ _ (2, 0) S1 k1 ea hc)

  · show mm_W _ _ _ _ _ _ _ (25, [(0, .ref 0), (1, .int x1), (2, .int x2), (3, .int x3), (4, .ref 17)], [], wC ov1 un1 nx1 dp1 fa1 cu1 st1 fi1 se1 th1 db1 cn1 (wN mp mq mop moq mtr mdp mwi mfa mob mst mof (wO o)), 4)
    refine mm_skip (mm_call_mono _ _) 1 (st' := (26, [(0, .ref 0), (1, .int x1), (2, .int x2), (3, .int x3), (4, .ref 17)], [.int 3], wC ov1 un1 nx1 dp1 fa1 cu1 st1 fi1 se1 th1 db1 cn1 (wN mp mq mop moq mtr mdp mwi mfa mob mst mof (wO o)), 4)) rfl ?_
    exact mm_ret (mm_call_mono _ _) (c := True) (r := .inl (some (.int 3))) (M := wC ov1 un1 nx1 dp1 fa1 cu1 st1 fi1 se1 th1 db1 cn1 (wN mp mq mop moq mtr mdp mwi mfa mob mst mof (wO o))) (u := 4) rfl trivial (by decide) (hQ _ _ _ _ _ _ _ _ _ _ _ _ (3, 0) S1 k1 ea hc)

set_option maxRecDepth 100000 in
theorem gl_meet {d : Nat} {ov un : Nat → Int32} {nx dp fa : Int32} {cu : mm_cu} {st fi se th db : Nat → Int32} {mp mq mop moq : Nat → Int64} {mtr mdp mwi mfa mob : Int32} {mst mof : Nat → Int32} {o : Nat → Int64} {S : Nat → stp} {k : Nat}  {x1 x2 x3 : Int32} {Q : mm_R → mm_M → Prop} (hI : cI S k ov un dp st fi se th db (nI k)) (hQ : ∀ (ov1 un1 st1 fi1 se1 th1 db1 : Nat → Int32) (nx1 dp1 fa1 cn1 : Int32) (cu1 : mm_cu) (r : oc) (S1 : Nat → stp) (k1 : Nat), aMeet S k x1 x2 x3 = (r, S1, k1) → cI S1 k1 ov1 un1 dp1 st1 fi1 se1 th1 db1 cn1 → Q (.inl (some (.int (nI r.1)))) (wC ov1 un1 nx1 dp1 fa1 cu1 st1 fi1 se1 th1 db1 cn1 (wN mp mq mop moq mtr mdp mwi mfa mob mst mof (wO (oW r o))))) : mm_call mm_Tb (d + 20) 155 [.ref 0, .int x1, .int x2, .int x3, .ref 17] (wC ov un nx dp fa cu st fi se th db (nI k) (wN mp mq mop moq mtr mdp mwi mfa mob mst mof (wO o))) Q := by
  refine mm_in mt_155 (Nat.le_of_ble_eq_true rfl) ?_
  show mm_W _ _ _ _ _ _ _ (0, [(0, .ref 0), (1, .int x1), (2, .int x2), (3, .int x3), (4, .ref 17)], [], wC ov un nx dp fa cu st fi se th db (nI k) (wN mp mq mop moq mtr mdp mwi mfa mob mst mof (wO o)), 0)
  refine mm_skip (mm_call_mono _ _) 6 (st' := (7, [(0, .ref 0), (1, .int x1), (2, .int x2), (3, .int x3), (4, .ref 17)], [.int x3, .int x2, .int x1, .ref 0, .int 0, .ref 17], wC ov un nx dp fa cu st fi se th db (nI k) (wN mp mq mop moq mtr mdp mwi mfa mob mst mof (wO o)), 0)) rfl ?_
  refine mm_inv (mm_call_mono _ _) (j := 4) (a := [.ref 0, .int x1, .int x2, .int x3]) (M := wC ov un nx dp fa cu st fi se th db (nI k) (wN mp mq mop moq mtr mdp mwi mfa mob mst mof (wO o))) (u := 4) rfl (by decide) (gf_meet hI (fun ov1 un1 st1 fi1 se1 th1 db1 nx1 dp1 fa1 cn1 cu1 r S1 k1 ea hc => ?_))
  obtain ⟨c0, v0⟩ := r
  rcases oc_meet ea with rfl | ⟨rfl, rfl⟩ | ⟨rfl, rfl⟩ | ⟨rfl, rfl⟩
  · show mm_W _ _ _ _ _ _ _ (10, [(0, .ref 0), (1, .int x1), (2, .int x2), (3, .int x3), (4, .ref 17)], [.int v0, .int 0, .ref 17], wC ov1 un1 nx1 dp1 fa1 cu1 st1 fi1 se1 th1 db1 cn1 (wN mp mq mop moq mtr mdp mwi mfa mob mst mof (wO o)), 4)
    refine mm_skip (mm_call_mono _ _) 1 (st' := (11, [(0, .ref 0), (1, .int x1), (2, .int x2), (3, .int x3), (4, .ref 17)], [.long (Int32.toInt64 v0), .int 0, .ref 17], wC ov1 un1 nx1 dp1 fa1 cu1 st1 fi1 se1 th1 db1 cn1 (wN mp mq mop moq mtr mdp mwi mfa mob mst mof (wO o)), 4)) rfl ?_
    refine mm_need (mm_call_mono _ _) (c := vp_in 0 1) (s' := (12, [(0, .ref 0), (1, .int x1), (2, .int x2), (3, .int x3), (4, .ref 17)], [], wC ov1 un1 nx1 dp1 fa1 cu1 st1 fi1 se1 th1 db1 cn1 (wN mp mq mop moq mtr mdp mwi mfa mob mst mof (wO (vp_updL o 0 (Int32.toInt64 v0)))), 4)) rfl (by unfold vp_in; decide) ?_
    refine mm_skip (mm_call_mono _ _) 2 (st' := (28, [(0, .ref 0), (1, .int x1), (2, .int x2), (3, .int x3), (4, .ref 17)], [.int 0], wC ov1 un1 nx1 dp1 fa1 cu1 st1 fi1 se1 th1 db1 cn1 (wN mp mq mop moq mtr mdp mwi mfa mob mst mof (wO (vp_updL o 0 (Int32.toInt64 v0)))), 4)) rfl ?_
    exact mm_ret (mm_call_mono _ _) (c := True) (r := .inl (some (.int 0))) (M := wC ov1 un1 nx1 dp1 fa1 cu1 st1 fi1 se1 th1 db1 cn1 (wN mp mq mop moq mtr mdp mwi mfa mob mst mof (wO (vp_updL o 0 (Int32.toInt64 v0))))) (u := 4) rfl trivial (by decide) (hQ _ _ _ _ _ _ _ _ _ _ _ _ (0, v0) S1 k1 ea hc)

  · show mm_W _ _ _ _ _ _ _ (17, [(0, .ref 0), (1, .int x1), (2, .int x2), (3, .int x3), (4, .ref 17)], [], wC ov1 un1 nx1 dp1 fa1 cu1 st1 fi1 se1 th1 db1 cn1 (wN mp mq mop moq mtr mdp mwi mfa mob mst mof (wO o)), 4)
    refine mm_skip (mm_call_mono _ _) 1 (st' := (18, [(0, .ref 0), (1, .int x1), (2, .int x2), (3, .int x3), (4, .ref 17)], [.int 1], wC ov1 un1 nx1 dp1 fa1 cu1 st1 fi1 se1 th1 db1 cn1 (wN mp mq mop moq mtr mdp mwi mfa mob mst mof (wO o)), 4)) rfl ?_
    exact mm_ret (mm_call_mono _ _) (c := True) (r := .inl (some (.int 1))) (M := wC ov1 un1 nx1 dp1 fa1 cu1 st1 fi1 se1 th1 db1 cn1 (wN mp mq mop moq mtr mdp mwi mfa mob mst mof (wO o))) (u := 4) rfl trivial (by decide) (hQ _ _ _ _ _ _ _ _ _ _ _ _ (1, 0) S1 k1 ea hc)

  · show mm_W _ _ _ _ _ _ _ (21, [(0, .ref 0), (1, .int x1), (2, .int x2), (3, .int x3), (4, .ref 17)], [], wC ov1 un1 nx1 dp1 fa1 cu1 st1 fi1 se1 th1 db1 cn1 (wN mp mq mop moq mtr mdp mwi mfa mob mst mof (wO o)), 4)
    refine mm_skip (mm_call_mono _ _) 1 (st' := (22, [(0, .ref 0), (1, .int x1), (2, .int x2), (3, .int x3), (4, .ref 17)], [.int 2], wC ov1 un1 nx1 dp1 fa1 cu1 st1 fi1 se1 th1 db1 cn1 (wN mp mq mop moq mtr mdp mwi mfa mob mst mof (wO o)), 4)) rfl ?_
    exact mm_ret (mm_call_mono _ _) (c := True) (r := .inl (some (.int 2))) (M := wC ov1 un1 nx1 dp1 fa1 cu1 st1 fi1 se1 th1 db1 cn1 (wN mp mq mop moq mtr mdp mwi mfa mob mst mof (wO o))) (u := 4) rfl trivial (by decide) (hQ _ _ _ _ _ _ _ _ _ _ _ _ (2, 0) S1 k1 ea hc)

  · show mm_W _ _ _ _ _ _ _ (25, [(0, .ref 0), (1, .int x1), (2, .int x2), (3, .int x3), (4, .ref 17)], [], wC ov1 un1 nx1 dp1 fa1 cu1 st1 fi1 se1 th1 db1 cn1 (wN mp mq mop moq mtr mdp mwi mfa mob mst mof (wO o)), 4)
    refine mm_skip (mm_call_mono _ _) 1 (st' := (26, [(0, .ref 0), (1, .int x1), (2, .int x2), (3, .int x3), (4, .ref 17)], [.int 3], wC ov1 un1 nx1 dp1 fa1 cu1 st1 fi1 se1 th1 db1 cn1 (wN mp mq mop moq mtr mdp mwi mfa mob mst mof (wO o)), 4)) rfl ?_
    exact mm_ret (mm_call_mono _ _) (c := True) (r := .inl (some (.int 3))) (M := wC ov1 un1 nx1 dp1 fa1 cu1 st1 fi1 se1 th1 db1 cn1 (wN mp mq mop moq mtr mdp mwi mfa mob mst mof (wO o))) (u := 4) rfl trivial (by decide) (hQ _ _ _ _ _ _ _ _ _ _ _ _ (3, 0) S1 k1 ea hc)

set_option maxRecDepth 100000 in
theorem gl_move {d : Nat} {ov un : Nat → Int32} {nx dp fa : Int32} {cu : mm_cu} {st fi se th db : Nat → Int32} {mp mq mop moq : Nat → Int64} {mtr mdp mwi mfa mob : Int32} {mst mof : Nat → Int32} {o : Nat → Int64} {S : Nat → stp} {k : Nat}  {x1 x2 x3 x4 x5 : Int32} {Q : mm_R → mm_M → Prop} (hI : cI S k ov un dp st fi se th db (nI k)) (hQ : ∀ (ov1 un1 st1 fi1 se1 th1 db1 : Nat → Int32) (nx1 dp1 fa1 cn1 : Int32) (cu1 : mm_cu) (r : oc) (S1 : Nat → stp) (k1 : Nat), aMove S k x1 x2 x3 x4 x5 = (r, S1, k1) → cI S1 k1 ov1 un1 dp1 st1 fi1 se1 th1 db1 cn1 → Q (.inl (some (.int (nI r.1)))) (wC ov1 un1 nx1 dp1 fa1 cu1 st1 fi1 se1 th1 db1 cn1 (wN mp mq mop moq mtr mdp mwi mfa mob mst mof (wO (oW r o))))) : mm_call mm_Tb (d + 20) 156 [.ref 0, .int x1, .int x2, .int x3, .int x4, .int x5, .ref 17] (wC ov un nx dp fa cu st fi se th db (nI k) (wN mp mq mop moq mtr mdp mwi mfa mob mst mof (wO o))) Q := by
  refine mm_in mt_156 (Nat.le_of_ble_eq_true rfl) ?_
  show mm_W _ _ _ _ _ _ _ (0, [(0, .ref 0), (1, .int x1), (2, .int x2), (3, .int x3), (4, .int x4), (5, .int x5), (6, .ref 17)], [], wC ov un nx dp fa cu st fi se th db (nI k) (wN mp mq mop moq mtr mdp mwi mfa mob mst mof (wO o)), 0)
  refine mm_skip (mm_call_mono _ _) 8 (st' := (11, [(0, .ref 0), (1, .int x1), (2, .int x2), (3, .int x3), (4, .int x4), (5, .int x5), (6, .ref 17)], [.int x5, .int x4, .int x3, .int x2, .int x1, .ref 0, .int 0, .ref 17], wC ov un nx dp fa cu st fi se th db (nI k) (wN mp mq mop moq mtr mdp mwi mfa mob mst mof (wO o)), 0)) rfl ?_
  refine mm_inv (mm_call_mono _ _) (j := 5) (a := [.ref 0, .int x1, .int x2, .int x3, .int x4, .int x5]) (M := wC ov un nx dp fa cu st fi se th db (nI k) (wN mp mq mop moq mtr mdp mwi mfa mob mst mof (wO o))) (u := 4) rfl (by decide) (gf_move hI (fun ov1 un1 st1 fi1 se1 th1 db1 nx1 dp1 fa1 cn1 cu1 r S1 k1 ea hc => ?_))
  obtain ⟨c0, v0⟩ := r
  rcases oc_move ea with rfl | ⟨rfl, rfl⟩
  · show mm_W _ _ _ _ _ _ _ (14, [(0, .ref 0), (1, .int x1), (2, .int x2), (3, .int x3), (4, .int x4), (5, .int x5), (6, .ref 17)], [.int v0, .int 0, .ref 17], wC ov1 un1 nx1 dp1 fa1 cu1 st1 fi1 se1 th1 db1 cn1 (wN mp mq mop moq mtr mdp mwi mfa mob mst mof (wO o)), 4)
    refine mm_skip (mm_call_mono _ _) 1 (st' := (15, [(0, .ref 0), (1, .int x1), (2, .int x2), (3, .int x3), (4, .int x4), (5, .int x5), (6, .ref 17)], [.long (Int32.toInt64 v0), .int 0, .ref 17], wC ov1 un1 nx1 dp1 fa1 cu1 st1 fi1 se1 th1 db1 cn1 (wN mp mq mop moq mtr mdp mwi mfa mob mst mof (wO o)), 4)) rfl ?_
    refine mm_need (mm_call_mono _ _) (c := vp_in 0 1) (s' := (16, [(0, .ref 0), (1, .int x1), (2, .int x2), (3, .int x3), (4, .int x4), (5, .int x5), (6, .ref 17)], [], wC ov1 un1 nx1 dp1 fa1 cu1 st1 fi1 se1 th1 db1 cn1 (wN mp mq mop moq mtr mdp mwi mfa mob mst mof (wO (vp_updL o 0 (Int32.toInt64 v0)))), 4)) rfl (by unfold vp_in; decide) ?_
    refine mm_skip (mm_call_mono _ _) 2 (st' := (24, [(0, .ref 0), (1, .int x1), (2, .int x2), (3, .int x3), (4, .int x4), (5, .int x5), (6, .ref 17)], [.int 0], wC ov1 un1 nx1 dp1 fa1 cu1 st1 fi1 se1 th1 db1 cn1 (wN mp mq mop moq mtr mdp mwi mfa mob mst mof (wO (vp_updL o 0 (Int32.toInt64 v0)))), 4)) rfl ?_
    exact mm_ret (mm_call_mono _ _) (c := True) (r := .inl (some (.int 0))) (M := wC ov1 un1 nx1 dp1 fa1 cu1 st1 fi1 se1 th1 db1 cn1 (wN mp mq mop moq mtr mdp mwi mfa mob mst mof (wO (vp_updL o 0 (Int32.toInt64 v0))))) (u := 4) rfl trivial (by decide) (hQ _ _ _ _ _ _ _ _ _ _ _ _ (0, v0) S1 k1 ea hc)

  · show mm_W _ _ _ _ _ _ _ (21, [(0, .ref 0), (1, .int x1), (2, .int x2), (3, .int x3), (4, .int x4), (5, .int x5), (6, .ref 17)], [], wC ov1 un1 nx1 dp1 fa1 cu1 st1 fi1 se1 th1 db1 cn1 (wN mp mq mop moq mtr mdp mwi mfa mob mst mof (wO o)), 4)
    refine mm_skip (mm_call_mono _ _) 1 (st' := (22, [(0, .ref 0), (1, .int x1), (2, .int x2), (3, .int x3), (4, .int x4), (5, .int x5), (6, .ref 17)], [.int 1], wC ov1 un1 nx1 dp1 fa1 cu1 st1 fi1 se1 th1 db1 cn1 (wN mp mq mop moq mtr mdp mwi mfa mob mst mof (wO o)), 4)) rfl ?_
    exact mm_ret (mm_call_mono _ _) (c := True) (r := .inl (some (.int 1))) (M := wC ov1 un1 nx1 dp1 fa1 cu1 st1 fi1 se1 th1 db1 cn1 (wN mp mq mop moq mtr mdp mwi mfa mob mst mof (wO o))) (u := 4) rfl trivial (by decide) (hQ _ _ _ _ _ _ _ _ _ _ _ _ (1, 0) S1 k1 ea hc)

theorem oc_B {T : Option Bool} {c : Nat} {v : Int32} (h : oB T = (c, v)) : (c = 0 ∧ mm_z v) ∨ (c = 2 ∧ v = 0) := by
  cases T with
  | none => cases h; exact Or.inr ⟨rfl, rfl⟩
  | some b => cases h; exact Or.inl ⟨rfl, bz_z _⟩
theorem oc_I {T : Option Int} {c : Nat} {v : Int32} (h : oI T = (c, v)) : c = 0 ∨ (c = 2 ∧ v = 0) := by
  cases T with
  | none => cases h; exact Or.inr ⟨rfl, rfl⟩
  | some b => cases h; exact Or.inl rfl
theorem oc_on {S : Nat → stp} {k : Nat} {x y v : Int32} {c : Nat} (h : qOn S k x y = (c, v)) : mm_z v ∧ (c = 0 ∨ (c = 1 ∧ v = 0) ∨ (c = 2 ∧ v = 0)) := by
  unfold qOn at h
  split at h
  · rcases oc_B h with q | q
    · exact ⟨q.2, Or.inl q.1⟩
    · exact ⟨Or.inl q.2, Or.inr (Or.inr q)⟩
  · cases h; exact ⟨Or.inl rfl, Or.inr (Or.inl ⟨rfl, rfl⟩)⟩
theorem oc_same {S : Nat → stp} {k : Nat} {x y v : Int32} {c : Nat} (h : qSame S k x y = (c, v)) : mm_z v ∧ (c = 0 ∨ (c = 1 ∧ v = 0)) := by
  unfold qSame at h
  split at h
  · cases h; exact ⟨bz_z _, Or.inl rfl⟩
  · cases h; exact ⟨Or.inl rfl, Or.inr ⟨rfl, rfl⟩⟩
theorem oc_eq {S : Nat → stp} {k : Nat} {x y z w v : Int32} {c : Nat} (h : qEq S k x y z w = (c, v)) : mm_z v ∧ (c = 0 ∨ (c = 1 ∧ v = 0) ∨ (c = 2 ∧ v = 0)) := by
  unfold qEq at h
  split at h
  · rcases oc_B h with q | q
    · exact ⟨q.2, Or.inl q.1⟩
    · exact ⟨Or.inl q.2, Or.inr (Or.inr q)⟩
  · cases h; exact ⟨Or.inl rfl, Or.inr (Or.inl ⟨rfl, rfl⟩)⟩
theorem oc_side {S : Nat → stp} {k : Nat} {x y z v : Int32} {c : Nat} (h : qSide S k x y z = (c, v)) : c = 0 ∨ (c = 1 ∧ v = 0) ∨ (c = 2 ∧ v = 0) := by
  unfold qSide at h
  split at h
  · rcases oc_I h with q | q
    · exact Or.inl q
    · exact Or.inr (Or.inr q)
  · cases h; exact Or.inr (Or.inl ⟨rfl, rfl⟩)
theorem oc_sign {S : Nat → stp} {k : Nat} {x y z v : Int32} {c : Nat} (h : qSign S k x y z = (c, v)) : c = 0 ∨ (c = 1 ∧ v = 0) ∨ (c = 2 ∧ v = 0) := by
  unfold qSign at h
  split at h
  · rcases oc_I h with q | q
    · exact Or.inl q
    · exact Or.inr (Or.inr q)
  · cases h; exact Or.inr (Or.inl ⟨rfl, rfl⟩)
theorem oc_part {S : Nat → stp} {k : Nat} {x y z w v : Int32} {c : Nat} (h : qPart S k x y z w = (c, v)) : c = 0 ∨ (c = 1 ∧ v = 0) := by
  unfold qPart at h
  split at h
  · cases h; exact Or.inl rfl
  · cases h; exact Or.inr ⟨rfl, rfl⟩
theorem oc_rad {S : Nat → stp} {k : Nat} {x y z v : Int32} {c : Nat} (h : qRad S k x y z = (c, v)) : c = 0 ∨ (c = 1 ∧ v = 0) := by
  unfold qRad at h
  split at h
  · cases h; exact Or.inl rfl
  · cases h; exact Or.inr ⟨rfl, rfl⟩
set_option maxRecDepth 100000 in
theorem gl_on {d : Nat} {ov un : Nat → Int32} {nx fa : Int32} {cu : mm_cu} {st fi se th db : Nat → Int32} {mp mq mop moq : Nat → Int64} {mtr mdp mwi mfa mob : Int32} {mst mof : Nat → Int32} {o : Nat → Int64} {S : Nat → stp} {k : Nat} {v : Nat → o3} {L : lvR} {x1 x2 : Int32} {Q : mm_R → mm_M → Prop} (hI : cI S k ov un (nI L.1) st fi se th db (nI k)) (hdr : dr S k = some (v, L)) (hl : L.1 ≤ 2) (R : rdA ov un 308 0 L) (hH : ∀ i, i < k → hold (us (S i).1) ov un i (v i)) (hQ : ∀ (ov1 un1 : Nat → Int32) (nx1 fa1 : Int32) (r : oc), qOn S k x1 x2 = r → cI S k ov1 un1 (nI L.1) st fi se th db (nI k) → Q (.inl (some (.int (nI r.1)))) (wC ov1 un1 nx1 (nI L.1) fa1 cu st fi se th db (nI k) (wN mp mq mop moq mtr mdp mwi mfa mob mst mof (wO (oW r o))))) : mm_call mm_Tb (d + 20) 157 [.ref 0, .int x1, .int x2, .ref 17] (wC ov un nx (nI L.1) fa cu st fi se th db (nI k) (wN mp mq mop moq mtr mdp mwi mfa mob mst mof (wO o))) Q := by
  refine mm_in mt_157 (Nat.le_of_ble_eq_true rfl) ?_
  show mm_W _ _ _ _ _ _ _ (0, [(0, .ref 0), (1, .int x1), (2, .int x2), (3, .ref 17)], [], wC ov un nx (nI L.1) fa cu st fi se th db (nI k) (wN mp mq mop moq mtr mdp mwi mfa mob mst mof (wO o)), 0)
  refine mm_skip (mm_call_mono _ _) 5 (st' := (5, [(0, .ref 0), (1, .int x1), (2, .int x2), (3, .ref 17)], [.int x2, .int x1, .ref 0, .int 0, .ref 17], wC ov un nx (nI L.1) fa cu st fi se th db (nI k) (wN mp mq mop moq mtr mdp mwi mfa mob mst mof (wO o)), 0)) rfl ?_
  refine mm_inv (mm_call_mono _ _) (j := 7) (a := [.ref 0, .int x1, .int x2]) (M := wC ov un nx (nI L.1) fa cu st fi se th db (nI k) (wN mp mq mop moq mtr mdp mwi mfa mob mst mof (wO o))) (u := 4) rfl (by decide) (gq_on hI hdr hl R hH (fun ov1 un1 nx1 fa1 r ea hc => ?_))
  obtain ⟨c0, v0⟩ := r
  have hbv := (oc_on ea).1
  rcases (oc_on ea).2 with rfl | ⟨rfl, rfl⟩ | ⟨rfl, rfl⟩
  · show mm_W _ _ _ _ _ _ _ (8, [(0, .ref 0), (1, .int x1), (2, .int x2), (3, .ref 17)], [.int v0, .int 0, .ref 17], wC ov1 un1 nx1 (nI L.1) fa1 cu st fi se th db (nI k) (wN mp mq mop moq mtr mdp mwi mfa mob mst mof (wO o)), 4)
    rcases hbv with rfl | rfl
    · skip
      refine mm_branch (mm_call_mono _ _) (c := (0 : Int32) = 0) (s1 := (15, [(0, .ref 0), (1, .int x1), (2, .int x2), (3, .ref 17)], [.int 0, .ref 17], wC ov1 un1 nx1 (nI L.1) fa1 cu st fi se th db (nI k) (wN mp mq mop moq mtr mdp mwi mfa mob mst mof (wO o)), 4)) (s2 := (11, [(0, .ref 0), (1, .int x1), (2, .int x2), (3, .ref 17)], [.int 0, .ref 17], wC ov1 un1 nx1 (nI L.1) fa1 cu st fi se th db (nI k) (wN mp mq mop moq mtr mdp mwi mfa mob mst mof (wO o)), 4)) rfl (fun _ => ?_) (fun h => absurd (by decide) h)
      refine mm_skip (mm_call_mono _ _) 1 (st' := (16, [(0, .ref 0), (1, .int x1), (2, .int x2), (3, .ref 17)], [.long 0, .int 0, .ref 17], wC ov1 un1 nx1 (nI L.1) fa1 cu st fi se th db (nI k) (wN mp mq mop moq mtr mdp mwi mfa mob mst mof (wO o)), 4)) rfl ?_
      refine mm_need (mm_call_mono _ _) (c := vp_in 0 1) (s' := (17, [(0, .ref 0), (1, .int x1), (2, .int x2), (3, .ref 17)], [], wC ov1 un1 nx1 (nI L.1) fa1 cu st fi se th db (nI k) (wN mp mq mop moq mtr mdp mwi mfa mob mst mof (wO (vp_updL o 0 0))), 4)) rfl (by unfold vp_in; decide) ?_
      refine mm_skip (mm_call_mono _ _) 2 (st' := (29, [(0, .ref 0), (1, .int x1), (2, .int x2), (3, .ref 17)], [.int 0], wC ov1 un1 nx1 (nI L.1) fa1 cu st fi se th db (nI k) (wN mp mq mop moq mtr mdp mwi mfa mob mst mof (wO (vp_updL o 0 0))), 4)) rfl ?_
      exact mm_ret (mm_call_mono _ _) (c := True) (r := .inl (some (.int 0))) (M := wC ov1 un1 nx1 (nI L.1) fa1 cu st fi se th db (nI k) (wN mp mq mop moq mtr mdp mwi mfa mob mst mof (wO (vp_updL o 0 0)))) (u := 4) rfl trivial (by decide) (hQ _ _ _ _ (0, 0) ea hc)

    · skip
      refine mm_branch (mm_call_mono _ _) (c := (1 : Int32) = 0) (s1 := (15, [(0, .ref 0), (1, .int x1), (2, .int x2), (3, .ref 17)], [.int 0, .ref 17], wC ov1 un1 nx1 (nI L.1) fa1 cu st fi se th db (nI k) (wN mp mq mop moq mtr mdp mwi mfa mob mst mof (wO o)), 4)) (s2 := (11, [(0, .ref 0), (1, .int x1), (2, .int x2), (3, .ref 17)], [.int 0, .ref 17], wC ov1 un1 nx1 (nI L.1) fa1 cu st fi se th db (nI k) (wN mp mq mop moq mtr mdp mwi mfa mob mst mof (wO o)), 4)) rfl (fun h => absurd h (by decide)) (fun _ => ?_)
      refine mm_skip (mm_call_mono _ _) 2 (st' := (16, [(0, .ref 0), (1, .int x1), (2, .int x2), (3, .ref 17)], [.long 1, .int 0, .ref 17], wC ov1 un1 nx1 (nI L.1) fa1 cu st fi se th db (nI k) (wN mp mq mop moq mtr mdp mwi mfa mob mst mof (wO o)), 4)) rfl ?_
      refine mm_need (mm_call_mono _ _) (c := vp_in 0 1) (s' := (17, [(0, .ref 0), (1, .int x1), (2, .int x2), (3, .ref 17)], [], wC ov1 un1 nx1 (nI L.1) fa1 cu st fi se th db (nI k) (wN mp mq mop moq mtr mdp mwi mfa mob mst mof (wO (vp_updL o 0 1))), 4)) rfl (by unfold vp_in; decide) ?_
      refine mm_skip (mm_call_mono _ _) 2 (st' := (29, [(0, .ref 0), (1, .int x1), (2, .int x2), (3, .ref 17)], [.int 0], wC ov1 un1 nx1 (nI L.1) fa1 cu st fi se th db (nI k) (wN mp mq mop moq mtr mdp mwi mfa mob mst mof (wO (vp_updL o 0 1))), 4)) rfl ?_
      exact mm_ret (mm_call_mono _ _) (c := True) (r := .inl (some (.int 0))) (M := wC ov1 un1 nx1 (nI L.1) fa1 cu st fi se th db (nI k) (wN mp mq mop moq mtr mdp mwi mfa mob mst mof (wO (vp_updL o 0 1)))) (u := 4) rfl trivial (by decide) (hQ _ _ _ _ (0, 1) ea hc)

  · show mm_W _ _ _ _ _ _ _ (22, [(0, .ref 0), (1, .int x1), (2, .int x2), (3, .ref 17)], [], wC ov1 un1 nx1 (nI L.1) fa1 cu st fi se th db (nI k) (wN mp mq mop moq mtr mdp mwi mfa mob mst mof (wO o)), 4)
    refine mm_skip (mm_call_mono _ _) 1 (st' := (23, [(0, .ref 0), (1, .int x1), (2, .int x2), (3, .ref 17)], [.int 1], wC ov1 un1 nx1 (nI L.1) fa1 cu st fi se th db (nI k) (wN mp mq mop moq mtr mdp mwi mfa mob mst mof (wO o)), 4)) rfl ?_
    exact mm_ret (mm_call_mono _ _) (c := True) (r := .inl (some (.int 1))) (M := wC ov1 un1 nx1 (nI L.1) fa1 cu st fi se th db (nI k) (wN mp mq mop moq mtr mdp mwi mfa mob mst mof (wO o))) (u := 4) rfl trivial (by decide) (hQ _ _ _ _ (1, 0) ea hc)

  · show mm_W _ _ _ _ _ _ _ (26, [(0, .ref 0), (1, .int x1), (2, .int x2), (3, .ref 17)], [], wC ov1 un1 nx1 (nI L.1) fa1 cu st fi se th db (nI k) (wN mp mq mop moq mtr mdp mwi mfa mob mst mof (wO o)), 4)
    refine mm_skip (mm_call_mono _ _) 1 (st' := (27, [(0, .ref 0), (1, .int x1), (2, .int x2), (3, .ref 17)], [.int 2], wC ov1 un1 nx1 (nI L.1) fa1 cu st fi se th db (nI k) (wN mp mq mop moq mtr mdp mwi mfa mob mst mof (wO o)), 4)) rfl ?_
    exact mm_ret (mm_call_mono _ _) (c := True) (r := .inl (some (.int 2))) (M := wC ov1 un1 nx1 (nI L.1) fa1 cu st fi se th db (nI k) (wN mp mq mop moq mtr mdp mwi mfa mob mst mof (wO o))) (u := 4) rfl trivial (by decide) (hQ _ _ _ _ (2, 0) ea hc)

set_option maxRecDepth 100000 in
theorem gl_same {d : Nat} {ov un : Nat → Int32} {nx fa : Int32} {cu : mm_cu} {st fi se th db : Nat → Int32} {mp mq mop moq : Nat → Int64} {mtr mdp mwi mfa mob : Int32} {mst mof : Nat → Int32} {o : Nat → Int64} {S : Nat → stp} {k : Nat} {v : Nat → o3} {L : lvR} {x1 x2 : Int32} {Q : mm_R → mm_M → Prop} (hI : cI S k ov un (nI L.1) st fi se th db (nI k)) (hdr : dr S k = some (v, L)) (hl : L.1 ≤ 2) (R : rdA ov un 308 0 L) (hH : ∀ i, i < k → hold (us (S i).1) ov un i (v i)) (hQ : ∀ (ov1 un1 : Nat → Int32) (nx1 fa1 : Int32) (r : oc), qSame S k x1 x2 = r → cI S k ov1 un1 (nI L.1) st fi se th db (nI k) → Q (.inl (some (.int (nI r.1)))) (wC ov1 un1 nx1 (nI L.1) fa1 cu st fi se th db (nI k) (wN mp mq mop moq mtr mdp mwi mfa mob mst mof (wO (oW r o))))) : mm_call mm_Tb (d + 20) 158 [.ref 0, .int x1, .int x2, .ref 17] (wC ov un nx (nI L.1) fa cu st fi se th db (nI k) (wN mp mq mop moq mtr mdp mwi mfa mob mst mof (wO o))) Q := by
  refine mm_in mt_158 (Nat.le_of_ble_eq_true rfl) ?_
  show mm_W _ _ _ _ _ _ _ (0, [(0, .ref 0), (1, .int x1), (2, .int x2), (3, .ref 17)], [], wC ov un nx (nI L.1) fa cu st fi se th db (nI k) (wN mp mq mop moq mtr mdp mwi mfa mob mst mof (wO o)), 0)
  refine mm_skip (mm_call_mono _ _) 5 (st' := (5, [(0, .ref 0), (1, .int x1), (2, .int x2), (3, .ref 17)], [.int x2, .int x1, .ref 0, .int 0, .ref 17], wC ov un nx (nI L.1) fa cu st fi se th db (nI k) (wN mp mq mop moq mtr mdp mwi mfa mob mst mof (wO o)), 0)) rfl ?_
  refine mm_inv (mm_call_mono _ _) (j := 8) (a := [.ref 0, .int x1, .int x2]) (M := wC ov un nx (nI L.1) fa cu st fi se th db (nI k) (wN mp mq mop moq mtr mdp mwi mfa mob mst mof (wO o))) (u := 4) rfl (by decide) (gq_same hI hdr hl R hH (fun ov1 un1 nx1 fa1 r ea hc => ?_))
  obtain ⟨c0, v0⟩ := r
  have hbv := (oc_same ea).1
  rcases (oc_same ea).2 with rfl | ⟨rfl, rfl⟩
  · show mm_W _ _ _ _ _ _ _ (8, [(0, .ref 0), (1, .int x1), (2, .int x2), (3, .ref 17)], [.int v0, .int 0, .ref 17], wC ov1 un1 nx1 (nI L.1) fa1 cu st fi se th db (nI k) (wN mp mq mop moq mtr mdp mwi mfa mob mst mof (wO o)), 4)
    rcases hbv with rfl | rfl
    · skip
      refine mm_branch (mm_call_mono _ _) (c := (0 : Int32) = 0) (s1 := (15, [(0, .ref 0), (1, .int x1), (2, .int x2), (3, .ref 17)], [.int 0, .ref 17], wC ov1 un1 nx1 (nI L.1) fa1 cu st fi se th db (nI k) (wN mp mq mop moq mtr mdp mwi mfa mob mst mof (wO o)), 4)) (s2 := (11, [(0, .ref 0), (1, .int x1), (2, .int x2), (3, .ref 17)], [.int 0, .ref 17], wC ov1 un1 nx1 (nI L.1) fa1 cu st fi se th db (nI k) (wN mp mq mop moq mtr mdp mwi mfa mob mst mof (wO o)), 4)) rfl (fun _ => ?_) (fun h => absurd (by decide) h)
      refine mm_skip (mm_call_mono _ _) 1 (st' := (16, [(0, .ref 0), (1, .int x1), (2, .int x2), (3, .ref 17)], [.long 0, .int 0, .ref 17], wC ov1 un1 nx1 (nI L.1) fa1 cu st fi se th db (nI k) (wN mp mq mop moq mtr mdp mwi mfa mob mst mof (wO o)), 4)) rfl ?_
      refine mm_need (mm_call_mono _ _) (c := vp_in 0 1) (s' := (17, [(0, .ref 0), (1, .int x1), (2, .int x2), (3, .ref 17)], [], wC ov1 un1 nx1 (nI L.1) fa1 cu st fi se th db (nI k) (wN mp mq mop moq mtr mdp mwi mfa mob mst mof (wO (vp_updL o 0 0))), 4)) rfl (by unfold vp_in; decide) ?_
      refine mm_skip (mm_call_mono _ _) 2 (st' := (25, [(0, .ref 0), (1, .int x1), (2, .int x2), (3, .ref 17)], [.int 0], wC ov1 un1 nx1 (nI L.1) fa1 cu st fi se th db (nI k) (wN mp mq mop moq mtr mdp mwi mfa mob mst mof (wO (vp_updL o 0 0))), 4)) rfl ?_
      exact mm_ret (mm_call_mono _ _) (c := True) (r := .inl (some (.int 0))) (M := wC ov1 un1 nx1 (nI L.1) fa1 cu st fi se th db (nI k) (wN mp mq mop moq mtr mdp mwi mfa mob mst mof (wO (vp_updL o 0 0)))) (u := 4) rfl trivial (by decide) (hQ _ _ _ _ (0, 0) ea hc)

    · skip
      refine mm_branch (mm_call_mono _ _) (c := (1 : Int32) = 0) (s1 := (15, [(0, .ref 0), (1, .int x1), (2, .int x2), (3, .ref 17)], [.int 0, .ref 17], wC ov1 un1 nx1 (nI L.1) fa1 cu st fi se th db (nI k) (wN mp mq mop moq mtr mdp mwi mfa mob mst mof (wO o)), 4)) (s2 := (11, [(0, .ref 0), (1, .int x1), (2, .int x2), (3, .ref 17)], [.int 0, .ref 17], wC ov1 un1 nx1 (nI L.1) fa1 cu st fi se th db (nI k) (wN mp mq mop moq mtr mdp mwi mfa mob mst mof (wO o)), 4)) rfl (fun h => absurd h (by decide)) (fun _ => ?_)
      refine mm_skip (mm_call_mono _ _) 2 (st' := (16, [(0, .ref 0), (1, .int x1), (2, .int x2), (3, .ref 17)], [.long 1, .int 0, .ref 17], wC ov1 un1 nx1 (nI L.1) fa1 cu st fi se th db (nI k) (wN mp mq mop moq mtr mdp mwi mfa mob mst mof (wO o)), 4)) rfl ?_
      refine mm_need (mm_call_mono _ _) (c := vp_in 0 1) (s' := (17, [(0, .ref 0), (1, .int x1), (2, .int x2), (3, .ref 17)], [], wC ov1 un1 nx1 (nI L.1) fa1 cu st fi se th db (nI k) (wN mp mq mop moq mtr mdp mwi mfa mob mst mof (wO (vp_updL o 0 1))), 4)) rfl (by unfold vp_in; decide) ?_
      refine mm_skip (mm_call_mono _ _) 2 (st' := (25, [(0, .ref 0), (1, .int x1), (2, .int x2), (3, .ref 17)], [.int 0], wC ov1 un1 nx1 (nI L.1) fa1 cu st fi se th db (nI k) (wN mp mq mop moq mtr mdp mwi mfa mob mst mof (wO (vp_updL o 0 1))), 4)) rfl ?_
      exact mm_ret (mm_call_mono _ _) (c := True) (r := .inl (some (.int 0))) (M := wC ov1 un1 nx1 (nI L.1) fa1 cu st fi se th db (nI k) (wN mp mq mop moq mtr mdp mwi mfa mob mst mof (wO (vp_updL o 0 1)))) (u := 4) rfl trivial (by decide) (hQ _ _ _ _ (0, 1) ea hc)

  · show mm_W _ _ _ _ _ _ _ (22, [(0, .ref 0), (1, .int x1), (2, .int x2), (3, .ref 17)], [], wC ov1 un1 nx1 (nI L.1) fa1 cu st fi se th db (nI k) (wN mp mq mop moq mtr mdp mwi mfa mob mst mof (wO o)), 4)
    refine mm_skip (mm_call_mono _ _) 1 (st' := (23, [(0, .ref 0), (1, .int x1), (2, .int x2), (3, .ref 17)], [.int 1], wC ov1 un1 nx1 (nI L.1) fa1 cu st fi se th db (nI k) (wN mp mq mop moq mtr mdp mwi mfa mob mst mof (wO o)), 4)) rfl ?_
    exact mm_ret (mm_call_mono _ _) (c := True) (r := .inl (some (.int 1))) (M := wC ov1 un1 nx1 (nI L.1) fa1 cu st fi se th db (nI k) (wN mp mq mop moq mtr mdp mwi mfa mob mst mof (wO o))) (u := 4) rfl trivial (by decide) (hQ _ _ _ _ (1, 0) ea hc)

set_option maxRecDepth 100000 in
theorem gl_equal {d : Nat} {ov un : Nat → Int32} {nx fa : Int32} {cu : mm_cu} {st fi se th db : Nat → Int32} {mp mq mop moq : Nat → Int64} {mtr mdp mwi mfa mob : Int32} {mst mof : Nat → Int32} {o : Nat → Int64} {S : Nat → stp} {k : Nat} {v : Nat → o3} {L : lvR} {x1 x2 x3 x4 : Int32} {Q : mm_R → mm_M → Prop} (hI : cI S k ov un (nI L.1) st fi se th db (nI k)) (hdr : dr S k = some (v, L)) (hl : L.1 ≤ 2) (R : rdA ov un 308 0 L) (hH : ∀ i, i < k → hold (us (S i).1) ov un i (v i)) (hQ : ∀ (ov1 un1 : Nat → Int32) (nx1 fa1 : Int32) (r : oc), qEq S k x1 x2 x3 x4 = r → cI S k ov1 un1 (nI L.1) st fi se th db (nI k) → Q (.inl (some (.int (nI r.1)))) (wC ov1 un1 nx1 (nI L.1) fa1 cu st fi se th db (nI k) (wN mp mq mop moq mtr mdp mwi mfa mob mst mof (wO (oW r o))))) : mm_call mm_Tb (d + 20) 159 [.ref 0, .int x1, .int x2, .int x3, .int x4, .ref 17] (wC ov un nx (nI L.1) fa cu st fi se th db (nI k) (wN mp mq mop moq mtr mdp mwi mfa mob mst mof (wO o))) Q := by
  refine mm_in mt_159 (Nat.le_of_ble_eq_true rfl) ?_
  show mm_W _ _ _ _ _ _ _ (0, [(0, .ref 0), (1, .int x1), (2, .int x2), (3, .int x3), (4, .int x4), (5, .ref 17)], [], wC ov un nx (nI L.1) fa cu st fi se th db (nI k) (wN mp mq mop moq mtr mdp mwi mfa mob mst mof (wO o)), 0)
  refine mm_skip (mm_call_mono _ _) 7 (st' := (9, [(0, .ref 0), (1, .int x1), (2, .int x2), (3, .int x3), (4, .int x4), (5, .ref 17)], [.int x4, .int x3, .int x2, .int x1, .ref 0, .int 0, .ref 17], wC ov un nx (nI L.1) fa cu st fi se th db (nI k) (wN mp mq mop moq mtr mdp mwi mfa mob mst mof (wO o)), 0)) rfl ?_
  refine mm_inv (mm_call_mono _ _) (j := 9) (a := [.ref 0, .int x1, .int x2, .int x3, .int x4]) (M := wC ov un nx (nI L.1) fa cu st fi se th db (nI k) (wN mp mq mop moq mtr mdp mwi mfa mob mst mof (wO o))) (u := 4) rfl (by decide) (gq_equal hI hdr hl R hH (fun ov1 un1 nx1 fa1 r ea hc => ?_))
  obtain ⟨c0, v0⟩ := r
  have hbv := (oc_eq ea).1
  rcases (oc_eq ea).2 with rfl | ⟨rfl, rfl⟩ | ⟨rfl, rfl⟩
  · show mm_W _ _ _ _ _ _ _ (12, [(0, .ref 0), (1, .int x1), (2, .int x2), (3, .int x3), (4, .int x4), (5, .ref 17)], [.int v0, .int 0, .ref 17], wC ov1 un1 nx1 (nI L.1) fa1 cu st fi se th db (nI k) (wN mp mq mop moq mtr mdp mwi mfa mob mst mof (wO o)), 4)
    rcases hbv with rfl | rfl
    · skip
      refine mm_branch (mm_call_mono _ _) (c := (0 : Int32) = 0) (s1 := (19, [(0, .ref 0), (1, .int x1), (2, .int x2), (3, .int x3), (4, .int x4), (5, .ref 17)], [.int 0, .ref 17], wC ov1 un1 nx1 (nI L.1) fa1 cu st fi se th db (nI k) (wN mp mq mop moq mtr mdp mwi mfa mob mst mof (wO o)), 4)) (s2 := (15, [(0, .ref 0), (1, .int x1), (2, .int x2), (3, .int x3), (4, .int x4), (5, .ref 17)], [.int 0, .ref 17], wC ov1 un1 nx1 (nI L.1) fa1 cu st fi se th db (nI k) (wN mp mq mop moq mtr mdp mwi mfa mob mst mof (wO o)), 4)) rfl (fun _ => ?_) (fun h => absurd (by decide) h)
      refine mm_skip (mm_call_mono _ _) 1 (st' := (20, [(0, .ref 0), (1, .int x1), (2, .int x2), (3, .int x3), (4, .int x4), (5, .ref 17)], [.long 0, .int 0, .ref 17], wC ov1 un1 nx1 (nI L.1) fa1 cu st fi se th db (nI k) (wN mp mq mop moq mtr mdp mwi mfa mob mst mof (wO o)), 4)) rfl ?_
      refine mm_need (mm_call_mono _ _) (c := vp_in 0 1) (s' := (21, [(0, .ref 0), (1, .int x1), (2, .int x2), (3, .int x3), (4, .int x4), (5, .ref 17)], [], wC ov1 un1 nx1 (nI L.1) fa1 cu st fi se th db (nI k) (wN mp mq mop moq mtr mdp mwi mfa mob mst mof (wO (vp_updL o 0 0))), 4)) rfl (by unfold vp_in; decide) ?_
      refine mm_skip (mm_call_mono _ _) 2 (st' := (33, [(0, .ref 0), (1, .int x1), (2, .int x2), (3, .int x3), (4, .int x4), (5, .ref 17)], [.int 0], wC ov1 un1 nx1 (nI L.1) fa1 cu st fi se th db (nI k) (wN mp mq mop moq mtr mdp mwi mfa mob mst mof (wO (vp_updL o 0 0))), 4)) rfl ?_
      exact mm_ret (mm_call_mono _ _) (c := True) (r := .inl (some (.int 0))) (M := wC ov1 un1 nx1 (nI L.1) fa1 cu st fi se th db (nI k) (wN mp mq mop moq mtr mdp mwi mfa mob mst mof (wO (vp_updL o 0 0)))) (u := 4) rfl trivial (by decide) (hQ _ _ _ _ (0, 0) ea hc)

    · skip
      refine mm_branch (mm_call_mono _ _) (c := (1 : Int32) = 0) (s1 := (19, [(0, .ref 0), (1, .int x1), (2, .int x2), (3, .int x3), (4, .int x4), (5, .ref 17)], [.int 0, .ref 17], wC ov1 un1 nx1 (nI L.1) fa1 cu st fi se th db (nI k) (wN mp mq mop moq mtr mdp mwi mfa mob mst mof (wO o)), 4)) (s2 := (15, [(0, .ref 0), (1, .int x1), (2, .int x2), (3, .int x3), (4, .int x4), (5, .ref 17)], [.int 0, .ref 17], wC ov1 un1 nx1 (nI L.1) fa1 cu st fi se th db (nI k) (wN mp mq mop moq mtr mdp mwi mfa mob mst mof (wO o)), 4)) rfl (fun h => absurd h (by decide)) (fun _ => ?_)
      refine mm_skip (mm_call_mono _ _) 2 (st' := (20, [(0, .ref 0), (1, .int x1), (2, .int x2), (3, .int x3), (4, .int x4), (5, .ref 17)], [.long 1, .int 0, .ref 17], wC ov1 un1 nx1 (nI L.1) fa1 cu st fi se th db (nI k) (wN mp mq mop moq mtr mdp mwi mfa mob mst mof (wO o)), 4)) rfl ?_
      refine mm_need (mm_call_mono _ _) (c := vp_in 0 1) (s' := (21, [(0, .ref 0), (1, .int x1), (2, .int x2), (3, .int x3), (4, .int x4), (5, .ref 17)], [], wC ov1 un1 nx1 (nI L.1) fa1 cu st fi se th db (nI k) (wN mp mq mop moq mtr mdp mwi mfa mob mst mof (wO (vp_updL o 0 1))), 4)) rfl (by unfold vp_in; decide) ?_
      refine mm_skip (mm_call_mono _ _) 2 (st' := (33, [(0, .ref 0), (1, .int x1), (2, .int x2), (3, .int x3), (4, .int x4), (5, .ref 17)], [.int 0], wC ov1 un1 nx1 (nI L.1) fa1 cu st fi se th db (nI k) (wN mp mq mop moq mtr mdp mwi mfa mob mst mof (wO (vp_updL o 0 1))), 4)) rfl ?_
      exact mm_ret (mm_call_mono _ _) (c := True) (r := .inl (some (.int 0))) (M := wC ov1 un1 nx1 (nI L.1) fa1 cu st fi se th db (nI k) (wN mp mq mop moq mtr mdp mwi mfa mob mst mof (wO (vp_updL o 0 1)))) (u := 4) rfl trivial (by decide) (hQ _ _ _ _ (0, 1) ea hc)

  · show mm_W _ _ _ _ _ _ _ (26, [(0, .ref 0), (1, .int x1), (2, .int x2), (3, .int x3), (4, .int x4), (5, .ref 17)], [], wC ov1 un1 nx1 (nI L.1) fa1 cu st fi se th db (nI k) (wN mp mq mop moq mtr mdp mwi mfa mob mst mof (wO o)), 4)
    refine mm_skip (mm_call_mono _ _) 1 (st' := (27, [(0, .ref 0), (1, .int x1), (2, .int x2), (3, .int x3), (4, .int x4), (5, .ref 17)], [.int 1], wC ov1 un1 nx1 (nI L.1) fa1 cu st fi se th db (nI k) (wN mp mq mop moq mtr mdp mwi mfa mob mst mof (wO o)), 4)) rfl ?_
    exact mm_ret (mm_call_mono _ _) (c := True) (r := .inl (some (.int 1))) (M := wC ov1 un1 nx1 (nI L.1) fa1 cu st fi se th db (nI k) (wN mp mq mop moq mtr mdp mwi mfa mob mst mof (wO o))) (u := 4) rfl trivial (by decide) (hQ _ _ _ _ (1, 0) ea hc)

  · show mm_W _ _ _ _ _ _ _ (30, [(0, .ref 0), (1, .int x1), (2, .int x2), (3, .int x3), (4, .int x4), (5, .ref 17)], [], wC ov1 un1 nx1 (nI L.1) fa1 cu st fi se th db (nI k) (wN mp mq mop moq mtr mdp mwi mfa mob mst mof (wO o)), 4)
    refine mm_skip (mm_call_mono _ _) 1 (st' := (31, [(0, .ref 0), (1, .int x1), (2, .int x2), (3, .int x3), (4, .int x4), (5, .ref 17)], [.int 2], wC ov1 un1 nx1 (nI L.1) fa1 cu st fi se th db (nI k) (wN mp mq mop moq mtr mdp mwi mfa mob mst mof (wO o)), 4)) rfl ?_
    exact mm_ret (mm_call_mono _ _) (c := True) (r := .inl (some (.int 2))) (M := wC ov1 un1 nx1 (nI L.1) fa1 cu st fi se th db (nI k) (wN mp mq mop moq mtr mdp mwi mfa mob mst mof (wO o))) (u := 4) rfl trivial (by decide) (hQ _ _ _ _ (2, 0) ea hc)

set_option maxRecDepth 100000 in
theorem gl_side {d : Nat} {ov un : Nat → Int32} {nx fa : Int32} {cu : mm_cu} {st fi se th db : Nat → Int32} {mp mq mop moq : Nat → Int64} {mtr mdp mwi mfa mob : Int32} {mst mof : Nat → Int32} {o : Nat → Int64} {S : Nat → stp} {k : Nat} {v : Nat → o3} {L : lvR} {x1 x2 x3 : Int32} {Q : mm_R → mm_M → Prop} (hI : cI S k ov un (nI L.1) st fi se th db (nI k)) (hdr : dr S k = some (v, L)) (hl : L.1 ≤ 2) (R : rdA ov un 308 0 L) (hH : ∀ i, i < k → hold (us (S i).1) ov un i (v i)) (hQ : ∀ (ov1 un1 : Nat → Int32) (nx1 fa1 : Int32) (r : oc), qSide S k x1 x2 x3 = r → cI S k ov1 un1 (nI L.1) st fi se th db (nI k) → Q (.inl (some (.int (nI r.1)))) (wC ov1 un1 nx1 (nI L.1) fa1 cu st fi se th db (nI k) (wN mp mq mop moq mtr mdp mwi mfa mob mst mof (wO (oW r o))))) : mm_call mm_Tb (d + 20) 161 [.ref 0, .int x1, .int x2, .int x3, .ref 17] (wC ov un nx (nI L.1) fa cu st fi se th db (nI k) (wN mp mq mop moq mtr mdp mwi mfa mob mst mof (wO o))) Q := by
  refine mm_in mt_161 (Nat.le_of_ble_eq_true rfl) ?_
  show mm_W _ _ _ _ _ _ _ (0, [(0, .ref 0), (1, .int x1), (2, .int x2), (3, .int x3), (4, .ref 17)], [], wC ov un nx (nI L.1) fa cu st fi se th db (nI k) (wN mp mq mop moq mtr mdp mwi mfa mob mst mof (wO o)), 0)
  refine mm_skip (mm_call_mono _ _) 6 (st' := (7, [(0, .ref 0), (1, .int x1), (2, .int x2), (3, .int x3), (4, .ref 17)], [.int x3, .int x2, .int x1, .ref 0, .int 0, .ref 17], wC ov un nx (nI L.1) fa cu st fi se th db (nI k) (wN mp mq mop moq mtr mdp mwi mfa mob mst mof (wO o)), 0)) rfl ?_
  refine mm_inv (mm_call_mono _ _) (j := 11) (a := [.ref 0, .int x1, .int x2, .int x3]) (M := wC ov un nx (nI L.1) fa cu st fi se th db (nI k) (wN mp mq mop moq mtr mdp mwi mfa mob mst mof (wO o))) (u := 4) rfl (by decide) (gq_side hI hdr hl R hH (fun ov1 un1 nx1 fa1 r ea hc => ?_))
  obtain ⟨c0, v0⟩ := r
  rcases oc_side ea with rfl | ⟨rfl, rfl⟩ | ⟨rfl, rfl⟩
  · show mm_W _ _ _ _ _ _ _ (10, [(0, .ref 0), (1, .int x1), (2, .int x2), (3, .int x3), (4, .ref 17)], [.int v0, .int 0, .ref 17], wC ov1 un1 nx1 (nI L.1) fa1 cu st fi se th db (nI k) (wN mp mq mop moq mtr mdp mwi mfa mob mst mof (wO o)), 4)
    refine mm_skip (mm_call_mono _ _) 1 (st' := (11, [(0, .ref 0), (1, .int x1), (2, .int x2), (3, .int x3), (4, .ref 17)], [.long (Int32.toInt64 v0), .int 0, .ref 17], wC ov1 un1 nx1 (nI L.1) fa1 cu st fi se th db (nI k) (wN mp mq mop moq mtr mdp mwi mfa mob mst mof (wO o)), 4)) rfl ?_
    refine mm_need (mm_call_mono _ _) (c := vp_in 0 1) (s' := (12, [(0, .ref 0), (1, .int x1), (2, .int x2), (3, .int x3), (4, .ref 17)], [], wC ov1 un1 nx1 (nI L.1) fa1 cu st fi se th db (nI k) (wN mp mq mop moq mtr mdp mwi mfa mob mst mof (wO (vp_updL o 0 (Int32.toInt64 v0)))), 4)) rfl (by unfold vp_in; decide) ?_
    refine mm_skip (mm_call_mono _ _) 2 (st' := (24, [(0, .ref 0), (1, .int x1), (2, .int x2), (3, .int x3), (4, .ref 17)], [.int 0], wC ov1 un1 nx1 (nI L.1) fa1 cu st fi se th db (nI k) (wN mp mq mop moq mtr mdp mwi mfa mob mst mof (wO (vp_updL o 0 (Int32.toInt64 v0)))), 4)) rfl ?_
    exact mm_ret (mm_call_mono _ _) (c := True) (r := .inl (some (.int 0))) (M := wC ov1 un1 nx1 (nI L.1) fa1 cu st fi se th db (nI k) (wN mp mq mop moq mtr mdp mwi mfa mob mst mof (wO (vp_updL o 0 (Int32.toInt64 v0))))) (u := 4) rfl trivial (by decide) (hQ _ _ _ _ (0, v0) ea hc)

  · show mm_W _ _ _ _ _ _ _ (17, [(0, .ref 0), (1, .int x1), (2, .int x2), (3, .int x3), (4, .ref 17)], [], wC ov1 un1 nx1 (nI L.1) fa1 cu st fi se th db (nI k) (wN mp mq mop moq mtr mdp mwi mfa mob mst mof (wO o)), 4)
    refine mm_skip (mm_call_mono _ _) 1 (st' := (18, [(0, .ref 0), (1, .int x1), (2, .int x2), (3, .int x3), (4, .ref 17)], [.int 1], wC ov1 un1 nx1 (nI L.1) fa1 cu st fi se th db (nI k) (wN mp mq mop moq mtr mdp mwi mfa mob mst mof (wO o)), 4)) rfl ?_
    exact mm_ret (mm_call_mono _ _) (c := True) (r := .inl (some (.int 1))) (M := wC ov1 un1 nx1 (nI L.1) fa1 cu st fi se th db (nI k) (wN mp mq mop moq mtr mdp mwi mfa mob mst mof (wO o))) (u := 4) rfl trivial (by decide) (hQ _ _ _ _ (1, 0) ea hc)

  · show mm_W _ _ _ _ _ _ _ (21, [(0, .ref 0), (1, .int x1), (2, .int x2), (3, .int x3), (4, .ref 17)], [], wC ov1 un1 nx1 (nI L.1) fa1 cu st fi se th db (nI k) (wN mp mq mop moq mtr mdp mwi mfa mob mst mof (wO o)), 4)
    refine mm_skip (mm_call_mono _ _) 1 (st' := (22, [(0, .ref 0), (1, .int x1), (2, .int x2), (3, .int x3), (4, .ref 17)], [.int 2], wC ov1 un1 nx1 (nI L.1) fa1 cu st fi se th db (nI k) (wN mp mq mop moq mtr mdp mwi mfa mob mst mof (wO o)), 4)) rfl ?_
    exact mm_ret (mm_call_mono _ _) (c := True) (r := .inl (some (.int 2))) (M := wC ov1 un1 nx1 (nI L.1) fa1 cu st fi se th db (nI k) (wN mp mq mop moq mtr mdp mwi mfa mob mst mof (wO o))) (u := 4) rfl trivial (by decide) (hQ _ _ _ _ (2, 0) ea hc)

set_option maxRecDepth 100000 in
theorem gl_sign0 {d : Nat} {ov un : Nat → Int32} {nx fa : Int32} {cu : mm_cu} {st fi se th db : Nat → Int32} {mp mq mop moq : Nat → Int64} {mtr mdp mwi mfa mob : Int32} {mst mof : Nat → Int32} {o : Nat → Int64} {S : Nat → stp} {k : Nat} {v : Nat → o3} {L : lvR} {x1 x2 x3 : Int32} {Q : mm_R → mm_M → Prop} (hy : x2 = 0) (hI : cI S k ov un (nI L.1) st fi se th db (nI k)) (hdr : dr S k = some (v, L)) (hl : L.1 ≤ 2) (R : rdA ov un 308 0 L) (hH : ∀ i, i < k → hold (us (S i).1) ov un i (v i)) (hQ : ∀ (ov1 un1 : Nat → Int32) (nx1 fa1 : Int32) (r : oc), qSign S k x1 x2 x3 = r → cI S k ov1 un1 (nI L.1) st fi se th db (nI k) → Q (.inl (some (.int (nI r.1)))) (wC ov1 un1 nx1 (nI L.1) fa1 cu st fi se th db (nI k) (wN mp mq mop moq mtr mdp mwi mfa mob mst mof (wO (oW r o))))) : mm_call mm_Tb (d + 20) 162 [.ref 0, .int x1, .int x2, .int x3, .ref 17] (wC ov un nx (nI L.1) fa cu st fi se th db (nI k) (wN mp mq mop moq mtr mdp mwi mfa mob mst mof (wO o))) Q := by
  refine mm_in mt_162 (Nat.le_of_ble_eq_true rfl) ?_
  show mm_W _ _ _ _ _ _ _ (0, [(0, .ref 0), (1, .int x1), (2, .int x2), (3, .int x3), (4, .ref 17)], [], wC ov un nx (nI L.1) fa cu st fi se th db (nI k) (wN mp mq mop moq mtr mdp mwi mfa mob mst mof (wO o)), 0)
  refine mm_skip (mm_call_mono _ _) 6 (st' := (7, [(0, .ref 0), (1, .int x1), (2, .int x2), (3, .int x3), (4, .ref 17)], [.int x3, .int x2, .int x1, .ref 0, .int 0, .ref 17], wC ov un nx (nI L.1) fa cu st fi se th db (nI k) (wN mp mq mop moq mtr mdp mwi mfa mob mst mof (wO o)), 0)) rfl ?_
  refine mm_inv (mm_call_mono _ _) (j := 12) (a := [.ref 0, .int x1, .int x2, .int x3]) (M := wC ov un nx (nI L.1) fa cu st fi se th db (nI k) (wN mp mq mop moq mtr mdp mwi mfa mob mst mof (wO o))) (u := 4) rfl (by decide) (gq_sign0 hy hI hdr hl R hH (fun ov1 un1 nx1 fa1 r ea hc => ?_))
  obtain ⟨c0, v0⟩ := r
  rcases oc_sign ea with rfl | ⟨rfl, rfl⟩ | ⟨rfl, rfl⟩
  · show mm_W _ _ _ _ _ _ _ (10, [(0, .ref 0), (1, .int x1), (2, .int x2), (3, .int x3), (4, .ref 17)], [.int v0, .int 0, .ref 17], wC ov1 un1 nx1 (nI L.1) fa1 cu st fi se th db (nI k) (wN mp mq mop moq mtr mdp mwi mfa mob mst mof (wO o)), 4)
    refine mm_skip (mm_call_mono _ _) 1 (st' := (11, [(0, .ref 0), (1, .int x1), (2, .int x2), (3, .int x3), (4, .ref 17)], [.long (Int32.toInt64 v0), .int 0, .ref 17], wC ov1 un1 nx1 (nI L.1) fa1 cu st fi se th db (nI k) (wN mp mq mop moq mtr mdp mwi mfa mob mst mof (wO o)), 4)) rfl ?_
    refine mm_need (mm_call_mono _ _) (c := vp_in 0 1) (s' := (12, [(0, .ref 0), (1, .int x1), (2, .int x2), (3, .int x3), (4, .ref 17)], [], wC ov1 un1 nx1 (nI L.1) fa1 cu st fi se th db (nI k) (wN mp mq mop moq mtr mdp mwi mfa mob mst mof (wO (vp_updL o 0 (Int32.toInt64 v0)))), 4)) rfl (by unfold vp_in; decide) ?_
    refine mm_skip (mm_call_mono _ _) 2 (st' := (24, [(0, .ref 0), (1, .int x1), (2, .int x2), (3, .int x3), (4, .ref 17)], [.int 0], wC ov1 un1 nx1 (nI L.1) fa1 cu st fi se th db (nI k) (wN mp mq mop moq mtr mdp mwi mfa mob mst mof (wO (vp_updL o 0 (Int32.toInt64 v0)))), 4)) rfl ?_
    exact mm_ret (mm_call_mono _ _) (c := True) (r := .inl (some (.int 0))) (M := wC ov1 un1 nx1 (nI L.1) fa1 cu st fi se th db (nI k) (wN mp mq mop moq mtr mdp mwi mfa mob mst mof (wO (vp_updL o 0 (Int32.toInt64 v0))))) (u := 4) rfl trivial (by decide) (hQ _ _ _ _ (0, v0) ea hc)

  · show mm_W _ _ _ _ _ _ _ (17, [(0, .ref 0), (1, .int x1), (2, .int x2), (3, .int x3), (4, .ref 17)], [], wC ov1 un1 nx1 (nI L.1) fa1 cu st fi se th db (nI k) (wN mp mq mop moq mtr mdp mwi mfa mob mst mof (wO o)), 4)
    refine mm_skip (mm_call_mono _ _) 1 (st' := (18, [(0, .ref 0), (1, .int x1), (2, .int x2), (3, .int x3), (4, .ref 17)], [.int 1], wC ov1 un1 nx1 (nI L.1) fa1 cu st fi se th db (nI k) (wN mp mq mop moq mtr mdp mwi mfa mob mst mof (wO o)), 4)) rfl ?_
    exact mm_ret (mm_call_mono _ _) (c := True) (r := .inl (some (.int 1))) (M := wC ov1 un1 nx1 (nI L.1) fa1 cu st fi se th db (nI k) (wN mp mq mop moq mtr mdp mwi mfa mob mst mof (wO o))) (u := 4) rfl trivial (by decide) (hQ _ _ _ _ (1, 0) ea hc)

  · show mm_W _ _ _ _ _ _ _ (21, [(0, .ref 0), (1, .int x1), (2, .int x2), (3, .int x3), (4, .ref 17)], [], wC ov1 un1 nx1 (nI L.1) fa1 cu st fi se th db (nI k) (wN mp mq mop moq mtr mdp mwi mfa mob mst mof (wO o)), 4)
    refine mm_skip (mm_call_mono _ _) 1 (st' := (22, [(0, .ref 0), (1, .int x1), (2, .int x2), (3, .int x3), (4, .ref 17)], [.int 2], wC ov1 un1 nx1 (nI L.1) fa1 cu st fi se th db (nI k) (wN mp mq mop moq mtr mdp mwi mfa mob mst mof (wO o)), 4)) rfl ?_
    exact mm_ret (mm_call_mono _ _) (c := True) (r := .inl (some (.int 2))) (M := wC ov1 un1 nx1 (nI L.1) fa1 cu st fi se th db (nI k) (wN mp mq mop moq mtr mdp mwi mfa mob mst mof (wO o))) (u := 4) rfl trivial (by decide) (hQ _ _ _ _ (2, 0) ea hc)

set_option maxRecDepth 100000 in
theorem gl_part0 {d : Nat} {ov un : Nat → Int32} {nx fa : Int32} {cu : mm_cu} {st fi se th db : Nat → Int32} {mp mq mop moq : Nat → Int64} {mtr mdp mwi mfa mob : Int32} {mst mof : Nat → Int32} {o : Nat → Int64} {S : Nat → stp} {k : Nat} {v : Nat → o3} {L : lvR} {x1 x2 x3 x4 : Int32} {Q : mm_R → mm_M → Prop} (hy : x2 = 0) (hI : cI S k ov un (nI L.1) st fi se th db (nI k)) (hdr : dr S k = some (v, L)) (hl : L.1 ≤ 2) (R : rdA ov un 308 0 L) (hH : ∀ i, i < k → hold (us (S i).1) ov un i (v i)) (hQ : ∀ (ov1 un1 : Nat → Int32) (nx1 fa1 : Int32) (r : oc), qPart S k x1 x2 x3 x4 = r → cI S k ov1 un1 (nI L.1) st fi se th db (nI k) → Q (.inl (some (.int (nI r.1)))) (wC ov1 un1 nx1 (nI L.1) fa1 cu st fi se th db (nI k) (wN mp mq mop moq mtr mdp mwi mfa mob mst mof (wO (oW r o))))) : mm_call mm_Tb (d + 20) 163 [.ref 0, .int x1, .int x2, .int x3, .int x4, .ref 17] (wC ov un nx (nI L.1) fa cu st fi se th db (nI k) (wN mp mq mop moq mtr mdp mwi mfa mob mst mof (wO o))) Q := by
  refine mm_in mt_163 (Nat.le_of_ble_eq_true rfl) ?_
  show mm_W _ _ _ _ _ _ _ (0, [(0, .ref 0), (1, .int x1), (2, .int x2), (3, .int x3), (4, .int x4), (5, .ref 17)], [], wC ov un nx (nI L.1) fa cu st fi se th db (nI k) (wN mp mq mop moq mtr mdp mwi mfa mob mst mof (wO o)), 0)
  refine mm_skip (mm_call_mono _ _) 7 (st' := (9, [(0, .ref 0), (1, .int x1), (2, .int x2), (3, .int x3), (4, .int x4), (5, .ref 17)], [.int x4, .int x3, .int x2, .int x1, .ref 0, .int 0, .ref 17], wC ov un nx (nI L.1) fa cu st fi se th db (nI k) (wN mp mq mop moq mtr mdp mwi mfa mob mst mof (wO o)), 0)) rfl ?_
  refine mm_inv (mm_call_mono _ _) (j := 13) (a := [.ref 0, .int x1, .int x2, .int x3, .int x4]) (M := wC ov un nx (nI L.1) fa cu st fi se th db (nI k) (wN mp mq mop moq mtr mdp mwi mfa mob mst mof (wO o))) (u := 4) rfl (by decide) (gq_part0 hy hI hdr hl R hH (fun ov1 un1 nx1 fa1 r ea hc => ?_))
  obtain ⟨c0, v0⟩ := r
  rcases oc_part ea with rfl | ⟨rfl, rfl⟩
  · show mm_W _ _ _ _ _ _ _ (12, [(0, .ref 0), (1, .int x1), (2, .int x2), (3, .int x3), (4, .int x4), (5, .ref 17)], [.int v0, .int 0, .ref 17], wC ov1 un1 nx1 (nI L.1) fa1 cu st fi se th db (nI k) (wN mp mq mop moq mtr mdp mwi mfa mob mst mof (wO o)), 4)
    refine mm_skip (mm_call_mono _ _) 1 (st' := (13, [(0, .ref 0), (1, .int x1), (2, .int x2), (3, .int x3), (4, .int x4), (5, .ref 17)], [.long (Int32.toInt64 v0), .int 0, .ref 17], wC ov1 un1 nx1 (nI L.1) fa1 cu st fi se th db (nI k) (wN mp mq mop moq mtr mdp mwi mfa mob mst mof (wO o)), 4)) rfl ?_
    refine mm_need (mm_call_mono _ _) (c := vp_in 0 1) (s' := (14, [(0, .ref 0), (1, .int x1), (2, .int x2), (3, .int x3), (4, .int x4), (5, .ref 17)], [], wC ov1 un1 nx1 (nI L.1) fa1 cu st fi se th db (nI k) (wN mp mq mop moq mtr mdp mwi mfa mob mst mof (wO (vp_updL o 0 (Int32.toInt64 v0)))), 4)) rfl (by unfold vp_in; decide) ?_
    refine mm_skip (mm_call_mono _ _) 2 (st' := (22, [(0, .ref 0), (1, .int x1), (2, .int x2), (3, .int x3), (4, .int x4), (5, .ref 17)], [.int 0], wC ov1 un1 nx1 (nI L.1) fa1 cu st fi se th db (nI k) (wN mp mq mop moq mtr mdp mwi mfa mob mst mof (wO (vp_updL o 0 (Int32.toInt64 v0)))), 4)) rfl ?_
    exact mm_ret (mm_call_mono _ _) (c := True) (r := .inl (some (.int 0))) (M := wC ov1 un1 nx1 (nI L.1) fa1 cu st fi se th db (nI k) (wN mp mq mop moq mtr mdp mwi mfa mob mst mof (wO (vp_updL o 0 (Int32.toInt64 v0))))) (u := 4) rfl trivial (by decide) (hQ _ _ _ _ (0, v0) ea hc)

  · show mm_W _ _ _ _ _ _ _ (19, [(0, .ref 0), (1, .int x1), (2, .int x2), (3, .int x3), (4, .int x4), (5, .ref 17)], [], wC ov1 un1 nx1 (nI L.1) fa1 cu st fi se th db (nI k) (wN mp mq mop moq mtr mdp mwi mfa mob mst mof (wO o)), 4)
    refine mm_skip (mm_call_mono _ _) 1 (st' := (20, [(0, .ref 0), (1, .int x1), (2, .int x2), (3, .int x3), (4, .int x4), (5, .ref 17)], [.int 1], wC ov1 un1 nx1 (nI L.1) fa1 cu st fi se th db (nI k) (wN mp mq mop moq mtr mdp mwi mfa mob mst mof (wO o)), 4)) rfl ?_
    exact mm_ret (mm_call_mono _ _) (c := True) (r := .inl (some (.int 1))) (M := wC ov1 un1 nx1 (nI L.1) fa1 cu st fi se th db (nI k) (wN mp mq mop moq mtr mdp mwi mfa mob mst mof (wO o))) (u := 4) rfl trivial (by decide) (hQ _ _ _ _ (1, 0) ea hc)

set_option maxRecDepth 100000 in
theorem gl_sign1 {d : Nat} {ov un : Nat → Int32} {nx fa : Int32} {cu : mm_cu} {st fi se th db : Nat → Int32} {mp mq mop moq : Nat → Int64} {mtr mdp mwi mfa mob : Int32} {mst mof : Nat → Int32} {o : Nat → Int64} {S : Nat → stp} {k : Nat} {v : Nat → o3} {L : lvR} {x1 x2 x3 : Int32} {Q : mm_R → mm_M → Prop} (hy : ¬ x2 = 0) (hI : cI S k ov un (nI L.1) st fi se th db (nI k)) (hdr : dr S k = some (v, L)) (hl : L.1 ≤ 2) (R : rdA ov un 308 0 L) (hH : ∀ i, i < k → hold (us (S i).1) ov un i (v i)) (hQ : ∀ (ov1 un1 : Nat → Int32) (nx1 fa1 : Int32) (r : oc), qSign S k x1 x2 x3 = r → cI S k ov1 un1 (nI L.1) st fi se th db (nI k) → Q (.inl (some (.int (nI r.1)))) (wC ov1 un1 nx1 (nI L.1) fa1 cu st fi se th db (nI k) (wN mp mq mop moq mtr mdp mwi mfa mob mst mof (wO (oW r o))))) : mm_call mm_Tb (d + 20) 162 [.ref 0, .int x1, .int x2, .int x3, .ref 17] (wC ov un nx (nI L.1) fa cu st fi se th db (nI k) (wN mp mq mop moq mtr mdp mwi mfa mob mst mof (wO o))) Q := by
  refine mm_in mt_162 (Nat.le_of_ble_eq_true rfl) ?_
  show mm_W _ _ _ _ _ _ _ (0, [(0, .ref 0), (1, .int x1), (2, .int x2), (3, .int x3), (4, .ref 17)], [], wC ov un nx (nI L.1) fa cu st fi se th db (nI k) (wN mp mq mop moq mtr mdp mwi mfa mob mst mof (wO o)), 0)
  refine mm_skip (mm_call_mono _ _) 6 (st' := (7, [(0, .ref 0), (1, .int x1), (2, .int x2), (3, .int x3), (4, .ref 17)], [.int x3, .int x2, .int x1, .ref 0, .int 0, .ref 17], wC ov un nx (nI L.1) fa cu st fi se th db (nI k) (wN mp mq mop moq mtr mdp mwi mfa mob mst mof (wO o)), 0)) rfl ?_
  refine mm_inv (mm_call_mono _ _) (j := 12) (a := [.ref 0, .int x1, .int x2, .int x3]) (M := wC ov un nx (nI L.1) fa cu st fi se th db (nI k) (wN mp mq mop moq mtr mdp mwi mfa mob mst mof (wO o))) (u := 4) rfl (by decide) (gq_sign1 hy hI hdr hl R hH (fun ov1 un1 nx1 fa1 r ea hc => ?_))
  obtain ⟨c0, v0⟩ := r
  rcases oc_sign ea with rfl | ⟨rfl, rfl⟩ | ⟨rfl, rfl⟩
  · show mm_W _ _ _ _ _ _ _ (10, [(0, .ref 0), (1, .int x1), (2, .int x2), (3, .int x3), (4, .ref 17)], [.int v0, .int 0, .ref 17], wC ov1 un1 nx1 (nI L.1) fa1 cu st fi se th db (nI k) (wN mp mq mop moq mtr mdp mwi mfa mob mst mof (wO o)), 4)
    refine mm_skip (mm_call_mono _ _) 1 (st' := (11, [(0, .ref 0), (1, .int x1), (2, .int x2), (3, .int x3), (4, .ref 17)], [.long (Int32.toInt64 v0), .int 0, .ref 17], wC ov1 un1 nx1 (nI L.1) fa1 cu st fi se th db (nI k) (wN mp mq mop moq mtr mdp mwi mfa mob mst mof (wO o)), 4)) rfl ?_
    refine mm_need (mm_call_mono _ _) (c := vp_in 0 1) (s' := (12, [(0, .ref 0), (1, .int x1), (2, .int x2), (3, .int x3), (4, .ref 17)], [], wC ov1 un1 nx1 (nI L.1) fa1 cu st fi se th db (nI k) (wN mp mq mop moq mtr mdp mwi mfa mob mst mof (wO (vp_updL o 0 (Int32.toInt64 v0)))), 4)) rfl (by unfold vp_in; decide) ?_
    refine mm_skip (mm_call_mono _ _) 2 (st' := (24, [(0, .ref 0), (1, .int x1), (2, .int x2), (3, .int x3), (4, .ref 17)], [.int 0], wC ov1 un1 nx1 (nI L.1) fa1 cu st fi se th db (nI k) (wN mp mq mop moq mtr mdp mwi mfa mob mst mof (wO (vp_updL o 0 (Int32.toInt64 v0)))), 4)) rfl ?_
    exact mm_ret (mm_call_mono _ _) (c := True) (r := .inl (some (.int 0))) (M := wC ov1 un1 nx1 (nI L.1) fa1 cu st fi se th db (nI k) (wN mp mq mop moq mtr mdp mwi mfa mob mst mof (wO (vp_updL o 0 (Int32.toInt64 v0))))) (u := 4) rfl trivial (by decide) (hQ _ _ _ _ (0, v0) ea hc)

  · show mm_W _ _ _ _ _ _ _ (17, [(0, .ref 0), (1, .int x1), (2, .int x2), (3, .int x3), (4, .ref 17)], [], wC ov1 un1 nx1 (nI L.1) fa1 cu st fi se th db (nI k) (wN mp mq mop moq mtr mdp mwi mfa mob mst mof (wO o)), 4)
    refine mm_skip (mm_call_mono _ _) 1 (st' := (18, [(0, .ref 0), (1, .int x1), (2, .int x2), (3, .int x3), (4, .ref 17)], [.int 1], wC ov1 un1 nx1 (nI L.1) fa1 cu st fi se th db (nI k) (wN mp mq mop moq mtr mdp mwi mfa mob mst mof (wO o)), 4)) rfl ?_
    exact mm_ret (mm_call_mono _ _) (c := True) (r := .inl (some (.int 1))) (M := wC ov1 un1 nx1 (nI L.1) fa1 cu st fi se th db (nI k) (wN mp mq mop moq mtr mdp mwi mfa mob mst mof (wO o))) (u := 4) rfl trivial (by decide) (hQ _ _ _ _ (1, 0) ea hc)

  · show mm_W _ _ _ _ _ _ _ (21, [(0, .ref 0), (1, .int x1), (2, .int x2), (3, .int x3), (4, .ref 17)], [], wC ov1 un1 nx1 (nI L.1) fa1 cu st fi se th db (nI k) (wN mp mq mop moq mtr mdp mwi mfa mob mst mof (wO o)), 4)
    refine mm_skip (mm_call_mono _ _) 1 (st' := (22, [(0, .ref 0), (1, .int x1), (2, .int x2), (3, .int x3), (4, .ref 17)], [.int 2], wC ov1 un1 nx1 (nI L.1) fa1 cu st fi se th db (nI k) (wN mp mq mop moq mtr mdp mwi mfa mob mst mof (wO o)), 4)) rfl ?_
    exact mm_ret (mm_call_mono _ _) (c := True) (r := .inl (some (.int 2))) (M := wC ov1 un1 nx1 (nI L.1) fa1 cu st fi se th db (nI k) (wN mp mq mop moq mtr mdp mwi mfa mob mst mof (wO o))) (u := 4) rfl trivial (by decide) (hQ _ _ _ _ (2, 0) ea hc)

set_option maxRecDepth 100000 in
theorem gl_part1 {d : Nat} {ov un : Nat → Int32} {nx fa : Int32} {cu : mm_cu} {st fi se th db : Nat → Int32} {mp mq mop moq : Nat → Int64} {mtr mdp mwi mfa mob : Int32} {mst mof : Nat → Int32} {o : Nat → Int64} {S : Nat → stp} {k : Nat} {v : Nat → o3} {L : lvR} {x1 x2 x3 x4 : Int32} {Q : mm_R → mm_M → Prop} (hy : ¬ x2 = 0) (hI : cI S k ov un (nI L.1) st fi se th db (nI k)) (hdr : dr S k = some (v, L)) (hl : L.1 ≤ 2) (R : rdA ov un 308 0 L) (hH : ∀ i, i < k → hold (us (S i).1) ov un i (v i)) (hQ : ∀ (ov1 un1 : Nat → Int32) (nx1 fa1 : Int32) (r : oc), qPart S k x1 x2 x3 x4 = r → cI S k ov1 un1 (nI L.1) st fi se th db (nI k) → Q (.inl (some (.int (nI r.1)))) (wC ov1 un1 nx1 (nI L.1) fa1 cu st fi se th db (nI k) (wN mp mq mop moq mtr mdp mwi mfa mob mst mof (wO (oW r o))))) : mm_call mm_Tb (d + 20) 163 [.ref 0, .int x1, .int x2, .int x3, .int x4, .ref 17] (wC ov un nx (nI L.1) fa cu st fi se th db (nI k) (wN mp mq mop moq mtr mdp mwi mfa mob mst mof (wO o))) Q := by
  refine mm_in mt_163 (Nat.le_of_ble_eq_true rfl) ?_
  show mm_W _ _ _ _ _ _ _ (0, [(0, .ref 0), (1, .int x1), (2, .int x2), (3, .int x3), (4, .int x4), (5, .ref 17)], [], wC ov un nx (nI L.1) fa cu st fi se th db (nI k) (wN mp mq mop moq mtr mdp mwi mfa mob mst mof (wO o)), 0)
  refine mm_skip (mm_call_mono _ _) 7 (st' := (9, [(0, .ref 0), (1, .int x1), (2, .int x2), (3, .int x3), (4, .int x4), (5, .ref 17)], [.int x4, .int x3, .int x2, .int x1, .ref 0, .int 0, .ref 17], wC ov un nx (nI L.1) fa cu st fi se th db (nI k) (wN mp mq mop moq mtr mdp mwi mfa mob mst mof (wO o)), 0)) rfl ?_
  refine mm_inv (mm_call_mono _ _) (j := 13) (a := [.ref 0, .int x1, .int x2, .int x3, .int x4]) (M := wC ov un nx (nI L.1) fa cu st fi se th db (nI k) (wN mp mq mop moq mtr mdp mwi mfa mob mst mof (wO o))) (u := 4) rfl (by decide) (gq_part1 hy hI hdr hl R hH (fun ov1 un1 nx1 fa1 r ea hc => ?_))
  obtain ⟨c0, v0⟩ := r
  rcases oc_part ea with rfl | ⟨rfl, rfl⟩
  · show mm_W _ _ _ _ _ _ _ (12, [(0, .ref 0), (1, .int x1), (2, .int x2), (3, .int x3), (4, .int x4), (5, .ref 17)], [.int v0, .int 0, .ref 17], wC ov1 un1 nx1 (nI L.1) fa1 cu st fi se th db (nI k) (wN mp mq mop moq mtr mdp mwi mfa mob mst mof (wO o)), 4)
    refine mm_skip (mm_call_mono _ _) 1 (st' := (13, [(0, .ref 0), (1, .int x1), (2, .int x2), (3, .int x3), (4, .int x4), (5, .ref 17)], [.long (Int32.toInt64 v0), .int 0, .ref 17], wC ov1 un1 nx1 (nI L.1) fa1 cu st fi se th db (nI k) (wN mp mq mop moq mtr mdp mwi mfa mob mst mof (wO o)), 4)) rfl ?_
    refine mm_need (mm_call_mono _ _) (c := vp_in 0 1) (s' := (14, [(0, .ref 0), (1, .int x1), (2, .int x2), (3, .int x3), (4, .int x4), (5, .ref 17)], [], wC ov1 un1 nx1 (nI L.1) fa1 cu st fi se th db (nI k) (wN mp mq mop moq mtr mdp mwi mfa mob mst mof (wO (vp_updL o 0 (Int32.toInt64 v0)))), 4)) rfl (by unfold vp_in; decide) ?_
    refine mm_skip (mm_call_mono _ _) 2 (st' := (22, [(0, .ref 0), (1, .int x1), (2, .int x2), (3, .int x3), (4, .int x4), (5, .ref 17)], [.int 0], wC ov1 un1 nx1 (nI L.1) fa1 cu st fi se th db (nI k) (wN mp mq mop moq mtr mdp mwi mfa mob mst mof (wO (vp_updL o 0 (Int32.toInt64 v0)))), 4)) rfl ?_
    exact mm_ret (mm_call_mono _ _) (c := True) (r := .inl (some (.int 0))) (M := wC ov1 un1 nx1 (nI L.1) fa1 cu st fi se th db (nI k) (wN mp mq mop moq mtr mdp mwi mfa mob mst mof (wO (vp_updL o 0 (Int32.toInt64 v0))))) (u := 4) rfl trivial (by decide) (hQ _ _ _ _ (0, v0) ea hc)

  · show mm_W _ _ _ _ _ _ _ (19, [(0, .ref 0), (1, .int x1), (2, .int x2), (3, .int x3), (4, .int x4), (5, .ref 17)], [], wC ov1 un1 nx1 (nI L.1) fa1 cu st fi se th db (nI k) (wN mp mq mop moq mtr mdp mwi mfa mob mst mof (wO o)), 4)
    refine mm_skip (mm_call_mono _ _) 1 (st' := (20, [(0, .ref 0), (1, .int x1), (2, .int x2), (3, .int x3), (4, .int x4), (5, .ref 17)], [.int 1], wC ov1 un1 nx1 (nI L.1) fa1 cu st fi se th db (nI k) (wN mp mq mop moq mtr mdp mwi mfa mob mst mof (wO o)), 4)) rfl ?_
    exact mm_ret (mm_call_mono _ _) (c := True) (r := .inl (some (.int 1))) (M := wC ov1 un1 nx1 (nI L.1) fa1 cu st fi se th db (nI k) (wN mp mq mop moq mtr mdp mwi mfa mob mst mof (wO o))) (u := 4) rfl trivial (by decide) (hQ _ _ _ _ (1, 0) ea hc)

theorem oc_any (r : oc) : ∃ c v, r = (c, v) := ⟨r.1, r.2, rfl⟩
