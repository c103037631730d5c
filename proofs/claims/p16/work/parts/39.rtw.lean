theorem nI_p16 (a : Nat) : nI a + 16 = nI (a + 16) := nI_add a 16
theorem nI_p32 (a : Nat) : nI a + 32 = nI (a + 32) := nI_add a 32
theorem nI_p64 (a : Nat) : nI a + 64 = nI (a + 64) := nI_add a 64
theorem nI_p128 (a : Nat) : nI a + 128 = nI (a + 128) := nI_add a 128
theorem nI_p256 (a : Nat) : nI a + 256 = nI (a + 256) := nI_add a 256
theorem nI_p512 (a : Nat) : nI a + 512 = nI (a + 512) := nI_add a 512
theorem nI_p1024 (a : Nat) : nI a + 1024 = nI (a + 1024) := nI_add a 1024
theorem nI_p2048 (a : Nat) : nI a + 2048 = nI (a + 2048) := nI_add a 2048
theorem nI_p4096 (a : Nat) : nI a + 4096 = nI (a + 4096) := nI_add a 4096
theorem nI_p8192 (a : Nat) : nI a + 8192 = nI (a + 8192) := nI_add a 8192
theorem nI_p16384 (a : Nat) : nI a + 16384 = nI (a + 16384) := nI_add a 16384
theorem nI_p32768 (a : Nat) : nI a + 32768 = nI (a + 32768) := nI_add a 32768
/-- the root of a square -/
noncomputable def rtw (s : Int) : Option Int := @dite _ (∃ t : Int, 0 ≤ t ∧ t * t = s) (Classical.propDecidable _) (fun h => some (Classical.choose h)) (fun _ => none)
theorem sq_lt {a b : Int} (h : a < b) (ha : 0 ≤ a) : a * a < b * b := by
  have h1 := Int.mul_le_mul_of_nonneg_left (Int.le_of_lt h) ha
  have h2 := Int.mul_lt_mul_of_pos_right h (show 0 < b by omega)
  omega
theorem sq_inj {a b : Int} (ha : 0 ≤ a) (hb : 0 ≤ b) (h : a * a = b * b) : a = b := by
  rcases Int.lt_trichotomy a b with h1 | h1 | h1
  · have := sq_lt h1 ha
    omega
  · exact h1
  · have := sq_lt h1 hb
    omega
theorem rtw_some {s t : Int} (ht : 0 ≤ t) (h : t * t = s) : rtw s = some t := by
  unfold rtw
  have hex : ∃ t : Int, 0 ≤ t ∧ t * t = s := ⟨t, ht, h⟩
  rw [dif_pos hex]
  obtain ⟨h1, h2⟩ := Classical.choose_spec hex
  rw [sq_inj h1 ht (h2.trans h.symm)]
theorem rtw_none {s : Int} (h : ∀ t : Int, 0 ≤ t → ¬ t * t = s) : rtw s = none := by
  unfold rtw
  rw [dif_neg (fun q => h _ q.choose_spec.1 q.choose_spec.2)]
/-- what rootOfWhole answers -/
def rwR (s v : Int32) : Prop := (∃ t : Nat, v = nI t ∧ t ≤ 46340 ∧ rtw s.toInt = some (t : Int)) ∨ (v = -1 ∧ rtw s.toInt = none)
/-- between two bits: b is the lower bound of what is still open -/
def rwI (s : Int32) (r b : Nat) : Prop := (r = 0 ∨ (r : Int) * r ≤ s.toInt) ∧ s.toInt < ((r : Int) + b) * (r + b) ∧ r + b ≤ 65536
theorem rw_fin {s : Int32} {r : Nat} (h : rwI s r 1) : ((nI r) * (nI r) = s → rwR s (nI r)) ∧ (¬ (nI r) * (nI r) = s → rwR s (-1)) := by
  obtain ⟨h1, h2, h3⟩ := h
  have h2 : s.toInt < ((r : Int) + 1) * ((r : Int) + 1) := h2
  have hs := s.toInt_lt
  have hr : r ≤ 46340 := by
    rcases h1 with h1 | h1
    · omega
    · apply Nat.not_lt.mp
      intro q
      have q1 : (46341 : Int) ≤ (r : Int) := by omega
      have q2 := Int.mul_le_mul q1 q1 (by decide) (by omega)
      omega
  have e : ((nI r) * (nI r)).toInt = (r : Int) * r := by
    have q1 : (r : Int) ≤ 46340 := by omega
    have q2 := Int.mul_le_mul q1 q1 (by omega) (by decide)
    have q3 : 0 ≤ (r : Int) * r := Int.mul_nonneg (by omega) (by omega)
    rw [Int32.toInt_mul, nI_toInt (by omega)]
    exact Int.bmod_eq_of_le (by omega) (by omega)
  refine ⟨fun q => Or.inl ⟨r, rfl, hr, rtw_some (by omega) (by rw [← q]; exact e.symm)⟩, fun q => Or.inr ⟨rfl, rtw_none (fun t ht ht2 => ?_)⟩⟩
  have q1 : ¬ (r : Int) * r = s.toInt := fun z => q (Int32.toInt_inj.mp (e.trans z))
  have q2 : t < (r : Int) + 1 := by
    apply Int.not_le.mp
    intro z
    have := Int.mul_le_mul z z (by omega) ht
    omega
  rcases h1 with h1 | h1
  · have : t = 0 := by omega
    rw [this] at ht2
    rw [h1] at q1
    exact q1 ht2
  · have q3 : t < (r : Int) := by
      rcases Int.lt_or_eq_of_le (Int.le_of_lt_add_one q2) with z | z
      · exact z
      · rw [z] at ht2; exact absurd ht2 q1
    have := sq_lt q3 ht
    omega
theorem rw_up {s : Int32} {r b c : Nat} (h : rwI s r c) (hc : c = b + b) (hq : ¬ s.toInt < ((r : Int) + b) * (r + b)) : rwI s (r + b) b := by
  obtain ⟨h1, h2, h3⟩ := h
  refine ⟨Or.inr ?_, ?_, by omega⟩
  · have e : ((r + b : Nat) : Int) = (r : Int) + b := by omega
    rw [e]; omega
  · have e : ((r + b : Nat) : Int) + (b : Int) = (r : Int) + c := by omega
    rw [e]; exact h2
theorem rw_dn {s : Int32} {r b c : Nat} (h : rwI s r c) (hc : c = b + b) (hq : s.toInt < ((r : Int) + b) * (r + b)) : rwI s r b := ⟨h.1, hq, by have := h.2.2; omega⟩
theorem rw_cmp {s : Int32} {r b : Nat} (h : r + b ≤ 65536) : 0 < lg_cmp ((Int32.toInt64 (nI (r + b))) * (Int32.toInt64 (nI (r + b)))) (Int32.toInt64 s) ↔ s.toInt < ((r : Int) + b) * (r + b) := by
  have e : ((r + b : Nat) : Int) = (r : Int) + b := by omega
  rw [lg_cmp_gt, Int64.lt_iff_toInt_lt, Int32.toInt_toInt64, mul64, nI_toInt (by omega), e]
set_option maxRecDepth 100000 in
theorem rw_0 {d : Nat} {ov un : Nat → Int32} {nx dp fa : Int32} {cu : mm_cu} {st fi se th db : Nat → Int32} {cn : Int32} {F : mm_M} {s : Int32} {Q : mm_R → mm_M → Prop} {r : Nat} (hI : rwI s r 2) (hQ : ∀ v : Int32, rwR s v → Q (.inl (some (.int v))) (wC ov un nx dp fa cu st fi se th db cn F)) : mm_W (mm_call mm_Tb d) mp_N_rootOfWhole (mm_bt mm_Tb) 0 (some .int) 5 Q (14, [(3, .long (Int32.toInt64 (nI (r + 1)))), (2, .int 1), (1, .int (nI r)), (0, .int s)], [], wC ov un nx dp fa cu st fi se th db cn F, 0) := by
  have hb := hI.2.2
  refine mm_skip (mm_call_mono _ _) 6 (st' := (20, [(3, .long (Int32.toInt64 (nI (r + 1)))), (2, .int 1), (1, .int (nI r)), (0, .int s)], [.int (lg_cmp ((Int32.toInt64 (nI (r + 1))) * (Int32.toInt64 (nI (r + 1)))) (Int32.toInt64 s))], wC ov un nx dp fa cu st fi se th db cn F, 0)) rfl ?_
  refine mm_branch (mm_call_mono _ _) (c := 0 < (lg_cmp ((Int32.toInt64 (nI (r + 1))) * (Int32.toInt64 (nI (r + 1)))) (Int32.toInt64 s))) (s1 := (27, [(3, .long (Int32.toInt64 (nI (r + 1)))), (2, .int 1), (1, .int (nI r)), (0, .int s)], [], wC ov un nx dp fa cu st fi se th db cn F, 0)) (s2 := (23, [(3, .long (Int32.toInt64 (nI (r + 1)))), (2, .int 1), (1, .int (nI r)), (0, .int s)], [], wC ov un nx dp fa cu st fi se th db cn F, 0)) rfl (fun g => ?_) (fun g => ?_)
  · skip
    refine mm_skip (mm_call_mono _ _) 6 (st' := (6, [(2, .int 0), (3, .long (Int32.toInt64 (nI (r + 1)))), (1, .int (nI r)), (0, .int s)], [.int 0], wC ov un nx dp fa cu st fi se th db cn F, 0)) rfl ?_
    refine mm_branch (mm_call_mono _ _) (c := (0 : Int32) ≤ 0) (s1 := (34, [(2, .int 0), (3, .long (Int32.toInt64 (nI (r + 1)))), (1, .int (nI r)), (0, .int s)], [], wC ov un nx dp fa cu st fi se th db cn F, 0)) (s2 := (9, [(2, .int 0), (3, .long (Int32.toInt64 (nI (r + 1)))), (1, .int (nI r)), (0, .int s)], [], wC ov un nx dp fa cu st fi se th db cn F, 0)) rfl (fun _ => ?_) (fun h => absurd (by decide) h)
    refine mm_skip (mm_call_mono _ _) 4 (st' := (38, [(2, .int 0), (3, .long (Int32.toInt64 (nI (r + 1)))), (1, .int (nI r)), (0, .int s)], [.int s, .int ((nI r) * (nI r))], wC ov un nx dp fa cu st fi se th db cn F, 0)) rfl ?_
    refine mm_branch (mm_call_mono _ _) (c := ((nI r) * (nI r)) = s) (s1 := (41, [(2, .int 0), (3, .long (Int32.toInt64 (nI (r + 1)))), (1, .int (nI r)), (0, .int s)], [], wC ov un nx dp fa cu st fi se th db cn F, 0)) (s2 := (45, [(2, .int 0), (3, .long (Int32.toInt64 (nI (r + 1)))), (1, .int (nI r)), (0, .int s)], [], wC ov un nx dp fa cu st fi se th db cn F, 0)) rfl (fun e => ?_) (fun e => ?_)
    · skip
      refine mm_skip (mm_call_mono _ _) 2 (st' := (46, [(2, .int 0), (3, .long (Int32.toInt64 (nI (r + 1)))), (1, .int (nI r)), (0, .int s)], [.int (nI r)], wC ov un nx dp fa cu st fi se th db cn F, 0)) rfl ?_
      exact mm_ret (mm_call_mono _ _) (c := True) (r := .inl (some (.int (nI r)))) (M := wC ov un nx dp fa cu st fi se th db cn F) (u := 0) rfl trivial (by decide) (hQ _ ((rw_fin (rw_dn (b := 1) hI rfl ((rw_cmp (by omega)).mp g))).1 e))
    · skip
      refine mm_skip (mm_call_mono _ _) 1 (st' := (46, [(2, .int 0), (3, .long (Int32.toInt64 (nI (r + 1)))), (1, .int (nI r)), (0, .int s)], [.int (-1)], wC ov un nx dp fa cu st fi se th db cn F, 0)) rfl ?_
      exact mm_ret (mm_call_mono _ _) (c := True) (r := .inl (some (.int (-1)))) (M := wC ov un nx dp fa cu st fi se th db cn F) (u := 0) rfl trivial (by decide) (hQ _ ((rw_fin (rw_dn (b := 1) hI rfl ((rw_cmp (by omega)).mp g))).2 e))
  · skip
    refine mm_skip (mm_call_mono _ _) 10 (st' := (6, [(2, .int 0), (1, .int ((nI r) + 1)), (3, .long (Int32.toInt64 (nI (r + 1)))), (0, .int s)], [.int 0], wC ov un nx dp fa cu st fi se th db cn F, 0)) rfl ?_
    rw [nI_p1 (r)]
    show mm_W _ _ _ _ _ _ _ (6, [(2, .int 0), (1, .int (nI (r + 1))), (3, .long (Int32.toInt64 (nI (r + 1)))), (0, .int s)], [.int 0], wC ov un nx dp fa cu st fi se th db cn F, 0)
    refine mm_branch (mm_call_mono _ _) (c := (0 : Int32) ≤ 0) (s1 := (34, [(2, .int 0), (1, .int (nI (r + 1))), (3, .long (Int32.toInt64 (nI (r + 1)))), (0, .int s)], [], wC ov un nx dp fa cu st fi se th db cn F, 0)) (s2 := (9, [(2, .int 0), (1, .int (nI (r + 1))), (3, .long (Int32.toInt64 (nI (r + 1)))), (0, .int s)], [], wC ov un nx dp fa cu st fi se th db cn F, 0)) rfl (fun _ => ?_) (fun h => absurd (by decide) h)
    refine mm_skip (mm_call_mono _ _) 4 (st' := (38, [(2, .int 0), (1, .int (nI (r + 1))), (3, .long (Int32.toInt64 (nI (r + 1)))), (0, .int s)], [.int s, .int ((nI (r + 1)) * (nI (r + 1)))], wC ov un nx dp fa cu st fi se th db cn F, 0)) rfl ?_
    refine mm_branch (mm_call_mono _ _) (c := ((nI (r + 1)) * (nI (r + 1))) = s) (s1 := (41, [(2, .int 0), (1, .int (nI (r + 1))), (3, .long (Int32.toInt64 (nI (r + 1)))), (0, .int s)], [], wC ov un nx dp fa cu st fi se th db cn F, 0)) (s2 := (45, [(2, .int 0), (1, .int (nI (r + 1))), (3, .long (Int32.toInt64 (nI (r + 1)))), (0, .int s)], [], wC ov un nx dp fa cu st fi se th db cn F, 0)) rfl (fun e => ?_) (fun e => ?_)
    · skip
      refine mm_skip (mm_call_mono _ _) 2 (st' := (46, [(2, .int 0), (1, .int (nI (r + 1))), (3, .long (Int32.toInt64 (nI (r + 1)))), (0, .int s)], [.int (nI (r + 1))], wC ov un nx dp fa cu st fi se th db cn F, 0)) rfl ?_
      exact mm_ret (mm_call_mono _ _) (c := True) (r := .inl (some (.int (nI (r + 1))))) (M := wC ov un nx dp fa cu st fi se th db cn F) (u := 0) rfl trivial (by decide) (hQ _ ((rw_fin (rw_up (b := 1) hI rfl (fun q => g ((rw_cmp (by omega)).mpr q)))).1 e))
    · skip
      refine mm_skip (mm_call_mono _ _) 1 (st' := (46, [(2, .int 0), (1, .int (nI (r + 1))), (3, .long (Int32.toInt64 (nI (r + 1)))), (0, .int s)], [.int (-1)], wC ov un nx dp fa cu st fi se th db cn F, 0)) rfl ?_
      exact mm_ret (mm_call_mono _ _) (c := True) (r := .inl (some (.int (-1)))) (M := wC ov un nx dp fa cu st fi se th db cn F) (u := 0) rfl trivial (by decide) (hQ _ ((rw_fin (rw_up (b := 1) hI rfl (fun q => g ((rw_cmp (by omega)).mpr q)))).2 e))

set_option maxRecDepth 100000 in
theorem rw_1 {d : Nat} {ov un : Nat → Int32} {nx dp fa : Int32} {cu : mm_cu} {st fi se th db : Nat → Int32} {cn : Int32} {F : mm_M} {s : Int32} {Q : mm_R → mm_M → Prop} {r : Nat} (hI : rwI s r 4) (hQ : ∀ v : Int32, rwR s v → Q (.inl (some (.int v))) (wC ov un nx dp fa cu st fi se th db cn F)) : mm_W (mm_call mm_Tb d) mp_N_rootOfWhole (mm_bt mm_Tb) 0 (some .int) 5 Q (14, [(3, .long (Int32.toInt64 (nI (r + 2)))), (2, .int 2), (1, .int (nI r)), (0, .int s)], [], wC ov un nx dp fa cu st fi se th db cn F, 0) := by
  have hb := hI.2.2
  refine mm_skip (mm_call_mono _ _) 6 (st' := (20, [(3, .long (Int32.toInt64 (nI (r + 2)))), (2, .int 2), (1, .int (nI r)), (0, .int s)], [.int (lg_cmp ((Int32.toInt64 (nI (r + 2))) * (Int32.toInt64 (nI (r + 2)))) (Int32.toInt64 s))], wC ov un nx dp fa cu st fi se th db cn F, 0)) rfl ?_
  refine mm_branch (mm_call_mono _ _) (c := 0 < (lg_cmp ((Int32.toInt64 (nI (r + 2))) * (Int32.toInt64 (nI (r + 2)))) (Int32.toInt64 s))) (s1 := (27, [(3, .long (Int32.toInt64 (nI (r + 2)))), (2, .int 2), (1, .int (nI r)), (0, .int s)], [], wC ov un nx dp fa cu st fi se th db cn F, 0)) (s2 := (23, [(3, .long (Int32.toInt64 (nI (r + 2)))), (2, .int 2), (1, .int (nI r)), (0, .int s)], [], wC ov un nx dp fa cu st fi se th db cn F, 0)) rfl (fun g => ?_) (fun g => ?_)
  · skip
    refine mm_skip (mm_call_mono _ _) 6 (st' := (6, [(2, .int 1), (3, .long (Int32.toInt64 (nI (r + 2)))), (1, .int (nI r)), (0, .int s)], [.int 1], wC ov un nx dp fa cu st fi se th db cn F, 0)) rfl ?_
    refine mm_branch (mm_call_mono _ _) (c := (1 : Int32) ≤ 0) (s1 := (34, [(2, .int 1), (3, .long (Int32.toInt64 (nI (r + 2)))), (1, .int (nI r)), (0, .int s)], [], wC ov un nx dp fa cu st fi se th db cn F, 0)) (s2 := (9, [(2, .int 1), (3, .long (Int32.toInt64 (nI (r + 2)))), (1, .int (nI r)), (0, .int s)], [], wC ov un nx dp fa cu st fi se th db cn F, 0)) rfl (fun h => absurd h (by decide)) (fun _ => ?_)
    refine mm_skip (mm_call_mono _ _) 5 (st' := (14, [(3, .long (Int32.toInt64 ((nI r) + 1))), (2, .int 1), (1, .int (nI r)), (0, .int s)], [], wC ov un nx dp fa cu st fi se th db cn F, 0)) rfl ?_
    rw [nI_p1 (r)]
    show mm_W _ _ _ _ _ _ _ (14, [(3, .long (Int32.toInt64 (nI (r + 1)))), (2, .int 1), (1, .int (nI r)), (0, .int s)], [], wC ov un nx dp fa cu st fi se th db cn F, 0)
    first | exact rw_0 (rw_dn (b := 2) hI rfl ((rw_cmp (by omega)).mp g)) hQ | exact rw_0 (r := r + 2) (rw_up (b := 2) hI rfl (fun q => g ((rw_cmp (by omega)).mpr q))) hQ
  · skip
    refine mm_skip (mm_call_mono _ _) 10 (st' := (6, [(2, .int 1), (1, .int ((nI r) + 2)), (3, .long (Int32.toInt64 (nI (r + 2)))), (0, .int s)], [.int 1], wC ov un nx dp fa cu st fi se th db cn F, 0)) rfl ?_
    rw [nI_p2 (r)]
    show mm_W _ _ _ _ _ _ _ (6, [(2, .int 1), (1, .int (nI (r + 2))), (3, .long (Int32.toInt64 (nI (r + 2)))), (0, .int s)], [.int 1], wC ov un nx dp fa cu st fi se th db cn F, 0)
    refine mm_branch (mm_call_mono _ _) (c := (1 : Int32) ≤ 0) (s1 := (34, [(2, .int 1), (1, .int (nI (r + 2))), (3, .long (Int32.toInt64 (nI (r + 2)))), (0, .int s)], [], wC ov un nx dp fa cu st fi se th db cn F, 0)) (s2 := (9, [(2, .int 1), (1, .int (nI (r + 2))), (3, .long (Int32.toInt64 (nI (r + 2)))), (0, .int s)], [], wC ov un nx dp fa cu st fi se th db cn F, 0)) rfl (fun h => absurd h (by decide)) (fun _ => ?_)
    refine mm_skip (mm_call_mono _ _) 5 (st' := (14, [(3, .long (Int32.toInt64 ((nI (r + 2)) + 1))), (2, .int 1), (1, .int (nI (r + 2))), (0, .int s)], [], wC ov un nx dp fa cu st fi se th db cn F, 0)) rfl ?_
    rw [nI_p1 ((r + 2))]
    show mm_W _ _ _ _ _ _ _ (14, [(3, .long (Int32.toInt64 (nI (r + 3)))), (2, .int 1), (1, .int (nI (r + 2))), (0, .int s)], [], wC ov un nx dp fa cu st fi se th db cn F, 0)
    first | exact rw_0 (rw_dn (b := 2) hI rfl ((rw_cmp (by omega)).mp g)) hQ | exact rw_0 (r := r + 2) (rw_up (b := 2) hI rfl (fun q => g ((rw_cmp (by omega)).mpr q))) hQ

set_option maxRecDepth 100000 in
theorem rw_2 {d : Nat} {ov un : Nat → Int32} {nx dp fa : Int32} {cu : mm_cu} {st fi se th db : Nat → Int32} {cn : Int32} {F : mm_M} {s : Int32} {Q : mm_R → mm_M → Prop} {r : Nat} (hI : rwI s r 8) (hQ : ∀ v : Int32, rwR s v → Q (.inl (some (.int v))) (wC ov un nx dp fa cu st fi se th db cn F)) : mm_W (mm_call mm_Tb d) mp_N_rootOfWhole (mm_bt mm_Tb) 0 (some .int) 5 Q (14, [(3, .long (Int32.toInt64 (nI (r + 4)))), (2, .int 4), (1, .int (nI r)), (0, .int s)], [], wC ov un nx dp fa cu st fi se th db cn F, 0) := by
  have hb := hI.2.2
  refine mm_skip (mm_call_mono _ _) 6 (st' := (20, [(3, .long (Int32.toInt64 (nI (r + 4)))), (2, .int 4), (1, .int (nI r)), (0, .int s)], [.int (lg_cmp ((Int32.toInt64 (nI (r + 4))) * (Int32.toInt64 (nI (r + 4)))) (Int32.toInt64 s))], wC ov un nx dp fa cu st fi se th db cn F, 0)) rfl ?_
  refine mm_branch (mm_call_mono _ _) (c := 0 < (lg_cmp ((Int32.toInt64 (nI (r + 4))) * (Int32.toInt64 (nI (r + 4)))) (Int32.toInt64 s))) (s1 := (27, [(3, .long (Int32.toInt64 (nI (r + 4)))), (2, .int 4), (1, .int (nI r)), (0, .int s)], [], wC ov un nx dp fa cu st fi se th db cn F, 0)) (s2 := (23, [(3, .long (Int32.toInt64 (nI (r + 4)))), (2, .int 4), (1, .int (nI r)), (0, .int s)], [], wC ov un nx dp fa cu st fi se th db cn F, 0)) rfl (fun g => ?_) (fun g => ?_)
  · skip
    refine mm_skip (mm_call_mono _ _) 6 (st' := (6, [(2, .int 2), (3, .long (Int32.toInt64 (nI (r + 4)))), (1, .int (nI r)), (0, .int s)], [.int 2], wC ov un nx dp fa cu st fi se th db cn F, 0)) rfl ?_
    refine mm_branch (mm_call_mono _ _) (c := (2 : Int32) ≤ 0) (s1 := (34, [(2, .int 2), (3, .long (Int32.toInt64 (nI (r + 4)))), (1, .int (nI r)), (0, .int s)], [], wC ov un nx dp fa cu st fi se th db cn F, 0)) (s2 := (9, [(2, .int 2), (3, .long (Int32.toInt64 (nI (r + 4)))), (1, .int (nI r)), (0, .int s)], [], wC ov un nx dp fa cu st fi se th db cn F, 0)) rfl (fun h => absurd h (by decide)) (fun _ => ?_)
    refine mm_skip (mm_call_mono _ _) 5 (st' := (14, [(3, .long (Int32.toInt64 ((nI r) + 2))), (2, .int 2), (1, .int (nI r)), (0, .int s)], [], wC ov un nx dp fa cu st fi se th db cn F, 0)) rfl ?_
    rw [nI_p2 (r)]
    show mm_W _ _ _ _ _ _ _ (14, [(3, .long (Int32.toInt64 (nI (r + 2)))), (2, .int 2), (1, .int (nI r)), (0, .int s)], [], wC ov un nx dp fa cu st fi se th db cn F, 0)
    first | exact rw_1 (rw_dn (b := 4) hI rfl ((rw_cmp (by omega)).mp g)) hQ | exact rw_1 (r := r + 4) (rw_up (b := 4) hI rfl (fun q => g ((rw_cmp (by omega)).mpr q))) hQ
  · skip
    refine mm_skip (mm_call_mono _ _) 10 (st' := (6, [(2, .int 2), (1, .int ((nI r) + 4)), (3, .long (Int32.toInt64 (nI (r + 4)))), (0, .int s)], [.int 2], wC ov un nx dp fa cu st fi se th db cn F, 0)) rfl ?_
    rw [nI_p4 (r)]
    show mm_W _ _ _ _ _ _ _ (6, [(2, .int 2), (1, .int (nI (r + 4))), (3, .long (Int32.toInt64 (nI (r + 4)))), (0, .int s)], [.int 2], wC ov un nx dp fa cu st fi se th db cn F, 0)
    refine mm_branch (mm_call_mono _ _) (c := (2 : Int32) ≤ 0) (s1 := (34, [(2, .int 2), (1, .int (nI (r + 4))), (3, .long (Int32.toInt64 (nI (r + 4)))), (0, .int s)], [], wC ov un nx dp fa cu st fi se th db cn F, 0)) (s2 := (9, [(2, .int 2), (1, .int (nI (r + 4))), (3, .long (Int32.toInt64 (nI (r + 4)))), (0, .int s)], [], wC ov un nx dp fa cu st fi se th db cn F, 0)) rfl (fun h => absurd h (by decide)) (fun _ => ?_)
    refine mm_skip (mm_call_mono _ _) 5 (st' := (14, [(3, .long (Int32.toInt64 ((nI (r + 4)) + 2))), (2, .int 2), (1, .int (nI (r + 4))), (0, .int s)], [], wC ov un nx dp fa cu st fi se th db cn F, 0)) rfl ?_
    rw [nI_p2 ((r + 4))]
    show mm_W _ _ _ _ _ _ _ (14, [(3, .long (Int32.toInt64 (nI (r + 6)))), (2, .int 2), (1, .int (nI (r + 4))), (0, .int s)], [], wC ov un nx dp fa cu st fi se th db cn F, 0)
    first | exact rw_1 (rw_dn (b := 4) hI rfl ((rw_cmp (by omega)).mp g)) hQ | exact rw_1 (r := r + 4) (rw_up (b := 4) hI rfl (fun q => g ((rw_cmp (by omega)).mpr q))) hQ

set_option maxRecDepth 100000 in
theorem rw_3 {d : Nat} {ov un : Nat → Int32} {nx dp fa : Int32} {cu : mm_cu} {st fi se th db : Nat → Int32} {cn : Int32} {F : mm_M} {s : Int32} {Q : mm_R → mm_M → Prop} {r : Nat} (hI : rwI s r 16) (hQ : ∀ v : Int32, rwR s v → Q (.inl (some (.int v))) (wC ov un nx dp fa cu st fi se th db cn F)) : mm_W (mm_call mm_Tb d) mp_N_rootOfWhole (mm_bt mm_Tb) 0 (some .int) 5 Q (14, [(3, .long (Int32.toInt64 (nI (r + 8)))), (2, .int 8), (1, .int (nI r)), (0, .int s)], [], wC ov un nx dp fa cu st fi se th db cn F, 0) := by
  have hb := hI.2.2
  refine mm_skip (mm_call_mono _ _) 6 (st' := (20, [(3, .long (Int32.toInt64 (nI (r + 8)))), (2, .int 8), (1, .int (nI r)), (0, .int s)], [.int (lg_cmp ((Int32.toInt64 (nI (r + 8))) * (Int32.toInt64 (nI (r + 8)))) (Int32.toInt64 s))], wC ov un nx dp fa cu st fi se th db cn F, 0)) rfl ?_
  refine mm_branch (mm_call_mono _ _) (c := 0 < (lg_cmp ((Int32.toInt64 (nI (r + 8))) * (Int32.toInt64 (nI (r + 8)))) (Int32.toInt64 s))) (s1 := (27, [(3, .long (Int32.toInt64 (nI (r + 8)))), (2, .int 8), (1, .int (nI r)), (0, .int s)], [], wC ov un nx dp fa cu st fi se th db cn F, 0)) (s2 := (23, [(3, .long (Int32.toInt64 (nI (r + 8)))), (2, .int 8), (1, .int (nI r)), (0, .int s)], [], wC ov un nx dp fa cu st fi se th db cn F, 0)) rfl (fun g => ?_) (fun g => ?_)
  · skip
    refine mm_skip (mm_call_mono _ _) 6 (st' := (6, [(2, .int 4), (3, .long (Int32.toInt64 (nI (r + 8)))), (1, .int (nI r)), (0, .int s)], [.int 4], wC ov un nx dp fa cu st fi se th db cn F, 0)) rfl ?_
    refine mm_branch (mm_call_mono _ _) (c := (4 : Int32) ≤ 0) (s1 := (34, [(2, .int 4), (3, .long (Int32.toInt64 (nI (r + 8)))), (1, .int (nI r)), (0, .int s)], [], wC ov un nx dp fa cu st fi se th db cn F, 0)) (s2 := (9, [(2, .int 4), (3, .long (Int32.toInt64 (nI (r + 8)))), (1, .int (nI r)), (0, .int s)], [], wC ov un nx dp fa cu st fi se th db cn F, 0)) rfl (fun h => absurd h (by decide)) (fun _ => ?_)
    refine mm_skip (mm_call_mono _ _) 5 (st' := (14, [(3, .long (Int32.toInt64 ((nI r) + 4))), (2, .int 4), (1, .int (nI r)), (0, .int s)], [], wC ov un nx dp fa cu st fi se th db cn F, 0)) rfl ?_
    rw [nI_p4 (r)]
    show mm_W _ _ _ _ _ _ _ (14, [(3, .long (Int32.toInt64 (nI (r + 4)))), (2, .int 4), (1, .int (nI r)), (0, .int s)], [], wC ov un nx dp fa cu st fi se th db cn F, 0)
    first | exact rw_2 (rw_dn (b := 8) hI rfl ((rw_cmp (by omega)).mp g)) hQ | exact rw_2 (r := r + 8) (rw_up (b := 8) hI rfl (fun q => g ((rw_cmp (by omega)).mpr q))) hQ
  · skip
    refine mm_skip (mm_call_mono _ _) 10 (st' := (6, [(2, .int 4), (1, .int ((nI r) + 8)), (3, .long (Int32.toInt64 (nI (r + 8)))), (0, .int s)], [.int 4], wC ov un nx dp fa cu st fi se th db cn F, 0)) rfl ?_
    rw [nI_p8 (r)]
    show mm_W _ _ _ _ _ _ _ (6, [(2, .int 4), (1, .int (nI (r + 8))), (3, .long (Int32.toInt64 (nI (r + 8)))), (0, .int s)], [.int 4], wC ov un nx dp fa cu st fi se th db cn F, 0)
    refine mm_branch (mm_call_mono _ _) (c := (4 : Int32) ≤ 0) (s1 := (34, [(2, .int 4), (1, .int (nI (r + 8))), (3, .long (Int32.toInt64 (nI (r + 8)))), (0, .int s)], [], wC ov un nx dp fa cu st fi se th db cn F, 0)) (s2 := (9, [(2, .int 4), (1, .int (nI (r + 8))), (3, .long (Int32.toInt64 (nI (r + 8)))), (0, .int s)], [], wC ov un nx dp fa cu st fi se th db cn F, 0)) rfl (fun h => absurd h (by decide)) (fun _ => ?_)
    refine mm_skip (mm_call_mono _ _) 5 (st' := (14, [(3, .long (Int32.toInt64 ((nI (r + 8)) + 4))), (2, .int 4), (1, .int (nI (r + 8))), (0, .int s)], [], wC ov un nx dp fa cu st fi se th db cn F, 0)) rfl ?_
    rw [nI_p4 ((r + 8))]
    show mm_W _ _ _ _ _ _ _ (14, [(3, .long (Int32.toInt64 (nI (r + 12)))), (2, .int 4), (1, .int (nI (r + 8))), (0, .int s)], [], wC ov un nx dp fa cu st fi se th db cn F, 0)
    first | exact rw_2 (rw_dn (b := 8) hI rfl ((rw_cmp (by omega)).mp g)) hQ | exact rw_2 (r := r + 8) (rw_up (b := 8) hI rfl (fun q => g ((rw_cmp (by omega)).mpr q))) hQ

set_option maxRecDepth 100000 in
theorem rw_4 {d : Nat} {ov un : Nat → Int32} {nx dp fa : Int32} {cu : mm_cu} {st fi se th db : Nat → Int32} {cn : Int32} {F : mm_M} {s : Int32} {Q : mm_R → mm_M → Prop} {r : Nat} (hI : rwI s r 32) (hQ : ∀ v : Int32, rwR s v → Q (.inl (some (.int v))) (wC ov un nx dp fa cu st fi se th db cn F)) : mm_W (mm_call mm_Tb d) mp_N_rootOfWhole (mm_bt mm_Tb) 0 (some .int) 5 Q (14, [(3, .long (Int32.toInt64 (nI (r + 16)))), (2, .int 16), (1, .int (nI r)), (0, .int s)], [], wC ov un nx dp fa cu st fi se th db cn F, 0) := by
  have hb := hI.2.2
  refine mm_skip (mm_call_mono _ _) 6 (st' := (20, [(3, .long (Int32.toInt64 (nI (r + 16)))), (2, .int 16), (1, .int (nI r)), (0, .int s)], [.int (lg_cmp ((Int32.toInt64 (nI (r + 16))) * (Int32.toInt64 (nI (r + 16)))) (Int32.toInt64 s))], wC ov un nx dp fa cu st fi se th db cn F, 0)) rfl ?_
  refine mm_branch (mm_call_mono _ _) (c := 0 < (lg_cmp ((Int32.toInt64 (nI (r + 16))) * (Int32.toInt64 (nI (r + 16)))) (Int32.toInt64 s))) (s1 := (27, [(3, .long (Int32.toInt64 (nI (r + 16)))), (2, .int 16), (1, .int (nI r)), (0, .int s)], [], wC ov un nx dp fa cu st fi se th db cn F, 0)) (s2 := (23, [(3, .long (Int32.toInt64 (nI (r + 16)))), (2, .int 16), (1, .int (nI r)), (0, .int s)], [], wC ov un nx dp fa cu st fi se th db cn F, 0)) rfl (fun g => ?_) (fun g => ?_)
  · skip
    refine mm_skip (mm_call_mono _ _) 6 (st' := (6, [(2, .int 8), (3, .long (Int32.toInt64 (nI (r + 16)))), (1, .int (nI r)), (0, .int s)], [.int 8], wC ov un nx dp fa cu st fi se th db cn F, 0)) rfl ?_
    refine mm_branch (mm_call_mono _ _) (c := (8 : Int32) ≤ 0) (s1 := (34, [(2, .int 8), (3, .long (Int32.toInt64 (nI (r + 16)))), (1, .int (nI r)), (0, .int s)], [], wC ov un nx dp fa cu st fi se th db cn F, 0)) (s2 := (9, [(2, .int 8), (3, .long (Int32.toInt64 (nI (r + 16)))), (1, .int (nI r)), (0, .int s)], [], wC ov un nx dp fa cu st fi se th db cn F, 0)) rfl (fun h => absurd h (by decide)) (fun _ => ?_)
    refine mm_skip (mm_call_mono _ _) 5 (st' := (14, [(3, .long (Int32.toInt64 ((nI r) + 8))), (2, .int 8), (1, .int (nI r)), (0, .int s)], [], wC ov un nx dp fa cu st fi se th db cn F, 0)) rfl ?_
    rw [nI_p8 (r)]
    show mm_W _ _ _ _ _ _ _ (14, [(3, .long (Int32.toInt64 (nI (r + 8)))), (2, .int 8), (1, .int (nI r)), (0, .int s)], [], wC ov un nx dp fa cu st fi se th db cn F, 0)
    first | exact rw_3 (rw_dn (b := 16) hI rfl ((rw_cmp (by omega)).mp g)) hQ | exact rw_3 (r := r + 16) (rw_up (b := 16) hI rfl (fun q => g ((rw_cmp (by omega)).mpr q))) hQ
  · skip
    refine mm_skip (mm_call_mono _ _) 10 (st' := (6, [(2, .int 8), (1, .int ((nI r) + 16)), (3, .long (Int32.toInt64 (nI (r + 16)))), (0, .int s)], [.int 8], wC ov un nx dp fa cu st fi se th db cn F, 0)) rfl ?_
    rw [nI_p16 (r)]
    show mm_W _ _ _ _ _ _ _ (6, [(2, .int 8), (1, .int (nI (r + 16))), (3, .long (Int32.toInt64 (nI (r + 16)))), (0, .int s)], [.int 8], wC ov un nx dp fa cu st fi se th db cn F, 0)
    refine mm_branch (mm_call_mono _ _) (c := (8 : Int32) ≤ 0) (s1 := (34, [(2, .int 8), (1, .int (nI (r + 16))), (3, .long (Int32.toInt64 (nI (r + 16)))), (0, .int s)], [], wC ov un nx dp fa cu st fi se th db cn F, 0)) (s2 := (9, [(2, .int 8), (1, .int (nI (r + 16))), (3, .long (Int32.toInt64 (nI (r + 16)))), (0, .int s)], [], wC ov un nx dp fa cu st fi se th db cn F, 0)) rfl (fun h => absurd h (by decide)) (fun _ => ?_)
    refine mm_skip (mm_call_mono _ _) 5 (st' := (14, [(3, .long (Int32.toInt64 ((nI (r + 16)) + 8))), (2, .int 8), (1, .int (nI (r + 16))), (0, .int s)], [], wC ov un nx dp fa cu st fi se th db cn F, 0)) rfl ?_
    rw [nI_p8 ((r + 16))]
    show mm_W _ _ _ _ _ _ _ (14, [(3, .long (Int32.toInt64 (nI (r + 24)))), (2, .int 8), (1, .int (nI (r + 16))), (0, .int s)], [], wC ov un nx dp fa cu st fi se th db cn F, 0)
    first | exact rw_3 (rw_dn (b := 16) hI rfl ((rw_cmp (by omega)).mp g)) hQ | exact rw_3 (r := r + 16) (rw_up (b := 16) hI rfl (fun q => g ((rw_cmp (by omega)).mpr q))) hQ

set_option maxRecDepth 100000 in
theorem rw_5 {d : Nat} {ov un : Nat → Int32} {nx dp fa : Int32} {cu : mm_cu} {st fi se th db : Nat → Int32} {cn : Int32} {F : mm_M} {s : Int32} {Q : mm_R → mm_M → Prop} {r : Nat} (hI : rwI s r 64) (hQ : ∀ v : Int32, rwR s v → Q (.inl (some (.int v))) (wC ov un nx dp fa cu st fi se th db cn F)) : mm_W (mm_call mm_Tb d) mp_N_rootOfWhole (mm_bt mm_Tb) 0 (some .int) 5 Q (14, [(3, .long (Int32.toInt64 (nI (r + 32)))), (2, .int 32), (1, .int (nI r)), (0, .int s)], [], wC ov un nx dp fa cu st fi se th db cn F, 0) := by
  have hb := hI.2.2
  refine mm_skip (mm_call_mono _ _) 6 (st' := (20, [(3, .long (Int32.toInt64 (nI (r + 32)))), (2, .int 32), (1, .int (nI r)), (0, .int s)], [.int (lg_cmp ((Int32.toInt64 (nI (r + 32))) * (Int32.toInt64 (nI (r + 32)))) (Int32.toInt64 s))], wC ov un nx dp fa cu st fi se th db cn F, 0)) rfl ?_
  refine mm_branch (mm_call_mono _ _) (c := 0 < (lg_cmp ((Int32.toInt64 (nI (r + 32))) * (Int32.toInt64 (nI (r + 32)))) (Int32.toInt64 s))) (s1 := (27, [(3, .long (Int32.toInt64 (nI (r + 32)))), (2, .int 32), (1, .int (nI r)), (0, .int s)], [], wC ov un nx dp fa cu st fi se th db cn F, 0)) (s2 := (23, [(3, .long (Int32.toInt64 (nI (r + 32)))), (2, .int 32), (1, .int (nI r)), (0, .int s)], [], wC ov un nx dp fa cu st fi se th db cn F, 0)) rfl (fun g => ?_) (fun g => ?_)
  · skip
    refine mm_skip (mm_call_mono _ _) 6 (st' := (6, [(2, .int 16), (3, .long (Int32.toInt64 (nI (r + 32)))), (1, .int (nI r)), (0, .int s)], [.int 16], wC ov un nx dp fa cu st fi se th db cn F, 0)) rfl ?_
    refine mm_branch (mm_call_mono _ _) (c := (16 : Int32) ≤ 0) (s1 := (34, [(2, .int 16), (3, .long (Int32.toInt64 (nI (r + 32)))), (1, .int (nI r)), (0, .int s)], [], wC ov un nx dp fa cu st fi se th db cn F, 0)) (s2 := (9, [(2, .int 16), (3, .long (Int32.toInt64 (nI (r + 32)))), (1, .int (nI r)), (0, .int s)], [], wC ov un nx dp fa cu st fi se th db cn F, 0)) rfl (fun h => absurd h (by decide)) (fun _ => ?_)
    refine mm_skip (mm_call_mono _ _) 5 (st' := (14, [(3, .long (Int32.toInt64 ((nI r) + 16))), (2, .int 16), (1, .int (nI r)), (0, .int s)], [], wC ov un nx dp fa cu st fi se th db cn F, 0)) rfl ?_
    rw [nI_p16 (r)]
    show mm_W _ _ _ _ _ _ _ (14, [(3, .long (Int32.toInt64 (nI (r + 16)))), (2, .int 16), (1, .int (nI r)), (0, .int s)], [], wC ov un nx dp fa cu st fi se th db cn F, 0)
    first | exact rw_4 (rw_dn (b := 32) hI rfl ((rw_cmp (by omega)).mp g)) hQ | exact rw_4 (r := r + 32) (rw_up (b := 32) hI rfl (fun q => g ((rw_cmp (by omega)).mpr q))) hQ
  · skip
    refine mm_skip (mm_call_mono _ _) 10 (st' := (6, [(2, .int 16), (1, .int ((nI r) + 32)), (3, .long (Int32.toInt64 (nI (r + 32)))), (0, .int s)], [.int 16], wC ov un nx dp fa cu st fi se th db cn F, 0)) rfl ?_
    rw [nI_p32 (r)]
    show mm_W _ _ _ _ _ _ _ (6, [(2, .int 16), (1, .int (nI (r + 32))), (3, .long (Int32.toInt64 (nI (r + 32)))), (0, .int s)], [.int 16], wC ov un nx dp fa cu st fi se th db cn F, 0)
    refine mm_branch (mm_call_mono _ _) (c := (16 : Int32) ≤ 0) (s1 := (34, [(2, .int 16), (1, .int (nI (r + 32))), (3, .long (Int32.toInt64 (nI (r + 32)))), (0, .int s)], [], wC ov un nx dp fa cu st fi se th db cn F, 0)) (s2 := (9, [(2, .int 16), (1, .int (nI (r + 32))), (3, .long (Int32.toInt64 (nI (r + 32)))), (0, .int s)], [], wC ov un nx dp fa cu st fi se th db cn F, 0)) rfl (fun h => absurd h (by decide)) (fun _ => ?_)
    refine mm_skip (mm_call_mono _ _) 5 (st' := (14, [(3, .long (Int32.toInt64 ((nI (r + 32)) + 16))), (2, .int 16), (1, .int (nI (r + 32))), (0, .int s)], [], wC ov un nx dp fa cu st fi se th db cn F, 0)) rfl ?_
    rw [nI_p16 ((r + 32))]
    show mm_W _ _ _ _ _ _ _ (14, [(3, .long (Int32.toInt64 (nI (r + 48)))), (2, .int 16), (1, .int (nI (r + 32))), (0, .int s)], [], wC ov un nx dp fa cu st fi se th db cn F, 0)
    first | exact rw_4 (rw_dn (b := 32) hI rfl ((rw_cmp (by omega)).mp g)) hQ | exact rw_4 (r := r + 32) (rw_up (b := 32) hI rfl (fun q => g ((rw_cmp (by omega)).mpr q))) hQ

set_option maxRecDepth 100000 in
theorem rw_6 {d : Nat} {ov un : Nat → Int32} {nx dp fa : Int32} {cu : mm_cu} {st fi se th db : Nat → Int32} {cn : Int32} {F : mm_M} {s : Int32} {Q : mm_R → mm_M → Prop} {r : Nat} (hI : rwI s r 128) (hQ : ∀ v : Int32, rwR s v → Q (.inl (some (.int v))) (wC ov un nx dp fa cu st fi se th db cn F)) : mm_W (mm_call mm_Tb d) mp_N_rootOfWhole (mm_bt mm_Tb) 0 (some .int) 5 Q (14, [(3, .long (Int32.toInt64 (nI (r + 64)))), (2, .int 64), (1, .int (nI r)), (0, .int s)], [], wC ov un nx dp fa cu st fi se th db cn F, 0) := by
  have hb := hI.2.2
  refine mm_skip (mm_call_mono _ _) 6 (st' := (20, [(3, .long (Int32.toInt64 (nI (r + 64)))), (2, .int 64), (1, .int (nI r)), (0, .int s)], [.int (lg_cmp ((Int32.toInt64 (nI (r + 64))) * (Int32.toInt64 (nI (r + 64)))) (Int32.toInt64 s))], wC ov un nx dp fa cu st fi se th db cn F, 0)) rfl ?_
  refine mm_branch (mm_call_mono _ _) (c := 0 < (lg_cmp ((Int32.toInt64 (nI (r + 64))) * (Int32.toInt64 (nI (r + 64)))) (Int32.toInt64 s))) (s1 := (27, [(3, .long (Int32.toInt64 (nI (r + 64)))), (2, .int 64), (1, .int (nI r)), (0, .int s)], [], wC ov un nx dp fa cu st fi se th db cn F, 0)) (s2 := (23, [(3, .long (Int32.toInt64 (nI (r + 64)))), (2, .int 64), (1, .int (nI r)), (0, .int s)], [], wC ov un nx dp fa cu st fi se th db cn F, 0)) rfl (fun g => ?_) (fun g => ?_)
  · skip
    refine mm_skip (mm_call_mono _ _) 6 (st' := (6, [(2, .int 32), (3, .long (Int32.toInt64 (nI (r + 64)))), (1, .int (nI r)), (0, .int s)], [.int 32], wC ov un nx dp fa cu st fi se th db cn F, 0)) rfl ?_
    refine mm_branch (mm_call_mono _ _) (c := (32 : Int32) ≤ 0) (s1 := (34, [(2, .int 32), (3, .long (Int32.toInt64 (nI (r + 64)))), (1, .int (nI r)), (0, .int s)], [], wC ov un nx dp fa cu st fi se th db cn F, 0)) (s2 := (9, [(2, .int 32), (3, .long (Int32.toInt64 (nI (r + 64)))), (1, .int (nI r)), (0, .int s)], [], wC ov un nx dp fa cu st fi se th db cn F, 0)) rfl (fun h => absurd h (by decide)) (fun _ => ?_)
    refine mm_skip (mm_call_mono _ _) 5 (st' := (14, [(3, .long (Int32.toInt64 ((nI r) + 32))), (2, .int 32), (1, .int (nI r)), (0, .int s)], [], wC ov un nx dp fa cu st fi se th db cn F, 0)) rfl ?_
    rw [nI_p32 (r)]
    show mm_W _ _ _ _ _ _ _ (14, [(3, .long (Int32.toInt64 (nI (r + 32)))), (2, .int 32), (1, .int (nI r)), (0, .int s)], [], wC ov un nx dp fa cu st fi se th db cn F, 0)
    first | exact rw_5 (rw_dn (b := 64) hI rfl ((rw_cmp (by omega)).mp g)) hQ | exact rw_5 (r := r + 64) (rw_up (b := 64) hI rfl (fun q => g ((rw_cmp (by omega)).mpr q))) hQ
  · skip
    refine mm_skip (mm_call_mono _ _) 10 (st' := (6, [(2, .int 32), (1, .int ((nI r) + 64)), (3, .long (Int32.toInt64 (nI (r + 64)))), (0, .int s)], [.int 32], wC ov un nx dp fa cu st fi se th db cn F, 0)) rfl ?_
    rw [nI_p64 (r)]
    show mm_W _ _ _ _ _ _ _ (6, [(2, .int 32), (1, .int (nI (r + 64))), (3, .long (Int32.toInt64 (nI (r + 64)))), (0, .int s)], [.int 32], wC ov un nx dp fa cu st fi se th db cn F, 0)
    refine mm_branch (mm_call_mono _ _) (c := (32 : Int32) ≤ 0) (s1 := (34, [(2, .int 32), (1, .int (nI (r + 64))), (3, .long (Int32.toInt64 (nI (r + 64)))), (0, .int s)], [], wC ov un nx dp fa cu st fi se th db cn F, 0)) (s2 := (9, [(2, .int 32), (1, .int (nI (r + 64))), (3, .long (Int32.toInt64 (nI (r + 64)))), (0, .int s)], [], wC ov un nx dp fa cu st fi se th db cn F, 0)) rfl (fun h => absurd h (by decide)) (fun _ => ?_)
    refine mm_skip (mm_call_mono _ _) 5 (st' := (14, [(3, .long (Int32.toInt64 ((nI (r + 64)) + 32))), (2, .int 32), (1, .int (nI (r + 64))), (0, .int s)], [], wC ov un nx dp fa cu st fi se th db cn F, 0)) rfl ?_
    rw [nI_p32 ((r + 64))]
    show mm_W _ _ _ _ _ _ _ (14, [(3, .long (Int32.toInt64 (nI (r + 96)))), (2, .int 32), (1, .int (nI (r + 64))), (0, .int s)], [], wC ov un nx dp fa cu st fi se th db cn F, 0)
    first | exact rw_5 (rw_dn (b := 64) hI rfl ((rw_cmp (by omega)).mp g)) hQ | exact rw_5 (r := r + 64) (rw_up (b := 64) hI rfl (fun q => g ((rw_cmp (by omega)).mpr q))) hQ

set_option maxRecDepth 100000 in
theorem rw_7 {d : Nat} {ov un : Nat → Int32} {nx dp fa : Int32} {cu : mm_cu} {st fi se th db : Nat → Int32} {cn : Int32} {F : mm_M} {s : Int32} {Q : mm_R → mm_M → Prop} {r : Nat} (hI : rwI s r 256) (hQ : ∀ v : Int32, rwR s v → Q (.inl (some (.int v))) (wC ov un nx dp fa cu st fi se th db cn F)) : mm_W (mm_call mm_Tb d) mp_N_rootOfWhole (mm_bt mm_Tb) 0 (some .int) 5 Q (14, [(3, .long (Int32.toInt64 (nI (r + 128)))), (2, .int 128), (1, .int (nI r)), (0, .int s)], [], wC ov un nx dp fa cu st fi se th db cn F, 0) := by
  have hb := hI.2.2
  refine mm_skip (mm_call_mono _ _) 6 (st' := (20, [(3, .long (Int32.toInt64 (nI (r + 128)))), (2, .int 128), (1, .int (nI r)), (0, .int s)], [.int (lg_cmp ((Int32.toInt64 (nI (r + 128))) * (Int32.toInt64 (nI (r + 128)))) (Int32.toInt64 s))], wC ov un nx dp fa cu st fi se th db cn F, 0)) rfl ?_
  refine mm_branch (mm_call_mono _ _) (c := 0 < (lg_cmp ((Int32.toInt64 (nI (r + 128))) * (Int32.toInt64 (nI (r + 128)))) (Int32.toInt64 s))) (s1 := (27, [(3, .long (Int32.toInt64 (nI (r + 128)))), (2, .int 128), (1, .int (nI r)), (0, .int s)], [], wC ov un nx dp fa cu st fi se th db cn F, 0)) (s2 := (23, [(3, .long (Int32.toInt64 (nI (r + 128)))), (2, .int 128), (1, .int (nI r)), (0, .int s)], [], wC ov un nx dp fa cu st fi se th db cn F, 0)) rfl (fun g => ?_) (fun g => ?_)
  · skip
    refine mm_skip (mm_call_mono _ _) 6 (st' := (6, [(2, .int 64), (3, .long (Int32.toInt64 (nI (r + 128)))), (1, .int (nI r)), (0, .int s)], [.int 64], wC ov un nx dp fa cu st fi se th db cn F, 0)) rfl ?_
    refine mm_branch (mm_call_mono _ _) (c := (64 : Int32) ≤ 0) (s1 := (34, [(2, .int 64), (3, .long (Int32.toInt64 (nI (r + 128)))), (1, .int (nI r)), (0, .int s)], [], wC ov un nx dp fa cu st fi se th db cn F, 0)) (s2 := (9, [(2, .int 64), (3, .long (Int32.toInt64 (nI (r + 128)))), (1, .int (nI r)), (0, .int s)], [], wC ov un nx dp fa cu st fi se th db cn F, 0)) rfl (fun h => absurd h (by decide)) (fun _ => ?_)
    refine mm_skip (mm_call_mono _ _) 5 (st' := (14, [(3, .long (Int32.toInt64 ((nI r) + 64))), (2, .int 64), (1, .int (nI r)), (0, .int s)], [], wC ov un nx dp fa cu st fi se th db cn F, 0)) rfl ?_
    rw [nI_p64 (r)]
    show mm_W _ _ _ _ _ _ _ (14, [(3, .long (Int32.toInt64 (nI (r + 64)))), (2, .int 64), (1, .int (nI r)), (0, .int s)], [], wC ov un nx dp fa cu st fi se th db cn F, 0)
    first | exact rw_6 (rw_dn (b := 128) hI rfl ((rw_cmp (by omega)).mp g)) hQ | exact rw_6 (r := r + 128) (rw_up (b := 128) hI rfl (fun q => g ((rw_cmp (by omega)).mpr q))) hQ
  · skip
    refine mm_skip (mm_call_mono _ _) 10 (st' := (6, [(2, .int 64), (1, .int ((nI r) + 128)), (3, .long (Int32.toInt64 (nI (r + 128)))), (0, .int s)], [.int 64], wC ov un nx dp fa cu st fi se th db cn F, 0)) rfl ?_
    rw [nI_p128 (r)]
    show mm_W _ _ _ _ _ _ _ (6, [(2, .int 64), (1, .int (nI (r + 128))), (3, .long (Int32.toInt64 (nI (r + 128)))), (0, .int s)], [.int 64], wC ov un nx dp fa cu st fi se th db cn F, 0)
    refine mm_branch (mm_call_mono _ _) (c := (64 : Int32) ≤ 0) (s1 := (34, [(2, .int 64), (1, .int (nI (r + 128))), (3, .long (Int32.toInt64 (nI (r + 128)))), (0, .int s)], [], wC ov un nx dp fa cu st fi se th db cn F, 0)) (s2 := (9, [(2, .int 64), (1, .int (nI (r + 128))), (3, .long (Int32.toInt64 (nI (r + 128)))), (0, .int s)], [], wC ov un nx dp fa cu st fi se th db cn F, 0)) rfl (fun h => absurd h (by decide)) (fun _ => ?_)
    refine mm_skip (mm_call_mono _ _) 5 (st' := (14, [(3, .long (Int32.toInt64 ((nI (r + 128)) + 64))), (2, .int 64), (1, .int (nI (r + 128))), (0, .int s)], [], wC ov un nx dp fa cu st fi se th db cn F, 0)) rfl ?_
    rw [nI_p64 ((r + 128))]
    show mm_W _ _ _ _ _ _ _ (14, [(3, .long (Int32.toInt64 (nI (r + 192)))), (2, .int 64), (1, .int (nI (r + 128))), (0, .int s)], [], wC ov un nx dp fa cu st fi se th db cn F, 0)
    first | exact rw_6 (rw_dn (b := 128) hI rfl ((rw_cmp (by omega)).mp g)) hQ | exact rw_6 (r := r + 128) (rw_up (b := 128) hI rfl (fun q => g ((rw_cmp (by omega)).mpr q))) hQ

set_option maxRecDepth 100000 in
theorem rw_8 {d : Nat} {ov un : Nat → Int32} {nx dp fa : Int32} {cu : mm_cu} {st fi se th db : Nat → Int32} {cn : Int32} {F : mm_M} {s : Int32} {Q : mm_R → mm_M → Prop} {r : Nat} (hI : rwI s r 512) (hQ : ∀ v : Int32, rwR s v → Q (.inl (some (.int v))) (wC ov un nx dp fa cu st fi se th db cn F)) : mm_W (mm_call mm_Tb d) mp_N_rootOfWhole (mm_bt mm_Tb) 0 (some .int) 5 Q (14, [(3, .long (Int32.toInt64 (nI (r + 256)))), (2, .int 256), (1, .int (nI r)), (0, .int s)], [], wC ov un nx dp fa cu st fi se th db cn F, 0) := by
  have hb := hI.2.2
  refine mm_skip (mm_call_mono _ _) 6 (st' := (20, [(3, .long (Int32.toInt64 (nI (r + 256)))), (2, .int 256), (1, .int (nI r)), (0, .int s)], [.int (lg_cmp ((Int32.toInt64 (nI (r + 256))) * (Int32.toInt64 (nI (r + 256)))) (Int32.toInt64 s))], wC ov un nx dp fa cu st fi se th db cn F, 0)) rfl ?_
  refine mm_branch (mm_call_mono _ _) (c := 0 < (lg_cmp ((Int32.toInt64 (nI (r + 256))) * (Int32.toInt64 (nI (r + 256)))) (Int32.toInt64 s))) (s1 := (27, [(3, .long (Int32.toInt64 (nI (r + 256)))), (2, .int 256), (1, .int (nI r)), (0, .int s)], [], wC ov un nx dp fa cu st fi se th db cn F, 0)) (s2 := (23, [(3, .long (Int32.toInt64 (nI (r + 256)))), (2, .int 256), (1, .int (nI r)), (0, .int s)], [], wC ov un nx dp fa cu st fi se th db cn F, 0)) rfl (fun g => ?_) (fun g => ?_)
  · skip
    refine mm_skip (mm_call_mono _ _) 6 (st' := (6, [(2, .int 128), (3, .long (Int32.toInt64 (nI (r + 256)))), (1, .int (nI r)), (0, .int s)], [.int 128], wC ov un nx dp fa cu st fi se th db cn F, 0)) rfl ?_
    refine mm_branch (mm_call_mono _ _) (c := (128 : Int32) ≤ 0) (s1 := (34, [(2, .int 128), (3, .long (Int32.toInt64 (nI (r + 256)))), (1, .int (nI r)), (0, .int s)], [], wC ov un nx dp fa cu st fi se th db cn F, 0)) (s2 := (9, [(2, .int 128), (3, .long (Int32.toInt64 (nI (r + 256)))), (1, .int (nI r)), (0, .int s)], [], wC ov un nx dp fa cu st fi se th db cn F, 0)) rfl (fun h => absurd h (by decide)) (fun _ => ?_)
    refine mm_skip (mm_call_mono _ _) 5 (st' := (14, [(3, .long (Int32.toInt64 ((nI r) + 128))), (2, .int 128), (1, .int (nI r)), (0, .int s)], [], wC ov un nx dp fa cu st fi se th db cn F, 0)) rfl ?_
    rw [nI_p128 (r)]
    show mm_W _ _ _ _ _ _ _ (14, [(3, .long (Int32.toInt64 (nI (r + 128)))), (2, .int 128), (1, .int (nI r)), (0, .int s)], [], wC ov un nx dp fa cu st fi se th db cn F, 0)
    first | exact rw_7 (rw_dn (b := 256) hI rfl ((rw_cmp (by omega)).mp g)) hQ | exact rw_7 (r := r + 256) (rw_up (b := 256) hI rfl (fun q => g ((rw_cmp (by omega)).mpr q))) hQ
  · skip
    refine mm_skip (mm_call_mono _ _) 10 (st' := (6, [(2, .int 128), (1, .int ((nI r) + 256)), (3, .long (Int32.toInt64 (nI (r + 256)))), (0, .int s)], [.int 128], wC ov un nx dp fa cu st fi se th db cn F, 0)) rfl ?_
    rw [nI_p256 (r)]
    show mm_W _ _ _ _ _ _ _ (6, [(2, .int 128), (1, .int (nI (r + 256))), (3, .long (Int32.toInt64 (nI (r + 256)))), (0, .int s)], [.int 128], wC ov un nx dp fa cu st fi se th db cn F, 0)
    refine mm_branch (mm_call_mono _ _) (c := (128 : Int32) ≤ 0) (s1 := (34, [(2, .int 128), (1, .int (nI (r + 256))), (3, .long (Int32.toInt64 (nI (r + 256)))), (0, .int s)], [], wC ov un nx dp fa cu st fi se th db cn F, 0)) (s2 := (9, [(2, .int 128), (1, .int (nI (r + 256))), (3, .long (Int32.toInt64 (nI (r + 256)))), (0, .int s)], [], wC ov un nx dp fa cu st fi se th db cn F, 0)) rfl (fun h => absurd h (by decide)) (fun _ => ?_)
    refine mm_skip (mm_call_mono _ _) 5 (st' := (14, [(3, .long (Int32.toInt64 ((nI (r + 256)) + 128))), (2, .int 128), (1, .int (nI (r + 256))), (0, .int s)], [], wC ov un nx dp fa cu st fi se th db cn F, 0)) rfl ?_
    rw [nI_p128 ((r + 256))]
    show mm_W _ _ _ _ _ _ _ (14, [(3, .long (Int32.toInt64 (nI (r + 384)))), (2, .int 128), (1, .int (nI (r + 256))), (0, .int s)], [], wC ov un nx dp fa cu st fi se th db cn F, 0)
    first | exact rw_7 (rw_dn (b := 256) hI rfl ((rw_cmp (by omega)).mp g)) hQ | exact rw_7 (r := r + 256) (rw_up (b := 256) hI rfl (fun q => g ((rw_cmp (by omega)).mpr q))) hQ

set_option maxRecDepth 100000 in
theorem rw_9 {d : Nat} {ov un : Nat → Int32} {nx dp fa : Int32} {cu : mm_cu} {st fi se th db : Nat → Int32} {cn : Int32} {F : mm_M} {s : Int32} {Q : mm_R → mm_M → Prop} {r : Nat} (hI : rwI s r 1024) (hQ : ∀ v : Int32, rwR s v → Q (.inl (some (.int v))) (wC ov un nx dp fa cu st fi se th db cn F)) : mm_W (mm_call mm_Tb d) mp_N_rootOfWhole (mm_bt mm_Tb) 0 (some .int) 5 Q (14, [(3, .long (Int32.toInt64 (nI (r + 512)))), (2, .int 512), (1, .int (nI r)), (0, .int s)], [], wC ov un nx dp fa cu st fi se th db cn F, 0) := by
  have hb := hI.2.2
  refine mm_skip (mm_call_mono _ _) 6 (st' := (20, [(3, .long (Int32.toInt64 (nI (r + 512)))), (2, .int 512), (1, .int (nI r)), (0, .int s)], [.int (lg_cmp ((Int32.toInt64 (nI (r + 512))) * (Int32.toInt64 (nI (r + 512)))) (Int32.toInt64 s))], wC ov un nx dp fa cu st fi se th db cn F, 0)) rfl ?_
  refine mm_branch (mm_call_mono _ _) (c := 0 < (lg_cmp ((Int32.toInt64 (nI (r + 512))) * (Int32.toInt64 (nI (r + 512)))) (Int32.toInt64 s))) (s1 := (27, [(3, .long (Int32.toInt64 (nI (r + 512)))), (2, .int 512), (1, .int (nI r)), (0, .int s)], [], wC ov un nx dp fa cu st fi se th db cn F, 0)) (s2 := (23, [(3, .long (Int32.toInt64 (nI (r + 512)))), (2, .int 512), (1, .int (nI r)), (0, .int s)], [], wC ov un nx dp fa cu st fi se th db cn F, 0)) rfl (fun g => ?_) (fun g => ?_)
  · skip
    refine mm_skip (mm_call_mono _ _) 6 (st' := (6, [(2, .int 256), (3, .long (Int32.toInt64 (nI (r + 512)))), (1, .int (nI r)), (0, .int s)], [.int 256], wC ov un nx dp fa cu st fi se th db cn F, 0)) rfl ?_
    refine mm_branch (mm_call_mono _ _) (c := (256 : Int32) ≤ 0) (s1 := (34, [(2, .int 256), (3, .long (Int32.toInt64 (nI (r + 512)))), (1, .int (nI r)), (0, .int s)], [], wC ov un nx dp fa cu st fi se th db cn F, 0)) (s2 := (9, [(2, .int 256), (3, .long (Int32.toInt64 (nI (r + 512)))), (1, .int (nI r)), (0, .int s)], [], wC ov un nx dp fa cu st fi se th db cn F, 0)) rfl (fun h => absurd h (by decide)) (fun _ => ?_)
    refine mm_skip (mm_call_mono _ _) 5 (st' := (14, [(3, .long (Int32.toInt64 ((nI r) + 256))), (2, .int 256), (1, .int (nI r)), (0, .int s)], [], wC ov un nx dp fa cu st fi se th db cn F, 0)) rfl ?_
    rw [nI_p256 (r)]
    show mm_W _ _ _ _ _ _ _ (14, [(3, .long (Int32.toInt64 (nI (r + 256)))), (2, .int 256), (1, .int (nI r)), (0, .int s)], [], wC ov un nx dp fa cu st fi se th db cn F, 0)
    first | exact rw_8 (rw_dn (b := 512) hI rfl ((rw_cmp (by omega)).mp g)) hQ | exact rw_8 (r := r + 512) (rw_up (b := 512) hI rfl (fun q => g ((rw_cmp (by omega)).mpr q))) hQ
  · skip
    refine mm_skip (mm_call_mono _ _) 10 (st' := (6, [(2, .int 256), (1, .int ((nI r) + 512)), (3, .long (Int32.toInt64 (nI (r + 512)))), (0, .int s)], [.int 256], wC ov un nx dp fa cu st fi se th db cn F, 0)) rfl ?_
    rw [nI_p512 (r)]
    show mm_W _ _ _ _ _ _ _ (6, [(2, .int 256), (1, .int (nI (r + 512))), (3, .long (Int32.toInt64 (nI (r + 512)))), (0, .int s)], [.int 256], wC ov un nx dp fa cu st fi se th db cn F, 0)
    refine mm_branch (mm_call_mono _ _) (c := (256 : Int32) ≤ 0) (s1 := (34, [(2, .int 256), (1, .int (nI (r + 512))), (3, .long (Int32.toInt64 (nI (r + 512)))), (0, .int s)], [], wC ov un nx dp fa cu st fi se th db cn F, 0)) (s2 := (9, [(2, .int 256), (1, .int (nI (r + 512))), (3, .long (Int32.toInt64 (nI (r + 512)))), (0, .int s)], [], wC ov un nx dp fa cu st fi se th db cn F, 0)) rfl (fun h => absurd h (by decide)) (fun _ => ?_)
    refine mm_skip (mm_call_mono _ _) 5 (st' := (14, [(3, .long (Int32.toInt64 ((nI (r + 512)) + 256))), (2, .int 256), (1, .int (nI (r + 512))), (0, .int s)], [], wC ov un nx dp fa cu st fi se th db cn F, 0)) rfl ?_
    rw [nI_p256 ((r + 512))]
    show mm_W _ _ _ _ _ _ _ (14, [(3, .long (Int32.toInt64 (nI (r + 768)))), (2, .int 256), (1, .int (nI (r + 512))), (0, .int s)], [], wC ov un nx dp fa cu st fi se th db cn F, 0)
    first | exact rw_8 (rw_dn (b := 512) hI rfl ((rw_cmp (by omega)).mp g)) hQ | exact rw_8 (r := r + 512) (rw_up (b := 512) hI rfl (fun q => g ((rw_cmp (by omega)).mpr q))) hQ

set_option maxRecDepth 100000 in
theorem rw_10 {d : Nat} {ov un : Nat → Int32} {nx dp fa : Int32} {cu : mm_cu} {st fi se th db : Nat → Int32} {cn : Int32} {F : mm_M} {s : Int32} {Q : mm_R → mm_M → Prop} {r : Nat} (hI : rwI s r 2048) (hQ : ∀ v : Int32, rwR s v → Q (.inl (some (.int v))) (wC ov un nx dp fa cu st fi se th db cn F)) : mm_W (mm_call mm_Tb d) mp_N_rootOfWhole (mm_bt mm_Tb) 0 (some .int) 5 Q (14, [(3, .long (Int32.toInt64 (nI (r + 1024)))), (2, .int 1024), (1, .int (nI r)), (0, .int s)], [], wC ov un nx dp fa cu st fi se th db cn F, 0) := by
  have hb := hI.2.2
  refine mm_skip (mm_call_mono _ _) 6 (st' := (20, [(3, .long (Int32.toInt64 (nI (r + 1024)))), (2, .int 1024), (1, .int (nI r)), (0, .int s)], [.int (lg_cmp ((Int32.toInt64 (nI (r + 1024))) * (Int32.toInt64 (nI (r + 1024)))) (Int32.toInt64 s))], wC ov un nx dp fa cu st fi se th db cn F, 0)) rfl ?_
  refine mm_branch (mm_call_mono _ _) (c := 0 < (lg_cmp ((Int32.toInt64 (nI (r + 1024))) * (Int32.toInt64 (nI (r + 1024)))) (Int32.toInt64 s))) (s1 := (27, [(3, .long (Int32.toInt64 (nI (r + 1024)))), (2, .int 1024), (1, .int (nI r)), (0, .int s)], [], wC ov un nx dp fa cu st fi se th db cn F, 0)) (s2 := (23, [(3, .long (Int32.toInt64 (nI (r + 1024)))), (2, .int 1024), (1, .int (nI r)), (0, .int s)], [], wC ov un nx dp fa cu st fi se th db cn F, 0)) rfl (fun g => ?_) (fun g => ?_)
  · skip
    refine mm_skip (mm_call_mono _ _) 6 (st' := (6, [(2, .int 512), (3, .long (Int32.toInt64 (nI (r + 1024)))), (1, .int (nI r)), (0, .int s)], [.int 512], wC ov un nx dp fa cu st fi se th db cn F, 0)) rfl ?_
    refine mm_branch (mm_call_mono _ _) (c := (512 : Int32) ≤ 0) (s1 := (34, [(2, .int 512), (3, .long (Int32.toInt64 (nI (r + 1024)))), (1, .int (nI r)), (0, .int s)], [], wC ov un nx dp fa cu st fi se th db cn F, 0)) (s2 := (9, [(2, .int 512), (3, .long (Int32.toInt64 (nI (r + 1024)))), (1, .int (nI r)), (0, .int s)], [], wC ov un nx dp fa cu st fi se th db cn F, 0)) rfl (fun h => absurd h (by decide)) (fun _ => ?_)
    refine mm_skip (mm_call_mono _ _) 5 (st' := (14, [(3, .long (Int32.toInt64 ((nI r) + 512))), (2, .int 512), (1, .int (nI r)), (0, .int s)], [], wC ov un nx dp fa cu st fi se th db cn F, 0)) rfl ?_
    rw [nI_p512 (r)]
    show mm_W _ _ _ _ _ _ _ (14, [(3, .long (Int32.toInt64 (nI (r + 512)))), (2, .int 512), (1, .int (nI r)), (0, .int s)], [], wC ov un nx dp fa cu st fi se th db cn F, 0)
    first | exact rw_9 (rw_dn (b := 1024) hI rfl ((rw_cmp (by omega)).mp g)) hQ | exact rw_9 (r := r + 1024) (rw_up (b := 1024) hI rfl (fun q => g ((rw_cmp (by omega)).mpr q))) hQ
  · skip
    refine mm_skip (mm_call_mono _ _) 10 (st' := (6, [(2, .int 512), (1, .int ((nI r) + 1024)), (3, .long (Int32.toInt64 (nI (r + 1024)))), (0, .int s)], [.int 512], wC ov un nx dp fa cu st fi se th db cn F, 0)) rfl ?_
    rw [nI_p1024 (r)]
    show mm_W _ _ _ _ _ _ _ (6, [(2, .int 512), (1, .int (nI (r + 1024))), (3, .long (Int32.toInt64 (nI (r + 1024)))), (0, .int s)], [.int 512], wC ov un nx dp fa cu st fi se th db cn F, 0)
    refine mm_branch (mm_call_mono _ _) (c := (512 : Int32) ≤ 0) (s1 := (34, [(2, .int 512), (1, .int (nI (r + 1024))), (3, .long (Int32.toInt64 (nI (r + 1024)))), (0, .int s)], [], wC ov un nx dp fa cu st fi se th db cn F, 0)) (s2 := (9, [(2, .int 512), (1, .int (nI (r + 1024))), (3, .long (Int32.toInt64 (nI (r + 1024)))), (0, .int s)], [], wC ov un nx dp fa cu st fi se th db cn F, 0)) rfl (fun h => absurd h (by decide)) (fun _ => ?_)
    refine mm_skip (mm_call_mono _ _) 5 (st' := (14, [(3, .long (Int32.toInt64 ((nI (r + 1024)) + 512))), (2, .int 512), (1, .int (nI (r + 1024))), (0, .int s)], [], wC ov un nx dp fa cu st fi se th db cn F, 0)) rfl ?_
    rw [nI_p512 ((r + 1024))]
    show mm_W _ _ _ _ _ _ _ (14, [(3, .long (Int32.toInt64 (nI (r + 1536)))), (2, .int 512), (1, .int (nI (r + 1024))), (0, .int s)], [], wC ov un nx dp fa cu st fi se th db cn F, 0)
    first | exact rw_9 (rw_dn (b := 1024) hI rfl ((rw_cmp (by omega)).mp g)) hQ | exact rw_9 (r := r + 1024) (rw_up (b := 1024) hI rfl (fun q => g ((rw_cmp (by omega)).mpr q))) hQ

set_option maxRecDepth 100000 in
theorem rw_11 {d : Nat} {ov un : Nat → Int32} {nx dp fa : Int32} {cu : mm_cu} {st fi se th db : Nat → Int32} {cn : Int32} {F : mm_M} {s : Int32} {Q : mm_R → mm_M → Prop} {r : Nat} (hI : rwI s r 4096) (hQ : ∀ v : Int32, rwR s v → Q (.inl (some (.int v))) (wC ov un nx dp fa cu st fi se th db cn F)) : mm_W (mm_call mm_Tb d) mp_N_rootOfWhole (mm_bt mm_Tb) 0 (some .int) 5 Q (14, [(3, .long (Int32.toInt64 (nI (r + 2048)))), (2, .int 2048), (1, .int (nI r)), (0, .int s)], [], wC ov un nx dp fa cu st fi se th db cn F, 0) := by
  have hb := hI.2.2
  refine mm_skip (mm_call_mono _ _) 6 (st' := (20, [(3, .long (Int32.toInt64 (nI (r + 2048)))), (2, .int 2048), (1, .int (nI r)), (0, .int s)], [.int (lg_cmp ((Int32.toInt64 (nI (r + 2048))) * (Int32.toInt64 (nI (r + 2048)))) (Int32.toInt64 s))], wC ov un nx dp fa cu st fi se th db cn F, 0)) rfl ?_
  refine mm_branch (mm_call_mono _ _) (c := 0 < (lg_cmp ((Int32.toInt64 (nI (r + 2048))) * (Int32.toInt64 (nI (r + 2048)))) (Int32.toInt64 s))) (s1 := (27, [(3, .long (Int32.toInt64 (nI (r + 2048)))), (2, .int 2048), (1, .int (nI r)), (0, .int s)], [], wC ov un nx dp fa cu st fi se th db cn F, 0)) (s2 := (23, [(3, .long (Int32.toInt64 (nI (r + 2048)))), (2, .int 2048), (1, .int (nI r)), (0, .int s)], [], wC ov un nx dp fa cu st fi se th db cn F, 0)) rfl (fun g => ?_) (fun g => ?_)
  · skip
    refine mm_skip (mm_call_mono _ _) 6 (st' := (6, [(2, .int 1024), (3, .long (Int32.toInt64 (nI (r + 2048)))), (1, .int (nI r)), (0, .int s)], [.int 1024], wC ov un nx dp fa cu st fi se th db cn F, 0)) rfl ?_
    refine mm_branch (mm_call_mono _ _) (c := (1024 : Int32) ≤ 0) (s1 := (34, [(2, .int 1024), (3, .long (Int32.toInt64 (nI (r + 2048)))), (1, .int (nI r)), (0, .int s)], [], wC ov un nx dp fa cu st fi se th db cn F, 0)) (s2 := (9, [(2, .int 1024), (3, .long (Int32.toInt64 (nI (r + 2048)))), (1, .int (nI r)), (0, .int s)], [], wC ov un nx dp fa cu st fi se th db cn F, 0)) rfl (fun h => absurd h (by decide)) (fun _ => ?_)
    refine mm_skip (mm_call_mono _ _) 5 (st' := (14, [(3, .long (Int32.toInt64 ((nI r) + 1024))), (2, .int 1024), (1, .int (nI r)), (0, .int s)], [], wC ov un nx dp fa cu st fi se th db cn F, 0)) rfl ?_
    rw [nI_p1024 (r)]
    show mm_W _ _ _ _ _ _ _ (14, [(3, .long (Int32.toInt64 (nI (r + 1024)))), (2, .int 1024), (1, .int (nI r)), (0, .int s)], [], wC ov un nx dp fa cu st fi se th db cn F, 0)
    first | exact rw_10 (rw_dn (b := 2048) hI rfl ((rw_cmp (by omega)).mp g)) hQ | exact rw_10 (r := r + 2048) (rw_up (b := 2048) hI rfl (fun q => g ((rw_cmp (by omega)).mpr q))) hQ
  · skip
    refine mm_skip (mm_call_mono _ _) 10 (st' := (6, [(2, .int 1024), (1, .int ((nI r) + 2048)), (3, .long (Int32.toInt64 (nI (r + 2048)))), (0, .int s)], [.int 1024], wC ov un nx dp fa cu st fi se th db cn F, 0)) rfl ?_
    rw [nI_p2048 (r)]
    show mm_W _ _ _ _ _ _ _ (6, [(2, .int 1024), (1, .int (nI (r + 2048))), (3, .long (Int32.toInt64 (nI (r + 2048)))), (0, .int s)], [.int 1024], wC ov un nx dp fa cu st fi se th db cn F, 0)
    refine mm_branch (mm_call_mono _ _) (c := (1024 : Int32) ≤ 0) (s1 := (34, [(2, .int 1024), (1, .int (nI (r + 2048))), (3, .long (Int32.toInt64 (nI (r + 2048)))), (0, .int s)], [], wC ov un nx dp fa cu st fi se th db cn F, 0)) (s2 := (9, [(2, .int 1024), (1, .int (nI (r + 2048))), (3, .long (Int32.toInt64 (nI (r + 2048)))), (0, .int s)], [], wC ov un nx dp fa cu st fi se th db cn F, 0)) rfl (fun h => absurd h (by decide)) (fun _ => ?_)
    refine mm_skip (mm_call_mono _ _) 5 (st' := (14, [(3, .long (Int32.toInt64 ((nI (r + 2048)) + 1024))), (2, .int 1024), (1, .int (nI (r + 2048))), (0, .int s)], [], wC ov un nx dp fa cu st fi se th db cn F, 0)) rfl ?_
    rw [nI_p1024 ((r + 2048))]
    show mm_W _ _ _ _ _ _ _ (14, [(3, .long (Int32.toInt64 (nI (r + 3072)))), (2, .int 1024), (1, .int (nI (r + 2048))), (0, .int s)], [], wC ov un nx dp fa cu st fi se th db cn F, 0)
    first | exact rw_10 (rw_dn (b := 2048) hI rfl ((rw_cmp (by omega)).mp g)) hQ | exact rw_10 (r := r + 2048) (rw_up (b := 2048) hI rfl (fun q => g ((rw_cmp (by omega)).mpr q))) hQ

set_option maxRecDepth 100000 in
theorem rw_12 {d : Nat} {ov un : Nat → Int32} {nx dp fa : Int32} {cu : mm_cu} {st fi se th db : Nat → Int32} {cn : Int32} {F : mm_M} {s : Int32} {Q : mm_R → mm_M → Prop} {r : Nat} (hI : rwI s r 8192) (hQ : ∀ v : Int32, rwR s v → Q (.inl (some (.int v))) (wC ov un nx dp fa cu st fi se th db cn F)) : mm_W (mm_call mm_Tb d) mp_N_rootOfWhole (mm_bt mm_Tb) 0 (some .int) 5 Q (14, [(3, .long (Int32.toInt64 (nI (r + 4096)))), (2, .int 4096), (1, .int (nI r)), (0, .int s)], [], wC ov un nx dp fa cu st fi se th db cn F, 0) := by
  have hb := hI.2.2
  refine mm_skip (mm_call_mono _ _) 6 (st' := (20, [(3, .long (Int32.toInt64 (nI (r + 4096)))), (2, .int 4096), (1, .int (nI r)), (0, .int s)], [.int (lg_cmp ((Int32.toInt64 (nI (r + 4096))) * (Int32.toInt64 (nI (r + 4096)))) (Int32.toInt64 s))], wC ov un nx dp fa cu st fi se th db cn F, 0)) rfl ?_
  refine mm_branch (mm_call_mono _ _) (c := 0 < (lg_cmp ((Int32.toInt64 (nI (r + 4096))) * (Int32.toInt64 (nI (r + 4096)))) (Int32.toInt64 s))) (s1 := (27, [(3, .long (Int32.toInt64 (nI (r + 4096)))), (2, .int 4096), (1, .int (nI r)), (0, .int s)], [], wC ov un nx dp fa cu st fi se th db cn F, 0)) (s2 := (23, [(3, .long (Int32.toInt64 (nI (r + 4096)))), (2, .int 4096), (1, .int (nI r)), (0, .int s)], [], wC ov un nx dp fa cu st fi se th db cn F, 0)) rfl (fun g => ?_) (fun g => ?_)
  · skip
    refine mm_skip (mm_call_mono _ _) 6 (st' := (6, [(2, .int 2048), (3, .long (Int32.toInt64 (nI (r + 4096)))), (1, .int (nI r)), (0, .int s)], [.int 2048], wC ov un nx dp fa cu st fi se th db cn F, 0)) rfl ?_
    refine mm_branch (mm_call_mono _ _) (c := (2048 : Int32) ≤ 0) (s1 := (34, [(2, .int 2048), (3, .long (Int32.toInt64 (nI (r + 4096)))), (1, .int (nI r)), (0, .int s)], [], wC ov un nx dp fa cu st fi se th db cn F, 0)) (s2 := (9, [(2, .int 2048), (3, .long (Int32.toInt64 (nI (r + 4096)))), (1, .int (nI r)), (0, .int s)], [], wC ov un nx dp fa cu st fi se th db cn F, 0)) rfl (fun h => absurd h (by decide)) (fun _ => ?_)
    refine mm_skip (mm_call_mono _ _) 5 (st' := (14, [(3, .long (Int32.toInt64 ((nI r) + 2048))), (2, .int 2048), (1, .int (nI r)), (0, .int s)], [], wC ov un nx dp fa cu st fi se th db cn F, 0)) rfl ?_
    rw [nI_p2048 (r)]
    show mm_W _ _ _ _ _ _ _ (14, [(3, .long (Int32.toInt64 (nI (r + 2048)))), (2, .int 2048), (1, .int (nI r)), (0, .int s)], [], wC ov un nx dp fa cu st fi se th db cn F, 0)
    first | exact rw_11 (rw_dn (b := 4096) hI rfl ((rw_cmp (by omega)).mp g)) hQ | exact rw_11 (r := r + 4096) (rw_up (b := 4096) hI rfl (fun q => g ((rw_cmp (by omega)).mpr q))) hQ
  · skip
    refine mm_skip (mm_call_mono _ _) 10 (st' := (6, [(2, .int 2048), (1, .int ((nI r) + 4096)), (3, .long (Int32.toInt64 (nI (r + 4096)))), (0, .int s)], [.int 2048], wC ov un nx dp fa cu st fi se th db cn F, 0)) rfl ?_
    rw [nI_p4096 (r)]
    show mm_W _ _ _ _ _ _ _ (6, [(2, .int 2048), (1, .int (nI (r + 4096))), (3, .long (Int32.toInt64 (nI (r + 4096)))), (0, .int s)], [.int 2048], wC ov un nx dp fa cu st fi se th db cn F, 0)
    refine mm_branch (mm_call_mono _ _) (c := (2048 : Int32) ≤ 0) (s1 := (34, [(2, .int 2048), (1, .int (nI (r + 4096))), (3, .long (Int32.toInt64 (nI (r + 4096)))), (0, .int s)], [], wC ov un nx dp fa cu st fi se th db cn F, 0)) (s2 := (9, [(2, .int 2048), (1, .int (nI (r + 4096))), (3, .long (Int32.toInt64 (nI (r + 4096)))), (0, .int s)], [], wC ov un nx dp fa cu st fi se th db cn F, 0)) rfl (fun h => absurd h (by decide)) (fun _ => ?_)
    refine mm_skip (mm_call_mono _ _) 5 (st' := (14, [(3, .long (Int32.toInt64 ((nI (r + 4096)) + 2048))), (2, .int 2048), (1, .int (nI (r + 4096))), (0, .int s)], [], wC ov un nx dp fa cu st fi se th db cn F, 0)) rfl ?_
    rw [nI_p2048 ((r + 4096))]
    show mm_W _ _ _ _ _ _ _ (14, [(3, .long (Int32.toInt64 (nI (r + 6144)))), (2, .int 2048), (1, .int (nI (r + 4096))), (0, .int s)], [], wC ov un nx dp fa cu st fi se th db cn F, 0)
    first | exact rw_11 (rw_dn (b := 4096) hI rfl ((rw_cmp (by omega)).mp g)) hQ | exact rw_11 (r := r + 4096) (rw_up (b := 4096) hI rfl (fun q => g ((rw_cmp (by omega)).mpr q))) hQ

set_option maxRecDepth 100000 in
theorem rw_13 {d : Nat} {ov un : Nat → Int32} {nx dp fa : Int32} {cu : mm_cu} {st fi se th db : Nat → Int32} {cn : Int32} {F : mm_M} {s : Int32} {Q : mm_R → mm_M → Prop} {r : Nat} (hI : rwI s r 16384) (hQ : ∀ v : Int32, rwR s v → Q (.inl (some (.int v))) (wC ov un nx dp fa cu st fi se th db cn F)) : mm_W (mm_call mm_Tb d) mp_N_rootOfWhole (mm_bt mm_Tb) 0 (some .int) 5 Q (14, [(3, .long (Int32.toInt64 (nI (r + 8192)))), (2, .int 8192), (1, .int (nI r)), (0, .int s)], [], wC ov un nx dp fa cu st fi se th db cn F, 0) := by
  have hb := hI.2.2
  refine mm_skip (mm_call_mono _ _) 6 (st' := (20, [(3, .long (Int32.toInt64 (nI (r + 8192)))), (2, .int 8192), (1, .int (nI r)), (0, .int s)], [.int (lg_cmp ((Int32.toInt64 (nI (r + 8192))) * (Int32.toInt64 (nI (r + 8192)))) (Int32.toInt64 s))], wC ov un nx dp fa cu st fi se th db cn F, 0)) rfl ?_
  refine mm_branch (mm_call_mono _ _) (c := 0 < (lg_cmp ((Int32.toInt64 (nI (r + 8192))) * (Int32.toInt64 (nI (r + 8192)))) (Int32.toInt64 s))) (s1 := (27, [(3, .long (Int32.toInt64 (nI (r + 8192)))), (2, .int 8192), (1, .int (nI r)), (0, .int s)], [], wC ov un nx dp fa cu st fi se th db cn F, 0)) (s2 := (23, [(3, .long (Int32.toInt64 (nI (r + 8192)))), (2, .int 8192), (1, .int (nI r)), (0, .int s)], [], wC ov un nx dp fa cu st fi se th db cn F, 0)) rfl (fun g => ?_) (fun g => ?_)
  · skip
    refine mm_skip (mm_call_mono _ _) 6 (st' := (6, [(2, .int 4096), (3, .long (Int32.toInt64 (nI (r + 8192)))), (1, .int (nI r)), (0, .int s)], [.int 4096], wC ov un nx dp fa cu st fi se th db cn F, 0)) rfl ?_
    refine mm_branch (mm_call_mono _ _) (c := (4096 : Int32) ≤ 0) (s1 := (34, [(2, .int 4096), (3, .long (Int32.toInt64 (nI (r + 8192)))), (1, .int (nI r)), (0, .int s)], [], wC ov un nx dp fa cu st fi se th db cn F, 0)) (s2 := (9, [(2, .int 4096), (3, .long (Int32.toInt64 (nI (r + 8192)))), (1, .int (nI r)), (0, .int s)], [], wC ov un nx dp fa cu st fi se th db cn F, 0)) rfl (fun h => absurd h (by decide)) (fun _ => ?_)
    refine mm_skip (mm_call_mono _ _) 5 (st' := (14, [(3, .long (Int32.toInt64 ((nI r) + 4096))), (2, .int 4096), (1, .int (nI r)), (0, .int s)], [], wC ov un nx dp fa cu st fi se th db cn F, 0)) rfl ?_
    rw [nI_p4096 (r)]
    show mm_W _ _ _ _ _ _ _ (14, [(3, .long (Int32.toInt64 (nI (r + 4096)))), (2, .int 4096), (1, .int (nI r)), (0, .int s)], [], wC ov un nx dp fa cu st fi se th db cn F, 0)
    first | exact rw_12 (rw_dn (b := 8192) hI rfl ((rw_cmp (by omega)).mp g)) hQ | exact rw_12 (r := r + 8192) (rw_up (b := 8192) hI rfl (fun q => g ((rw_cmp (by omega)).mpr q))) hQ
  · skip
    refine mm_skip (mm_call_mono _ _) 10 (st' := (6, [(2, .int 4096), (1, .int ((nI r) + 8192)), (3, .long (Int32.toInt64 (nI (r + 8192)))), (0, .int s)], [.int 4096], wC ov un nx dp fa cu st fi se th db cn F, 0)) rfl ?_
    rw [nI_p8192 (r)]
    show mm_W _ _ _ _ _ _ _ (6, [(2, .int 4096), (1, .int (nI (r + 8192))), (3, .long (Int32.toInt64 (nI (r + 8192)))), (0, .int s)], [.int 4096], wC ov un nx dp fa cu st fi se th db cn F, 0)
    refine mm_branch (mm_call_mono _ _) (c := (4096 : Int32) ≤ 0) (s1 := (34, [(2, .int 4096), (1, .int (nI (r + 8192))), (3, .long (Int32.toInt64 (nI (r + 8192)))), (0, .int s)], [], wC ov un nx dp fa cu st fi se th db cn F, 0)) (s2 := (9, [(2, .int 4096), (1, .int (nI (r + 8192))), (3, .long (Int32.toInt64 (nI (r + 8192)))), (0, .int s)], [], wC ov un nx dp fa cu st fi se th db cn F, 0)) rfl (fun h => absurd h (by decide)) (fun _ => ?_)
    refine mm_skip (mm_call_mono _ _) 5 (st' := (14, [(3, .long (Int32.toInt64 ((nI (r + 8192)) + 4096))), (2, .int 4096), (1, .int (nI (r + 8192))), (0, .int s)], [], wC ov un nx dp fa cu st fi se th db cn F, 0)) rfl ?_
    rw [nI_p4096 ((r + 8192))]
    show mm_W _ _ _ _ _ _ _ (14, [(3, .long (Int32.toInt64 (nI (r + 12288)))), (2, .int 4096), (1, .int (nI (r + 8192))), (0, .int s)], [], wC ov un nx dp fa cu st fi se th db cn F, 0)
    first | exact rw_12 (rw_dn (b := 8192) hI rfl ((rw_cmp (by omega)).mp g)) hQ | exact rw_12 (r := r + 8192) (rw_up (b := 8192) hI rfl (fun q => g ((rw_cmp (by omega)).mpr q))) hQ

set_option maxRecDepth 100000 in
theorem rw_14 {d : Nat} {ov un : Nat → Int32} {nx dp fa : Int32} {cu : mm_cu} {st fi se th db : Nat → Int32} {cn : Int32} {F : mm_M} {s : Int32} {Q : mm_R → mm_M → Prop} {r : Nat} (hI : rwI s r 32768) (hQ : ∀ v : Int32, rwR s v → Q (.inl (some (.int v))) (wC ov un nx dp fa cu st fi se th db cn F)) : mm_W (mm_call mm_Tb d) mp_N_rootOfWhole (mm_bt mm_Tb) 0 (some .int) 5 Q (14, [(3, .long (Int32.toInt64 (nI (r + 16384)))), (2, .int 16384), (1, .int (nI r)), (0, .int s)], [], wC ov un nx dp fa cu st fi se th db cn F, 0) := by
  have hb := hI.2.2
  refine mm_skip (mm_call_mono _ _) 6 (st' := (20, [(3, .long (Int32.toInt64 (nI (r + 16384)))), (2, .int 16384), (1, .int (nI r)), (0, .int s)], [.int (lg_cmp ((Int32.toInt64 (nI (r + 16384))) * (Int32.toInt64 (nI (r + 16384)))) (Int32.toInt64 s))], wC ov un nx dp fa cu st fi se th db cn F, 0)) rfl ?_
  refine mm_branch (mm_call_mono _ _) (c := 0 < (lg_cmp ((Int32.toInt64 (nI (r + 16384))) * (Int32.toInt64 (nI (r + 16384)))) (Int32.toInt64 s))) (s1 := (27, [(3, .long (Int32.toInt64 (nI (r + 16384)))), (2, .int 16384), (1, .int (nI r)), (0, .int s)], [], wC ov un nx dp fa cu st fi se th db cn F, 0)) (s2 := (23, [(3, .long (Int32.toInt64 (nI (r + 16384)))), (2, .int 16384), (1, .int (nI r)), (0, .int s)], [], wC ov un nx dp fa cu st fi se th db cn F, 0)) rfl (fun g => ?_) (fun g => ?_)
  · skip
    refine mm_skip (mm_call_mono _ _) 6 (st' := (6, [(2, .int 8192), (3, .long (Int32.toInt64 (nI (r + 16384)))), (1, .int (nI r)), (0, .int s)], [.int 8192], wC ov un nx dp fa cu st fi se th db cn F, 0)) rfl ?_
    refine mm_branch (mm_call_mono _ _) (c := (8192 : Int32) ≤ 0) (s1 := (34, [(2, .int 8192), (3, .long (Int32.toInt64 (nI (r + 16384)))), (1, .int (nI r)), (0, .int s)], [], wC ov un nx dp fa cu st fi se th db cn F, 0)) (s2 := (9, [(2, .int 8192), (3, .long (Int32.toInt64 (nI (r + 16384)))), (1, .int (nI r)), (0, .int s)], [], wC ov un nx dp fa cu st fi se th db cn F, 0)) rfl (fun h => absurd h (by decide)) (fun _ => ?_)
    refine mm_skip (mm_call_mono _ _) 5 (st' := (14, [(3, .long (Int32.toInt64 ((nI r) + 8192))), (2, .int 8192), (1, .int (nI r)), (0, .int s)], [], wC ov un nx dp fa cu st fi se th db cn F, 0)) rfl ?_
    rw [nI_p8192 (r)]
    show mm_W _ _ _ _ _ _ _ (14, [(3, .long (Int32.toInt64 (nI (r + 8192)))), (2, .int 8192), (1, .int (nI r)), (0, .int s)], [], wC ov un nx dp fa cu st fi se th db cn F, 0)
    first | exact rw_13 (rw_dn (b := 16384) hI rfl ((rw_cmp (by omega)).mp g)) hQ | exact rw_13 (r := r + 16384) (rw_up (b := 16384) hI rfl (fun q => g ((rw_cmp (by omega)).mpr q))) hQ
  · skip
    refine mm_skip (mm_call_mono _ _) 10 (st' := (6, [(2, .int 8192), (1, .int ((nI r) + 16384)), (3, .long (Int32.toInt64 (nI (r + 16384)))), (0, .int s)], [.int 8192], wC ov un nx dp fa cu st fi se th db cn F, 0)) rfl ?_
    rw [nI_p16384 (r)]
    show mm_W _ _ _ _ _ _ _ (6, [(2, .int 8192), (1, .int (nI (r + 16384))), (3, .long (Int32.toInt64 (nI (r + 16384)))), (0, .int s)], [.int 8192], wC ov un nx dp fa cu st fi se th db cn F, 0)
    refine mm_branch (mm_call_mono _ _) (c := (8192 : Int32) ≤ 0) (s1 := (34, [(2, .int 8192), (1, .int (nI (r + 16384))), (3, .long (Int32.toInt64 (nI (r + 16384)))), (0, .int s)], [], wC ov un nx dp fa cu st fi se th db cn F, 0)) (s2 := (9, [(2, .int 8192), (1, .int (nI (r + 16384))), (3, .long (Int32.toInt64 (nI (r + 16384)))), (0, .int s)], [], wC ov un nx dp fa cu st fi se th db cn F, 0)) rfl (fun h => absurd h (by decide)) (fun _ => ?_)
    refine mm_skip (mm_call_mono _ _) 5 (st' := (14, [(3, .long (Int32.toInt64 ((nI (r + 16384)) + 8192))), (2, .int 8192), (1, .int (nI (r + 16384))), (0, .int s)], [], wC ov un nx dp fa cu st fi se th db cn F, 0)) rfl ?_
    rw [nI_p8192 ((r + 16384))]
    show mm_W _ _ _ _ _ _ _ (14, [(3, .long (Int32.toInt64 (nI (r + 24576)))), (2, .int 8192), (1, .int (nI (r + 16384))), (0, .int s)], [], wC ov un nx dp fa cu st fi se th db cn F, 0)
    first | exact rw_13 (rw_dn (b := 16384) hI rfl ((rw_cmp (by omega)).mp g)) hQ | exact rw_13 (r := r + 16384) (rw_up (b := 16384) hI rfl (fun q => g ((rw_cmp (by omega)).mpr q))) hQ

set_option maxRecDepth 100000 in
theorem rw_15 {d : Nat} {ov un : Nat → Int32} {nx dp fa : Int32} {cu : mm_cu} {st fi se th db : Nat → Int32} {cn : Int32} {F : mm_M} {s : Int32} {Q : mm_R → mm_M → Prop} {r : Nat} (hI : rwI s r 65536) (hQ : ∀ v : Int32, rwR s v → Q (.inl (some (.int v))) (wC ov un nx dp fa cu st fi se th db cn F)) : mm_W (mm_call mm_Tb d) mp_N_rootOfWhole (mm_bt mm_Tb) 0 (some .int) 5 Q (14, [(3, .long (Int32.toInt64 (nI (r + 32768)))), (2, .int 32768), (1, .int (nI r)), (0, .int s)], [], wC ov un nx dp fa cu st fi se th db cn F, 0) := by
  have hb := hI.2.2
  refine mm_skip (mm_call_mono _ _) 6 (st' := (20, [(3, .long (Int32.toInt64 (nI (r + 32768)))), (2, .int 32768), (1, .int (nI r)), (0, .int s)], [.int (lg_cmp ((Int32.toInt64 (nI (r + 32768))) * (Int32.toInt64 (nI (r + 32768)))) (Int32.toInt64 s))], wC ov un nx dp fa cu st fi se th db cn F, 0)) rfl ?_
  refine mm_branch (mm_call_mono _ _) (c := 0 < (lg_cmp ((Int32.toInt64 (nI (r + 32768))) * (Int32.toInt64 (nI (r + 32768)))) (Int32.toInt64 s))) (s1 := (27, [(3, .long (Int32.toInt64 (nI (r + 32768)))), (2, .int 32768), (1, .int (nI r)), (0, .int s)], [], wC ov un nx dp fa cu st fi se th db cn F, 0)) (s2 := (23, [(3, .long (Int32.toInt64 (nI (r + 32768)))), (2, .int 32768), (1, .int (nI r)), (0, .int s)], [], wC ov un nx dp fa cu st fi se th db cn F, 0)) rfl (fun g => ?_) (fun g => ?_)
  · skip
    refine mm_skip (mm_call_mono _ _) 6 (st' := (6, [(2, .int 16384), (3, .long (Int32.toInt64 (nI (r + 32768)))), (1, .int (nI r)), (0, .int s)], [.int 16384], wC ov un nx dp fa cu st fi se th db cn F, 0)) rfl ?_
    refine mm_branch (mm_call_mono _ _) (c := (16384 : Int32) ≤ 0) (s1 := (34, [(2, .int 16384), (3, .long (Int32.toInt64 (nI (r + 32768)))), (1, .int (nI r)), (0, .int s)], [], wC ov un nx dp fa cu st fi se th db cn F, 0)) (s2 := (9, [(2, .int 16384), (3, .long (Int32.toInt64 (nI (r + 32768)))), (1, .int (nI r)), (0, .int s)], [], wC ov un nx dp fa cu st fi se th db cn F, 0)) rfl (fun h => absurd h (by decide)) (fun _ => ?_)
    refine mm_skip (mm_call_mono _ _) 5 (st' := (14, [(3, .long (Int32.toInt64 ((nI r) + 16384))), (2, .int 16384), (1, .int (nI r)), (0, .int s)], [], wC ov un nx dp fa cu st fi se th db cn F, 0)) rfl ?_
    rw [nI_p16384 (r)]
    show mm_W _ _ _ _ _ _ _ (14, [(3, .long (Int32.toInt64 (nI (r + 16384)))), (2, .int 16384), (1, .int (nI r)), (0, .int s)], [], wC ov un nx dp fa cu st fi se th db cn F, 0)
    first | exact rw_14 (rw_dn (b := 32768) hI rfl ((rw_cmp (by omega)).mp g)) hQ | exact rw_14 (r := r + 32768) (rw_up (b := 32768) hI rfl (fun q => g ((rw_cmp (by omega)).mpr q))) hQ
  · skip
    refine mm_skip (mm_call_mono _ _) 10 (st' := (6, [(2, .int 16384), (1, .int ((nI r) + 32768)), (3, .long (Int32.toInt64 (nI (r + 32768)))), (0, .int s)], [.int 16384], wC ov un nx dp fa cu st fi se th db cn F, 0)) rfl ?_
    rw [nI_p32768 (r)]
    show mm_W _ _ _ _ _ _ _ (6, [(2, .int 16384), (1, .int (nI (r + 32768))), (3, .long (Int32.toInt64 (nI (r + 32768)))), (0, .int s)], [.int 16384], wC ov un nx dp fa cu st fi se th db cn F, 0)
    refine mm_branch (mm_call_mono _ _) (c := (16384 : Int32) ≤ 0) (s1 := (34, [(2, .int 16384), (1, .int (nI (r + 32768))), (3, .long (Int32.toInt64 (nI (r + 32768)))), (0, .int s)], [], wC ov un nx dp fa cu st fi se th db cn F, 0)) (s2 := (9, [(2, .int 16384), (1, .int (nI (r + 32768))), (3, .long (Int32.toInt64 (nI (r + 32768)))), (0, .int s)], [], wC ov un nx dp fa cu st fi se th db cn F, 0)) rfl (fun h => absurd h (by decide)) (fun _ => ?_)
    refine mm_skip (mm_call_mono _ _) 5 (st' := (14, [(3, .long (Int32.toInt64 ((nI (r + 32768)) + 16384))), (2, .int 16384), (1, .int (nI (r + 32768))), (0, .int s)], [], wC ov un nx dp fa cu st fi se th db cn F, 0)) rfl ?_
    rw [nI_p16384 ((r + 32768))]
    show mm_W _ _ _ _ _ _ _ (14, [(3, .long (Int32.toInt64 (nI (r + 49152)))), (2, .int 16384), (1, .int (nI (r + 32768))), (0, .int s)], [], wC ov un nx dp fa cu st fi se th db cn F, 0)
    first | exact rw_14 (rw_dn (b := 32768) hI rfl ((rw_cmp (by omega)).mp g)) hQ | exact rw_14 (r := r + 32768) (rw_up (b := 32768) hI rfl (fun q => g ((rw_cmp (by omega)).mpr q))) hQ

theorem rw_0I (s : Int32) : rwI s 0 65536 := by
  have h := s.toInt_lt
  refine ⟨Or.inl rfl, ?_, by omega⟩
  show s.toInt < ((0 : Nat) + (65536 : Nat) : Int) * ((0 : Nat) + (65536 : Nat) : Int)
  omega
set_option maxRecDepth 100000 in
theorem ct_N_rootOfWhole {d : Nat} {ov un : Nat → Int32} {nx dp fa : Int32} {cu : mm_cu} {st fi se th db : Nat → Int32} {cn : Int32} {F : mm_M} {s : Int32} {Q : mm_R → mm_M → Prop} (hQ : ∀ v : Int32, rwR s v → Q (.inl (some (.int v))) (wC ov un nx dp fa cu st fi se th db cn F)) : mm_call mm_Tb (d + 1) 150 [.int s] (wC ov un nx dp fa cu st fi se th db cn F) Q := by
  refine mm_in mt_150 (Nat.le_of_ble_eq_true rfl) ?_
  show mm_W _ _ _ _ _ _ _ (0, [(0, .int s)], [], wC ov un nx dp fa cu st fi se th db cn F, 0)
  refine mm_skip (mm_call_mono _ _) 5 (st' := (6, [(2, .int 32768), (1, .int 0), (0, .int s)], [.int 32768], wC ov un nx dp fa cu st fi se th db cn F, 0)) rfl ?_
  refine mm_branch (mm_call_mono _ _) (c := (32768 : Int32) ≤ 0) (s1 := (34, [(2, .int 32768), (1, .int 0), (0, .int s)], [], wC ov un nx dp fa cu st fi se th db cn F, 0)) (s2 := (9, [(2, .int 32768), (1, .int 0), (0, .int s)], [], wC ov un nx dp fa cu st fi se th db cn F, 0)) rfl (fun h => absurd h (by decide)) (fun _ => ?_)
  refine mm_skip (mm_call_mono _ _) 5 (st' := (14, [(3, .long (Int32.toInt64 32768)), (2, .int 32768), (1, .int 0), (0, .int s)], [], wC ov un nx dp fa cu st fi se th db cn F, 0)) rfl ?_
  exact rw_15 (r := 0) (rw_0I s) hQ

