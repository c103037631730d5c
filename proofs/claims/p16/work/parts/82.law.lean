set_option maxRecDepth 100000 in
set_option maxHeartbeats 4000000 in
theorem law_loopB {d n : Nat} {xs : Nat → Int32} {Q : mm_R → mm_M → Prop} (hQ : ∀ M, Q (.inl (some (.int 1))) M) (hn : n ≤ 3072) (m : Nat) : ∀ {ov un : Nat → Int32} {nx dp fa : Int32} {cu : mm_cu} {st fi se th db : Nat → Int32} {cn : Int32} {s : Nat → fr} {mop moq : Nat → Int64} {mtr mdp mwi mfa mob : Int32} {mst mof : Nat → Int32} {o : Nat → Int64} {S : Nat → stp} {k i u : Nat} {b6 b5 : Int32}, cI S k ov un dp st fi se th db cn → mI S k s mdp mob mst mof → n < i + 6 * m + 6 → i ≤ 3100 → u + 4 * m ≤ 9000 → mm_W (mm_call mm_Tb (d + 20)) (mp_law n xs) (mm_bt mm_Tb) 10000 (some .boolean) 7 Q (23, [(4, .int (nI i)), (6, .int b6), (5, .int b5), (0, .ref 99), (1, .ref 0), (2, .ref 10), (3, .ref 17)], [], wC ov un nx dp fa cu st fi se th db cn (wN (PP s) (QQ s) mop moq mtr mdp mwi mfa mob mst mof (wO o)), u) := by
  induction m with
  | zero =>
    intro ov un nx dp fa cu st fi se th db cn s mop moq mtr mdp mwi mfa mob mst mof o S k i u b6 b5 hc hm h1 h2 h3
    refine mm_skip (mm_call_mono _ _) 5 (st' := (30, [(4, .int (nI i)), (6, .int b6), (5, .int b5), (0, .ref 99), (1, .ref 0), (2, .ref 10), (3, .ref 17)], [.int ((Int32.ofNat n) - 6), .int (nI i)], wC ov un nx dp fa cu st fi se th db cn (wN (PP s) (QQ s) mop moq mtr mdp mwi mfa mob mst mof (wO o)), u)) rfl ?_
    refine mm_branch (mm_call_mono _ _) (c := ((Int32.ofNat n) - 6) < (nI i)) (s1 := (1013, [(4, .int (nI i)), (6, .int b6), (5, .int b5), (0, .ref 99), (1, .ref 0), (2, .ref 10), (3, .ref 17)], [], wC ov un nx dp fa cu st fi se th db cn (wN (PP s) (QQ s) mop moq mtr mdp mwi mfa mob mst mof (wO o)), u)) (s2 := (33, [(4, .int (nI i)), (6, .int b6), (5, .int b5), (0, .ref 99), (1, .ref 0), (2, .ref 10), (3, .ref 17)], [], wC ov un nx dp fa cu st fi se th db cn (wN (PP s) (QQ s) mop moq mtr mdp mwi mfa mob mst mof (wO o)), u)) rfl (fun _ => ?_) (fun h => absurd ((lk_gt hn (by omega)).mpr (by omega)) h)
    refine mm_skip (mm_call_mono _ _) 1 (st' := (1014, [(4, .int (nI i)), (6, .int b6), (5, .int b5), (0, .ref 99), (1, .ref 0), (2, .ref 10), (3, .ref 17)], [.int 1], wC ov un nx dp fa cu st fi se th db cn (wN (PP s) (QQ s) mop moq mtr mdp mwi mfa mob mst mof (wO o)), u)) rfl ?_
    exact mm_ret (mm_call_mono _ _) (c := mm_z 1) (r := .inl (some (.int 1))) (M := wC ov un nx dp fa cu st fi se th db cn (wN (PP s) (QQ s) mop moq mtr mdp mwi mfa mob mst mof (wO o))) (u := u) rfl (by unfold mm_z; decide) (by omega) (hQ _)

  | succ m ih =>
    intro ov un nx dp fa cu st fi se th db cn s mop moq mtr mdp mwi mfa mob mst mof o S k i u b6 b5 hc hm h1 h2 h3
    obtain ⟨hk, e1, hS, hw, v, L, hR, e2⟩ := hm
    obtain ⟨v9, L9, hd9, -, -, -, e3⟩ := hc.2.2.2.2.2
    have e9 : (v9, L9) = (v, L) := Option.some.inj (hd9.symm.trans hR.1)
    cases e9
    have e4 := hc.2.1
    subst e1 e2 e3 e4
    refine mm_skip (mm_call_mono _ _) 5 (st' := (30, [(4, .int (nI i)), (6, .int b6), (5, .int b5), (0, .ref 99), (1, .ref 0), (2, .ref 10), (3, .ref 17)], [.int ((Int32.ofNat n) - 6), .int (nI i)], wC ov un nx (nI L.1) fa cu st fi se th db (nI k) (wN (PP s) (QQ s) mop moq mtr (nI L.1) mwi mfa (nI k) mst mof (wO o)), u)) rfl ?_
    refine mm_branch (mm_call_mono _ _) (c := ((Int32.ofNat n) - 6) < (nI i)) (s1 := (1013, [(4, .int (nI i)), (6, .int b6), (5, .int b5), (0, .ref 99), (1, .ref 0), (2, .ref 10), (3, .ref 17)], [], wC ov un nx (nI L.1) fa cu st fi se th db (nI k) (wN (PP s) (QQ s) mop moq mtr (nI L.1) mwi mfa (nI k) mst mof (wO o)), u)) (s2 := (33, [(4, .int (nI i)), (6, .int b6), (5, .int b5), (0, .ref 99), (1, .ref 0), (2, .ref 10), (3, .ref 17)], [], wC ov un nx (nI L.1) fa cu st fi se th db (nI k) (wN (PP s) (QQ s) mop moq mtr (nI L.1) mwi mfa (nI k) mst mof (wO o)), u)) rfl (fun g1 => ?_) (fun g1 => ?_)
    · skip
      refine mm_skip (mm_call_mono _ _) 1 (st' := (1014, [(4, .int (nI i)), (6, .int b6), (5, .int b5), (0, .ref 99), (1, .ref 0), (2, .ref 10), (3, .ref 17)], [.int 1], wC ov un nx (nI L.1) fa cu st fi se th db (nI k) (wN (PP s) (QQ s) mop moq mtr (nI L.1) mwi mfa (nI k) mst mof (wO o)), u)) rfl ?_
      exact mm_ret (mm_call_mono _ _) (c := mm_z 1) (r := .inl (some (.int 1))) (M := wC ov un nx (nI L.1) fa cu st fi se th db (nI k) (wN (PP s) (QQ s) mop moq mtr (nI L.1) mwi mfa (nI k) mst mof (wO o))) (u := u) rfl (by unfold mm_z; decide) (by omega) (hQ _)
    · have hi : i + 6 ≤ n := by have h : ¬ n < i + 6 := fun e => g1 ((lk_gt hn (by omega)).mpr e); omega
      refine mm_skip (mm_call_mono _ _) 2 (st' := (36, [(4, .int (nI i)), (6, .int b6), (5, .int b5), (0, .ref 99), (1, .ref 0), (2, .ref 10), (3, .ref 17)], [.int (nI i), .ref 99], wC ov un nx (nI L.1) fa cu st fi se th db (nI k) (wN (PP s) (QQ s) mop moq mtr (nI L.1) mwi mfa (nI k) mst mof (wO o)), u)) rfl ?_
      refine mm_need (mm_call_mono _ _) (c := vp_in (nI i) n) (s' := (37, [(4, .int (nI i)), (6, .int b6), (5, .int b5), (0, .ref 99), (1, .ref 0), (2, .ref 10), (3, .ref 17)], [.int (xs (Int32.toNatClampNeg (nI i)))], wC ov un nx (nI L.1) fa cu st fi se th db (nI k) (wN (PP s) (QQ s) mop moq mtr (nI L.1) mwi mfa (nI k) mst mof (wO o)), u)) rfl (vp_in_nI (show i < n by omega) (by omega)) ?_
      rw [nI_clamp (show i < 2 ^ 31 by omega)]
      show mm_W _ _ _ _ _ _ _ (37, [(4, .int (nI i)), (6, .int b6), (5, .int b5), (0, .ref 99), (1, .ref 0), (2, .ref 10), (3, .ref 17)], [.int (xs i)], wC ov un nx (nI L.1) fa cu st fi se th db (nI k) (wN (PP s) (QQ s) mop moq mtr (nI L.1) mwi mfa (nI k) mst mof (wO o)), u)
      refine mm_skip (mm_call_mono _ _) 2 (st' := (40, [(4, .int (nI i)), (6, .int b6), (5, .int b5), (0, .ref 99), (1, .ref 0), (2, .ref 10), (3, .ref 17)], [.int ((xs i) &&& 31)], wC ov un nx (nI L.1) fa cu st fi se th db (nI k) (wN (PP s) (QQ s) mop moq mtr (nI L.1) mwi mfa (nI k) mst mof (wO o)), u)) rfl ?_
      refine mm_switch (mm_call_mono _ _) (w := [(Int32.toInt ((xs i) &&& 31) = 0, (124, [(4, .int (nI i)), (6, .int b6), (5, .int b5), (0, .ref 99), (1, .ref 0), (2, .ref 10), (3, .ref 17)], [], wC ov un nx (nI L.1) fa cu st fi se th db (nI k) (wN (PP s) (QQ s) mop moq mtr (nI L.1) mwi mfa (nI k) mst mof (wO o)), u)), (Int32.toInt ((xs i) &&& 31) = 1, (188, [(4, .int (nI i)), (6, .int b6), (5, .int b5), (0, .ref 99), (1, .ref 0), (2, .ref 10), (3, .ref 17)], [], wC ov un nx (nI L.1) fa cu st fi se th db (nI k) (wN (PP s) (QQ s) mop moq mtr (nI L.1) mwi mfa (nI k) mst mof (wO o)), u)), (Int32.toInt ((xs i) &&& 31) = 2, (228, [(4, .int (nI i)), (6, .int b6), (5, .int b5), (0, .ref 99), (1, .ref 0), (2, .ref 10), (3, .ref 17)], [], wC ov un nx (nI L.1) fa cu st fi se th db (nI k) (wN (PP s) (QQ s) mop moq mtr (nI L.1) mwi mfa (nI k) mst mof (wO o)), u)), (Int32.toInt ((xs i) &&& 31) = 3, (280, [(4, .int (nI i)), (6, .int b6), (5, .int b5), (0, .ref 99), (1, .ref 0), (2, .ref 10), (3, .ref 17)], [], wC ov un nx (nI L.1) fa cu st fi se th db (nI k) (wN (PP s) (QQ s) mop moq mtr (nI L.1) mwi mfa (nI k) mst mof (wO o)), u)), (Int32.toInt ((xs i) &&& 31) = 4, (320, [(4, .int (nI i)), (6, .int b6), (5, .int b5), (0, .ref 99), (1, .ref 0), (2, .ref 10), (3, .ref 17)], [], wC ov un nx (nI L.1) fa cu st fi se th db (nI k) (wN (PP s) (QQ s) mop moq mtr (nI L.1) mwi mfa (nI k) mst mof (wO o)), u)), (Int32.toInt ((xs i) &&& 31) = 5, (372, [(4, .int (nI i)), (6, .int b6), (5, .int b5), (0, .ref 99), (1, .ref 0), (2, .ref 10), (3, .ref 17)], [], wC ov un nx (nI L.1) fa cu st fi se th db (nI k) (wN (PP s) (QQ s) mop moq mtr (nI L.1) mwi mfa (nI k) mst mof (wO o)), u)), (Int32.toInt ((xs i) &&& 31) = 6, (448, [(4, .int (nI i)), (6, .int b6), (5, .int b5), (0, .ref 99), (1, .ref 0), (2, .ref 10), (3, .ref 17)], [], wC ov un nx (nI L.1) fa cu st fi se th db (nI k) (wN (PP s) (QQ s) mop moq mtr (nI L.1) mwi mfa (nI k) mst mof (wO o)), u)), (Int32.toInt ((xs i) &&& 31) = 7, (461, [(4, .int (nI i)), (6, .int b6), (5, .int b5), (0, .ref 99), (1, .ref 0), (2, .ref 10), (3, .ref 17)], [], wC ov un nx (nI L.1) fa cu st fi se th db (nI k) (wN (PP s) (QQ s) mop moq mtr (nI L.1) mwi mfa (nI k) mst mof (wO o)), u)), (Int32.toInt ((xs i) &&& 31) = 8, (501, [(4, .int (nI i)), (6, .int b6), (5, .int b5), (0, .ref 99), (1, .ref 0), (2, .ref 10), (3, .ref 17)], [], wC ov un nx (nI L.1) fa cu st fi se th db (nI k) (wN (PP s) (QQ s) mop moq mtr (nI L.1) mwi mfa (nI k) mst mof (wO o)), u)), (Int32.toInt ((xs i) &&& 31) = 9, (541, [(4, .int (nI i)), (6, .int b6), (5, .int b5), (0, .ref 99), (1, .ref 0), (2, .ref 10), (3, .ref 17)], [], wC ov un nx (nI L.1) fa cu st fi se th db (nI k) (wN (PP s) (QQ s) mop moq mtr (nI L.1) mwi mfa (nI k) mst mof (wO o)), u)), (Int32.toInt ((xs i) &&& 31) = 10, (605, [(4, .int (nI i)), (6, .int b6), (5, .int b5), (0, .ref 99), (1, .ref 0), (2, .ref 10), (3, .ref 17)], [], wC ov un nx (nI L.1) fa cu st fi se th db (nI k) (wN (PP s) (QQ s) mop moq mtr (nI L.1) mwi mfa (nI k) mst mof (wO o)), u)), (Int32.toInt ((xs i) &&& 31) = 11, (645, [(4, .int (nI i)), (6, .int b6), (5, .int b5), (0, .ref 99), (1, .ref 0), (2, .ref 10), (3, .ref 17)], [], wC ov un nx (nI L.1) fa cu st fi se th db (nI k) (wN (PP s) (QQ s) mop moq mtr (nI L.1) mwi mfa (nI k) mst mof (wO o)), u)), (Int32.toInt ((xs i) &&& 31) = 12, (697, [(4, .int (nI i)), (6, .int b6), (5, .int b5), (0, .ref 99), (1, .ref 0), (2, .ref 10), (3, .ref 17)], [], wC ov un nx (nI L.1) fa cu st fi se th db (nI k) (wN (PP s) (QQ s) mop moq mtr (nI L.1) mwi mfa (nI k) mst mof (wO o)), u)), (Int32.toInt ((xs i) &&& 31) = 13, (765, [(4, .int (nI i)), (6, .int b6), (5, .int b5), (0, .ref 99), (1, .ref 0), (2, .ref 10), (3, .ref 17)], [], wC ov un nx (nI L.1) fa cu st fi se th db (nI k) (wN (PP s) (QQ s) mop moq mtr (nI L.1) mwi mfa (nI k) mst mof (wO o)), u)), (Int32.toInt ((xs i) &&& 31) = 14, (861, [(4, .int (nI i)), (6, .int b6), (5, .int b5), (0, .ref 99), (1, .ref 0), (2, .ref 10), (3, .ref 17)], [], wC ov un nx (nI L.1) fa cu st fi se th db (nI k) (wN (PP s) (QQ s) mop moq mtr (nI L.1) mwi mfa (nI k) mst mof (wO o)), u)), (Int32.toInt ((xs i) &&& 31) = 15, (957, [(4, .int (nI i)), (6, .int b6), (5, .int b5), (0, .ref 99), (1, .ref 0), (2, .ref 10), (3, .ref 17)], [], wC ov un nx (nI L.1) fa cu st fi se th db (nI k) (wN (PP s) (QQ s) mop moq mtr (nI L.1) mwi mfa (nI k) mst mof (wO o)), u)), (Int32.toInt ((xs i) &&& 31) = 16, (982, [(4, .int (nI i)), (6, .int b6), (5, .int b5), (0, .ref 99), (1, .ref 0), (2, .ref 10), (3, .ref 17)], [], wC ov un nx (nI L.1) fa cu st fi se th db (nI k) (wN (PP s) (QQ s) mop moq mtr (nI L.1) mwi mfa (nI k) mst mof (wO o)), u)), ((Int32.toInt ((xs i) &&& 31) < 0 ∨ 16 < Int32.toInt ((xs i) &&& 31)), (1007, [(4, .int (nI i)), (6, .int b6), (5, .int b5), (0, .ref 99), (1, .ref 0), (2, .ref 10), (3, .ref 17)], [], wC ov un nx (nI L.1) fa cu st fi se th db (nI k) (wN (PP s) (QQ s) mop moq mtr (nI L.1) mwi mfa (nI k) mst mof (wO o)), u))]) rfl ⟨fun hs => ?_, fun hs => ?_, fun hs => ?_, fun hs => ?_, fun hs => ?_, fun hs => ?_, fun hs => ?_, fun hs => ?_, fun hs => ?_, fun hs => ?_, fun hs => ?_, fun hs => ?_, fun hs => ?_, fun hs => ?_, fun hs => ?_, fun hs => ?_, fun hs => ?_, fun hs => ?_, trivial⟩
      · skip
        exact law_freeB hc hS hR hn hi (by omega) (fun _ _ _ _ _ _ _ _ _ _ _ _ _ _ _ _ _ _ _ _ _ _ _ _ _ u1 _ _ hc hm hu1 => ih hc hm (by omega) (by omega) (by omega))
      · skip
        exact law_lineB hc hS hR hn hi (by omega) (fun _ _ _ _ _ _ _ _ _ _ _ _ _ _ _ _ _ _ _ _ _ _ _ _ _ u1 _ _ hc hm hu1 => ih hc hm (by omega) (by omega) (by omega))
      · skip
        exact law_circleB hc hS hR hn hi (by omega) (fun _ _ _ _ _ _ _ _ _ _ _ _ _ _ _ _ _ _ _ _ _ _ _ _ _ u1 _ _ hc hm hu1 => ih hc hm (by omega) (by omega) (by omega))
      · skip
        exact law_middleB hc hS hR hn hi (by omega) (fun _ _ _ _ _ _ _ _ _ _ _ _ _ _ _ _ _ _ _ _ _ _ _ _ _ u1 _ _ hc hm hu1 => ih hc hm (by omega) (by omega) (by omega))
      · skip
        exact law_meetB hc hS hR hn hi (by omega) (fun _ _ _ _ _ _ _ _ _ _ _ _ _ _ _ _ _ _ _ _ _ _ _ _ _ u1 _ _ hc hm hu1 => ih hc hm (by omega) (by omega) (by omega))
      · skip
        exact law_moveB hc hS hR hn hi (by omega) (fun _ _ _ _ _ _ _ _ _ _ _ _ _ _ _ _ _ _ _ _ _ _ _ _ _ u1 _ _ hc hm hu1 => ih hc hm (by omega) (by omega) (by omega))
      · skip
        exact law_undoB hc hS hR hn hi (by omega) (fun _ _ _ _ _ _ _ _ _ _ _ _ _ _ _ _ _ _ _ _ _ _ _ _ _ u1 hc hm hu1 => ih hc hm (by omega) (by omega) (by omega))
      · skip
        exact law_onB hc hS hR hn hi (by omega) (fun _ _ _ _ _ _ _ _ _ _ _ _ _ _ _ _ _ _ _ _ _ _ _ _ _ u1 _ _ hc hm hu1 => ih hc hm (by omega) (by omega) (by omega))
      · skip
        exact law_sameB hc hS hR hn hi (by omega) (fun _ _ _ _ _ _ _ _ _ _ _ _ _ _ _ _ _ _ _ _ _ _ _ _ _ u1 _ _ hc hm hu1 => ih hc hm (by omega) (by omega) (by omega))
      · skip
        exact law_equalB hc hS hR hn hi (by omega) (fun _ _ _ _ _ _ _ _ _ _ _ _ _ _ _ _ _ _ _ _ _ _ _ _ _ u1 _ _ hc hm hu1 => ih hc hm (by omega) (by omega) (by omega))
      · skip
        exact law_angleB hc hS hR hn hi (by omega) (fun _ _ _ _ _ _ _ _ _ _ _ _ _ _ _ _ _ _ _ _ _ _ _ _ _ u1 _ _ hc hm hu1 => ih hc hm (by omega) (by omega) (by omega))
      · skip
        exact law_sideB hc hS hR hn hi (by omega) (fun _ _ _ _ _ _ _ _ _ _ _ _ _ _ _ _ _ _ _ _ _ _ _ _ _ u1 _ _ hc hm hu1 => ih hc hm (by omega) (by omega) (by omega))
      · skip
        exact law_signB hc hS hR hn hi (by omega) (fun _ _ _ _ _ _ _ _ _ _ _ _ _ _ _ _ _ _ _ _ _ _ _ _ _ u1 _ _ hc hm hu1 => ih hc hm (by omega) (by omega) (by omega))
      · skip
        exact law_partB hc hS hR hn hi (by omega) (fun _ _ _ _ _ _ _ _ _ _ _ _ _ _ _ _ _ _ _ _ _ _ _ _ _ u1 _ _ hc hm hu1 => ih hc hm (by omega) (by omega) (by omega))
      · skip
        by_cases hx : ¬ xs (i + 1) < 1 ∧ xs (i + 1) ≤ nI L.1
        · rcases rad_of hR.2.1 hx.1 (Int32.not_lt.mpr hx.2) with ⟨q1, q2⟩ | ⟨q1, q2⟩
          · exact law_rad1B hc hS hR hn hi (by omega) q1 q2 (fun _ _ _ _ _ _ _ _ _ _ _ _ _ _ _ _ _ _ _ _ _ _ _ _ _ u1 _ _ hc hm hu1 => ih hc hm (by omega) (by omega) (by omega))
          · exact law_rad2B hc hS hR hn hi (by omega) q1 (by omega) (fun _ _ _ _ _ _ _ _ _ _ _ _ _ _ _ _ _ _ _ _ _ _ _ _ _ u1 _ _ hc hm hu1 => ih hc hm (by omega) (by omega) (by omega))
        · exact law_radXB hc hS hR hn hi (by omega) hx (fun _ _ _ _ _ _ _ _ _ _ _ _ _ _ _ _ _ _ _ _ _ _ _ _ _ u1 _ _ hc hm hu1 => ih hc hm (by omega) (by omega) (by omega))
      · skip
        exact law_kindB hc hS hR hn hi (by omega) (fun _ _ _ _ _ _ _ _ _ _ _ _ _ _ _ _ _ _ _ _ _ _ _ _ _ u1 hc hm hu1 => ih hc hm (by omega) (by omega) (by omega))
      · skip
        exact law_lookB hc hS hR hn hi (by omega) (fun _ _ _ _ _ _ _ _ _ _ _ _ _ _ _ _ _ _ _ _ _ _ _ _ _ u1 hc hm hu1 => ih hc hm (by omega) (by omega) (by omega))
      · skip
        exact law_dfltB hc hS hR hn hi (by omega) (fun _ _ _ _ _ _ _ _ _ _ _ _ _ _ _ _ _ _ _ _ _ _ _ _ _ u1 hc hm hu1 => ih hc hm (by omega) (by omega) (by omega))

set_option maxRecDepth 100000 in
set_option maxHeartbeats 4000000 in
theorem law_loopA {d n : Nat} {xs : Nat → Int32} {Q : mm_R → mm_M → Prop} (hQ : ∀ M, Q (.inl (some (.int 1))) M) (hn : n ≤ 3072) (m : Nat) : ∀ {ov un : Nat → Int32} {nx dp fa : Int32} {cu : mm_cu} {st fi se th db : Nat → Int32} {cn : Int32} {s : Nat → fr} {mop moq : Nat → Int64} {mtr mdp mwi mfa mob : Int32} {mst mof : Nat → Int32} {o : Nat → Int64} {S : Nat → stp} {k i u : Nat}, cI S k ov un dp st fi se th db cn → mI S k s mdp mob mst mof → n < i + 6 * m + 6 → i ≤ 3100 → u + 4 * m ≤ 9000 → mm_W (mm_call mm_Tb (d + 20)) (mp_law n xs) (mm_bt mm_Tb) 10000 (some .boolean) 7 Q (23, [(4, .int (nI i)), (0, .ref 99), (1, .ref 0), (2, .ref 10), (3, .ref 17)], [], wC ov un nx dp fa cu st fi se th db cn (wN (PP s) (QQ s) mop moq mtr mdp mwi mfa mob mst mof (wO o)), u) := by
  induction m with
  | zero =>
    intro ov un nx dp fa cu st fi se th db cn s mop moq mtr mdp mwi mfa mob mst mof o S k i u hc hm h1 h2 h3
    refine mm_skip (mm_call_mono _ _) 5 (st' := (30, [(4, .int (nI i)), (0, .ref 99), (1, .ref 0), (2, .ref 10), (3, .ref 17)], [.int ((Int32.ofNat n) - 6), .int (nI i)], wC ov un nx dp fa cu st fi se th db cn (wN (PP s) (QQ s) mop moq mtr mdp mwi mfa mob mst mof (wO o)), u)) rfl ?_
    refine mm_branch (mm_call_mono _ _) (c := ((Int32.ofNat n) - 6) < (nI i)) (s1 := (1013, [(4, .int (nI i)), (0, .ref 99), (1, .ref 0), (2, .ref 10), (3, .ref 17)], [], wC ov un nx dp fa cu st fi se th db cn (wN (PP s) (QQ s) mop moq mtr mdp mwi mfa mob mst mof (wO o)), u)) (s2 := (33, [(4, .int (nI i)), (0, .ref 99), (1, .ref 0), (2, .ref 10), (3, .ref 17)], [], wC ov un nx dp fa cu st fi se th db cn (wN (PP s) (QQ s) mop moq mtr mdp mwi mfa mob mst mof (wO o)), u)) rfl (fun _ => ?_) (fun h => absurd ((lk_gt hn (by omega)).mpr (by omega)) h)
    refine mm_skip (mm_call_mono _ _) 1 (st' := (1014, [(4, .int (nI i)), (0, .ref 99), (1, .ref 0), (2, .ref 10), (3, .ref 17)], [.int 1], wC ov un nx dp fa cu st fi se th db cn (wN (PP s) (QQ s) mop moq mtr mdp mwi mfa mob mst mof (wO o)), u)) rfl ?_
    exact mm_ret (mm_call_mono _ _) (c := mm_z 1) (r := .inl (some (.int 1))) (M := wC ov un nx dp fa cu st fi se th db cn (wN (PP s) (QQ s) mop moq mtr mdp mwi mfa mob mst mof (wO o))) (u := u) rfl (by unfold mm_z; decide) (by omega) (hQ _)

  | succ m ih =>
    intro ov un nx dp fa cu st fi se th db cn s mop moq mtr mdp mwi mfa mob mst mof o S k i u hc hm h1 h2 h3
    obtain ⟨hk, e1, hS, hw, v, L, hR, e2⟩ := hm
    obtain ⟨v9, L9, hd9, -, -, -, e3⟩ := hc.2.2.2.2.2
    have e9 : (v9, L9) = (v, L) := Option.some.inj (hd9.symm.trans hR.1)
    cases e9
    have e4 := hc.2.1
    subst e1 e2 e3 e4
    refine mm_skip (mm_call_mono _ _) 5 (st' := (30, [(4, .int (nI i)), (0, .ref 99), (1, .ref 0), (2, .ref 10), (3, .ref 17)], [.int ((Int32.ofNat n) - 6), .int (nI i)], wC ov un nx (nI L.1) fa cu st fi se th db (nI k) (wN (PP s) (QQ s) mop moq mtr (nI L.1) mwi mfa (nI k) mst mof (wO o)), u)) rfl ?_
    refine mm_branch (mm_call_mono _ _) (c := ((Int32.ofNat n) - 6) < (nI i)) (s1 := (1013, [(4, .int (nI i)), (0, .ref 99), (1, .ref 0), (2, .ref 10), (3, .ref 17)], [], wC ov un nx (nI L.1) fa cu st fi se th db (nI k) (wN (PP s) (QQ s) mop moq mtr (nI L.1) mwi mfa (nI k) mst mof (wO o)), u)) (s2 := (33, [(4, .int (nI i)), (0, .ref 99), (1, .ref 0), (2, .ref 10), (3, .ref 17)], [], wC ov un nx (nI L.1) fa cu st fi se th db (nI k) (wN (PP s) (QQ s) mop moq mtr (nI L.1) mwi mfa (nI k) mst mof (wO o)), u)) rfl (fun g1 => ?_) (fun g1 => ?_)
    · skip
      refine mm_skip (mm_call_mono _ _) 1 (st' := (1014, [(4, .int (nI i)), (0, .ref 99), (1, .ref 0), (2, .ref 10), (3, .ref 17)], [.int 1], wC ov un nx (nI L.1) fa cu st fi se th db (nI k) (wN (PP s) (QQ s) mop moq mtr (nI L.1) mwi mfa (nI k) mst mof (wO o)), u)) rfl ?_
      exact mm_ret (mm_call_mono _ _) (c := mm_z 1) (r := .inl (some (.int 1))) (M := wC ov un nx (nI L.1) fa cu st fi se th db (nI k) (wN (PP s) (QQ s) mop moq mtr (nI L.1) mwi mfa (nI k) mst mof (wO o))) (u := u) rfl (by unfold mm_z; decide) (by omega) (hQ _)
    · have hi : i + 6 ≤ n := by have h : ¬ n < i + 6 := fun e => g1 ((lk_gt hn (by omega)).mpr e); omega
      refine mm_skip (mm_call_mono _ _) 2 (st' := (36, [(4, .int (nI i)), (0, .ref 99), (1, .ref 0), (2, .ref 10), (3, .ref 17)], [.int (nI i), .ref 99], wC ov un nx (nI L.1) fa cu st fi se th db (nI k) (wN (PP s) (QQ s) mop moq mtr (nI L.1) mwi mfa (nI k) mst mof (wO o)), u)) rfl ?_
      refine mm_need (mm_call_mono _ _) (c := vp_in (nI i) n) (s' := (37, [(4, .int (nI i)), (0, .ref 99), (1, .ref 0), (2, .ref 10), (3, .ref 17)], [.int (xs (Int32.toNatClampNeg (nI i)))], wC ov un nx (nI L.1) fa cu st fi se th db (nI k) (wN (PP s) (QQ s) mop moq mtr (nI L.1) mwi mfa (nI k) mst mof (wO o)), u)) rfl (vp_in_nI (show i < n by omega) (by omega)) ?_
      rw [nI_clamp (show i < 2 ^ 31 by omega)]
      show mm_W _ _ _ _ _ _ _ (37, [(4, .int (nI i)), (0, .ref 99), (1, .ref 0), (2, .ref 10), (3, .ref 17)], [.int (xs i)], wC ov un nx (nI L.1) fa cu st fi se th db (nI k) (wN (PP s) (QQ s) mop moq mtr (nI L.1) mwi mfa (nI k) mst mof (wO o)), u)
      refine mm_skip (mm_call_mono _ _) 2 (st' := (40, [(4, .int (nI i)), (0, .ref 99), (1, .ref 0), (2, .ref 10), (3, .ref 17)], [.int ((xs i) &&& 31)], wC ov un nx (nI L.1) fa cu st fi se th db (nI k) (wN (PP s) (QQ s) mop moq mtr (nI L.1) mwi mfa (nI k) mst mof (wO o)), u)) rfl ?_
      refine mm_switch (mm_call_mono _ _) (w := [(Int32.toInt ((xs i) &&& 31) = 0, (124, [(4, .int (nI i)), (0, .ref 99), (1, .ref 0), (2, .ref 10), (3, .ref 17)], [], wC ov un nx (nI L.1) fa cu st fi se th db (nI k) (wN (PP s) (QQ s) mop moq mtr (nI L.1) mwi mfa (nI k) mst mof (wO o)), u)), (Int32.toInt ((xs i) &&& 31) = 1, (188, [(4, .int (nI i)), (0, .ref 99), (1, .ref 0), (2, .ref 10), (3, .ref 17)], [], wC ov un nx (nI L.1) fa cu st fi se th db (nI k) (wN (PP s) (QQ s) mop moq mtr (nI L.1) mwi mfa (nI k) mst mof (wO o)), u)), (Int32.toInt ((xs i) &&& 31) = 2, (228, [(4, .int (nI i)), (0, .ref 99), (1, .ref 0), (2, .ref 10), (3, .ref 17)], [], wC ov un nx (nI L.1) fa cu st fi se th db (nI k) (wN (PP s) (QQ s) mop moq mtr (nI L.1) mwi mfa (nI k) mst mof (wO o)), u)), (Int32.toInt ((xs i) &&& 31) = 3, (280, [(4, .int (nI i)), (0, .ref 99), (1, .ref 0), (2, .ref 10), (3, .ref 17)], [], wC ov un nx (nI L.1) fa cu st fi se th db (nI k) (wN (PP s) (QQ s) mop moq mtr (nI L.1) mwi mfa (nI k) mst mof (wO o)), u)), (Int32.toInt ((xs i) &&& 31) = 4, (320, [(4, .int (nI i)), (0, .ref 99), (1, .ref 0), (2, .ref 10), (3, .ref 17)], [], wC ov un nx (nI L.1) fa cu st fi se th db (nI k) (wN (PP s) (QQ s) mop moq mtr (nI L.1) mwi mfa (nI k) mst mof (wO o)), u)), (Int32.toInt ((xs i) &&& 31) = 5, (372, [(4, .int (nI i)), (0, .ref 99), (1, .ref 0), (2, .ref 10), (3, .ref 17)], [], wC ov un nx (nI L.1) fa cu st fi se th db (nI k) (wN (PP s) (QQ s) mop moq mtr (nI L.1) mwi mfa (nI k) mst mof (wO o)), u)), (Int32.toInt ((xs i) &&& 31) = 6, (448, [(4, .int (nI i)), (0, .ref 99), (1, .ref 0), (2, .ref 10), (3, .ref 17)], [], wC ov un nx (nI L.1) fa cu st fi se th db (nI k) (wN (PP s) (QQ s) mop moq mtr (nI L.1) mwi mfa (nI k) mst mof (wO o)), u)), (Int32.toInt ((xs i) &&& 31) = 7, (461, [(4, .int (nI i)), (0, .ref 99), (1, .ref 0), (2, .ref 10), (3, .ref 17)], [], wC ov un nx (nI L.1) fa cu st fi se th db (nI k) (wN (PP s) (QQ s) mop moq mtr (nI L.1) mwi mfa (nI k) mst mof (wO o)), u)), (Int32.toInt ((xs i) &&& 31) = 8, (501, [(4, .int (nI i)), (0, .ref 99), (1, .ref 0), (2, .ref 10), (3, .ref 17)], [], wC ov un nx (nI L.1) fa cu st fi se th db (nI k) (wN (PP s) (QQ s) mop moq mtr (nI L.1) mwi mfa (nI k) mst mof (wO o)), u)), (Int32.toInt ((xs i) &&& 31) = 9, (541, [(4, .int (nI i)), (0, .ref 99), (1, .ref 0), (2, .ref 10), (3, .ref 17)], [], wC ov un nx (nI L.1) fa cu st fi se th db (nI k) (wN (PP s) (QQ s) mop moq mtr (nI L.1) mwi mfa (nI k) mst mof (wO o)), u)), (Int32.toInt ((xs i) &&& 31) = 10, (605, [(4, .int (nI i)), (0, .ref 99), (1, .ref 0), (2, .ref 10), (3, .ref 17)], [], wC ov un nx (nI L.1) fa cu st fi se th db (nI k) (wN (PP s) (QQ s) mop moq mtr (nI L.1) mwi mfa (nI k) mst mof (wO o)), u)), (Int32.toInt ((xs i) &&& 31) = 11, (645, [(4, .int (nI i)), (0, .ref 99), (1, .ref 0), (2, .ref 10), (3, .ref 17)], [], wC ov un nx (nI L.1) fa cu st fi se th db (nI k) (wN (PP s) (QQ s) mop moq mtr (nI L.1) mwi mfa (nI k) mst mof (wO o)), u)), (Int32.toInt ((xs i) &&& 31) = 12, (697, [(4, .int (nI i)), (0, .ref 99), (1, .ref 0), (2, .ref 10), (3, .ref 17)], [], wC ov un nx (nI L.1) fa cu st fi se th db (nI k) (wN (PP s) (QQ s) mop moq mtr (nI L.1) mwi mfa (nI k) mst mof (wO o)), u)), (Int32.toInt ((xs i) &&& 31) = 13, (765, [(4, .int (nI i)), (0, .ref 99), (1, .ref 0), (2, .ref 10), (3, .ref 17)], [], wC ov un nx (nI L.1) fa cu st fi se th db (nI k) (wN (PP s) (QQ s) mop moq mtr (nI L.1) mwi mfa (nI k) mst mof (wO o)), u)), (Int32.toInt ((xs i) &&& 31) = 14, (861, [(4, .int (nI i)), (0, .ref 99), (1, .ref 0), (2, .ref 10), (3, .ref 17)], [], wC ov un nx (nI L.1) fa cu st fi se th db (nI k) (wN (PP s) (QQ s) mop moq mtr (nI L.1) mwi mfa (nI k) mst mof (wO o)), u)), (Int32.toInt ((xs i) &&& 31) = 15, (957, [(4, .int (nI i)), (0, .ref 99), (1, .ref 0), (2, .ref 10), (3, .ref 17)], [], wC ov un nx (nI L.1) fa cu st fi se th db (nI k) (wN (PP s) (QQ s) mop moq mtr (nI L.1) mwi mfa (nI k) mst mof (wO o)), u)), (Int32.toInt ((xs i) &&& 31) = 16, (982, [(4, .int (nI i)), (0, .ref 99), (1, .ref 0), (2, .ref 10), (3, .ref 17)], [], wC ov un nx (nI L.1) fa cu st fi se th db (nI k) (wN (PP s) (QQ s) mop moq mtr (nI L.1) mwi mfa (nI k) mst mof (wO o)), u)), ((Int32.toInt ((xs i) &&& 31) < 0 ∨ 16 < Int32.toInt ((xs i) &&& 31)), (1007, [(4, .int (nI i)), (0, .ref 99), (1, .ref 0), (2, .ref 10), (3, .ref 17)], [], wC ov un nx (nI L.1) fa cu st fi se th db (nI k) (wN (PP s) (QQ s) mop moq mtr (nI L.1) mwi mfa (nI k) mst mof (wO o)), u))]) rfl ⟨fun hs => ?_, fun hs => ?_, fun hs => ?_, fun hs => ?_, fun hs => ?_, fun hs => ?_, fun hs => ?_, fun hs => ?_, fun hs => ?_, fun hs => ?_, fun hs => ?_, fun hs => ?_, fun hs => ?_, fun hs => ?_, fun hs => ?_, fun hs => ?_, fun hs => ?_, fun hs => ?_, trivial⟩
      · skip
        exact law_freeA hc hS hR hn hi (by omega) (fun _ _ _ _ _ _ _ _ _ _ _ _ _ _ _ _ _ _ _ _ _ _ _ _ _ u1 _ _ hc hm hu1 => law_loopB hQ hn m hc hm (by omega) (by omega) (by omega))
      · skip
        exact law_lineA hc hS hR hn hi (by omega) (fun _ _ _ _ _ _ _ _ _ _ _ _ _ _ _ _ _ _ _ _ _ _ _ _ _ u1 _ _ hc hm hu1 => law_loopB hQ hn m hc hm (by omega) (by omega) (by omega))
      · skip
        exact law_circleA hc hS hR hn hi (by omega) (fun _ _ _ _ _ _ _ _ _ _ _ _ _ _ _ _ _ _ _ _ _ _ _ _ _ u1 _ _ hc hm hu1 => law_loopB hQ hn m hc hm (by omega) (by omega) (by omega))
      · skip
        exact law_middleA hc hS hR hn hi (by omega) (fun _ _ _ _ _ _ _ _ _ _ _ _ _ _ _ _ _ _ _ _ _ _ _ _ _ u1 _ _ hc hm hu1 => law_loopB hQ hn m hc hm (by omega) (by omega) (by omega))
      · skip
        exact law_meetA hc hS hR hn hi (by omega) (fun _ _ _ _ _ _ _ _ _ _ _ _ _ _ _ _ _ _ _ _ _ _ _ _ _ u1 _ _ hc hm hu1 => law_loopB hQ hn m hc hm (by omega) (by omega) (by omega))
      · skip
        exact law_moveA hc hS hR hn hi (by omega) (fun _ _ _ _ _ _ _ _ _ _ _ _ _ _ _ _ _ _ _ _ _ _ _ _ _ u1 _ _ hc hm hu1 => law_loopB hQ hn m hc hm (by omega) (by omega) (by omega))
      · skip
        exact law_undoA hc hS hR hn hi (by omega) (fun _ _ _ _ _ _ _ _ _ _ _ _ _ _ _ _ _ _ _ _ _ _ _ _ _ u1 hc hm hu1 => ih hc hm (by omega) (by omega) (by omega))
      · skip
        exact law_onA hc hS hR hn hi (by omega) (fun _ _ _ _ _ _ _ _ _ _ _ _ _ _ _ _ _ _ _ _ _ _ _ _ _ u1 _ _ hc hm hu1 => law_loopB hQ hn m hc hm (by omega) (by omega) (by omega))
      · skip
        exact law_sameA hc hS hR hn hi (by omega) (fun _ _ _ _ _ _ _ _ _ _ _ _ _ _ _ _ _ _ _ _ _ _ _ _ _ u1 _ _ hc hm hu1 => law_loopB hQ hn m hc hm (by omega) (by omega) (by omega))
      · skip
        exact law_equalA hc hS hR hn hi (by omega) (fun _ _ _ _ _ _ _ _ _ _ _ _ _ _ _ _ _ _ _ _ _ _ _ _ _ u1 _ _ hc hm hu1 => law_loopB hQ hn m hc hm (by omega) (by omega) (by omega))
      · skip
        exact law_angleA hc hS hR hn hi (by omega) (fun _ _ _ _ _ _ _ _ _ _ _ _ _ _ _ _ _ _ _ _ _ _ _ _ _ u1 _ _ hc hm hu1 => law_loopB hQ hn m hc hm (by omega) (by omega) (by omega))
      · skip
        exact law_sideA hc hS hR hn hi (by omega) (fun _ _ _ _ _ _ _ _ _ _ _ _ _ _ _ _ _ _ _ _ _ _ _ _ _ u1 _ _ hc hm hu1 => law_loopB hQ hn m hc hm (by omega) (by omega) (by omega))
      · skip
        exact law_signA hc hS hR hn hi (by omega) (fun _ _ _ _ _ _ _ _ _ _ _ _ _ _ _ _ _ _ _ _ _ _ _ _ _ u1 _ _ hc hm hu1 => law_loopB hQ hn m hc hm (by omega) (by omega) (by omega))
      · skip
        exact law_partA hc hS hR hn hi (by omega) (fun _ _ _ _ _ _ _ _ _ _ _ _ _ _ _ _ _ _ _ _ _ _ _ _ _ u1 _ _ hc hm hu1 => law_loopB hQ hn m hc hm (by omega) (by omega) (by omega))
      · skip
        by_cases hx : ¬ xs (i + 1) < 1 ∧ xs (i + 1) ≤ nI L.1
        · rcases rad_of hR.2.1 hx.1 (Int32.not_lt.mpr hx.2) with ⟨q1, q2⟩ | ⟨q1, q2⟩
          · exact law_rad1A hc hS hR hn hi (by omega) q1 q2 (fun _ _ _ _ _ _ _ _ _ _ _ _ _ _ _ _ _ _ _ _ _ _ _ _ _ u1 _ _ hc hm hu1 => law_loopB hQ hn m hc hm (by omega) (by omega) (by omega))
          · exact law_rad2A hc hS hR hn hi (by omega) q1 (by omega) (fun _ _ _ _ _ _ _ _ _ _ _ _ _ _ _ _ _ _ _ _ _ _ _ _ _ u1 _ _ hc hm hu1 => law_loopB hQ hn m hc hm (by omega) (by omega) (by omega))
        · exact law_radXA hc hS hR hn hi (by omega) hx (fun _ _ _ _ _ _ _ _ _ _ _ _ _ _ _ _ _ _ _ _ _ _ _ _ _ u1 _ _ hc hm hu1 => law_loopB hQ hn m hc hm (by omega) (by omega) (by omega))
      · skip
        exact law_kindA hc hS hR hn hi (by omega) (fun _ _ _ _ _ _ _ _ _ _ _ _ _ _ _ _ _ _ _ _ _ _ _ _ _ u1 hc hm hu1 => ih hc hm (by omega) (by omega) (by omega))
      · skip
        exact law_lookA hc hS hR hn hi (by omega) (fun _ _ _ _ _ _ _ _ _ _ _ _ _ _ _ _ _ _ _ _ _ _ _ _ _ u1 hc hm hu1 => ih hc hm (by omega) (by omega) (by omega))
      · skip
        exact law_dfltA hc hS hR hn hi (by omega) (fun _ _ _ _ _ _ _ _ _ _ _ _ _ _ _ _ _ _ _ _ _ _ _ _ _ u1 hc hm hu1 => ih hc hm (by omega) (by omega) (by omega))

/-- the reference's cells at its start -/
def s0 : Nat → fr := fun k => if k = 299 then (1, 2) else (0, 1)
theorem s0_p : md_p = PP s0 := by
  funext k
  show vp_updL (fun _ => 0) 299 1 k = Int64.ofInt (s0 k).1
  unfold s0
  by_cases e : k = 299
  · rw [e, pk_uLs, if_pos rfl]; rfl
  · rw [pk_uLn e, if_neg e]; rfl
theorem s0_q : md_q9 = QQ s0 := by
  funext k
  show vp_updL (md_q 480) 299 2 k = Int64.ofInt (s0 k).2
  unfold s0
  by_cases e : k = 299
  · rw [e, pk_uLs, if_pos rfl]; rfl
  · rw [pk_uLn e, if_neg e]
    unfold md_q
    rw [if_pos (by omega)]; rfl
theorem s0_V : ∀ k, fv (s0 k) := fun k => by
  unfold s0
  by_cases e : k = 299
  · rw [if_pos e]; unfold fv; decide
  · rw [if_neg e]; unfold fv; decide
set_option maxRecDepth 100000 in
/-- the law's body, from its start -/
theorem law_all {d n : Nat} {xs : Nat → Int32} {Q : mm_R → mm_M → Prop} (hQ : ∀ M, Q (.inl (some (.int 1))) M) (hn : n ≤ 3072) : mm_W (mm_call mm_Tb (d + 20)) (mp_law n xs) (mm_bt mm_Tb) 10000 (some .boolean) 7 Q (20, [(0, .ref 99), (1, .ref 0), (2, .ref 10), (3, .ref 17)], [], wP (wCp (fun _ => 0) (fun _ => 0) 0 0 0 (0, 0, 0, 0, 0, 0, 0) (fun _ => 0) (fun _ => 0) (fun _ => 0) (fun _ => 0) (fun _ => 0) 0) (wQ (wNp md_p md_q9 (fun _ => 0) (fun _ => 0) 0 0 0 0 0 (fun _ => 0) (fun _ => 0)) (wO (fun _ => 0))), 1000) := by
  rw [s0_p, s0_q]
  show mm_W _ _ _ _ _ _ _ (20, [(0, .ref 99), (1, .ref 0), (2, .ref 10), (3, .ref 17)], [], wC (fun _ => 0) (fun _ => 0) 0 0 0 (0, 0, 0, 0, 0, 0, 0) (fun _ => 0) (fun _ => 0) (fun _ => 0) (fun _ => 0) (fun _ => 0) 0 (wN (PP s0) (QQ s0) (fun _ => 0) (fun _ => 0) 0 0 0 0 0 (fun _ => 0) (fun _ => 0) (wO (fun _ => 0))), 1000)
  have hc : cI (fun _ => (0, 0, 0, 0, 0, 0, z0, z0)) 0 (fun _ => 0) (fun _ => 0) 0 (fun _ => 0) (fun _ => 0) (fun _ => 0) (fun _ => 0) (fun _ => 0) 0 := ⟨by decide, rfl, fun i hi => absurd hi (Nat.not_lt_zero i), fun i hi => absurd hi (Nat.not_lt_zero i), fun i hi => by rw [show i = 0 by omega]; rfl, _, (0, zz, zz), rfl, (by decide : 0 ≤ 2), ⟨fun q => absurd (show 1 ≤ 0 from q) (by decide), fun q => absurd (show 2 ≤ 0 from q) (by decide)⟩, fun i hi => absurd hi (Nat.not_lt_zero i), rfl⟩
  have hm : mI (fun _ => (0, 0, 0, 0, 0, 0, z0, z0)) 0 s0 0 0 (fun _ => 0) (fun _ => 0) := ⟨by decide, rfl, fun i hi => absurd hi (Nat.not_lt_zero i), fun i hi => absurd hi (Nat.not_lt_zero i), _, (0, zz, zz), rI_0 s0_V rfl, rfl⟩
  refine mm_skip (mm_call_mono _ _) 2 (st' := (23, [(4, .int 0), (0, .ref 99), (1, .ref 0), (2, .ref 10), (3, .ref 17)], [], wC (fun _ => 0) (fun _ => 0) 0 0 0 (0, 0, 0, 0, 0, 0, 0) (fun _ => 0) (fun _ => 0) (fun _ => 0) (fun _ => 0) (fun _ => 0) 0 (wN (PP s0) (QQ s0) (fun _ => 0) (fun _ => 0) 0 0 0 0 0 (fun _ => 0) (fun _ => 0) (wO (fun _ => 0))), 1000)) rfl ?_
  exact law_loopA hQ hn 520 (i := 0) hc hm (by omega) (by omega) (by omega)

