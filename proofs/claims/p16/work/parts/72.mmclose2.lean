set_option maxHeartbeats 4000000 in
set_option maxRecDepth 100000 in
/-- one step of the small machine is a stretch of the machine's -/
theorem mm_close {p : Program} {l : Launch} {e : Env} {s : State} {m : MethodId} {args : Array Value} {below : List Frame} {meth : Method} {c : Code} {D : va_G} {cl : List vw_C} {ad aC : Nat → Nat} {A : Nat → Prop} {Z : mm_Sx} {G : List Cond} {T : List mm_T} {own : String} {cc : ByteArray} {nL b d : Nat} {ret : Option FieldType} {P : mm_P} {K : mm_K} {Q : mm_R → mm_M → Prop} {QQ : State → Prop} {R : Room}
    (hR : mm_rm R d b) (C : mm_Cx Z p s m args meth c D cl ad aC A G own cc nL ret (mm_hs P) (mm_fz P)) (ok : mm_ok Z G cl T own cc nL P)
    (hthr : ∀ pc E, mm_lk P.2.2.2.2.1 pc = some E → ∀ L M u, u + 1 ≤ b → Q (.inr E) M → mm_X p l e (R) s m args below meth c D cl ad aC A nL QQ (pc, L, [], M, u))
    (hrt : ∀ (r : Option Value) (M : mm_M) (u : Nat), u ≤ b → Q (.inl r) M → ∀ (i : Instr) (pc : Nat), decode cc pc = .ok (i, 1) → (∀ x, r = some (.int x) → i = .ireturn ∧ (ret = some .int ∨ (ret = some .boolean ∧ mm_z x))) → (∀ x, r = some (.long x) → i = .lreturn ∧ ret = some .long) → (r = none → i = .return_ ∧ ret = none) → (∀ v, r = some v → (∃ x, v = .int x) ∨ ∃ x, v = .long x) → ∀ L, mm_X p l e (R) s m args below meth c D cl ad aC A nL QQ (pc, L, r.toList, M, u))
    (hcl : ∀ (k j n ci : Nat), mm_lk P.2.2.2.1 k = some (j, n, ci) → ci ≠ 98 → ∀ (st : Bool) (pc : Nat) (L : mm_L) (S : List Value) (M : mm_M) (u : Nat), decode cc pc = .ok (if st then .invokestatic k else .invokevirtual k, 3) → n ≤ S.length → mm_cat (S.drop n) ≤ 8 → (st = true → ci = 99) → (st = false → ci ≠ 99 ∧ ∃ a t fs, (S.take n).reverse = .ref a :: t ∧ M[a]? = some (.inr (ci, fs))) → u + mm_bt T j ≤ b →
      K j (S.take n).reverse M (mm_rs Q (mm_X p l e (R) s m args below meth c D cl ad aC A nL QQ) (fun v M' => (pc + 3, L, v.toList ++ S.drop n, M', u + mm_bt T j)) (mm_ce P pc L (u + mm_bt T j))) → mm_X p l e (R) s m args below meth c D cl ad aC A nL QQ (pc, L, S, M, u)) :
    ∀ st, mm_go K b Q (mm_X p l e (R) s m args below meth c D cl ad aC A nL QQ) (mm_next P (mm_bt T) ret nL st) → mm_X p l e (R) s m args below meth c D cl ad aC A nL QQ st := by
  intro st h
  obtain ⟨pc, L, S, M, u⟩ := st
  obtain ⟨hx, hb, hml, hown, hts, hr, hlk, htab, hK0, hA, hnest, hfz⟩ := C
  obtain ⟨okc, okf, okk, okm, okh, -⟩ := ok
  unfold mm_next at h
  dsimp only at h
  split at h
  · exact h.elim
  next i hc =>
  obtain ⟨i, len⟩ := i
  obtain ⟨hd, hlen⟩ := okc _ (mm_lk_mem hc)
  dsimp only at hd hlen h
  cases i with
  | iconst n =>
    obtain rfl := mm_l hlen (n := 0) rfl
    intro ls H locs hl hP hD hS
    exact lv_iconst hx hb hd rfl (h ls H locs hl hP hD hS)
  | lconst n =>
    obtain rfl := mm_l hlen (n := 0) rfl
    intro ls H locs hl hP hD hS
    exact lv_lconst hx hb hd rfl (h ls H locs hl hP hD hS)
  | bipush n =>
    obtain rfl := mm_l hlen (n := 1) rfl
    intro ls H locs hl hP hD hS
    exact lv_bipush hx hb hd rfl (h ls H locs hl hP hD hS)
  | sipush n =>
    obtain rfl := mm_l hlen (n := 2) rfl
    intro ls H locs hl hP hD hS
    exact lv_sipush hx hb hd rfl (h ls H locs hl hP hD hS)
  | ldc k =>
    obtain rfl := mm_l hlen (n := 1) rfl
    unfold mm_do at h
    dsimp only at h
    split at h
    · next x hk =>
      have hw := okk _ (mm_lk_mem hk)
      intro ls H locs hl hP hD hS
      exact lv_ldc hx hb hown (hts _ hw) hd (h ls H locs hl hP hD hS)
    · exact h.elim
  | ldc2_w k =>
    obtain rfl := mm_l hlen (n := 2) rfl
    unfold mm_do at h
    dsimp only at h
    split at h
    · next x hk =>
      have hw := okk _ (mm_lk_mem hk)
      intro ls H locs hl hP hD hS
      exact lv_ldc2 hx hb hown (hts _ hw) hd (h ls H locs hl hP hD hS)
    · exact h.elim
  | iload_n k =>
    obtain rfl := mm_l hlen (n := 0) rfl
    obtain ⟨x, hk, h⟩ := mm_li_inv h
    intro ls H locs hl hP hD hS
    exact lv_iload_n hx hb hd rfl (mm_lm_at hl hk) (h ls H locs hl hP hD hS)
  | iload k =>
    obtain rfl := mm_l hlen (n := 1) rfl
    obtain ⟨x, hk, h⟩ := mm_li_inv h
    intro ls H locs hl hP hD hS
    exact lv_iload hx hb hd (mm_lm_at hl hk) (h ls H locs hl hP hD hS)
  | lload_n k =>
    obtain rfl := mm_l hlen (n := 0) rfl
    obtain ⟨x, hk, h⟩ := mm_ll_inv h
    intro ls H locs hl hP hD hS
    exact lv_lload_n hx hb hd rfl (mm_lm_at hl hk) (h ls H locs hl hP hD hS)
  | lload k =>
    obtain rfl := mm_l hlen (n := 1) rfl
    obtain ⟨x, hk, h⟩ := mm_ll_inv h
    intro ls H locs hl hP hD hS
    exact lv_lload hx hb hd (mm_lm_at hl hk) (h ls H locs hl hP hD hS)
  | aload_n k =>
    obtain rfl := mm_l hlen (n := 0) rfl
    obtain ⟨x, hk, h⟩ := mm_la_inv h
    intro ls H locs hl hP hD hS
    exact lv_aload_n hx hb hd rfl (mm_lm_at hl hk) (h ls H locs hl hP hD hS)
  | aload k =>
    obtain rfl := mm_l hlen (n := 1) rfl
    obtain ⟨x, hk, h⟩ := mm_la_inv h
    intro ls H locs hl hP hD hS
    exact lv_aload hx hb hd (mm_lm_at hl hk) (h ls H locs hl hP hD hS)
  | istore_n k =>
    obtain rfl := mm_l hlen (n := 0) rfl
    obtain ⟨x, r, rfl, h⟩ := mm_i1_inv h
    obtain ⟨hn, h⟩ := mm_cond_inv h
    have hn := Nat.le_of_ble_eq_true hn
    intro ls H locs hl hP hD hS
    exact lv_istore_n hx hb hd rfl hl hn (mm_s1_map ad L _ (.int x)) (fun ls' hl' => h ls' H locs hl' hP hD hS)
  | istore k =>
    obtain rfl := mm_l hlen (n := 1) rfl
    obtain ⟨x, r, rfl, h⟩ := mm_i1_inv h
    obtain ⟨hn, h⟩ := mm_cond_inv h
    have hn := Nat.le_of_ble_eq_true hn
    intro ls H locs hl hP hD hS
    exact lv_istore hx hb hd hl hn (mm_s1_map ad L _ (.int x)) (fun ls' hl' => h ls' H locs hl' hP hD hS)
  | lstore_n k =>
    obtain rfl := mm_l hlen (n := 0) rfl
    obtain ⟨x, r, rfl, h⟩ := mm_l1_inv h
    obtain ⟨hn, h⟩ := mm_cond_inv h
    have hn := Nat.le_of_ble_eq_true hn
    intro ls H locs hl hP hD hS
    exact lv_lstore_n hx hb hd rfl hl hn (mm_s2_map ad L _ (.long x)) (fun ls' hl' => h ls' H locs hl' hP hD hS)
  | lstore k =>
    obtain rfl := mm_l hlen (n := 1) rfl
    obtain ⟨x, r, rfl, h⟩ := mm_l1_inv h
    obtain ⟨hn, h⟩ := mm_cond_inv h
    have hn := Nat.le_of_ble_eq_true hn
    intro ls H locs hl hP hD hS
    exact lv_lstore hx hb hd hl hn (mm_s2_map ad L _ (.long x)) (fun ls' hl' => h ls' H locs hl' hP hD hS)
  | iinc k n =>
    obtain rfl := mm_l hlen (n := 2) rfl
    obtain ⟨x, hk, h⟩ := mm_li_inv h
    obtain ⟨hn, h⟩ := mm_cond_inv h
    have hn := Nat.le_of_ble_eq_true hn
    intro ls H locs hl hP hD hS
    obtain ⟨z, hz⟩ := List.getElem?_of_mem (List.mem_map.mpr ⟨(k, .int x), mm_lk_mem hk, rfl⟩ : (k, mm_v ad (.int x)) ∈ mm_lm ad L)
    exact lv_iinc hx hb hd hl hz rfl hn (mm_s1_map ad L k (.int (x + Int32.ofInt n))) (fun ls' hl' => h ls' H locs hl' hP hD hS)
  | iadd =>
    obtain rfl := mm_l hlen (n := 0) rfl
    obtain ⟨y, x, r, rfl, h⟩ := mm_i2_inv h
    intro ls H locs hl hP hD hS
    exact lv_iadd hx hb hd (h ls H locs hl hP hD hS)
  | isub =>
    obtain rfl := mm_l hlen (n := 0) rfl
    obtain ⟨y, x, r, rfl, h⟩ := mm_i2_inv h
    intro ls H locs hl hP hD hS
    exact lv_isub hx hb hd (h ls H locs hl hP hD hS)
  | imul =>
    obtain rfl := mm_l hlen (n := 0) rfl
    obtain ⟨y, x, r, rfl, h⟩ := mm_i2_inv h
    intro ls H locs hl hP hD hS
    exact lv_imul hx hb hd (h ls H locs hl hP hD hS)
  | iand =>
    obtain rfl := mm_l hlen (n := 0) rfl
    obtain ⟨y, x, r, rfl, h⟩ := mm_i2_inv h
    intro ls H locs hl hP hD hS
    exact lv_iand hx hb hd (h ls H locs hl hP hD hS)
  | ishl =>
    obtain rfl := mm_l hlen (n := 0) rfl
    obtain ⟨y, x, r, rfl, h⟩ := mm_i2_inv h
    intro ls H locs hl hP hD hS
    exact lv_ishl hx hb hd (h ls H locs hl hP hD hS)
  | ishr =>
    obtain rfl := mm_l hlen (n := 0) rfl
    obtain ⟨y, x, r, rfl, h⟩ := mm_i2_inv h
    intro ls H locs hl hP hD hS
    exact lv_ishr hx hb hd (h ls H locs hl hP hD hS)
  | ladd =>
    obtain rfl := mm_l hlen (n := 0) rfl
    obtain ⟨y, x, r, rfl, h⟩ := mm_l2_inv h
    intro ls H locs hl hP hD hS
    exact lv_ladd hx hb hd (h ls H locs hl hP hD hS)
  | lsub =>
    obtain rfl := mm_l hlen (n := 0) rfl
    obtain ⟨y, x, r, rfl, h⟩ := mm_l2_inv h
    intro ls H locs hl hP hD hS
    exact lv_lsub hx hb hd (h ls H locs hl hP hD hS)
  | lmul =>
    obtain rfl := mm_l hlen (n := 0) rfl
    obtain ⟨y, x, r, rfl, h⟩ := mm_l2_inv h
    intro ls H locs hl hP hD hS
    exact lv_lmul hx hb hd (h ls H locs hl hP hD hS)
  | lcmp =>
    obtain rfl := mm_l hlen (n := 0) rfl
    obtain ⟨y, x, r, rfl, h⟩ := mm_l2_inv h
    intro ls H locs hl hP hD hS
    exact W.lcmp hx hb hd (h ls H locs hl hP hD hS)
  | ldiv =>
    obtain rfl := mm_l hlen (n := 0) rfl
    obtain ⟨y, x, r, rfl, h⟩ := mm_l2_inv h
    obtain ⟨hne, h⟩ := h
    intro ls H locs hl hP hD hS
    exact lv_ldiv hx hb hd hne (h ls H locs hl hP hD hS)
  | lrem =>
    obtain rfl := mm_l hlen (n := 0) rfl
    obtain ⟨y, x, r, rfl, h⟩ := mm_l2_inv h
    obtain ⟨hne, h⟩ := h
    intro ls H locs hl hP hD hS
    exact lv_lrem hx hb hd hne (h ls H locs hl hP hD hS)
  | ineg =>
    obtain rfl := mm_l hlen (n := 0) rfl
    obtain ⟨x, r, rfl, h⟩ := mm_i1_inv h
    intro ls H locs hl hP hD hS
    exact lv_ineg hx hb hd (h ls H locs hl hP hD hS)
  | lneg =>
    obtain rfl := mm_l hlen (n := 0) rfl
    obtain ⟨x, r, rfl, h⟩ := mm_l1_inv h
    intro ls H locs hl hP hD hS
    exact lv_lneg hx hb hd (h ls H locs hl hP hD hS)
  | i2l =>
    obtain rfl := mm_l hlen (n := 0) rfl
    obtain ⟨x, r, rfl, h⟩ := mm_i1_inv h
    intro ls H locs hl hP hD hS
    exact lv_i2l hx hb hd rfl (h ls H locs hl hP hD hS)
  | l2i =>
    obtain rfl := mm_l hlen (n := 0) rfl
    obtain ⟨x, r, rfl, h⟩ := mm_l1_inv h
    intro ls H locs hl hP hD hS
    exact lv_l2i hx hb hd rfl (h ls H locs hl hP hD hS)
  | dup =>
    obtain rfl := mm_l hlen (n := 0) rfl
    unfold mm_do at h
    dsimp only at h
    split at h
    · intro ls H locs hl hP hD hS
      exact lv_dup hx hb hd rfl (h ls H locs hl hP hD hS)
    · intro ls H locs hl hP hD hS
      exact lv_dup hx hb hd rfl (h ls H locs hl hP hD hS)
    · exact h.elim
  | pop =>
    obtain rfl := mm_l hlen (n := 0) rfl
    obtain ⟨x, r, rfl, h⟩ := mm_i1_inv h
    intro ls H locs hl hP hD hS
    exact lv_pop hx hb hd rfl (h ls H locs hl hP hD hS)
  | ifCond k o =>
    obtain rfl := mm_l hlen (n := 2) rfl
    obtain ⟨x, r, rfl, h⟩ := mm_i1_inv h
    obtain ⟨t, ht, h⟩ := mm_bind_inv h
    have ht := mm_tg_eq ht
    intro ls H locs hl hP hD hS
    cases k with
    | eq =>
      have h := mm_bc_eq h
      exact lv_if_eq hx hb hd ht (fun z => h.1 z ls H locs hl hP hD hS) (fun z => h.2 z ls H locs hl hP hD hS)
    | ne =>
      have h := mm_bc_ne h
      exact lv_if_ne hx hb hd ht (fun z => h.1 z ls H locs hl hP hD hS) (fun z => h.2 z ls H locs hl hP hD hS)
    | lt =>
      have h := mm_bc_lt h
      exact lv_if_lt hx hb hd ht (fun z => h.1 z ls H locs hl hP hD hS) (fun z => h.2 z ls H locs hl hP hD hS)
    | ge =>
      have h := mm_bc_ge h
      exact lv_if_ge hx hb hd ht (fun z => h.1 z ls H locs hl hP hD hS) (fun z => h.2 z ls H locs hl hP hD hS)
    | gt =>
      have h := mm_bc_gt h
      exact lv_if_gt hx hb hd ht (fun z => h.1 z ls H locs hl hP hD hS) (fun z => h.2 z ls H locs hl hP hD hS)
    | le =>
      have h := mm_bc_le h
      exact lv_if_le hx hb hd ht (fun z => h.1 z ls H locs hl hP hD hS) (fun z => h.2 z ls H locs hl hP hD hS)
  | if_icmp k o =>
    obtain rfl := mm_l hlen (n := 2) rfl
    obtain ⟨y, x, r, rfl, h⟩ := mm_i2_inv h
    obtain ⟨t, ht, h⟩ := mm_bind_inv h
    have ht := mm_tg_eq ht
    intro ls H locs hl hP hD hS
    cases k with
    | eq =>
      have h := mm_bc_eq h
      exact lv_icmp_eq hx hb hd ht (fun z => h.1 z ls H locs hl hP hD hS) (fun z => h.2 z ls H locs hl hP hD hS)
    | ne =>
      have h := mm_bc_ne h
      exact lv_icmp_ne hx hb hd ht (fun z => h.1 z ls H locs hl hP hD hS) (fun z => h.2 z ls H locs hl hP hD hS)
    | lt =>
      have h := mm_bc_lt h
      exact lv_icmp_lt hx hb hd ht (fun z => h.1 z ls H locs hl hP hD hS) (fun z => h.2 z ls H locs hl hP hD hS)
    | ge =>
      have h := mm_bc_ge h
      exact lv_icmp_ge hx hb hd ht (fun z => h.1 z ls H locs hl hP hD hS) (fun z => h.2 z ls H locs hl hP hD hS)
    | gt =>
      have h := mm_bc_gt h
      exact lv_icmp_gt hx hb hd ht (fun z => h.1 z ls H locs hl hP hD hS) (fun z => h.2 z ls H locs hl hP hD hS)
    | le =>
      have h := mm_bc_le h
      exact lv_icmp_le hx hb hd ht (fun z => h.1 z ls H locs hl hP hD hS) (fun z => h.2 z ls H locs hl hP hD hS)
  | goto o =>
    obtain rfl := mm_l hlen (n := 2) rfl
    obtain ⟨t, ht, h⟩ := mm_bind_inv h
    have ht := mm_tg_eq ht
    intro ls H locs hl hP hD hS
    exact lv_goto hx hb hd ht (h ls H locs hl hP hD hS)
  | tableswitch df lo hi os =>
    obtain ⟨x, r, rfl, h⟩ := mm_i1_inv h
    obtain ⟨hsz, h⟩ := mm_cond_inv h
    have hsz : hi = lo + (os.size : Int) - 1 := of_decide_eq_true hsz
    obtain ⟨t, ht, h⟩ := mm_bind_inv h
    have ht := mm_tg_eq ht
    obtain ⟨wl, hw, h⟩ := mm_bindL_inv h
    intro ls H locs hl hP hD hS
    by_cases h1 : x.toInt < lo ∨ hi < x.toInt
    · exact lv_tableOut hx hb hd h1 ht (mm_all_last h h1 ls H locs hl hP hD hS)
    · have h2 : ¬ x.toInt < lo := fun z => h1 (Or.inl z)
      have h3 : ¬ hi < x.toInt := fun z => h1 (Or.inr z)
      have hlt : (x.toInt - lo).toNat < os.toList.length := by rw [Array.length_toList]; omega
      obtain ⟨o, ho⟩ : ∃ o, os.toList[(x.toInt - lo).toNat]? = some o := ⟨_, List.getElem?_eq_getElem hlt⟩
      obtain ⟨t2, ht2, hX⟩ := mm_tw_at hw ho (by omega) (mm_all_left h)
      exact lv_tableIn hx hb hd h2 h3 (by rw [← Array.getElem?_toList]; exact ho) (mm_tg_eq ht2) (hX ls H locs hl hP hD hS)
  | getfield k =>
    obtain rfl := mm_l hlen (n := 2) rfl
    replace h : mm_go K b Q (mm_X p l e (R) s m args below meth c D cl ad aC A nL QQ) (mm_get P k pc L S M u) := h
    unfold mm_get at h
    split at h
    · next a r =>
      split at h
      · next ci i z hf =>
        obtain ⟨fs, hM, h⟩ := mm_ob_inv h
        split at h
        · next v hv =>
          obtain ⟨C, Tt, N, ty0, hcl2, hkN, hws, hty, hnm, hlink, -, -⟩ := okf _ (mm_lk_mem hf)
          have he := mm_w_at (ad := ad) (aC := aC) hM
          have hv2 : (fs.map (mm_v ad))[i]? = some (mm_v ad v) := by rw [List.getElem?_map, hv]; rfl
          intro ls H locs hl hP hD hS
          rcases hlink with hlink | ⟨host, hlink⟩
          · exact va_get hx hb hts hws hown hK0 hP a he hcl2 i hkN (hts _ hlink) (fun _ z => z) hv2 hd (h ls H locs hl hP hD hS)
          · exact va_getN hx hb hts hws hown hK0 hP a he hcl2 i hkN (va_Nw.use rfl (hnest _ hlink)) (fun _ z => z) hv2 hd (h ls H locs hl hP hD hS)
        · exact h.elim
      · exact h.elim
    · exact h.elim
  | putfield k =>
    obtain rfl := mm_l hlen (n := 2) rfl
    replace h : mm_go K b Q (mm_X p l e (R) s m args below meth c D cl ad aC A nL QQ) (mm_put P k pc L S M u) := h
    unfold mm_put at h
    split at h
    · next x a r =>
      split at h
      · next ci i z hf =>
        obtain ⟨fs, hM, h⟩ := mm_ob_inv h
        obtain ⟨hlt, h⟩ := mm_cond_inv h
        have hlt := Nat.le_of_ble_eq_true hlt
        obtain ⟨C, Tt, N, ty0, hcl2, hkN, hws, hty, hnm, hlink, hz0, hz1⟩ := okf _ (mm_lk_mem hf)
        have he := mm_w_at (ad := ad) (aC := aC) hM
        have hlt2 : i < (fs.map (mm_v ad)).length := by rw [List.length_map]; exact hlt
        have hg : ((Tt i).2.2.2 = false ∧ ∃ ty, parseFieldDescriptor (Tt i).2.2.1 = some ty ∧ narrow ty (.int x) = .int x ∧ fits ty (.int x) = true) ∧ mm_X p l e (R) s m args below meth c D cl ad aC A nL QQ (pc + 3, L, r, M.set a (.inr (ci, fs.set i (.int x))), u) := by
          split at h
          · obtain ⟨h1, h2⟩ := hz0 rfl
            exact ⟨⟨h1, _, (hty i hkN).trans (congrArg some h2), rfl, rfl⟩, h⟩
          · obtain ⟨h1, h2⟩ := hz1 rfl
            obtain ⟨hzx, h⟩ := h
            exact ⟨⟨h1, _, (hty i hkN).trans (congrArg some h2), (mm_narZ hzx).1, (mm_narZ hzx).2⟩, h⟩
          · exact h.elim
        obtain ⟨⟨hfin, ty, hpt, hnr, hft⟩, h⟩ := hg
        intro ls H locs hl hP hD hS
        rcases hlink with hlink | ⟨host, hlink⟩
        · exact va_put hx hb hts hws ty0 hty hnm hown hK0 hP hD hS a he hcl2 i hkN (hts _ hlink) (fun _ z => z) hfin hpt hnr hft hlt2 hd (fun H1 locs1 hP1 hD1 hS1 => h ls H1 locs1 hl (by dsimp only; rw [mm_w_obj]; exact hP1) (by dsimp only; rw [mm_w_obj]; exact hD1) hS1)
        · exact va_putN hx hb hts hws ty0 hty hnm hown hK0 hP hD hS a he hcl2 i hkN (va_Nw.use rfl (hnest _ hlink)) (fun _ z => z) hfin hpt hnr hft hlt2 hd (fun H1 locs1 hP1 hD1 hS1 => h ls H1 locs1 hl (by dsimp only; rw [mm_w_obj]; exact hP1) (by dsimp only; rw [mm_w_obj]; exact hD1) hS1)
      · exact h.elim
    · exact h.elim
  | iaload =>
    obtain rfl := mm_l hlen (n := 0) rfl
    unfold mm_do at h
    dsimp only at h
    split at h
    · next x a r =>
      rcases mm_af_inv h with ⟨n, f, hM, h⟩ | ⟨n, f, hM, h⟩
      · obtain ⟨hin, h⟩ := h
        intro ls H locs hl hP hD hS
        exact va_iald hx hb hK0 hP a 0 (mm_w_at hM) rfl hin hd (h ls H locs hl hP hD hS)
      · obtain ⟨hin, h⟩ := h
        obtain ⟨hX1, hX2, hX3⟩ := hfz _ (mm_lk_mem hM)
        intro ls H locs hl hP hD hS
        exact va_sld hx hb hX1 hX2 hX3 hS hin hd (h ls H locs hl hP hD hS)
    · exact h.elim
  | laload =>
    obtain rfl := mm_l hlen (n := 0) rfl
    unfold mm_do at h
    dsimp only at h
    split at h
    · next x a r =>
      obtain ⟨n, f, hM, h⟩ := mm_al_inv h
      obtain ⟨hin, h⟩ := h
      intro ls H locs hl hP hD hS
      exact va_lald hx hb hK0 hP a 1 (mm_w_at hM) rfl hin hd (h ls H locs hl hP hD hS)
    · exact h.elim
  | iastore =>
    obtain rfl := mm_l hlen (n := 0) rfl
    unfold mm_do at h
    dsimp only at h
    split at h
    · next v x a r =>
      obtain ⟨n, f, hM, h⟩ := mm_ai_inv h
      obtain ⟨hin, h⟩ := h
      intro ls H locs hl hP hD hS
      exact va_iast hx hb hK0 hP hD hS a 0 (mm_w_at hM) rfl hin hd (fun H1 locs1 hP1 hD1 hS1 => h ls H1 locs1 hl (by dsimp only; rw [mm_w_arr]; exact hP1) (by dsimp only; rw [mm_w_arr]; exact hD1) hS1)
    · exact h.elim
  | lastore =>
    obtain rfl := mm_l hlen (n := 0) rfl
    unfold mm_do at h
    dsimp only at h
    split at h
    · next v x a r =>
      obtain ⟨n, f, hM, h⟩ := mm_al_inv h
      obtain ⟨hin, h⟩ := h
      intro ls H locs hl hP hD hS
      exact va_last hx hb hK0 hP hD hS a 1 (mm_w_at hM) rfl hin hd (fun H1 locs1 hP1 hD1 hS1 => h ls H1 locs1 hl (by dsimp only; rw [mm_w_arr]; exact hP1) (by dsimp only; rw [mm_w_arr]; exact hD1) hS1)
    · exact h.elim
  | arraylength =>
    obtain rfl := mm_l hlen (n := 0) rfl
    unfold mm_do at h
    dsimp only at h
    split at h
    · next a r =>
      rcases mm_af_inv h with ⟨n, f, hM, h⟩ | ⟨n, f, hM, h⟩
      · intro ls H locs hl hP hD hS
        exact va_alen hx hb hK0 hP a 0 (mm_w_at hM) (ty := .int) rfl rfl hd (h ls H locs hl hP hD hS)
      · obtain ⟨hX1, hX2, hX3⟩ := hfz _ (mm_lk_mem hM)
        intro ls H locs hl hP hD hS
        exact va_slen hx hb hX1 hX2 hX3 hS hd (h ls H locs hl hP hD hS)
    · exact h.elim
  | invokevirtual k =>
    obtain rfl := mm_l hlen (n := 2) rfl
    replace h : mm_go K b Q (mm_X p l e (R) s m args below meth c D cl ad aC A nL QQ) (mm_cl P (mm_bt T) false k pc L S M u) := h
    unfold mm_cl at h
    split at h
    · exact h.elim
    next j n ci hf =>
    cases h98 : Nat.beq ci 98 with
    | true =>
      rw [h98] at h
      exact h.elim
    | false =>
      rw [h98] at h
      obtain ⟨hq, h⟩ := mm_cond_inv h
      rw [Bool.and_eq_true, Bool.and_eq_true] at hq
      obtain ⟨⟨q1, q2⟩, q3⟩ := hq
      refine hcl k j n ci hf (fun z => by rw [z] at h98; cases h98) false pc L S M u hd (Nat.le_of_ble_eq_true q1) (Nat.le_of_ble_eq_true q2) ?_ ?_ h.1 h.2
      · exact fun z => by cases z
      · intro _
        have q3 : (!(Nat.beq ci 99) && match (S.take n).reverse with
          | .ref a :: _ => match M[a]? with
            | some (.inr (c, _)) => Nat.beq c ci
            | _ => false
          | _ => false) = true := q3
        rw [Bool.and_eq_true] at q3
        obtain ⟨q4, q3⟩ := q3
        refine ⟨fun e9 => (by rw [e9] at q4; cases q4), ?_⟩
        split at q3
        · next a t heq =>
          split at q3
          · next c2 fs hM =>
            have e9 := Nat.eq_of_beq_eq_true q3
            subst e9
            exact ⟨a, t, fs, heq, hM⟩
          · cases q3
        · cases q3
  | invokestatic k =>
    obtain rfl := mm_l hlen (n := 2) rfl
    replace h : mm_go K b Q (mm_X p l e (R) s m args below meth c D cl ad aC A nL QQ) (mm_cl P (mm_bt T) true k pc L S M u) := h
    unfold mm_cl at h
    split at h
    · exact h.elim
    next j n ci hf =>
    cases h98 : Nat.beq ci 98 with
    | true =>
      rw [h98] at h
      replace h : mm_go K b Q (mm_X p l e (R) s m args below meth c D cl ad aC A nL QQ) (mm_cp pc L S M u) := h
      obtain ⟨hm1, hm2, hm3, hm4⟩ := (okm _ (mm_lk_mem hf)).1 (Nat.eq_of_beq_eq_true h98)
      unfold mm_cp at h
      split at h
      · next nn dp a sp a0 r =>
        obtain ⟨n0, f, hM0, h⟩ := mm_ai_inv h
        obtain ⟨n1, g, hM1, h⟩ := mm_ai_inv h
        obtain ⟨hrm, h⟩ := mm_cond_inv h
        have hrm : mm_cat r ≤ 8 := Nat.le_of_ble_eq_true hrm
        obtain ⟨⟨g1, g2, g3, g4, g5⟩, h⟩ := h
        intro ls H locs hl hP hD hS
        exact va_copyi hx hb (hml.trans hl.1.symm) hown (hts _ hm1) (hts _ hm2) (hts _ hm3) (hts _ hm4) hK0 hP hD hS a0 a 0 0 (mm_w_at hM0) (mm_w_at hM1) rfl rfl rfl g1 g2 g3 g4 g5 (fun _ _ => rfl) (Nat.le_trans (by omega) hR.1) (by
            rw [mm_cat_map]
            have hnf : nativeFrameWords "java/lang/System" "arraycopy" 5 ≤ 200 := by decide +kernel
            refine Nat.le_trans ?_ hR.2.1
            omega) hd (fun H1 locs1 hP1 hD1 hS1 => h ls H1 locs1 hl (by dsimp only; rw [mm_w_arr]; exact hP1) (by dsimp only; rw [mm_w_arr]; exact hD1) hS1)
      · exact h.elim
    | false =>
      rw [h98] at h
      obtain ⟨hq, h⟩ := mm_cond_inv h
      rw [Bool.and_eq_true, Bool.and_eq_true] at hq
      obtain ⟨⟨q1, q2⟩, q3⟩ := hq
      refine hcl k j n ci hf (fun z => by rw [z] at h98; cases h98) true pc L S M u hd (Nat.le_of_ble_eq_true q1) (Nat.le_of_ble_eq_true q2) ?_ ?_ h.1 h.2
      · exact fun _ => Nat.eq_of_beq_eq_true q3
      · exact fun z => by cases z
  | ireturn =>
    obtain rfl := mm_l hlen (n := 0) rfl
    unfold mm_do at h
    dsimp only at h
    split at h
    · next x =>
      split at h
      · exact hrt (some (.int x)) M u h.2.1 h.2.2 .ireturn pc hd (fun y e9 => by cases e9; exact ⟨rfl, Or.inl rfl⟩) (fun y e9 => by cases e9) (fun e9 => by cases e9) (fun v e9 => by cases e9; exact Or.inl ⟨_, rfl⟩) L
      · exact hrt (some (.int x)) M u h.2.1 h.2.2 .ireturn pc hd (fun y e9 => by cases e9; exact ⟨rfl, Or.inr ⟨rfl, h.1⟩⟩) (fun y e9 => by cases e9) (fun e9 => by cases e9) (fun v e9 => by cases e9; exact Or.inl ⟨_, rfl⟩) L
      · exact h.elim
    · exact h.elim
  | lreturn =>
    obtain rfl := mm_l hlen (n := 0) rfl
    unfold mm_do at h
    dsimp only at h
    split at h
    · next x => exact hrt (some (.long x)) M u h.2.1 h.2.2 .lreturn pc hd (fun y e9 => by cases e9) (fun y e9 => by cases e9; exact ⟨rfl, rfl⟩) (fun e9 => by cases e9) (fun v e9 => by cases e9; exact Or.inr ⟨_, rfl⟩) L
    · exact h.elim
  | return_ =>
    obtain rfl := mm_l hlen (n := 0) rfl
    unfold mm_do at h
    dsimp only at h
    split at h
    · exact hrt none M u h.2.1 h.2.2 .return_ pc hd (fun y e9 => by cases e9) (fun y e9 => by cases e9) (fun _ => ⟨rfl, rfl⟩) (fun v e9 => by cases e9) L
    · exact h.elim
  | new k =>
    unfold mm_do at h
    dsimp only at h
    split at h
    · next E hE => exact hthr pc E hE L M u h.2.1 h.2.2
    · exact h.elim
  | _ => exact h.elim
