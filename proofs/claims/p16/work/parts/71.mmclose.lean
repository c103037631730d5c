section MMC
variable {p : Program} {l : Launch} {e : Env} {R : Room} {s : State} {m : MethodId} {args : Array Value} {below : List Frame} {meth : Method} {c : Code} {H : Heap} {locs : List Loc} {cells slots : Nat} {QQ : State → Prop}
variable {D : va_G} {cl : List vw_C} {ad aC : Nat → Nat} {A0 A1 : Nat → Prop} {H0 : Heap} {mc ms : Nat} {free : Addr → Prop} {a : Array Value} {pc : Nat} {ls : Array Slot} {st0 rest : List Value} {Q : mm_R → mm_M → Prop}
/-- behind a call -/
theorem mm_callrow (hr : vx_Run p l e R s m args below meth c H locs cells slots mc ms (F0 m pc ls st0) rest (mm_Qc D cl ad aC A1 Q a) (mm_XC D cl ad aC A1 Q) free) (hS : va_S A0 H0 H locs) (hA : ∀ q, q < H.size → A1 q → A0 q) (hf : ∀ q, free q → A0 q)
    (kx : ∀ (E : String) (ce : Cell) (q9 : Addr) (M : mm_M) (t : State) (H1 : Heap) (locs1 : List Loc), t.heap = H1 → s.vm.Alike t.vm → Q (.inr E) M → mm_B D cl ad aC A1 M t → H.size ≤ H1.size → (∀ q : Nat, q < H.size → ¬ A1 q → H1[q]? = H[q]?) → va_S A0 H0 H1 locs1 → H1[q9]? = some ce → ce.vm = .none → s.vm.findClass E = some ce.cls → vx_W p l e R s m args below meth c H1 locs1 (cells + mc) (slots + ms) QQ (F0 m pc ls rest) q9)
    (kk : ∀ (v : Option Value) (M : mm_M) (t : State) (H1 : Heap) (locs1 : List Loc), t.heap = H1 → s.vm.Alike t.vm → Q (.inl v) M → mm_B D cl ad aC A1 M t → H.size ≤ H1.size → (∀ q : Nat, q < H.size → ¬ A1 q → H1[q]? = H[q]?) → va_S A0 H0 H1 locs1 → W p l e R s m args below meth c H1 locs1 (cells + mc) (slots + ms) QQ (F0 m (pc + 3) ls ((v.map (mm_v ad)).toList ++ rest))) :
    W p l e R s m args below meth c H locs cells slots QQ (F0 m pc ls st0) := by
  intro T hT X
  rcases hr T hT X with ⟨v, st₀, t, T', L, h0, X', hL, e1, e2, ⟨v', M, hv, hq, hB, hF⟩, st⟩ | ⟨q, st₀, t, T', L, E, ce, h0, X', hL, e1, e2, ⟨M, hq, hB, hF⟩, hce, hcv, hcl, st⟩
  · cases hv
    obtain ⟨k1, k2, k3⟩ := vx_keep h0 e1 hS hA hf hL hF
    obtain ⟨t2, a1, b1⟩ := kk v' M t T'.heap (locs ++ L) e1.symm (by rw [← e2]; exact X'.warmed.alike) hq hB k1 k2 k3 T' rfl X'
    exact ⟨t2, st t2 a1, b1⟩
  · obtain ⟨k1, k2, k3⟩ := vx_keep h0 e1 hS hA hf hL hF
    obtain ⟨t2, a1, b1⟩ := kx E ce q M t T'.heap (locs ++ L) e1.symm (by rw [← e2]; exact X'.warmed.alike) hq hB k1 k2 k3 (by rw [e1]; exact hce) hcv hcl T' rfl X'
    exact ⟨t2, st.trans a1, b1⟩
end MMC
/-- the machine stands where the small one does, and comes to QQ -/
def mm_X (p : Program) (l : Launch) (e : Env) (R : Room) (s : State) (m : MethodId) (args : Array Value) (below : List Frame) (meth : Method) (c : Code) (D : va_G) (cl : List vw_C) (ad aC : Nat → Nat) (A : Nat → Prop) (nL : Nat) (QQ : State → Prop) (st : mm_St) : Prop :=
  ∀ (ls : Array Slot) (H : Heap) (locs : List Loc), lv_has ls nL (mm_lm ad st.2.1) → va_P D cl (mm_w ad aC 0 st.2.2.2.1) H → va_D A (mm_w ad aC 0 st.2.2.2.1) → va_S A s.heap H locs → W p l e R s m args below meth c H locs st.2.2.2.2 (6 * st.2.2.2.2) QQ (F0 m st.1 ls (st.2.2.1.map (mm_v ad)))
def mm_Cx (Z : mm_Sx) (p : Program) (s : State) (m : MethodId) (args : Array Value) (meth : Method) (c : Code) (D : va_G) (cl : List vw_C) (ad aC : Nat → Nat) (A : Nat → Prop) (G : List Cond) (own : String) (cc : ByteArray) (nL : Nat) (ret : Option FieldType) (hs : List mm_H) (fz : List (Nat × Nat × (Nat → Int32))) : Prop :=
  p.tables.exec = Jvm.exec ∧ c.code = cc ∧ c.maxLocals = nL ∧ s.vm.findClass own = some m.cls ∧ (∀ w ∈ G, w.before args s = true) ∧ meth.sig.returnType = ret ∧ meth.locks = false ∧ c.exceptionTable.toList = tableOf (mm_hh hs) ∧ va_K D cl (mm_ty aC) s ∧ (∀ q, s.heap.size ≤ q → A q) ∧ (∀ w ∈ Z.2.1, va_Nw w s) ∧ ∀ q ∈ fz, va_X (ad q.1) q.2.1 q.2.2 s s.heap ∧ ad q.1 < s.heap.size ∧ ¬ A (ad q.1)
theorem mm_l {a b n : Nat} (h : a = 0 ∨ b = a) (e : a = n + 1) : b = n + 1 := by omega
section MMI
variable {K : mm_K} {b : Nat} {Q : mm_R → mm_M → Prop} {X : mm_St → Prop}
theorem mm_i1_inv {S : List Value} {f : Int32 → List Value → Option mm_N} (h : mm_go K b Q X (mm_i1 S f)) : ∃ x r, S = .int x :: r ∧ mm_go K b Q X (f x r) := by
  unfold mm_i1 at h
  split at h
  · exact ⟨_, _, rfl, h⟩
  · exact h.elim
theorem mm_i2_inv {S : List Value} {f : Int32 → Int32 → List Value → Option mm_N} (h : mm_go K b Q X (mm_i2 S f)) : ∃ y x r, S = .int y :: .int x :: r ∧ mm_go K b Q X (f y x r) := by
  unfold mm_i2 at h
  split at h
  · exact ⟨_, _, _, rfl, h⟩
  · exact h.elim
theorem mm_l1_inv {S : List Value} {f : Int64 → List Value → Option mm_N} (h : mm_go K b Q X (mm_l1 S f)) : ∃ x r, S = .long x :: r ∧ mm_go K b Q X (f x r) := by
  unfold mm_l1 at h
  split at h
  · exact ⟨_, _, rfl, h⟩
  · exact h.elim
theorem mm_l2_inv {S : List Value} {f : Int64 → Int64 → List Value → Option mm_N} (h : mm_go K b Q X (mm_l2 S f)) : ∃ y x r, S = .long y :: .long x :: r ∧ mm_go K b Q X (f y x r) := by
  unfold mm_l2 at h
  split at h
  · exact ⟨_, _, _, rfl, h⟩
  · exact h.elim
theorem mm_li_inv {L : mm_L} {i : Nat} {f : Int32 → Option mm_N} (h : mm_go K b Q X (mm_li L i f)) : ∃ x, mm_lk L i = some (.int x) ∧ mm_go K b Q X (f x) := by
  unfold mm_li at h
  split at h
  · next hq => exact ⟨_, hq, h⟩
  · exact h.elim
theorem mm_ll_inv {L : mm_L} {i : Nat} {f : Int64 → Option mm_N} (h : mm_go K b Q X (mm_ll L i f)) : ∃ x, mm_lk L i = some (.long x) ∧ mm_go K b Q X (f x) := by
  unfold mm_ll at h
  split at h
  · next hq => exact ⟨_, hq, h⟩
  · exact h.elim
theorem mm_la_inv {L : mm_L} {i : Nat} {f : Nat → Option mm_N} (h : mm_go K b Q X (mm_la L i f)) : ∃ x, mm_lk L i = some (.ref x) ∧ mm_go K b Q X (f x) := by
  unfold mm_la at h
  split at h
  · next hq => exact ⟨_, hq, h⟩
  · exact h.elim
theorem mm_ai_inv {M : mm_M} {a : Nat} {f : Nat → (Nat → Int32) → Option mm_N} (h : mm_go K b Q X (mm_ai M a f)) : ∃ n z, M[a]? = some (.inl (0, n, .inl z)) ∧ mm_go K b Q X (f n z) := by
  unfold mm_ai at h
  split at h
  · next hq => exact ⟨_, _, hq, h⟩
  · exact h.elim
theorem mm_af_inv {P : mm_P} {M : mm_M} {a : Nat} {f : Nat → (Nat → Int32) → Option mm_N} (h : mm_go K b Q X (mm_af P M a f)) : (∃ n z, M[a]? = some (.inl (0, n, .inl z)) ∧ mm_go K b Q X (f n z)) ∨ ∃ n z, mm_lk (mm_fz P) a = some (n, z) ∧ mm_go K b Q X (f n z) := by
  unfold mm_af at h
  split at h
  · next hq => exact Or.inl ⟨_, _, hq, h⟩
  · split at h
    · next q hq => exact Or.inr ⟨q.1, q.2, hq, h⟩
    · exact h.elim
  · exact h.elim
theorem mm_al_inv {M : mm_M} {a : Nat} {f : Nat → (Nat → Int64) → Option mm_N} (h : mm_go K b Q X (mm_al M a f)) : ∃ n z, M[a]? = some (.inl (1, n, .inr (.inl z))) ∧ mm_go K b Q X (f n z) := by
  unfold mm_al at h
  split at h
  · next hq => exact ⟨_, _, hq, h⟩
  · exact h.elim
theorem mm_cond_inv {t : Bool} {o : Option mm_N} (h : mm_go K b Q X (cond t o none)) : t = true ∧ mm_go K b Q X o := by
  cases t with
  | true => exact ⟨rfl, h⟩
  | false => exact h.elim
theorem mm_ob_inv {M : mm_M} {a ci : Nat} {f : List Value → Option mm_N} (h : mm_go K b Q X (mm_ob M a ci f)) : ∃ fs, M[a]? = some (.inr (ci, fs)) ∧ mm_go K b Q X (f fs) := by
  unfold mm_ob at h
  split at h
  · next c fs hq =>
    obtain ⟨hc, h9⟩ := mm_cond_inv h
    have e := Nat.eq_of_beq_eq_true hc
    exact ⟨fs, by rw [← e]; exact hq, h9⟩
  · exact h.elim
theorem mm_bind_inv {o : Option Nat} {f : Nat → Option mm_N} (h : mm_go K b Q X (o.bind f)) : ∃ t, o = some t ∧ mm_go K b Q X (f t) := by
  cases o with
  | none => exact h.elim
  | some t => exact ⟨t, rfl, h⟩
theorem mm_bc_eq {x y : Int32} {s t : mm_St} (h : mm_go K b Q X (mm_bc .eq x y s t)) : (x = y → X s) ∧ (¬ x = y → X t) := ⟨h.1, h.2.1⟩
theorem mm_bc_ne {x y : Int32} {s t : mm_St} (h : mm_go K b Q X (mm_bc .ne x y s t)) : (¬ x = y → X s) ∧ (x = y → X t) := ⟨h.2.1, h.1⟩
theorem mm_bc_lt {x y : Int32} {s t : mm_St} (h : mm_go K b Q X (mm_bc .lt x y s t)) : (x < y → X s) ∧ (¬ x < y → X t) := ⟨h.1, h.2.1⟩
theorem mm_bc_ge {x y : Int32} {s t : mm_St} (h : mm_go K b Q X (mm_bc .ge x y s t)) : (y ≤ x → X s) ∧ (¬ y ≤ x → X t) := ⟨h.1, h.2.1⟩
theorem mm_bc_gt {x y : Int32} {s t : mm_St} (h : mm_go K b Q X (mm_bc .gt x y s t)) : (y < x → X s) ∧ (¬ y < x → X t) := ⟨h.1, h.2.1⟩
theorem mm_bc_le {x y : Int32} {s t : mm_St} (h : mm_go K b Q X (mm_bc .le x y s t)) : (x ≤ y → X s) ∧ (¬ x ≤ y → X t) := ⟨h.1, h.2.1⟩
end MMI
theorem mm_w_obj (ad aC : Nat → Nat) (M : mm_M) (a ci i : Nat) (fs : List Value) (v : Value) : mm_w ad aC 0 (M.set a (.inr (ci, fs.set i v))) = (mm_w ad aC 0 M).set a (ad a, .inr (ci, (fs.map (mm_v ad)).set i (mm_v ad v))) := by
  rw [mm_w_set0]
  simp only [mm_en, List.map_set]
theorem mm_w_arr (ad aC : Nat → Nat) (M : mm_M) (a k : Nat) (x : vp_A) : mm_w ad aC 0 (M.set a (.inl (k, x))) = (mm_w ad aC 0 M).set a (ad a, .inl (aC k, x)) := by
  rw [mm_w_set0]; rfl
theorem mm_cat_map (ad : Nat → Nat) : ∀ S : List Value, ((S.map (mm_v ad)).map fun v => v.category).sum = mm_cat S
  | [] => rfl
  | v :: S => by
    have h := mm_cat_map ad S
    simp only [mm_cat, List.map_cons, List.sum_cons, mm_v_cat] at h ⊢
    rw [h]
theorem mm_narZ {x : Int32} (h : mm_z x) : narrow .boolean (.int x) = .int x ∧ fits .boolean (.int x) = true := by
  rcases h with rfl | rfl
  · exact ⟨by decide +kernel, by decide +kernel⟩
  · exact ⟨by decide +kernel, by decide +kernel⟩
section MMJ
variable {K : mm_K} {b : Nat} {Q : mm_R → mm_M → Prop} {X : mm_St → Prop}
theorem mm_bindL_inv {o : Option (List (Prop × mm_St))} {f : List (Prop × mm_St) → Option mm_N} (h : mm_go K b Q X (o.bind f)) : ∃ t, o = some t ∧ mm_go K b Q X (f t) := by
  cases o with
  | none => exact h.elim
  | some t => exact ⟨t, rfl, h⟩
theorem mm_all_app : ∀ {w v : List (Prop × mm_St)}, mm_all X (w ++ v) → mm_all X w ∧ mm_all X v
  | [], _, h => ⟨trivial, h⟩
  | _ :: w, v, h => ⟨⟨h.1, (mm_all_app (w := w) h.2).1⟩, (mm_all_app (w := w) h.2).2⟩
theorem mm_all_last {w : List (Prop × mm_St)} {c : Prop} {s : mm_St} (h : mm_go K b Q X (some (.inr (.inr (.inl (w ++ [(c, s)])))))) (hc : c) : X s := (mm_all_app (w := w) h).2.1 hc
theorem mm_all_left {w : List (Prop × mm_St)} {c : Prop} {s : mm_St} (h : mm_go K b Q X (some (.inr (.inr (.inl (w ++ [(c, s)])))))) : mm_all X w := (mm_all_app (w := w) h).1
theorem mm_tw_at {x : Int32} {pc : Nat} {L : mm_L} {r : List Value} {M : mm_M} {u : Nat} : ∀ {os : List Int} {k : Int} {w : List (Prop × mm_St)} {n : Nat} {o : Int}, mm_tw x pc L r M u k os = some w → os[n]? = some o → x.toInt = k + (n : Int) → mm_all X w → ∃ t, mm_tg pc o = some t ∧ X (t, L, r, M, u)
  | [], _, _, n, _, _, ho, _, _ => by simp at ho
  | o1 :: os, k, w, n, o, hw, ho, hx, hX => by
    unfold mm_tw at hw
    cases ht : mm_tg pc o1 with
    | none => rw [ht] at hw; cases hw
    | some t =>
      rw [ht] at hw
      cases hw2 : mm_tw x pc L r M u (k + 1) os with
      | none => rw [hw2] at hw; cases hw
      | some w2 =>
        rw [hw2] at hw
        cases hw
        cases n with
        | zero =>
          simp at ho
          subst ho
          exact ⟨t, ht, hX.1 (by simpa using hx)⟩
        | succ n =>
          rw [List.getElem?_cons_succ] at ho
          exact mm_tw_at (k := k + 1) hw2 ho (by rw [hx]; push_cast; omega) hX.2
end MMJ
