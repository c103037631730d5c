/-! what the small machine does, the machine does -/
theorem mm_v_cat (ad : Nat → Nat) (v : Value) : (mm_v ad v).category = v.category := by cases v <;> rfl
abbrev mm_lm (ad : Nat → Nat) (L : mm_L) : mm_L := L.map fun q => (q.1, mm_v ad q.2)
theorem mm_filter (ad : Nat → Nat) (f : Nat → Nat → Bool) (L : mm_L) : (mm_lm ad L).filter (fun q => f q.1 q.2.category) = mm_lm ad (L.filter fun q => f q.1 q.2.category) := by
  unfold mm_lm
  rw [List.filter_map]
  congr 1
  apply List.filter_congr
  intro q _
  simp only [Function.comp, mm_v_cat]
theorem mm_s1_map (ad : Nat → Nat) (L : mm_L) (i : Nat) (v : Value) : (i, mm_v ad v) :: (mm_lm ad L).filter (fun q => !(q.1 == i) && !(q.1 + 1 == i && q.2.category == 2)) = mm_lm ad (mm_s1 L i v) := by
  have h := mm_filter ad (fun a b => !(a == i) && !(a + 1 == i && b == 2)) L
  exact congrArg _ h
theorem mm_s2_map (ad : Nat → Nat) (L : mm_L) (i : Nat) (v : Value) : (i, mm_v ad v) :: (mm_lm ad L).filter (fun q => !(q.1 == i) && (!(q.1 == i + 1) && !(q.1 + 1 == i && q.2.category == 2))) = mm_lm ad (mm_s2 L i v) := by
  have h := mm_filter ad (fun a b => !(a == i) && (!(a == i + 1) && !(a + 1 == i && b == 2))) L
  exact congrArg _ h
theorem mm_lm_at {ad : Nat → Nat} {ls : Array Slot} {nL : Nat} {L : mm_L} (h : lv_has ls nL (mm_lm ad L)) {i : Nat} {v : Value} (hk : mm_lk L i = some v) : ls[i]? = some (.val (mm_v ad v)) :=
  h.2.2 (i, mm_v ad v) (List.mem_map.mpr ⟨(i, v), mm_lk_mem hk, rfl⟩)
theorem mm_tg_eq {pc t : Nat} {off : Int} (h : mm_tg pc off = some t) : (pc : Int) + off = (t : Int) := by
  unfold mm_tg at h
  split at h
  · next x e => cases h; exact e
  · cases h
theorem mm_w_get (ad aC : Nat → Nat) : ∀ (M : mm_M) (k i : Nat), (mm_w ad aC k M)[i]? = (M[i]?).map (fun x => (ad (k + i), mm_en ad aC x))
  | [], _, _ => by simp [mm_w]
  | x :: M, k, 0 => by simp [mm_w]
  | x :: M, k, i + 1 => by
    have h := mm_w_get ad aC M (k + 1) i
    simp only [mm_w, List.getElem?_cons_succ]
    rw [h]
    rw [show k + 1 + i = k + (i + 1) by omega]
theorem mm_w_set (ad aC : Nat → Nat) : ∀ (M : mm_M) (k i : Nat) (x : va_E), mm_w ad aC k (M.set i x) = (mm_w ad aC k M).set i (ad (k + i), mm_en ad aC x)
  | [], _, _, _ => by simp [mm_w]
  | y :: M, k, 0, x => by simp [mm_w]
  | y :: M, k, i + 1, x => by
    have h := mm_w_set ad aC M (k + 1) i x
    simp only [mm_w, List.set_cons_succ]
    rw [h, show k + 1 + i = k + (i + 1) by omega]
theorem mm_w_at {ad aC : Nat → Nat} {M : mm_M} {i : Nat} {x : va_E} (h : M[i]? = some x) : (mm_w ad aC 0 M)[i]? = some (ad i, mm_en ad aC x) := by
  rw [mm_w_get, h, Nat.zero_add]; rfl
theorem mm_w_set0 (ad aC : Nat → Nat) (M : mm_M) (i : Nat) (x : va_E) : mm_w ad aC 0 (M.set i x) = (mm_w ad aC 0 M).set i (ad i, mm_en ad aC x) := by
  rw [mm_w_set, Nat.zero_add]
theorem mm_lv_args (ad : Nat → Nat) : ∀ (a : List Value) (i : Nat), lv_args i (a.map (mm_v ad)) = mm_lm ad (lv_args i a)
  | [], _ => rfl
  | v :: t, i => by
    simp only [List.map_cons, lv_args, mm_v_cat]
    rw [mm_lv_args ad t]
/-- the lengths of the instructions that the small machine knows; 0: any -/
def mm_len : Instr → Nat
  | .iconst _ | .lconst _ | .iload_n _ | .lload_n _ | .aload_n _ | .istore_n _ | .lstore_n _ | .iadd | .isub | .imul | .iand | .ishl | .ishr | .ineg | .ladd | .lsub | .lmul | .lneg | .ldiv | .lrem | .lcmp | .i2l | .l2i | .dup | .pop | .iaload | .laload | .iastore | .lastore | .arraylength | .ireturn | .lreturn | .return_ => 1
  | .bipush _ | .ldc _ | .iload _ | .lload _ | .aload _ | .istore _ | .lstore _ => 2
  | .sipush _ | .ldc2_w _ | .iinc _ _ | .ifCond _ _ | .if_icmp _ _ | .goto _ | .getfield _ | .putfield _ | .invokevirtual _ | .invokestatic _ => 3
  | _ => 0
/-- what isn't of the words: texts (owner, pool entry, text), words that are carried one by one (links to a nest mate's fields, methods that are declared), exceptions that are of their own kind -/
abbrev mm_Sx : Type := List (String × Nat × String) × List Cond × List String
/-- the words that are carried along one by one -/
def mm_wk : Cond → Bool
  | .fieldLinkNest _ _ _ _ _ _ => true
  | .declares _ => true
  | _ => false
theorem mm_wk_tab {w : Cond} (h : mm_wk w = true) : w.onTables = true := by
  cases w <;> first | rfl | (exact absurd h (by decide)) | (unfold mm_wk at h; cases h)
theorem mm_wk_warm {w : Cond} (h : mm_wk w = true) {s U : State} (hW : s.WarmedH U.vm) (hZ : va_Nw w s) : va_Nw w U := by
  unfold mm_wk at h
  split at h
  · exact va_Nw.warmF hW hZ
  · exact va_Nw.warmD hW hZ
  · cases h
/-- what the tables must say of a method's fields, constants, calls -/
def mm_okF (Z : mm_Sx) (G : List Cond) (cl : List vw_C) (own : String) (q : Nat × Nat × Nat × Nat) : Prop :=
  ∃ (C : String) (T : u_T) (N : Nat) (ty0 : Nat → FieldType), cl[q.2.1]? = some (C, T, N) ∧ q.2.2.1 < N ∧ (∀ w ∈ u_ws C T N, w ∈ G) ∧ (∀ k, k < N → parseFieldDescriptor (T k).2.2.1 = some (ty0 k)) ∧ (∀ a, a < N → ∀ b, b < N → a ≠ b → (T a).2.1 ≠ (T b).2.1) ∧
    (Cond.fieldLink own q.1 (T q.2.2.1).1 (T q.2.2.1).2.1 (T q.2.2.1).2.2.1 ∈ G ∨ ∃ host, Cond.fieldLinkNest own q.1 (T q.2.2.1).1 (T q.2.2.1).2.1 (T q.2.2.1).2.2.1 host ∈ Z.2.1) ∧
    (q.2.2.2 = 0 → (T q.2.2.1).2.2.2 = false ∧ ty0 q.2.2.1 = .int) ∧ (q.2.2.2 = 1 → (T q.2.2.1).2.2.2 = false ∧ ty0 q.2.2.1 = .boolean)
def mm_okK (G : List Cond) (own : String) (q : Nat × Value) : Prop := match q.2 with
  | .int x => Cond.constant own q.1 x ∈ G
  | .long x => Cond.constantLong own q.1 x ∈ G
  | _ => False
/-- the table of exceptions -/
def mm_hh (hs : List mm_H) : List (Nat × Nat × Nat × Nat) := hs.map fun h => (h.1, h.2.1, h.2.2.1, h.2.2.2.1)
def mm_cd (t : mm_T) : Cond := match mm_hs t.2.2.2.2.2 with
  | [] => .code t.1 t.2.1 t.2.2.1 t.2.2.2.1
  | h :: r => .codeWith t.1 t.2.1 t.2.2.1 t.2.2.2.1 (mm_hh (h :: r))
def mm_okH (Z : mm_Sx) (G : List Cond) (own : String) (cc : ByteArray) (nL : Nat) (h : mm_H) : Prop :=
  Cond.classLink own h.2.2.2.1 h.2.2.2.2.1 ∈ G ∧ h.2.2.2.2.1 ∈ Z.2.2 ∧ h.2.2.2.1 ≠ 0 ∧ h.2.2.2.2.2.2 < nL ∧
    ((∃ k : Fin 4, (k : Nat) = h.2.2.2.2.2.2 ∧ decode cc h.2.2.1 = .ok (.astore_n k, 1) ∧ h.2.2.2.2.2.1 = h.2.2.1 + 1) ∨ (decode cc h.2.2.1 = .ok (.astore h.2.2.2.2.2.2, 2) ∧ h.2.2.2.2.2.1 = h.2.2.1 + 2))
def mm_okC (G : List Cond) (cl : List vw_C) (T : List mm_T) (own : String) (q : Nat × Nat × Nat × Nat) : Prop :=
  (q.2.2.2 = 98 → Cond.methodLink own q.1 arraycopyName ∈ G ∧ Cond.native arraycopyName ∈ G ∧ Cond.static arraycopyName ∈ G ∧ Cond.initialized "java/lang/System" ∈ G) ∧
  (q.2.2.2 ≠ 98 → ∃ t : mm_T, T[q.2.1]? = some t ∧ mm_cd t ∈ G ∧ Cond.methodLink own q.1 t.1 ∈ G ∧ Cond.initialized t.1.cls ∈ G ∧ t.2.2.1 ≤ 40 ∧ (t.1.cls ≠ "java/lang/invoke/MethodHandle" ∧ t.1.cls ≠ "java/lang/invoke/VarHandle") ∧
    (q.2.2.2 = 99 → Cond.static t.1 ∈ G ∧ (parseMethodDescriptor t.1.desc).map (fun d => d.parameters.length) = some q.2.2.1) ∧
    (q.2.2.2 ≠ 99 → mm_hs t.2.2.2.2.2 = [] ∧ Cond.instanceMethod t.1 ∈ G ∧ Cond.selects t.1.cls t.1 t.1 ∈ G ∧ (∃ z, cl[q.2.2.2]? = some z ∧ z.1 = t.1.cls) ∧ ∃ n, q.2.2.1 = n + 1 ∧ (parseMethodDescriptor t.1.desc).map (fun d => d.parameters.length) = some n))
def mm_ok (Z : mm_Sx) (G : List Cond) (cl : List vw_C) (T : List mm_T) (own : String) (cc : ByteArray) (nL : Nat) (P : mm_P) : Prop :=
  (∀ q ∈ P.1, decode cc q.1 = .ok (q.2.1, q.2.2) ∧ (mm_len q.2.1 = 0 ∨ q.2.2 = mm_len q.2.1)) ∧ (∀ q ∈ P.2.1, mm_okF Z G cl own q) ∧ (∀ q ∈ P.2.2.1, mm_okK G own q) ∧ (∀ q ∈ P.2.2.2.1, mm_okC G cl T own q) ∧ (∀ h ∈ mm_hs P, mm_okH Z G own cc nL h) ∧ (mm_hs P = [] ∨ P.2.2.2.2.1 = [])
/-- a room that is large enough -/
def mm_rm (R : Room) (d b : Nat) : Prop := 8 + (d + 1) ≤ R.frames ∧ 300 + 64 * (d + 1) ≤ R.locals ∧ b ≤ R.cells ∧ 6 * b ≤ R.slots
def mm_room (d b : Nat) : Room := { frames := 8 + d, cells := b, slots := 6 * b, locals := 300 + 64 * d }
/-- what throws need of the start -/
def mm_Th (Z : mm_Sx) (A : Nat → Prop) (U : State) (H : Heap) : Prop :=
  vx_Zq Bundle.tN "UNASSIGNED_STACK" Bundle.steD A U H ∧ vx_Zq Bundle.tN "SUPPRESSED_SENTINEL" Bundle.listD A U H ∧ (∀ q ∈ Z.1, ∃ sa, vk_R q.1 q.2.1 q.2.2 sa U) ∧ (∀ w ∈ Z.2.1, va_Nw w U) ∧ (∀ E ∈ Z.2.2, va_Nw (.castable E E) U) ∧ ∀ E ∈ Z.2.2, ∀ F ∈ Z.2.2, E ≠ F → va_Nc E F U
def mm_Pw (Z : mm_Sx) (D : va_G) (cl : List vw_C) (ad aC : Nat → Nat) (sz : Nat) (M : mm_M) (U : State) : Prop :=
  U.heap.size = sz ∧ va_P D cl (mm_w ad aC 0 M) U.heap ∧ va_K D cl (mm_ty aC) U ∧ va_D (fun _ => True) (mm_w ad aC 0 M) ∧ mm_Th Z (va_A (mm_w ad aC 0 M) sz) U U.heap
def mm_B (D : va_G) (cl : List vw_C) (ad aC : Nat → Nat) (A : Nat → Prop) (M : mm_M) (t : State) : Prop := va_P D cl (mm_w ad aC 0 M) t.heap ∧ va_K D cl (mm_ty aC) t ∧ va_D A (mm_w ad aC 0 M)
def mm_Qc (D : va_G) (cl : List vw_C) (ad aC : Nat → Nat) (A : Nat → Prop) (Q : mm_R → mm_M → Prop) : Array Value → State → Outcome → State → Prop := fun _ st oc t =>
  ∃ (v : Option Value) (M : mm_M), oc = .returned (v.map (mm_v ad)) ∧ Q (.inl v) M ∧ mm_B D cl ad aC A M t ∧ va_F A st t
def mm_XC (D : va_G) (cl : List vw_C) (ad aC : Nat → Nat) (A : Nat → Prop) (Q : mm_R → mm_M → Prop) : String → State → State → Prop := fun E st t =>
  ∃ M : mm_M, Q (.inr E) M ∧ mm_B D cl ad aC A M t ∧ va_F A st t
