/-! THE SMALL MACHINE: it runs the same instructions over a world whose cells have numbers (places) in the stead of addresses; mm_sound (part 03) says once and for all that what it does the machine does. -/
abbrev mm_M : Type := List va_E
abbrev mm_L : Type := List (Nat × Value)
/-- pc, locals, operand stack, world, cells made by throws so far -/
abbrev mm_St : Type := Nat × mm_L × List Value × mm_M × Nat
/-- an end: an answer, or the name of what was thrown -/
abbrev mm_R : Type := Option Value ⊕ String
/-- a step: goes on; goes on if something holds; several ways, each with its condition; the end; a call (behind it, and where it throws: not allowed, not caught, caught) -/
abbrev mm_N : Type := mm_St ⊕ (Prop × mm_St) ⊕ List (Prop × mm_St) ⊕ (Prop × mm_R × mm_M × Nat) ⊕ (Nat × List Value × mm_M × (Option Value → mm_M → mm_St) × (String → mm_M → Option (Option mm_St)) × Nat)
/-- a handler: from, to, its pc, pool entry of the name, the name, pc behind its astore, the astore's variable -/
abbrev mm_H : Type := Nat × Nat × Nat × Nat × String × Nat × Nat
/-- a method: code (pc, instruction, length); fields (pool entry, class, slot, 0 an int, 1 a boolean, 2 only read); constants (pool entry, value); calls (pool entry, method, values taken, class of the receiver or 99); throws (pc, exception); handlers; int arrays that are only read (place, length, contents) -/
abbrev mm_P : Type := List (Nat × Instr × Nat) × List (Nat × Nat × Nat × Nat) × List (Nat × Value) × List (Nat × Nat × Nat × Nat) × List (Nat × String) × List mm_H × List (Nat × Nat × (Nat → Int32))
abbrev mm_hs (P : mm_P) : List mm_H := P.2.2.2.2.2.1
abbrev mm_fz (P : mm_P) : List (Nat × Nat × (Nat → Int32)) := P.2.2.2.2.2.2
def mm_lk {α : Type} : List (Nat × α) → Nat → Option α
  | [], _ => none
  | (a, b) :: t, k => cond (Nat.beq a k) (some b) (mm_lk t k)
def mm_s1 (L : mm_L) (i : Nat) (v : Value) : mm_L := (i, v) :: L.filter (fun q => !(q.1 == i) && !(q.1 + 1 == i && q.2.category == 2))
def mm_s2 (L : mm_L) (i : Nat) (v : Value) : mm_L := (i, v) :: L.filter (fun q => !(q.1 == i) && (!(q.1 == i + 1) && !(q.1 + 1 == i && q.2.category == 2)))
def mm_tg (pc : Nat) (off : Int) : Option Nat := match (pc : Int) + off with
  | .ofNat t => some t
  | .negSucc _ => none
def mm_g (s : mm_St) : Option mm_N := some (.inl s)
def mm_n (c : Prop) (s : mm_St) : Option mm_N := some (.inr (.inl (c, s)))
def mm_b (c : Prop) (s t : mm_St) : Option mm_N := some (.inr (.inr (.inl [(c, s), (¬ c, t)])))
def mm_e (c : Prop) (r : mm_R) (M : mm_M) (u : Nat) : Option mm_N := some (.inr (.inr (.inr (.inl (c, r, M, u)))))
/-- the ways of a tableswitch -/
def mm_tw (x : Int32) (pc : Nat) (L : mm_L) (r : List Value) (M : mm_M) (u : Nat) : Int → List Int → Option (List (Prop × mm_St))
  | _, [] => some []
  | k, o :: os => (mm_tg pc o).bind fun t => (mm_tw x pc L r M u (k + 1) os).map fun w => (x.toInt = k, (t, L, r, M, u)) :: w
def mm_i1 (S : List Value) (f : Int32 → List Value → Option mm_N) : Option mm_N := match S with
  | .int x :: r => f x r
  | _ => none
def mm_i2 (S : List Value) (f : Int32 → Int32 → List Value → Option mm_N) : Option mm_N := match S with
  | .int y :: .int x :: r => f y x r
  | _ => none
def mm_l1 (S : List Value) (f : Int64 → List Value → Option mm_N) : Option mm_N := match S with
  | .long x :: r => f x r
  | _ => none
def mm_l2 (S : List Value) (f : Int64 → Int64 → List Value → Option mm_N) : Option mm_N := match S with
  | .long y :: .long x :: r => f y x r
  | _ => none
def mm_li (L : mm_L) (i : Nat) (f : Int32 → Option mm_N) : Option mm_N := match mm_lk L i with
  | some (.int x) => f x
  | _ => none
def mm_ll (L : mm_L) (i : Nat) (f : Int64 → Option mm_N) : Option mm_N := match mm_lk L i with
  | some (.long x) => f x
  | _ => none
def mm_la (L : mm_L) (i : Nat) (f : Nat → Option mm_N) : Option mm_N := match mm_lk L i with
  | some (.ref x) => f x
  | _ => none
/-- an array of ints, of longs, at a place; an object of a class -/
def mm_ai (M : mm_M) (a : Nat) (f : Nat → (Nat → Int32) → Option mm_N) : Option mm_N := match M[a]? with
  | some (.inl (0, n, .inl z)) => f n z
  | _ => none
/-- an array of ints to be read -/
def mm_af (P : mm_P) (M : mm_M) (a : Nat) (f : Nat → (Nat → Int32) → Option mm_N) : Option mm_N := match M[a]? with
  | some (.inl (0, n, .inl z)) => f n z
  | none => (match mm_lk (mm_fz P) a with
    | some q => f q.1 q.2
    | none => none)
  | _ => none
def mm_al (M : mm_M) (a : Nat) (f : Nat → (Nat → Int64) → Option mm_N) : Option mm_N := match M[a]? with
  | some (.inl (1, n, .inr (.inl z))) => f n z
  | _ => none
def mm_ob (M : mm_M) (a ci : Nat) (f : List Value → Option mm_N) : Option mm_N := match M[a]? with
  | some (.inr (c, fs)) => cond (Nat.beq c ci) (f fs) none
  | _ => none
def mm_bc (k : Jvm.ClassFile.Cond) (x y : Int32) (s t : mm_St) : Option mm_N := match k with
  | .eq => mm_b (x = y) s t
  | .ne => mm_b (x = y) t s
  | .lt => mm_b (x < y) s t
  | .ge => mm_b (y ≤ x) s t
  | .gt => mm_b (y < x) s t
  | .le => mm_b (x ≤ y) s t
/-- what a boolean cell or answer may hold -/
def mm_z (x : Int32) : Prop := x = 0 ∨ x = 1
def mm_put (P : mm_P) (k pc : Nat) (L : mm_L) (S : List Value) (M : mm_M) (u : Nat) : Option mm_N := match S with
  | .int x :: .ref a :: r => match mm_lk P.2.1 k with
    | some (ci, i, z) => mm_ob M a ci fun fs => cond (Nat.blt i fs.length)
        (match z with
          | 0 => mm_g (pc + 3, L, r, M.set a (.inr (ci, fs.set i (.int x))), u)
          | 1 => mm_n (mm_z x) (pc + 3, L, r, M.set a (.inr (ci, fs.set i (.int x))), u)
          | _ => none) none
    | none => none
  | _ => none
def mm_get (P : mm_P) (k pc : Nat) (L : mm_L) (S : List Value) (M : mm_M) (u : Nat) : Option mm_N := match S with
  | .ref a :: r => match mm_lk P.2.1 k with
    | some (ci, i, _) => mm_ob M a ci fun fs => match fs[i]? with
      | some v => mm_g (pc + 3, L, v :: r, M, u)
      | none => none
    | none => none
  | _ => none
def mm_cat (S : List Value) : Nat := (S.map fun v => v.category).sum
/-- System.arraycopy within or between int arrays -/
def mm_cp (pc : Nat) (L : mm_L) (S : List Value) (M : mm_M) (u : Nat) : Option mm_N := match S with
  | .int n :: .int dp :: .ref a :: .int sp :: .ref a0 :: r => mm_ai M a0 fun n0 f => mm_ai M a fun n1 g =>
      cond (Nat.ble (mm_cat r) 8) (mm_n (¬ sp < 0 ∧ ¬ dp < 0 ∧ ¬ n < 0 ∧ sp.toNatClampNeg + n.toNatClampNeg ≤ n0 ∧ dp.toNatClampNeg + n.toNatClampNeg ≤ n1)
        (pc + 3, L, r, M.set a (.inl (0, n1, .inl (va_cpy f g sp.toNatClampNeg dp.toNatClampNeg n.toNatClampNeg))), u)) none
  | _ => none
/-- the handler that takes E at pc -/
def mm_hd : List mm_H → Nat → String → Option (Nat × Nat)
  | [], _, _ => none
  | h :: t, pc, E => cond (Nat.ble h.1 pc && Nat.blt pc h.2.1 && decide (h.2.2.2.2.1 = E)) (some h.2.2.2.2.2) (mm_hd t pc E)
/-- what is left of the locals behind an astore -/
def mm_dr (L : mm_L) (i : Nat) : mm_L := L.filter (fun q => !(q.1 == i) && !(q.1 + 1 == i && q.2.category == 2))
def mm_ce (P : mm_P) (pc : Nat) (L : mm_L) (u : Nat) (E : String) (M : mm_M) : Option (Option mm_St) := match mm_hs P with
  | [] => some none
  | h :: t => (mm_hd (h :: t) pc E).map fun q => some (q.1, mm_dr L q.2, [], M, u)
/-- a call: 98 is System.arraycopy -/
def mm_cl (P : mm_P) (bt : Nat → Nat) (st : Bool) (k pc : Nat) (L : mm_L) (S : List Value) (M : mm_M) (u : Nat) : Option mm_N := match mm_lk P.2.2.2.1 k with
  | none => none
  | some (j, n, ci) => cond (Nat.beq ci 98) (cond st (mm_cp pc L S M u) none)
      (cond (Nat.ble n S.length && Nat.ble (mm_cat (S.drop n)) 8 && (cond st (Nat.beq ci 99) (!(Nat.beq ci 99) && match (S.take n).reverse with
        | .ref a :: _ => match M[a]? with
          | some (.inr (c, _)) => Nat.beq c ci
          | _ => false
        | _ => false)))
        (some (.inr (.inr (.inr (.inr (j, (S.take n).reverse, M, (fun v M' => (pc + 3, L, v.toList ++ S.drop n, M', u + bt j)), mm_ce P pc L (u + bt j), u + bt j)))))) none)
def mm_do (P : mm_P) (bt : Nat → Nat) (ret : Option FieldType) (nL pc : Nat) (L : mm_L) (S : List Value) (M : mm_M) (u : Nat) (i : Instr) : Option mm_N := match i with
  | .iconst n => mm_g (pc + 1, L, .int (Int32.ofInt n) :: S, M, u)
  | .bipush n => mm_g (pc + 2, L, .int (Int8.ofInt n).toInt32 :: S, M, u)
  | .sipush n => mm_g (pc + 3, L, .int (Int16.ofInt n).toInt32 :: S, M, u)
  | .lconst n => mm_g (pc + 1, L, .long (Int64.ofNat (n : Nat)) :: S, M, u)
  | .ldc k => match mm_lk P.2.2.1 k with
    | some (.int x) => mm_g (pc + 2, L, .int x :: S, M, u)
    | _ => none
  | .ldc2_w k => match mm_lk P.2.2.1 k with
    | some (.long x) => mm_g (pc + 3, L, .long x :: S, M, u)
    | _ => none
  | .iload_n k => mm_li L k.val fun x => mm_g (pc + 1, L, .int x :: S, M, u)
  | .iload k => mm_li L k fun x => mm_g (pc + 2, L, .int x :: S, M, u)
  | .lload_n k => mm_ll L k.val fun x => mm_g (pc + 1, L, .long x :: S, M, u)
  | .lload k => mm_ll L k fun x => mm_g (pc + 2, L, .long x :: S, M, u)
  | .aload_n k => mm_la L k.val fun x => mm_g (pc + 1, L, .ref x :: S, M, u)
  | .aload k => mm_la L k fun x => mm_g (pc + 2, L, .ref x :: S, M, u)
  | .istore_n k => mm_i1 S fun x r => cond (Nat.blt k.val nL) (mm_g (pc + 1, mm_s1 L k.val (.int x), r, M, u)) none
  | .istore k => mm_i1 S fun x r => cond (Nat.blt k nL) (mm_g (pc + 2, mm_s1 L k (.int x), r, M, u)) none
  | .lstore_n k => mm_l1 S fun x r => cond (Nat.blt (k.val + 1) nL) (mm_g (pc + 1, mm_s2 L k.val (.long x), r, M, u)) none
  | .lstore k => mm_l1 S fun x r => cond (Nat.blt (k + 1) nL) (mm_g (pc + 2, mm_s2 L k (.long x), r, M, u)) none
  | .iinc k n => mm_li L k fun x => cond (Nat.blt k nL) (mm_g (pc + 3, mm_s1 L k (.int (x + Int32.ofInt n)), S, M, u)) none
  | .iadd => mm_i2 S fun y x r => mm_g (pc + 1, L, .int (x + y) :: r, M, u)
  | .isub => mm_i2 S fun y x r => mm_g (pc + 1, L, .int (x - y) :: r, M, u)
  | .imul => mm_i2 S fun y x r => mm_g (pc + 1, L, .int (x * y) :: r, M, u)
  | .iand => mm_i2 S fun y x r => mm_g (pc + 1, L, .int (x &&& y) :: r, M, u)
  | .ishl => mm_i2 S fun y x r => mm_g (pc + 1, L, .int (x <<< (y &&& 31)) :: r, M, u)
  | .ishr => mm_i2 S fun y x r => mm_g (pc + 1, L, .int (x >>> (y &&& 31)) :: r, M, u)
  | .ineg => mm_i1 S fun x r => mm_g (pc + 1, L, .int (-x) :: r, M, u)
  | .ladd => mm_l2 S fun y x r => mm_g (pc + 1, L, .long (x + y) :: r, M, u)
  | .lsub => mm_l2 S fun y x r => mm_g (pc + 1, L, .long (x - y) :: r, M, u)
  | .lmul => mm_l2 S fun y x r => mm_g (pc + 1, L, .long (x * y) :: r, M, u)
  | .lneg => mm_l1 S fun x r => mm_g (pc + 1, L, .long (-x) :: r, M, u)
  | .ldiv => mm_l2 S fun y x r => mm_n (¬ y = 0) (pc + 1, L, .long (x / y) :: r, M, u)
  | .lrem => mm_l2 S fun y x r => mm_n (¬ y = 0) (pc + 1, L, .long (x - x / y * y) :: r, M, u)
  | .lcmp => mm_l2 S fun y x r => mm_g (pc + 1, L, .int (lg_cmp x y) :: r, M, u)
  | .i2l => mm_i1 S fun x r => mm_g (pc + 1, L, .long x.toInt64 :: r, M, u)
  | .l2i => mm_l1 S fun x r => mm_g (pc + 1, L, .int x.toInt32 :: r, M, u)
  | .dup => match S with
    | .int x :: r => mm_g (pc + 1, L, .int x :: .int x :: r, M, u)
    | .ref x :: r => mm_g (pc + 1, L, .ref x :: .ref x :: r, M, u)
    | _ => none
  | .pop => mm_i1 S fun _ r => mm_g (pc + 1, L, r, M, u)
  | .ifCond k o => mm_i1 S fun x r => (mm_tg pc o).bind fun t => mm_bc k x 0 (t, L, r, M, u) (pc + 3, L, r, M, u)
  | .if_icmp k o => mm_i2 S fun y x r => (mm_tg pc o).bind fun t => mm_bc k x y (t, L, r, M, u) (pc + 3, L, r, M, u)
  | .goto o => (mm_tg pc o).bind fun t => mm_g (t, L, S, M, u)
  | .tableswitch d lo hi os => mm_i1 S fun x r => cond (decide (hi = lo + (os.size : Int) - 1)) ((mm_tg pc d).bind fun t => (mm_tw x pc L r M u lo os.toList).bind fun w =>
      some (.inr (.inr (.inl (w ++ [((x.toInt < lo ∨ hi < x.toInt), (t, L, r, M, u))]))))) none
  | .getfield k => mm_get P k pc L S M u
  | .putfield k => mm_put P k pc L S M u
  | .iaload => match S with
    | .int x :: .ref a :: r => mm_af P M a fun n f => mm_n (vp_in x n) (pc + 1, L, .int (f x.toNatClampNeg) :: r, M, u)
    | _ => none
  | .laload => match S with
    | .int x :: .ref a :: r => mm_al M a fun n f => mm_n (vp_in x n) (pc + 1, L, .long (f x.toNatClampNeg) :: r, M, u)
    | _ => none
  | .iastore => match S with
    | .int v :: .int x :: .ref a :: r => mm_ai M a fun n f => mm_n (vp_in x n) (pc + 1, L, r, M.set a (.inl (0, n, .inl (upd f x.toNatClampNeg v))), u)
    | _ => none
  | .lastore => match S with
    | .long v :: .int x :: .ref a :: r => mm_al M a fun n f => mm_n (vp_in x n) (pc + 1, L, r, M.set a (.inl (1, n, .inr (.inl (vp_updL f x.toNatClampNeg v)))), u)
    | _ => none
  | .arraylength => match S with
    | .ref a :: r => mm_af P M a fun n _ => mm_g (pc + 1, L, .int (Int32.ofNat n) :: r, M, u)
    | _ => none
  | .invokevirtual k => mm_cl P bt false k pc L S M u
  | .invokestatic k => mm_cl P bt true k pc L S M u
  | .ireturn => match S with
    | [.int x] => match ret with
      | some .int => mm_e True (.inl (some (.int x))) M u
      | some .boolean => mm_e (mm_z x) (.inl (some (.int x))) M u
      | _ => none
    | _ => none
  | .lreturn => match S, ret with
    | [.long x], some .long => mm_e True (.inl (some (.long x))) M u
    | _, _ => none
  | .return_ => match S, ret with
    | [], none => mm_e True (.inl none) M u
    | _, _ => none
  | .new _ => match S, mm_lk P.2.2.2.2.1 pc with
    | [], some E => mm_e True (.inr E) M (u + 1)
    | _, _ => none
  | _ => none
def mm_next (P : mm_P) (bt : Nat → Nat) (ret : Option FieldType) (nL : Nat) (q : mm_St) : Option mm_N := match mm_lk P.1 q.1 with
  | none => none
  | some i => mm_do P bt ret nL q.1 q.2.1 q.2.2.1 q.2.2.2.1 q.2.2.2.2 i.1
/-- every way whose condition holds -/
def mm_all (X : mm_St → Prop) : List (Prop × mm_St) → Prop
  | [] => True
  | q :: t => (q.1 → X q.2) ∧ mm_all X t
abbrev mm_K : Type := Nat → List Value → mm_M → (mm_R → mm_M → Prop) → Prop
/-- where a call threw -/
def mm_ex (Q : mm_R → mm_M → Prop) (X : mm_St → Prop) (E : String) (M : mm_M) : Option (Option mm_St) → Prop
  | none => False
  | some none => Q (.inr E) M
  | some (some s) => X s
/-- behind a call -/
def mm_rs (Q : mm_R → mm_M → Prop) (X : mm_St → Prop) (k : Option Value → mm_M → mm_St) (ce : String → mm_M → Option (Option mm_St)) : mm_R → mm_M → Prop
  | .inl v, M => X (k v M)
  | .inr E, M => mm_ex Q X E M (ce E M)
def mm_go (K : mm_K) (b : Nat) (Q : mm_R → mm_M → Prop) (X : mm_St → Prop) : Option mm_N → Prop
  | none => False
  | some (.inl s) => X s
  | some (.inr (.inl q)) => q.1 ∧ X q.2
  | some (.inr (.inr (.inl l))) => mm_all X l
  | some (.inr (.inr (.inr (.inl q)))) => q.1 ∧ q.2.2.2 ≤ b ∧ Q q.2.1 q.2.2.1
  | some (.inr (.inr (.inr (.inr q)))) => q.2.2.2.2.2 ≤ b ∧ K q.1 q.2.1 q.2.2.1 (mm_rs Q X q.2.2.2.1 q.2.2.2.2.1)
/-- from st the small machine comes to an end, and it is one of Q -/
def mm_W (K : mm_K) (P : mm_P) (bt : Nat → Nat) (b : Nat) (ret : Option FieldType) (nL : Nat) (Q : mm_R → mm_M → Prop) (st : mm_St) : Prop :=
  ∀ X : mm_St → Prop, (∀ s, mm_go K b Q X (mm_next P bt ret nL s) → X s) → X st
def mm_mono (K : mm_K) : Prop := ∀ (j : Nat) (a : List Value) (M : mm_M) (Q Q' : mm_R → mm_M → Prop), (∀ r M', Q r M' → Q' r M') → K j a M Q → K j a M Q'
theorem mm_all_mono {X Y : mm_St → Prop} (h : ∀ s, X s → Y s) : ∀ l, mm_all X l → mm_all Y l
  | [], _ => trivial
  | _ :: t, ⟨a, b⟩ => ⟨fun c => h _ (a c), mm_all_mono h t b⟩
theorem mm_rs_mono {Q Q' : mm_R → mm_M → Prop} {X Y : mm_St → Prop} (hQ : ∀ r M', Q r M' → Q' r M') (h : ∀ s, X s → Y s) (k : Option Value → mm_M → mm_St) (ce : String → mm_M → Option (Option mm_St)) : ∀ r M, mm_rs Q X k ce r M → mm_rs Q' Y k ce r M
  | .inl _, _, a => h _ a
  | .inr E, M, a => by
    replace a : mm_ex Q X E M (ce E M) := a
    show mm_ex Q' Y E M (ce E M)
    cases hc : ce E M with
    | none => rw [hc] at a; exact a
    | some o =>
      rw [hc] at a
      cases o with
      | none => exact hQ _ _ a
      | some s => exact h _ a
theorem mm_go_mono {K : mm_K} (hK : mm_mono K) {b : Nat} {Q Q' : mm_R → mm_M → Prop} {X Y : mm_St → Prop} (hQ : ∀ r M', Q r M' → Q' r M') (h : ∀ s, X s → Y s) : ∀ o, mm_go K b Q X o → mm_go K b Q' Y o
  | none, a => a
  | some (.inl _), a => h _ a
  | some (.inr (.inl _)), a => ⟨a.1, h _ a.2⟩
  | some (.inr (.inr (.inl l))), a => mm_all_mono h l a
  | some (.inr (.inr (.inr (.inl _)))), a => ⟨a.1, a.2.1, hQ _ _ a.2.2⟩
  | some (.inr (.inr (.inr (.inr _)))), a => ⟨a.1, hK _ _ _ _ _ (mm_rs_mono hQ h _ _) a.2⟩
section MMW
variable {K : mm_K} {P : mm_P} {bt : Nat → Nat} {b : Nat} {ret : Option FieldType} {nL : Nat} {Q : mm_R → mm_M → Prop}
theorem mm_fold (hK : mm_mono K) {st : mm_St} (h : mm_go K b Q (mm_W K P bt b ret nL Q) (mm_next P bt ret nL st)) : mm_W K P bt b ret nL Q st :=
  fun X hX => hX st (mm_go_mono hK (fun _ _ q => q) (fun _ hs => hs X hX) _ h)
theorem mm_W_mono (hK : mm_mono K) {Q' : mm_R → mm_M → Prop} (hQ : ∀ r M', Q r M' → Q' r M') {st : mm_St} (h : mm_W K P bt b ret nL Q st) : mm_W K P bt b ret nL Q' st :=
  h _ (fun _ q => mm_fold hK (mm_go_mono hK hQ (fun _ z => z) _ q))
/-- the straight way on, at most n steps -/
def mm_sk (P : mm_P) (bt : Nat → Nat) (ret : Option FieldType) (nL : Nat) : Nat → mm_St → mm_St
  | 0, s => s
  | n + 1, s => match mm_next P bt ret nL s with
    | some (.inl t) => mm_sk P bt ret nL n t
    | _ => s
theorem mm_skip (hK : mm_mono K) : ∀ (n : Nat) {st st' : mm_St}, mm_sk P bt ret nL n st = st' → mm_W K P bt b ret nL Q st' → mm_W K P bt b ret nL Q st
  | 0, _, _, e, h => by cases e; exact h
  | n + 1, st, st', e, h => by
    cases hn : mm_next P bt ret nL st with
    | none => rw [mm_sk, hn] at e; cases e; exact h
    | some q =>
      cases q with
      | inl t =>
        rw [mm_sk, hn] at e
        exact mm_fold hK (by rw [hn]; exact mm_skip hK n e h)
      | inr t => rw [mm_sk, hn] at e; cases e; exact h
end MMW
/-- a method's row in the table: name, code, locals, answer, budget, the small machine's program -/
abbrev mm_T : Type := MethodName × ByteArray × Nat × Option FieldType × Nat × mm_P
def mm_bt (T : List mm_T) (j : Nat) : Nat := match T[j]? with
  | some t => t.2.2.2.2.1
  | none => 0
/-- method j, with at most d calls open above one another -/
def mm_call (T : List mm_T) : Nat → mm_K
  | 0, _, _, _, _ => False
  | d + 1, j, a, M, Q => match T[j]? with
    | none => False
    | some t => (lg_sl a).length ≤ t.2.2.1 ∧ mm_W (mm_call T d) t.2.2.2.2.2 (mm_bt T) t.2.2.2.2.1 t.2.2.2.1 t.2.2.1 Q (0, lv_args 0 a, [], M, 0)
theorem mm_call_mono (T : List mm_T) : ∀ d, mm_mono (mm_call T d)
  | 0 => fun _ _ _ _ _ _ h => h
  | d + 1 => fun j a M Q Q' hQ h => by
    unfold mm_call at h ⊢
    split at h
    · exact h
    · next t ht => exact ⟨h.1, mm_W_mono (mm_call_mono T d) hQ h.2⟩
theorem mm_call_up (T : List mm_T) : ∀ d j a M Q, mm_call T d j a M Q → mm_call T (d + 1) j a M Q
  | 0, _, _, _, _, h => h.elim
  | d + 1, j, a, M, Q, h => by
    unfold mm_call at h ⊢
    split at h
    · exact h
    · next t ht =>
      refine ⟨h.1, h.2 _ (fun s q => ?_)⟩
      refine mm_fold (mm_call_mono T (d + 1)) ?_
      revert q
      cases mm_next t.2.2.2.2.2 (mm_bt T) t.2.2.2.1 t.2.2.1 s with
      | none => exact id
      | some o =>
        rcases o with o | o | o | o | o
        · exact id
        · exact id
        · exact id
        · exact id
        · exact fun q => ⟨q.1, mm_call_up T d _ _ _ _ q.2⟩
theorem mm_call_le (T : List mm_T) {d d' : Nat} (h : d ≤ d') {j : Nat} {a : List Value} {M : mm_M} {Q : mm_R → mm_M → Prop} (q : mm_call T d j a M Q) : mm_call T d' j a M Q := by
  induction h with
  | refl => exact q
  | step _ ih => exact mm_call_up T _ _ _ _ _ ih
/-- the world with addresses: ad gives each place's, aC the classes of int[] and long[] -/
def mm_v (ad : Nat → Nat) : Value → Value
  | .ref k => .ref (ad k)
  | v => v
def mm_en (ad aC : Nat → Nat) : va_E → va_E
  | .inl a => .inl (aC a.1, a.2)
  | .inr o => .inr (o.1, o.2.map (mm_v ad))
def mm_w (ad aC : Nat → Nat) : Nat → mm_M → va_W
  | _, [] => []
  | k, x :: M => (ad k, mm_en ad aC x) :: mm_w ad aC (k + 1) M
def mm_ty (aC : Nat → Nat) : List (ClassId × FieldType) := [(aC 0, .int), (aC 1, .long)]
