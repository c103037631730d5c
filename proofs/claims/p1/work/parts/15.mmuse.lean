/-! how a method is walked on the small machine -/
section MMU
variable {K : mm_K} {P : mm_P} {bt : Nat → Nat} {b : Nat} {ret : Option FieldType} {nL : Nat} {Q : mm_R → mm_M → Prop}
theorem mm_need (hK : mm_mono K) {st s' : mm_St} {c : Prop} (e : mm_next P bt ret nL st = mm_n c s') (hc : c) (h : mm_W K P bt b ret nL Q s') : mm_W K P bt b ret nL Q st := mm_fold hK (by rw [e]; exact ⟨hc, h⟩)
theorem mm_branch (hK : mm_mono K) {st s1 s2 : mm_St} {c : Prop} (e : mm_next P bt ret nL st = mm_b c s1 s2) (h1 : c → mm_W K P bt b ret nL Q s1) (h2 : ¬ c → mm_W K P bt b ret nL Q s2) : mm_W K P bt b ret nL Q st := mm_fold hK (by rw [e]; exact ⟨h1, h2, trivial⟩)
theorem mm_ret (hK : mm_mono K) {st : mm_St} {c : Prop} {r : mm_R} {M : mm_M} {u : Nat} (e : mm_next P bt ret nL st = mm_e c r M u) (hc : c) (hu : u ≤ b) (h : Q r M) : mm_W K P bt b ret nL Q st := mm_fold hK (by rw [e]; exact ⟨hc, hu, h⟩)
theorem mm_inv (hK : mm_mono K) {st : mm_St} {j : Nat} {a : List Value} {M : mm_M} {k : Option Value → mm_M → mm_St} {ce : String → mm_M → Option (Option mm_St)} {u : Nat} (e : mm_next P bt ret nL st = some (.inr (.inr (.inr (.inr (j, a, M, k, ce, u)))))) (hu : u ≤ b)
    (h : K j a M (mm_rs Q (mm_W K P bt b ret nL Q) k ce)) : mm_W K P bt b ret nL Q st := mm_fold hK (by rw [e]; exact ⟨hu, h⟩)
theorem mm_switch (hK : mm_mono K) {st : mm_St} {w : List (Prop × mm_St)} (e : mm_next P bt ret nL st = some (.inr (.inr (.inl w)))) (h : mm_all (mm_W K P bt b ret nL Q) w) : mm_W K P bt b ret nL Q st := mm_fold hK (by rw [e]; exact h)
end MMU
theorem mm_in {T : List mm_T} {d j : Nat} {t : mm_T} {a : List Value} {M : mm_M} {Q : mm_R → mm_M → Prop} (ht : T[j]? = some t) (hl : (lg_sl a).length ≤ t.2.2.1) (h : mm_W (mm_call T d) t.2.2.2.2.2 (mm_bt T) t.2.2.2.2.1 t.2.2.2.1 t.2.2.1 Q (0, lv_args 0 a, [], M, 0)) : mm_call T (d + 1) j a M Q := by
  unfold mm_call
  rw [ht]
  exact ⟨hl, h⟩
/-- the class's world: RootCompass at 0, its Numbers at 1, its Cut at 2, then its rows -/
abbrev mm_cu : Type := Int32 × Int32 × Int32 × Int32 × Int32 × Int32 × Int32
def wC (ov un : Nat → Int32) (nx dp fa : Int32) (cu : mm_cu) (st fi se th db : Nat → Int32) (cn : Int32) : mm_M :=
  [.inr (2, [.ref 1, .ref 2, .ref 3, .ref 4, .ref 5, .ref 6, .ref 7, .int cn]), .inr (1, [.ref 8, .ref 9, .int 308, .int nx, .int dp, .int fa]),
    .inr (0, [.int cu.1, .int cu.2.1, .int cu.2.2.1, .int cu.2.2.2.1, .int cu.2.2.2.2.1, .int cu.2.2.2.2.2.1, .int cu.2.2.2.2.2.2]),
    .inl (0, 24, .inl st), .inl (0, 24, .inl fi), .inl (0, 24, .inl se), .inl (0, 24, .inl th), .inl (0, 25, .inl db), .inl (0, 1332, .inl ov), .inl (0, 1332, .inl un)]
/-- the reference's world: itself at 0, then its rows -/
def wM (p q op oq : Nat → Int64) (tr dp wi fa ob : Int32) (st of : Nat → Int32) : mm_M :=
  [.inr (3, [.int tr, .int dp, .int wi, .int fa, .ref 1, .ref 2, .ref 3, .ref 4, .int ob, .ref 5, .ref 6]), .inl (1, 480, .inr (.inl p)), .inl (1, 480, .inr (.inl q)), .inl (1, 292, .inr (.inl op)), .inl (1, 292, .inr (.inl oq)), .inl (0, 24, .inl st), .inl (0, 96, .inl of)]
