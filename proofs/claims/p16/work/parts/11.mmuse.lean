/-! how a method is walked on the small machine -/
theorem mm_lk_mem {α : Type} : ∀ {l : List (Nat × α)} {k : Nat} {v : α}, mm_lk l k = some v → (k, v) ∈ l
  | [], _, _, h => by cases h
  | (a, b) :: t, k, v, h => by
    unfold mm_lk at h
    cases hb : Nat.beq a k with
    | true =>
      rw [hb] at h
      have e1 : b = v := by simpa using h
      have e2 : a = k := Nat.eq_of_beq_eq_true hb
      subst e1; subst e2
      exact List.mem_cons_self
    | false =>
      rw [hb] at h
      exact List.mem_cons_of_mem _ (mm_lk_mem h)
section MMU
variable {K : mm_K} {P : mm_P} {bt : Nat → Nat} {b : Nat} {ret : Option FieldType} {nL : Nat} {Q : mm_R → mm_M → Prop}
theorem mm_need (hK : mm_mono K) {st s' : mm_St} {c : Prop} (e : mm_next P bt ret nL st = mm_n c s') (hc : c) (h : mm_W K P bt b ret nL Q s') : mm_W K P bt b ret nL Q st := mm_fold hK (by rw [e]; exact ⟨hc, h⟩)
theorem mm_branch (hK : mm_mono K) {st s1 s2 : mm_St} {c : Prop} (e : mm_next P bt ret nL st = mm_b c s1 s2) (h1 : c → mm_W K P bt b ret nL Q s1) (h2 : ¬ c → mm_W K P bt b ret nL Q s2) : mm_W K P bt b ret nL Q st := mm_fold hK (by rw [e]; exact ⟨h1, h2, trivial⟩)
theorem mm_ret (hK : mm_mono K) {st : mm_St} {c : Prop} {r : mm_R} {M : mm_M} {u : Nat} (e : mm_next P bt ret nL st = mm_e c r M u) (hc : c) (hu : u ≤ b) (h : Q r M) : mm_W K P bt b ret nL Q st := mm_fold hK (by rw [e]; exact ⟨hc, hu, h⟩)
theorem mm_inv (hK : mm_mono K) {st : mm_St} {j : Nat} {a : List Value} {M : mm_M} {k : Option Value → mm_M → mm_St} {ce : String → mm_M → Option (Option mm_St)} {u : Nat} (e : mm_next P bt ret nL st = some (.inr (.inr (.inr (.inr (j, a, M, k, ce, u)))))) (hu : u ≤ b)
    (h : K j a M (mm_rs Q (mm_W K P bt b ret nL Q) k ce)) : mm_W K P bt b ret nL Q st := mm_fold hK (by rw [e]; exact ⟨hu, h⟩)
theorem mm_switch (hK : mm_mono K) {st : mm_St} {w : List (Prop × mm_St)} (e : mm_next P bt ret nL st = some (.inr (.inr (.inl w)))) (h : mm_all (mm_W K P bt b ret nL Q) w) : mm_W K P bt b ret nL Q st := mm_fold hK (by rw [e]; exact h)
end MMU
theorem mm_in {T : List mm_T} {d j : Nat} {t : mm_T} {a : List Value} {M : mm_M} {Q : mm_R → mm_M → Prop} (ht : T[j]? = some t) (hl : (lg_sl a).length ≤ t.2.2.1) (h : mm_W (mm_call T d) t.2.2.2.2.2 (mm_bt T) t.2.2.2.2.1 t.2.2.2.1 t.2.2.1 Q (0, lv_args 0 a, [], M, 0)) : mm_call T (d + 1) j a M Q := by
  unfold mm_call
  rw [ht]
  exact ⟨hl, h⟩
abbrev mm_cu : Type := Int32 × Int32 × Int32 × Int32 × Int32 × Int32 × Int32
