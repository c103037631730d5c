/-! fractions, and Euclid's way in at most so many turns -/
abbrev fr : Type := Int × Int
/-- a fraction as it is kept: it fits, and in lowest terms -/
def fv (x : fr) : Prop := 0 < x.2 ∧ x.2 ≤ 2147483647 ∧ -2147483647 ≤ x.1 ∧ x.1 ≤ 2147483647 ∧ Int.gcd x.1 x.2 = 1
def ffit (p q : Int) : Bool := decide (p ≤ 2147483647) && decide (-2147483647 ≤ p) && decide (q ≤ 2147483647)
/-- p / q in lowest terms, if that fits -/
def fmk (p q : Int) : Option fr := if ffit (p / (Int.gcd p q : Int)) (q / (Int.gcd p q : Int)) = true then some (p / (Int.gcd p q : Int), q / (Int.gcd p q : Int)) else none
theorem gcd_pos {p q : Int} (hq : 0 < q) : 0 < (Int.gcd p q : Int) := by
  have h : 0 < Int.gcd p q := Int.gcd_pos_of_ne_zero_right p (by omega)
  omega
theorem fmk_v {p q : Int} (hq : 0 < q) {v : fr} (h : fmk p q = some v) : fv v := by
  unfold fmk at h
  split at h
  · next hf =>
    cases h
    have hg := gcd_pos (p := p) hq
    unfold ffit at hf
    rw [Bool.and_eq_true, Bool.and_eq_true, decide_eq_true_eq, decide_eq_true_eq, decide_eq_true_eq] at hf
    obtain ⟨⟨h1, h2⟩, h3⟩ := hf
    have hd := Int.gcd_dvd_right (a := p) (b := q)
    have hq2 : 0 < q / (Int.gcd p q : Int) := Int.ediv_pos_of_pos_of_dvd hq (Int.le_of_lt hg) hd
    refine ⟨hq2, h3, h2, h1, ?_⟩
    have h4 : 0 < Int.gcd p q := by omega
    exact Int.gcd_ediv_gcd_ediv_gcd h4
  · cases h
def eu : Nat → Nat → Nat → Nat
  | 0, a, _ => a
  | n + 1, a, b => if b = 0 then a else eu n b (a % b)
def fb : Nat → Nat
  | 0 => 1
  | 1 => 2
  | n + 2 => fb (n + 1) + fb n
theorem fb_pos : ∀ n, 0 < fb n
  | 0 => by decide
  | 1 => by decide
  | n + 2 => by
    have h := fb_pos n
    show 0 < fb (n + 1) + fb n
    omega
theorem eu_both : ∀ n, (∀ a b, b < fb n → eu n a b = Nat.gcd a b) ∧ ∀ a b, b < fb (n + 1) → eu (n + 1) a b = Nat.gcd a b
  | 0 => by
    refine ⟨fun a b h => ?_, fun a b h => ?_⟩
    · have e : b = 0 := by
        have h : b < 1 := h
        omega
      subst e
      rw [Nat.gcd_zero_right]
      rfl
    · have h : b < 2 := h
      by_cases e : b = 0
      · subst e
        rw [Nat.gcd_zero_right]
        rfl
      · have e1 : b = 1 := by omega
        subst e1
        rw [Nat.gcd_one_right]
        rfl
  | n + 1 => by
    obtain ⟨h0, h1⟩ := eu_both n
    refine ⟨h1, fun a b h => ?_⟩
    have h : b < fb (n + 1) + fb n := h
    show (if b = 0 then a else eu (n + 1) b (a % b)) = Nat.gcd a b
    by_cases e : b = 0
    · rw [if_pos e, e, Nat.gcd_zero_right]
    · rw [if_neg e]
      have hr : a % b < b := Nat.mod_lt _ (by omega)
      have hg : Nat.gcd b (a % b) = Nat.gcd a b := by rw [Nat.gcd_comm a b, Nat.gcd_rec b a, Nat.gcd_comm]
      by_cases hlt : a % b < fb (n + 1)
      · rw [h1 _ _ hlt, hg]
      · have hp := fb_pos (n + 1)
        show (if a % b = 0 then b else eu n (a % b) (b % (a % b))) = Nat.gcd a b
        rw [if_neg (by omega)]
        have hm : b % (a % b) ≤ b - a % b := by
          rw [Nat.mod_eq_sub_mod (Nat.le_of_lt hr)]
          exact Nat.mod_le _ _
        rw [h0 _ _ (by omega), ← hg, Nat.gcd_comm b (a % b), Nat.gcd_rec (a % b) b, Nat.gcd_comm]
theorem fb_le : ∀ n, fb n ≤ fb (n + 1)
  | 0 => by decide
  | n + 1 => by
    show fb (n + 1) ≤ fb (n + 1) + fb n
    omega
theorem fb_100 : 9223372036854775808 ≤ fb 100 := by decide +kernel
theorem eu_100 {a b : Nat} (h : b < 9223372036854775808) : eu 100 a b = Nat.gcd a b := (eu_both 100).1 a b (Nat.lt_of_lt_of_le h fb_100)
