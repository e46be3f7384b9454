/-! numbers mod 10007: powers by squaring, what turns a number about -/
def plN (x : Nat) : List Bool → Nat → Nat
  | [], h => h
  | b :: l, h => plN x l (cond b (h * h % 10007 * x % 10007) (h * h % 10007))
def bits5 : List Bool := [true, false, false, true, true, true, false, false, false, true, false, true, false, true]
def blV : List Bool → Nat → Nat
  | [], m => m
  | b :: l, m => blV l (cond b (m + m + 1) (m + m))
theorem plN_pw (x : Nat) : ∀ (l : List Bool) (h m : Nat), (h : Int) = pw (x : Int) m → ((plN x l h : Nat) : Int) = pw (x : Int) (blV l m)
  | [], h, m, e => e
  | b :: l, h, m, e => by
    simp only [plN, blV]
    refine plN_pw x l _ _ ?_
    have h1 : ((h * h % 10007 : Nat) : Int) = pw (x : Int) (m + m) := by
      rw [← pw_add, ← e]; simp
    cases b with
    | false => exact h1
    | true =>
      show ((h * h % 10007 * x % 10007 : Nat) : Int) = pw (x : Int) (m + m) * (x : Int) % 10007
      rw [← h1]; simp [mq_l]
theorem pw5 {z : Int} (hz : 0 ≤ z) : pw z 10005 = ((plN z.toNat bits5 1 : Nat) : Int) := by
  have := plN_pw z.toNat bits5 1 0 rfl
  rw [this, show blV bits5 0 = 10005 from rfl, show ((z.toNat : Nat) : Int) = z by omega]
def ifQ : Nat → Int
  | 0 => 1
  | n + 1 => ifQ n * ((plN (n + 1) bits5 1 : Nat) : Int) % 10007
theorem ifQ_eq : ∀ n, ifc n = ifQ n
  | 0 => rfl
  | n + 1 => by rw [ifc, ifQ, ifQ_eq n, pw5 (by omega)]; rfl
theorem N_ch : ∀ n, n < 10 → ∀ k, k < n + 1 → fcl n * ((plN (fcl k * fcl (n - k) % 10007).toNat bits5 1 : Nat) : Int) % 10007 = chs n k := by decide +kernel
theorem N_if : ∀ n, n < 10 → ((plN (fcl n).toNat bits5 1 : Nat) : Int) = ifQ n := by decide +kernel
theorem N_fi : ∀ n, n < 10 → fcl n * ifQ n % 10007 = 1 := by decide +kernel
def fo (x : Nat) : Bool := Nat.beq (x * plN x bits5 1 % 10007) 1
def fal : Nat → Nat → Bool
  | 0, lo => fo lo
  | k + 1, lo => fal k lo && fal k (lo + 2 ^ k)
theorem fal_spec : ∀ (k lo : Nat), fal k lo = true → ∀ x, lo ≤ x → x < lo + 2 ^ k → fo x = true
  | 0, lo, h, x, h1, h2 => by
    have : x = lo := by simp at h2; omega
    subst this; exact h
  | k + 1, lo, h, x, h1, h2 => by
    simp only [fal, Bool.and_eq_true] at h
    rw [Nat.pow_succ] at h2
    by_cases e : x < lo + 2 ^ k
    · exact fal_spec k lo h.1 x h1 e
    · exact fal_spec k (lo + 2 ^ k) h.2 x (by omega) (by omega)
theorem F_13 : fal 13 1 = true := by decide +kernel
theorem F_10 : fal 10 8193 = true := by decide +kernel
theorem F_9 : fal 9 9217 = true := by decide +kernel
theorem F_8 : fal 8 9729 = true := by decide +kernel
theorem F_4 : fal 4 9985 = true := by decide +kernel
theorem F_2 : fal 2 10001 = true := by decide +kernel
theorem F_1 : fal 1 10005 = true := by decide +kernel
theorem fo_all {x : Nat} (h1 : 1 ≤ x) (h2 : x < 10007) : fo x = true := by
  by_cases e1 : x < 8193
  · exact fal_spec _ _ F_13 x h1 (by omega)
  by_cases e2 : x < 9217
  · exact fal_spec _ _ F_10 x (by omega) (by omega)
  by_cases e3 : x < 9729
  · exact fal_spec _ _ F_9 x (by omega) (by omega)
  by_cases e4 : x < 9985
  · exact fal_spec _ _ F_8 x (by omega) (by omega)
  by_cases e5 : x < 10001
  · exact fal_spec _ _ F_4 x (by omega) (by omega)
  by_cases e6 : x < 10005
  · exact fal_spec _ _ F_2 x (by omega) (by omega)
  · exact fal_spec _ _ F_1 x (by omega) (by omega)
/-- a number that is not 0, turned about -/
theorem turnN {z : Int} (h1 : 0 < z) (h2 : z < 10007) : z * pw z 10005 % 10007 = 1 := by
  have h := fo_all (x := z.toNat) (by omega) (by omega)
  have h3 : z.toNat * plN z.toNat bits5 1 % 10007 = 1 := Nat.eq_of_beq_eq_true h
  rw [pw5 (by omega)]
  have h4 : ((z.toNat * plN z.toNat bits5 1 % 10007 : Nat) : Int) = 1 := by rw [h3]; rfl
  rw [← h4, show (z : Int) = ((z.toNat : Nat) : Int) by omega]
  simp
theorem mq_can {z a b : Int} (h1 : 0 < z) (h2 : z < 10007) (h : z * a % 10007 = z * b % 10007) : a % 10007 = b % 10007 := by
  have h3 := turnN h1 h2
  have e : ∀ c : Int, c % 10007 = pw z 10005 * (z * c % 10007) % 10007 := by
    intro c
    rw [mq_r, ← Int.mul_assoc, Int.mul_comm (pw z 10005) z, ← mq_l, h3, Int.one_mul]
  rw [e a, e b, h]
