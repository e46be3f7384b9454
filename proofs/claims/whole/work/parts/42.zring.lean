/-! series with numbers mod 10007 under mulS -/
theorem mq_mul {a b c d : Int} (h1 : a % 10007 = b % 10007) (h2 : c % 10007 = d % 10007) : a * c % 10007 = b * d % 10007 := by
  rw [Int.mul_emod, h1, h2, ← Int.mul_emod]
theorem mq_l (a b : Int) : a % 10007 * b % 10007 = a * b % 10007 := mq_mul (by omega) rfl
theorem mq_r (a b : Int) : a * (b % 10007) % 10007 = a * b % 10007 := mq_mul rfl (by omega)
theorem mq_sm {f g : Nat → Int} : ∀ {n : Nat}, (∀ i, i < n → f i % 10007 = g i % 10007) → sm f n % 10007 = sm g n % 10007
  | 0, _ => rfl
  | n + 1, h => by
    have h1 := mq_sm (f := f) (g := g) (n := n) (fun i hi => h i (by omega))
    have h2 := h n (by omega)
    simp only [sm]
    omega
theorem sm_add (f g : Nat → Int) : ∀ n, sm (fun i => f i + g i) n = sm f n + sm g n
  | 0 => rfl
  | n + 1 => by simp only [sm]; rw [sm_add f g n]; omega
theorem sm_mr (f : Nat → Int) (c : Int) : ∀ n, sm (fun i => f i * c) n = sm f n * c
  | 0 => by simp [sm]
  | n + 1 => by simp only [sm]; rw [sm_mr f c n, Int.add_mul]
theorem sm_ml (f : Nat → Int) (c : Int) : ∀ n, sm (fun i => c * f i) n = c * sm f n
  | 0 => by simp [sm]
  | n + 1 => by simp only [sm]; rw [sm_ml f c n, Int.mul_add]
theorem sm_0 {f : Nat → Int} : ∀ {n : Nat}, (∀ i, i < n → f i = 0) → sm f n = 0
  | 0, _ => rfl
  | n + 1, h => by simp only [sm]; rw [sm_0 (fun i hi => h i (by omega)), h n (by omega)]; rfl
theorem sm_1 {f : Nat → Int} {k : Nat} : ∀ {n : Nat}, k < n → (∀ i, i < n → i ≠ k → f i = 0) → sm f n = f k
  | 0, h, _ => by omega
  | n + 1, h, h2 => by
    simp only [sm]
    by_cases e : k = n
    · subst e; rw [sm_0 (fun i hi => h2 i (by omega) (by omega))]; omega
    · rw [sm_1 (k := k) (by omega) (fun i hi => h2 i (by omega)), h2 n (by omega) (by omega)]; omega
theorem sm_tri (g : Nat → Nat → Int) : ∀ N, sm (fun i => sm (g i) (i + 1)) N = sm (fun j => sm (fun k => g (j + k) j) (N - j)) N
  | 0 => rfl
  | N + 1 => by
    have h1 : sm (fun j => sm (fun k => g (j + k) j) (N + 1 - j)) (N + 1) = sm (fun j => sm (fun k => g (j + k) j) (N - j) + g N j) (N + 1) := by
      refine sm_congr (fun j hj => ?_)
      rw [show N + 1 - j = (N - j) + 1 by omega]
      simp only [sm]
      rw [show j + (N - j) = N by omega]
    rw [h1, sm_add]
    show sm (fun i => sm (g i) (i + 1)) N + sm (g N) (N + 1) = sm (fun j => sm (fun k => g (j + k) j) (N - j)) N + sm (fun k => g (N + k) N) (N - N) + sm (g N) (N + 1)
    rw [sm_tri g N, show N - N = 0 by omega]
    show _ = _ + 0 + _
    omega
theorem sm_swap (g : Nat → Nat → Int) (m : Nat) : ∀ n, sm (fun i => sm (g i) m) n = sm (fun j => sm (fun i => g i j) n) m
  | 0 => by simp only [sm]; exact (sm_0 (fun _ _ => rfl)).symm
  | n + 1 => by
    simp only [sm]
    rw [sm_swap g m n, ← sm_add]
theorem mulS_comm (a b : Nat → Int) : mulS a b = mulS b a := by
  funext n
  unfold mulS
  rw [sm_rev]
  congr 1
  refine sm_congr (fun i hi => ?_)
  rw [show n + 1 - 1 - i = n - i by omega, show n - (n - i) = i by omega, Int.mul_comm]
theorem mulS_assoc (a b c : Nat → Int) : mulS (mulS a b) c = mulS a (mulS b c) := by
  funext n
  have h1 : mulS (mulS a b) c n = sm (fun i => sm (fun j => a j * b (i - j) * c (n - i)) (i + 1)) (n + 1) % 10007 := by
    unfold mulS
    refine mq_sm (fun i hi => ?_)
    rw [mq_l, sm_mr]
  have h2 : mulS a (mulS b c) n = sm (fun j => sm (fun k => a j * b (j + k - j) * c (n - (j + k))) (n + 1 - j)) (n + 1) % 10007 := by
    unfold mulS
    refine mq_sm (fun j hj => ?_)
    rw [mq_r, ← sm_ml, show n + 1 - j = n - j + 1 by omega]
    congr 1
    refine sm_congr (fun k hk => ?_)
    rw [show j + k - j = k by omega, show n - (j + k) = n - j - k by omega, Int.mul_assoc]
  rw [h1, h2, sm_tri (fun i j => a j * b (i - j) * c (n - i)) (n + 1)]
theorem mulS_lc (a b c : Nat → Int) : mulS a (mulS b c) = mulS b (mulS a c) := by
  rw [← mulS_assoc, mulS_comm a b, mulS_assoc]
theorem conS_v (v : Int) (n : Nat) : conS v n = if n = 0 then v else 0 := rfl
theorem mulS_con (v : Int) (a : Nat → Int) (n : Nat) : mulS (conS v) a n = v * a n % 10007 := by
  unfold mulS
  rw [sm_1 (k := 0) (by omega) (fun i hi h0 => by unfold conS; rw [up_ne _ _ h0]; omega)]
  unfold conS
  rw [up_eq]; rfl
theorem mulS_one {a : Nat → Int} {n : Nat} (h : 0 ≤ a n ∧ a n < 10007) : mulS (conS 1) a n = a n := by
  rw [mulS_con, Int.one_mul]; omega
theorem mulS_self (a b : Nat → Int) (n : Nat) : mulS a b n % 10007 = mulS a b n := by unfold mulS; omega
theorem mulS_one' (a b : Nat → Int) : mulS (conS 1) (mulS a b) = mulS a b := by
  funext n
  rw [mulS_con, Int.one_mul, mulS_self]
theorem mulS_mq {a b c d : Nat → Int} {n : Nat} (h1 : ∀ j, j ≤ n → a j % 10007 = c j % 10007) (h2 : ∀ j, j ≤ n → b j % 10007 = d j % 10007) : mulS a b n = mulS c d n := by
  unfold mulS
  exact mq_sm (fun i hi => mq_mul (h1 i (by omega)) (h2 (n - i) (by omega)))
/-- combinations of series -/
def lcS (a : Nat → Int) (Y : Nat → Nat → Int) (K : Nat) (n : Nat) : Int := sm (fun k => a k * Y k n) K % 10007
theorem lcS_mul (a : Nat → Int) (Y : Nat → Nat → Int) (K : Nat) (c : Nat → Int) : mulS (lcS a Y K) c = lcS a (fun k => mulS (Y k) c) K := by
  funext n
  have h1 : mulS (lcS a Y K) c n = sm (fun i => sm (fun k => a k * Y k i * c (n - i)) K) (n + 1) % 10007 := by
    unfold mulS lcS
    refine mq_sm (fun i hi => ?_)
    rw [mq_l, sm_mr]
  have h2 : lcS a (fun k => mulS (Y k) c) K n = sm (fun k => sm (fun i => a k * Y k i * c (n - i)) (n + 1)) K % 10007 := by
    unfold mulS lcS
    refine mq_sm (fun k hk => ?_)
    rw [mq_r, ← sm_ml]
    congr 1
    exact sm_congr (fun i hi => (Int.mul_assoc _ _ _).symm)
  rw [h1, h2, sm_swap]
theorem lcS_congr {a b : Nat → Int} {Y Z : Nat → Nat → Int} {K n : Nat} (h1 : ∀ k, k < K → a k % 10007 = b k % 10007) (h2 : ∀ k, k < K → Y k n % 10007 = Z k n % 10007) : lcS a Y K n = lcS b Z K n :=
  mq_sm (fun k hk => mq_mul (h1 k hk) (h2 k hk))
theorem ptS_lc (x y : Nat → Int) : ∀ K, ptS x y K = lcS x (pS y) K
  | 0 => by funext n; simp [ptS, lcS, sm]
  | K + 1 => by
    funext n
    have := congrFun (ptS_lc x y K) n
    simp only [ptS, this]
    unfold lcS
    simp only [sm]
    omega
/-- powers -/
theorem pS_one (a : Nat → Int) (n : Nat) : mulS (pS a n) (conS 1) = pS a n := by
  rw [mulS_comm]
  funext k
  cases n with
  | zero => rw [mulS_con, Int.one_mul, pS, conS_v]; split <;> omega
  | succ n => rw [pS, mulS_one']
theorem pS_add (a : Nat → Int) (m : Nat) : ∀ n, pS a (m + n) = mulS (pS a m) (pS a n)
  | 0 => by rw [pS, pS_one]; rfl
  | n + 1 => by rw [show m + (n + 1) = (m + n) + 1 by omega, pS, pS_add a m n, pS, mulS_assoc]
theorem pS_mul (a b : Nat → Int) : ∀ n, pS (mulS a b) n = mulS (pS a n) (pS b n)
  | 0 => by simp only [pS]; funext k; rw [mulS_con, Int.one_mul, conS_v]; split <;> omega
  | n + 1 => by
    simp only [pS]
    rw [pS_mul a b n, mulS_assoc, mulS_assoc, mulS_lc (pS b n) a b]
theorem pS_in (a : Nat → Int) : ∀ n k, 0 ≤ pS a n k ∧ pS a n k < 10007
  | 0, k => by rw [pS, conS_v]; split <;> omega
  | n + 1, k => mulS_in _ _ _
theorem pS_congr {a b : Nat → Int} {N : Nat} (h : ∀ j, j ≤ N → a j % 10007 = b j % 10007) : ∀ k n, n ≤ N → pS a k n = pS b k n
  | 0, n, _ => rfl
  | k + 1, n, hn => by
    simp only [pS]
    exact mulS_mq (fun j hj => by rw [pS_congr h k j (by omega)]) (fun j hj => h j (by omega))
theorem pS_low {a : Nat → Int} (h : a 0 % 10007 = 0) : ∀ k n, n < k → pS a k n = 0
  | 0, n, hn => by omega
  | k + 1, n, hn => by
    simp only [pS]
    unfold mulS
    rw [mq_sm (g := fun _ => 0) (fun i hi => ?_), sm_0 (fun _ _ => rfl)]
    · rfl
    by_cases e : i < k
    · rw [pS_low h k i e]; simp
    · rw [show n - i = 0 by omega, ← mq_r, h]; simp
/-- the series t -/
def tS : Nat → Int := up (fun _ => 0) 1 1
theorem tS_mul (a : Nat → Int) (n : Nat) : mulS tS a n = if n = 0 then 0 else a (n - 1) % 10007 := by
  by_cases e : n = 0
  · subst e
    rw [if_pos rfl]
    unfold mulS tS
    simp [sm, up]
  · rw [if_neg e]
    unfold mulS
    rw [sm_1 (k := 1) (by omega) (fun i hi h0 => by unfold tS; rw [up_ne _ _ h0]; omega)]
    unfold tS
    rw [up_eq, Int.one_mul]
theorem tS_pow (a : Nat → Int) : ∀ k n, mulS (pS tS k) a n = if n < k then 0 else a (n - k) % 10007
  | 0, n => by rw [pS, mulS_con, Int.one_mul, if_neg (by omega)]; rfl
  | k + 1, n => by
    rw [pS, mulS_assoc, tS_pow (mulS tS a) k n, tS_mul]
    by_cases e : n < k
    · rw [if_pos e, if_pos (by omega)]
    · rw [if_neg e]
      by_cases e2 : n = k
      · rw [if_pos (by omega), if_pos (by omega)]; rfl
      · rw [if_neg (by omega), if_neg (by omega), show n - k - 1 = n - (k + 1) by omega]; omega
theorem tS_pc (k n : Nat) : pS tS k n = if n = k then 1 else 0 := by
  have := tS_pow (conS 1) k n
  rw [pS_one] at this
  rw [this]
  unfold conS up
  by_cases e : n < k
  · rw [if_pos e, if_neg (by omega)]
  · rw [if_neg e]
    by_cases e2 : n = k
    · rw [if_pos (by omega), if_pos e2]; rfl
    · rw [if_neg (by omega), if_neg e2]; rfl
/-- n times the n-th -/
def eS (a : Nat → Int) (n : Nat) : Int := (n : Int) * a n % 10007
theorem eS_mul (a b : Nat → Int) (n : Nat) : eS (mulS a b) n = (mulS (eS a) b n + mulS a (eS b) n) % 10007 := by
  have h1 : mulS (eS a) b n = sm (fun i => (i : Int) * a i * b (n - i)) (n + 1) % 10007 := by
    unfold mulS eS; exact mq_sm (fun i hi => by rw [mq_l])
  have h2 : mulS a (eS b) n = sm (fun i => a i * (((n - i : Nat) : Int) * b (n - i))) (n + 1) % 10007 := by
    unfold mulS eS; exact mq_sm (fun i hi => by rw [mq_r])
  rw [h1, h2]
  unfold eS mulS
  rw [mq_r, ← sm_ml]
  have h3 : sm (fun i => (n : Int) * (a i * b (n - i))) (n + 1) = sm (fun i => (i : Int) * a i * b (n - i)) (n + 1) + sm (fun i => a i * (((n - i : Nat) : Int) * b (n - i))) (n + 1) := by
    rw [← sm_add]
    refine sm_congr (fun i hi => ?_)
    have e : ((n - i : Nat) : Int) = (n : Int) - (i : Int) := by omega
    rw [e]
    generalize a i = x
    generalize b (n - i) = y
    grind
  rw [h3]
  omega
theorem eS_pow (a : Nat → Int) : ∀ k n, eS (pS a (k + 1)) n = ((k + 1 : Nat) : Int) * mulS (pS a k) (eS a) n % 10007
  | 0, n => by
    have h1 : pS a 1 = mulS (conS 1) a := rfl
    rw [h1, show pS a 0 = conS 1 from rfl, mulS_con]
    unfold eS
    rw [mulS_con, Int.one_mul, Int.one_mul, mq_r]
    omega
  | k + 1, n => by
    rw [show pS a (k + 1 + 1) = mulS (pS a (k + 1)) a from rfl, eS_mul]
    have h1 : mulS (eS (pS a (k + 1))) a n = ((k + 1 : Nat) : Int) * mulS (pS a (k + 1)) (eS a) n % 10007 := by
      have h2 : mulS (eS (pS a (k + 1))) a n = mulS (mulS (conS ((k + 1 : Nat) : Int)) (mulS (pS a k) (eS a))) a n := by
        refine mulS_mq (fun j _ => ?_) (fun j _ => rfl)
        rw [eS_pow a k j, mulS_con]
      rw [h2, mulS_assoc, mulS_con, mulS_assoc, mulS_comm (eS a) a, ← mulS_assoc]
      rfl
    rw [h1]
    generalize mulS (pS a (k + 1)) (eS a) n = z
    have : ((k + 1 + 1 : Nat) : Int) * z = ((k + 1 : Nat) : Int) * z + z := by
      rw [show ((k + 1 + 1 : Nat) : Int) = ((k + 1 : Nat) : Int) + 1 from rfl, Int.add_mul, Int.one_mul]
    rw [this]
    omega
