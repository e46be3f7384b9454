/-! series put into one another, turned about -/
theorem mulS_congr {a b c d : Nat → Int} {n : Nat} (h1 : ∀ j, j ≤ n → a j = c j) (h2 : ∀ j, j ≤ n → b j = d j) : mulS a b n = mulS c d n :=
  mulS_mq (fun j hj => by rw [h1 j hj]) (fun j hj => by rw [h2 j hj])
theorem ho_lc {s t : Nat → Int} (rs : rok s) : ∀ k, k ≤ 9 → hoS s t k = lcS (fun i => s (9 - k + i)) (pS t) (k + 1)
  | 0, _ => by
    funext n
    have h9 := rs 9 (by omega)
    have e : lcS (fun i => s (9 - 0 + i)) (pS t) (0 + 1) n = (0 + s 9 * conS 1 n) % 10007 := rfl
    rw [e]
    show conS (s 9) n = _
    rw [conS_v, conS_v]
    split <;> omega
  | k + 1, hk => by
    funext n
    have h1 : mulS (hoS s t k) t n = sm (fun i => s (9 - k + i) * pS t (i + 1) n) (k + 1) % 10007 := by
      rw [ho_lc rs k (by omega), lcS_mul]; rfl
    have h2 : lcS (fun i => s (9 - (k + 1) + i)) (pS t) (k + 1 + 1) n = (s (8 - k) * conS 1 n + sm (fun i => s (9 - k + i) * pS t (i + 1) n) (k + 1)) % 10007 := by
      show sm (fun i => s (9 - (k + 1) + i) * pS t i n) (k + 1 + 1) % 10007 = _
      rw [sm_snoc, sm_congr (n := k + 1) (g := fun i => s (9 - k + i) * pS t (i + 1) n) (fun i hi => by rw [show 9 - (k + 1) + (i + 1) = 9 - k + i by omega]), show 9 - (k + 1) + 0 = 8 - k by omega]
      rfl
    rw [h2]
    by_cases e : n = 0
    · subst e
      rw [hoS, up_eq, h1, conS_v, if_pos rfl]; omega
    · rw [hoS, up_ne _ _ e, h1, conS_v, if_neg e]; simp
theorem ra_ps {s : Nat → Int} {n : Nat} (hn : n < 1024) : ∀ k, k ≤ 10 → raS s n k = pS s (n / 2 ^ (10 - k))
  | 0, _ => by rw [show n / 2 ^ (10 - 0) = 0 from Nat.div_eq_of_lt hn]; rfl
  | k + 1, hk => by
    have h1 := ra_ps (s := s) hn k (by omega)
    have h2 : n / 2 ^ (10 - k) = n / 2 ^ (9 - k) / 2 := by
      rw [show 10 - k = (9 - k) + 1 by omega, Nat.pow_succ, Nat.div_div_eq_div_mul]
    rw [h2] at h1
    rw [show 10 - (k + 1) = 9 - k by omega, raS, h1]
    generalize n / 2 ^ (9 - k) = q
    split
    · rw [← pS_add]; show pS s (_ + 1) = _; congr 1; omega
    · rw [← pS_add]; congr 1; omega
theorem ra_eq {s : Nat → Int} {n : Nat} (hn : n < 1024) : raS s n 10 = pS s n := by
  rw [ra_ps hn 10 (by omega), show n / 2 ^ (10 - 10) = n from Nat.div_one n]
theorem fl_fc (m : Nat) : ∀ j, fcl (m + j) % 10007 = fcl m * flS m j % 10007
  | 0 => by simp [flS]
  | j + 1 => by
    rw [show m + (j + 1) = (m + j) + 1 by omega, fcl, flS, mq_r, ← Int.mul_assoc, ← mq_l (fcl m * flS m j), ← fl_fc m j, mq_l]
    omega
theorem wk_sm (x y : Nat → Int) (n : Nat) : ∀ J, wkT x y n J = sm (fun j => x j * flS n j % 10007 * y (n + j)) J % 10007
  | 0 => rfl
  | J + 1 => by rw [wkT, wk_sm x y n J, sm]; omega
theorem wk_term {a b c f fc fl : Int} (h1 : fc % 10007 = f * fl % 10007) (h2 : f * c % 10007 = 1) : a * (b * fc % 10007) * c % 10007 = a * fl % 10007 * b % 10007 := by
  rw [← mq_l (a * (b * fc % 10007)), mq_r, mq_l, show a * (b * fc) * c = a * b * c * fc by grind, ← mq_r, h1, mq_r, show a * b * c * (f * fl) = a * b * fl * (f * c) by grind, ← mq_r, h2, mq_l]
  congr 1; grind
/-! differences -/
def wS (k i : Nat) : Int := if (k - i) % 2 = 0 then chs k i else -chs k i
theorem chs_big : ∀ n k, n < k → chs n k = 0
  | 0, 0, h => by omega
  | 0, k + 1, _ => rfl
  | n + 1, 0, h => by omega
  | n + 1, k + 1, h => by rw [chs, chs_big n k (by omega), chs_big n (k + 1) (by omega)]; rfl
theorem chs_0 : ∀ n, chs n 0 = 1
  | 0 => rfl
  | _ + 1 => rfl
theorem chs_nn : ∀ n, chs n n = 1
  | 0 => rfl
  | n + 1 => by rw [chs, chs_nn n, chs_big n (n + 1) (by omega)]; rfl
theorem wS_0 (k : Nat) : wS (k + 1) 0 = -wS k 0 := by
  unfold wS
  rw [chs_0, chs_0]
  by_cases e : (k - 0) % 2 = 0
  · rw [if_pos e, if_neg (by omega)]
  · rw [if_neg e, if_pos (by omega)]; rfl
theorem wS_s {k i : Nat} (h : i ≤ k) : wS (k + 1) (i + 1) = wS k i - wS k (i + 1) := by
  unfold wS
  rw [chs]
  by_cases e : i = k
  · subst e
    rw [chs_big i (i + 1) (by omega), if_pos (by omega), if_pos (by omega), if_pos (by omega)]; omega
  · by_cases e2 : (k - i) % 2 = 0
    · rw [if_pos (by omega), if_pos e2, if_neg (by omega)]; omega
    · rw [if_neg (by omega), if_neg e2, if_pos (by omega)]; omega
theorem sm_sub (f g : Nat → Int) : ∀ n, sm (fun i => f i - g i) n = sm f n - sm g n
  | 0 => rfl
  | n + 1 => by simp only [sm]; rw [sm_sub f g n]; omega
def dD (v : Nat → Int) (k j : Nat) : Int := sm (fun i => wS k i * v (j - k + i)) (k + 1)
theorem dD_s (v : Nat → Int) {k j : Nat} (h : k + 1 ≤ j) : dD v (k + 1) j = dD v k j - dD v k (j - 1) := by
  have h1 : dD v (k + 1) j = -wS k 0 * v (j - 1 - k) + (dD v k j - sm (fun i => wS k (i + 1) * v (j - k + i)) (k + 1)) := by
    unfold dD
    rw [sm_snoc, wS_0, show j - (k + 1) + 0 = j - 1 - k by omega, ← sm_sub]
    congr 1
    refine sm_congr (fun i hi => ?_)
    rw [wS_s (by omega), show j - (k + 1) + (i + 1) = j - k + i by omega, Int.sub_mul]
  have h2 : dD v k (j - 1) = wS k 0 * v (j - 1 - k) + sm (fun i => wS k (i + 1) * v (j - k + i)) k := by
    unfold dD
    rw [sm_snoc, show j - 1 - k + 0 = j - 1 - k by omega]
    congr 1
    refine sm_congr (fun i hi => ?_)
    rw [show j - 1 - k + (i + 1) = j - k + i by omega]
  have h3 : wS k (k + 1) = 0 := by unfold wS; rw [chs_big k (k + 1) (by omega)]; split <;> rfl
  rw [h1, h2, sm, h3]
  simp only [Int.zero_mul, Int.neg_mul]
  omega
theorem df_dD (v : Nat → Int) : ∀ k j, k ≤ j → dfT v k j % 10007 = dD v k j % 10007
  | 0, j, _ => by
    show v j % 10007 = (0 + wS 0 0 * v (j - 0 + 0)) % 10007
    rw [show wS 0 0 = 1 from rfl]; simp
  | k + 1, j, h => by
    have h1 := df_dD v k j (by omega)
    have h2 := df_dD v k (j - 1) (by omega)
    rw [dD_s v h]
    show (if k + 1 ≤ j then (dfT v k j - dfT v k (j - 1)) % 10007 else dfT v k j) % 10007 = _
    rw [if_pos h]; omega
theorem df_st (v : Nat → Int) (k : Nat) : ∀ m, dfT v (k + m) k = dfT v k k
  | 0 => rfl
  | m + 1 => by
    show (if k + m + 1 ≤ k then (dfT v (k + m) k - dfT v (k + m) (k - 1)) % 10007 else dfT v (k + m) k) = _
    rw [if_neg (by omega), df_st v k m]
theorem df_9 (v : Nat → Int) {k : Nat} (h : k < 10) : dfT v 9 k = dfT v k k := by
  have := df_st v k (9 - k)
  rw [show k + (9 - k) = 9 by omega] at this
  exact this
theorem df_in {v : Nat → Int} (rv : rok v) {k : Nat} (h : k < 10) : 0 ≤ dfT v k k ∧ dfT v k k < 10007 := by
  cases k with
  | zero => exact rv 0 (by omega)
  | succ k =>
    show 0 ≤ (if k + 1 ≤ k + 1 then _ else _) ∧ (if k + 1 ≤ k + 1 then _ else _) < 10007
    rw [if_pos (by omega)]; omega
/-- values from differences -/
theorem newt (v : Nat → Int) : ∀ k i, dfT v i (i + k) % 10007 = sm (fun m => chs k m * dfT v (i + m) (i + m)) (k + 1) % 10007
  | 0, i => by
    show dfT v i i % 10007 = (0 + 1 * dfT v i i) % 10007
    simp
  | k + 1, i => by
    have h1 := newt v k i
    have h2 := newt v k (i + 1)
    have h3 : dfT v (i + 1) (i + 1 + k) % 10007 = (dfT v i (i + 1 + k) - dfT v i (i + k)) % 10007 := by
      show (if i + 1 ≤ i + 1 + k then (dfT v i (i + 1 + k) - dfT v i (i + 1 + k - 1)) % 10007 else _) % 10007 = _
      rw [if_pos (by omega), show i + 1 + k - 1 = i + k by omega]; omega
    have h4 : sm (fun m => chs (k + 1) m * dfT v (i + m) (i + m)) (k + 1 + 1) = sm (fun m => chs k m * dfT v (i + m) (i + m)) (k + 1) + sm (fun m => chs k m * dfT v (i + 1 + m) (i + 1 + m)) (k + 1) := by
      rw [sm_snoc, sm_congr (n := k + 1) (g := fun m => chs k m * dfT v (i + 1 + m) (i + 1 + m) + chs k (m + 1) * dfT v (i + (m + 1)) (i + (m + 1))) (fun m hm => by
        rw [chs, Int.add_mul, show i + (m + 1) = i + 1 + m by omega]), sm_add]
      rw [sm_snoc (fun m => chs k m * dfT v (i + m) (i + m)) k]
      rw [show sm (fun m => chs k (m + 1) * dfT v (i + (m + 1)) (i + (m + 1))) (k + 1) = sm (fun m => chs k (m + 1) * dfT v (i + (m + 1)) (i + (m + 1))) k + chs k (k + 1) * dfT v (i + (k + 1)) (i + (k + 1)) from rfl, chs_big k (k + 1) (by omega), chs_0, chs_0]
      simp only [Int.zero_mul]
      omega
    rw [show i + (k + 1) = i + 1 + k by omega, h4]
    omega
theorem hv_lc (a : Nat → Int) (Y : Nat → Nat → Int) (K : Nat) (p : Int) : ∀ m, hv (lcS a Y K) p m = sm (fun k => a k * hv (Y k) p m) K % 10007
  | 0 => by rw [sm_0 (fun k hk => by simp [hv])]; rfl
  | m + 1 => by
    have h1 : sm (fun k => a k * hv (Y k) p (m + 1)) K % 10007 = sm (fun k => a k * hv (Y k) p m * p + a k * Y k (9 - m)) K % 10007 := by
      refine mq_sm (fun k hk => ?_)
      rw [hv, mq_r, Int.mul_add, Int.mul_assoc]
    rw [h1, sm_add, sm_mr, hv, hv_lc a Y K p m]
    have h2 := mq_l (sm (fun k => a k * hv (Y k) p m) K) p
    show (_ + sm (fun k => a k * Y k (9 - m)) K % 10007) % 10007 = _
    omega
/-! products of t - r -/
def lnS (r : Int) : Nat → Int := up tS 0 (-r)
theorem tf_mul (r : Int) (c : Nat → Int) : tfS r c = mulS (lnS r) c := by
  funext n
  unfold mulS tfS
  rw [sm_snoc]
  have e0 : lnS r 0 = -r := rfl
  have e1 : lnS r 1 = 1 := rfl
  by_cases e : n = 0
  · subst e; rw [if_pos rfl]; show _ = (lnS r 0 * c 0 + 0) % 10007; rw [e0]; simp
  · rw [if_neg e, sm_1 (k := 0) (by omega) (fun i hi h0 => by
      have : lnS r (i + 1) = 0 := by unfold lnS tS; rw [up_ne _ _ (by omega), up_ne _ _ (by omega)]
      rw [this, Int.zero_mul]), e0]
    show _ = (-r * c (n - 0) + lnS r 1 * c (n - 1)) % 10007
    rw [e1, show n - 0 = n by omega, Int.one_mul, Int.neg_mul]
    congr 1; omega
theorem mulS_addr (a b c : Nat → Int) (n : Nat) : mulS a (fun j => b j + c j) n = (mulS a b n + mulS a c n) % 10007 := by
  unfold mulS
  rw [sm_congr (g := fun i => a i * b (n - i) + a i * c (n - i)) (fun i hi => Int.mul_add _ _ _), sm_add]
  omega
theorem mulS_subr (a b c : Nat → Int) (n : Nat) : mulS a (fun j => b j - c j) n = (mulS a b n - mulS a c n) % 10007 := by
  unfold mulS
  rw [sm_congr (g := fun i => a i * b (n - i) - a i * c (n - i)) (fun i hi => Int.mul_sub _ _ _), sm_sub]
  omega
/-! quotients -/
theorem qS_mul {a b : Nat → Int} (h1 : 0 < b 0) (h2 : b 0 < 10007) (n : Nat) : mulS (qS a b) b n = a n % 10007 := by
  have h3 := turnN h1 h2
  unfold mulS
  rw [sm, show n - n = 0 by omega]
  have e : qS a b n * b 0 % 10007 = (a n - sm (fun k => qS a b k * b (n - k)) n) % 10007 := by
    rw [qS_eq2, mq_l, Int.mul_assoc, Int.mul_comm (pw (b 0) 10005), ← mq_r, h3, Int.mul_one]
    omega
  omega
theorem qS_congr (a : Nat → Int) {b d : Nat → Int} {N : Nat} (h : ∀ j, j ≤ N → b j = d j) : ∀ m n, n < m → n ≤ N → qS a b n = qS a d n
  | 0, n, h1, _ => by omega
  | m + 1, n, h1, h2 => by
    rw [qS_eq, qS_eq, h 0 (by omega)]
    congr 4
    refine sm_congr (fun i hi => ?_)
    rw [h (i + 1) (by omega), qS_congr a h m (n - (i + 1)) (by omega) (by omega)]
theorem ptS_congr {x y z : Nat → Int} {n : Nat} (h : ∀ j, j ≤ n → y j = z j) : ptS x y 10 n = ptS x z 10 n := by
  rw [ptS_lc, ptS_lc]
  exact lcS_congr (fun _ _ => rfl) (fun k _ => by rw [pS_congr (N := n) (fun j hj => by rw [h j hj]) k n (by omega)])
