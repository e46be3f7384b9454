/-! a series turned about: by powers of what it divides t by, and by one term after the other -/
theorem sm_cut {f : Nat → Int} {M : Nat} : ∀ {N : Nat}, M ≤ N → (∀ i, M ≤ i → i < N → f i = 0) → sm f N = sm f M
  | 0, h, _ => by rw [show M = 0 by omega]
  | N + 1, h, h2 => by
    by_cases e : M = N + 1
    · subst e; rfl
    · rw [sm, sm_cut (M := M) (by omega) (fun i h3 h4 => h2 i h3 (by omega)), h2 N (by omega) (by omega)]; omega
theorem cp_mul {F : Nat → Int} (h0 : F 0 = 0) (a b : Nat → Int) {n : Nat} (hn : n < 10) : lcS (mulS a b) (pS F) 10 n = mulS (lcS a (pS F) 10) (lcS b (pS F) 10) n := by
  have h1 : lcS (mulS a b) (pS F) 10 n = sm (fun i => sm (fun j => a j * b (i - j) * pS F i n) (i + 1)) 10 % 10007 := by
    refine mq_sm (fun i hi => ?_)
    show sm (fun j => a j * b (i - j)) (i + 1) % 10007 * pS F i n % 10007 = _
    rw [mq_l, sm_mr]
  have h3 : ∀ j, mulS (pS F j) (lcS b (pS F) 10) = lcS b (fun k => pS F (j + k)) 10 := by
    intro j
    rw [mulS_comm, lcS_mul]
    congr 1
    funext k
    rw [mulS_comm, ← pS_add]
  have h2 : mulS (lcS a (pS F) 10) (lcS b (pS F) 10) n = sm (fun j => sm (fun k => a j * b k * pS F (j + k) n) 10) 10 % 10007 := by
    rw [lcS_mul]
    show sm (fun j => a j * mulS (pS F j) (lcS b (pS F) 10) n) 10 % 10007 = _
    refine mq_sm (fun j hj => ?_)
    rw [h3]
    unfold lcS
    rw [mq_r, ← sm_ml]
    congr 1
    exact sm_congr (fun k hk => (Int.mul_assoc _ _ _).symm)
  rw [h1, h2, sm_tri (fun i j => a j * b (i - j) * pS F i n) 10]
  congr 1
  refine sm_congr (fun j hj => ?_)
  rw [sm_cut (f := fun k => a j * b k * pS F (j + k) n) (M := 10 - j) (N := 10) (by omega) (fun i h3 h4 => by rw [pS_low (by rw [h0]; rfl) (j + i) n (by omega), Int.mul_zero])]
  exact sm_congr (fun k hk => by rw [show j + k - j = k by omega])
theorem cp_one (F : Nat → Int) (n : Nat) : lcS (conS 1) (pS F) 10 n = conS 1 n := by
  unfold lcS
  rw [sm_1 (k := 0) (by omega) (fun i _ h => by rw [conS_v, if_neg h, Int.zero_mul])]
  show 1 * conS 1 n % 10007 = conS 1 n
  rw [conS_v]; split <;> rfl
theorem cp_pow {F : Nat → Int} (h0 : F 0 = 0) (a : Nat → Int) : ∀ k n, n < 10 → lcS (pS a k) (pS F) 10 n = pS (lcS a (pS F) 10) k n
  | 0, n, _ => cp_one F n
  | k + 1, n, hn => by
    show lcS (mulS (pS a k) a) (pS F) 10 n = mulS (pS (lcS a (pS F) 10) k) (lcS a (pS F) 10) n
    rw [cp_mul h0 _ _ hn]
    exact mulS_congr (fun j hj => cp_pow h0 a k j (by omega)) (fun _ _ => rfl)
theorem cp_lc (F G : Nat → Int) (Y : Nat → Nat → Int) (n : Nat) : lcS (lcS G Y 10) (pS F) 10 n = lcS G (fun k => lcS (Y k) (pS F) 10) 10 n := by
  have h1 : lcS (lcS G Y 10) (pS F) 10 n = sm (fun i => sm (fun k => G k * Y k i * pS F i n) 10) 10 % 10007 := by
    refine mq_sm (fun i hi => ?_)
    show sm (fun k => G k * Y k i) 10 % 10007 * pS F i n % 10007 = _
    rw [mq_l, sm_mr]
  have h2 : lcS G (fun k => lcS (Y k) (pS F) 10) 10 n = sm (fun k => sm (fun i => G k * Y k i * pS F i n) 10) 10 % 10007 := by
    refine mq_sm (fun k hk => ?_)
    show G k * (sm (fun i => Y k i * pS F i n) 10 % 10007) % 10007 = _
    rw [mq_r, ← sm_ml]
    congr 1
    exact sm_congr (fun i hi => (Int.mul_assoc _ _ _).symm)
  rw [h1, h2, sm_swap]
theorem ps_0 {F : Nat → Int} (h0 : F 0 = 0) {k : Nat} (hk : 0 < k) : pS F k 0 = 0 := pS_low (by rw [h0]; rfl) k 0 hk
theorem tm_0 (x : Nat → Int) : ∀ n, tmS x n 0 = 0
  | 0 => rfl
  | n + 1 => by rw [tmS, up_ne _ _ (by omega), tm_0 x n]
theorem tm_hi (x : Nat → Int) : ∀ n j, n < j → tmS x n j = 0
  | 0, j, _ => rfl
  | n + 1, j, h => by rw [tmS, up_ne _ _ (by omega), tm_hi x n j (by omega)]
theorem up_pow {F : Nat → Int} {n : Nat} {c : Int} (h0 : F 0 = 0) (hc : 0 ≤ c ∧ c < 10007) : ∀ k, pS (up F (n + 1) c) k (n + 1) = if k = 1 then c else pS F k (n + 1)
  | 0 => rfl
  | 1 => by
    rw [if_pos rfl]
    show mulS (conS 1) (up F (n + 1) c) (n + 1) = c
    rw [mulS_con, up_eq]; omega
  | m + 2 => by
    rw [if_neg (by omega)]
    show mulS (pS (up F (n + 1) c) (m + 1)) (up F (n + 1) c) (n + 1) = mulS (pS F (m + 1)) F (n + 1)
    have h0' : up F (n + 1) c 0 = 0 := by rw [up_ne _ _ (by omega), h0]
    unfold mulS
    congr 1
    refine sm_congr (fun i hi => ?_)
    by_cases e : i = 0
    · subst e
      rw [ps_0 h0' (by omega), ps_0 h0 (by omega)]; simp
    by_cases e2 : i = n + 1
    · subst e2
      rw [show n + 1 - (n + 1) = 0 by omega, h0', h0]; simp
    · rw [up_ne F _ (show n + 1 - i ≠ n + 1 by omega), pS_congr (b := F) (N := n) (fun j hj => by rw [up_ne _ _ (by omega)]) (m + 1) i (by omega)]
theorem tm_pt {x : Nat → Int} (h0 : x 0 = 0) (h1 : 0 < x 1) (h2 : x 1 < 10007) : ∀ n, ∀ j, j ≤ n → ptS x (tmS x n) 10 j = tS j
  | 0, j, hj => by
    have : j = 0 := by omega
    subst this
    rw [ptS_lc]
    unfold lcS
    rw [sm_0 (fun k hk => ?_)]
    · rfl
    by_cases e : k = 0
    · subst e; rw [h0, Int.zero_mul]
    · rw [ps_0 (tm_0 x 0) (by omega), Int.mul_zero]
  | n + 1, j, hj => by
    by_cases e : j ≤ n
    · rw [← tm_pt h0 h1 h2 n j e]
      exact ptS_congr (fun i hi => by rw [tmS, up_ne _ _ (by omega)])
    · have : j = n + 1 := by omega
      subst this
      have hF0 := tm_0 x n
      have hF1 := tm_hi x n (n + 1) (by omega)
      have hQ : ptS x (tmS x n) 10 (n + 1) = sm (fun k => x k * pS (tmS x n) k (n + 1)) 10 % 10007 := by rw [ptS_lc]; rfl
      rw [tmS]
      generalize hc : ((if n = 0 then (1 : Int) else 0) - ptS x (tmS x n) 10 (n + 1)) % 10007 * pw (x 1) 10005 % 10007 = c
      have hcr : 0 ≤ c ∧ c < 10007 := by omega
      have hc1 : x 1 * c % 10007 = ((if n = 0 then (1 : Int) else 0) - ptS x (tmS x n) 10 (n + 1)) % 10007 := by
        rw [← hc, mq_r, Int.mul_comm, Int.mul_assoc, Int.mul_comm (pw (x 1) 10005), ← mq_r, turnN h1 h2]
        omega
      have h3 : ptS x (up (tmS x n) (n + 1) c) 10 (n + 1) = sm (fun k => x k * pS (tmS x n) k (n + 1) + (if k = 1 then x 1 * c else 0)) 10 % 10007 := by
        rw [ptS_lc]
        unfold lcS
        congr 1
        refine sm_congr (fun k hk => ?_)
        rw [up_pow hF0 hcr k]
        by_cases e1 : k = 1
        · subst e1
          rw [if_pos rfl, if_pos rfl]
          have : pS (tmS x n) 1 (n + 1) = 0 := by
            show mulS (conS 1) (tmS x n) (n + 1) = 0
            rw [mulS_con, hF1]; rfl
          rw [this]; omega
        · rw [if_neg e1, if_neg e1]; omega
      rw [h3, sm_add, sm_1 (f := fun k => if k = 1 then x 1 * c else 0) (k := 1) (by omega) (fun i _ hi => if_neg hi)]
      have h4 : tS (n + 1) = if n = 0 then (1 : Int) else 0 := by
        unfold tS up
        by_cases e0 : n = 0
        · rw [if_pos (by omega), if_pos e0]
        · rw [if_neg (by omega), if_neg e0]
      rw [h4]
      show (_ + x 1 * c) % 10007 = _
      rw [hQ] at hc1
      split at hc1 <;> omega
theorem mq_cz {u z a b : Int} (h : u * z % 10007 = 1) (h2 : a * z % 10007 = b * z % 10007) : a % 10007 = b % 10007 := by
  have e : ∀ c : Int, c % 10007 = u * (c * z % 10007) % 10007 := by
    intro c
    rw [mq_r, ← Int.mul_assoc, Int.mul_comm u c, Int.mul_assoc, ← mq_r, h, Int.mul_one]
  rw [e a, e b, h2]
section LG
variable {a φ : Nat → Int}
theorem ap_pow (hap : mulS a φ = tS) (n : Nat) : mulS (pS a n) (pS φ n) = pS tS n := by rw [← pS_mul, hap]
theorem ap_1 (ha : a 0 = 0) (hap : mulS a φ = tS) (n : Nat) : pS a n n * pS φ n 0 % 10007 = 1 := by
  have h := congrFun (ap_pow hap n) n
  rw [tS_pc, if_pos rfl] at h
  unfold mulS at h
  rw [sm_1 (k := n) (by omega) (fun i hi hne => by rw [pS_low (by rw [ha]; rfl) n i (by omega), Int.zero_mul]), show n - n = 0 by omega] at h
  exact h
theorem e_low (ha : a 0 = 0) {m i : Nat} (h : i < m) : eS (pS a m) i = 0 := by
  unfold eS
  rw [pS_low (by rw [ha]; rfl) m i h, Int.mul_zero]; rfl
theorem res_gt (ha : a 0 = 0) {m n : Nat} (h : n < m) : mulS (eS (pS a m)) (pS φ n) n = 0 := by
  unfold mulS
  rw [sm_0 (fun i hi => by rw [e_low ha (by omega), Int.zero_mul])]; rfl
theorem res_eq (ha : a 0 = 0) (hap : mulS a φ = tS) (n : Nat) : mulS (eS (pS a n)) (pS φ n) n = (n : Int) % 10007 := by
  unfold mulS
  rw [sm_1 (k := n) (by omega) (fun i hi hne => by rw [e_low ha (by omega), Int.zero_mul]), show n - n = 0 by omega]
  unfold eS
  rw [mq_l, Int.mul_assoc, ← mq_r, ap_1 ha hap n, Int.mul_one]
theorem eS_t : eS tS = tS := by
  funext n
  unfold eS tS up
  by_cases e : n = 1
  · subst e; rfl
  · rw [if_neg e, Int.mul_zero]; rfl
theorem res_lt (hap : mulS a φ = tS) (m r : Nat) (hr : r + 1 < 10007) : mulS (eS (pS a (m + 1))) (pS φ (m + 1 + (r + 1))) (m + 1 + (r + 1)) = 0 := by
  have h1 : mulS (eS (pS a (m + 1))) (pS φ (m + 1 + (r + 1))) (m + 1 + (r + 1)) = mulS (mulS (conS ((m + 1 : Nat) : Int)) (mulS (pS a m) (eS a))) (pS φ (m + 1 + (r + 1))) (m + 1 + (r + 1)) := by
    refine mulS_mq (fun j _ => ?_) (fun j _ => rfl)
    rw [eS_pow a m j, mulS_con]
  have h2 : mulS (mulS (pS a m) (eS a)) (pS φ (m + 1 + (r + 1))) = mulS (pS tS m) (mulS (pS φ (r + 1)) (mulS (eS a) φ)) := by
    rw [show m + 1 + (r + 1) = m + (r + 1 + 1) by omega, pS_add φ m, ← ap_pow hap m, show pS φ (r + 1 + 1) = mulS (pS φ (r + 1)) φ from rfl, mulS_assoc, mulS_assoc, mulS_lc (eS a) (pS φ m), mulS_lc (eS a) (pS φ (r + 1)) φ]
  rw [h1, mulS_assoc, mulS_con, h2, tS_pow, if_neg (by omega), show m + 1 + (r + 1) - m = r + 2 by omega]
  have h3 : ∀ j, mulS (eS a) φ j % 10007 = (tS j - mulS a (eS φ) j) % 10007 := by
    intro j
    have := eS_mul a φ j
    rw [hap, eS_t] at this
    have h4 := mulS_self (eS a) φ j
    have h5 := mulS_self a (eS φ) j
    omega
  have h6 : mulS (pS φ (r + 1)) (mulS (eS a) φ) (r + 2) = mulS (pS φ (r + 1)) (fun j => tS j - mulS a (eS φ) j) (r + 2) := mulS_mq (fun _ _ => rfl) (fun j _ => h3 j)
  have h7 : mulS (pS φ (r + 1)) tS (r + 2) = pS φ (r + 1) (r + 1) % 10007 := by
    rw [mulS_comm, tS_mul, if_neg (by omega)]; rfl
  have h8 : mulS (pS φ (r + 1)) (mulS a (eS φ)) (r + 2) = mulS (pS φ r) (eS φ) (r + 1) % 10007 := by
    rw [show pS φ (r + 1) = mulS (pS φ r) φ from rfl, mulS_assoc, ← mulS_assoc φ a, mulS_comm φ a, hap, mulS_lc, tS_mul, if_neg (by omega)]; rfl
  have h9 : pS φ (r + 1) (r + 1) % 10007 = mulS (pS φ r) (eS φ) (r + 1) % 10007 := by
    have := eS_pow φ r (r + 1)
    unfold eS at this
    exact mq_can (by omega) (by omega) this
  rw [h6, mulS_subr, h7, h8, h9, show mulS (pS φ r) (eS φ) (r + 1) % 10007 - mulS (pS φ r) (eS φ) (r + 1) % 10007 = 0 by omega]
  simp
theorem eS_lc (G : Nat → Int) (Y : Nat → Nat → Int) (K : Nat) : eS (lcS G Y K) = lcS G (fun k => eS (Y k)) K := by
  funext n
  unfold eS lcS
  rw [mq_r, ← sm_ml]
  refine mq_sm (fun k hk => ?_)
  rw [mq_r]
  congr 1
  rw [← Int.mul_assoc, ← Int.mul_assoc, Int.mul_comm (n : Int)]
theorem lagr (ha : a 0 = 0) (hap : mulS a φ = tS) {G : Nat → Int} (hG0 : G 0 = 0) {n : Nat} (h1 : 1 ≤ n) (h2 : n < 10) : mulS (eS (lcS G (pS a) 10)) (pS φ n) n = (n : Int) * G n % 10007 := by
  rw [eS_lc, lcS_mul]
  show sm (fun k => G k * mulS (eS (pS a k)) (pS φ n) n) 10 % 10007 = _
  rw [sm_1 (k := n) h2 (fun k hk hne => ?_)]
  · rw [res_eq ha hap, mq_r, Int.mul_comm]
  by_cases e0 : k = 0
  · subst e0; rw [hG0, Int.zero_mul]
  by_cases e1 : n < k
  · rw [res_gt ha e1, Int.mul_zero]
  · have := res_lt hap (k - 1) (n - k - 1) (by omega)
    rw [show k - 1 + 1 = k by omega, show k + (n - k - 1 + 1) = n by omega] at this
    rw [this, Int.mul_zero]
theorem lag (ha : a 0 = 0) (hap : mulS a φ = tS) {G : Nat → Int} (hG0 : G 0 = 0) (hG : ∀ n : Nat, 1 ≤ n → n < 10 → (n : Int) * G n % 10007 = pS φ n (n - 1) % 10007) : ∀ N n, n < N → n < 10 → lcS G (pS a) 10 n = tS n
  | 0, n, h, _ => by omega
  | N + 1, n, h, h10 => by
    by_cases e0 : n = 0
    · subst e0
      unfold lcS
      rw [sm_0 (fun k hk => ?_)]
      · rfl
      by_cases e : k = 0
      · subst e; rw [hG0, Int.zero_mul]
      · rw [ps_0 ha (by omega), Int.mul_zero]
    · have l1 := lagr ha hap hG0 (n := n) (by omega) h10
      have l2 : mulS (eS tS) (pS φ n) n = pS φ n (n - 1) % 10007 := by rw [eS_t, tS_mul, if_neg e0]
      rw [hG n (by omega) h10, ← l2] at l1
      unfold mulS at l1
      rw [sm, sm, show n - n = 0 by omega, sm_congr (g := fun i => eS tS i * pS φ n (n - i)) (fun i hi => by
        have := lag ha hap hG0 hG N i (by omega) (by omega)
        show (i : Int) * lcS G (pS a) 10 i % 10007 * _ = _
        rw [this]; rfl)] at l1
      have l3 : eS (lcS G (pS a) 10) n * pS φ n 0 % 10007 = eS tS n * pS φ n 0 % 10007 := by
        generalize eS (lcS G (pS a) 10) n * pS φ n 0 = x at *
        generalize eS tS n * pS φ n 0 = y at *
        omega
      have l4 := mq_cz (ap_1 ha hap n) l3
      unfold eS at l4
      have l5 : (n : Int) * lcS G (pS a) 10 n % 10007 = (n : Int) * tS n % 10007 := by omega
      have l6 := mq_can (by omega) (by omega) l5
      have l7 : 0 ≤ tS n ∧ tS n < 10007 := by unfold tS up; split <;> simp
      have l8 : 0 ≤ lcS G (pS a) 10 n ∧ lcS G (pS a) 10 n < 10007 := by unfold lcS; omega
      omega
end LG
theorem tS_1 : tS 1 = 1 := rfl
theorem pS_1 (a : Nat → Int) : pS a 1 = mulS (conS 1) a := rfl
theorem turn_eq {f : Nat → Int} (rf : rok f) (h0 : f 0 = 0) (h1 : f 1 ≠ 0) {j : Nat} (hj : j < 10) : tuS f j = tmS f 9 j := by
  have r1 := rf 1 (by omega)
  have p1 : 0 < f 1 := by omega
  have hB0 : shd f 0 = f 1 := if_pos (by omega)
  have hq : ∀ n, mulS (qS (conS 1) (shd f)) (shd f) n = conS 1 n % 10007 := fun n => qS_mul (by rw [hB0]; exact p1) (by rw [hB0]; exact r1.2) n
  have hap : mulS (mulS tS (shd f)) (qS (conS 1) (shd f)) = tS := by
    rw [mulS_assoc, mulS_comm (shd f)]
    funext n
    rw [tS_mul]
    by_cases e : n = 0
    · subst e; rw [if_pos rfl]; rfl
    · rw [if_neg e, hq, conS_v]
      unfold tS up
      by_cases e1 : n = 1
      · subst e1; rfl
      · rw [if_neg (by omega), if_neg e1]; rfl
  have hfa : ∀ i, i < 10 → mulS tS (shd f) i = f i := by
    intro i hi
    rw [tS_mul]
    by_cases e : i = 0
    · subst e; rw [if_pos rfl, h0]
    · rw [if_neg e]
      have : shd f (i - 1) = f i := by unfold shd; rw [if_pos (by omega), show i - 1 + 1 = i by omega]
      have := rf i hi
      omega
  have ha : mulS tS (shd f) 0 = 0 := by rw [hfa 0 (by omega), h0]
  have hG : ∀ n : Nat, 1 ≤ n → n < 10 → (n : Int) * tuS f n % 10007 = pS (qS (conS 1) (shd f)) n (n - 1) % 10007 := by
    intro n g1 g2
    unfold tuS
    rw [if_neg (by omega), mq_r, Int.mul_comm, Int.mul_assoc, Int.mul_comm (pw (n : Int) 10005), ← mq_r, turnN (by omega) (by omega), Int.mul_one, pS_congr (b := qS (conS 1) (shd f)) (N := 8) (fun i hi => by unfold tbS; rw [up_ne _ _ (by omega)]) n (n - 1) (by omega)]
  have K1 : ∀ n, n < 10 → lcS (tuS f) (pS f) 10 n = tS n := by
    intro n hn
    rw [← lag ha hap (G := tuS f) (if_pos rfl) hG 10 n hn hn]
    exact lcS_congr (fun _ _ => rfl) (fun k _ => by rw [pS_congr (a := f) (b := mulS tS (shd f)) (N := 9) (fun i hi => by rw [hfa i (by omega)]) k n (by omega)])
  have F0 := tm_0 f 9
  have K2 : ∀ n, n < 10 → lcS f (pS (tmS f 9)) 10 n = tS n := fun n hn => by rw [← ptS_lc]; exact tm_pt h0 p1 r1.2 9 n (by omega)
  have K3 : lcS (lcS (tuS f) (pS f) 10) (pS (tmS f 9)) 10 j = tuS f j := by
    rw [cp_lc]
    have : lcS (tuS f) (fun k => lcS (pS f k) (pS (tmS f 9)) 10) 10 j = lcS (tuS f) (pS tS) 10 j := lcS_congr (fun _ _ => rfl) (fun k _ => by
      rw [cp_pow F0 f k j hj, pS_congr (N := 9) (fun i hi => by rw [K2 i (by omega)]) k j (by omega)])
    rw [this]
    unfold lcS
    rw [sm_1 (k := j) hj (fun k hk hne => by rw [tS_pc, if_neg (by omega), Int.mul_zero]), tS_pc, if_pos rfl]
    have : 0 ≤ tuS f j ∧ tuS f j < 10007 := by unfold tuS; split <;> omega
    omega
  have K4 : lcS (lcS (tuS f) (pS f) 10) (pS (tmS f 9)) 10 j = tmS f 9 j := by
    have : lcS (lcS (tuS f) (pS f) 10) (pS (tmS f 9)) 10 j = lcS tS (pS (tmS f 9)) 10 j := lcS_congr (fun k hk => by rw [K1 k hk]) (fun _ _ => rfl)
    rw [this]
    unfold lcS
    rw [sm_1 (k := 1) (by omega) (fun k hk hne => by unfold tS; rw [up_ne _ _ hne, Int.zero_mul])]
    have r := tmS_rok f 9 j hj
    rw [tS_1, pS_1, Int.one_mul, mulS_one r]
    omega
  rw [← K3, K4]
