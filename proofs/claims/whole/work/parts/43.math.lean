/-! the reference's formulas are the class's -/
/-- the reference's repeated products -/
def pR (s : Nat → Int) : Nat → (Nat → Int)
  | 0 => conS 1
  | n + 1 => mulS s (pR s n)
theorem pR_rok (s : Nat → Int) : ∀ n, rok (pR s n)
  | 0 => conS_rok (by omega)
  | n + 1 => mulS_rok _ _
def trR (g f : Nat → Int) : Nat → (Nat → Int)
  | 0 => g
  | n + 1 => mulS (trR g f n) f
theorem trR_rok {g f : Nat → Int} (hg : rok g) : ∀ n, rok (trR g f n)
  | 0 => hg
  | n + 1 => mulS_rok _ _
def ldR (p f : Nat → Int) : Nat → (Nat → Int)
  | 0 => omS p f
  | n + 1 => mulS (tmS f 9) (ldR p f n)
theorem ldR_rok (p f : Nat → Int) : ∀ n, rok (ldR p f n)
  | 0 => qS_rok _ _
  | n + 1 => mulS_rok _ _
def tdS : Nat → (Nat → Int)
  | 0 => conS 1
  | k + 1 => tfS (k : Int) (tdS k)
theorem tdS_rok : ∀ n, rok (tdS n)
  | 0 => conS_rok (by omega)
  | n + 1 => tfS_rok _ _
def tcS (v : Nat → Int) : Nat → (Nat → Int)
  | 0 => fun _ => 0
  | k + 1 => fun i => (tcS v k i + (v k - hv (tcS v k) (k : Int) 10) % 10007 * pw (hv (tdS k) (k : Int) 10) 10005 % 10007 * tdS k i) % 10007
theorem tcS_rok (v : Nat → Int) : ∀ n, rok (tcS v n)
  | 0 => fun j _ => by simp [tcS]
  | n + 1 => fun j _ => by simp only [tcS]; omega
def dgR (c : Nat → Int) : Nat → Nat
  | 0 => 0
  | i + 1 => if c i = 0 then dgR c i else i
theorem dgR_eq (c : Nat → Int) : ∀ i, dgR c (i + 1) = dg c i
  | 0 => by simp [dgR, dg]
  | i + 1 => by rw [dgR, dgR_eq c i, dg]
theorem dg_congr {c d : Nat → Int} : ∀ i, (∀ j, j ≤ i → c j = d j) → dg c i = dg d i
  | 0, _ => rfl
  | i + 1, h => by rw [dg, dg, h (i + 1) (by omega), dg_congr i (fun j hj => h j (by omega))]
theorem M_ch {n k : Nat} (hn : n < 10) (hk : k ≤ n) : chM n k = chs n k := by
  unfold chM
  rw [pw5 (by omega)]
  exact N_ch n hn k (by omega)
theorem M_if {n : Nat} (hn : n < 10) : pw (fcl n) 10005 = ifc n := by
  rw [pw5 (fcl_in n).1, N_if n hn, ifQ_eq]
theorem M_into {s t : Nat → Int} (rs : rok s) (rt : rok t) : ∀ j, j < 10 → hoS s t 9 j = ptS s t 10 j := fun j _ => by
  rw [ho_lc rs 9 (by omega), ptS_lc]
  exact lcS_congr (fun k _ => by rw [show 9 - 9 + k = k by omega]) (fun _ _ => rfl)
theorem M_turn {f : Nat → Int} (rf : rok f) (h0 : f 0 = 0) (h1 : f 1 ≠ 0) : ∀ j, j < 10 → tuS f j = tmS f 9 j := fun j hj => turn_eq rf h0 h1 hj
theorem pR_eq (s : Nat → Int) : ∀ n, pR s n = pS s n
  | 0 => rfl
  | n + 1 => by rw [pR, pR_eq s n, mulS_comm]; rfl
theorem M_pow {s : Nat → Int} (rs : rok s) {n : Nat} (hn : n ≤ 1000) : ∀ j, j < 10 → raS s n 10 j = pR s n j := fun j _ => by
  rw [ra_eq (by omega), pR_eq]
theorem M_work {a b : Nat → Int} (ra : rok a) (rb : rok b) : ∀ j, j < 10 → opS a b j = wkS a b j := fun m hm => by
  have h2 : fcl m * ifc m % 10007 = 1 := by rw [ifQ_eq]; exact N_fi m hm
  unfold opS wkS
  rw [wk_sm, mq_l, ← sm_mr]
  exact mq_sm (fun i hi => wk_term (fl_fc m i) h2)
theorem M_diff {c : Nat → Int} (rc : rok c) (a : Int) {k : Nat} (hk : k < 10) : fdS c a k = dfM c (a % 10007) k := by
  unfold fdS
  have h1 := df_in (vlS_rok c a) hk
  have h2 := df_dD (vlS c a) k k (by omega)
  rw [df_9 _ hk, show dfT (vlS c a) k k = dfT (vlS c a) k k % 10007 by omega, h2]
  unfold dD dfM
  congr 1
  refine sm_congr (fun i hi => ?_)
  unfold wS dsT vlS
  rw [M_ch hk (by omega), show k - k + i = i by omega]
  split
  · rfl
  · rw [Int.neg_mul]
theorem N_td : ∀ k : Nat, k < 10 → ∀ i, i < k + 1 → hv (tdS i) (k : Int) 10 * ifQ i % 10007 = chs k i := by decide +kernel
theorem N_tf : ∀ k : Nat, k < 10 → hv (tdS k) (k : Int) 10 = fcl k := by decide +kernel
def shV (v : Nat → Int) (k : Nat) : Int := (v k - hv (tcS v k) (k : Int) 10) % 10007 * pw (hv (tdS k) (k : Int) 10) 10005 % 10007
theorem tc_sm (v : Nat → Int) : ∀ n j, tcS v n j = lcS (shV v) tdS n j
  | 0, j => rfl
  | n + 1, j => by
    show (tcS v n j + shV v n * tdS n j) % 10007 = (sm (fun k => shV v k * tdS k j) n + shV v n * tdS n j) % 10007
    rw [tc_sm v n j]
    unfold lcS
    omega
theorem sh_eq {v : Nat → Int} (rv : rok v) : ∀ N k, k < N → k < 10 → shV v k = dfT v 9 k * ifc k % 10007
  | 0, k, h, _ => by omega
  | N + 1, k, h, hk => by
    have h1 : hv (tcS v k) (k : Int) 10 = sm (fun i => chs k i * dfT v i i) k % 10007 := by
      rw [show tcS v k = lcS (shV v) tdS k from funext (tc_sm v k), hv_lc]
      refine mq_sm (fun i hi => ?_)
      rw [sh_eq rv N i (by omega) (by omega), mq_l, df_9 v (show i < 10 by omega), Int.mul_assoc, Int.mul_comm (ifc i), ifQ_eq, ← mq_r, N_td k hk i (by omega), Int.mul_comm]
    have h2 := newt v k 0
    rw [sm, chs_nn, Int.one_mul] at h2
    simp only [Nat.zero_add] at h2
    have h3 : (v k - hv (tcS v k) (k : Int) 10) % 10007 = dfT v k k % 10007 := by
      rw [h1]
      show (v k - _) % 10007 = _
      have h4 : dfT v 0 k = v k := rfl
      rw [h4] at h2
      omega
    unfold shV
    rw [h3, mq_l, N_tf k hk, M_if hk, df_9 v hk]
theorem th_up {d : Nat → Int} {n c : Nat} : ∀ j, thS d n (c + 1) j % 10007 = (mulS (lnS ((n - 1 - c : Nat) : Int)) (thS d n c) j + conS (d (n - 1 - c) * ifc (n - 1 - c) % 10007) j) % 10007 := by
  intro j
  rw [thS, ← tf_mul, conS_v]
  by_cases e : j = 0
  · subst e; rw [up_eq, if_pos rfl]; omega
  · rw [up_ne _ _ e, if_neg e, Int.add_zero]
theorem th_sm (d : Nat → Int) (n : Nat) (j : Nat) : ∀ c, c ≤ n → mulS (tdS (n - c)) (thS d n c) j = sm (fun i => d (n - c + i) * ifc (n - c + i) % 10007 * tdS (n - c + i) j) c % 10007
  | 0, _ => by
    show mulS _ (conS 0) j = 0
    rw [mulS_comm, mulS_con, Int.zero_mul]; rfl
  | c + 1, h => by
    have h1 : mulS (tdS (n - (c + 1))) (thS d n (c + 1)) j = mulS (tdS (n - (c + 1))) (fun i => mulS (lnS ((n - 1 - c : Nat) : Int)) (thS d n c) i + conS (d (n - 1 - c) * ifc (n - 1 - c) % 10007) i) j := mulS_mq (fun _ _ => rfl) (fun i _ => th_up i)
    have h2 : mulS (tdS (n - (c + 1))) (mulS (lnS ((n - 1 - c : Nat) : Int)) (thS d n c)) = mulS (tdS (n - c)) (thS d n c) := by
      rw [show n - c = n - (c + 1) + 1 by omega, tdS, tf_mul, show n - 1 - c = n - (c + 1) by omega, mulS_assoc, mulS_lc]
    rw [h1, mulS_addr, h2, th_sm d n j c (by omega), mulS_comm (tdS (n - (c + 1))), mulS_con, sm_snoc, show n - (c + 1) + 0 = n - 1 - c by omega, show n - (c + 1) = n - 1 - c by omega, sm_congr (n := c) (f := fun i => d (n - 1 - c + (i + 1)) * ifc (n - 1 - c + (i + 1)) % 10007 * tdS (n - 1 - c + (i + 1)) j) (g := fun i => d (n - c + i) * ifc (n - c + i) % 10007 * tdS (n - c + i) j) (fun i hi => by rw [show n - 1 - c + (i + 1) = n - c + i by omega])]
    omega
theorem th_in (d : Nat → Int) (n c j : Nat) : 0 ≤ thS d n c j ∧ thS d n c j < 10007 := by
  cases c with
  | zero => show 0 ≤ conS 0 j ∧ conS 0 j < 10007; rw [conS_v]; split <;> omega
  | succ c =>
    rw [thS]
    by_cases e : j = 0
    · subst e; rw [up_eq]; omega
    · rw [up_ne _ _ e]; unfold tfS; rw [if_neg e]; omega
theorem M_through {v : Nat → Int} (rv : rok v) {n : Nat} (hn : n ≤ 10) : ∀ j, j < 10 → thS (dfT v 9) n n j = tcS v n j := fun j _ => by
  have h1 := th_sm (dfT v 9) n j n (by omega)
  rw [show n - n = 0 by omega, show tdS 0 = conS 1 from rfl, mulS_one (th_in _ _ _ _)] at h1
  rw [h1, tc_sm]
  refine mq_sm (fun k hk => ?_)
  rw [sh_eq rv 10 k (by omega) (by omega), Nat.zero_add]
theorem M_tri {g f : Nat → Int} (rg : rok g) (rf : rok f) {k : Nat} (hk : k < 10) : ∀ j, j < 10 → mulS g (raS f k 10) j = trR g f k j := by
  have e : ∀ k j, j < 10 → mulS g (pS f k) j = trR g f k j := by
    intro k
    induction k with
    | zero => intro j hj; show mulS g (conS 1) j = g j; rw [mulS_comm, mulS_one (rg j hj)]
    | succ k ih =>
      intro j hj
      show mulS g (mulS (pS f k) f) j = mulS (trR g f k) f j
      rw [← mulS_assoc]
      exact mulS_congr (fun i hi => ih i (by omega)) (fun _ _ => rfl)
  intro j hj
  rw [ra_eq (by omega)]
  exact e k j hj
theorem tu_rok (f : Nat → Int) : rok (tuS f) := fun j _ => by unfold tuS; split <;> omega
theorem M_om {p f : Nat → Int} (rp : rok p) (rf : rok f) (h0 : f 0 = 0) (h1 : f 1 ≠ 0) : ∀ j, j < 10 → obS p (tuS f) j = omS p f j := fun j hj => by
  unfold obS omS
  refine qS_congr _ (N := 9) (fun i hi => ?_) (j + 1) j (by omega) (by omega)
  rw [M_into rp (tu_rok f) i (by omega)]
  exact ptS_congr (fun k hk => M_turn rf h0 h1 k (by omega))
theorem M_lad {p f : Nat → Int} (rp : rok p) (rf : rok f) (h0 : f 0 = 0) (h1 : f 1 ≠ 0) (k : Nat) : ∀ j, j < 10 → buB p f k j = ldR p f k j := by
  induction k with
  | zero => exact M_om rp rf h0 h1
  | succ k ih =>
    intro j hj
    show mulS (buB p f k) (tuS f) j = mulS (tmS f 9) (ldR p f k) j
    rw [mulS_comm]
    exact mulS_congr (fun i hi => M_turn rf h0 h1 i (by omega)) (fun i hi => ih i (by omega))
theorem M_tb {f : Nat → Int} (rf : rok f) (h0 : f 0 = 0) (h1 : f 1 ≠ 0) : ∀ j, j < 10 → tbS (tuS f) j = tbS (tmS f 9) j := fun j hj => by
  unfold tbS
  by_cases e : j = 9
  · subst e; rw [up_eq, up_eq]
  · rw [up_ne _ _ e, up_ne _ _ e]
    refine qS_congr _ (N := 9) (fun i hi => ?_) (j + 1) j (by omega) (by omega)
    unfold shd
    split
    · exact M_turn rf h0 h1 (i + 1) (by omega)
    · rfl
theorem M_bin {V : Nat → Nat → Int} {m : Nat} (hm : m < 10) : bnP V m ↔ bmP V m := by
  have e : ∀ x y, sm (fun k => chs m k * V k x % 10007 * V (m - k) y) (m + 1) = sm (fun k => chM m k * V k x % 10007 * V (m - k) y) (m + 1) := fun x y => sm_congr (fun i hi => by rw [M_ch hm (by omega)])
  unfold bnP bmP
  simp only [e]
