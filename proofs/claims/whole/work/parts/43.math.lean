/-! the reference's formulas are the class's -/
/-- the reference's repeated products -/
def pR (s : Nat → Int) : Nat → (Nat → Int)
  | 0 => conS 1
  | n + 1 => mulS s (pR s n)
theorem pR_rok (s : Nat → Int) : ∀ n, rok (pR s n)
  | 0 => conS_rok (by omega)
  | n + 1 => mulS_rok _ _
def trR (g f : Nat → Int) : Nat → (Nat → Int)
  | 0 => g
  | n + 1 => mulS (trR g f n) f
theorem trR_rok {g f : Nat → Int} (hg : rok g) : ∀ n, rok (trR g f n)
  | 0 => hg
  | n + 1 => mulS_rok _ _
def ldR (p f : Nat → Int) : Nat → (Nat → Int)
  | 0 => omS p f
  | n + 1 => mulS (tmS f 9) (ldR p f n)
theorem ldR_rok (p f : Nat → Int) : ∀ n, rok (ldR p f n)
  | 0 => qS_rok _ _
  | n + 1 => mulS_rok _ _
def tdS : Nat → (Nat → Int)
  | 0 => conS 1
  | k + 1 => tfS (k : Int) (tdS k)
theorem tdS_rok : ∀ n, rok (tdS n)
  | 0 => conS_rok (by omega)
  | n + 1 => tfS_rok _ _
def tcS (v : Nat → Int) : Nat → (Nat → Int)
  | 0 => fun _ => 0
  | k + 1 => fun i => (tcS v k i + (v k - hv (tcS v k) (k : Int) 10) % 10007 * pw (hv (tdS k) (k : Int) 10) 10005 % 10007 * tdS k i) % 10007
theorem tcS_rok (v : Nat → Int) : ∀ n, rok (tcS v n)
  | 0 => fun j _ => by simp [tcS]
  | n + 1 => fun j _ => by simp only [tcS]; omega
def dgR (c : Nat → Int) : Nat → Nat
  | 0 => 0
  | i + 1 => if c i = 0 then dgR c i else i
theorem dgR_eq (c : Nat → Int) : ∀ i, dgR c (i + 1) = dg c i
  | 0 => by simp [dgR, dg]
  | i + 1 => by rw [dgR, dgR_eq c i, dg]
theorem dg_congr {c d : Nat → Int} : ∀ i, (∀ j, j ≤ i → c j = d j) → dg c i = dg d i
  | 0, _ => rfl
  | i + 1, h => by rw [dg, dg, h (i + 1) (by omega), dg_congr i (fun j hj => h j (by omega))]
theorem M_ch {n k : Nat} (hn : n < 10) (hk : k ≤ n) : chM n k = chs n k := sorry
theorem M_if {n : Nat} (hn : n < 10) : pw (fcl n) 10005 = ifc n := sorry
theorem M_into {s t : Nat → Int} (rs : rok s) (rt : rok t) : ∀ j, j < 10 → hoS s t 9 j = ptS s t 10 j := sorry
theorem M_turn {f : Nat → Int} (rf : rok f) (h0 : f 0 = 0) (h1 : f 1 ≠ 0) : ∀ j, j < 10 → tuS f j = tmS f 9 j := sorry
theorem M_pow {s : Nat → Int} (rs : rok s) {n : Nat} (hn : n ≤ 1000) : ∀ j, j < 10 → raS s n 10 j = pR s n j := sorry
theorem M_work {a b : Nat → Int} (ra : rok a) (rb : rok b) : ∀ j, j < 10 → opS a b j = wkS a b j := sorry
theorem M_diff {c : Nat → Int} (rc : rok c) (a : Int) {k : Nat} (hk : k < 10) : fdS c a k = dfM c (a % 10007) k := sorry
theorem M_through {v : Nat → Int} (rv : rok v) {n : Nat} (hn : n ≤ 10) : ∀ j, j < 10 → thS (dfT v 9) n n j = tcS v n j := sorry
theorem M_tri {g f : Nat → Int} (rg : rok g) (rf : rok f) {k : Nat} (hk : k < 10) : ∀ j, j < 10 → mulS g (raS f k 10) j = trR g f k j := sorry
theorem M_om {p f : Nat → Int} (rp : rok p) (rf : rok f) (h0 : f 0 = 0) (h1 : f 1 ≠ 0) : ∀ j, j < 10 → obS p (tuS f) j = omS p f j := sorry
theorem M_lad {p f : Nat → Int} (rp : rok p) (rf : rok f) (h0 : f 0 = 0) (h1 : f 1 ≠ 0) (k : Nat) : ∀ j, j < 10 → buB p f k j = ldR p f k j := sorry
theorem M_tb {f : Nat → Int} (rf : rok f) (h0 : f 0 = 0) (h1 : f 1 ≠ 0) : ∀ j, j < 10 → tbS (tuS f) j = tbS (tmS f 9) j := sorry
theorem M_bin {V : Nat → Nat → Int} {m : Nat} (hm : m < 10) : bnP V m ↔ bmP V m := sorry
theorem mulS_congr {a b c d : Nat → Int} {n : Nat} (h1 : ∀ j, j ≤ n → a j = c j) (h2 : ∀ j, j ≤ n → b j = d j) : mulS a b n = mulS c d n := by
  unfold mulS
  rw [sm_congr (fun i hi => by rw [h1 i (by omega), h2 (n - i) (by omega)])]
