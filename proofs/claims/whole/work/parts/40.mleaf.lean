/-! the reference: numbers and rows -/
theorem b01_iff {p q : Prop} (h : p ↔ q) : b01 p = b01 q := by
  by_cases c : p
  · rw [b01_t c, b01_t (h.mp c)]
  · rw [b01_f c, b01_f (fun d => c (h.mpr d))]
theorem ok_inB (v a b : Int) (p : Prop) (hp : (a ≤ v ∧ v ≤ b) ↔ p) (hv : inR v) (ha : inR a) (hb : inR b) (N : Nat) (g : Mem) : OkR mX6_in [.int (iI v), .int (iI a), .int (iI b)] N g (some (.int (iI (b01 p)))) g := by
  have h := ok_in v a b hv ha hb N g
  rw [if_b01, b01_iff hp] at h
  exact h
theorem ok_isSheet6 (s : Int) (hs : inR s) (N : Nat) (g : Mem) : OkR mX6_isSheet [.int (iI s)] N g (some (.int (iI (b01 (iS s))))) g := by
  refine OkM.of [some (.int (iI s))] (by decide +kernel) rfl (Nat.le_of_ble_eq_true rfl) ?_
  intro X E F
  refine z_iload_n E dX6_isSheet_0 rfl ?_
  refine z_iconst E dX6_isSheet_1 ?_
  refine z_bipush E (by decide) dX6_isSheet_2 ?_
  refine c_S E dX6_isSheet_4 lkX6_70 (ok_inB s 0 7 (iS s) (by omega) hs (by omega) (by omega) N g) rfl rfl rfl (Nat.le_of_ble_eq_true rfl) ⟨(Nat.le_of_ble_eq_true rfl), (Nat.le_of_ble_eq_true rfl)⟩ ⟨rfl, rfl⟩ ⟨Nat.zero_le _, Nat.zero_le _⟩ ?_
  refine z_zret E F ?_ dX6_isSheet_7 ⟨rfl, rfl⟩
  by_cases h : iS s
  · rw [b01_t h]; exact Or.inr rfl
  · rw [b01_f h]; exact Or.inl rfl
theorem ok_isRung (k n : Int) (hk : inR k) (hn : inR n) (N : Nat) (g : Mem) : OkR mX6_isRung [.int (iI k), .int (iI n)] N g (some (.int (iI (b01 (iL k ∧ iP n))))) g := by
  refine OkM.of [some (.int (iI k)), some (.int (iI n))] (by decide +kernel) rfl (Nat.le_of_ble_eq_true rfl) ?_
  intro X E F
  refine z_iload_n E dX6_isRung_0 rfl ?_
  refine z_iconst E dX6_isRung_1 ?_
  refine z_iconst E dX6_isRung_2 ?_
  refine c_S E dX6_isRung_3 lkX6_70 (ok_inB k 0 3 (iL k) (by omega) hk (by omega) (by omega) N g) rfl rfl rfl (Nat.le_of_ble_eq_true rfl) ⟨(Nat.le_of_ble_eq_true rfl), (Nat.le_of_ble_eq_true rfl)⟩ ⟨rfl, rfl⟩ ⟨Nat.zero_le _, Nat.zero_le _⟩ ?_
  refine z_bif_eq (tgt := 23) E dX6_isRung_6 (by decide) (fun h6 => ?_) (fun h6 => ?_)
  · refine z_iconst E dX6_isRung_23 ?_
    exact z_zret E F (by first | exact Or.inl rfl | exact Or.inr rfl) dX6_isRung_24 ⟨by rw [b01_f (fun h => h6 h.1)], rfl⟩
  · refine z_iload_n E dX6_isRung_9 rfl ?_
    refine z_iconst E dX6_isRung_10 ?_
    refine z_bipush E (by decide) dX6_isRung_11 ?_
    refine c_S E dX6_isRung_13 lkX6_70 (ok_inB n 0 9 (iP n) (by omega) hn (by omega) (by omega) N g) rfl rfl rfl (Nat.le_of_ble_eq_true rfl) ⟨(Nat.le_of_ble_eq_true rfl), (Nat.le_of_ble_eq_true rfl)⟩ ⟨rfl, rfl⟩ ⟨Nat.zero_le _, Nat.zero_le _⟩ ?_
    refine z_bif_eq (tgt := 23) E dX6_isRung_16 (by decide) (fun h16 => ?_) (fun h16 => ?_)
    · refine z_iconst E dX6_isRung_23 ?_
      exact z_zret E F (by first | exact Or.inl rfl | exact Or.inr rfl) dX6_isRung_24 ⟨by rw [b01_f (fun h => h16 h.2)], rfl⟩
    · refine z_iconst E dX6_isRung_19 ?_
      refine z_goto (tgt := 24) E dX6_isRung_20 (by decide) ?_
      exact z_zret E F (by first | exact Or.inl rfl | exact Or.inr rfl) dX6_isRung_24 ⟨by rw [b01_t ⟨h6, h16⟩], rfl⟩
theorem sq_in {a : Int} (ha : 0 ≤ a ∧ a < 10007) : 0 ≤ a * a ∧ a * a ≤ 100120036 := mul_in ha ha
set_option maxRecDepth 100000 in
theorem ok_toThe (v : Int) (hv : 0 ≤ v ∧ v < 10007) (n : Nat) (hn : n < 100000) (N : Nat) (g : Mem) : OkR mX6_toThe [.int (iI v), .int (iI (n : Int))] N g (some (.int (iI (pw v n)))) g := by
  refine OkM.of [some (.int (iI v)), some (.int (iI (n : Int))), none, none, none, none, none] (by decide +kernel) rfl (Nat.le_of_ble_eq_true rfl) ?_
  intro X E F
  refine z_lconst (z := 1) E rfl dX6_toThe_0 ?_
  refine z_lstore_n (ls' := [_, _, _, _, _, _, _]) E rfl dX6_toThe_1 (Nat.le_of_ble_eq_true rfl) rfl ?_
  refine z_iload_n E dX6_toThe_2 rfl ?_
  refine z_i2l E (by omega) dX6_toThe_3 ?_
  refine z_lstore (ls' := [_, _, _, _, _, _, _]) E dX6_toThe_4 (Nat.le_of_ble_eq_true rfl) rfl ?_
  refine z_iload_n E dX6_toThe_6 rfl ?_
  refine z_istore (ls' := [_, _, _, _, _, _, _]) E dX6_toThe_7 (Nat.le_of_ble_eq_true rfl) rfl ?_
  have loop : ∀ (f l : Nat), l < f → l ≤ n → ∀ (b e : Nat), b + e * l = n → Zc X 9 [some (.int (iI v)), some (.int (iI (n : Int))), some (.long (lI (pw v b))), none, some (.long (lI (pw v e))), none, some (.int (iI (l : Int)))] [] N g 0 0 := by
    intro f
    induction f with
    | zero => intro l h; omega
    | succ f ih =>
      intro l hf hl b e hbe
      have ib := pw_in v b
      have ie := pw_in v e
      have p1 := mul_in ib ie
      have p2 := mul_in ie ie
      have a1 := pw_add v b e
      have a2 := pw_add v e e
      refine z_iload E dX6_toThe_9 rfl ?_
      refine z_if_le (tgt := 55) E (by omega) dX6_toThe_11 (by decide) (fun h11 => ?_) (fun h11 => ?_)
      · have h0 : l = 0 := by omega
        subst h0
        refine z_lload_n E dX6_toThe_55 rfl ?_
        refine z_l2i E dX6_toThe_56 ?_
        rw [show b = n by omega]
        exact z_iret E F dX6_toThe_57 ⟨rfl, rfl⟩
      · have em2 : (l : Int) % 2 = ((l % 2 : Nat) : Int) := by omega
        refine z_iload E dX6_toThe_14 rfl ?_
        refine z_iconst E dX6_toThe_16 ?_
        refine z_irem E (by omega) (by omega) (by omega) (Int.tmod_eq_emod_of_nonneg (by omega)) dX6_toThe_17 ?_
        refine z_iconst E dX6_toThe_18 ?_
        refine z_icmp_ne (tgt := 33) E (by omega) (by omega) dX6_toThe_19 (by decide) (fun h19 => ?_) (fun h19 => ?_)
        · have hodd : l % 2 = 0 := by omega
          have hd2 : b + (e + e) * (l / 2) = n := by
            rw [← hbe, Nat.add_mul, ← Nat.mul_add]
            congr 2
            omega
          have i1 := ih (l / 2) (by omega) (by omega) b (e + e) hd2
          refine z_lload_n E dX6_toThe_33 rfl ?_
          refine z_lstore_n (ls' := [_, _, _, _, _, _, _]) E rfl dX6_toThe_34 (Nat.le_of_ble_eq_true rfl) rfl ?_
          refine z_lload E dX6_toThe_35 rfl ?_
          refine z_lload E dX6_toThe_37 rfl ?_
          refine z_lmul E dX6_toThe_39 ?_
          refine z_ldc2 (z := 10007) E ctX6_56 (by decide) dX6_toThe_40 ?_
          refine z_lrem E (by omega) (by omega) (by omega) (Int.tmod_eq_emod_of_nonneg (by omega)) dX6_toThe_43 ?_
          refine z_lstore (ls' := [_, _, _, _, _, _, _]) E dX6_toThe_44 (Nat.le_of_ble_eq_true rfl) rfl ?_
          rw [a2]
          refine z_iload E dX6_toThe_46 rfl ?_
          refine z_iconst E dX6_toThe_48 ?_
          refine z_idiv E (by omega) (by omega) (by omega) (Int.tdiv_eq_ediv_of_nonneg (by omega)) dX6_toThe_49 ?_
          refine z_istore (ls' := [_, _, _, _, _, _, _]) E dX6_toThe_50 (Nat.le_of_ble_eq_true rfl) rfl ?_
          refine z_goto (tgt := 9) E dX6_toThe_52 (by decide) ?_
          rw [show (l : Int) / 2 = ((l / 2 : Nat) : Int) by omega]
          exact i1
        · have hodd : l % 2 = 1 := by omega
          have hd2 : (b + e) + (e + e) * (l / 2) = n := by
            rw [← hbe, Nat.add_assoc, Nat.add_mul, ← Nat.mul_add]
            congr 1
            have : l = 1 + (l / 2 + l / 2) := by omega
            generalize l / 2 = q at *
            subst this
            rw [Nat.mul_add e 1, Nat.mul_one]
          have i1 := ih (l / 2) (by omega) (by omega) (b + e) (e + e) hd2
          refine z_lload_n E dX6_toThe_22 rfl ?_
          refine z_lload E dX6_toThe_23 rfl ?_
          refine z_lmul E dX6_toThe_25 ?_
          refine z_ldc2 (z := 10007) E ctX6_56 (by decide) dX6_toThe_26 ?_
          refine z_lrem E (by omega) (by omega) (by omega) (Int.tmod_eq_emod_of_nonneg (by omega)) dX6_toThe_29 ?_
          refine z_goto (tgt := 34) E dX6_toThe_30 (by decide) ?_
          rw [a1]
          refine z_lstore_n (ls' := [_, _, _, _, _, _, _]) E rfl dX6_toThe_34 (Nat.le_of_ble_eq_true rfl) rfl ?_
          refine z_lload E dX6_toThe_35 rfl ?_
          refine z_lload E dX6_toThe_37 rfl ?_
          refine z_lmul E dX6_toThe_39 ?_
          refine z_ldc2 (z := 10007) E ctX6_56 (by decide) dX6_toThe_40 ?_
          refine z_lrem E (by omega) (by omega) (by omega) (Int.tmod_eq_emod_of_nonneg (by omega)) dX6_toThe_43 ?_
          refine z_lstore (ls' := [_, _, _, _, _, _, _]) E dX6_toThe_44 (Nat.le_of_ble_eq_true rfl) rfl ?_
          rw [a2]
          refine z_iload E dX6_toThe_46 rfl ?_
          refine z_iconst E dX6_toThe_48 ?_
          refine z_idiv E (by omega) (by omega) (by omega) (Int.tdiv_eq_ediv_of_nonneg (by omega)) dX6_toThe_49 ?_
          refine z_istore (ls' := [_, _, _, _, _, _, _]) E dX6_toThe_50 (Nat.le_of_ble_eq_true rfl) rfl ?_
          refine z_goto (tgt := 9) E dX6_toThe_52 (by decide) ?_
          rw [show (l : Int) / 2 = ((l / 2 : Nat) : Int) by omega]
          exact i1
  have e1 : pw v 1 = v := by show 1 * v % 10007 = v; omega
  have := loop (n + 1) n (by omega) (by omega) 0 1 (by omega)
  rw [e1] at this
  exact this
theorem ok_turnedNumber (v : Int) (hv : 0 ≤ v ∧ v < 10007) (N : Nat) (g : Mem) : OkR mX6_turnedNumber [.int (iI v)] N g (some (.int (iI (pw v 10005)))) g := by
  refine OkM.of [some (.int (iI v))] (by decide +kernel) rfl (Nat.le_of_ble_eq_true rfl) ?_
  intro X E F
  refine z_iload_n E dX6_turnedNumber_0 rfl ?_
  refine z_sipush E (by decide) dX6_turnedNumber_1 ?_
  refine c_S E dX6_turnedNumber_4 lkX6_58 (ok_toThe v hv 10005 (by omega) N g) rfl rfl rfl (Nat.le_of_ble_eq_true rfl) ⟨(Nat.le_of_ble_eq_true rfl), (Nat.le_of_ble_eq_true rfl)⟩ ⟨rfl, rfl⟩ ⟨Nat.zero_le _, Nat.zero_le _⟩ ?_
  exact z_iret E F dX6_turnedNumber_7 ⟨rfl, rfl⟩
set_option maxRecDepth 100000 in
theorem ok_factorial (n : Nat) (hn : n ≤ 20) (N : Nat) (g : Mem) : OkR mX6_factorial [.int (iI (n : Int))] N g (some (.int (iI (fcl n)))) g := by
  refine OkM.of [some (.int (iI (n : Int))), none, none] (by decide +kernel) rfl (Nat.le_of_ble_eq_true rfl) ?_
  intro X E F
  refine z_iconst E dX6_factorial_0 ?_
  refine z_istore_n (ls' := [_, _, _]) E rfl dX6_factorial_1 (Nat.le_of_ble_eq_true rfl) rfl ?_
  refine z_iconst E dX6_factorial_2 ?_
  refine z_istore_n (ls' := [_, _, _]) E rfl dX6_factorial_3 (Nat.le_of_ble_eq_true rfl) rfl ?_
  have loop : ∀ (m k : Nat), k + m = n → 1 ≤ k → Zc X 4 [some (.int (iI (n : Int))), some (.int (iI (fcl k))), some (.int (iI ((k : Int) + 1)))] [] N g 0 0 := by
    intro m
    induction m with
    | zero =>
      intro k hk h1
      have hk2 : k = n := by omega
      subst hk2
      refine z_iload_n E dX6_factorial_4 rfl ?_
      refine z_iload_n E dX6_factorial_5 rfl ?_
      refine z_icmp_gt (tgt := 24) E (by omega) (by omega) dX6_factorial_6 (by decide) (fun h6 => ?_) (fun h6 => ?_)
      · refine z_iload_n E dX6_factorial_24 rfl ?_
        exact z_iret E F dX6_factorial_25 ⟨rfl, rfl⟩
      · omega
    | succ m ih =>
      intro k hk h1
      have f1 := fcl_in k
      have p1 := mul_in f1 (b := (k : Int) + 1) (by omega)
      refine z_iload_n E dX6_factorial_4 rfl ?_
      refine z_iload_n E dX6_factorial_5 rfl ?_
      refine z_icmp_gt (tgt := 24) E (by omega) (by omega) dX6_factorial_6 (by decide) (fun h6 => ?_) (fun h6 => ?_)
      · omega
      · refine z_iload_n E dX6_factorial_9 rfl ?_
        refine z_i2l E (by omega) dX6_factorial_10 ?_
        refine z_iload_n E dX6_factorial_11 rfl ?_
        refine z_i2l E (by omega) dX6_factorial_12 ?_
        refine z_lmul E dX6_factorial_13 ?_
        refine c_S E dX6_factorial_14 lkX6_62 (ok_mod _ ⟨by omega, by omega⟩ (by omega) N g) rfl rfl rfl (Nat.le_of_ble_eq_true rfl) ⟨(Nat.le_of_ble_eq_true rfl), (Nat.le_of_ble_eq_true rfl)⟩ ⟨rfl, rfl⟩ ⟨Nat.zero_le _, Nat.zero_le _⟩ ?_
        refine z_istore_n (ls' := [_, _, _]) E rfl dX6_factorial_17 (Nat.le_of_ble_eq_true rfl) rfl ?_
        refine z_iinc (ls' := [_, _, _]) E dX6_factorial_18 rfl rfl ?_
        refine z_goto (tgt := 4) E dX6_factorial_21 (by decide) ?_
        rw [ei]
        exact ih (k + 1) (by omega) (by omega)
  by_cases h0 : n = 0
  · subst h0
    refine z_iload_n E dX6_factorial_4 rfl ?_
    refine z_iload_n E dX6_factorial_5 rfl ?_
    refine z_icmp_gt (tgt := 24) E (by omega) (by omega) dX6_factorial_6 (by decide) (fun h6 => ?_) (fun h6 => ?_)
    · refine z_iload_n E dX6_factorial_24 rfl ?_
      exact z_iret E F dX6_factorial_25 ⟨rfl, rfl⟩
    · omega
  · exact loop (n - 1) 1 (by omega) (by omega)
/-- (n over k), as the reference reckons it -/
def chM (n k : Nat) : Int := fcl n * pw (fcl k * fcl (n - k) % 10007) 10005 % 10007
theorem chM_in (n k : Nat) : 0 ≤ chM n k ∧ chM n k < 10007 := by unfold chM; omega
set_option maxRecDepth 100000 in
theorem ok_choose (n k : Nat) (hn : n ≤ 20) (hk : k ≤ n) (N : Nat) (g : Mem) : OkR mX6_choose [.int (iI (n : Int)), .int (iI (k : Int))] N g (some (.int (iI (chM n k)))) g := by
  have f1 := fcl_in n
  have f2 := fcl_in k
  have f3 := fcl_in (n - k)
  have p1 := mul_in f2 f3
  have p2 := mul_in f1 (pw_in (fcl k * fcl (n - k) % 10007) 10005)
  have p3 := pw_in (fcl k * fcl (n - k) % 10007) 10005
  refine OkM.of [some (.int (iI (n : Int))), some (.int (iI (k : Int)))] (by decide +kernel) rfl (Nat.le_of_ble_eq_true rfl) ?_
  intro X E F
  refine z_iload_n E dX6_choose_0 rfl ?_
  refine c_S E dX6_choose_1 lkX6_109 (ok_factorial n hn N g) rfl rfl rfl (Nat.le_of_ble_eq_true rfl) ⟨(Nat.le_of_ble_eq_true rfl), (Nat.le_of_ble_eq_true rfl)⟩ ⟨rfl, rfl⟩ ⟨Nat.zero_le _, Nat.zero_le _⟩ ?_
  refine z_i2l E (by omega) dX6_choose_4 ?_
  refine z_iload_n E dX6_choose_5 rfl ?_
  refine c_S E dX6_choose_6 lkX6_109 (ok_factorial k (by omega) N g) rfl rfl rfl (Nat.le_of_ble_eq_true rfl) ⟨(Nat.le_of_ble_eq_true rfl), (Nat.le_of_ble_eq_true rfl)⟩ ⟨rfl, rfl⟩ ⟨Nat.zero_le _, Nat.zero_le _⟩ ?_
  refine z_i2l E (by omega) dX6_choose_9 ?_
  refine z_iload_n E dX6_choose_10 rfl ?_
  refine z_iload_n E dX6_choose_11 rfl ?_
  refine z_isub E dX6_choose_12 ?_
  rw [show (n : Int) - (k : Int) = ((n - k : Nat) : Int) by omega]
  refine c_S E dX6_choose_13 lkX6_109 (ok_factorial (n - k) (by omega) N g) rfl rfl rfl (Nat.le_of_ble_eq_true rfl) ⟨(Nat.le_of_ble_eq_true rfl), (Nat.le_of_ble_eq_true rfl)⟩ ⟨rfl, rfl⟩ ⟨Nat.zero_le _, Nat.zero_le _⟩ ?_
  refine z_i2l E (by omega) dX6_choose_16 ?_
  refine z_lmul E dX6_choose_17 ?_
  refine c_S E dX6_choose_18 lkX6_62 (ok_mod _ ⟨by omega, by omega⟩ (by omega) N g) rfl rfl rfl (Nat.le_of_ble_eq_true rfl) ⟨(Nat.le_of_ble_eq_true rfl), (Nat.le_of_ble_eq_true rfl)⟩ ⟨rfl, rfl⟩ ⟨Nat.zero_le _, Nat.zero_le _⟩ ?_
  refine c_S E dX6_choose_21 lkX6_87 (ok_turnedNumber _ (by omega) N g) rfl rfl rfl (Nat.le_of_ble_eq_true rfl) ⟨(Nat.le_of_ble_eq_true rfl), (Nat.le_of_ble_eq_true rfl)⟩ ⟨rfl, rfl⟩ ⟨Nat.zero_le _, Nat.zero_le _⟩ ?_
  refine z_i2l E (by omega) dX6_choose_24 ?_
  refine z_lmul E dX6_choose_25 ?_
  refine c_S E dX6_choose_26 lkX6_62 (ok_mod _ ⟨by omega, by omega⟩ (by omega) N g) rfl rfl rfl (Nat.le_of_ble_eq_true rfl) ⟨(Nat.le_of_ble_eq_true rfl), (Nat.le_of_ble_eq_true rfl)⟩ ⟨rfl, rfl⟩ ⟨Nat.zero_le _, Nat.zero_le _⟩ ?_
  exact z_iret E F dX6_choose_29 ⟨rfl, rfl⟩
/-- rows of ten -/
def TenK (k : Nat) : Prop := 162 ≤ k ∧ k < 170
theorem cel_ten {k : Nat} (h : TenK k) (f : Nat → Int) : cel k f = (6, vals 10 f) := by
  obtain ⟨h1, h2⟩ := h
  unfold cel
  rw [if_neg (by omega), if_neg (by omega), if_neg (by omega), if_neg (by omega), if_neg (by omega), if_neg (by omega), if_neg (by omega), if_neg (by omega), if_pos (by omega)]
set_option maxRecDepth 100000 in
theorem ok_set {x y : Nat} (hx : TenK x) (hy : TenK y) (A : Nat → Nat → Int) (N : Nat) : OkR mX6_set [.ref x, .ref y] N (mA A) none (mA (va_up A y (A x))) := by
  refine OkM.of [some (.ref x), some (.ref y), none] (by decide +kernel) rfl (Nat.le_of_ble_eq_true rfl) ?_
  intro X E F
  refine z_iconst E dX6_set_0 ?_
  refine z_istore_n (ls' := [_, _, _]) E rfl dX6_set_1 (Nat.le_of_ble_eq_true rfl) rfl ?_
  have loop : ∀ (m i : Nat), i + m = 10 → ∀ A' : Nat → Nat → Int, A' = va_up A y (fun j => if j < i then A x j else A y j) → Zc X 2 [some (.ref x), some (.ref y), some (.int (iI (i : Int)))] [] N (mA A') 0 0 := by
    intro m
    induction m with
    | zero =>
      intro i hi A' hA
      refine z_iload_n E dX6_set_2 rfl ?_
      refine z_bipush E (by decide) dX6_set_3 ?_
      refine z_icmp_ge (tgt := 20) E (by omega) (by omega) dX6_set_5 (by decide) (fun h5 => ?_) (fun h5 => ?_)
      · refine z_vret E F dX6_set_20 ⟨rfl, ?_⟩
        rw [hA]
        exact row_eq (cel_ten hy) (fun j hj => if_pos (by omega))
      · omega
    | succ m ih =>
      intro i hi A' hA
      have e1 : A' x i = A x i := by
        rw [hA]
        by_cases e : x = y
        · subst e; rw [va_up_self, if_neg (by omega)]
        · rw [va_up_ne _ _ e]
      refine z_iload_n E dX6_set_2 rfl ?_
      refine z_bipush E (by decide) dX6_set_3 ?_
      refine z_icmp_ge (tgt := 20) E (by omega) (by omega) dX6_set_5 (by decide) (fun h5 => ?_) (fun h5 => ?_)
      · omega
      · refine z_aload_n E dX6_set_8 rfl ?_
        refine z_iload_n E dX6_set_9 rfl ?_
        refine z_aload_n E dX6_set_10 rfl ?_
        refine z_iload_n E dX6_set_11 rfl ?_
        refine a_iald (j := i) E dX6_set_12 (cel_ten hx) (by omega) (by omega) (by omega) ?_
        rw [e1]
        refine a_iast (j := i) E dX6_set_13 (cel_ten hy) (by omega) (by omega) (by omega) ?_
        refine z_iinc (ls' := [_, _, _]) E dX6_set_14 rfl rfl ?_
        refine z_goto (tgt := 2) E dX6_set_17 (by decide) ?_
        rw [ei]
        refine ih (i + 1) (by omega) _ ?_
        rw [hA, va_uu, va_up_self]
        refine congrArg (va_up A y) (funext fun j => ?_)
        by_cases e1 : j = i
        · subst e1; rw [up_eq, if_pos (by omega)]
        · rw [up_ne _ _ e1]
          by_cases e2 : j < i
          · rw [if_pos e2, if_pos (by omega)]
          · rw [if_neg e2, if_neg (by omega)]
  refine z_mem ?_ (loop 10 0 (by omega) _ rfl)
  exact (row_id (cel_ten hy) (fun j hj => if_neg (by omega))).symm
set_option maxRecDepth 100000 in
theorem ok_one {y : Nat} (hy : TenK y) (A : Nat → Nat → Int) (N : Nat) : OkR mX6_one [.ref y] N (mA A) none (mA (va_up A y (conS 1))) := by
  refine OkM.of [some (.ref y), none] (by decide +kernel) rfl (Nat.le_of_ble_eq_true rfl) ?_
  intro X E F
  refine z_iconst E dX6_one_0 ?_
  refine z_istore_n (ls' := [_, _]) E rfl dX6_one_1 (Nat.le_of_ble_eq_true rfl) rfl ?_
  have loop : ∀ (m i : Nat), i + m = 10 → ∀ A' : Nat → Nat → Int, A' = va_up A y (fun j => if j < i then conS 1 j else A y j) → Zc X 2 [some (.ref y), some (.int (iI (i : Int)))] [] N (mA A') 0 0 := by
    intro m
    induction m with
    | zero =>
      intro i hi A' hA
      refine z_iload_n E dX6_one_2 rfl ?_
      refine z_bipush E (by decide) dX6_one_3 ?_
      refine z_icmp_ge (tgt := 26) E (by omega) (by omega) dX6_one_5 (by decide) (fun h5 => ?_) (fun h5 => ?_)
      · refine z_vret E F dX6_one_26 ⟨rfl, ?_⟩
        rw [hA]
        exact row_eq (cel_ten hy) (fun j hj => if_pos (by omega))
      · omega
    | succ m ih =>
      intro i hi A' hA
      have key : va_up A' y (up (A' y) i (conS 1 i)) = va_up A y (fun j => if j < i + 1 then conS 1 j else A y j) := by
        rw [hA, va_uu, va_up_self]
        refine congrArg (va_up A y) (funext fun j => ?_)
        by_cases e1 : j = i
        · subst e1; rw [up_eq, if_pos (by omega)]
        · rw [up_ne _ _ e1]
          by_cases e2 : j < i
          · rw [if_pos e2, if_pos (by omega)]
          · rw [if_neg e2, if_neg (by omega)]
      refine z_iload_n E dX6_one_2 rfl ?_
      refine z_bipush E (by decide) dX6_one_3 ?_
      refine z_icmp_ge (tgt := 26) E (by omega) (by omega) dX6_one_5 (by decide) (fun h5 => ?_) (fun h5 => ?_)
      · omega
      · refine z_aload_n E dX6_one_8 rfl ?_
        refine z_iload_n E dX6_one_9 rfl ?_
        refine z_iload_n E dX6_one_10 rfl ?_
        refine z_if_ne (tgt := 18) E (by omega) dX6_one_11 (by decide) (fun h11 => ?_) (fun h11 => ?_)
        · have e0 : conS 1 i = 0 := up_ne _ _ (by omega)
          rw [e0] at key
          refine z_iconst E dX6_one_18 ?_
          refine a_iast (j := i) E dX6_one_19 (cel_ten hy) (by omega) (by omega) (by omega) ?_
          refine z_iinc (ls' := [_, _]) E dX6_one_20 rfl rfl ?_
          refine z_goto (tgt := 2) E dX6_one_23 (by decide) ?_
          rw [ei]
          exact ih (i + 1) (by omega) _ key
        · have i0 : i = 0 := by omega
          have e0 : conS 1 i = 1 := by rw [i0]; rfl
          rw [e0] at key
          refine z_iconst E dX6_one_14 ?_
          refine z_goto (tgt := 19) E dX6_one_15 (by decide) ?_
          refine a_iast (j := i) E dX6_one_19 (cel_ten hy) (by omega) (by omega) (by omega) ?_
          refine z_iinc (ls' := [_, _]) E dX6_one_20 rfl rfl ?_
          refine z_goto (tgt := 2) E dX6_one_23 (by decide) ?_
          rw [ei]
          exact ih (i + 1) (by omega) _ key
  refine z_mem ?_ (loop 10 0 (by omega) _ rfl)
  exact (row_id (cel_ten hy) (fun j hj => if_neg (by omega))).symm
set_option maxRecDepth 100000 in
theorem ok_times {x y z : Nat} (hx : TenK x) (hy : TenK y) (hz : TenK z) (h1 : z ≠ x) (h2 : z ≠ y) (A : Nat → Nat → Int) (ra : rok (A x)) (rb : rok (A y)) (N : Nat) : OkR mX6_times [.ref x, .ref y, .ref z] N (mA A) none (mA (va_up A z (mulS (A x) (A y)))) := by
  refine OkM.of [some (.ref x), some (.ref y), some (.ref z), none, none, none, none] (by decide +kernel) rfl (Nat.le_of_ble_eq_true rfl) ?_
  intro X E F
  refine z_iconst E dX6_times_0 ?_
  refine z_istore_n (ls' := [_, _, _, _, _, _, _]) E rfl dX6_times_1 (Nat.le_of_ble_eq_true rfl) rfl ?_
  have loop : ∀ (m n : Nat), n + m = 10 → ∀ (l4 l5 l6 : Option Value) (A' : Nat → Nat → Int), A' = va_up A z (fun j => if j < n then mulS (A x) (A y) j else A z j) → Zc X 2 [some (.ref x), some (.ref y), some (.ref z), some (.int (iI (n : Int))), l4, l5, l6] [] N (mA A') 0 0 := by
    intro m
    induction m with
    | zero =>
      intro n hn l4 l5 l6 A' hA
      refine z_iload_n E dX6_times_2 rfl ?_
      refine z_bipush E (by decide) dX6_times_3 ?_
      refine z_icmp_ge (tgt := 58) E (by omega) (by omega) dX6_times_5 (by decide) (fun h5 => ?_) (fun h5 => ?_)
      · refine z_vret E F dX6_times_58 ⟨rfl, ?_⟩
        rw [hA]
        exact row_eq (cel_ten hz) (fun j hj => if_pos (by omega))
      · omega
    | succ m ih =>
      intro n hn l4 l5 l6 A' hA
      have ex : A' x = A x := by rw [hA, va_up_ne _ _ (Ne.symm h1)]
      have ey : A' y = A y := by rw [hA, va_up_ne _ _ (Ne.symm h2)]
      have pr : ∀ i, i < n + 1 → 0 ≤ A x i * A y (n - i) ∧ A x i * A y (n - i) ≤ 100120036 := fun i hi => mul_in (ra i (by omega)) (rb (n - i) (by omega))
      refine z_iload_n E dX6_times_2 rfl ?_
      refine z_bipush E (by decide) dX6_times_3 ?_
      refine z_icmp_ge (tgt := 58) E (by omega) (by omega) dX6_times_5 (by decide) (fun h5 => ?_) (fun h5 => ?_)
      · omega
      · refine z_lconst (z := 0) E rfl dX6_times_8 ?_
        refine z_lstore (ls' := [_, _, _, _, _, _, _]) E dX6_times_9 (Nat.le_of_ble_eq_true rfl) rfl ?_
        have inner : ∀ (m2 i : Nat), i + m2 = n + 1 → Zc X 14 [some (.ref x), some (.ref y), some (.ref z), some (.int (iI (n : Int))), some (.long (lI (sm (fun i => A x i * A y (n - i)) i))), none, some (.int (iI (i : Int)))] [] N (mA A') 0 0 := by
          intro m2
          induction m2 with
          | zero =>
            intro i hi
            have hi2 : i = n + 1 := by omega
            subst hi2
            have hsm := sm_in (n := n + 1) pr
            refine z_iload E dX6_times_14 rfl ?_
            refine z_iload_n E dX6_times_16 rfl ?_
            refine z_icmp_gt (tgt := 44) E (by omega) (by omega) dX6_times_17 (by decide) (fun h17 => ?_) (fun h17 => ?_)
            · refine z_aload_n E dX6_times_44 rfl ?_
              refine z_iload_n E dX6_times_45 rfl ?_
              refine z_lload E dX6_times_46 rfl ?_
              refine c_S E dX6_times_48 lkX6_62 (ok_mod _ ⟨by omega, by omega⟩ (by omega) N (mA A')) rfl rfl rfl (Nat.le_of_ble_eq_true rfl) ⟨(Nat.le_of_ble_eq_true rfl), (Nat.le_of_ble_eq_true rfl)⟩ ⟨rfl, rfl⟩ ⟨Nat.zero_le _, Nat.zero_le _⟩ ?_
              refine a_iast (j := n) E dX6_times_51 (cel_ten hz) (by omega) (by omega) (by omega) ?_
              refine z_iinc (ls' := [_, _, _, _, _, _, _]) E dX6_times_52 rfl rfl ?_
              refine z_goto (tgt := 2) E dX6_times_55 (by decide) ?_
              rw [ei]
              refine ih (n + 1) (by omega) _ _ _ _ ?_
              rw [hA, va_uu, va_up_self]
              refine congrArg (va_up A z) (funext fun j => ?_)
              by_cases e1 : j = n
              · subst e1; rw [up_eq, if_pos (by omega)]; rfl
              · rw [up_ne _ _ e1]
                by_cases e2 : j < n
                · rw [if_pos e2, if_pos (by omega)]
                · rw [if_neg e2, if_neg (by omega)]
            · omega
          | succ m2 ihm =>
            intro i hi
            have r1 := ra i (by omega)
            have r2 := rb (n - i) (by omega)
            refine z_iload E dX6_times_14 rfl ?_
            refine z_iload_n E dX6_times_16 rfl ?_
            refine z_icmp_gt (tgt := 44) E (by omega) (by omega) dX6_times_17 (by decide) (fun h17 => ?_) (fun h17 => ?_)
            · omega
            · refine z_lload E dX6_times_20 rfl ?_
              refine z_aload_n E dX6_times_22 rfl ?_
              refine z_iload E dX6_times_23 rfl ?_
              refine a_iald (j := i) E dX6_times_25 (cel_ten hx) (by omega) (by omega) (by omega) ?_
              rw [ex]
              refine z_i2l E (by omega) dX6_times_26 ?_
              refine z_aload_n E dX6_times_27 rfl ?_
              refine z_iload_n E dX6_times_28 rfl ?_
              refine z_iload E dX6_times_29 rfl ?_
              refine z_isub E dX6_times_31 ?_
              refine a_iald (j := n - i) E dX6_times_32 (cel_ten hy) (by omega) (by omega) (by omega) ?_
              rw [ey]
              refine z_i2l E (by omega) dX6_times_33 ?_
              refine z_lmul E dX6_times_34 ?_
              refine z_ladd E dX6_times_35 ?_
              refine z_lstore (ls' := [_, _, _, _, _, _, _]) E dX6_times_36 (Nat.le_of_ble_eq_true rfl) rfl ?_
              refine z_iinc (ls' := [_, _, _, _, _, _, _]) E dX6_times_38 rfl rfl ?_
              refine z_goto (tgt := 14) E dX6_times_41 (by decide) ?_
              rw [ei]
              exact ihm (i + 1) (by omega)
        refine z_iconst E dX6_times_11 ?_
        refine z_istore (ls' := [_, _, _, _, _, _, _]) E dX6_times_12 (Nat.le_of_ble_eq_true rfl) rfl ?_
        exact inner (n + 1) 0 (by omega)
  refine z_mem ?_ (loop 10 0 (by omega) none none none _ rfl)
  exact (row_id (cel_ten hz) (fun j hj => if_neg (by omega))).symm
theorem sm_snoc (f : Nat → Int) : ∀ n, sm f (n + 1) = f 0 + sm (fun i => f (i + 1)) n
  | 0 => by simp [sm]
  | n + 1 => by
    rw [sm, sm_snoc f n]
    show _ = f 0 + (sm (fun i => f (i + 1)) n + f (n + 1))
    omega
theorem sm_rev (f : Nat → Int) : ∀ n, sm f n = sm (fun i => f (n - 1 - i)) n
  | 0 => rfl
  | n + 1 => by
    rw [sm_snoc (fun i => f (n + 1 - 1 - i)) n, sm, sm_rev f n, Int.add_comm]
    congr 1
    apply sm_congr
    intro i hi
    congr 1
    omega
theorem qS_eq2 (a b : Nat → Int) (n : Nat) : qS a b n = (a n - sm (fun k => qS a b k * b (n - k)) n) % 10007 * pw (b 0) 10005 % 10007 := by
  rw [qS_eq, sm_rev (fun k => qS a b k * b (n - k)) n]
  have e : sm (fun i => b (i + 1) * qS a b (n - (i + 1))) n = sm (fun i => qS a b (n - 1 - i) * b (n - (n - 1 - i))) n := sm_congr (fun i hi => by
    rw [Int.mul_comm, show n - (i + 1) = n - 1 - i by omega, show n - (n - 1 - i) = i + 1 by omega])
  rw [e]
set_option maxRecDepth 100000 in
theorem ok_by {x y z : Nat} (hx : TenK x) (hy : TenK y) (hz : TenK z) (h1 : z ≠ x) (h2 : z ≠ y) (A : Nat → Nat → Int) (ra : rok (A x)) (rb : rok (A y)) (N : Nat) : OkR mX6_by [.ref x, .ref y, .ref z] N (mA A) none (mA (va_up A z (qS (A x) (A y)))) := by
  have rb0 := rb 0 (by omega)
  have pv := pw_in (A y 0) 10005
  refine OkM.of [some (.ref x), some (.ref y), some (.ref z), none, none, none, none, none] (by decide +kernel) rfl (Nat.le_of_ble_eq_true rfl) ?_
  intro X E F
  refine z_aload_n E dX6_by_0 rfl ?_
  refine z_iconst E dX6_by_1 ?_
  refine a_iald (j := 0) E dX6_by_2 (cel_ten hy) (by omega) (by omega) (by omega) ?_
  refine c_S E dX6_by_3 lkX6_87 (ok_turnedNumber _ rb0 N (mA A)) rfl rfl rfl (Nat.le_of_ble_eq_true rfl) ⟨(Nat.le_of_ble_eq_true rfl), (Nat.le_of_ble_eq_true rfl)⟩ ⟨rfl, rfl⟩ ⟨Nat.zero_le _, Nat.zero_le _⟩ ?_
  refine z_istore_n (ls' := [_, _, _, _, _, _, _, _]) E rfl dX6_by_6 (Nat.le_of_ble_eq_true rfl) rfl ?_
  refine z_iconst E dX6_by_7 ?_
  refine z_istore (ls' := [_, _, _, _, _, _, _, _]) E dX6_by_8 (Nat.le_of_ble_eq_true rfl) rfl ?_
  generalize hp : pw (A y 0) 10005 = p at pv ⊢
  have loop : ∀ (m n : Nat), n + m = 10 → ∀ (l5 l6 l7 : Option Value) (A' : Nat → Nat → Int), A' = va_up A z (fun j => if j < n then qS (A x) (A y) j else A z j) → Zc X 10 [some (.ref x), some (.ref y), some (.ref z), some (.int (iI p)), some (.int (iI (n : Int))), l5, l6, l7] [] N (mA A') 0 0 := by
    intro m
    induction m with
    | zero =>
      intro n hn l5 l6 l7 A' hA
      refine z_iload E dX6_by_10 rfl ?_
      refine z_bipush E (by decide) dX6_by_12 ?_
      refine z_icmp_ge (tgt := 81) E (by omega) (by omega) dX6_by_14 (by decide) (fun h14 => ?_) (fun h14 => ?_)
      · refine z_vret E F dX6_by_81 ⟨rfl, ?_⟩
        rw [hA]
        exact row_eq (cel_ten hz) (fun j hj => if_pos (by omega))
      · omega
    | succ m ih =>
      intro n hn l5 l6 l7 A' hA
      have ex : A' x = A x := by rw [hA, va_up_ne _ _ (Ne.symm h1)]
      have ey : A' y = A y := by rw [hA, va_up_ne _ _ (Ne.symm h2)]
      have ez : ∀ i, i < n → A' z i = qS (A x) (A y) i := fun i hi => by rw [hA, va_up_self, if_pos hi]
      have pr : ∀ i, i < n → 0 ≤ qS (A x) (A y) i * A y (n - i) ∧ qS (A x) (A y) i * A y (n - i) ≤ 100120036 := fun i hi => mul_in (qS_in _ _ _) (rb (n - i) (by omega))
      have rx := ra n (by omega)
      refine z_iload E dX6_by_10 rfl ?_
      refine z_bipush E (by decide) dX6_by_12 ?_
      refine z_icmp_ge (tgt := 81) E (by omega) (by omega) dX6_by_14 (by decide) (fun h14 => ?_) (fun h14 => ?_)
      · omega
      · refine z_aload_n E dX6_by_17 rfl ?_
        refine z_iload E dX6_by_18 rfl ?_
        refine a_iald (j := n) E dX6_by_20 (cel_ten hx) (by omega) (by omega) (by omega) ?_
        rw [ex]
        refine z_i2l E (by omega) dX6_by_21 ?_
        refine z_lstore (ls' := [_, _, _, _, _, _, _, _]) E dX6_by_22 (Nat.le_of_ble_eq_true rfl) rfl ?_
        refine z_iconst E dX6_by_24 ?_
        refine z_istore (ls' := [_, _, _, _, _, _, _, _]) E dX6_by_25 (Nat.le_of_ble_eq_true rfl) rfl ?_
        have inner : ∀ (m2 i : Nat), i + m2 = n → Zc X 27 [some (.ref x), some (.ref y), some (.ref z), some (.int (iI p)), some (.int (iI (n : Int))), some (.long (lI (A x n - sm (fun k => qS (A x) (A y) k * A y (n - k)) i))), none, some (.int (iI (i : Int)))] [] N (mA A') 0 0 := by
          intro m2
          induction m2 with
          | zero =>
            intro i hi
            have hi2 : i = n := by omega
            subst hi2
            have hsm := sm_in (n := i) pr
            have hq2 := mul_in (a := (A x i - sm (fun k => qS (A x) (A y) k * A y (i - k)) i) % 10007) (b := p) (by omega) pv
            refine z_iload E dX6_by_27 rfl ?_
            refine z_iload E dX6_by_29 rfl ?_
            refine z_icmp_ge (tgt := 59) E (by omega) (by omega) dX6_by_31 (by decide) (fun h31 => ?_) (fun h31 => ?_)
            · refine z_aload_n E dX6_by_59 rfl ?_
              refine z_iload E dX6_by_60 rfl ?_
              refine z_lload E dX6_by_62 rfl ?_
              refine c_S E dX6_by_64 lkX6_62 (ok_mod _ ⟨by omega, by omega⟩ (by omega) N (mA A')) rfl rfl rfl (Nat.le_of_ble_eq_true rfl) ⟨(Nat.le_of_ble_eq_true rfl), (Nat.le_of_ble_eq_true rfl)⟩ ⟨rfl, rfl⟩ ⟨Nat.zero_le _, Nat.zero_le _⟩ ?_
              refine z_i2l E (by omega) dX6_by_67 ?_
              refine z_iload_n E dX6_by_68 rfl ?_
              refine z_i2l E (by omega) dX6_by_69 ?_
              refine z_lmul E dX6_by_70 ?_
              refine c_S E dX6_by_71 lkX6_62 (ok_mod _ ⟨by omega, by omega⟩ (by omega) N (mA A')) rfl rfl rfl (Nat.le_of_ble_eq_true rfl) ⟨(Nat.le_of_ble_eq_true rfl), (Nat.le_of_ble_eq_true rfl)⟩ ⟨rfl, rfl⟩ ⟨Nat.zero_le _, Nat.zero_le _⟩ ?_
              refine a_iast (j := i) E dX6_by_74 (cel_ten hz) (by omega) (by omega) (by omega) ?_
              refine z_iinc (ls' := [_, _, _, _, _, _, _, _]) E dX6_by_75 rfl rfl ?_
              refine z_goto (tgt := 10) E dX6_by_78 (by decide) ?_
              rw [ei]
              refine ih (i + 1) (by omega) _ _ _ _ ?_
              rw [hA, va_uu, va_up_self]
              refine congrArg (va_up A z) (funext fun j => ?_)
              by_cases e1 : j = i
              · subst e1; rw [up_eq, if_pos (by omega), qS_eq2, hp]
              · rw [up_ne _ _ e1]
                by_cases e2 : j < i
                · rw [if_pos e2, if_pos (by omega)]
                · rw [if_neg e2, if_neg (by omega)]
            · omega
          | succ m2 ihm =>
            intro i hi
            have r1 := qS_in (A x) (A y) i
            have r2 := rb (n - i) (by omega)
            refine z_iload E dX6_by_27 rfl ?_
            refine z_iload E dX6_by_29 rfl ?_
            refine z_icmp_ge (tgt := 59) E (by omega) (by omega) dX6_by_31 (by decide) (fun h31 => ?_) (fun h31 => ?_)
            · omega
            · refine z_lload E dX6_by_34 rfl ?_
              refine z_aload_n E dX6_by_36 rfl ?_
              refine z_iload E dX6_by_37 rfl ?_
              refine a_iald (j := i) E dX6_by_39 (cel_ten hz) (by omega) (by omega) (by omega) ?_
              rw [ez i (by omega)]
              refine z_i2l E (by omega) dX6_by_40 ?_
              refine z_aload_n E dX6_by_41 rfl ?_
              refine z_iload E dX6_by_42 rfl ?_
              refine z_iload E dX6_by_44 rfl ?_
              refine z_isub E dX6_by_46 ?_
              refine a_iald (j := n - i) E dX6_by_47 (cel_ten hy) (by omega) (by omega) (by omega) ?_
              rw [ey]
              refine z_i2l E (by omega) dX6_by_48 ?_
              refine z_lmul E dX6_by_49 ?_
              refine z_lsub E dX6_by_50 ?_
              refine z_lstore (ls' := [_, _, _, _, _, _, _, _]) E dX6_by_51 (Nat.le_of_ble_eq_true rfl) rfl ?_
              refine z_iinc (ls' := [_, _, _, _, _, _, _, _]) E dX6_by_53 rfl rfl ?_
              refine z_goto (tgt := 27) E dX6_by_56 (by decide) ?_
              rw [ei]
              have := ihm (i + 1) (by omega)
              simp only [sm] at this
              rw [← Int.sub_sub] at this
              exact this
        have := inner n 0 (by omega)
        simp only [sm, Int.sub_zero] at this
        exact this
  refine z_mem ?_ (loop 10 0 (by omega) none none none _ rfl)
  exact (row_id (cel_ten hz) (fun j hj => if_neg (by omega))).symm
