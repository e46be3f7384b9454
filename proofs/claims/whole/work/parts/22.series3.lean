/-! quotients, values, powers of SERIES -/
/-- the quotient's terms, one after the other -/
def qT (a b : Nat → Int) : Nat → (Nat → Int)
  | 0 => fun _ => 0
  | n + 1 => up (qT a b n) n ((a n - sm (fun i => b (i + 1) * qT a b n (n - (i + 1))) n) % 10007 * pw (b 0) 10005 % 10007)
def qS (a b : Nat → Int) (n : Nat) : Int := qT a b (n + 1) n
theorem qT_lt (a b : Nat → Int) : ∀ m j, j < m → qT a b m j = qS a b j
  | 0, j, h => by omega
  | m + 1, j, h => by
    by_cases e : j = m
    · subst e; rfl
    · rw [qT, up_ne _ _ e]; exact qT_lt a b m j (by omega)
theorem qS_eq (a b : Nat → Int) (n : Nat) : qS a b n = (a n - sm (fun i => b (i + 1) * qS a b (n - (i + 1))) n) % 10007 * pw (b 0) 10005 % 10007 := by
  unfold qS
  rw [qT, up_eq]
  rw [sm_congr (g := fun i => b (i + 1) * qS a b (n - (i + 1))) (fun i hi => by rw [qT_lt a b n _ (by omega)])]
  rfl
theorem qS_in (a b : Nat → Int) (n : Nat) : 0 ≤ qS a b n ∧ qS a b n < 10007 := by rw [qS_eq]; omega
theorem qS_rok (a b : Nat → Int) : rok (qS a b) := fun j _ => qS_in a b j
set_option maxRecDepth 100000 in
theorem ok_becomeQuotient {o s t : Nat} (ho : SerK o) (hs : SerK s) (ht : SerK t) (hos : o ≠ s) (hot : o ≠ t) (A : Nat → Nat → Int) (ra : rok (A (s + 1))) (rb : rok (A (t + 1))) (N : Nat) : OkR mX3_becomeQuotient [.ref o, .ref s, .ref t] N (mA A) none (mA (va_up A (o + 1) (qS (A (s + 1)) (A (t + 1))))) := by
  have rb0 := rb 0 (by omega)
  have pv := pw_in (A (t + 1) 0) 10005
  refine OkM.of [some (.ref o), some (.ref s), some (.ref t), none, none, none, none] (by decide +kernel) rfl (Nat.le_of_ble_eq_true rfl) ?_
  intro X E F
  refine z_aload_n E dX3_becomeQuotient_0 rfl ?_
  refine z_get E dX3_becomeQuotient_1 (cel_ser ht _) flX3_9 (by rfl) ?_
  refine z_iconst E dX3_becomeQuotient_4 ?_
  refine a_iald (j := 0) E dX3_becomeQuotient_5 (cel_row ht) (by omega) (by omega) (by omega) ?_
  refine c_S E dX3_becomeQuotient_6 lkX3_33 (ok_inverse (A (t + 1) 0) rb0 N (mA A)) rfl rfl rfl (Nat.le_of_ble_eq_true rfl) ⟨(Nat.le_of_ble_eq_true rfl), (Nat.le_of_ble_eq_true rfl)⟩ ⟨rfl, rfl⟩ ⟨Nat.zero_le _, Nat.zero_le _⟩ ?_
  refine z_istore_n (ls' := [_, _, _, _, _, _, _]) E rfl dX3_becomeQuotient_9 (Nat.le_of_ble_eq_true rfl) rfl ?_
  refine z_iconst E dX3_becomeQuotient_10 ?_
  refine z_istore (ls' := [_, _, _, _, _, _, _]) E dX3_becomeQuotient_11 (Nat.le_of_ble_eq_true rfl) rfl ?_
  generalize hp : pw (A (t + 1) 0) 10005 = p at pv ⊢
  have loop : ∀ (m n : Nat), n + m = 10 → ∀ (l5 l6 : Option Value) (A' : Nat → Nat → Int), A' = va_up A (o + 1) (fun j => if j < n then qS (A (s + 1)) (A (t + 1)) j else A (o + 1) j) → Zc X 13 [some (.ref o), some (.ref s), some (.ref t), some (.int (iI p)), some (.int (iI (n : Int))), l5, l6] [] N (mA A') 0 0 := by
    intro m
    induction m with
    | zero =>
      intro n hn l5 l6 A' hA
      refine z_iload E dX3_becomeQuotient_13 rfl ?_
      refine z_bipush E (by decide) dX3_becomeQuotient_15 ?_
      refine z_icmp_ge (tgt := 94) E (by omega) (by omega) dX3_becomeQuotient_17 (by decide) (fun h17 => ?_) (fun h17 => ?_)
      · refine z_vret E F dX3_becomeQuotient_94 ⟨rfl, ?_⟩
        rw [hA]
        exact row_eq (cel_row ho) (fun j hj => if_pos (by omega))
      · omega
    | succ m ih =>
      intro n hn l5 l6 A' hA
      have rs : ∀ i, A' (s + 1) i = A (s + 1) i := fun i => by rw [hA, va_up_ne _ _ (by omega)]
      have rt : ∀ i, A' (t + 1) i = A (t + 1) i := fun i => by rw [hA, va_up_ne _ _ (by omega)]
      have rq : ∀ i, i < n → A' (o + 1) i = qS (A (s + 1)) (A (t + 1)) i := fun i hi => by rw [hA, va_up_self, if_pos hi]
      have pr : ∀ i, i < n → 0 ≤ A (t + 1) (i + 1) * qS (A (s + 1)) (A (t + 1)) (n - (i + 1)) ∧ A (t + 1) (i + 1) * qS (A (s + 1)) (A (t + 1)) (n - (i + 1)) ≤ 100120036 := fun i hi => mul_in (rb (i + 1) (by omega)) (qS_in _ _ _)
      have hra := ra n (by omega)
      refine z_iload E dX3_becomeQuotient_13 rfl ?_
      refine z_bipush E (by decide) dX3_becomeQuotient_15 ?_
      refine z_icmp_ge (tgt := 94) E (by omega) (by omega) dX3_becomeQuotient_17 (by decide) (fun h17 => ?_) (fun h17 => ?_)
      · omega
      · refine z_iconst E dX3_becomeQuotient_20 ?_
        refine z_istore (ls' := [_, _, _, _, _, _, _]) E dX3_becomeQuotient_21 (Nat.le_of_ble_eq_true rfl) rfl ?_
        refine z_iconst E dX3_becomeQuotient_23 ?_
        refine z_istore (ls' := [_, _, _, _, _, _, _]) E dX3_becomeQuotient_24 (Nat.le_of_ble_eq_true rfl) rfl ?_
        have inner : ∀ (m2 i : Nat), i + m2 = n → Zc X 26 [some (.ref o), some (.ref s), some (.ref t), some (.int (iI p)), some (.int (iI (n : Int))), some (.int (iI (sm (fun i => A (t + 1) (i + 1) * qS (A (s + 1)) (A (t + 1)) (n - (i + 1))) i))), some (.int (iI ((i : Int) + 1)))] [] N (mA A') 0 0 := by
          intro m2
          induction m2 with
          | zero =>
            intro i hi
            have hi2 : i = n := by omega
            subst hi2
            have hsm := sm_in (n := i) pr
            refine z_iload E dX3_becomeQuotient_26 rfl ?_
            refine z_iload E dX3_becomeQuotient_28 rfl ?_
            refine z_icmp_gt (tgt := 62) E (by omega) (by omega) dX3_becomeQuotient_30 (by decide) (fun h30 => ?_) (fun h30 => ?_)
            · refine z_aload_n E dX3_becomeQuotient_62 rfl ?_
              refine z_get E dX3_becomeQuotient_63 (cel_ser ho _) flX3_9 (by rfl) ?_
              refine z_iload E dX3_becomeQuotient_66 rfl ?_
              refine z_aload_n E dX3_becomeQuotient_68 rfl ?_
              refine z_get E dX3_becomeQuotient_69 (cel_ser hs _) flX3_9 (by rfl) ?_
              refine z_iload E dX3_becomeQuotient_72 rfl ?_
              refine a_iald (j := i) E dX3_becomeQuotient_74 (cel_row hs) (by omega) (by omega) (by omega) ?_
              refine z_iload E dX3_becomeQuotient_75 rfl ?_
              refine z_isub E dX3_becomeQuotient_77 ?_
              rw [rs]
              refine c_S E dX3_becomeQuotient_78 lkX3_27 (ok_of _ ⟨by omega, by omega⟩ N (mA A')) rfl rfl rfl (Nat.le_of_ble_eq_true rfl) ⟨(Nat.le_of_ble_eq_true rfl), (Nat.le_of_ble_eq_true rfl)⟩ ⟨rfl, rfl⟩ ⟨Nat.zero_le _, Nat.zero_le _⟩ ?_
              have hq2 := mul_in (a := (A (s + 1) i - sm (fun j => A (t + 1) (j + 1) * qS (A (s + 1)) (A (t + 1)) (i - (j + 1))) i) % 10007) (b := p) (by omega) pv
              refine z_iload_n E dX3_becomeQuotient_81 rfl ?_
              refine z_imul E dX3_becomeQuotient_82 ?_
              refine z_sipush E (by decide) dX3_becomeQuotient_83 ?_
              refine z_irem E (by omega) (by omega) (by omega) (Int.tmod_eq_emod_of_nonneg (by omega)) dX3_becomeQuotient_86 ?_
              refine a_iast (j := i) E dX3_becomeQuotient_87 (cel_row ho) (by omega) (by omega) (by omega) ?_
              refine z_iinc (ls' := [_, _, _, _, _, _, _]) E dX3_becomeQuotient_88 rfl rfl ?_
              refine z_goto (tgt := 13) E dX3_becomeQuotient_91 (by decide) ?_
              rw [ei]
              refine ih (i + 1) (by omega) _ _ _ ?_
              rw [hA, va_uu, va_up_self]
              refine congrArg (va_up A (o + 1)) (funext fun j => ?_)
              by_cases e1 : j = i
              · subst e1; rw [up_eq, if_pos (by omega), qS_eq, hp]
              · rw [up_ne _ _ e1]
                by_cases e2 : j < i
                · rw [if_pos e2, if_pos (by omega)]
                · rw [if_neg e2, if_neg (by omega)]
            · omega
          | succ m2 ihm =>
            intro i hi
            refine z_iload E dX3_becomeQuotient_26 rfl ?_
            refine z_iload E dX3_becomeQuotient_28 rfl ?_
            refine z_icmp_gt (tgt := 62) E (by omega) (by omega) dX3_becomeQuotient_30 (by decide) (fun h30 => ?_) (fun h30 => ?_)
            · omega
            · refine z_iload E dX3_becomeQuotient_33 rfl ?_
              refine z_aload_n E dX3_becomeQuotient_35 rfl ?_
              refine z_get E dX3_becomeQuotient_36 (cel_ser ht _) flX3_9 (by rfl) ?_
              refine z_iload E dX3_becomeQuotient_39 rfl ?_
              refine a_iald (j := i + 1) E dX3_becomeQuotient_41 (cel_row ht) (by omega) (by omega) (by omega) ?_
              refine z_aload_n E dX3_becomeQuotient_42 rfl ?_
              refine z_get E dX3_becomeQuotient_43 (cel_ser ho _) flX3_9 (by rfl) ?_
              refine z_iload E dX3_becomeQuotient_46 rfl ?_
              refine z_iload E dX3_becomeQuotient_48 rfl ?_
              refine z_isub E dX3_becomeQuotient_50 ?_
              refine a_iald (j := n - (i + 1)) E dX3_becomeQuotient_51 (cel_row ho) (by omega) (by omega) (by omega) ?_
              refine z_imul E dX3_becomeQuotient_52 ?_
              refine z_iadd E dX3_becomeQuotient_53 ?_
              refine z_istore (ls' := [_, _, _, _, _, _, _]) E dX3_becomeQuotient_54 (Nat.le_of_ble_eq_true rfl) rfl ?_
              refine z_iinc (ls' := [_, _, _, _, _, _, _]) E dX3_becomeQuotient_56 rfl rfl ?_
              refine z_goto (tgt := 26) E dX3_becomeQuotient_59 (by decide) ?_
              rw [rt, rq _ (by omega), ei]
              exact ihm (i + 1) (by omega)
        exact inner n 0 (by omega)
  refine z_mem ?_ (loop 10 0 (by omega) none none _ rfl)
  exact (row_id (cel_row ho) (fun j hj => if_neg (by omega))).symm
/-- a polynomial's value, by Horner's way: k terms from the highest on -/
def hv (c : Nat → Int) (p : Int) : Nat → Int
  | 0 => 0
  | k + 1 => (hv c p k * p + c (9 - k)) % 10007
theorem hv_in (c : Nat → Int) (p : Int) : ∀ k, 0 ≤ hv c p k ∧ hv c p k < 10007
  | 0 => by simp [hv]
  | k + 1 => by simp only [hv]; omega
set_option maxRecDepth 100000 in
theorem ok_valueAt {o : Nat} (ho : SerK o) (A : Nat → Nat → Int) (ra : rok (A (o + 1))) (x : Int) (hx : inR x) (N : Nat) : OkR mX3_valueAt [.ref o, .int (iI x)] N (mA A) (some (.int (iI (hv (A (o + 1)) (x % 10007) 10)))) (mA A) := by
  refine OkM.of [some (.ref o), some (.int (iI x)), none, none, none] (by decide +kernel) rfl (Nat.le_of_ble_eq_true rfl) ?_
  intro X E F
  refine z_iload_n E dX3_valueAt_0 rfl ?_
  refine c_S E dX3_valueAt_1 lkX3_27 (ok_of x hx N (mA A)) rfl rfl rfl (Nat.le_of_ble_eq_true rfl) ⟨(Nat.le_of_ble_eq_true rfl), (Nat.le_of_ble_eq_true rfl)⟩ ⟨rfl, rfl⟩ ⟨Nat.zero_le _, Nat.zero_le _⟩ ?_
  refine z_istore_n (ls' := [_, _, _, _, _]) E rfl dX3_valueAt_4 (Nat.le_of_ble_eq_true rfl) rfl ?_
  refine z_iconst E dX3_valueAt_5 ?_
  refine z_istore_n (ls' := [_, _, _, _, _]) E rfl dX3_valueAt_6 (Nat.le_of_ble_eq_true rfl) rfl ?_
  refine z_bipush E (by decide) dX3_valueAt_7 ?_
  refine z_istore (ls' := [_, _, _, _, _]) E dX3_valueAt_9 (Nat.le_of_ble_eq_true rfl) rfl ?_
  have loop : ∀ (m k : Nat), k + m = 10 → Zc X 11 [some (.ref o), some (.int (iI x)), some (.int (iI (x % 10007))), some (.int (iI (hv (A (o + 1)) (x % 10007) k))), some (.int (iI (9 - (k : Int))))] [] N (mA A) 0 0 := by
    intro m
    induction m with
    | zero =>
      intro k hk
      have hk2 : k = 10 := by omega
      subst hk2
      refine z_iload E dX3_valueAt_11 rfl ?_
      refine z_if_lt (tgt := 38) E (by omega) dX3_valueAt_13 (by decide) (fun h13 => ?_) (fun h13 => ?_)
      · refine z_iload_n E dX3_valueAt_38 rfl ?_
        exact z_iret E F dX3_valueAt_39 ⟨rfl, rfl⟩
      · omega
    | succ m ih =>
      intro k hk
      have h1 := hv_in (A (o + 1)) (x % 10007) k
      have h2 := mul_in h1 (b := x % 10007) (by omega)
      have h3 := ra (9 - k) (by omega)
      refine z_iload E dX3_valueAt_11 rfl ?_
      refine z_if_lt (tgt := 38) E (by omega) dX3_valueAt_13 (by decide) (fun h13 => ?_) (fun h13 => ?_)
      · omega
      · refine z_iload_n E dX3_valueAt_16 rfl ?_
        refine z_iload_n E dX3_valueAt_17 rfl ?_
        refine z_imul E dX3_valueAt_18 ?_
        refine z_aload_n E dX3_valueAt_19 rfl ?_
        refine z_get E dX3_valueAt_20 (cel_ser ho _) flX3_9 (by rfl) ?_
        refine z_iload E dX3_valueAt_23 rfl ?_
        refine a_iald (j := 9 - k) E dX3_valueAt_25 (cel_row ho) (by omega) (by omega) (by omega) ?_
        refine z_iadd E dX3_valueAt_26 ?_
        refine z_sipush E (by decide) dX3_valueAt_27 ?_
        refine z_irem E (by omega) (by omega) (by omega) (Int.tmod_eq_emod_of_nonneg (by omega)) dX3_valueAt_30 ?_
        refine z_istore_n (ls' := [_, _, _, _, _]) E rfl dX3_valueAt_31 (Nat.le_of_ble_eq_true rfl) rfl ?_
        refine z_iinc (ls' := [_, _, _, _, _]) E dX3_valueAt_32 rfl rfl ?_
        refine z_goto (tgt := 11) E dX3_valueAt_35 (by decide) ?_
        rw [show 9 - (k : Int) + -1 = 9 - ((k + 1 : Nat) : Int) by omega]
        exact ih (k + 1) (by omega)
  exact loop 10 0 (by omega)
def dg (c : Nat → Int) : Nat → Nat
  | 0 => 0
  | i + 1 => if c (i + 1) = 0 then dg c i else i + 1
set_option maxRecDepth 100000 in
theorem ok_degree {o : Nat} (ho : SerK o) (A : Nat → Nat → Int) (ra : rok (A (o + 1))) (N : Nat) : OkR mX3_degree [.ref o] N (mA A) (some (.int (iI (dg (A (o + 1)) 9 : Nat)))) (mA A) := by
  refine OkM.of [some (.ref o), none] (by decide +kernel) rfl (Nat.le_of_ble_eq_true rfl) ?_
  intro X E F
  refine z_bipush E (by decide) dX3_degree_0 ?_
  refine z_istore_n (ls' := [_, _]) E rfl dX3_degree_2 (Nat.le_of_ble_eq_true rfl) rfl ?_
  have loop : ∀ (k : Nat), k ≤ 9 → dg (A (o + 1)) k = dg (A (o + 1)) 9 → Zc X 3 [some (.ref o), some (.int (iI (k : Int)))] [] N (mA A) 0 0 := by
    intro k
    induction k with
    | zero =>
      intro _ he
      refine z_iload_n E dX3_degree_3 rfl ?_
      refine z_if_le (tgt := 24) E (by omega) dX3_degree_4 (by decide) (fun h4 => ?_) (fun h4 => ?_)
      · refine z_iconst E dX3_degree_24 ?_
        exact z_iret E F dX3_degree_25 ⟨by rw [← he]; rfl, rfl⟩
      · omega
    | succ k ih =>
      intro hk he
      have h3 := ra (k + 1) (by omega)
      refine z_iload_n E dX3_degree_3 rfl ?_
      refine z_if_le (tgt := 24) E (by omega) dX3_degree_4 (by decide) (fun h4 => ?_) (fun h4 => ?_)
      · omega
      · refine z_aload_n E dX3_degree_7 rfl ?_
        refine z_get E dX3_degree_8 (cel_ser ho _) flX3_9 (by rfl) ?_
        refine z_iload_n E dX3_degree_11 rfl ?_
        refine a_iald (j := k + 1) E dX3_degree_12 (cel_row ho) (by omega) (by omega) (by omega) ?_
        refine z_if_eq (tgt := 18) E (by omega) dX3_degree_13 (by decide) (fun h13 => ?_) (fun h13 => ?_)
        · refine z_iinc (ls' := [_, _]) E dX3_degree_18 rfl rfl ?_
          refine z_goto (tgt := 3) E dX3_degree_21 (by decide) ?_
          rw [show ((k + 1 : Nat) : Int) + -1 = (k : Int) by omega]
          refine ih (by omega) ?_
          rw [← he, dg, if_pos h13]
        · refine z_iload_n E dX3_degree_16 rfl ?_
          exact z_iret E F dX3_degree_17 ⟨by rw [← he, dg, if_neg h13], rfl⟩
  exact loop 9 (by omega) rfl
def mx (c : Nat → Int) (h : Int) : Nat → Int
  | 0 => h
  | k + 1 => 31 * mx c h k + c k
set_option maxRecDepth 100000 in
theorem ok_mixedInto {o : Nat} (ho : SerK o) (A : Nat → Nat → Int) (ra : rok (A (o + 1))) (h : Int) (N : Nat) : OkR mX3_mixedInto [.ref o, .long (lI h)] N (mA A) (some (.long (lI (mx (A (o + 1)) h 10)))) (mA A) := by
  refine OkM.of [some (.ref o), some (.long (lI h)), none, none, none, none] (by decide +kernel) rfl (Nat.le_of_ble_eq_true rfl) ?_
  intro X E F
  refine z_lload_n E dX3_mixedInto_0 rfl ?_
  refine z_lstore_n (ls' := [_, _, _, _, _, _]) E rfl dX3_mixedInto_1 (Nat.le_of_ble_eq_true rfl) rfl ?_
  refine z_iconst E dX3_mixedInto_2 ?_
  refine z_istore (ls' := [_, _, _, _, _, _]) E dX3_mixedInto_3 (Nat.le_of_ble_eq_true rfl) rfl ?_
  have loop : ∀ (m k : Nat), k + m = 10 → Zc X 5 [some (.ref o), some (.long (lI h)), none, some (.long (lI (mx (A (o + 1)) h k))), none, some (.int (iI (k : Int)))] [] N (mA A) 0 0 := by
    intro m
    induction m with
    | zero =>
      intro k hk
      have hk2 : k = 10 := by omega
      subst hk2
      refine z_iload E dX3_mixedInto_5 rfl ?_
      refine z_bipush E (by decide) dX3_mixedInto_7 ?_
      refine z_icmp_ge (tgt := 33) E (by omega) (by omega) dX3_mixedInto_9 (by decide) (fun h9 => ?_) (fun h9 => ?_)
      · refine z_lload_n E dX3_mixedInto_33 rfl ?_
        exact z_lret E F dX3_mixedInto_34 ⟨rfl, rfl⟩
      · omega
    | succ m ih =>
      intro k hk
      have h3 := ra k (by omega)
      refine z_iload E dX3_mixedInto_5 rfl ?_
      refine z_bipush E (by decide) dX3_mixedInto_7 ?_
      refine z_icmp_ge (tgt := 33) E (by omega) (by omega) dX3_mixedInto_9 (by decide) (fun h9 => ?_) (fun h9 => ?_)
      · omega
      · refine z_ldc2 (z := 31) E ctX3_44 (by decide) dX3_mixedInto_12 ?_
        refine z_lload_n E dX3_mixedInto_15 rfl ?_
        refine z_lmul E dX3_mixedInto_16 ?_
        refine z_aload_n E dX3_mixedInto_17 rfl ?_
        refine z_get E dX3_mixedInto_18 (cel_ser ho _) flX3_9 (by rfl) ?_
        refine z_iload E dX3_mixedInto_21 rfl ?_
        refine a_iald (j := k) E dX3_mixedInto_23 (cel_row ho) (by omega) (by omega) (by omega) ?_
        refine z_i2l E (by omega) dX3_mixedInto_24 ?_
        refine z_ladd E dX3_mixedInto_25 ?_
        refine z_lstore_n (ls' := [_, _, _, _, _, _]) E rfl dX3_mixedInto_26 (Nat.le_of_ble_eq_true rfl) rfl ?_
        refine z_iinc (ls' := [_, _, _, _, _, _]) E dX3_mixedInto_27 rfl rfl ?_
        refine z_goto (tgt := 5) E dX3_mixedInto_30 (by decide) ?_
        rw [ei]
        exact ih (k + 1) (by omega)
  exact loop 10 0 (by omega)
def tfS (r : Int) (c : Nat → Int) (j : Nat) : Int := if j = 0 then (-r * c 0) % 10007 else (c (j - 1) - r * c j) % 10007
set_option maxRecDepth 100000 in
theorem ok_becomeTimesFactor {o : Nat} (ho : SerK o) (A : Nat → Nat → Int) (ra : rok (A (o + 1))) (r : Int) (hr : 0 ≤ r ∧ r < 10) (N : Nat) : OkR mX3_becomeTimesFactor [.ref o, .int (iI r)] N (mA A) none (mA (va_up A (o + 1) (tfS r (A (o + 1))))) := by
  have pr : ∀ j, j < 10 → 0 ≤ r * A (o + 1) j ∧ r * A (o + 1) j ≤ 100120036 := fun j hj => mul_in (by omega) (ra j hj)
  refine OkM.of [some (.ref o), some (.int (iI r)), none] (by decide +kernel) rfl (Nat.le_of_ble_eq_true rfl) ?_
  intro X E F
  refine z_bipush E (by decide) dX3_becomeTimesFactor_0 ?_
  refine z_istore_n (ls' := [_, _, _]) E rfl dX3_becomeTimesFactor_2 (Nat.le_of_ble_eq_true rfl) rfl ?_
  have loop : ∀ (k : Nat), k ≤ 9 → ∀ A' : Nat → Nat → Int, A' = va_up A (o + 1) (fun j => if j ≤ k then A (o + 1) j else tfS r (A (o + 1)) j) → Zc X 3 [some (.ref o), some (.int (iI r)), some (.int (iI (k : Int)))] [] N (mA A') 0 0 := by
    intro k
    induction k with
    | zero =>
      intro _ A' hA
      have p0 := pr 0 (by omega)
      have e0 : A' (o + 1) 0 = A (o + 1) 0 := by rw [hA, va_up_self, if_pos (by omega)]
      refine z_iload_n E dX3_becomeTimesFactor_3 rfl ?_
      refine z_if_le (tgt := 39) E (by omega) dX3_becomeTimesFactor_4 (by decide) (fun h4 => ?_) (fun h4 => ?_)
      · refine z_aload_n E dX3_becomeTimesFactor_39 rfl ?_
        refine z_get E dX3_becomeTimesFactor_40 (cel_ser ho _) flX3_9 (by rfl) ?_
        refine z_iconst E dX3_becomeTimesFactor_43 ?_
        refine z_iload_n E dX3_becomeTimesFactor_44 rfl ?_
        refine z_ineg E dX3_becomeTimesFactor_45 ?_
        refine z_aload_n E dX3_becomeTimesFactor_46 rfl ?_
        refine z_get E dX3_becomeTimesFactor_47 (cel_ser ho _) flX3_9 (by rfl) ?_
        refine z_iconst E dX3_becomeTimesFactor_50 ?_
        refine a_iald (j := 0) E dX3_becomeTimesFactor_51 (cel_row ho) (by omega) (by omega) (by omega) ?_
        refine z_imul E dX3_becomeTimesFactor_52 ?_
        rw [e0, Int.neg_mul]
        refine c_S E dX3_becomeTimesFactor_53 lkX3_27 (ok_of (-(r * A (o + 1) 0)) ⟨by omega, by omega⟩ N (mA A')) rfl rfl rfl (Nat.le_of_ble_eq_true rfl) ⟨(Nat.le_of_ble_eq_true rfl), (Nat.le_of_ble_eq_true rfl)⟩ ⟨rfl, rfl⟩ ⟨Nat.zero_le _, Nat.zero_le _⟩ ?_
        refine a_iast (j := 0) E dX3_becomeTimesFactor_56 (cel_row ho) (by omega) (by omega) (by omega) ?_
        refine z_vret E F dX3_becomeTimesFactor_57 ⟨rfl, ?_⟩
        rw [hA, va_uu, va_up_self]
        refine row_eq (cel_row ho) (fun j hj => ?_)
        by_cases e1 : j = 0
        · subst e1; rw [up_eq, tfS, if_pos rfl, Int.neg_mul]
        · rw [up_ne _ _ e1, if_neg (by omega)]
      · omega
    | succ k ih =>
      intro hk A' hA
      have p0 := pr (k + 1) (by omega)
      have r0 := ra k (by omega)
      have e0 : ∀ j, j ≤ k + 1 → A' (o + 1) j = A (o + 1) j := fun j hj => by rw [hA, va_up_self, if_pos hj]
      refine z_iload_n E dX3_becomeTimesFactor_3 rfl ?_
      refine z_if_le (tgt := 39) E (by omega) dX3_becomeTimesFactor_4 (by decide) (fun h4 => ?_) (fun h4 => ?_)
      · omega
      · refine z_aload_n E dX3_becomeTimesFactor_7 rfl ?_
        refine z_get E dX3_becomeTimesFactor_8 (cel_ser ho _) flX3_9 (by rfl) ?_
        refine z_iload_n E dX3_becomeTimesFactor_11 rfl ?_
        refine z_aload_n E dX3_becomeTimesFactor_12 rfl ?_
        refine z_get E dX3_becomeTimesFactor_13 (cel_ser ho _) flX3_9 (by rfl) ?_
        refine z_iload_n E dX3_becomeTimesFactor_16 rfl ?_
        refine z_iconst E dX3_becomeTimesFactor_17 ?_
        refine z_isub E dX3_becomeTimesFactor_18 ?_
        refine a_iald (j := k) E dX3_becomeTimesFactor_19 (cel_row ho) (by omega) (by omega) (by omega) ?_
        refine z_iload_n E dX3_becomeTimesFactor_20 rfl ?_
        refine z_aload_n E dX3_becomeTimesFactor_21 rfl ?_
        refine z_get E dX3_becomeTimesFactor_22 (cel_ser ho _) flX3_9 (by rfl) ?_
        refine z_iload_n E dX3_becomeTimesFactor_25 rfl ?_
        refine a_iald (j := k + 1) E dX3_becomeTimesFactor_26 (cel_row ho) (by omega) (by omega) (by omega) ?_
        refine z_imul E dX3_becomeTimesFactor_27 ?_
        refine z_isub E dX3_becomeTimesFactor_28 ?_
        rw [e0 k (by omega), e0 (k + 1) (by omega)]
        refine c_S E dX3_becomeTimesFactor_29 lkX3_27 (ok_of (A (o + 1) k - r * A (o + 1) (k + 1)) ⟨by omega, by omega⟩ N (mA A')) rfl rfl rfl (Nat.le_of_ble_eq_true rfl) ⟨(Nat.le_of_ble_eq_true rfl), (Nat.le_of_ble_eq_true rfl)⟩ ⟨rfl, rfl⟩ ⟨Nat.zero_le _, Nat.zero_le _⟩ ?_
        refine a_iast (j := k + 1) E dX3_becomeTimesFactor_32 (cel_row ho) (by omega) (by omega) (by omega) ?_
        refine z_iinc (ls' := [_, _, _]) E dX3_becomeTimesFactor_33 rfl rfl ?_
        refine z_goto (tgt := 3) E dX3_becomeTimesFactor_36 (by decide) ?_
        rw [show ((k + 1 : Nat) : Int) + -1 = (k : Int) by omega]
        refine ih (by omega) _ ?_
        rw [hA, va_uu, va_up_self]
        congr 1
        funext j
        by_cases e1 : j = k + 1
        · subst e1; rw [up_eq, if_neg (by omega), tfS, if_neg (by omega), Nat.add_sub_cancel]
        · rw [up_ne _ _ e1]
          by_cases e2 : j ≤ k
          · rw [if_pos e2, if_pos (by omega)]
          · rw [if_neg e2, if_neg (by omega)]
  refine z_mem ?_ (loop 9 (by omega) _ rfl)
  exact (row_id (cel_row ho) (fun j hj => if_pos (by omega))).symm
theorem tfS_rok (r : Int) (c : Nat → Int) : rok (tfS r c) := fun j _ => by unfold tfS; split <;> omega
theorem conS_rok {a : Int} (h : 0 ≤ a ∧ a < 10007) : rok (conS a) := fun j _ => by
  unfold conS up
  dsimp only
  split <;> omega
/-- s put into t, by Horner's way -/
def hoS (s t : Nat → Int) : Nat → (Nat → Int)
  | 0 => conS (s 9)
  | k + 1 => up (mulS (hoS s t k) t) 0 ((mulS (hoS s t k) t 0 + s (8 - k)) % 10007)
theorem up_rok {f : Nat → Int} {k : Nat} {x : Int} (h : rok f) (hx : 0 ≤ x ∧ x < 10007) : rok (up f k x) := fun j hj => by
  by_cases e : j = k
  · subst e; rw [up_eq]; exact hx
  · rw [up_ne _ _ e]; exact h j hj
theorem hoS_rok {s : Nat → Int} (t : Nat → Int) (h : rok s) : ∀ k, rok (hoS s t k)
  | 0 => conS_rok (h 9 (by omega))
  | k + 1 => up_rok (mulS_rok _ _) (by omega)
set_option maxRecDepth 100000 in
theorem ok_becomeInto {o s t : Nat} (ho : SerK o) (hs : SerK s) (ht : SerK t) (hos : o ≠ s) (hot : o ≠ t) (A : Nat → Nat → Int) (ra : rok (A (s + 1))) (rb : rok (A (t + 1))) (N : Nat) : OkR mX3_becomeInto [.ref o, .ref s, .ref t] N (mA A) none (mA (va_up A (o + 1) (hoS (A (s + 1)) (A (t + 1)) 9))) := by
  refine OkM.of [some (.ref o), some (.ref s), some (.ref t), none] (by decide +kernel) rfl (Nat.le_of_ble_eq_true rfl) ?_
  intro X E F
  refine z_aload_n E dX3_becomeInto_0 rfl ?_
  refine z_aload_n E dX3_becomeInto_1 rfl ?_
  refine z_get E dX3_becomeInto_2 (cel_ser hs _) flX3_9 (by rfl) ?_
  refine z_bipush E (by decide) dX3_becomeInto_5 ?_
  refine a_iald (j := 9) E dX3_becomeInto_7 (cel_row hs) (by omega) (by omega) (by omega) ?_
  refine c_V0 E dX3_becomeInto_8 lkX3_36 (ok_becomeConstant ho A (A (s + 1) 9) N) (cel_ser ho _) rfl rfl rfl (Nat.le_of_ble_eq_true rfl) ⟨(Nat.le_of_ble_eq_true rfl), (Nat.le_of_ble_eq_true rfl)⟩ ⟨rfl, rfl⟩ ⟨Nat.zero_le _, Nat.zero_le _⟩ ?_
  refine z_bipush E (by decide) dX3_becomeInto_11 ?_
  refine z_istore_n (ls' := [_, _, _, _]) E rfl dX3_becomeInto_13 (Nat.le_of_ble_eq_true rfl) rfl ?_
  have loop : ∀ (m k : Nat), k + m = 9 → ∀ A' : Nat → Nat → Int, A' = va_up A (o + 1) (hoS (A (s + 1)) (A (t + 1)) k) → Zc X 14 [some (.ref o), some (.ref s), some (.ref t), some (.int (iI (8 - (k : Int))))] [] N (mA A') 0 0 := by
    intro m
    induction m with
    | zero =>
      intro k hk A' hA
      have hk2 : k = 9 := by omega
      subst hk2
      refine z_iload_n E dX3_becomeInto_14 rfl ?_
      refine z_if_lt (tgt := 53) E (by omega) dX3_becomeInto_15 (by decide) (fun h15 => ?_) (fun h15 => ?_)
      · exact z_vret E F dX3_becomeInto_53 ⟨rfl, by rw [hA]⟩
      · omega
    | succ m ih =>
      intro k hk A' hA
      have es : A' (s + 1) = A (s + 1) := by rw [hA, va_up_ne _ _ (by omega)]
      have et : A' (t + 1) = A (t + 1) := by rw [hA, va_up_ne _ _ (by omega)]
      have eo : A' (o + 1) = hoS (A (s + 1)) (A (t + 1)) k := by rw [hA, va_up_self]
      have h3 := ra (8 - k) (by omega)
      refine z_iload_n E dX3_becomeInto_14 rfl ?_
      refine z_if_lt (tgt := 53) E (by omega) dX3_becomeInto_15 (by decide) (fun h15 => ?_) (fun h15 => ?_)
      · omega
      · refine z_aload_n E dX3_becomeInto_18 rfl ?_
        refine z_aload_n E dX3_becomeInto_19 rfl ?_
        refine z_aload_n E dX3_becomeInto_20 rfl ?_
        refine c_V0 E dX3_becomeInto_21 lkX3_40 (ok_becomeTimes ho ho ht A' (by rw [eo]; exact hoS_rok _ ra k) (by rw [et]; exact rb) N) (cel_ser ho _) rfl rfl rfl (Nat.le_of_ble_eq_true rfl) ⟨(Nat.le_of_ble_eq_true rfl), (Nat.le_of_ble_eq_true rfl)⟩ ⟨rfl, rfl⟩ ⟨Nat.zero_le _, Nat.zero_le _⟩ ?_
        rw [eo, et]
        have h4 := mulS_in (hoS (A (s + 1)) (A (t + 1)) k) (A (t + 1)) 0
        refine z_aload_n E dX3_becomeInto_24 rfl ?_
        refine z_get E dX3_becomeInto_25 (cel_ser ho _) flX3_9 (by rfl) ?_
        refine z_iconst E dX3_becomeInto_28 ?_
        refine z_aload_n E dX3_becomeInto_29 rfl ?_
        refine z_get E dX3_becomeInto_30 (cel_ser ho _) flX3_9 (by rfl) ?_
        refine z_iconst E dX3_becomeInto_33 ?_
        refine a_iald (j := 0) E dX3_becomeInto_34 (cel_row ho) (by omega) (by omega) (by omega) ?_
        rw [va_up_self]
        refine z_aload_n E dX3_becomeInto_35 rfl ?_
        refine z_get E dX3_becomeInto_36 (cel_ser hs _) flX3_9 (by rfl) ?_
        refine z_iload_n E dX3_becomeInto_39 rfl ?_
        refine a_iald (j := 8 - k) E dX3_becomeInto_40 (cel_row hs) (by omega) (by omega) (by omega) ?_
        rw [va_up_ne (k := o + 1) (j := s + 1) _ _ (by omega), es]
        refine z_iadd E dX3_becomeInto_41 ?_
        refine z_sipush E (by decide) dX3_becomeInto_42 ?_
        refine z_irem E (by omega) (by omega) (by omega) (Int.tmod_eq_emod_of_nonneg (by omega)) dX3_becomeInto_45 ?_
        refine a_iast (j := 0) E dX3_becomeInto_46 (cel_row ho) (by omega) (by omega) (by omega) ?_
        refine z_iinc (ls' := [_, _, _, _]) E dX3_becomeInto_47 rfl rfl ?_
        refine z_goto (tgt := 14) E dX3_becomeInto_50 (by decide) ?_
        rw [show 8 - (k : Int) + -1 = 8 - ((k + 1 : Nat) : Int) by omega]
        refine ih (k + 1) (by omega) _ ?_
        rw [hA, va_uu, va_uu, va_up_self]
        rfl
  exact loop 9 0 (by omega) _ rfl
/-- s to the n, bit by bit from the highest of ten on -/
def raS (s : Nat → Int) (n : Nat) : Nat → (Nat → Int)
  | 0 => conS 1
  | k + 1 => if n / 2 ^ (9 - k) % 2 = 1 then mulS (mulS (raS s n k) (raS s n k)) s else mulS (raS s n k) (raS s n k)
theorem raS_rok (s : Nat → Int) (n : Nat) : ∀ k, rok (raS s n k)
  | 0 => conS_rok (by omega)
  | k + 1 => by
    unfold raS
    split
    · exact mulS_rok _ _
    · exact mulS_rok _ _
theorem shr_n (n b : Nat) (hn : n < 2147483648) (hb : b < 10) : iI (n : Int) >>> (iI (b : Int) &&& 31) = iI ((n / 2 ^ b : Nat) : Int) := by
  rw [iI_nI, iI_nI]
  refine pk_shrN hn (iI (b : Int) &&& 31) b ?_
  rcases (show b = 0 ∨ b = 1 ∨ b = 2 ∨ b = 3 ∨ b = 4 ∨ b = 5 ∨ b = 6 ∨ b = 7 ∨ b = 8 ∨ b = 9 by omega) with rfl | rfl | rfl | rfl | rfl | rfl | rfl | rfl | rfl | rfl <;> decide
set_option maxRecDepth 100000 in
theorem ok_becomeRaised {o s : Nat} (ho : SerK o) (hs : SerK s) (hos : o ≠ s) (A : Nat → Nat → Int) (ra : rok (A (s + 1))) (n : Nat) (hn : n ≤ 1000) (N : Nat) : OkR mX3_becomeRaised [.ref o, .ref s, .int (iI (n : Int))] N (mA A) none (mA (va_up A (o + 1) (raS (A (s + 1)) n 10))) := by
  refine OkM.of [some (.ref o), some (.ref s), some (.int (iI (n : Int))), none] (by decide +kernel) rfl (Nat.le_of_ble_eq_true rfl) ?_
  intro X E F
  refine z_aload_n E dX3_becomeRaised_0 rfl ?_
  refine z_iconst E dX3_becomeRaised_1 ?_
  refine c_V0 E dX3_becomeRaised_2 lkX3_36 (ok_becomeConstant ho A 1 N) (cel_ser ho _) rfl rfl rfl (Nat.le_of_ble_eq_true rfl) ⟨(Nat.le_of_ble_eq_true rfl), (Nat.le_of_ble_eq_true rfl)⟩ ⟨rfl, rfl⟩ ⟨Nat.zero_le _, Nat.zero_le _⟩ ?_
  refine z_bipush E (by decide) dX3_becomeRaised_5 ?_
  refine z_istore_n (ls' := [_, _, _, _]) E rfl dX3_becomeRaised_7 (Nat.le_of_ble_eq_true rfl) rfl ?_
  have loop : ∀ (m k : Nat), k + m = 10 → ∀ A' : Nat → Nat → Int, A' = va_up A (o + 1) (raS (A (s + 1)) n k) → Zc X 8 [some (.ref o), some (.ref s), some (.int (iI (n : Int))), some (.int (iI (9 - (k : Int))))] [] N (mA A') 0 0 := by
    intro m
    induction m with
    | zero =>
      intro k hk A' hA
      have hk2 : k = 10 := by omega
      subst hk2
      refine z_iload_n E dX3_becomeRaised_8 rfl ?_
      refine z_if_lt (tgt := 38) E (by omega) dX3_becomeRaised_9 (by decide) (fun h9 => ?_) (fun h9 => ?_)
      · exact z_vret E F dX3_becomeRaised_38 ⟨rfl, by rw [hA]⟩
      · omega
    | succ m ih =>
      intro k hk A' hA
      have es : A' (s + 1) = A (s + 1) := by rw [hA, va_up_ne _ _ (by omega)]
      have eo : A' (o + 1) = raS (A (s + 1)) n k := by rw [hA, va_up_self]
      have hle : n / 2 ^ (9 - k) ≤ n := Nat.div_le_self _ _
      refine z_iload_n E dX3_becomeRaised_8 rfl ?_
      refine z_if_lt (tgt := 38) E (by omega) dX3_becomeRaised_9 (by decide) (fun h9 => ?_) (fun h9 => ?_)
      · omega
      · refine z_aload_n E dX3_becomeRaised_12 rfl ?_
        refine z_aload_n E dX3_becomeRaised_13 rfl ?_
        refine z_aload_n E dX3_becomeRaised_14 rfl ?_
        refine c_V0 E dX3_becomeRaised_15 lkX3_40 (ok_becomeTimes ho ho ho A' (by rw [eo]; exact raS_rok _ n k) (by rw [eo]; exact raS_rok _ n k) N) (cel_ser ho _) rfl rfl rfl (Nat.le_of_ble_eq_true rfl) ⟨(Nat.le_of_ble_eq_true rfl), (Nat.le_of_ble_eq_true rfl)⟩ ⟨rfl, rfl⟩ ⟨Nat.zero_le _, Nat.zero_le _⟩ ?_
        rw [eo]
        refine z_iload_n E dX3_becomeRaised_18 rfl ?_
        refine z_iload_n E dX3_becomeRaised_19 rfl ?_
        refine z_ishr E (by rw [show 9 - (k : Int) = ((9 - k : Nat) : Int) by omega]; exact shr_n n (9 - k) (by omega) (by omega)) dX3_becomeRaised_20 ?_
        refine z_iconst E dX3_becomeRaised_21 ?_
        refine z_iand E (and_1 _ (by omega)) dX3_becomeRaised_22 ?_
        refine z_if_eq (tgt := 32) E (by omega) dX3_becomeRaised_23 (by decide) (fun h23 => ?_) (fun h23 => ?_)
        · refine z_iinc (ls' := [_, _, _, _]) E dX3_becomeRaised_32 rfl rfl ?_
          refine z_goto (tgt := 8) E dX3_becomeRaised_35 (by decide) ?_
          rw [show 9 - (k : Int) + -1 = 9 - ((k + 1 : Nat) : Int) by omega]
          refine ih (k + 1) (by omega) _ ?_
          rw [hA, va_uu, raS, if_neg (by omega)]
        · refine z_aload_n E dX3_becomeRaised_26 rfl ?_
          refine z_aload_n E dX3_becomeRaised_27 rfl ?_
          refine z_aload_n E dX3_becomeRaised_28 rfl ?_
          refine c_V0 E dX3_becomeRaised_29 lkX3_40 (ok_becomeTimes ho ho hs _ (by rw [va_up_self]; exact mulS_rok _ _) (by rw [va_up_ne _ _ (by omega), es]; exact ra) N) (cel_ser ho _) rfl rfl rfl (Nat.le_of_ble_eq_true rfl) ⟨(Nat.le_of_ble_eq_true rfl), (Nat.le_of_ble_eq_true rfl)⟩ ⟨rfl, rfl⟩ ⟨Nat.zero_le _, Nat.zero_le _⟩ ?_
          rw [va_up_self, va_up_ne (k := o + 1) (j := s + 1) _ _ (by omega), es]
          refine z_iinc (ls' := [_, _, _, _]) E dX3_becomeRaised_32 rfl rfl ?_
          refine z_goto (tgt := 8) E dX3_becomeRaised_35 (by decide) ?_
          rw [show 9 - (k : Int) + -1 = 9 - ((k + 1 : Nat) : Int) by omega]
          refine ih (k + 1) (by omega) _ ?_
          rw [hA, va_uu, va_uu, raS, if_pos (by omega)]
  exact loop 10 0 (by omega) _ rfl
