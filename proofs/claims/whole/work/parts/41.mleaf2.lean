/-! the reference: rows put into one another, values; its state -/
theorem t162 : TenK 162 := ⟨by omega, by omega⟩
theorem t163 : TenK 163 := ⟨by omega, by omega⟩
theorem t164 : TenK 164 := ⟨by omega, by omega⟩
theorem t165 : TenK 165 := ⟨by omega, by omega⟩
theorem t166 : TenK 166 := ⟨by omega, by omega⟩
theorem t167 : TenK 167 := ⟨by omega, by omega⟩
theorem t168 : TenK 168 := ⟨by omega, by omega⟩
theorem t169 : TenK 169 := ⟨by omega, by omega⟩
/-- the sum of x k times y to the k, for k below -/
def ptS (x y : Nat → Int) : Nat → (Nat → Int)
  | 0 => fun _ => 0
  | k + 1 => fun i => (ptS x y k i + x k * pS y k i) % 10007
theorem ptS_rok (x y : Nat → Int) : ∀ k, rok (ptS x y k)
  | 0 => fun j _ => by simp [ptS]
  | k + 1 => fun j _ => by simp only [ptS]; omega
set_option maxRecDepth 100000 in
theorem ok_puts {x y z : Nat} (hx : TenK x) (hy : TenK y) (hz : TenK z) (hx2 : x < 167) (hy2 : y < 167) (hz2 : z < 167) (A : Nat → Nat → Int) (ra : rok (A x)) (rb : rok (A y)) (N : Nat) : OkQ mX6_puts [.ref 156, .ref x, .ref y, .ref z] N (mA A) (fun g' => ∃ A', g' = mA A' ∧ A' z = ptS (A x) (A y) 10 ∧ Off A A' [167, 168, 169, z]) := by
  refine OkM.of [some (.ref 156), some (.ref x), some (.ref y), some (.ref z), none, none] (by decide +kernel) rfl (Nat.le_of_ble_eq_true rfl) ?_
  intro X E F
  refine z_aload_n E dX6_puts_0 rfl ?_
  refine z_get E dX6_puts_1 (by rfl) flX6_44 (by rfl) ?_
  refine c_S0 E dX6_puts_4 lkX6_90 (ok_one t168 A N) rfl rfl rfl (Nat.le_of_ble_eq_true rfl) ⟨(Nat.le_of_ble_eq_true rfl), (Nat.le_of_ble_eq_true rfl)⟩ ⟨rfl, rfl⟩ ⟨Nat.zero_le _, Nat.zero_le _⟩ ?_
  refine z_iconst E dX6_puts_7 ?_
  refine z_istore (ls' := [_, _, _, _, _, _]) E dX6_puts_8 (Nat.le_of_ble_eq_true rfl) rfl ?_
  have third : ∀ (q k : Nat), k + q = 10 → ∀ (l5 : Option Value) (A' : Nat → Nat → Int), A' x = A x → A' y = A y → A' 168 = pS (A y) k → A' 169 = ptS (A x) (A y) k → Off A A' [167, 168, 169, z] → Zc X 34 [some (.ref 156), some (.ref x), some (.ref y), some (.ref z), some (.int (iI (k : Int))), l5] [] N (mA A') 0 0 := by
    intro q
    induction q with
    | zero =>
      intro k hk l5 A' ex ey e8 e9 hof
      have hk2 : k = 10 := by omega
      subst hk2
      refine z_iload E dX6_puts_34 rfl ?_
      refine z_bipush E (by decide) dX6_puts_36 ?_
      refine z_icmp_ge (tgt := 119) E (by omega) (by omega) dX6_puts_38 (by decide) (fun h38 => ?_) (fun h38 => ?_)
      · refine z_aload_n E dX6_puts_119 rfl ?_
        refine z_get E dX6_puts_120 (by rfl) flX6_47 (by rfl) ?_
        refine z_aload_n E dX6_puts_123 rfl ?_
        refine c_S0 E dX6_puts_124 lkX6_98 (ok_set t169 hz A' N) rfl rfl rfl (Nat.le_of_ble_eq_true rfl) ⟨(Nat.le_of_ble_eq_true rfl), (Nat.le_of_ble_eq_true rfl)⟩ ⟨rfl, rfl⟩ ⟨Nat.zero_le _, Nat.zero_le _⟩ ?_
        rw [e9]
        refine z_vret E F dX6_puts_127 ⟨rfl, _, rfl, va_up_self _ _ _, fun k hk => ?_⟩
        rw [va_up_ne _ _ (by simp at hk; omega)]
        exact hof k hk
      · omega
    | succ q ih =>
      intro k hk l5 A' ex ey e8 e9 hof
      have rx := ra k (by omega)
      refine z_iload E dX6_puts_34 rfl ?_
      refine z_bipush E (by decide) dX6_puts_36 ?_
      refine z_icmp_ge (tgt := 119) E (by omega) (by omega) dX6_puts_38 (by decide) (fun h38 => ?_) (fun h38 => ?_)
      · omega
      · refine z_iconst E dX6_puts_41 ?_
        refine z_istore (ls' := [_, _, _, _, _, _]) E dX6_puts_42 (Nat.le_of_ble_eq_true rfl) rfl ?_
        have inner : ∀ (q2 i : Nat), i + q2 = 10 → ∀ (A2 : Nat → Nat → Int), A2 = va_up A' 169 (fun j => if j < i then ptS (A x) (A y) (k + 1) j else ptS (A x) (A y) k j) → Zc X 44 [some (.ref 156), some (.ref x), some (.ref y), some (.ref z), some (.int (iI (k : Int))), some (.int (iI (i : Int)))] [] N (mA A2) 0 0 := by
          intro q2
          induction q2 with
          | zero =>
            intro i hi A2 hA2
            have f1 : ∀ r, r ≠ 169 → A2 r = A' r := fun r hr => by rw [hA2, va_up_ne _ _ hr]
            have e8' : A2 168 = pS (A y) k := by rw [f1 168 (by omega)]; exact e8
            have ey' : A2 y = A y := by rw [f1 y (by omega)]; exact ey
            refine z_iload E dX6_puts_44 rfl ?_
            refine z_bipush E (by decide) dX6_puts_46 ?_
            refine z_icmp_ge (tgt := 90) E (by omega) (by omega) dX6_puts_48 (by decide) (fun h48 => ?_) (fun h48 => ?_)
            · refine z_aload_n E dX6_puts_90 rfl ?_
              refine z_get E dX6_puts_91 (by rfl) flX6_44 (by rfl) ?_
              refine z_aload_n E dX6_puts_94 rfl ?_
              refine z_aload_n E dX6_puts_95 rfl ?_
              refine z_get E dX6_puts_96 (by rfl) flX6_41 (by rfl) ?_
              refine c_S0 E dX6_puts_99 lkX6_94 (ok_times t168 hy t167 (by omega) (by omega) A2 (by rw [e8']; exact pS_rok _ _) (by rw [ey']; exact rb) N) rfl rfl rfl (Nat.le_of_ble_eq_true rfl) ⟨(Nat.le_of_ble_eq_true rfl), (Nat.le_of_ble_eq_true rfl)⟩ ⟨rfl, rfl⟩ ⟨Nat.zero_le _, Nat.zero_le _⟩ ?_
              rw [e8', ey']
              refine z_aload_n E dX6_puts_102 rfl ?_
              refine z_get E dX6_puts_103 (by rfl) flX6_41 (by rfl) ?_
              refine z_aload_n E dX6_puts_106 rfl ?_
              refine z_get E dX6_puts_107 (by rfl) flX6_44 (by rfl) ?_
              refine c_S0 E dX6_puts_110 lkX6_98 (ok_set t167 t168 _ N) rfl rfl rfl (Nat.le_of_ble_eq_true rfl) ⟨(Nat.le_of_ble_eq_true rfl), (Nat.le_of_ble_eq_true rfl)⟩ ⟨rfl, rfl⟩ ⟨Nat.zero_le _, Nat.zero_le _⟩ ?_
              rw [va_up_self]
              refine z_iinc (ls' := [_, _, _, _, _, _]) E dX6_puts_113 rfl rfl ?_
              refine z_goto (tgt := 34) E dX6_puts_116 (by decide) ?_
              rw [ei]
              have e9' : mA (va_up (va_up A2 167 (mulS (pS (A y) k) (A y))) 168 (mulS (pS (A y) k) (A y))) = mA (va_up (va_up (va_up A' 169 (ptS (A x) (A y) (k + 1))) 167 (mulS (pS (A y) k) (A y))) 168 (mulS (pS (A y) k) (A y))) := by
                have h0 : mA A2 = mA (va_up A' 169 (ptS (A x) (A y) (k + 1))) := by rw [hA2]; exact row_eq (cel_ten t169) (fun j hj => if_pos (by omega))
                rw [← mA_up, ← mA_up, h0, mA_up, mA_up]
              refine z_mem e9' ?_
              refine ih (k + 1) (by omega) _ _ ?_ ?_ ?_ ?_ ?_
              · rw [va_up_ne _ _ (by omega), va_up_ne _ _ (by omega), va_up_ne _ _ (by omega)]; exact ex
              · rw [va_up_ne _ _ (by omega), va_up_ne _ _ (by omega), va_up_ne _ _ (by omega)]; exact ey
              · rw [va_up_self]; rfl
              · rw [va_up_ne _ _ (by omega), va_up_ne _ _ (by omega), va_up_self]
              · intro r hr
                have hr2 := hr
                simp at hr2
                rw [va_up_ne _ _ (by omega), va_up_ne _ _ (by omega), va_up_ne _ _ (by omega)]
                exact hof r hr
            · omega
          | succ q2 ihi =>
            intro i hi A2 hA2
            have f1 : ∀ r, r ≠ 169 → A2 r = A' r := fun r hr => by rw [hA2, va_up_ne _ _ hr]
            have f9 : A2 169 i = ptS (A x) (A y) k i := by rw [hA2, va_up_self, if_neg (by omega)]
            have r9 := ptS_rok (A x) (A y) k i (by omega)
            have r8 := pS_rok (A y) k i (by omega)
            have p1 := mul_in rx r8
            refine z_iload E dX6_puts_44 rfl ?_
            refine z_bipush E (by decide) dX6_puts_46 ?_
            refine z_icmp_ge (tgt := 90) E (by omega) (by omega) dX6_puts_48 (by decide) (fun h48 => ?_) (fun h48 => ?_)
            · omega
            · refine z_aload_n E dX6_puts_51 rfl ?_
              refine z_get E dX6_puts_52 (by rfl) flX6_47 (by rfl) ?_
              refine z_iload E dX6_puts_55 rfl ?_
              refine z_aload_n E dX6_puts_57 rfl ?_
              refine z_get E dX6_puts_58 (by rfl) flX6_47 (by rfl) ?_
              refine z_iload E dX6_puts_61 rfl ?_
              refine a_iald (j := i) E dX6_puts_63 (fun _ => rfl) (by omega) (by omega) (by omega) ?_
              rw [f9]
              refine z_i2l E (by omega) dX6_puts_64 ?_
              refine z_aload_n E dX6_puts_65 rfl ?_
              refine z_iload E dX6_puts_66 rfl ?_
              refine a_iald (j := k) E dX6_puts_68 (cel_ten hx) (by omega) (by omega) (by omega) ?_
              rw [f1 x (by omega), ex]
              refine z_i2l E (by omega) dX6_puts_69 ?_
              refine z_aload_n E dX6_puts_70 rfl ?_
              refine z_get E dX6_puts_71 (by rfl) flX6_44 (by rfl) ?_
              refine z_iload E dX6_puts_74 rfl ?_
              refine a_iald (j := i) E dX6_puts_76 (fun _ => rfl) (by omega) (by omega) (by omega) ?_
              rw [f1 168 (by omega), e8]
              refine z_i2l E (by omega) dX6_puts_77 ?_
              refine z_lmul E dX6_puts_78 ?_
              refine z_ladd E dX6_puts_79 ?_
              refine c_S E dX6_puts_80 lkX6_62 (ok_mod _ ⟨by omega, by omega⟩ (by omega) N (mA A2)) rfl rfl rfl (Nat.le_of_ble_eq_true rfl) ⟨(Nat.le_of_ble_eq_true rfl), (Nat.le_of_ble_eq_true rfl)⟩ ⟨rfl, rfl⟩ ⟨Nat.zero_le _, Nat.zero_le _⟩ ?_
              refine a_iast (j := i) E dX6_puts_83 (fun _ => rfl) (by omega) (by omega) (by omega) ?_
              refine z_iinc (ls' := [_, _, _, _, _, _]) E dX6_puts_84 rfl rfl ?_
              refine z_goto (tgt := 44) E dX6_puts_87 (by decide) ?_
              rw [ei]
              refine ihi (i + 1) (by omega) _ ?_
              rw [hA2, va_uu, va_up_self]
              refine congrArg (va_up A' 169) (funext fun j => ?_)
              by_cases e1 : j = i
              · subst e1; rw [up_eq, if_pos (by omega)]; rfl
              · rw [up_ne _ _ e1]
                by_cases e2 : j < i
                · rw [if_pos e2, if_pos (by omega)]
                · rw [if_neg e2, if_neg (by omega)]
        refine inner 10 0 (by omega) A' ?_
        rw [show (fun j => if j < 0 then ptS (A x) (A y) (k + 1) j else ptS (A x) (A y) k j) = A' 169 by rw [e9]; funext j; rw [if_neg (by omega)], up_same]
  have first : ∀ (q i : Nat), i + q = 10 → ∀ (A' : Nat → Nat → Int), A' x = A x → A' y = A y → A' 168 = conS 1 → (∀ j, j < i → A' 169 j = 0) → Off A A' [167, 168, 169, z] → Zc X 10 [some (.ref 156), some (.ref x), some (.ref y), some (.ref z), some (.int (iI (i : Int))), none] [] N (mA A') 0 0 := by
    intro q
    induction q with
    | zero =>
      intro i hi A' ex ey e8 e9 hof
      refine z_iload E dX6_puts_10 rfl ?_
      refine z_bipush E (by decide) dX6_puts_12 ?_
      refine z_icmp_ge (tgt := 31) E (by omega) (by omega) dX6_puts_14 (by decide) (fun h14 => ?_) (fun h14 => ?_)
      · refine z_iconst E dX6_puts_31 ?_
        refine z_istore (ls' := [_, _, _, _, _, _]) E dX6_puts_32 (Nat.le_of_ble_eq_true rfl) rfl ?_
        refine z_mem (g' := mA (va_up A' 169 (ptS (A x) (A y) 0))) ?_ ?_
        · exact (row_id (cel_ten t169) (fun j hj => (e9 j (by omega)).symm)).symm
        · refine third 10 0 (by omega) none _ ?_ ?_ ?_ ?_ ?_
          · rw [va_up_ne _ _ (by omega)]; exact ex
          · rw [va_up_ne _ _ (by omega)]; exact ey
          · rw [va_up_ne _ _ (by omega)]; exact e8
          · exact va_up_self _ _ _
          · intro r hr
            have hr2 := hr
            simp at hr2
            rw [va_up_ne _ _ (by omega)]; exact hof r hr
      · omega
    | succ q ih =>
      intro i hi A' ex ey e8 e9 hof
      refine z_iload E dX6_puts_10 rfl ?_
      refine z_bipush E (by decide) dX6_puts_12 ?_
      refine z_icmp_ge (tgt := 31) E (by omega) (by omega) dX6_puts_14 (by decide) (fun h14 => ?_) (fun h14 => ?_)
      · omega
      · refine z_aload_n E dX6_puts_17 rfl ?_
        refine z_get E dX6_puts_18 (by rfl) flX6_47 (by rfl) ?_
        refine z_iload E dX6_puts_21 rfl ?_
        refine z_iconst E dX6_puts_23 ?_
        refine a_iast (j := i) E dX6_puts_24 (fun _ => rfl) (by omega) (by omega) (by omega) ?_
        refine z_iinc (ls' := [_, _, _, _, _, _]) E dX6_puts_25 rfl rfl ?_
        refine z_goto (tgt := 10) E dX6_puts_28 (by decide) ?_
        rw [ei]
        refine ih (i + 1) (by omega) _ ?_ ?_ ?_ ?_ ?_
        · rw [va_up_ne _ _ (by omega)]; exact ex
        · rw [va_up_ne _ _ (by omega)]; exact ey
        · rw [va_up_ne _ _ (by omega)]; exact e8
        · intro j hj
          rw [va_up_self]
          by_cases e : j = i
          · subst e; rw [up_eq]
          · rw [up_ne _ _ e]; exact e9 j (by omega)
        · intro r hr
          have hr2 := hr
          simp at hr2
          rw [va_up_ne _ _ (by omega)]; exact hof r hr
  refine first 10 0 (by omega) _ ?_ ?_ ?_ (fun j hj => by omega) ?_
  · rw [va_up_ne _ _ (by omega)]
  · rw [va_up_ne _ _ (by omega)]
  · exact va_up_self _ _ _
  · intro r hr
    simp at hr
    rw [va_up_ne _ _ (by omega)]
theorem ok_canTurn6 {x : Nat} (hx : TenK x) (A : Nat → Nat → Int) (ra : rok (A x)) (N : Nat) : OkR mX6_canTurn [.ref x] N (mA A) (some (.int (iI (b01 (A x 0 = 0 ∧ A x 1 ≠ 0))))) (mA A) := by
  have r0 := ra 0 (by omega)
  have r1 := ra 1 (by omega)
  refine OkM.of [some (.ref x)] (by decide +kernel) rfl (Nat.le_of_ble_eq_true rfl) ?_
  intro X E F
  refine z_aload_n E dX6_canTurn_0 rfl ?_
  refine z_iconst E dX6_canTurn_1 ?_
  refine a_iald (j := 0) E dX6_canTurn_2 (cel_ten hx) (by omega) (by omega) (by omega) ?_
  refine z_if_ne (tgt := 16) E (by omega) dX6_canTurn_3 (by decide) (fun h3 => ?_) (fun h3 => ?_)
  · refine z_iconst E dX6_canTurn_16 ?_
    exact z_zret E F (by first | exact Or.inl rfl | exact Or.inr rfl) dX6_canTurn_17 ⟨by rw [b01_f (fun h => h3 h.1)], rfl⟩
  · refine z_aload_n E dX6_canTurn_6 rfl ?_
    refine z_iconst E dX6_canTurn_7 ?_
    refine a_iald (j := 1) E dX6_canTurn_8 (cel_ten hx) (by omega) (by omega) (by omega) ?_
    refine z_if_eq (tgt := 16) E (by omega) dX6_canTurn_9 (by decide) (fun h9 => ?_) (fun h9 => ?_)
    · refine z_iconst E dX6_canTurn_16 ?_
      exact z_zret E F (by first | exact Or.inl rfl | exact Or.inr rfl) dX6_canTurn_17 ⟨by rw [b01_f (fun h => h.2 h9)], rfl⟩
    · refine z_iconst E dX6_canTurn_12 ?_
      refine z_goto (tgt := 17) E dX6_canTurn_13 (by decide) ?_
      exact z_zret E F (by first | exact Or.inl rfl | exact Or.inr rfl) dX6_canTurn_17 ⟨by rw [b01_t ⟨h3, h9⟩], rfl⟩
/-- f TURNED as the reference finds it, term by term: n terms from 1 on are there -/
def tmS (x : Nat → Int) : Nat → (Nat → Int)
  | 0 => fun _ => 0
  | n + 1 => up (tmS x n) (n + 1) (((if n = 0 then 1 else 0) - ptS x (tmS x n) 10 (n + 1)) % 10007 * pw (x 1) 10005 % 10007)
theorem tmS_rok (x : Nat → Int) : ∀ n, rok (tmS x n)
  | 0 => fun j _ => by simp [tmS]
  | n + 1 => up_rok (tmS_rok x n) (by omega)
set_option maxRecDepth 100000 in
theorem ok_turns {x z : Nat} (hx : TenK x) (hz : TenK z) (hx2 : x < 166) (hz2 : z < 166) (hne : z ≠ x) (A : Nat → Nat → Int) (ra : rok (A x)) (N : Nat) : OkQ mX6_turns [.ref 156, .ref x, .ref z] N (mA A) (fun g' => ∃ A', g' = mA A' ∧ A' z = tmS (A x) 9 ∧ Off A A' [166, 167, 168, 169, z]) := by
  have r1 := ra 1 (by omega)
  have pv := pw_in (A x 1) 10005
  refine OkM.of [some (.ref 156), some (.ref x), some (.ref z), none, none, none] (by decide +kernel) rfl (Nat.le_of_ble_eq_true rfl) ?_
  intro X E F
  refine z_iconst E dX6_turns_0 ?_
  refine z_istore_n (ls' := [_, _, _, _, _, _]) E rfl dX6_turns_1 (Nat.le_of_ble_eq_true rfl) rfl ?_
  have second : ∀ (q n : Nat), n + q = 9 → ∀ (l5 : Option Value) (A' : Nat → Nat → Int), A' x = A x → A' z = tmS (A x) n → Off A A' [166, 167, 168, 169, z] → Zc X 28 [some (.ref 156), some (.ref x), some (.ref z), some (.int (iI (pw (A x 1) 10005))), some (.int (iI ((n : Int) + 1))), l5] [] N (mA A') 0 0 := by
    intro q
    induction q with
    | zero =>
      intro n hn l5 A' ex ez hof
      have hn2 : n = 9 := by omega
      subst hn2
      refine z_iload E dX6_turns_28 rfl ?_
      refine z_bipush E (by decide) dX6_turns_30 ?_
      refine z_icmp_ge (tgt := 89) E (by omega) (by omega) dX6_turns_32 (by decide) (fun h32 => ?_) (fun h32 => ?_)
      · exact z_vret E F dX6_turns_89 ⟨rfl, A', rfl, ez, hof⟩
      · omega
    | succ q ih =>
      intro n hn l5 A' ex ez hof
      refine z_iload E dX6_turns_28 rfl ?_
      refine z_bipush E (by decide) dX6_turns_30 ?_
      refine z_icmp_ge (tgt := 89) E (by omega) (by omega) dX6_turns_32 (by decide) (fun h32 => ?_) (fun h32 => ?_)
      · omega
      · refine z_aload_n E dX6_turns_35 rfl ?_
        refine z_aload_n E dX6_turns_36 rfl ?_
        refine z_aload_n E dX6_turns_37 rfl ?_
        refine z_aload_n E dX6_turns_38 rfl ?_
        refine z_get E dX6_turns_39 (by rfl) flX6_38 (by rfl) ?_
        refine c_V0Q E dX6_turns_42 lkX6_102 (ok_puts hx hz t166 (by omega) (by omega) (by omega) A' (by rw [ex]; exact ra) (by rw [ez]; exact tmS_rok _ _) N) (by rfl) rfl rfl rfl (Nat.le_of_ble_eq_true rfl) ⟨(Nat.le_of_ble_eq_true rfl), (Nat.le_of_ble_eq_true rfl)⟩ ⟨rfl, rfl⟩ ⟨Nat.zero_le _, Nat.zero_le _⟩ (fun g1 hg1 => ?_)
        obtain ⟨A2, rfl, f6, o2⟩ := hg1
        rw [ex, ez] at f6
        have ex2 : A2 x = A x := by rw [o2 x (by simp; omega)]; exact ex
        have ez2 : A2 z = tmS (A x) n := by rw [o2 z (by simp; omega)]; exact ez
        have rp := ptS_rok (A x) (tmS (A x) n) 10 (n + 1) (by omega)
        have fin2 : ∀ (d : Int), d = (if n = 0 then 1 else 0) → Zc X 56 [some (.ref 156), some (.ref x), some (.ref z), some (.int (iI (pw (A x 1) 10005))), some (.int (iI ((n : Int) + 1))), l5] [.int (iI d)] N (mA A2) 0 0 := by
          intro d hd
          have hd2 : 0 ≤ d ∧ d ≤ 1 := by rw [hd]; split <;> omega
          have p2 := mul_in (a := (d - ptS (A x) (tmS (A x) n) 10 (n + 1)) % 10007) (by omega) pv
          refine z_aload_n E dX6_turns_56 rfl ?_
          refine z_get E dX6_turns_57 (by rfl) flX6_38 (by rfl) ?_
          refine z_iload E dX6_turns_60 rfl ?_
          refine a_iald (j := n + 1) E dX6_turns_62 (fun _ => rfl) (by omega) (by omega) (by omega) ?_
          rw [f6]
          refine z_isub E dX6_turns_63 ?_
          refine z_i2l E (by omega) dX6_turns_64 ?_
          refine c_S E dX6_turns_65 lkX6_62 (ok_mod _ ⟨by omega, by omega⟩ (by omega) N (mA A2)) rfl rfl rfl (Nat.le_of_ble_eq_true rfl) ⟨(Nat.le_of_ble_eq_true rfl), (Nat.le_of_ble_eq_true rfl)⟩ ⟨rfl, rfl⟩ ⟨Nat.zero_le _, Nat.zero_le _⟩ ?_
          refine z_istore (ls' := [_, _, _, _, _, _]) E dX6_turns_68 (Nat.le_of_ble_eq_true rfl) rfl ?_
          refine z_aload_n E dX6_turns_70 rfl ?_
          refine z_iload E dX6_turns_71 rfl ?_
          refine z_iload E dX6_turns_73 rfl ?_
          refine z_i2l E (by omega) dX6_turns_75 ?_
          refine z_iload_n E dX6_turns_76 rfl ?_
          refine z_i2l E (by omega) dX6_turns_77 ?_
          refine z_lmul E dX6_turns_78 ?_
          refine c_S E dX6_turns_79 lkX6_62 (ok_mod _ ⟨by omega, by omega⟩ (by omega) N (mA A2)) rfl rfl rfl (Nat.le_of_ble_eq_true rfl) ⟨(Nat.le_of_ble_eq_true rfl), (Nat.le_of_ble_eq_true rfl)⟩ ⟨rfl, rfl⟩ ⟨Nat.zero_le _, Nat.zero_le _⟩ ?_
          refine a_iast (j := n + 1) E dX6_turns_82 (cel_ten hz) (by omega) (by omega) (by omega) ?_
          refine z_iinc (ls' := [_, _, _, _, _, _]) E dX6_turns_83 rfl rfl ?_
          refine z_goto (tgt := 28) E dX6_turns_86 (by decide) ?_
          rw [ei]
          refine ih (n + 1) (by omega) _ _ ?_ ?_ ?_
          · rw [va_up_ne _ _ (Ne.symm hne)]; exact ex2
          · rw [va_up_self, ez2, hd]; rfl
          · intro r hr
            have hr2 := hr
            simp at hr2
            rw [va_up_ne _ _ (by omega), o2 r (by simp; omega)]
            exact hof r hr
        refine z_iload E dX6_turns_45 rfl ?_
        refine z_iconst E dX6_turns_47 ?_
        refine z_icmp_ne (tgt := 55) E (by omega) (by omega) dX6_turns_48 (by decide) (fun h48 => ?_) (fun h48 => ?_)
        · refine z_iconst E dX6_turns_55 ?_
          exact fin2 0 (by rw [if_neg (by omega)])
        · refine z_iconst E dX6_turns_51 ?_
          refine z_goto (tgt := 56) E dX6_turns_52 (by decide) ?_
          exact fin2 1 (by rw [if_pos (by omega)])
  have first : ∀ (q i : Nat), i + q = 10 → ∀ (A' : Nat → Nat → Int), (∀ j, j < i → A' z j = 0) → Off A A' [166, 167, 168, 169, z] → Zc X 2 [some (.ref 156), some (.ref x), some (.ref z), some (.int (iI (i : Int))), none, none] [] N (mA A') 0 0 := by
    intro q
    induction q with
    | zero =>
      intro i hi A' e9 hof
      have ex : A' x = A x := hof x (by simp; omega)
      refine z_iload_n E dX6_turns_2 rfl ?_
      refine z_bipush E (by decide) dX6_turns_3 ?_
      refine z_icmp_ge (tgt := 18) E (by omega) (by omega) dX6_turns_5 (by decide) (fun h5 => ?_) (fun h5 => ?_)
      · refine z_aload_n E dX6_turns_18 rfl ?_
        refine z_iconst E dX6_turns_19 ?_
        refine a_iald (j := 1) E dX6_turns_20 (cel_ten hx) (by omega) (by omega) (by omega) ?_
        rw [ex]
        refine c_S E dX6_turns_21 lkX6_87 (ok_turnedNumber _ r1 N (mA A')) rfl rfl rfl (Nat.le_of_ble_eq_true rfl) ⟨(Nat.le_of_ble_eq_true rfl), (Nat.le_of_ble_eq_true rfl)⟩ ⟨rfl, rfl⟩ ⟨Nat.zero_le _, Nat.zero_le _⟩ ?_
        refine z_istore_n (ls' := [_, _, _, _, _, _]) E rfl dX6_turns_24 (Nat.le_of_ble_eq_true rfl) rfl ?_
        refine z_iconst E dX6_turns_25 ?_
        refine z_istore (ls' := [_, _, _, _, _, _]) E dX6_turns_26 (Nat.le_of_ble_eq_true rfl) rfl ?_
        refine z_mem (g' := mA (va_up A' z (tmS (A x) 0))) ?_ ?_
        · exact (row_id (cel_ten hz) (fun j hj => (e9 j (by omega)).symm)).symm
        · refine second 9 0 (by omega) none _ ?_ ?_ ?_
          · rw [va_up_ne _ _ (Ne.symm hne)]; exact ex
          · exact va_up_self _ _ _
          · intro r hr
            have hr2 := hr
            simp at hr2
            rw [va_up_ne _ _ (by omega)]; exact hof r hr
      · omega
    | succ q ih =>
      intro i hi A' e9 hof
      refine z_iload_n E dX6_turns_2 rfl ?_
      refine z_bipush E (by decide) dX6_turns_3 ?_
      refine z_icmp_ge (tgt := 18) E (by omega) (by omega) dX6_turns_5 (by decide) (fun h5 => ?_) (fun h5 => ?_)
      · omega
      · refine z_aload_n E dX6_turns_8 rfl ?_
        refine z_iload_n E dX6_turns_9 rfl ?_
        refine z_iconst E dX6_turns_10 ?_
        refine a_iast (j := i) E dX6_turns_11 (cel_ten hz) (by omega) (by omega) (by omega) ?_
        refine z_iinc (ls' := [_, _, _, _, _, _]) E dX6_turns_12 rfl rfl ?_
        refine z_goto (tgt := 2) E dX6_turns_15 (by decide) ?_
        rw [ei]
        refine ih (i + 1) (by omega) _ ?_ ?_
        · intro j hj
          rw [va_up_self]
          by_cases e : j = i
          · subst e; rw [up_eq]
          · rw [up_ne _ _ e]; exact e9 j (by omega)
        · intro r hr
          have hr2 := hr
          simp at hr2
          rw [va_up_ne _ _ (by omega)]; exact hof r hr
  exact first 10 0 (by omega) A (fun j hj => by omega) (fun r _ => rfl)
set_option maxRecDepth 100000 in
theorem ok_valueOf {x : Nat} (hx : TenK x) (A : Nat → Nat → Int) (ra : rok (A x)) (p : Int) (hp : 0 ≤ p ∧ p < 10007) (N : Nat) : OkR mX6_valueOf [.ref x, .int (iI p)] N (mA A) (some (.int (iI (hv (A x) p 10)))) (mA A) := by
  refine OkM.of [some (.ref x), some (.int (iI p)), none, none] (by decide +kernel) rfl (Nat.le_of_ble_eq_true rfl) ?_
  intro X E F
  refine z_iconst E dX6_valueOf_0 ?_
  refine z_istore_n (ls' := [_, _, _, _]) E rfl dX6_valueOf_1 (Nat.le_of_ble_eq_true rfl) rfl ?_
  refine z_bipush E (by decide) dX6_valueOf_2 ?_
  refine z_istore_n (ls' := [_, _, _, _]) E rfl dX6_valueOf_4 (Nat.le_of_ble_eq_true rfl) rfl ?_
  have loop : ∀ (m k : Nat), k + m = 10 → Zc X 5 [some (.ref x), some (.int (iI p)), some (.int (iI (hv (A x) p k))), some (.int (iI (9 - (k : Int))))] [] N (mA A) 0 0 := by
    intro m
    induction m with
    | zero =>
      intro k hk
      have hk2 : k = 10 := by omega
      subst hk2
      refine z_iload_n E dX6_valueOf_5 rfl ?_
      refine z_if_lt (tgt := 29) E (by omega) dX6_valueOf_6 (by decide) (fun h6 => ?_) (fun h6 => ?_)
      · refine z_iload_n E dX6_valueOf_29 rfl ?_
        exact z_iret E F dX6_valueOf_30 ⟨rfl, rfl⟩
      · omega
    | succ m ih =>
      intro k hk
      have h1 := hv_in (A x) p k
      have h2 := mul_in h1 hp
      have h3 := ra (9 - k) (by omega)
      refine z_iload_n E dX6_valueOf_5 rfl ?_
      refine z_if_lt (tgt := 29) E (by omega) dX6_valueOf_6 (by decide) (fun h6 => ?_) (fun h6 => ?_)
      · omega
      · refine z_iload_n E dX6_valueOf_9 rfl ?_
        refine z_i2l E (by omega) dX6_valueOf_10 ?_
        refine z_iload_n E dX6_valueOf_11 rfl ?_
        refine z_i2l E (by omega) dX6_valueOf_12 ?_
        refine z_lmul E dX6_valueOf_13 ?_
        refine z_aload_n E dX6_valueOf_14 rfl ?_
        refine z_iload_n E dX6_valueOf_15 rfl ?_
        refine a_iald (j := 9 - k) E dX6_valueOf_16 (cel_ten hx) (by omega) (by omega) (by omega) ?_
        refine z_i2l E (by omega) dX6_valueOf_17 ?_
        refine z_ladd E dX6_valueOf_18 ?_
        refine c_S E dX6_valueOf_19 lkX6_62 (ok_mod _ ⟨by omega, by omega⟩ (by omega) N (mA A)) rfl rfl rfl (Nat.le_of_ble_eq_true rfl) ⟨(Nat.le_of_ble_eq_true rfl), (Nat.le_of_ble_eq_true rfl)⟩ ⟨rfl, rfl⟩ ⟨Nat.zero_le _, Nat.zero_le _⟩ ?_
        refine z_istore_n (ls' := [_, _, _, _]) E rfl dX6_valueOf_22 (Nat.le_of_ble_eq_true rfl) rfl ?_
        refine z_iinc (ls' := [_, _, _, _]) E dX6_valueOf_23 rfl rfl ?_
        refine z_goto (tgt := 5) E dX6_valueOf_26 (by decide) ?_
        rw [show 9 - (k : Int) + -1 = 9 - ((k + 1 : Nat) : Int) by omega]
        exact ih (k + 1) (by omega)
  exact loop 10 0 (by omega)
/-- an OPERATOR on a polynomial as the reference reckons it -/
def flS (n : Nat) : Nat → Int
  | 0 => 1
  | j + 1 => flS n j * ((n + j + 1 : Nat) : Int) % 10007
theorem flS_in (n : Nat) : ∀ j, 0 ≤ flS n j ∧ flS n j < 10007
  | 0 => by simp [flS]
  | j + 1 => by simp only [flS]; omega
def wkT (x y : Nat → Int) (n : Nat) : Nat → Int
  | 0 => 0
  | j + 1 => (wkT x y n j + x j * flS n j % 10007 * y (n + j)) % 10007
theorem wkT_in (x y : Nat → Int) (n : Nat) : ∀ j, 0 ≤ wkT x y n j ∧ wkT x y n j < 10007
  | 0 => by simp [wkT]
  | j + 1 => by simp only [wkT]; omega
def wkS (x y : Nat → Int) (n : Nat) : Int := wkT x y n (10 - n)
set_option maxRecDepth 100000 in
theorem ok_works {x y z : Nat} (hx : TenK x) (hy : TenK y) (hz : TenK z) (h1 : z ≠ x) (h2 : z ≠ y) (A : Nat → Nat → Int) (ra : rok (A x)) (rb : rok (A y)) (N : Nat) : OkR mX6_works [.ref x, .ref y, .ref z] N (mA A) none (mA (va_up A z (wkS (A x) (A y)))) := by
  refine OkM.of [some (.ref x), some (.ref y), some (.ref z), none, none, none, none, none, none] (by decide +kernel) rfl (Nat.le_of_ble_eq_true rfl) ?_
  intro X E F
  refine z_iconst E dX6_works_0 ?_
  refine z_istore_n (ls' := [_, _, _, _, _, _, _, _, _]) E rfl dX6_works_1 (Nat.le_of_ble_eq_true rfl) rfl ?_
  have loop : ∀ (m n : Nat), n + m = 10 → ∀ (l4 l5 l6 l7 l8 : Option Value) (A' : Nat → Nat → Int), A' = va_up A z (fun j => if j < n then wkS (A x) (A y) j else A z j) → Zc X 2 [some (.ref x), some (.ref y), some (.ref z), some (.int (iI (n : Int))), l4, l5, l6, l7, l8] [] N (mA A') 0 0 := by
    intro m
    induction m with
    | zero =>
      intro n hn l4 l5 l6 l7 l8 A' hA
      refine z_iload_n E dX6_works_2 rfl ?_
      refine z_bipush E (by decide) dX6_works_3 ?_
      refine z_icmp_ge (tgt := 109) E (by omega) (by omega) dX6_works_5 (by decide) (fun h5 => ?_) (fun h5 => ?_)
      · refine z_vret E F dX6_works_109 ⟨rfl, ?_⟩
        rw [hA]
        exact row_eq (cel_ten hz) (fun j hj => if_pos (by omega))
      · omega
    | succ m ih =>
      intro n hn l4 l5 l6 l7 l8 A' hA
      have ex : A' x = A x := by rw [hA, va_up_ne _ _ (Ne.symm h1)]
      have ey : A' y = A y := by rw [hA, va_up_ne _ _ (Ne.symm h2)]
      refine z_iload_n E dX6_works_2 rfl ?_
      refine z_bipush E (by decide) dX6_works_3 ?_
      refine z_icmp_ge (tgt := 109) E (by omega) (by omega) dX6_works_5 (by decide) (fun h5 => ?_) (fun h5 => ?_)
      · omega
      · refine z_lconst (z := 0) E rfl dX6_works_8 ?_
        refine z_lstore (ls' := [_, _, _, _, _, _, _, _, _]) E dX6_works_9 (Nat.le_of_ble_eq_true rfl) rfl ?_
        refine z_iconst E dX6_works_11 ?_
        refine z_istore (ls' := [_, _, _, _, _, _, _, _, _]) E dX6_works_12 (Nat.le_of_ble_eq_true rfl) rfl ?_
        refine z_iconst E dX6_works_14 ?_
        refine z_istore (ls' := [_, _, _, _, _, _, _, _, _]) E dX6_works_15 (Nat.le_of_ble_eq_true rfl) rfl ?_
        have inner : ∀ (m2 j : Nat), j + m2 = 10 - n → ∀ (f6 : Int) (l8 : Option Value), Zc X 17 [some (.ref x), some (.ref y), some (.ref z), some (.int (iI (n : Int))), some (.long (lI (wkT (A x) (A y) n j))), none, some (.int (iI f6)), some (.int (iI (j : Int))), l8] [] N (mA A') 0 0 := by
          intro m2
          induction m2 with
          | zero =>
            intro j hj f6 l8
            have hj2 : j = 10 - n := by omega
            subst hj2
            have hw := wkT_in (A x) (A y) n (10 - n)
            refine z_iload_n E dX6_works_17 rfl ?_
            refine z_iload E dX6_works_18 rfl ?_
            refine z_iadd E dX6_works_20 ?_
            refine z_bipush E (by decide) dX6_works_21 ?_
            refine z_icmp_ge (tgt := 97) E (by omega) (by omega) dX6_works_23 (by decide) (fun h23 => ?_) (fun h23 => ?_)
            · refine z_aload_n E dX6_works_97 rfl ?_
              refine z_iload_n E dX6_works_98 rfl ?_
              refine z_lload E dX6_works_99 rfl ?_
              refine z_l2i E dX6_works_101 ?_
              refine a_iast (j := n) E dX6_works_102 (cel_ten hz) (by omega) (by omega) (by omega) ?_
              refine z_iinc (ls' := [_, _, _, _, _, _, _, _, _]) E dX6_works_103 rfl rfl ?_
              refine z_goto (tgt := 2) E dX6_works_106 (by decide) ?_
              rw [ei]
              refine ih (n + 1) (by omega) _ _ _ _ _ _ ?_
              rw [hA, va_uu, va_up_self]
              refine congrArg (va_up A z) (funext fun j => ?_)
              by_cases e1 : j = n
              · subst e1; rw [up_eq, if_pos (by omega)]; rfl
              · rw [up_ne _ _ e1]
                by_cases e2 : j < n
                · rw [if_pos e2, if_pos (by omega)]
                · rw [if_neg e2, if_neg (by omega)]
            · omega
          | succ m2 ihm =>
            intro j hj f6 l8
            have hw := wkT_in (A x) (A y) n j
            have rx := ra j (by omega)
            have ry := rb (n + j) (by omega)
            have rf := flS_in n j
            have p1 := mul_in rx rf
            have p2 := mul_in (a := A x j * flS n j % 10007) (by omega) ry
            refine z_iload_n E dX6_works_17 rfl ?_
            refine z_iload E dX6_works_18 rfl ?_
            refine z_iadd E dX6_works_20 ?_
            refine z_bipush E (by decide) dX6_works_21 ?_
            refine z_icmp_ge (tgt := 97) E (by omega) (by omega) dX6_works_23 (by decide) (fun h23 => ?_) (fun h23 => ?_)
            · omega
            · refine z_iconst E dX6_works_26 ?_
              refine z_istore (ls' := [_, _, _, _, _, _, _, _, _]) E dX6_works_27 (Nat.le_of_ble_eq_true rfl) rfl ?_
              refine z_iload_n E dX6_works_29 rfl ?_
              refine z_iconst E dX6_works_30 ?_
              refine z_iadd E dX6_works_31 ?_
              refine z_istore (ls' := [_, _, _, _, _, _, _, _, _]) E dX6_works_32 (Nat.le_of_ble_eq_true rfl) rfl ?_
              have inn2 : ∀ (m3 i : Nat), i + m3 = j → Zc X 34 [some (.ref x), some (.ref y), some (.ref z), some (.int (iI (n : Int))), some (.long (lI (wkT (A x) (A y) n j))), none, some (.int (iI (flS n i))), some (.int (iI (j : Int))), some (.int (iI ((n : Int) + 1 + (i : Int))))] [] N (mA A') 0 0 := by
                intro m3
                induction m3 with
                | zero =>
                  intro i hi
                  have hi2 : i = j := by omega
                  subst hi2
                  refine z_iload E dX6_works_34 rfl ?_
                  refine z_iload_n E dX6_works_36 rfl ?_
                  refine z_iload E dX6_works_37 rfl ?_
                  refine z_iadd E dX6_works_39 ?_
                  refine z_icmp_gt (tgt := 61) E (by omega) (by omega) dX6_works_40 (by decide) (fun h40 => ?_) (fun h40 => ?_)
                  · refine z_lload E dX6_works_61 rfl ?_
                    refine z_aload_n E dX6_works_63 rfl ?_
                    refine z_iload E dX6_works_64 rfl ?_
                    refine a_iald (j := i) E dX6_works_66 (cel_ten hx) (by omega) (by omega) (by omega) ?_
                    rw [ex]
                    refine z_i2l E (by omega) dX6_works_67 ?_
                    refine z_iload E dX6_works_68 rfl ?_
                    refine z_i2l E (by omega) dX6_works_70 ?_
                    refine z_lmul E dX6_works_71 ?_
                    refine c_S E dX6_works_72 lkX6_62 (ok_mod _ ⟨by omega, by omega⟩ (by omega) N (mA A')) rfl rfl rfl (Nat.le_of_ble_eq_true rfl) ⟨(Nat.le_of_ble_eq_true rfl), (Nat.le_of_ble_eq_true rfl)⟩ ⟨rfl, rfl⟩ ⟨Nat.zero_le _, Nat.zero_le _⟩ ?_
                    refine z_i2l E (by omega) dX6_works_75 ?_
                    refine z_aload_n E dX6_works_76 rfl ?_
                    refine z_iload_n E dX6_works_77 rfl ?_
                    refine z_iload E dX6_works_78 rfl ?_
                    refine z_iadd E dX6_works_80 ?_
                    refine a_iald (j := n + i) E dX6_works_81 (cel_ten hy) (by omega) (by omega) (by omega) ?_
                    rw [ey]
                    refine z_i2l E (by omega) dX6_works_82 ?_
                    refine z_lmul E dX6_works_83 ?_
                    refine z_ladd E dX6_works_84 ?_
                    refine c_S E dX6_works_85 lkX6_62 (ok_mod _ ⟨by omega, by omega⟩ (by omega) N (mA A')) rfl rfl rfl (Nat.le_of_ble_eq_true rfl) ⟨(Nat.le_of_ble_eq_true rfl), (Nat.le_of_ble_eq_true rfl)⟩ ⟨rfl, rfl⟩ ⟨Nat.zero_le _, Nat.zero_le _⟩ ?_
                    refine z_i2l E (by omega) dX6_works_88 ?_
                    refine z_lstore (ls' := [_, _, _, _, _, _, _, _, _]) E dX6_works_89 (Nat.le_of_ble_eq_true rfl) rfl ?_
                    refine z_iinc (ls' := [_, _, _, _, _, _, _, _, _]) E dX6_works_91 rfl rfl ?_
                    refine z_goto (tgt := 17) E dX6_works_94 (by decide) ?_
                    rw [ei]
                    exact ihm (i + 1) (by omega) _ _
                  · omega
                | succ m3 ih3 =>
                  intro i hi
                  have rf2 := flS_in n i
                  have p3 := mul_in rf2 (b := (n : Int) + 1 + (i : Int)) (by omega)
                  refine z_iload E dX6_works_34 rfl ?_
                  refine z_iload_n E dX6_works_36 rfl ?_
                  refine z_iload E dX6_works_37 rfl ?_
                  refine z_iadd E dX6_works_39 ?_
                  refine z_icmp_gt (tgt := 61) E (by omega) (by omega) dX6_works_40 (by decide) (fun h40 => ?_) (fun h40 => ?_)
                  · omega
                  · refine z_iload E dX6_works_43 rfl ?_
                    refine z_i2l E (by omega) dX6_works_45 ?_
                    refine z_iload E dX6_works_46 rfl ?_
                    refine z_i2l E (by omega) dX6_works_48 ?_
                    refine z_lmul E dX6_works_49 ?_
                    refine c_S E dX6_works_50 lkX6_62 (ok_mod _ ⟨by omega, by omega⟩ (by omega) N (mA A')) rfl rfl rfl (Nat.le_of_ble_eq_true rfl) ⟨(Nat.le_of_ble_eq_true rfl), (Nat.le_of_ble_eq_true rfl)⟩ ⟨rfl, rfl⟩ ⟨Nat.zero_le _, Nat.zero_le _⟩ ?_
                    refine z_istore (ls' := [_, _, _, _, _, _, _, _, _]) E dX6_works_53 (Nat.le_of_ble_eq_true rfl) rfl ?_
                    refine z_iinc (ls' := [_, _, _, _, _, _, _, _, _]) E dX6_works_55 rfl rfl ?_
                    refine z_goto (tgt := 34) E dX6_works_58 (by decide) ?_
                    have := ih3 (i + 1) (by omega)
                    rw [show (n : Int) + 1 + ((i + 1 : Nat) : Int) = (n : Int) + 1 + (i : Int) + 1 by omega, show flS n (i + 1) = flS n i * ((n : Int) + 1 + (i : Int)) % 10007 by rw [flS]; congr 2; omega] at this
                    exact this
              have := inn2 j 0 (by omega)
              rw [show (n : Int) + 1 + ((0 : Nat) : Int) = (n : Int) + 1 by omega] at this
              exact this
        exact inner (10 - n) 0 (by omega) 1 _
  refine z_mem ?_ (loop 10 0 (by omega) none none none none none _ rfl)
  exact (row_id (cel_ten hz) (fun j hj => if_neg (by omega))).symm
