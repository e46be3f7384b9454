/-! the landed object's own small methods -/
theorem ok_isSheet5 (s : Int) (hs : inR s) (N : Nat) (g : Mem) : OkR mX5_isSheet [.int (iI s)] N g (some (.int (iI (b01 (0 ≤ s ∧ s < 8))))) g := by
  refine OkM.of [some (.int (iI s))] (by decide +kernel) rfl (Nat.le_of_ble_eq_true rfl) ?_
  intro X E F
  refine z_iload_n E dX5_isSheet_0 rfl ?_
  refine z_if_lt (tgt := 14) E (by omega) dX5_isSheet_1 (by decide) (fun h1 => ?_) (fun h1 => ?_)
  · refine z_iconst E dX5_isSheet_14 ?_
    exact z_zret E F (by first | exact Or.inl rfl | exact Or.inr rfl) dX5_isSheet_15 ⟨by rw [b01_f (by omega)], rfl⟩
  · refine z_iload_n E dX5_isSheet_4 rfl ?_
    refine z_bipush E (by decide) dX5_isSheet_5 ?_
    refine z_icmp_ge (tgt := 14) E (by omega) (by omega) dX5_isSheet_7 (by decide) (fun h7 => ?_) (fun h7 => ?_)
    · refine z_iconst E dX5_isSheet_14 ?_
      exact z_zret E F (by first | exact Or.inl rfl | exact Or.inr rfl) dX5_isSheet_15 ⟨by rw [b01_f (by omega)], rfl⟩
    · refine z_iconst E dX5_isSheet_10 ?_
      refine z_goto (tgt := 15) E dX5_isSheet_11 (by decide) ?_
      exact z_zret E F (by first | exact Or.inl rfl | exact Or.inr rfl) dX5_isSheet_15 ⟨by rw [b01_t (by omega)], rfl⟩
theorem ok_isPlace5 (s : Int) (hs : inR s) (N : Nat) (g : Mem) : OkR mX5_isPlace [.int (iI s)] N g (some (.int (iI (b01 (0 ≤ s ∧ s < 10))))) g := by
  refine OkM.of [some (.int (iI s))] (by decide +kernel) rfl (Nat.le_of_ble_eq_true rfl) ?_
  intro X E F
  refine z_iload_n E dX5_isPlace_0 rfl ?_
  refine z_if_lt (tgt := 14) E (by omega) dX5_isPlace_1 (by decide) (fun h1 => ?_) (fun h1 => ?_)
  · refine z_iconst E dX5_isPlace_14 ?_
    exact z_zret E F (by first | exact Or.inl rfl | exact Or.inr rfl) dX5_isPlace_15 ⟨by rw [b01_f (by omega)], rfl⟩
  · refine z_iload_n E dX5_isPlace_4 rfl ?_
    refine z_bipush E (by decide) dX5_isPlace_5 ?_
    refine z_icmp_ge (tgt := 14) E (by omega) (by omega) dX5_isPlace_7 (by decide) (fun h7 => ?_) (fun h7 => ?_)
    · refine z_iconst E dX5_isPlace_14 ?_
      exact z_zret E F (by first | exact Or.inl rfl | exact Or.inr rfl) dX5_isPlace_15 ⟨by rw [b01_f (by omega)], rfl⟩
    · refine z_iconst E dX5_isPlace_10 ?_
      refine z_goto (tgt := 15) E dX5_isPlace_11 (by decide) ?_
      exact z_zret E F (by first | exact Or.inl rfl | exact Or.inr rfl) dX5_isPlace_15 ⟨by rw [b01_t (by omega)], rfl⟩
theorem ok_isForm5 (s : Int) (hs : inR s) (N : Nat) (g : Mem) : OkR mX5_isForm [.int (iI s)] N g (some (.int (iI (b01 (0 ≤ s ∧ s < 3))))) g := by
  refine OkM.of [some (.int (iI s))] (by decide +kernel) rfl (Nat.le_of_ble_eq_true rfl) ?_
  intro X E F
  refine z_iload_n E dX5_isForm_0 rfl ?_
  refine z_if_lt (tgt := 13) E (by omega) dX5_isForm_1 (by decide) (fun h1 => ?_) (fun h1 => ?_)
  · refine z_iconst E dX5_isForm_13 ?_
    exact z_zret E F (by first | exact Or.inl rfl | exact Or.inr rfl) dX5_isForm_14 ⟨by rw [b01_f (by omega)], rfl⟩
  · refine z_iload_n E dX5_isForm_4 rfl ?_
    refine z_iconst E dX5_isForm_5 ?_
    refine z_icmp_ge (tgt := 13) E (by omega) (by omega) dX5_isForm_6 (by decide) (fun h6 => ?_) (fun h6 => ?_)
    · refine z_iconst E dX5_isForm_13 ?_
      exact z_zret E F (by first | exact Or.inl rfl | exact Or.inr rfl) dX5_isForm_14 ⟨by rw [b01_f (by omega)], rfl⟩
    · refine z_iconst E dX5_isForm_9 ?_
      refine z_goto (tgt := 14) E dX5_isForm_10 (by decide) ?_
      exact z_zret E F (by first | exact Or.inl rfl | exact Or.inr rfl) dX5_isForm_14 ⟨by rw [b01_t (by omega)], rfl⟩
theorem ok_isLadder5 (s : Int) (hs : inR s) (N : Nat) (g : Mem) : OkR mX5_isLadder [.int (iI s)] N g (some (.int (iI (b01 (0 ≤ s ∧ s < 4))))) g := by
  refine OkM.of [some (.int (iI s))] (by decide +kernel) rfl (Nat.le_of_ble_eq_true rfl) ?_
  intro X E F
  refine z_iload_n E dX5_isLadder_0 rfl ?_
  refine z_if_lt (tgt := 13) E (by omega) dX5_isLadder_1 (by decide) (fun h1 => ?_) (fun h1 => ?_)
  · refine z_iconst E dX5_isLadder_13 ?_
    exact z_zret E F (by first | exact Or.inl rfl | exact Or.inr rfl) dX5_isLadder_14 ⟨by rw [b01_f (by omega)], rfl⟩
  · refine z_iload_n E dX5_isLadder_4 rfl ?_
    refine z_iconst E dX5_isLadder_5 ?_
    refine z_icmp_ge (tgt := 13) E (by omega) (by omega) dX5_isLadder_6 (by decide) (fun h6 => ?_) (fun h6 => ?_)
    · refine z_iconst E dX5_isLadder_13 ?_
      exact z_zret E F (by first | exact Or.inl rfl | exact Or.inr rfl) dX5_isLadder_14 ⟨by rw [b01_f (by omega)], rfl⟩
    · refine z_iconst E dX5_isLadder_9 ?_
      refine z_goto (tgt := 14) E dX5_isLadder_10 (by decide) ?_
      exact z_zret E F (by first | exact Or.inl rfl | exact Or.inr rfl) dX5_isLadder_14 ⟨by rw [b01_t (by omega)], rfl⟩
def nar (fo v : Int) : Int := if fo = 0 then v.bmod 256 else if fo = 1 then v.bmod 65536 else v
theorem nar_in {fo v : Int} (hv : inR v) : inR (nar fo v) := by
  unfold nar
  split
  · have := @Int.le_bmod v 256 (by decide); have := @Int.bmod_lt v 256 (by decide); omega
  · split
    · have := @Int.le_bmod v 65536 (by decide); have := @Int.bmod_lt v 65536 (by decide); omega
    · exact hv
theorem ok_narrowed (fo v : Int) (hf : inR fo) (N : Nat) (g : Mem) : OkR mX5_narrowed [.int (iI fo), .int (iI v)] N g (some (.int (iI (nar fo v)))) g := by
  refine OkM.of [some (.int (iI fo)), some (.int (iI v))] (by decide +kernel) rfl (Nat.le_of_ble_eq_true rfl) ?_
  intro X E F
  refine z_iload_n E dX5_narrowed_0 rfl ?_
  refine z_if_ne (tgt := 7) E (by omega) dX5_narrowed_1 (by decide) (fun h1 => ?_) (fun h1 => ?_)
  · refine z_iload_n E dX5_narrowed_7 rfl ?_
    refine z_iconst E dX5_narrowed_8 ?_
    refine z_icmp_ne (tgt := 17) E (by omega) (by omega) dX5_narrowed_9 (by decide) (fun h9 => ?_) (fun h9 => ?_)
    · refine z_iload_n E dX5_narrowed_17 rfl ?_
      exact z_iret E F dX5_narrowed_18 ⟨by rw [nar, if_neg h1, if_neg h9], rfl⟩
    · refine z_iload_n E dX5_narrowed_12 rfl ?_
      refine z_i2s E dX5_narrowed_13 ?_
      refine z_goto (tgt := 18) E dX5_narrowed_14 (by decide) ?_
      exact z_iret E F dX5_narrowed_18 ⟨by rw [nar, if_neg h1, if_pos h9], rfl⟩
  · refine z_iload_n E dX5_narrowed_4 rfl ?_
    refine z_i2b E dX5_narrowed_5 ?_
    exact z_iret E F dX5_narrowed_6 ⟨by rw [nar, if_pos h1], rfl⟩
theorem ok_found {A : Nat → Nat → Int} {σ : St} (hX : XI A σ) (n : Int) (hn : inR n) (N : Nat) : OkI mX5_found [.ref 0, .int (iI n)] N (mA A) (.int (iI (-10 - n))) (fun g' => ∃ A', g' = mA A' ∧ XI A' (fnd σ n) ∧ Hi A A') := by
  refine OkM.of [some (.ref 0), some (.int (iI n))] (by decide +kernel) rfl (Nat.le_of_ble_eq_true rfl) ?_
  intro X E F
  refine z_aload_n E dX5_found_0 rfl ?_
  refine z_iload_n E dX5_found_1 rfl ?_
  refine a_put E dX5_found_2 fpX5_50 rfl rfl ?_
  refine z_bipush E (by decide) dX5_found_5 ?_
  refine z_iload_n E dX5_found_7 rfl ?_
  refine z_isub E dX5_found_8 ?_
  exact z_iret E F dX5_found_9 ⟨rfl, _, rfl, hX.fin hn, fun k hk => va_up_ne _ _ (by omega)⟩
theorem ok_renew {s : Nat} (hs : s < 8) (A : Nat → Nat → Int) (fo sz : Int) (N : Nat) : OkR mX4_renew [.ref (52 + 2 * s), .int (iI fo), .int (iI sz)] N (mA A) none (mA (va_up (va_up A (53 + 2 * s) (fun _ => 0)) (52 + 2 * s) (up (up (up (A (52 + 2 * s)) 1 0) 2 fo) 3 sz))) := by
  refine OkM.of [some (.ref (52 + 2 * s)), some (.int (iI fo)), some (.int (iI sz))] (by decide +kernel) rfl (Nat.le_of_ble_eq_true rfl) ?_
  intro X E F
  refine z_aload_n E dX4_renew_0 rfl ?_
  refine z_get E dX4_renew_1 (cel_sheet hs _) flX4_9 (by rfl) ?_
  refine z_iconst E dX4_renew_4 ?_
  refine c_S0 E dX4_renew_5 lkX4_26 (ok_fill (53 + 2 * s) 20 (A (53 + 2 * s)) 0 N (mA A) (cel_items hs _) (by omega)) rfl rfl rfl (Nat.le_of_ble_eq_true rfl) ⟨(Nat.le_of_ble_eq_true rfl), (Nat.le_of_ble_eq_true rfl)⟩ ⟨rfl, rfl⟩ ⟨Nat.zero_le _, Nat.zero_le _⟩ ?_
  rw [← cel_items hs, mA_up]
  have e0 : va_up A (53 + 2 * s) (fun _ => 0) (52 + 2 * s) = A (52 + 2 * s) := va_up_ne _ _ (by omega)
  refine z_aload_n E dX4_renew_8 rfl ?_
  refine z_iconst E dX4_renew_9 ?_
  refine a_putZ E dX4_renew_10 fpX4_15 (by omega) (cel_sheet hs _) (by rw [cel_sheet hs]; rfl) ?_
  rw [e0]
  refine z_aload_n E dX4_renew_13 rfl ?_
  refine z_iload_n E dX4_renew_14 rfl ?_
  refine a_put E dX4_renew_15 fpX4_19 (cel_sheet hs _) (by rw [cel_sheet hs]; rfl) ?_
  rw [va_uu, va_up_self]
  refine z_aload_n E dX4_renew_18 rfl ?_
  refine z_iload_n E dX4_renew_19 rfl ?_
  refine a_put E dX4_renew_20 fpX4_23 (cel_sheet hs _) (by rw [cel_sheet hs]; rfl) ?_
  rw [va_uu, va_up_self]
  exact z_vret E F dX4_renew_23 ⟨rfl, rfl⟩
/-- what keeps from asking a SHEET's item as of a FORM -/
def lkS (σ : St) (s : Nat) (fo i : Int) : Int := if σ s 0 = 0 then 1 else if σ s 1 ≠ fo then 3 else if 0 ≤ i ∧ i < σ s 2 then 0 else 2
set_option maxRecDepth 100000 in
theorem ok_findingAt {s : Nat} (hs : s < 8) {A : Nat → Nat → Int} {σ : St} (hX : XI A σ) (fo i : Int) (hf : inR fo) (hi : inR i) (N : Nat) : OkR mX4_findingAt [.ref (52 + 2 * s), .int (iI fo), .int (iI i)] N (mA A) (some (.int (iI (lkS σ s fo i)))) (mA A) := by
  obtain ⟨v1, v2, v3, v4⟩ := hX.2.1.1 s hs
  obtain ⟨r1, r2, r3, r4⟩ := hX.2.2.1 s hs
  refine OkM.of [some (.ref (52 + 2 * s)), some (.int (iI fo)), some (.int (iI i))] (by decide +kernel) rfl (Nat.le_of_ble_eq_true rfl) ?_
  intro X E F
  refine z_aload_n E dX4_findingAt_0 rfl ?_
  refine z_get E dX4_findingAt_1 (cel_sheet hs _) flX4_15 (by rfl) ?_
  rw [v1]
  refine z_if_eq (tgt := 9) E (by omega) dX4_findingAt_4 (by decide) (fun h4 => ?_) (fun h4 => ?_)
  · refine z_aload_n E dX4_findingAt_9 rfl ?_
    refine z_get E dX4_findingAt_10 (cel_sheet hs _) flX4_19 (by rfl) ?_
    rw [v2]
    refine z_iload_n E dX4_findingAt_13 rfl ?_
    refine z_icmp_eq (tgt := 19) E (by omega) (by omega) dX4_findingAt_14 (by decide) (fun h14 => ?_) (fun h14 => ?_)
    · refine z_iload_n E dX4_findingAt_19 rfl ?_
      refine z_if_lt (tgt := 31) E (by omega) dX4_findingAt_20 (by decide) (fun h20 => ?_) (fun h20 => ?_)
      · refine z_iconst E dX4_findingAt_31 ?_
        refine z_goto (tgt := 36) E dX4_findingAt_32 (by decide) ?_
        exact z_iret E F dX4_findingAt_36 ⟨by rw [lkS, if_neg (by omega), if_neg (by omega), if_neg (by omega)], rfl⟩
      · refine z_iload_n E dX4_findingAt_23 rfl ?_
        refine z_aload_n E dX4_findingAt_24 rfl ?_
        refine z_get E dX4_findingAt_25 (cel_sheet hs _) flX4_23 (by rfl) ?_
        rw [v3]
        refine z_icmp_lt (tgt := 35) E (by omega) (by omega) dX4_findingAt_28 (by decide) (fun h28 => ?_) (fun h28 => ?_)
        · refine z_iconst E dX4_findingAt_35 ?_
          exact z_iret E F dX4_findingAt_36 ⟨by rw [lkS, if_neg (by omega), if_neg (by omega), if_pos (by omega)], rfl⟩
        · refine z_iconst E dX4_findingAt_31 ?_
          refine z_goto (tgt := 36) E dX4_findingAt_32 (by decide) ?_
          exact z_iret E F dX4_findingAt_36 ⟨by rw [lkS, if_neg (by omega), if_neg (by omega), if_neg (by omega)], rfl⟩
    · refine z_iconst E dX4_findingAt_17 ?_
      exact z_iret E F dX4_findingAt_18 ⟨by rw [lkS, if_neg (by omega), if_pos h14], rfl⟩
  · refine z_iconst E dX4_findingAt_7 ?_
    exact z_iret E F dX4_findingAt_8 ⟨by rw [lkS, if_pos (by omega)], rfl⟩
set_option maxRecDepth 100000 in
theorem ok_hasStretch {s : Nat} (hs : s < 8) {A : Nat → Nat → Int} {σ : St} (hX : XI A σ) (i n : Int) (hi : inR i) (hn : inR n) (N : Nat) : OkR mX4_hasStretch [.ref (52 + 2 * s), .int (iI i), .int (iI n)] N (mA A) (some (.int (iI (b01 (0 ≤ i ∧ 0 ≤ n ∧ i + n ≤ σ s 2))))) (mA A) := by
  obtain ⟨v1, v2, v3, v4⟩ := hX.2.1.1 s hs
  obtain ⟨r1, r2, r3, r4⟩ := hX.2.2.1 s hs
  refine OkM.of [some (.ref (52 + 2 * s)), some (.int (iI i)), some (.int (iI n))] (by decide +kernel) rfl (Nat.le_of_ble_eq_true rfl) ?_
  intro X E F
  refine z_iload_n E dX4_hasStretch_0 rfl ?_
  refine z_if_lt (tgt := 30) E (by omega) dX4_hasStretch_1 (by decide) (fun h1 => ?_) (fun h1 => ?_)
  · refine z_iconst E dX4_hasStretch_30 ?_
    exact z_zret E F (by first | exact Or.inl rfl | exact Or.inr rfl) dX4_hasStretch_31 ⟨by rw [b01_f (by omega)], rfl⟩
  · refine z_iload_n E dX4_hasStretch_4 rfl ?_
    refine z_if_lt (tgt := 30) E (by omega) dX4_hasStretch_5 (by decide) (fun h5 => ?_) (fun h5 => ?_)
    · refine z_iconst E dX4_hasStretch_30 ?_
      exact z_zret E F (by first | exact Or.inl rfl | exact Or.inr rfl) dX4_hasStretch_31 ⟨by rw [b01_f (by omega)], rfl⟩
    · refine z_iload_n E dX4_hasStretch_8 rfl ?_
      refine z_aload_n E dX4_hasStretch_9 rfl ?_
      refine z_get E dX4_hasStretch_10 (cel_sheet hs _) flX4_23 (by rfl) ?_
      rw [v3]
      refine z_icmp_gt (tgt := 30) E (by omega) (by omega) dX4_hasStretch_13 (by decide) (fun h13 => ?_) (fun h13 => ?_)
      · refine z_iconst E dX4_hasStretch_30 ?_
        exact z_zret E F (by first | exact Or.inl rfl | exact Or.inr rfl) dX4_hasStretch_31 ⟨by rw [b01_f (by omega)], rfl⟩
      · refine z_iload_n E dX4_hasStretch_16 rfl ?_
        refine z_aload_n E dX4_hasStretch_17 rfl ?_
        refine z_get E dX4_hasStretch_18 (cel_sheet hs _) flX4_23 (by rfl) ?_
        rw [v3]
        refine z_iload_n E dX4_hasStretch_21 rfl ?_
        refine z_isub E dX4_hasStretch_22 ?_
        refine z_icmp_gt (tgt := 30) E (by omega) (by omega) dX4_hasStretch_23 (by decide) (fun h23 => ?_) (fun h23 => ?_)
        · refine z_iconst E dX4_hasStretch_30 ?_
          exact z_zret E F (by first | exact Or.inl rfl | exact Or.inr rfl) dX4_hasStretch_31 ⟨by rw [b01_f (by omega)], rfl⟩
        · refine z_iconst E dX4_hasStretch_26 ?_
          refine z_goto (tgt := 31) E dX4_hasStretch_27 (by decide) ?_
          exact z_zret E F (by first | exact Or.inl rfl | exact Or.inr rfl) dX4_hasStretch_31 ⟨by rw [b01_t (by omega)], rfl⟩
set_option maxRecDepth 100000 in
theorem ok_number {s : Nat} (hs : s < 8) {A : Nat → Nat → Int} {σ : St} (hX : XI A σ) (i : Nat) (hi : i < 10) (N : Nat) : OkR mX4_number [.ref (52 + 2 * s), .int (iI (i : Int))] N (mA A) (some (.int (iI (srS σ s i)))) (mA A) := by
  obtain ⟨v1, v2, v3, v4⟩ := hX.2.1.1 s hs
  obtain ⟨r1, r2, r3, r4⟩ := hX.2.2.1 s hs
  have r5 := r4 i (by omega)
  have v5 := v4 i (by omega)
  refine OkM.of [some (.ref (52 + 2 * s)), some (.int (iI (i : Int)))] (by decide +kernel) rfl (Nat.le_of_ble_eq_true rfl) ?_
  intro X E F
  refine z_iload_n E dX4_number_0 rfl ?_
  refine z_if_lt (tgt := 24) E (by omega) dX4_number_1 (by decide) (fun h1 => ?_) (fun h1 => ?_)
  · omega
  · refine z_iload_n E dX4_number_4 rfl ?_
    refine z_aload_n E dX4_number_5 rfl ?_
    refine z_get E dX4_number_6 (cel_sheet hs _) flX4_23 (by rfl) ?_
    rw [v3]
    refine z_icmp_ge (tgt := 24) E (by omega) (by omega) dX4_number_9 (by decide) (fun h9 => ?_) (fun h9 => ?_)
    · refine z_iconst E dX4_number_24 ?_
      exact z_iret E F dX4_number_25 ⟨by rw [srS, if_neg (by omega)], rfl⟩
    · refine z_aload_n E dX4_number_12 rfl ?_
      refine z_get E dX4_number_13 (cel_sheet hs _) flX4_9 (by rfl) ?_
      refine z_iload_n E dX4_number_16 rfl ?_
      refine a_iald (j := i) E dX4_number_17 (cel_items hs) (by omega) (by omega) (by omega) ?_
      rw [v5]
      refine c_S E dX4_number_18 lkX4_32 (ok_of (σ s (3 + i)) r5 N (mA A)) rfl rfl rfl (Nat.le_of_ble_eq_true rfl) ⟨(Nat.le_of_ble_eq_true rfl), (Nat.le_of_ble_eq_true rfl)⟩ ⟨rfl, rfl⟩ ⟨Nat.zero_le _, Nat.zero_le _⟩ ?_
      refine z_goto (tgt := 25) E dX4_number_21 (by decide) ?_
      exact z_iret E F dX4_number_25 ⟨by rw [srS, if_pos h9], rfl⟩
theorem ok_reads0 {s o : Nat} (hs : s < 8) {A : Nat → Nat → Int} {σ : St} (hX : XI A σ) (hl : σ s 0 = 0) (N : Nat) : OkR mX5_reads [.ref 0, .int (iI (s : Int)), .ref o] N (mA A) (some (.int (iI 0))) (mA A) := by
  obtain ⟨v1, v2, v3, v4⟩ := hX.2.1.1 s hs
  refine OkM.of [some (.ref 0), some (.int (iI (s : Int))), some (.ref o), none] (by decide +kernel) rfl (Nat.le_of_ble_eq_true rfl) ?_
  intro X E F
  refine z_aload_n E dX5_reads_0 rfl ?_
  refine z_get E dX5_reads_1 (by rfl) flX5_11 (by rfl) ?_
  refine z_iload_n E dX5_reads_4 rfl ?_
  refine a_aald (j := s) E dX5_reads_5 rfl (by omega) (by omega) (by omega) (by omega) ?_
  refine z_get E dX5_reads_6 (cel_sheet hs _) flX5_71 (by rfl) ?_
  rw [v1]
  refine z_if_eq (tgt := 14) E (by omega) dX5_reads_9 (by decide) (fun h9 => ?_) (fun h9 => ?_)
  · omega
  · refine z_iconst E dX5_reads_12 ?_
    exact z_zret E F (by first | exact Or.inl rfl | exact Or.inr rfl) dX5_reads_13 ⟨rfl, rfl⟩
set_option maxRecDepth 100000 in
theorem ok_reads1 {s o : Nat} (hs : s < 8) (ho : SerK o) (ho2 : 40 ≤ o ∧ o < 52) {A : Nat → Nat → Int} {σ : St} (hX : XI A σ) (hl : σ s 0 = 1) (N : Nat) : OkR mX5_reads [.ref 0, .int (iI (s : Int)), .ref o] N (mA A) (some (.int (iI 1))) (mA (va_up A (o + 1) (srS σ s))) := by
  obtain ⟨v1, v2, v3, v4⟩ := hX.2.1.1 s hs
  refine OkM.of [some (.ref 0), some (.int (iI (s : Int))), some (.ref o), none] (by decide +kernel) rfl (Nat.le_of_ble_eq_true rfl) ?_
  intro X E F
  refine z_aload_n E dX5_reads_0 rfl ?_
  refine z_get E dX5_reads_1 (by rfl) flX5_11 (by rfl) ?_
  refine z_iload_n E dX5_reads_4 rfl ?_
  refine a_aald (j := s) E dX5_reads_5 rfl (by omega) (by omega) (by omega) (by omega) ?_
  refine z_get E dX5_reads_6 (cel_sheet hs _) flX5_71 (by rfl) ?_
  rw [v1]
  refine z_if_eq (tgt := 14) E (by omega) dX5_reads_9 (by decide) (fun h9 => ?_) (fun h9 => ?_)
  · refine z_iconst E dX5_reads_14 ?_
    refine z_istore_n (ls' := [_, _, _, _]) E rfl dX5_reads_15 (Nat.le_of_ble_eq_true rfl) rfl ?_
    have loop : ∀ (m i : Nat), i + m = 10 → ∀ A' : Nat → Nat → Int, A' = va_up A (o + 1) (fun j => if j < i then srS σ s j else A (o + 1) j) → Zc X 16 [some (.ref 0), some (.int (iI (s : Int))), some (.ref o), some (.int (iI (i : Int)))] [] N (mA A') 0 0 := by
      intro m
      induction m with
      | zero =>
        intro i hi A' hA
        refine z_iload_n E dX5_reads_16 rfl ?_
        refine z_bipush E (by decide) dX5_reads_17 ?_
        refine z_icmp_ge (tgt := 44) E (by omega) (by omega) dX5_reads_19 (by decide) (fun h19 => ?_) (fun h19 => ?_)
        · refine z_iconst E dX5_reads_44 ?_
          exact z_zret E F (by first | exact Or.inl rfl | exact Or.inr rfl) dX5_reads_45 ⟨rfl, by rw [hA]; exact row_eq (cel_row ho) (fun j hj => if_pos (by omega))⟩
        · omega
      | succ m ih =>
        intro i hi A' hA
        have hX' : XI A' σ := by rw [hA]; exact hX.ups (by have := ho.1; omega)
        refine z_iload_n E dX5_reads_16 rfl ?_
        refine z_bipush E (by decide) dX5_reads_17 ?_
        refine z_icmp_ge (tgt := 44) E (by omega) (by omega) dX5_reads_19 (by decide) (fun h19 => ?_) (fun h19 => ?_)
        · omega
        · refine z_aload_n E dX5_reads_22 rfl ?_
          refine z_get E dX5_reads_23 (cel_ser ho _) flX5_175 (by rfl) ?_
          refine z_iload_n E dX5_reads_26 rfl ?_
          refine z_aload_n E dX5_reads_27 rfl ?_
          refine z_get E dX5_reads_28 (by rfl) flX5_11 (by rfl) ?_
          refine z_iload_n E dX5_reads_31 rfl ?_
          refine a_aald (j := s) E dX5_reads_32 rfl (by omega) (by omega) (by omega) (by omega) ?_
          refine z_iload_n E dX5_reads_33 rfl ?_
          refine c_V E dX5_reads_34 lkX5_106 (ok_number hs hX' i (by omega) N) (cel_sheet hs _) rfl rfl rfl (Nat.le_of_ble_eq_true rfl) ⟨(Nat.le_of_ble_eq_true rfl), (Nat.le_of_ble_eq_true rfl)⟩ ⟨rfl, rfl⟩ ⟨Nat.zero_le _, Nat.zero_le _⟩ ?_
          refine a_iast (j := i) E dX5_reads_37 (cel_row ho) (by omega) (by omega) (by omega) ?_
          refine z_iinc (ls' := [_, _, _, _]) E dX5_reads_38 rfl rfl ?_
          refine z_goto (tgt := 16) E dX5_reads_41 (by decide) ?_
          rw [ei]
          refine ih (i + 1) (by omega) _ ?_
          rw [hA, va_uu, va_up_self]
          refine congrArg (va_up A (o + 1)) (funext fun j => ?_)
          by_cases e1 : j = i
          · subst e1; rw [up_eq, if_pos (by omega)]
          · rw [up_ne _ _ e1]
            by_cases e2 : j < i
            · rw [if_pos e2, if_pos (by omega)]
            · rw [if_neg e2, if_neg (by omega)]
    refine z_mem ?_ (loop 10 0 (by omega) _ rfl)
    exact (row_id (cel_row ho) (fun j hj => if_neg (by omega))).symm
  · omega
set_option maxRecDepth 100000 in
theorem ok_becomes {u o : Nat} (hu : u < 8) (ho : SerK o) {A : Nat → Nat → Int} {σ : St} (hX : XI A σ) (f : Nat → Int) (hf : A (o + 1) = f) (rf : rok f) (N : Nat) : OkI mX5_becomes [.ref 0, .int (iI (u : Int)), .ref o] N (mA A) (.int (iI (f 9))) (fun g' => ∃ A', g' = mA A' ∧ XI A' (setSr σ u f) ∧ Hi A A' ∧ ∀ k, k < 52 → A' k = A k) := by
  have hne : o + 1 ≠ 52 + 2 * u ∧ o + 1 ≠ 53 + 2 * u := by have := ho.1; have := ho.2; omega
  refine OkM.of [some (.ref 0), some (.int (iI (u : Int))), some (.ref o)] (by decide +kernel) rfl (Nat.le_of_ble_eq_true rfl) ?_
  intro X E F
  refine z_aload_n E dX5_becomes_0 rfl ?_
  refine z_get E dX5_becomes_1 (by rfl) flX5_11 (by rfl) ?_
  refine z_iload_n E dX5_becomes_4 rfl ?_
  refine a_aald (j := u) E dX5_becomes_5 rfl (by omega) (by omega) (by omega) (by omega) ?_
  refine z_iconst E dX5_becomes_6 ?_
  refine z_bipush E (by decide) dX5_becomes_7 ?_
  refine c_V0 E dX5_becomes_9 lkX5_67 (ok_renew hu A 2 10 N) (cel_sheet hu _) rfl rfl rfl (Nat.le_of_ble_eq_true rfl) ⟨(Nat.le_of_ble_eq_true rfl), (Nat.le_of_ble_eq_true rfl)⟩ ⟨rfl, rfl⟩ ⟨Nat.zero_le _, Nat.zero_le _⟩ ?_
  refine z_aload_n E dX5_becomes_12 rfl ?_
  refine z_get E dX5_becomes_13 (cel_ser ho _) flX5_175 (by rfl) ?_
  refine z_iconst E dX5_becomes_16 ?_
  refine z_aload_n E dX5_becomes_17 rfl ?_
  refine z_get E dX5_becomes_18 (by rfl) flX5_11 (by rfl) ?_
  refine z_iload_n E dX5_becomes_21 rfl ?_
  refine a_aald (j := u) E dX5_becomes_22 rfl (by omega) (by omega) (by omega) (by omega) ?_
  refine z_get E dX5_becomes_23 (cel_sheet hu _) flX5_82 (by rfl) ?_
  refine z_iconst E dX5_becomes_26 ?_
  refine z_bipush E (by decide) dX5_becomes_27 ?_
  refine z_copy (sp := 0) (dp := 0) (n := 10) E dX5_becomes_29 lkX5_97 (cel_row ho _) (cel_items hu _) rfl rfl rfl (by omega) (by omega) (by omega) rfl (Nat.le_of_ble_eq_true rfl) (Nat.le_of_ble_eq_true rfl) ?_
  rw [← cel_items hu, mA_up]
  refine z_aload_n E dX5_becomes_32 rfl ?_
  refine z_get E dX5_becomes_33 (cel_ser ho _) flX5_175 (by rfl) ?_
  refine z_bipush E (by decide) dX5_becomes_36 ?_
  refine a_iald (j := 9) E dX5_becomes_38 (cel_row ho) (by omega) (by omega) (by omega) ?_
  have e9 : va_up (va_up A (53 + 2 * u) (fun _ => 0)) (52 + 2 * u) (up (up (up (A (52 + 2 * u)) 1 0) 2 2) 3 10) (o + 1) = f := by rw [va_up_ne _ _ (by omega), va_up_ne _ _ (by omega)]; exact hf
  have e8 : ∀ h, va_up (va_up (va_up A (53 + 2 * u) (fun _ => 0)) (52 + 2 * u) (up (up (up (A (52 + 2 * u)) 1 0) 2 2) 3 10)) (53 + 2 * u) h (o + 1) 9 = f 9 := fun h => by rw [va_up_ne _ _ (by omega), e9]
  rw [e8]
  refine z_iret E F dX5_becomes_39 ⟨rfl, _, rfl, ?_, ?_, ?_⟩
  · refine hX.shs hu (by omega) (by omega) (fun j hj => ?_) (fun k h1 h2 h3 => ?_) ?_ (fun j hj => ?_)
    · unfold cut
      split
      · have := rf j (by omega); omega
      · omega
    · rw [va_up_ne _ _ h2, va_up_ne _ _ h1, va_up_ne _ _ h2]
    · rw [va_up_ne _ _ (by omega), va_up_self]
      exact ⟨rfl, rfl, rfl⟩
    · rw [va_up_self, e9, va_up_ne (j := 53 + 2 * u) (k := 52 + 2 * u) _ _ (by omega), va_up_self]
      unfold cpy cut
      by_cases e : j < 10
      · rw [if_pos (by omega), if_pos e]; simp
      · rw [if_neg (by omega), if_neg e]
  · intro k hk; rw [va_up_ne _ _ (by omega), va_up_ne _ _ (by omega), va_up_ne _ _ (by omega)]
  · intro k hk; rw [va_up_ne _ _ (by omega), va_up_ne _ _ (by omega), va_up_ne _ _ (by omega)]
/-- how many SHEETS, how many LADDERS -/
def ctS (σ : St) : Nat → Int
  | 0 => 0
  | s + 1 => ctS σ s + σ s 0
def ctL (σ : St) : Nat → Int
  | 0 => 0
  | k + 1 => ctL σ k + σ (8 + k) 0
theorem ctS_in {σ : St} (h : SOK σ) : ∀ s, s ≤ 8 → 0 ≤ ctS σ s ∧ ctS σ s ≤ (s : Int)
  | 0, _ => by simp [ctS]
  | s + 1, hs => by
    have h1 := ctS_in h s (by omega)
    have h2 := (h.1 s (by omega)).1
    simp only [ctS]; omega
theorem ctL_in {σ : St} (h : SOK σ) : ∀ s, s ≤ 4 → 0 ≤ ctL σ s ∧ ctL σ s ≤ (s : Int)
  | 0, _ => by simp [ctL]
  | s + 1, hs => by
    have h1 := ctL_in h s (by omega)
    have h2 := (h.2.1 s (by omega)).1
    simp only [ctL]; omega
set_option maxRecDepth 100000 in
theorem ok_sheetsKept {A : Nat → Nat → Int} {σ : St} (hX : XI A σ) (N : Nat) : OkR mX5_sheetsKept [.ref 0] N (mA A) (some (.int (iI (ctS σ 8)))) (mA A) := by
  refine OkM.of [some (.ref 0), none, none] (by decide +kernel) rfl (Nat.le_of_ble_eq_true rfl) ?_
  intro X E F
  refine z_iconst E dX5_sheetsKept_0 ?_
  refine z_istore_n (ls' := [_, _, _]) E rfl dX5_sheetsKept_1 (Nat.le_of_ble_eq_true rfl) rfl ?_
  refine z_iconst E dX5_sheetsKept_2 ?_
  refine z_istore_n (ls' := [_, _, _]) E rfl dX5_sheetsKept_3 (Nat.le_of_ble_eq_true rfl) rfl ?_
  have loop : ∀ (m s : Nat), s + m = 8 → Zc X 4 [some (.ref 0), some (.int (iI (ctS σ s))), some (.int (iI (s : Int)))] [] N (mA A) 0 0 := by
    intro m
    induction m with
    | zero =>
      intro s hs
      have hs2 : s = 8 := by omega
      subst hs2
      refine z_iload_n E dX5_sheetsKept_4 rfl ?_
      refine z_bipush E (by decide) dX5_sheetsKept_5 ?_
      refine z_icmp_ge (tgt := 31) E (by omega) (by omega) dX5_sheetsKept_7 (by decide) (fun h7 => ?_) (fun h7 => ?_)
      · refine z_iload_n E dX5_sheetsKept_31 rfl ?_
        exact z_iret E F dX5_sheetsKept_32 ⟨rfl, rfl⟩
      · omega
    | succ m ih =>
      intro s hs
      have hs8 : s < 8 := by omega
      obtain ⟨v1, v2, v3, v4⟩ := hX.2.1.1 s hs8
      obtain ⟨r1, r2, r3, r4⟩ := hX.2.2.1 s hs8
      have h1 := ih (s + 1) (by omega)
      refine z_iload_n E dX5_sheetsKept_4 rfl ?_
      refine z_bipush E (by decide) dX5_sheetsKept_5 ?_
      refine z_icmp_ge (tgt := 31) E (by omega) (by omega) dX5_sheetsKept_7 (by decide) (fun h7 => ?_) (fun h7 => ?_)
      · omega
      · refine z_aload_n E dX5_sheetsKept_10 rfl ?_
        refine z_get E dX5_sheetsKept_11 (by rfl) flX5_11 (by rfl) ?_
        refine z_iload_n E dX5_sheetsKept_14 rfl ?_
        refine a_aald (j := s) E dX5_sheetsKept_15 rfl (by omega) (by omega) (by omega) (by omega) ?_
        refine z_get E dX5_sheetsKept_16 (cel_sheet hs8 _) flX5_71 (by rfl) ?_
        rw [v1]
        refine z_if_ne (tgt := 25) E (by omega) dX5_sheetsKept_19 (by decide) (fun h19 => ?_) (fun h19 => ?_)
        · refine z_iinc (ls' := [_, _, _]) E dX5_sheetsKept_25 rfl rfl ?_
          refine z_goto (tgt := 4) E dX5_sheetsKept_28 (by decide) ?_
          rw [ei]
          simp only [ctS] at h1
          rw [show σ s 0 = 0 by omega, Int.add_zero] at h1
          exact h1
        · refine z_iinc (ls' := [_, _, _]) E dX5_sheetsKept_22 rfl rfl ?_
          refine z_iinc (ls' := [_, _, _]) E dX5_sheetsKept_25 rfl rfl ?_
          refine z_goto (tgt := 4) E dX5_sheetsKept_28 (by decide) ?_
          rw [ei]
          simp only [ctS] at h1
          rw [show σ s 0 = 1 by omega] at h1
          exact h1
  exact loop 8 0 (by omega)
set_option maxRecDepth 100000 in
theorem ok_laddersStanding {A : Nat → Nat → Int} {σ : St} (hX : XI A σ) (N : Nat) : OkR mX5_laddersStanding [.ref 0] N (mA A) (some (.int (iI (ctL σ 4)))) (mA A) := by
  refine OkM.of [some (.ref 0), none, none] (by decide +kernel) rfl (Nat.le_of_ble_eq_true rfl) ?_
  intro X E F
  refine z_iconst E dX5_laddersStanding_0 ?_
  refine z_istore_n (ls' := [_, _, _]) E rfl dX5_laddersStanding_1 (Nat.le_of_ble_eq_true rfl) rfl ?_
  refine z_iconst E dX5_laddersStanding_2 ?_
  refine z_istore_n (ls' := [_, _, _]) E rfl dX5_laddersStanding_3 (Nat.le_of_ble_eq_true rfl) rfl ?_
  have loop : ∀ (m s : Nat), s + m = 4 → Zc X 4 [some (.ref 0), some (.int (iI (ctL σ s))), some (.int (iI (s : Int)))] [] N (mA A) 0 0 := by
    intro m
    induction m with
    | zero =>
      intro s hs
      have hs2 : s = 4 := by omega
      subst hs2
      refine z_iload_n E dX5_laddersStanding_4 rfl ?_
      refine z_iconst E dX5_laddersStanding_5 ?_
      refine z_icmp_ge (tgt := 30) E (by omega) (by omega) dX5_laddersStanding_6 (by decide) (fun h6 => ?_) (fun h6 => ?_)
      · refine z_iload_n E dX5_laddersStanding_30 rfl ?_
        exact z_iret E F dX5_laddersStanding_31 ⟨rfl, rfl⟩
      · omega
    | succ m ih =>
      intro s hs
      have hs8 : s < 4 := by omega
      have v1 := (hX.2.1.2.1 s hs8).1
      have r1 := (hX.2.2.2.1 s hs8).1
      have h1 := ih (s + 1) (by omega)
      refine z_iload_n E dX5_laddersStanding_4 rfl ?_
      refine z_iconst E dX5_laddersStanding_5 ?_
      refine z_icmp_ge (tgt := 30) E (by omega) (by omega) dX5_laddersStanding_6 (by decide) (fun h6 => ?_) (fun h6 => ?_)
      · omega
      · refine z_aload_n E dX5_laddersStanding_9 rfl ?_
        refine z_get E dX5_laddersStanding_10 (by rfl) flX5_17 (by rfl) ?_
        refine z_iload_n E dX5_laddersStanding_13 rfl ?_
        refine a_aald (j := s) E dX5_laddersStanding_14 rfl (by omega) (by omega) (by omega) (by omega) ?_
        refine z_get E dX5_laddersStanding_15 (cel_lad hs8 _) flX5_168 (by rfl) ?_
        rw [v1]
        refine z_if_eq (tgt := 24) E (by omega) dX5_laddersStanding_18 (by decide) (fun h18 => ?_) (fun h18 => ?_)
        · refine z_iinc (ls' := [_, _, _]) E dX5_laddersStanding_24 rfl rfl ?_
          refine z_goto (tgt := 4) E dX5_laddersStanding_27 (by decide) ?_
          rw [ei]
          simp only [ctL] at h1
          rw [show σ (8 + s) 0 = 0 by omega, Int.add_zero] at h1
          exact h1
        · refine z_iinc (ls' := [_, _, _]) E dX5_laddersStanding_21 rfl rfl ?_
          refine z_iinc (ls' := [_, _, _]) E dX5_laddersStanding_24 rfl rfl ?_
          refine z_goto (tgt := 4) E dX5_laddersStanding_27 (by decide) ?_
          rw [ei]
          simp only [ctL] at h1
          rw [show σ (8 + s) 0 = 1 by omega] at h1
          exact h1
  exact loop 4 0 (by omega)
