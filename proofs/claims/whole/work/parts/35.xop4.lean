/-! the landed calls on ladders -/
set_option maxRecDepth 100000 in
theorem x_step {A : Nat → Nat → Int} {σ : St} (hX : XI A σ) (k n j : Int) (hk : inR k) (hn : inR n) (hj : inR j) : OkI mX5_step [.ref 0, .int (iI k), .int (iI n), .int (iI j)] 172 (mA A) (.int (iI (opStep σ k n j).1)) (XP A (opStep σ k n j).2) := by
  generalize hop : opStep σ k n j = R
  refine OkM.of [some (.ref 0), some (.int (iI k)), some (.int (iI n)), some (.int (iI j))] (by decide +kernel) rfl (Nat.le_of_ble_eq_true rfl) ?_
  intro X E F
  have hbad : ¬ (iL k ∧ iP n ∧ iP j) → Zc X 21 [some (.ref 0), some (.int (iI k)), some (.int (iI n)), some (.int (iI j))] [] 172 (mA A) 0 0 := by
    intro hv
    refine z_bipush E (by decide) dX5_step_21 ?_
    exact z_iret E F dX5_step_23 (fin hop (if_neg hv) (xp_same hX))
  refine z_iload_n E dX5_step_0 rfl ?_
  refine c_S E dX5_step_1 lkX5_161 (ok_isLadder5 k hk 172 _) rfl rfl rfl (Nat.le_of_ble_eq_true rfl) ⟨(Nat.le_of_ble_eq_true rfl), (Nat.le_of_ble_eq_true rfl)⟩ ⟨rfl, rfl⟩ ⟨Nat.zero_le _, Nat.zero_le _⟩ ?_
  refine z_bif_eq (tgt := 21) E dX5_step_4 (by decide) (fun h4 => ?_) (fun h4 => ?_)
  · exact hbad (fun v => h4 v.1)
  refine z_iload_n E dX5_step_7 rfl ?_
  refine c_S E dX5_step_8 lkX5_103 (ok_isPlace5 n hn 172 _) rfl rfl rfl (Nat.le_of_ble_eq_true rfl) ⟨(Nat.le_of_ble_eq_true rfl), (Nat.le_of_ble_eq_true rfl)⟩ ⟨rfl, rfl⟩ ⟨Nat.zero_le _, Nat.zero_le _⟩ ?_
  refine z_bif_eq (tgt := 21) E dX5_step_11 (by decide) (fun h11 => ?_) (fun h11 => ?_)
  · exact hbad (fun v => h11 v.2.1)
  refine z_iload_n E dX5_step_14 rfl ?_
  refine c_S E dX5_step_15 lkX5_103 (ok_isPlace5 j hj 172 _) rfl rfl rfl (Nat.le_of_ble_eq_true rfl) ⟨(Nat.le_of_ble_eq_true rfl), (Nat.le_of_ble_eq_true rfl)⟩ ⟨rfl, rfl⟩ ⟨Nat.zero_le _, Nat.zero_le _⟩ ?_
  refine z_bif_ne (tgt := 24) E dX5_step_18 (by decide) (fun h18 => ?_) (fun h18 => ?_)
  case refine_2 => exact hbad (fun v => h18 v.2.2)
  have hv : iL k ∧ iP n ∧ iP j := ⟨h4, h11, h18⟩
  obtain ⟨k, rfl⟩ := nat_of h4.1
  obtain ⟨n, rfl⟩ := nat_of h11.1
  obtain ⟨j, rfl⟩ := nat_of h18.1
  have hk4 : k < 4 := by omega
  have hn10 : n < 10 := by omega
  have v1 := (hX.2.1.2.1 k hk4).1
  have r1 := (hX.2.2.2.1 k hk4).1
  refine z_aload_n E dX5_step_24 rfl ?_
  refine z_get E dX5_step_25 (by rfl) flX5_17 (by rfl) ?_
  refine z_iload_n E dX5_step_28 rfl ?_
  refine a_aald (j := k) E dX5_step_29 rfl (by omega) (by omega) (by omega) (by omega) ?_
  refine z_get E dX5_step_30 (cel_lad hk4 _) flX5_168 (by rfl) ?_
  rw [v1]
  refine z_if_ne (tgt := 39) E (by omega) dX5_step_33 (by decide) (fun h33 => ?_) (fun h33 => ?_)
  · refine z_aload_n E dX5_step_39 rfl ?_
    refine z_get E dX5_step_40 (by rfl) flX5_17 (by rfl) ?_
    refine z_iload_n E dX5_step_43 rfl ?_
    refine a_aald (j := k) E dX5_step_44 rfl (by omega) (by omega) (by omega) (by omega) ?_
    refine z_get E dX5_step_45 (cel_lad hk4 _) flX5_171 (by rfl) ?_
    refine z_iload_n E dX5_step_48 rfl ?_
    refine a_aald (j := n) E dX5_step_49 (cel_steps hk4 _) (by omega) (by omega) (by omega) (by omega) ?_
    refine z_get E dX5_step_50 (cel_ser (ser_step hk4 hn10) _) flX5_175 (by rfl) ?_
    refine z_iload_n E dX5_step_53 rfl ?_
    refine a_iald (j := j) E dX5_step_54 (cel_row (ser_step hk4 hn10)) (by omega) (by omega) (by omega) ?_
    rw [hX.row hk4 hn10 j (by omega)]
    exact z_iret E F dX5_step_55 (fin hop ((if_pos hv).trans (if_neg h33)) (xp_same hX))
  · refine z_bipush E (by decide) dX5_step_36 ?_
    exact z_iret E F dX5_step_38 (fin hop ((if_pos hv).trans (if_pos h33)) (xp_same hX))
set_option maxRecDepth 100000 in
theorem x_at {A : Nat → Nat → Int} {σ : St} (hX : XI A σ) (k n x : Int) (hk : inR k) (hn : inR n) (hx : inR x) : OkI mX5_at [.ref 0, .int (iI k), .int (iI n), .int (iI x)] 172 (mA A) (.int (iI (opAt σ k n x).1)) (XP A (opAt σ k n x).2) := by
  generalize hop : opAt σ k n x = R
  refine OkM.of [some (.ref 0), some (.int (iI k)), some (.int (iI n)), some (.int (iI x))] (by decide +kernel) rfl (Nat.le_of_ble_eq_true rfl) ?_
  intro X E F
  have hbad : ¬ (iL k ∧ iP n) → Zc X 14 [some (.ref 0), some (.int (iI k)), some (.int (iI n)), some (.int (iI x))] [] 172 (mA A) 0 0 := by
    intro hv
    refine z_bipush E (by decide) dX5_at_14 ?_
    exact z_iret E F dX5_at_16 (fin hop (if_neg hv) (xp_same hX))
  refine z_iload_n E dX5_at_0 rfl ?_
  refine c_S E dX5_at_1 lkX5_161 (ok_isLadder5 k hk 172 _) rfl rfl rfl (Nat.le_of_ble_eq_true rfl) ⟨(Nat.le_of_ble_eq_true rfl), (Nat.le_of_ble_eq_true rfl)⟩ ⟨rfl, rfl⟩ ⟨Nat.zero_le _, Nat.zero_le _⟩ ?_
  refine z_bif_eq (tgt := 14) E dX5_at_4 (by decide) (fun h4 => ?_) (fun h4 => ?_)
  · exact hbad (fun v => h4 v.1)
  refine z_iload_n E dX5_at_7 rfl ?_
  refine c_S E dX5_at_8 lkX5_103 (ok_isPlace5 n hn 172 _) rfl rfl rfl (Nat.le_of_ble_eq_true rfl) ⟨(Nat.le_of_ble_eq_true rfl), (Nat.le_of_ble_eq_true rfl)⟩ ⟨rfl, rfl⟩ ⟨Nat.zero_le _, Nat.zero_le _⟩ ?_
  refine z_bif_ne (tgt := 17) E dX5_at_11 (by decide) (fun h11 => ?_) (fun h11 => ?_)
  case refine_2 => exact hbad (fun v => h11 v.2)
  have hv : iL k ∧ iP n := ⟨h4, h11⟩
  obtain ⟨k, rfl⟩ := nat_of h4.1
  obtain ⟨n, rfl⟩ := nat_of h11.1
  have hk4 : k < 4 := by omega
  have hn10 : n < 10 := by omega
  have v1 := (hX.2.1.2.1 k hk4).1
  have r1 := (hX.2.2.2.1 k hk4).1
  refine z_aload_n E dX5_at_17 rfl ?_
  refine z_get E dX5_at_18 (by rfl) flX5_17 (by rfl) ?_
  refine z_iload_n E dX5_at_21 rfl ?_
  refine a_aald (j := k) E dX5_at_22 rfl (by omega) (by omega) (by omega) (by omega) ?_
  refine z_get E dX5_at_23 (cel_lad hk4 _) flX5_168 (by rfl) ?_
  rw [v1]
  refine z_if_ne (tgt := 32) E (by omega) dX5_at_26 (by decide) (fun h26 => ?_) (fun h26 => ?_)
  · refine z_aload_n E dX5_at_32 rfl ?_
    refine z_get E dX5_at_33 (by rfl) flX5_17 (by rfl) ?_
    refine z_iload_n E dX5_at_36 rfl ?_
    refine a_aald (j := k) E dX5_at_37 rfl (by omega) (by omega) (by omega) (by omega) ?_
    refine z_get E dX5_at_38 (cel_lad hk4 _) flX5_171 (by rfl) ?_
    refine z_iload_n E dX5_at_41 rfl ?_
    refine a_aald (j := n) E dX5_at_42 (cel_steps hk4 _) (by omega) (by omega) (by omega) (by omega) ?_
    refine z_iload_n E dX5_at_43 rfl ?_
    refine c_V E dX5_at_44 lkX5_154 (ok_valueAt (ser_step hk4 hn10) A (hX.rowok hk4 hn10) x hx 172) (cel_ser (ser_step hk4 hn10) _) rfl rfl rfl (Nat.le_of_ble_eq_true rfl) ⟨(Nat.le_of_ble_eq_true rfl), (Nat.le_of_ble_eq_true rfl)⟩ ⟨rfl, rfl⟩ ⟨Nat.zero_le _, Nat.zero_le _⟩ ?_
    rw [hv_congr (hX.row hk4 hn10)]
    exact z_iret E F dX5_at_47 (fin hop ((if_pos hv).trans (if_neg h26)) (xp_same hX))
  · refine z_bipush E (by decide) dX5_at_29 ?_
    exact z_iret E F dX5_at_31 (fin hop ((if_pos hv).trans (if_pos h26)) (xp_same hX))
set_option maxRecDepth 100000 in
theorem x_tell {A : Nat → Nat → Int} {σ : St} (hX : XI A σ) (k n u : Int) (hk : inR k) (hn : inR n) (hu : inR u) : OkI mX5_tell [.ref 0, .int (iI k), .int (iI n), .int (iI u)] 172 (mA A) (.int (iI (opTell σ k n u).1)) (XP A (opTell σ k n u).2) := by
  generalize hop : opTell σ k n u = R
  refine OkM.of [some (.ref 0), some (.int (iI k)), some (.int (iI n)), some (.int (iI u))] (by decide +kernel) rfl (Nat.le_of_ble_eq_true rfl) ?_
  intro X E F
  have hbad : ¬ (iL k ∧ iP n ∧ iS u) → Zc X 21 [some (.ref 0), some (.int (iI k)), some (.int (iI n)), some (.int (iI u))] [] 172 (mA A) 0 0 := by
    intro hv
    refine z_bipush E (by decide) dX5_tell_21 ?_
    exact z_iret E F dX5_tell_23 (fin hop (if_neg hv) (xp_same hX))
  refine z_iload_n E dX5_tell_0 rfl ?_
  refine c_S E dX5_tell_1 lkX5_161 (ok_isLadder5 k hk 172 _) rfl rfl rfl (Nat.le_of_ble_eq_true rfl) ⟨(Nat.le_of_ble_eq_true rfl), (Nat.le_of_ble_eq_true rfl)⟩ ⟨rfl, rfl⟩ ⟨Nat.zero_le _, Nat.zero_le _⟩ ?_
  refine z_bif_eq (tgt := 21) E dX5_tell_4 (by decide) (fun h4 => ?_) (fun h4 => ?_)
  · exact hbad (fun v => h4 v.1)
  refine z_iload_n E dX5_tell_7 rfl ?_
  refine c_S E dX5_tell_8 lkX5_103 (ok_isPlace5 n hn 172 _) rfl rfl rfl (Nat.le_of_ble_eq_true rfl) ⟨(Nat.le_of_ble_eq_true rfl), (Nat.le_of_ble_eq_true rfl)⟩ ⟨rfl, rfl⟩ ⟨Nat.zero_le _, Nat.zero_le _⟩ ?_
  refine z_bif_eq (tgt := 21) E dX5_tell_11 (by decide) (fun h11 => ?_) (fun h11 => ?_)
  · exact hbad (fun v => h11 v.2.1)
  refine z_iload_n E dX5_tell_14 rfl ?_
  refine c_S E dX5_tell_15 lkX5_56 (ok_isSheet5 u hu 172 _) rfl rfl rfl (Nat.le_of_ble_eq_true rfl) ⟨(Nat.le_of_ble_eq_true rfl), (Nat.le_of_ble_eq_true rfl)⟩ ⟨rfl, rfl⟩ ⟨Nat.zero_le _, Nat.zero_le _⟩ ?_
  refine z_bif_ne (tgt := 24) E dX5_tell_18 (by decide) (fun h18 => ?_) (fun h18 => ?_)
  case refine_2 => exact hbad (fun v => h18 v.2.2)
  have hv : iL k ∧ iP n ∧ iS u := ⟨h4, h11, h18⟩
  obtain ⟨k, rfl⟩ := nat_of h4.1
  obtain ⟨n, rfl⟩ := nat_of h11.1
  obtain ⟨u, rfl⟩ := nat_of h18.1
  have hk4 : k < 4 := by omega
  have hn10 : n < 10 := by omega
  have hu8 : u < 8 := by omega
  have v1 := (hX.2.1.2.1 k hk4).1
  have r1 := (hX.2.2.2.1 k hk4).1
  refine z_aload_n E dX5_tell_24 rfl ?_
  refine z_get E dX5_tell_25 (by rfl) flX5_17 (by rfl) ?_
  refine z_iload_n E dX5_tell_28 rfl ?_
  refine a_aald (j := k) E dX5_tell_29 rfl (by omega) (by omega) (by omega) (by omega) ?_
  refine z_get E dX5_tell_30 (cel_lad hk4 _) flX5_168 (by rfl) ?_
  rw [v1]
  refine z_if_ne (tgt := 39) E (by omega) dX5_tell_33 (by decide) (fun h33 => ?_) (fun h33 => ?_)
  · refine z_aload_n E dX5_tell_39 rfl ?_
    refine z_iload_n E dX5_tell_40 rfl ?_
    refine z_aload_n E dX5_tell_41 rfl ?_
    refine z_get E dX5_tell_42 (by rfl) flX5_17 (by rfl) ?_
    refine z_iload_n E dX5_tell_45 rfl ?_
    refine a_aald (j := k) E dX5_tell_46 rfl (by omega) (by omega) (by omega) (by omega) ?_
    refine z_get E dX5_tell_47 (cel_lad hk4 _) flX5_171 (by rfl) ?_
    refine z_iload_n E dX5_tell_50 rfl ?_
    refine a_aald (j := n) E dX5_tell_51 (cel_steps hk4 _) (by omega) (by omega) (by omega) (by omega) ?_
    refine c_VQ E dX5_tell_52 lkX5_113 (ok_becomes hu8 (ser_step hk4 hn10) hX _ rfl (hX.rowok hk4 hn10) 172) (by rfl) rfl rfl rfl (Nat.le_of_ble_eq_true rfl) ⟨(Nat.le_of_ble_eq_true rfl), (Nat.le_of_ble_eq_true rfl)⟩ ⟨rfl, rfl⟩ ⟨Nat.zero_le _, Nat.zero_le _⟩ (fun g1 hg1 => ?_)
    obtain ⟨A4, rfl, hX4, hh4, -⟩ := hg1
    rw [setSr_congr (hX.row hk4 hn10)] at hX4
    rw [hX.row hk4 hn10 9 (by omega)]
    exact z_iret E F dX5_tell_55 (fin hop ((if_pos hv).trans (if_neg h33)) (xp_to hX4 hh4))
  · refine z_bipush E (by decide) dX5_tell_36 ?_
    exact z_iret E F dX5_tell_38 (fin hop ((if_pos hv).trans (if_pos h33)) (xp_same hX))
set_option maxRecDepth 100000 in
theorem x_binomial {A : Nat → Nat → Int} {σ : St} (hX : XI A σ) (k : Int) (hk : inR k) : OkI mX5_binomial [.ref 0, .int (iI k)] 172 (mA A) (.int (iI (opBinom σ k).1)) (XP A (opBinom σ k).2) := by
  generalize hop : opBinom σ k = R
  refine OkM.of [some (.ref 0), some (.int (iI k))] (by decide +kernel) rfl (Nat.le_of_ble_eq_true rfl) ?_
  intro X E F
  refine z_iload_n E dX5_binomial_0 rfl ?_
  refine c_S E dX5_binomial_1 lkX5_161 (ok_isLadder5 k hk 172 _) rfl rfl rfl (Nat.le_of_ble_eq_true rfl) ⟨(Nat.le_of_ble_eq_true rfl), (Nat.le_of_ble_eq_true rfl)⟩ ⟨rfl, rfl⟩ ⟨Nat.zero_le _, Nat.zero_le _⟩ ?_
  refine z_bif_ne (tgt := 10) E dX5_binomial_4 (by decide) (fun h4 => ?_) (fun h4 => ?_)
  · have hv : iL k := h4
    obtain ⟨k, rfl⟩ := nat_of h4.1
    have hk4 : k < 4 := by omega
    have v1 := (hX.2.1.2.1 k hk4).1
    have r1 := (hX.2.2.2.1 k hk4).1
    refine z_aload_n E dX5_binomial_10 rfl ?_
    refine z_get E dX5_binomial_11 (by rfl) flX5_17 (by rfl) ?_
    refine z_iload_n E dX5_binomial_14 rfl ?_
    refine a_aald (j := k) E dX5_binomial_15 rfl (by omega) (by omega) (by omega) (by omega) ?_
    refine z_get E dX5_binomial_16 (cel_lad hk4 _) flX5_168 (by rfl) ?_
    rw [v1]
    refine z_if_ne (tgt := 25) E (by omega) dX5_binomial_19 (by decide) (fun h19 => ?_) (fun h19 => ?_)
    · refine z_aload_n E dX5_binomial_25 rfl ?_
      refine z_get E dX5_binomial_26 (by rfl) flX5_24 (by rfl) ?_
      refine z_aload_n E dX5_binomial_29 rfl ?_
      refine z_get E dX5_binomial_30 (by rfl) flX5_17 (by rfl) ?_
      refine z_iload_n E dX5_binomial_33 rfl ?_
      refine a_aald (j := k) E dX5_binomial_34 rfl (by omega) (by omega) (by omega) (by omega) ?_
      refine c_VQ E dX5_binomial_35 lkX5_186 (ok_binomialUpTo hk4 A hX.1 (fun n hn => hX.rowok hk4 hn) 172) (by rfl) rfl rfl rfl (Nat.le_of_ble_eq_true rfl) ⟨(Nat.le_of_ble_eq_true rfl), (Nat.le_of_ble_eq_true rfl)⟩ ⟨rfl, rfl⟩ ⟨Nat.zero_le _, Nat.zero_le _⟩ (fun g1 hg1 => ?_)
      obtain ⟨A4, rfl, o4⟩ := hg1
      rw [lsF_congr (q := bnP (vlL σ k)) 10 0 (fun m _ hm => bnP_congr (fun n x hn hx => hv_congr (hX.row hk4 hn) _ _) (by omega))]
      exact z_iret E F dX5_binomial_38 (fin hop ((if_pos hv).trans (if_neg h19)) (xp_to (hX.scr (fun q hq => o4 q (by omega))) (fun q hq => o4 q (by omega))))
    · refine z_bipush E (by decide) dX5_binomial_22 ?_
      exact z_iret E F dX5_binomial_24 (fin hop ((if_pos hv).trans (if_pos h19)) (xp_same hX))
  · refine z_bipush E (by decide) dX5_binomial_7 ?_
    exact z_iret E F dX5_binomial_9 (fin hop (if_neg h4) (xp_same hX))
set_option maxRecDepth 100000 in
theorem x_lowers {A : Nat → Nat → Int} {σ : St} (hX : XI A σ) (k s : Int) (hk : inR k) (hs : inR s) : OkI mX5_lowers [.ref 0, .int (iI k), .int (iI s)] 172 (mA A) (.int (iI (opLowers σ k s).1)) (XP A (opLowers σ k s).2) := by
  generalize hop : opLowers σ k s = R
  refine OkM.of [some (.ref 0), some (.int (iI k)), some (.int (iI s))] (by decide +kernel) rfl (Nat.le_of_ble_eq_true rfl) ?_
  intro X E F
  have hbad : ¬ (iL k ∧ iS s) → Zc X 14 [some (.ref 0), some (.int (iI k)), some (.int (iI s))] [] 172 (mA A) 0 0 := by
    intro hv
    refine z_bipush E (by decide) dX5_lowers_14 ?_
    exact z_iret E F dX5_lowers_16 (fin hop (if_neg hv) (xp_same hX))
  refine z_iload_n E dX5_lowers_0 rfl ?_
  refine c_S E dX5_lowers_1 lkX5_161 (ok_isLadder5 k hk 172 _) rfl rfl rfl (Nat.le_of_ble_eq_true rfl) ⟨(Nat.le_of_ble_eq_true rfl), (Nat.le_of_ble_eq_true rfl)⟩ ⟨rfl, rfl⟩ ⟨Nat.zero_le _, Nat.zero_le _⟩ ?_
  refine z_bif_eq (tgt := 14) E dX5_lowers_4 (by decide) (fun h4 => ?_) (fun h4 => ?_)
  · exact hbad (fun v => h4 v.1)
  refine z_iload_n E dX5_lowers_7 rfl ?_
  refine c_S E dX5_lowers_8 lkX5_56 (ok_isSheet5 s hs 172 _) rfl rfl rfl (Nat.le_of_ble_eq_true rfl) ⟨(Nat.le_of_ble_eq_true rfl), (Nat.le_of_ble_eq_true rfl)⟩ ⟨rfl, rfl⟩ ⟨Nat.zero_le _, Nat.zero_le _⟩ ?_
  refine z_bif_ne (tgt := 17) E dX5_lowers_11 (by decide) (fun h11 => ?_) (fun h11 => ?_)
  case refine_2 => exact hbad (fun v => h11 v.2)
  have hv : iL k ∧ iS s := ⟨h4, h11⟩
  obtain ⟨k, rfl⟩ := nat_of h4.1
  obtain ⟨s, rfl⟩ := nat_of h11.1
  have hk4 : k < 4 := by omega
  have hs8 : s < 8 := by omega
  have r1 := (hX.2.2.2.1 k hk4).1
  have hnull : (σ s 0 = 0) → ∀ A2, XI A2 σ → Hi A A2 → Zc X 29 [some (.ref 0), some (.int (iI (k : Int))), some (.int (iI (s : Int)))] [] 172 (mA A2) 0 0 := by
    intro hl A2 hX2 hh
    refine z_aload_n E dX5_lowers_29 rfl ?_
    refine z_iconst E dX5_lowers_30 ?_
    refine c_VQ E dX5_lowers_31 lkX5_63 (ok_found hX2 1 (by omega) 172) (by rfl) rfl rfl rfl (Nat.le_of_ble_eq_true rfl) ⟨(Nat.le_of_ble_eq_true rfl), (Nat.le_of_ble_eq_true rfl)⟩ ⟨rfl, rfl⟩ ⟨Nat.zero_le _, Nat.zero_le _⟩ (fun g1 hg1 => ?_)
    exact z_iret E F dX5_lowers_34 (fin hop ((if_pos hv).trans (if_pos hl)) (xp_tr hh hg1))
  rcases (hX.2.2.1 s hs8).1 with ls | ls
  · refine z_aload_n E dX5_lowers_17 rfl ?_
    refine z_iload_n E dX5_lowers_18 rfl ?_
    refine z_aload_n E dX5_lowers_19 rfl ?_
    refine z_get E dX5_lowers_20 (by rfl) flX5_31 (by rfl) ?_
    refine c_V E dX5_lowers_23 lkX5_117 (ok_reads0 (o := 40) hs8 hX ls 172) (by rfl) rfl rfl rfl (Nat.le_of_ble_eq_true rfl) ⟨(Nat.le_of_ble_eq_true rfl), (Nat.le_of_ble_eq_true rfl)⟩ ⟨rfl, rfl⟩ ⟨Nat.zero_le _, Nat.zero_le _⟩ ?_
    refine z_if_ne (tgt := 35) E (by omega) dX5_lowers_26 (by decide) (fun hq => False.elim (by omega)) (fun h26 => ?_)
    exact hnull ls A hX (fun _ _ => rfl)
  refine z_aload_n E dX5_lowers_17 rfl ?_
  refine z_iload_n E dX5_lowers_18 rfl ?_
  refine z_aload_n E dX5_lowers_19 rfl ?_
  refine z_get E dX5_lowers_20 (by rfl) flX5_31 (by rfl) ?_
  refine c_V E dX5_lowers_23 lkX5_117 (ok_reads1 hs8 s40 (by omega) hX ls 172) (by rfl) rfl rfl rfl (Nat.le_of_ble_eq_true rfl) ⟨(Nat.le_of_ble_eq_true rfl), (Nat.le_of_ble_eq_true rfl)⟩ ⟨rfl, rfl⟩ ⟨Nat.zero_le _, Nat.zero_le _⟩ ?_
  refine z_if_ne (tgt := 35) E (by omega) dX5_lowers_26 (by decide) (fun h26 => ?_) (fun hq => False.elim (by omega))
  have hnl : ¬ σ s 0 = 0 := by omega
  have hX1 : XI (va_up A (40 + 1) (srS σ s)) σ := hX.ups (by omega)
  have e1 : va_up A (40 + 1) (srS σ s) (40 + 1) = srS σ s := va_up_self _ _ _
  have hh1 : Hi A (va_up A (40 + 1) (srS σ s)) := hi_up (by omega)
  generalize va_up A (40 + 1) (srS σ s) = A1 at *
  have v1 := (hX1.2.1.2.1 k hk4).1
  refine z_aload_n E dX5_lowers_35 rfl ?_
  refine z_get E dX5_lowers_36 (by rfl) flX5_17 (by rfl) ?_
  refine z_iload_n E dX5_lowers_39 rfl ?_
  refine a_aald (j := k) E dX5_lowers_40 rfl (by omega) (by omega) (by omega) (by omega) ?_
  refine z_get E dX5_lowers_41 (cel_lad hk4 _) flX5_168 (by rfl) ?_
  rw [v1]
  refine z_if_ne (tgt := 50) E (by omega) dX5_lowers_44 (by decide) (fun h44 => ?_) (fun h44 => ?_)
  · refine z_aload_n E dX5_lowers_50 rfl ?_
    refine z_get E dX5_lowers_51 (by rfl) flX5_24 (by rfl) ?_
    refine z_aload_n E dX5_lowers_54 rfl ?_
    refine z_get E dX5_lowers_55 (by rfl) flX5_17 (by rfl) ?_
    refine z_iload_n E dX5_lowers_58 rfl ?_
    refine a_aald (j := k) E dX5_lowers_59 rfl (by omega) (by omega) (by omega) (by omega) ?_
    refine z_aload_n E dX5_lowers_60 rfl ?_
    refine z_get E dX5_lowers_61 (by rfl) flX5_31 (by rfl) ?_
    refine c_VQ E dX5_lowers_64 lkX5_178 (ok_firstNotLowered hk4 s40 (by omega) A1 hX1.1 (by rw [e1]; exact srS_rok σ s) (fun n hn => hX1.rowok hk4 hn) 172) (by rfl) rfl rfl rfl (Nat.le_of_ble_eq_true rfl) ⟨(Nat.le_of_ble_eq_true rfl), (Nat.le_of_ble_eq_true rfl)⟩ ⟨rfl, rfl⟩ ⟨Nat.zero_le _, Nat.zero_le _⟩ (fun g1 hg1 => ?_)
    obtain ⟨R2, rfl⟩ := hg1
    rw [e1, fnF_congr (q := lwS (srS σ s) (stp σ k)) 9 1 (fun m _ hm => lwS_congr (fun n j hn hj => hX1.row hk4 hn j hj) (by omega))]
    exact z_iret E F dX5_lowers_67 (fin hop ((if_pos hv).trans ((if_neg hnl).trans (if_neg h44))) (xp_to (hX1.ups (by omega)) (hi_tr hh1 (hi_up (by omega)))))
  · refine z_bipush E (by decide) dX5_lowers_47 ?_
    exact z_iret E F dX5_lowers_49 (fin hop ((if_pos hv).trans ((if_neg hnl).trans (if_pos h44))) (xp_to hX1 hh1))
set_option maxRecDepth 100000 in
theorem x_bound {A : Nat → Nat → Int} {σ : St} (hX : XI A σ) (k o n j : Int) (hk : inR k) (ho : inR o) (hn : inR n) (hj : inR j) : OkI mX5_bound [.ref 0, .int (iI k), .int (iI o), .int (iI n), .int (iI j)] 172 (mA A) (.int (iI (opBound σ k o n j).1)) (XP A (opBound σ k o n j).2) := by
  generalize hop : opBound σ k o n j = R
  refine OkM.of [some (.ref 0), some (.int (iI k)), some (.int (iI o)), some (.int (iI n)), some (.int (iI j))] (by decide +kernel) rfl (Nat.le_of_ble_eq_true rfl) ?_
  intro X E F
  have hbad : ¬ (iL k ∧ iL o ∧ iP n ∧ iP j) → Zc X 29 [some (.ref 0), some (.int (iI k)), some (.int (iI o)), some (.int (iI n)), some (.int (iI j))] [] 172 (mA A) 0 0 := by
    intro hv
    refine z_bipush E (by decide) dX5_bound_29 ?_
    exact z_iret E F dX5_bound_31 (fin hop (if_neg hv) (xp_same hX))
  refine z_iload_n E dX5_bound_0 rfl ?_
  refine c_S E dX5_bound_1 lkX5_161 (ok_isLadder5 k hk 172 _) rfl rfl rfl (Nat.le_of_ble_eq_true rfl) ⟨(Nat.le_of_ble_eq_true rfl), (Nat.le_of_ble_eq_true rfl)⟩ ⟨rfl, rfl⟩ ⟨Nat.zero_le _, Nat.zero_le _⟩ ?_
  refine z_bif_eq (tgt := 29) E dX5_bound_4 (by decide) (fun h4 => ?_) (fun h4 => ?_)
  · exact hbad (fun v => h4 v.1)
  refine z_iload_n E dX5_bound_7 rfl ?_
  refine c_S E dX5_bound_8 lkX5_161 (ok_isLadder5 o ho 172 _) rfl rfl rfl (Nat.le_of_ble_eq_true rfl) ⟨(Nat.le_of_ble_eq_true rfl), (Nat.le_of_ble_eq_true rfl)⟩ ⟨rfl, rfl⟩ ⟨Nat.zero_le _, Nat.zero_le _⟩ ?_
  refine z_bif_eq (tgt := 29) E dX5_bound_11 (by decide) (fun h11 => ?_) (fun h11 => ?_)
  · exact hbad (fun v => h11 v.2.1)
  refine z_iload_n E dX5_bound_14 rfl ?_
  refine c_S E dX5_bound_15 lkX5_103 (ok_isPlace5 n hn 172 _) rfl rfl rfl (Nat.le_of_ble_eq_true rfl) ⟨(Nat.le_of_ble_eq_true rfl), (Nat.le_of_ble_eq_true rfl)⟩ ⟨rfl, rfl⟩ ⟨Nat.zero_le _, Nat.zero_le _⟩ ?_
  refine z_bif_eq (tgt := 29) E dX5_bound_18 (by decide) (fun h18 => ?_) (fun h18 => ?_)
  · exact hbad (fun v => h18 v.2.2.1)
  refine z_iload E dX5_bound_21 rfl ?_
  refine c_S E dX5_bound_23 lkX5_103 (ok_isPlace5 j hj 172 _) rfl rfl rfl (Nat.le_of_ble_eq_true rfl) ⟨(Nat.le_of_ble_eq_true rfl), (Nat.le_of_ble_eq_true rfl)⟩ ⟨rfl, rfl⟩ ⟨Nat.zero_le _, Nat.zero_le _⟩ ?_
  refine z_bif_ne (tgt := 32) E dX5_bound_26 (by decide) (fun h26 => ?_) (fun h26 => ?_)
  case refine_2 => exact hbad (fun v => h26 v.2.2.2)
  have hv : iL k ∧ iL o ∧ iP n ∧ iP j := ⟨h4, h11, h18, h26⟩
  obtain ⟨k, rfl⟩ := nat_of h4.1
  obtain ⟨o, rfl⟩ := nat_of h11.1
  obtain ⟨n, rfl⟩ := nat_of h18.1
  obtain ⟨j, rfl⟩ := nat_of h26.1
  have hk4 : k < 4 := by omega
  have ho4 : o < 4 := by omega
  have hn10 : n < 10 := by omega
  have v1 := (hX.2.1.2.1 k hk4).1
  have r1 := (hX.2.2.2.1 k hk4).1
  have v2 := (hX.2.1.2.1 o ho4).1
  have r2 := (hX.2.2.2.1 o ho4).1
  have hnot : (σ (8 + k) 0 = 0 ∨ σ (8 + o) 0 = 0) → Zc X 56 [some (.ref 0), some (.int (iI (k : Int))), some (.int (iI (o : Int))), some (.int (iI (n : Int))), some (.int (iI (j : Int)))] [] 172 (mA A) 0 0 := by
    intro hl
    refine z_bipush E (by decide) dX5_bound_56 ?_
    exact z_iret E F dX5_bound_58 (fin hop ((if_pos hv).trans (if_pos hl)) (xp_same hX))
  refine z_aload_n E dX5_bound_32 rfl ?_
  refine z_get E dX5_bound_33 (by rfl) flX5_17 (by rfl) ?_
  refine z_iload_n E dX5_bound_36 rfl ?_
  refine a_aald (j := k) E dX5_bound_37 rfl (by omega) (by omega) (by omega) (by omega) ?_
  refine z_get E dX5_bound_38 (cel_lad hk4 _) flX5_168 (by rfl) ?_
  rw [v1]
  refine z_if_eq (tgt := 56) E (by omega) dX5_bound_41 (by decide) (fun h41 => ?_) (fun h41 => ?_)
  · exact hnot (Or.inl h41)
  refine z_aload_n E dX5_bound_44 rfl ?_
  refine z_get E dX5_bound_45 (by rfl) flX5_17 (by rfl) ?_
  refine z_iload_n E dX5_bound_48 rfl ?_
  refine a_aald (j := o) E dX5_bound_49 rfl (by omega) (by omega) (by omega) (by omega) ?_
  refine z_get E dX5_bound_50 (cel_lad ho4 _) flX5_168 (by rfl) ?_
  rw [v2]
  refine z_if_ne (tgt := 59) E (by omega) dX5_bound_53 (by decide) (fun h53 => ?_) (fun h53 => ?_)
  case refine_2 => exact hnot (Or.inr h53)
  refine z_aload_n E dX5_bound_59 rfl ?_
  refine z_get E dX5_bound_60 (by rfl) flX5_24 (by rfl) ?_
  refine z_aload_n E dX5_bound_63 rfl ?_
  refine z_get E dX5_bound_64 (by rfl) flX5_17 (by rfl) ?_
  refine z_iload_n E dX5_bound_67 rfl ?_
  refine a_aald (j := k) E dX5_bound_68 rfl (by omega) (by omega) (by omega) (by omega) ?_
  refine z_get E dX5_bound_69 (cel_lad hk4 _) flX5_171 (by rfl) ?_
  refine z_iload_n E dX5_bound_72 rfl ?_
  refine a_aald (j := n) E dX5_bound_73 (cel_steps hk4 _) (by omega) (by omega) (by omega) (by omega) ?_
  refine z_aload_n E dX5_bound_74 rfl ?_
  refine z_get E dX5_bound_75 (by rfl) flX5_17 (by rfl) ?_
  refine z_iload_n E dX5_bound_78 rfl ?_
  refine a_aald (j := o) E dX5_bound_79 rfl (by omega) (by omega) (by omega) (by omega) ?_
  refine z_iload E dX5_bound_80 rfl ?_
  refine c_VQ E dX5_bound_82 lkX5_182 (ok_toldIn ho4 (ser_step hk4 hn10) A (hX.rowok hk4 hn10) (fun m hm => hX.rowok ho4 hm) j (by omega) 172) (by rfl) rfl rfl rfl (Nat.le_of_ble_eq_true rfl) ⟨(Nat.le_of_ble_eq_true rfl), (Nat.le_of_ble_eq_true rfl)⟩ ⟨rfl, rfl⟩ ⟨Nat.zero_le _, Nat.zero_le _⟩ (fun g1 hg1 => ?_)
  obtain ⟨R2, rfl⟩ := hg1
  rw [tiH_congr (hX.row hk4 hn10) (S' := stp σ o) (fun m i hm hi => hX.row ho4 hm i hi)]
  exact z_iret E F dX5_bound_85 (fin hop ((if_pos hv).trans (if_neg (by show ¬ (σ (8 + k) 0 = 0 ∨ σ (8 + o) 0 = 0); omega))) (xp_to (hX.ups (by omega)) (hi_up (by omega))))
set_option maxRecDepth 100000 in
theorem x_count {A : Nat → Nat → Int} {σ : St} (hX : XI A σ) (w : Int) (hw : inR w) : OkI mX5_count [.ref 0, .int (iI w)] 172 (mA A) (.int (iI (opCount σ w))) (XP A σ) := by
  refine OkM.of [some (.ref 0), some (.int (iI w))] (by decide +kernel) rfl (Nat.le_of_ble_eq_true rfl) ?_
  intro X E F
  refine z_iload_n E dX5_count_0 rfl ?_
  by_cases h0 : w = 0
  · refine z_tswIn (j := 0) (tgt := 28) E dX5_count_1 h0 hw (by omega) rfl (by decide) ?_
    refine z_aload_n E dX5_count_28 rfl ?_
    refine c_V E dX5_count_29 lkX5_212 (ok_sheetsKept hX 172) (by rfl) rfl rfl rfl (Nat.le_of_ble_eq_true rfl) ⟨(Nat.le_of_ble_eq_true rfl), (Nat.le_of_ble_eq_true rfl)⟩ ⟨rfl, rfl⟩ ⟨Nat.zero_le _, Nat.zero_le _⟩ ?_
    exact z_iret E F dX5_count_32 ⟨by rw [opCount, if_pos h0], xp_same hX⟩
  by_cases h1 : w = 1
  · refine z_tswIn (j := 1) (tgt := 33) E dX5_count_1 h1 hw (by omega) rfl (by decide) ?_
    refine z_aload_n E dX5_count_33 rfl ?_
    refine c_V E dX5_count_34 lkX5_215 (ok_laddersStanding hX 172) (by rfl) rfl rfl rfl (Nat.le_of_ble_eq_true rfl) ⟨(Nat.le_of_ble_eq_true rfl), (Nat.le_of_ble_eq_true rfl)⟩ ⟨rfl, rfl⟩ ⟨Nat.zero_le _, Nat.zero_le _⟩ ?_
    exact z_iret E F dX5_count_37 ⟨by rw [opCount, if_neg h0, if_pos h1], xp_same hX⟩
  by_cases h2 : w = 2
  · refine z_tswIn (j := 2) (tgt := 38) E dX5_count_1 h2 hw (by omega) rfl (by decide) ?_
    refine z_aload_n E dX5_count_38 rfl ?_
    refine z_get E dX5_count_39 (by rfl) flX5_50 (by rfl) ?_
    rw [hX.2.1.2.2]
    exact z_iret E F dX5_count_42 ⟨by rw [opCount, if_neg h0, if_neg h1, if_pos h2], xp_same hX⟩
  · refine z_tswOut (tgt := 43) E dX5_count_1 hw (by omega) (by decide) ?_
    refine z_bipush E (by decide) dX5_count_43 ?_
    exact z_iret E F dX5_count_45 ⟨by rw [opCount, if_neg h0, if_neg h1, if_neg h2], xp_same hX⟩
set_option maxRecDepth 100000 in
theorem x_digest {A : Nat → Nat → Int} {σ : St} (hX : XI A σ) : OkI mX5_digest [.ref 0] 172 (mA A) (.long (lI (opDigest σ))) (XP A σ) := by
  have c1 := ctS_in hX.2.2 8 (by omega)
  have c2 := ctL_in hX.2.2 4 (by omega)
  refine OkM.of [some (.ref 0), none, none, none] (by decide +kernel) rfl (Nat.le_of_ble_eq_true rfl) ?_
  intro X E F
  refine z_ldc2 (z := 17) E ctX5_218 (by decide) dX5_digest_0 ?_
  refine z_lstore_n (ls' := [_, _, _, _]) E rfl dX5_digest_3 (Nat.le_of_ble_eq_true rfl) rfl ?_
  refine z_ldc2 (z := 31) E ctX5_220 (by decide) dX5_digest_4 ?_
  refine z_lload_n E dX5_digest_7 rfl ?_
  refine z_lmul E dX5_digest_8 ?_
  refine z_aload_n E dX5_digest_9 rfl ?_
  refine c_V E dX5_digest_10 lkX5_212 (ok_sheetsKept hX 172) (by rfl) rfl rfl rfl (Nat.le_of_ble_eq_true rfl) ⟨(Nat.le_of_ble_eq_true rfl), (Nat.le_of_ble_eq_true rfl)⟩ ⟨rfl, rfl⟩ ⟨Nat.zero_le _, Nat.zero_le _⟩ ?_
  refine z_i2l E (by omega) dX5_digest_13 ?_
  refine z_ladd E dX5_digest_14 ?_
  refine z_lstore_n (ls' := [_, _, _, _]) E rfl dX5_digest_15 (Nat.le_of_ble_eq_true rfl) rfl ?_
  refine z_ldc2 (z := 31) E ctX5_220 (by decide) dX5_digest_16 ?_
  refine z_lload_n E dX5_digest_19 rfl ?_
  refine z_lmul E dX5_digest_20 ?_
  refine z_aload_n E dX5_digest_21 rfl ?_
  refine c_V E dX5_digest_22 lkX5_215 (ok_laddersStanding hX 172) (by rfl) rfl rfl rfl (Nat.le_of_ble_eq_true rfl) ⟨(Nat.le_of_ble_eq_true rfl), (Nat.le_of_ble_eq_true rfl)⟩ ⟨rfl, rfl⟩ ⟨Nat.zero_le _, Nat.zero_le _⟩ ?_
  refine z_i2l E (by omega) dX5_digest_25 ?_
  refine z_ladd E dX5_digest_26 ?_
  refine z_lstore_n (ls' := [_, _, _, _]) E rfl dX5_digest_27 (Nat.le_of_ble_eq_true rfl) rfl ?_
  refine z_iconst E dX5_digest_28 ?_
  refine z_istore_n (ls' := [_, _, _, _]) E rfl dX5_digest_29 (Nat.le_of_ble_eq_true rfl) rfl ?_
  generalize hh : (31 * (31 * 17 + ctS σ 8) + ctL σ 4 : Int) = h0
  have hres : opDigest σ = dgL σ (dgS σ h0 8) 4 := by rw [← hh]; rfl
  have second : ∀ (m k : Nat), k + m = 4 → ∀ A' : Nat → Nat → Int, XI A' σ → Hi A A' → Zc X 72 [some (.ref 0), some (.long (lI (dgL σ (dgS σ h0 8) k))), none, some (.int (iI (k : Int)))] [] 172 (mA A') 0 0 := by
    intro m
    induction m with
    | zero =>
      intro k hk A' hX' hhi
      have hk2 : k = 4 := by omega
      subst hk2
      refine z_iload_n E dX5_digest_72 rfl ?_
      refine z_iconst E dX5_digest_73 ?_
      refine z_icmp_ge (tgt := 119) E (by omega) (by omega) dX5_digest_74 (by decide) (fun h74 => ?_) (fun h74 => ?_)
      · refine z_lload_n E dX5_digest_119 rfl ?_
        exact z_lret E F dX5_digest_120 ⟨by rw [hres], xp_to hX' hhi⟩
      · omega
    | succ m ih =>
      intro k hk A' hX' hhi
      have hk4 : k < 4 := by omega
      have v1 := (hX'.2.1.2.1 k hk4).1
      have r1 := (hX'.2.2.2.1 k hk4).1
      have h1 := ih (k + 1) (by omega) A' hX' hhi
      refine z_iload_n E dX5_digest_72 rfl ?_
      refine z_iconst E dX5_digest_73 ?_
      refine z_icmp_ge (tgt := 119) E (by omega) (by omega) dX5_digest_74 (by decide) (fun h74 => ?_) (fun h74 => ?_)
      · omega
      · refine z_aload_n E dX5_digest_77 rfl ?_
        refine z_get E dX5_digest_78 (by rfl) flX5_17 (by rfl) ?_
        refine z_iload_n E dX5_digest_81 rfl ?_
        refine a_aald (j := k) E dX5_digest_82 rfl (by omega) (by omega) (by omega) (by omega) ?_
        refine z_get E dX5_digest_83 (cel_lad hk4 _) flX5_168 (by rfl) ?_
        rw [v1]
        refine z_if_eq (tgt := 113) E (by omega) dX5_digest_86 (by decide) (fun h86 => ?_) (fun h86 => ?_)
        · refine z_iinc (ls' := [_, _, _, _]) E dX5_digest_113 rfl rfl ?_
          refine z_goto (tgt := 72) E dX5_digest_116 (by decide) ?_
          rw [ei]
          simp only [dgL] at h1
          rw [if_pos h86] at h1
          exact h1
        · refine z_aload_n E dX5_digest_89 rfl ?_
          refine z_get E dX5_digest_90 (by rfl) flX5_17 (by rfl) ?_
          refine z_iload_n E dX5_digest_93 rfl ?_
          refine a_aald (j := k) E dX5_digest_94 rfl (by omega) (by omega) (by omega) (by omega) ?_
          refine z_get E dX5_digest_95 (cel_lad hk4 _) flX5_171 (by rfl) ?_
          refine z_bipush E (by decide) dX5_digest_98 ?_
          refine a_aald (j := 9) E dX5_digest_100 (cel_steps hk4 _) (by omega) (by omega) (by omega) (by omega) ?_
          refine z_ldc2 (z := 31) E ctX5_220 (by decide) dX5_digest_101 ?_
          refine z_lload_n E dX5_digest_104 rfl ?_
          refine z_lmul E dX5_digest_105 ?_
          refine z_iload_n E dX5_digest_106 rfl ?_
          refine z_i2l E (by omega) dX5_digest_107 ?_
          refine z_ladd E dX5_digest_108 ?_
          refine c_V E dX5_digest_109 lkX5_222 (ok_mixedInto (ser_step hk4 (by omega)) A' (hX'.rowok hk4 (by omega)) _ 172) (cel_ser (ser_step hk4 (by omega)) _) rfl rfl rfl (Nat.le_of_ble_eq_true rfl) ⟨(Nat.le_of_ble_eq_true rfl), (Nat.le_of_ble_eq_true rfl)⟩ ⟨rfl, rfl⟩ ⟨Nat.zero_le _, Nat.zero_le _⟩ ?_
          rw [mx_congr (hX'.row (n := 9) hk4 (by omega)) _ 10 (by omega)]
          refine z_lstore_n (ls' := [_, _, _, _]) E rfl dX5_digest_112 (Nat.le_of_ble_eq_true rfl) rfl ?_
          refine z_iinc (ls' := [_, _, _, _]) E dX5_digest_113 rfl rfl ?_
          refine z_goto (tgt := 72) E dX5_digest_116 (by decide) ?_
          rw [ei]
          simp only [dgL] at h1
          rw [if_neg h86] at h1
          exact h1
  have loop : ∀ (m s : Nat), s + m = 8 → ∀ A' : Nat → Nat → Int, XI A' σ → Hi A A' → Zc X 30 [some (.ref 0), some (.long (lI (dgS σ h0 s))), none, some (.int (iI (s : Int)))] [] 172 (mA A') 0 0 := by
    intro m
    induction m with
    | zero =>
      intro s hs A' hX' hhi
      have hs2 : s = 8 := by omega
      subst hs2
      refine z_iload_n E dX5_digest_30 rfl ?_
      refine z_bipush E (by decide) dX5_digest_31 ?_
      refine z_icmp_ge (tgt := 70) E (by omega) (by omega) dX5_digest_33 (by decide) (fun h33 => ?_) (fun h33 => ?_)
      · refine z_iconst E dX5_digest_70 ?_
        refine z_istore_n (ls' := [_, _, _, _]) E rfl dX5_digest_71 (Nat.le_of_ble_eq_true rfl) rfl ?_
        exact second 4 0 (by omega) A' hX' hhi
      · omega
    | succ m ih =>
      intro s hs A' hX' hhi
      have hs8 : s < 8 := by omega
      refine z_iload_n E dX5_digest_30 rfl ?_
      refine z_bipush E (by decide) dX5_digest_31 ?_
      refine z_icmp_ge (tgt := 70) E (by omega) (by omega) dX5_digest_33 (by decide) (fun h33 => ?_) (fun h33 => ?_)
      · omega
      · rcases (hX.2.2.1 s hs8).1 with ls | ls
        · have h1 := ih (s + 1) (by omega) A' hX' hhi
          refine z_aload_n E dX5_digest_36 rfl ?_
          refine z_iload_n E dX5_digest_37 rfl ?_
          refine z_aload_n E dX5_digest_38 rfl ?_
          refine z_get E dX5_digest_39 (by rfl) flX5_31 (by rfl) ?_
          refine c_V E dX5_digest_42 lkX5_117 (ok_reads0 (o := 40) hs8 hX' ls 172) (by rfl) rfl rfl rfl (Nat.le_of_ble_eq_true rfl) ⟨(Nat.le_of_ble_eq_true rfl), (Nat.le_of_ble_eq_true rfl)⟩ ⟨rfl, rfl⟩ ⟨Nat.zero_le _, Nat.zero_le _⟩ ?_
          refine z_if_eq (tgt := 64) E (by omega) dX5_digest_45 (by decide) (fun h45 => ?_) (fun hq => False.elim (by omega))
          refine z_iinc (ls' := [_, _, _, _]) E dX5_digest_64 rfl rfl ?_
          refine z_goto (tgt := 30) E dX5_digest_67 (by decide) ?_
          rw [ei]
          simp only [dgS] at h1
          rw [if_pos ls] at h1
          exact h1
        · have h1 := ih (s + 1) (by omega) (va_up A' (40 + 1) (srS σ s)) (hX'.ups (by omega)) (hi_tr hhi (hi_up (by omega)))
          refine z_aload_n E dX5_digest_36 rfl ?_
          refine z_iload_n E dX5_digest_37 rfl ?_
          refine z_aload_n E dX5_digest_38 rfl ?_
          refine z_get E dX5_digest_39 (by rfl) flX5_31 (by rfl) ?_
          refine c_V E dX5_digest_42 lkX5_117 (ok_reads1 hs8 s40 (by omega) hX' ls 172) (by rfl) rfl rfl rfl (Nat.le_of_ble_eq_true rfl) ⟨(Nat.le_of_ble_eq_true rfl), (Nat.le_of_ble_eq_true rfl)⟩ ⟨rfl, rfl⟩ ⟨Nat.zero_le _, Nat.zero_le _⟩ ?_
          refine z_if_eq (tgt := 64) E (by omega) dX5_digest_45 (by decide) (fun hq => False.elim (by omega)) (fun h45 => ?_)
          refine z_aload_n E dX5_digest_48 rfl ?_
          refine z_get E dX5_digest_49 (by rfl) flX5_31 (by rfl) ?_
          refine z_ldc2 (z := 31) E ctX5_220 (by decide) dX5_digest_52 ?_
          refine z_lload_n E dX5_digest_55 rfl ?_
          refine z_lmul E dX5_digest_56 ?_
          refine z_iload_n E dX5_digest_57 rfl ?_
          refine z_i2l E (by omega) dX5_digest_58 ?_
          refine z_ladd E dX5_digest_59 ?_
          refine c_V E dX5_digest_60 lkX5_222 (ok_mixedInto s40 _ (by rw [va_up_self]; exact srS_rok σ s) _ 172) (by rfl) rfl rfl rfl (Nat.le_of_ble_eq_true rfl) ⟨(Nat.le_of_ble_eq_true rfl), (Nat.le_of_ble_eq_true rfl)⟩ ⟨rfl, rfl⟩ ⟨Nat.zero_le _, Nat.zero_le _⟩ ?_
          rw [va_up_self]
          refine z_lstore_n (ls' := [_, _, _, _]) E rfl dX5_digest_63 (Nat.le_of_ble_eq_true rfl) rfl ?_
          refine z_iinc (ls' := [_, _, _, _]) E dX5_digest_64 rfl rfl ?_
          refine z_goto (tgt := 30) E dX5_digest_67 (by decide) ?_
          rw [ei]
          simp only [dgS] at h1
          rw [if_neg (by omega)] at h1
          exact h1
  exact loop 8 0 (by omega) A hX (fun _ _ => rfl)
