/-! the landed calls on series -/
theorem addS_rok (a b : Nat → Int) : rok (addS a b) := fun j _ => by unfold addS; omega
theorem subS_rok (a b : Nat → Int) : rok (subS a b) := fun j _ => by unfold subS; omega
theorem opS_rok (a b : Nat → Int) : rok (opS a b) := fun j _ => opS_in a b j
set_option maxRecDepth 100000 in
theorem x_value {A : Nat → Nat → Int} {σ : St} (hX : XI A σ) (s x : Int) (hs : inR s) (hx : inR x) : OkI mX5_value [.ref 0, .int (iI s), .int (iI x)] 172 (mA A) (.int (iI (opValue σ s x).1)) (XP A (opValue σ s x).2) := by
  generalize hop : opValue σ s x = R
  refine OkM.of [some (.ref 0), some (.int (iI s)), some (.int (iI x))] (by decide +kernel) rfl (Nat.le_of_ble_eq_true rfl) ?_
  intro X E F
  refine z_iload_n E dX5_value_0 rfl ?_
  refine c_S E dX5_value_1 lkX5_56 (ok_isSheet5 s hs 172 _) rfl rfl rfl (Nat.le_of_ble_eq_true rfl) ⟨(Nat.le_of_ble_eq_true rfl), (Nat.le_of_ble_eq_true rfl)⟩ ⟨rfl, rfl⟩ ⟨Nat.zero_le _, Nat.zero_le _⟩ ?_
  refine z_bif_ne (tgt := 10) E dX5_value_4 (by decide) (fun h4 => ?_) (fun h4 => ?_)
  · have hv : iS s := h4
    obtain ⟨s, rfl⟩ := nat_of h4.1
    have hs8 : s < 8 := by omega
    have hnull : (σ s 0 = 0) → ∀ A2, XI A2 σ → Hi A A2 → Zc X 22 [some (.ref 0), some (.int (iI (s : Int))), some (.int (iI x))] [] 172 (mA A2) 0 0 := by
      intro hl A2 hX2 hh
      refine z_aload_n E dX5_value_22 rfl ?_
      refine z_iconst E dX5_value_23 ?_
      refine c_VQ E dX5_value_24 lkX5_63 (ok_found hX2 1 (by omega) 172) (by rfl) rfl rfl rfl (Nat.le_of_ble_eq_true rfl) ⟨(Nat.le_of_ble_eq_true rfl), (Nat.le_of_ble_eq_true rfl)⟩ ⟨rfl, rfl⟩ ⟨Nat.zero_le _, Nat.zero_le _⟩ (fun g1 hg1 => ?_)
      exact z_iret E F dX5_value_27 (fin hop ((if_pos hv).trans (if_pos hl)) (xp_tr hh hg1))
    rcases (hX.2.2.1 s hs8).1 with ls | ls
    · refine z_aload_n E dX5_value_10 rfl ?_
      refine z_iload_n E dX5_value_11 rfl ?_
      refine z_aload_n E dX5_value_12 rfl ?_
      refine z_get E dX5_value_13 (by rfl) flX5_31 (by rfl) ?_
      refine c_V E dX5_value_16 lkX5_117 (ok_reads0 (o := 40) hs8 hX ls 172) (by rfl) rfl rfl rfl (Nat.le_of_ble_eq_true rfl) ⟨(Nat.le_of_ble_eq_true rfl), (Nat.le_of_ble_eq_true rfl)⟩ ⟨rfl, rfl⟩ ⟨Nat.zero_le _, Nat.zero_le _⟩ ?_
      refine z_if_ne (tgt := 28) E (by omega) dX5_value_19 (by decide) (fun hq => False.elim (by omega)) (fun h19 => ?_)
      exact hnull ls A hX (fun _ _ => rfl)
    refine z_aload_n E dX5_value_10 rfl ?_
    refine z_iload_n E dX5_value_11 rfl ?_
    refine z_aload_n E dX5_value_12 rfl ?_
    refine z_get E dX5_value_13 (by rfl) flX5_31 (by rfl) ?_
    refine c_V E dX5_value_16 lkX5_117 (ok_reads1 hs8 s40 (by omega) hX ls 172) (by rfl) rfl rfl rfl (Nat.le_of_ble_eq_true rfl) ⟨(Nat.le_of_ble_eq_true rfl), (Nat.le_of_ble_eq_true rfl)⟩ ⟨rfl, rfl⟩ ⟨Nat.zero_le _, Nat.zero_le _⟩ ?_
    refine z_if_ne (tgt := 28) E (by omega) dX5_value_19 (by decide) (fun h19 => ?_) (fun hq => False.elim (by omega))
    refine z_aload_n E dX5_value_28 rfl ?_
    refine z_get E dX5_value_29 (by rfl) flX5_31 (by rfl) ?_
    refine z_iload_n E dX5_value_32 rfl ?_
    refine c_V E dX5_value_33 lkX5_154 (ok_valueAt s40 _ (by rw [va_up_self]; exact srS_rok σ s) x hx 172) (by rfl) rfl rfl rfl (Nat.le_of_ble_eq_true rfl) ⟨(Nat.le_of_ble_eq_true rfl), (Nat.le_of_ble_eq_true rfl)⟩ ⟨rfl, rfl⟩ ⟨Nat.zero_le _, Nat.zero_le _⟩ ?_
    rw [va_up_self]
    exact z_iret E F dX5_value_36 (fin hop ((if_pos hv).trans (if_neg (by show ¬ σ s 0 = 0; omega))) (xp_to (hX.ups (by omega)) (hi_up (by omega))))
  · refine z_bipush E (by decide) dX5_value_7 ?_
    exact z_iret E F dX5_value_9 (fin hop (if_neg h4) (xp_same hX))
set_option maxRecDepth 100000 in
theorem x_kind {A : Nat → Nat → Int} {σ : St} (hX : XI A σ) (s kd a : Int) (hs : inR s) (hk : inR kd) (ha : inR a) : OkI mX5_kind [.ref 0, .int (iI s), .int (iI kd), .int (iI a)] 172 (mA A) (.int (iI (opKind σ s kd a).1)) (XP A (opKind σ s kd a).2) := by
  generalize hop : opKind σ s kd a = R
  refine OkM.of [some (.ref 0), some (.int (iI s)), some (.int (iI kd)), some (.int (iI a))] (by decide +kernel) rfl (Nat.le_of_ble_eq_true rfl) ?_
  intro X E F
  have hbad : ¬ (iS s ∧ (0 ≤ kd ∧ kd < 8) ∧ (0 ≤ a ∧ a < 10007)) → Zc X 28 [some (.ref 0), some (.int (iI s)), some (.int (iI kd)), some (.int (iI a))] [] 172 (mA A) 0 0 := by
    intro hv
    refine z_bipush E (by decide) dX5_kind_28 ?_
    exact z_iret E F dX5_kind_30 (fin hop (if_neg hv) (xp_same hX))
  refine z_iload_n E dX5_kind_0 rfl ?_
  refine c_S E dX5_kind_1 lkX5_56 (ok_isSheet5 s hs 172 _) rfl rfl rfl (Nat.le_of_ble_eq_true rfl) ⟨(Nat.le_of_ble_eq_true rfl), (Nat.le_of_ble_eq_true rfl)⟩ ⟨rfl, rfl⟩ ⟨Nat.zero_le _, Nat.zero_le _⟩ ?_
  refine z_bif_eq (tgt := 28) E dX5_kind_4 (by decide) (fun h4 => ?_) (fun h4 => ?_)
  · exact hbad (fun v => h4 v.1)
  · refine z_iload_n E dX5_kind_7 rfl ?_
    refine z_if_lt (tgt := 28) E (by omega) dX5_kind_8 (by decide) (fun h8 => ?_) (fun h8 => ?_)
    · exact hbad (fun v => by omega)
    · refine z_iload_n E dX5_kind_11 rfl ?_
      refine z_bipush E (by decide) dX5_kind_12 ?_
      refine z_icmp_ge (tgt := 28) E (by omega) (by omega) dX5_kind_14 (by decide) (fun h14 => ?_) (fun h14 => ?_)
      · exact hbad (fun v => by omega)
      · refine z_iload_n E dX5_kind_17 rfl ?_
        refine z_if_lt (tgt := 28) E (by omega) dX5_kind_18 (by decide) (fun h18 => ?_) (fun h18 => ?_)
        · exact hbad (fun v => by omega)
        · refine z_iload_n E dX5_kind_21 rfl ?_
          refine z_sipush E (by decide) dX5_kind_22 ?_
          refine z_icmp_lt (tgt := 31) E (by omega) (by omega) dX5_kind_25 (by decide) (fun h25 => ?_) (fun h25 => ?_)
          · have hv : iS s ∧ (0 ≤ kd ∧ kd < 8) ∧ (0 ≤ a ∧ a < 10007) := ⟨h4, ⟨h8, h14⟩, h18, h25⟩
            obtain ⟨s, rfl⟩ := nat_of h4.1
            obtain ⟨kd, rfl⟩ := nat_of h8
            have hs8 : s < 8 := by omega
            have hkr : rok (kS kd a) := by
              rcases (show kd = 0 ∨ kd = 1 ∨ kd = 2 ∨ kd = 3 ∨ kd = 4 ∨ kd = 5 ∨ kd = 6 ∨ kd = 7 by omega) with rfl | rfl | rfl | rfl | rfl | rfl | rfl | rfl
              · exact up_rok (conS_rok (by omega)) (by omega)
              · exact fun j _ => by show 0 ≤ expS a j ∧ expS a j < 10007; unfold expS; omega
              · exact up_rok (fun j _ => by unfold expS; omega) (by omega)
              · exact fun j _ => pw_in a j
              · exact fun j hj => by
                  show 0 ≤ shu (expS a) j ∧ shu (expS a) j < 10007
                  unfold shu expS; split <;> omega
              · exact fun j hj => by
                  show 0 ≤ logS a j ∧ logS a j < 10007
                  unfold logS; split <;> omega
              · exact fun j hj => by
                  show 0 ≤ shu (pw (-a % 10007)) j ∧ shu (pw (-a % 10007)) j < 10007
                  unfold shu
                  split
                  · omega
                  · exact pw_in _ _
              · exact conS_rok (by omega)
            refine z_aload_n E dX5_kind_31 rfl ?_
            refine z_get E dX5_kind_32 (by rfl) flX5_24 (by rfl) ?_
            refine z_iload_n E dX5_kind_35 rfl ?_
            refine z_iload_n E dX5_kind_36 rfl ?_
            refine z_aload_n E dX5_kind_37 rfl ?_
            refine z_get E dX5_kind_38 (by rfl) flX5_44 (by rfl) ?_
            refine c_V0Q E dX5_kind_41 lkX5_109 (ok_ofKind s48 (by omega) A hX.1 kd (by omega) a ⟨h18, h25⟩ 172) (by rfl) rfl rfl rfl (Nat.le_of_ble_eq_true rfl) ⟨(Nat.le_of_ble_eq_true rfl), (Nat.le_of_ble_eq_true rfl)⟩ ⟨rfl, rfl⟩ ⟨Nat.zero_le _, Nat.zero_le _⟩ (fun g1 hg1 => ?_)
            obtain ⟨R2, rfl⟩ := hg1
            have hX1 : XI (va_up (va_up A 37 R2) (48 + 1) (kS kd a)) σ := (hX.ups (by omega)).ups (by omega)
            refine z_aload_n E dX5_kind_44 rfl ?_
            refine z_iload_n E dX5_kind_45 rfl ?_
            refine z_aload_n E dX5_kind_46 rfl ?_
            refine z_get E dX5_kind_47 (by rfl) flX5_44 (by rfl) ?_
            refine c_VQ E dX5_kind_50 lkX5_113 (ok_becomes hs8 s48 hX1 (kS kd a) (va_up_self _ _ _) hkr 172) (by rfl) rfl rfl rfl (Nat.le_of_ble_eq_true rfl) ⟨(Nat.le_of_ble_eq_true rfl), (Nat.le_of_ble_eq_true rfl)⟩ ⟨rfl, rfl⟩ ⟨Nat.zero_le _, Nat.zero_le _⟩ (fun g1 hg1 => ?_)
            obtain ⟨A3, rfl, hX3, hh3, -⟩ := hg1
            exact z_iret E F dX5_kind_53 (fin hop (if_pos hv) (xp_to hX3 (hi_tr (hi_tr (hi_up (by omega)) (hi_up (by omega))) hh3)))
          · exact hbad (fun v => by omega)
set_option maxRecDepth 100000 in
theorem x_over {A : Nat → Nat → Int} {σ : St} (hX : XI A σ) (s t u : Int) (hs : inR s) (ht : inR t) (hu : inR u) : OkI mX5_over [.ref 0, .int (iI s), .int (iI t), .int (iI u)] 172 (mA A) (.int (iI (opOver σ s t u).1)) (XP A (opOver σ s t u).2) := by
  generalize hop : opOver σ s t u = R
  refine OkM.of [some (.ref 0), some (.int (iI s)), some (.int (iI t)), some (.int (iI u))] (by decide +kernel) rfl (Nat.le_of_ble_eq_true rfl) ?_
  intro X E F
  have hbad : ¬ (iS s ∧ iS t ∧ iS u) → Zc X 21 [some (.ref 0), some (.int (iI s)), some (.int (iI t)), some (.int (iI u))] [] 172 (mA A) 0 0 := by
    intro hv
    refine z_bipush E (by decide) dX5_over_21 ?_
    exact z_iret E F dX5_over_23 (fin hop (if_neg hv) (xp_same hX))
  refine z_iload_n E dX5_over_0 rfl ?_
  refine c_S E dX5_over_1 lkX5_56 (ok_isSheet5 s hs 172 _) rfl rfl rfl (Nat.le_of_ble_eq_true rfl) ⟨(Nat.le_of_ble_eq_true rfl), (Nat.le_of_ble_eq_true rfl)⟩ ⟨rfl, rfl⟩ ⟨Nat.zero_le _, Nat.zero_le _⟩ ?_
  refine z_bif_eq (tgt := 21) E dX5_over_4 (by decide) (fun h4 => ?_) (fun h4 => ?_)
  · exact hbad (fun v => h4 v.1)
  refine z_iload_n E dX5_over_7 rfl ?_
  refine c_S E dX5_over_8 lkX5_56 (ok_isSheet5 t ht 172 _) rfl rfl rfl (Nat.le_of_ble_eq_true rfl) ⟨(Nat.le_of_ble_eq_true rfl), (Nat.le_of_ble_eq_true rfl)⟩ ⟨rfl, rfl⟩ ⟨Nat.zero_le _, Nat.zero_le _⟩ ?_
  refine z_bif_eq (tgt := 21) E dX5_over_11 (by decide) (fun h11 => ?_) (fun h11 => ?_)
  · exact hbad (fun v => h11 v.2.1)
  refine z_iload_n E dX5_over_14 rfl ?_
  refine c_S E dX5_over_15 lkX5_56 (ok_isSheet5 u hu 172 _) rfl rfl rfl (Nat.le_of_ble_eq_true rfl) ⟨(Nat.le_of_ble_eq_true rfl), (Nat.le_of_ble_eq_true rfl)⟩ ⟨rfl, rfl⟩ ⟨Nat.zero_le _, Nat.zero_le _⟩ ?_
  refine z_bif_ne (tgt := 24) E dX5_over_18 (by decide) (fun h18 => ?_) (fun h18 => ?_)
  case refine_2 => exact hbad (fun v => h18 v.2.2)
  have hv : iS s ∧ iS t ∧ iS u := ⟨h4, h11, h18⟩
  obtain ⟨s, rfl⟩ := nat_of h4.1
  obtain ⟨t, rfl⟩ := nat_of h11.1
  obtain ⟨u, rfl⟩ := nat_of h18.1
  have hs8 : s < 8 := by omega
  have ht8 : t < 8 := by omega
  have hu8 : u < 8 := by omega
  have hnull : (σ s 0 = 0 ∨ σ t 0 = 0) → ∀ A2, XI A2 σ → Hi A A2 → Zc X 48 [some (.ref 0), some (.int (iI (s : Int))), some (.int (iI (t : Int))), some (.int (iI (u : Int)))] [] 172 (mA A2) 0 0 := by
    intro hl A2 hX2 hh
    refine z_aload_n E dX5_over_48 rfl ?_
    refine z_iconst E dX5_over_49 ?_
    refine c_VQ E dX5_over_50 lkX5_63 (ok_found hX2 1 (by omega) 172) (by rfl) rfl rfl rfl (Nat.le_of_ble_eq_true rfl) ⟨(Nat.le_of_ble_eq_true rfl), (Nat.le_of_ble_eq_true rfl)⟩ ⟨rfl, rfl⟩ ⟨Nat.zero_le _, Nat.zero_le _⟩ (fun g1 hg1 => ?_)
    exact z_iret E F dX5_over_53 (fin hop ((if_pos hv).trans (if_pos hl)) (xp_tr hh hg1))
  rcases (hX.2.2.1 s hs8).1 with ls | ls
  · refine z_aload_n E dX5_over_24 rfl ?_
    refine z_iload_n E dX5_over_25 rfl ?_
    refine z_aload_n E dX5_over_26 rfl ?_
    refine z_get E dX5_over_27 (by rfl) flX5_31 (by rfl) ?_
    refine c_V E dX5_over_30 lkX5_117 (ok_reads0 (o := 40) hs8 hX ls 172) (by rfl) rfl rfl rfl (Nat.le_of_ble_eq_true rfl) ⟨(Nat.le_of_ble_eq_true rfl), (Nat.le_of_ble_eq_true rfl)⟩ ⟨rfl, rfl⟩ ⟨Nat.zero_le _, Nat.zero_le _⟩ ?_
    refine z_if_eq (tgt := 48) E (by omega) dX5_over_33 (by decide) (fun h33 => ?_) (fun hq => False.elim (by omega))
    exact hnull (Or.inl ls) A hX (fun _ _ => rfl)
  refine z_aload_n E dX5_over_24 rfl ?_
  refine z_iload_n E dX5_over_25 rfl ?_
  refine z_aload_n E dX5_over_26 rfl ?_
  refine z_get E dX5_over_27 (by rfl) flX5_31 (by rfl) ?_
  refine c_V E dX5_over_30 lkX5_117 (ok_reads1 hs8 s40 (by omega) hX ls 172) (by rfl) rfl rfl rfl (Nat.le_of_ble_eq_true rfl) ⟨(Nat.le_of_ble_eq_true rfl), (Nat.le_of_ble_eq_true rfl)⟩ ⟨rfl, rfl⟩ ⟨Nat.zero_le _, Nat.zero_le _⟩ ?_
  refine z_if_eq (tgt := 48) E (by omega) dX5_over_33 (by decide) (fun hq => False.elim (by omega)) (fun h33 => ?_)
  have hX1 : XI (va_up A (40 + 1) (srS σ s)) σ := hX.ups (by omega)
  rcases (hX.2.2.1 t ht8).1 with lt | lt
  · refine z_aload_n E dX5_over_36 rfl ?_
    refine z_iload_n E dX5_over_37 rfl ?_
    refine z_aload_n E dX5_over_38 rfl ?_
    refine z_get E dX5_over_39 (by rfl) flX5_35 (by rfl) ?_
    refine c_V E dX5_over_42 lkX5_117 (ok_reads0 (o := 42) ht8 hX1 lt 172) (by rfl) rfl rfl rfl (Nat.le_of_ble_eq_true rfl) ⟨(Nat.le_of_ble_eq_true rfl), (Nat.le_of_ble_eq_true rfl)⟩ ⟨rfl, rfl⟩ ⟨Nat.zero_le _, Nat.zero_le _⟩ ?_
    refine z_if_ne (tgt := 54) E (by omega) dX5_over_45 (by decide) (fun hq => False.elim (by omega)) (fun h45 => ?_)
    exact hnull (Or.inr lt) _ hX1 (hi_up (by omega))
  refine z_aload_n E dX5_over_36 rfl ?_
  refine z_iload_n E dX5_over_37 rfl ?_
  refine z_aload_n E dX5_over_38 rfl ?_
  refine z_get E dX5_over_39 (by rfl) flX5_35 (by rfl) ?_
  refine c_V E dX5_over_42 lkX5_117 (ok_reads1 ht8 s42 (by omega) hX1 lt 172) (by rfl) rfl rfl rfl (Nat.le_of_ble_eq_true rfl) ⟨(Nat.le_of_ble_eq_true rfl), (Nat.le_of_ble_eq_true rfl)⟩ ⟨rfl, rfl⟩ ⟨Nat.zero_le _, Nat.zero_le _⟩ ?_
  refine z_if_ne (tgt := 54) E (by omega) dX5_over_45 (by decide) (fun h45 => ?_) (fun hq => False.elim (by omega))
  have hX2 : XI (va_up (va_up A (40 + 1) (srS σ s)) (42 + 1) (srS σ t)) σ := hX1.ups (by omega)
  have hh2 : Hi A (va_up (va_up A (40 + 1) (srS σ s)) (42 + 1) (srS σ t)) := hi_tr (hi_up (by omega)) (hi_up (by omega))
  have e1 : va_up (va_up A (40 + 1) (srS σ s)) (42 + 1) (srS σ t) (40 + 1) = srS σ s := by rw [va_up_ne _ _ (by omega), va_up_self]
  have e2 : va_up (va_up A (40 + 1) (srS σ s)) (42 + 1) (srS σ t) (42 + 1) = srS σ t := va_up_self _ _ _
  generalize va_up (va_up A (40 + 1) (srS σ s)) (42 + 1) (srS σ t) = A2 at *
  have rs := srS_rok σ s
  have rt := srS_rok σ t
  rw [← e1] at rs
  rw [← e2] at rt
  have hnl : ¬ (σ s 0 = 0 ∨ σ t 0 = 0) := by omega
  refine z_aload_n E dX5_over_54 rfl ?_
  refine z_get E dX5_over_55 (by rfl) flX5_35 (by rfl) ?_
  refine c_V E dX5_over_58 lkX5_131 (ok_canDivide s42 A2 rt 172) (by rfl) rfl rfl rfl (Nat.le_of_ble_eq_true rfl) ⟨(Nat.le_of_ble_eq_true rfl), (Nat.le_of_ble_eq_true rfl)⟩ ⟨rfl, rfl⟩ ⟨Nat.zero_le _, Nat.zero_le _⟩ ?_
  rw [e2]
  have hc3 : (if srS σ t 0 ≠ 0 then (1 : Int) else 0) = b01 (srS σ t 0 ≠ 0) := by
    by_cases h : srS σ t 0 = 0
    · rw [if_neg (by omega), b01_f (by omega)]
    · rw [if_pos h, b01_t h]
  rw [hc3]
  refine z_bif_ne (tgt := 67) E dX5_over_61 (by decide) (fun h61 => ?_) (fun h61 => ?_)
  · refine z_aload_n E dX5_over_67 rfl ?_
    refine z_get E dX5_over_68 (by rfl) flX5_44 (by rfl) ?_
    refine z_aload_n E dX5_over_71 rfl ?_
    refine z_get E dX5_over_72 (by rfl) flX5_31 (by rfl) ?_
    refine z_aload_n E dX5_over_75 rfl ?_
    refine z_get E dX5_over_76 (by rfl) flX5_35 (by rfl) ?_
    refine c_V0 E dX5_over_79 lkX5_135 (ok_becomeQuotient s48 s40 s42 (by omega) (by omega) A2 rs rt 172) (by rfl) rfl rfl rfl (Nat.le_of_ble_eq_true rfl) ⟨(Nat.le_of_ble_eq_true rfl), (Nat.le_of_ble_eq_true rfl)⟩ ⟨rfl, rfl⟩ ⟨Nat.zero_le _, Nat.zero_le _⟩ ?_
    rw [e1, e2]
    have hX3 : XI (va_up A2 (48 + 1) (qS (srS σ s) (srS σ t))) σ := hX2.ups (by omega)
    refine z_aload_n E dX5_over_82 rfl ?_
    refine z_iload_n E dX5_over_83 rfl ?_
    refine z_aload_n E dX5_over_84 rfl ?_
    refine z_get E dX5_over_85 (by rfl) flX5_44 (by rfl) ?_
    refine c_VQ E dX5_over_88 lkX5_113 (ok_becomes hu8 s48 hX3 _ (va_up_self _ _ _) (qS_rok _ _) 172) (by rfl) rfl rfl rfl (Nat.le_of_ble_eq_true rfl) ⟨(Nat.le_of_ble_eq_true rfl), (Nat.le_of_ble_eq_true rfl)⟩ ⟨rfl, rfl⟩ ⟨Nat.zero_le _, Nat.zero_le _⟩ (fun g1 hg1 => ?_)
    obtain ⟨A4, rfl, hX4, hh4, -⟩ := hg1
    exact z_iret E F dX5_over_91 (fin hop ((if_pos hv).trans ((if_neg hnl).trans (if_pos h61))) (xp_to hX4 (hi_tr hh2 (hi_tr (hi_up (by omega)) hh4))))
  · refine z_bipush E (by decide) dX5_over_64 ?_
    exact z_iret E F dX5_over_66 (fin hop ((if_pos hv).trans ((if_neg hnl).trans (if_neg h61))) (xp_to hX2 hh2))
set_option maxRecDepth 100000 in
theorem x_into {A : Nat → Nat → Int} {σ : St} (hX : XI A σ) (s t u : Int) (hs : inR s) (ht : inR t) (hu : inR u) : OkI mX5_into [.ref 0, .int (iI s), .int (iI t), .int (iI u)] 172 (mA A) (.int (iI (opInto σ s t u).1)) (XP A (opInto σ s t u).2) := by
  generalize hop : opInto σ s t u = R
  refine OkM.of [some (.ref 0), some (.int (iI s)), some (.int (iI t)), some (.int (iI u))] (by decide +kernel) rfl (Nat.le_of_ble_eq_true rfl) ?_
  intro X E F
  have hbad : ¬ (iS s ∧ iS t ∧ iS u) → Zc X 21 [some (.ref 0), some (.int (iI s)), some (.int (iI t)), some (.int (iI u))] [] 172 (mA A) 0 0 := by
    intro hv
    refine z_bipush E (by decide) dX5_into_21 ?_
    exact z_iret E F dX5_into_23 (fin hop (if_neg hv) (xp_same hX))
  refine z_iload_n E dX5_into_0 rfl ?_
  refine c_S E dX5_into_1 lkX5_56 (ok_isSheet5 s hs 172 _) rfl rfl rfl (Nat.le_of_ble_eq_true rfl) ⟨(Nat.le_of_ble_eq_true rfl), (Nat.le_of_ble_eq_true rfl)⟩ ⟨rfl, rfl⟩ ⟨Nat.zero_le _, Nat.zero_le _⟩ ?_
  refine z_bif_eq (tgt := 21) E dX5_into_4 (by decide) (fun h4 => ?_) (fun h4 => ?_)
  · exact hbad (fun v => h4 v.1)
  refine z_iload_n E dX5_into_7 rfl ?_
  refine c_S E dX5_into_8 lkX5_56 (ok_isSheet5 t ht 172 _) rfl rfl rfl (Nat.le_of_ble_eq_true rfl) ⟨(Nat.le_of_ble_eq_true rfl), (Nat.le_of_ble_eq_true rfl)⟩ ⟨rfl, rfl⟩ ⟨Nat.zero_le _, Nat.zero_le _⟩ ?_
  refine z_bif_eq (tgt := 21) E dX5_into_11 (by decide) (fun h11 => ?_) (fun h11 => ?_)
  · exact hbad (fun v => h11 v.2.1)
  refine z_iload_n E dX5_into_14 rfl ?_
  refine c_S E dX5_into_15 lkX5_56 (ok_isSheet5 u hu 172 _) rfl rfl rfl (Nat.le_of_ble_eq_true rfl) ⟨(Nat.le_of_ble_eq_true rfl), (Nat.le_of_ble_eq_true rfl)⟩ ⟨rfl, rfl⟩ ⟨Nat.zero_le _, Nat.zero_le _⟩ ?_
  refine z_bif_ne (tgt := 24) E dX5_into_18 (by decide) (fun h18 => ?_) (fun h18 => ?_)
  case refine_2 => exact hbad (fun v => h18 v.2.2)
  have hv : iS s ∧ iS t ∧ iS u := ⟨h4, h11, h18⟩
  obtain ⟨s, rfl⟩ := nat_of h4.1
  obtain ⟨t, rfl⟩ := nat_of h11.1
  obtain ⟨u, rfl⟩ := nat_of h18.1
  have hs8 : s < 8 := by omega
  have ht8 : t < 8 := by omega
  have hu8 : u < 8 := by omega
  have hnull : (σ s 0 = 0 ∨ σ t 0 = 0) → ∀ A2, XI A2 σ → Hi A A2 → Zc X 48 [some (.ref 0), some (.int (iI (s : Int))), some (.int (iI (t : Int))), some (.int (iI (u : Int)))] [] 172 (mA A2) 0 0 := by
    intro hl A2 hX2 hh
    refine z_aload_n E dX5_into_48 rfl ?_
    refine z_iconst E dX5_into_49 ?_
    refine c_VQ E dX5_into_50 lkX5_63 (ok_found hX2 1 (by omega) 172) (by rfl) rfl rfl rfl (Nat.le_of_ble_eq_true rfl) ⟨(Nat.le_of_ble_eq_true rfl), (Nat.le_of_ble_eq_true rfl)⟩ ⟨rfl, rfl⟩ ⟨Nat.zero_le _, Nat.zero_le _⟩ (fun g1 hg1 => ?_)
    exact z_iret E F dX5_into_53 (fin hop ((if_pos hv).trans (if_pos hl)) (xp_tr hh hg1))
  rcases (hX.2.2.1 s hs8).1 with ls | ls
  · refine z_aload_n E dX5_into_24 rfl ?_
    refine z_iload_n E dX5_into_25 rfl ?_
    refine z_aload_n E dX5_into_26 rfl ?_
    refine z_get E dX5_into_27 (by rfl) flX5_31 (by rfl) ?_
    refine c_V E dX5_into_30 lkX5_117 (ok_reads0 (o := 40) hs8 hX ls 172) (by rfl) rfl rfl rfl (Nat.le_of_ble_eq_true rfl) ⟨(Nat.le_of_ble_eq_true rfl), (Nat.le_of_ble_eq_true rfl)⟩ ⟨rfl, rfl⟩ ⟨Nat.zero_le _, Nat.zero_le _⟩ ?_
    refine z_if_eq (tgt := 48) E (by omega) dX5_into_33 (by decide) (fun h33 => ?_) (fun hq => False.elim (by omega))
    exact hnull (Or.inl ls) A hX (fun _ _ => rfl)
  refine z_aload_n E dX5_into_24 rfl ?_
  refine z_iload_n E dX5_into_25 rfl ?_
  refine z_aload_n E dX5_into_26 rfl ?_
  refine z_get E dX5_into_27 (by rfl) flX5_31 (by rfl) ?_
  refine c_V E dX5_into_30 lkX5_117 (ok_reads1 hs8 s40 (by omega) hX ls 172) (by rfl) rfl rfl rfl (Nat.le_of_ble_eq_true rfl) ⟨(Nat.le_of_ble_eq_true rfl), (Nat.le_of_ble_eq_true rfl)⟩ ⟨rfl, rfl⟩ ⟨Nat.zero_le _, Nat.zero_le _⟩ ?_
  refine z_if_eq (tgt := 48) E (by omega) dX5_into_33 (by decide) (fun hq => False.elim (by omega)) (fun h33 => ?_)
  have hX1 : XI (va_up A (40 + 1) (srS σ s)) σ := hX.ups (by omega)
  rcases (hX.2.2.1 t ht8).1 with lt | lt
  · refine z_aload_n E dX5_into_36 rfl ?_
    refine z_iload_n E dX5_into_37 rfl ?_
    refine z_aload_n E dX5_into_38 rfl ?_
    refine z_get E dX5_into_39 (by rfl) flX5_35 (by rfl) ?_
    refine c_V E dX5_into_42 lkX5_117 (ok_reads0 (o := 42) ht8 hX1 lt 172) (by rfl) rfl rfl rfl (Nat.le_of_ble_eq_true rfl) ⟨(Nat.le_of_ble_eq_true rfl), (Nat.le_of_ble_eq_true rfl)⟩ ⟨rfl, rfl⟩ ⟨Nat.zero_le _, Nat.zero_le _⟩ ?_
    refine z_if_ne (tgt := 54) E (by omega) dX5_into_45 (by decide) (fun hq => False.elim (by omega)) (fun h45 => ?_)
    exact hnull (Or.inr lt) _ hX1 (hi_up (by omega))
  refine z_aload_n E dX5_into_36 rfl ?_
  refine z_iload_n E dX5_into_37 rfl ?_
  refine z_aload_n E dX5_into_38 rfl ?_
  refine z_get E dX5_into_39 (by rfl) flX5_35 (by rfl) ?_
  refine c_V E dX5_into_42 lkX5_117 (ok_reads1 ht8 s42 (by omega) hX1 lt 172) (by rfl) rfl rfl rfl (Nat.le_of_ble_eq_true rfl) ⟨(Nat.le_of_ble_eq_true rfl), (Nat.le_of_ble_eq_true rfl)⟩ ⟨rfl, rfl⟩ ⟨Nat.zero_le _, Nat.zero_le _⟩ ?_
  refine z_if_ne (tgt := 54) E (by omega) dX5_into_45 (by decide) (fun h45 => ?_) (fun hq => False.elim (by omega))
  have hX2 : XI (va_up (va_up A (40 + 1) (srS σ s)) (42 + 1) (srS σ t)) σ := hX1.ups (by omega)
  have hh2 : Hi A (va_up (va_up A (40 + 1) (srS σ s)) (42 + 1) (srS σ t)) := hi_tr (hi_up (by omega)) (hi_up (by omega))
  have e1 : va_up (va_up A (40 + 1) (srS σ s)) (42 + 1) (srS σ t) (40 + 1) = srS σ s := by rw [va_up_ne _ _ (by omega), va_up_self]
  have e2 : va_up (va_up A (40 + 1) (srS σ s)) (42 + 1) (srS σ t) (42 + 1) = srS σ t := va_up_self _ _ _
  generalize va_up (va_up A (40 + 1) (srS σ s)) (42 + 1) (srS σ t) = A2 at *
  have rs := srS_rok σ s
  have rt := srS_rok σ t
  rw [← e1] at rs
  rw [← e2] at rt
  have hnl : ¬ (σ s 0 = 0 ∨ σ t 0 = 0) := by omega
  refine z_aload_n E dX5_into_54 rfl ?_
  refine z_get E dX5_into_55 (by rfl) flX5_35 (by rfl) ?_
  refine c_V E dX5_into_58 lkX5_138 (ok_canBePutIn s42 A2 rt 172) (by rfl) rfl rfl rfl (Nat.le_of_ble_eq_true rfl) ⟨(Nat.le_of_ble_eq_true rfl), (Nat.le_of_ble_eq_true rfl)⟩ ⟨rfl, rfl⟩ ⟨Nat.zero_le _, Nat.zero_le _⟩ ?_
  rw [e2]
  have hc3 : (if srS σ t 0 = 0 then (1 : Int) else 0) = b01 (srS σ t 0 = 0) := by
    by_cases h : srS σ t 0 = 0
    · rw [if_pos h, b01_t h]
    · rw [if_neg h, b01_f h]
  rw [hc3]
  refine z_bif_ne (tgt := 67) E dX5_into_61 (by decide) (fun h61 => ?_) (fun h61 => ?_)
  · refine z_aload_n E dX5_into_67 rfl ?_
    refine z_get E dX5_into_68 (by rfl) flX5_44 (by rfl) ?_
    refine z_aload_n E dX5_into_71 rfl ?_
    refine z_get E dX5_into_72 (by rfl) flX5_31 (by rfl) ?_
    refine z_aload_n E dX5_into_75 rfl ?_
    refine z_get E dX5_into_76 (by rfl) flX5_35 (by rfl) ?_
    refine c_V0 E dX5_into_79 lkX5_141 (ok_becomeInto s48 s40 s42 (by omega) (by omega) A2 rs rt 172) (by rfl) rfl rfl rfl (Nat.le_of_ble_eq_true rfl) ⟨(Nat.le_of_ble_eq_true rfl), (Nat.le_of_ble_eq_true rfl)⟩ ⟨rfl, rfl⟩ ⟨Nat.zero_le _, Nat.zero_le _⟩ ?_
    rw [e1, e2]
    have hX3 : XI (va_up A2 (48 + 1) (hoS (srS σ s) (srS σ t) 9)) σ := hX2.ups (by omega)
    refine z_aload_n E dX5_into_82 rfl ?_
    refine z_iload_n E dX5_into_83 rfl ?_
    refine z_aload_n E dX5_into_84 rfl ?_
    refine z_get E dX5_into_85 (by rfl) flX5_44 (by rfl) ?_
    refine c_VQ E dX5_into_88 lkX5_113 (ok_becomes hu8 s48 hX3 _ (va_up_self _ _ _) (hoS_rok _ (srS_rok σ s) 9) 172) (by rfl) rfl rfl rfl (Nat.le_of_ble_eq_true rfl) ⟨(Nat.le_of_ble_eq_true rfl), (Nat.le_of_ble_eq_true rfl)⟩ ⟨rfl, rfl⟩ ⟨Nat.zero_le _, Nat.zero_le _⟩ (fun g1 hg1 => ?_)
    obtain ⟨A4, rfl, hX4, hh4, -⟩ := hg1
    exact z_iret E F dX5_into_91 (fin hop ((if_pos hv).trans ((if_neg hnl).trans (if_pos h61))) (xp_to hX4 (hi_tr hh2 (hi_tr (hi_up (by omega)) hh4))))
  · refine z_bipush E (by decide) dX5_into_64 ?_
    exact z_iret E F dX5_into_66 (fin hop ((if_pos hv).trans ((if_neg hnl).trans (if_neg h61))) (xp_to hX2 hh2))
set_option maxRecDepth 100000 in
theorem x_apply {A : Nat → Nat → Int} {σ : St} (hX : XI A σ) (s t u : Int) (hs : inR s) (ht : inR t) (hu : inR u) : OkI mX5_apply [.ref 0, .int (iI s), .int (iI t), .int (iI u)] 172 (mA A) (.int (iI (opApply σ s t u).1)) (XP A (opApply σ s t u).2) := by
  generalize hop : opApply σ s t u = R
  refine OkM.of [some (.ref 0), some (.int (iI s)), some (.int (iI t)), some (.int (iI u))] (by decide +kernel) rfl (Nat.le_of_ble_eq_true rfl) ?_
  intro X E F
  have hbad : ¬ (iS s ∧ iS t ∧ iS u) → Zc X 21 [some (.ref 0), some (.int (iI s)), some (.int (iI t)), some (.int (iI u))] [] 172 (mA A) 0 0 := by
    intro hv
    refine z_bipush E (by decide) dX5_apply_21 ?_
    exact z_iret E F dX5_apply_23 (fin hop (if_neg hv) (xp_same hX))
  refine z_iload_n E dX5_apply_0 rfl ?_
  refine c_S E dX5_apply_1 lkX5_56 (ok_isSheet5 s hs 172 _) rfl rfl rfl (Nat.le_of_ble_eq_true rfl) ⟨(Nat.le_of_ble_eq_true rfl), (Nat.le_of_ble_eq_true rfl)⟩ ⟨rfl, rfl⟩ ⟨Nat.zero_le _, Nat.zero_le _⟩ ?_
  refine z_bif_eq (tgt := 21) E dX5_apply_4 (by decide) (fun h4 => ?_) (fun h4 => ?_)
  · exact hbad (fun v => h4 v.1)
  refine z_iload_n E dX5_apply_7 rfl ?_
  refine c_S E dX5_apply_8 lkX5_56 (ok_isSheet5 t ht 172 _) rfl rfl rfl (Nat.le_of_ble_eq_true rfl) ⟨(Nat.le_of_ble_eq_true rfl), (Nat.le_of_ble_eq_true rfl)⟩ ⟨rfl, rfl⟩ ⟨Nat.zero_le _, Nat.zero_le _⟩ ?_
  refine z_bif_eq (tgt := 21) E dX5_apply_11 (by decide) (fun h11 => ?_) (fun h11 => ?_)
  · exact hbad (fun v => h11 v.2.1)
  refine z_iload_n E dX5_apply_14 rfl ?_
  refine c_S E dX5_apply_15 lkX5_56 (ok_isSheet5 u hu 172 _) rfl rfl rfl (Nat.le_of_ble_eq_true rfl) ⟨(Nat.le_of_ble_eq_true rfl), (Nat.le_of_ble_eq_true rfl)⟩ ⟨rfl, rfl⟩ ⟨Nat.zero_le _, Nat.zero_le _⟩ ?_
  refine z_bif_ne (tgt := 24) E dX5_apply_18 (by decide) (fun h18 => ?_) (fun h18 => ?_)
  case refine_2 => exact hbad (fun v => h18 v.2.2)
  have hv : iS s ∧ iS t ∧ iS u := ⟨h4, h11, h18⟩
  obtain ⟨s, rfl⟩ := nat_of h4.1
  obtain ⟨t, rfl⟩ := nat_of h11.1
  obtain ⟨u, rfl⟩ := nat_of h18.1
  have hs8 : s < 8 := by omega
  have ht8 : t < 8 := by omega
  have hu8 : u < 8 := by omega
  have hnull : (σ s 0 = 0 ∨ σ t 0 = 0) → ∀ A2, XI A2 σ → Hi A A2 → Zc X 48 [some (.ref 0), some (.int (iI (s : Int))), some (.int (iI (t : Int))), some (.int (iI (u : Int)))] [] 172 (mA A2) 0 0 := by
    intro hl A2 hX2 hh
    refine z_aload_n E dX5_apply_48 rfl ?_
    refine z_iconst E dX5_apply_49 ?_
    refine c_VQ E dX5_apply_50 lkX5_63 (ok_found hX2 1 (by omega) 172) (by rfl) rfl rfl rfl (Nat.le_of_ble_eq_true rfl) ⟨(Nat.le_of_ble_eq_true rfl), (Nat.le_of_ble_eq_true rfl)⟩ ⟨rfl, rfl⟩ ⟨Nat.zero_le _, Nat.zero_le _⟩ (fun g1 hg1 => ?_)
    exact z_iret E F dX5_apply_53 (fin hop ((if_pos hv).trans (if_pos hl)) (xp_tr hh hg1))
  rcases (hX.2.2.1 s hs8).1 with ls | ls
  · refine z_aload_n E dX5_apply_24 rfl ?_
    refine z_iload_n E dX5_apply_25 rfl ?_
    refine z_aload_n E dX5_apply_26 rfl ?_
    refine z_get E dX5_apply_27 (by rfl) flX5_31 (by rfl) ?_
    refine c_V E dX5_apply_30 lkX5_117 (ok_reads0 (o := 40) hs8 hX ls 172) (by rfl) rfl rfl rfl (Nat.le_of_ble_eq_true rfl) ⟨(Nat.le_of_ble_eq_true rfl), (Nat.le_of_ble_eq_true rfl)⟩ ⟨rfl, rfl⟩ ⟨Nat.zero_le _, Nat.zero_le _⟩ ?_
    refine z_if_eq (tgt := 48) E (by omega) dX5_apply_33 (by decide) (fun h33 => ?_) (fun hq => False.elim (by omega))
    exact hnull (Or.inl ls) A hX (fun _ _ => rfl)
  refine z_aload_n E dX5_apply_24 rfl ?_
  refine z_iload_n E dX5_apply_25 rfl ?_
  refine z_aload_n E dX5_apply_26 rfl ?_
  refine z_get E dX5_apply_27 (by rfl) flX5_31 (by rfl) ?_
  refine c_V E dX5_apply_30 lkX5_117 (ok_reads1 hs8 s40 (by omega) hX ls 172) (by rfl) rfl rfl rfl (Nat.le_of_ble_eq_true rfl) ⟨(Nat.le_of_ble_eq_true rfl), (Nat.le_of_ble_eq_true rfl)⟩ ⟨rfl, rfl⟩ ⟨Nat.zero_le _, Nat.zero_le _⟩ ?_
  refine z_if_eq (tgt := 48) E (by omega) dX5_apply_33 (by decide) (fun hq => False.elim (by omega)) (fun h33 => ?_)
  have hX1 : XI (va_up A (40 + 1) (srS σ s)) σ := hX.ups (by omega)
  rcases (hX.2.2.1 t ht8).1 with lt | lt
  · refine z_aload_n E dX5_apply_36 rfl ?_
    refine z_iload_n E dX5_apply_37 rfl ?_
    refine z_aload_n E dX5_apply_38 rfl ?_
    refine z_get E dX5_apply_39 (by rfl) flX5_35 (by rfl) ?_
    refine c_V E dX5_apply_42 lkX5_117 (ok_reads0 (o := 42) ht8 hX1 lt 172) (by rfl) rfl rfl rfl (Nat.le_of_ble_eq_true rfl) ⟨(Nat.le_of_ble_eq_true rfl), (Nat.le_of_ble_eq_true rfl)⟩ ⟨rfl, rfl⟩ ⟨Nat.zero_le _, Nat.zero_le _⟩ ?_
    refine z_if_ne (tgt := 54) E (by omega) dX5_apply_45 (by decide) (fun hq => False.elim (by omega)) (fun h45 => ?_)
    exact hnull (Or.inr lt) _ hX1 (hi_up (by omega))
  refine z_aload_n E dX5_apply_36 rfl ?_
  refine z_iload_n E dX5_apply_37 rfl ?_
  refine z_aload_n E dX5_apply_38 rfl ?_
  refine z_get E dX5_apply_39 (by rfl) flX5_35 (by rfl) ?_
  refine c_V E dX5_apply_42 lkX5_117 (ok_reads1 ht8 s42 (by omega) hX1 lt 172) (by rfl) rfl rfl rfl (Nat.le_of_ble_eq_true rfl) ⟨(Nat.le_of_ble_eq_true rfl), (Nat.le_of_ble_eq_true rfl)⟩ ⟨rfl, rfl⟩ ⟨Nat.zero_le _, Nat.zero_le _⟩ ?_
  refine z_if_ne (tgt := 54) E (by omega) dX5_apply_45 (by decide) (fun h45 => ?_) (fun hq => False.elim (by omega))
  have hX2 : XI (va_up (va_up A (40 + 1) (srS σ s)) (42 + 1) (srS σ t)) σ := hX1.ups (by omega)
  have hh2 : Hi A (va_up (va_up A (40 + 1) (srS σ s)) (42 + 1) (srS σ t)) := hi_tr (hi_up (by omega)) (hi_up (by omega))
  have e1 : va_up (va_up A (40 + 1) (srS σ s)) (42 + 1) (srS σ t) (40 + 1) = srS σ s := by rw [va_up_ne _ _ (by omega), va_up_self]
  have e2 : va_up (va_up A (40 + 1) (srS σ s)) (42 + 1) (srS σ t) (42 + 1) = srS σ t := va_up_self _ _ _
  generalize va_up (va_up A (40 + 1) (srS σ s)) (42 + 1) (srS σ t) = A2 at *
  have rs := srS_rok σ s
  have rt := srS_rok σ t
  rw [← e1] at rs
  rw [← e2] at rt
  have hnl : ¬ (σ s 0 = 0 ∨ σ t 0 = 0) := by omega
  refine z_aload_n E dX5_apply_54 rfl ?_
  refine z_get E dX5_apply_55 (by rfl) flX5_24 (by rfl) ?_
  refine z_aload_n E dX5_apply_58 rfl ?_
  refine z_get E dX5_apply_59 (by rfl) flX5_31 (by rfl) ?_
  refine z_aload_n E dX5_apply_62 rfl ?_
  refine z_get E dX5_apply_63 (by rfl) flX5_35 (by rfl) ?_
  refine z_aload_n E dX5_apply_66 rfl ?_
  refine z_get E dX5_apply_67 (by rfl) flX5_44 (by rfl) ?_
  refine c_V0 E dX5_apply_70 lkX5_157 (ok_operated s40 s42 s48 (by omega) (by omega) A2 hX2.1 (by omega) rs rt 172) (by rfl) rfl rfl rfl (Nat.le_of_ble_eq_true rfl) ⟨(Nat.le_of_ble_eq_true rfl), (Nat.le_of_ble_eq_true rfl)⟩ ⟨rfl, rfl⟩ ⟨Nat.zero_le _, Nat.zero_le _⟩ ?_
  rw [e1, e2]
  have hX3 : XI (va_up A2 (48 + 1) (opS (srS σ s) (srS σ t))) σ := hX2.ups (by omega)
  refine z_aload_n E dX5_apply_73 rfl ?_
  refine z_iload_n E dX5_apply_74 rfl ?_
  refine z_aload_n E dX5_apply_75 rfl ?_
  refine z_get E dX5_apply_76 (by rfl) flX5_44 (by rfl) ?_
  refine c_VQ E dX5_apply_79 lkX5_113 (ok_becomes hu8 s48 hX3 _ (va_up_self _ _ _) (opS_rok _ _) 172) (by rfl) rfl rfl rfl (Nat.le_of_ble_eq_true rfl) ⟨(Nat.le_of_ble_eq_true rfl), (Nat.le_of_ble_eq_true rfl)⟩ ⟨rfl, rfl⟩ ⟨Nat.zero_le _, Nat.zero_le _⟩ (fun g1 hg1 => ?_)
  obtain ⟨A4, rfl, hX4, hh4, -⟩ := hg1
  exact z_iret E F dX5_apply_82 (fin hop ((if_pos hv).trans (if_neg hnl)) (xp_to hX4 (hi_tr hh2 (hi_tr (hi_up (by omega)) hh4))))
set_option maxRecDepth 100000 in
theorem x_join {A : Nat → Nat → Int} {σ : St} (hX : XI A σ) (s t u w : Int) (hs : inR s) (ht : inR t) (hu : inR u) (hw : inR w) : OkI mX5_join [.ref 0, .int (iI s), .int (iI t), .int (iI u), .int (iI w)] 172 (mA A) (.int (iI (opJoin σ s t u w).1)) (XP A (opJoin σ s t u w).2) := by
  generalize hop : opJoin σ s t u w = R
  refine OkM.of [some (.ref 0), some (.int (iI s)), some (.int (iI t)), some (.int (iI u)), some (.int (iI w))] (by decide +kernel) rfl (Nat.le_of_ble_eq_true rfl) ?_
  intro X E F
  have hbad : ¬ (iS s ∧ iS t ∧ iS u ∧ (0 ≤ w ∧ w ≤ 2)) → Zc X 32 [some (.ref 0), some (.int (iI s)), some (.int (iI t)), some (.int (iI u)), some (.int (iI w))] [] 172 (mA A) 0 0 := by
    intro hv
    refine z_bipush E (by decide) dX5_join_32 ?_
    exact z_iret E F dX5_join_34 (fin hop (if_neg hv) (xp_same hX))
  refine z_iload_n E dX5_join_0 rfl ?_
  refine c_S E dX5_join_1 lkX5_56 (ok_isSheet5 s hs 172 _) rfl rfl rfl (Nat.le_of_ble_eq_true rfl) ⟨(Nat.le_of_ble_eq_true rfl), (Nat.le_of_ble_eq_true rfl)⟩ ⟨rfl, rfl⟩ ⟨Nat.zero_le _, Nat.zero_le _⟩ ?_
  refine z_bif_eq (tgt := 32) E dX5_join_4 (by decide) (fun h4 => ?_) (fun h4 => ?_)
  · exact hbad (fun v => h4 v.1)
  refine z_iload_n E dX5_join_7 rfl ?_
  refine c_S E dX5_join_8 lkX5_56 (ok_isSheet5 t ht 172 _) rfl rfl rfl (Nat.le_of_ble_eq_true rfl) ⟨(Nat.le_of_ble_eq_true rfl), (Nat.le_of_ble_eq_true rfl)⟩ ⟨rfl, rfl⟩ ⟨Nat.zero_le _, Nat.zero_le _⟩ ?_
  refine z_bif_eq (tgt := 32) E dX5_join_11 (by decide) (fun h11 => ?_) (fun h11 => ?_)
  · exact hbad (fun v => h11 v.2.1)
  refine z_iload_n E dX5_join_14 rfl ?_
  refine c_S E dX5_join_15 lkX5_56 (ok_isSheet5 u hu 172 _) rfl rfl rfl (Nat.le_of_ble_eq_true rfl) ⟨(Nat.le_of_ble_eq_true rfl), (Nat.le_of_ble_eq_true rfl)⟩ ⟨rfl, rfl⟩ ⟨Nat.zero_le _, Nat.zero_le _⟩ ?_
  refine z_bif_eq (tgt := 32) E dX5_join_18 (by decide) (fun h18 => ?_) (fun h18 => ?_)
  · exact hbad (fun v => h18 v.2.2.1)
  refine z_iload E dX5_join_21 rfl ?_
  refine z_if_lt (tgt := 32) E (by omega) dX5_join_23 (by decide) (fun h23 => ?_) (fun h23 => ?_)
  · exact hbad (fun v => by omega)
  refine z_iload E dX5_join_26 rfl ?_
  refine z_iconst E dX5_join_28 ?_
  refine z_icmp_le (tgt := 35) E (by omega) (by omega) dX5_join_29 (by decide) (fun h29 => ?_) (fun h29 => ?_)
  case refine_2 => exact hbad (fun v => by omega)
  have hv : iS s ∧ iS t ∧ iS u ∧ (0 ≤ w ∧ w ≤ 2) := ⟨h4, h11, h18, h23, h29⟩
  obtain ⟨s, rfl⟩ := nat_of h4.1
  obtain ⟨t, rfl⟩ := nat_of h11.1
  obtain ⟨u, rfl⟩ := nat_of h18.1
  have hs8 : s < 8 := by omega
  have ht8 : t < 8 := by omega
  have hu8 : u < 8 := by omega
  have hnull : (σ s 0 = 0 ∨ σ t 0 = 0) → ∀ A2, XI A2 σ → Hi A A2 → Zc X 59 [some (.ref 0), some (.int (iI (s : Int))), some (.int (iI (t : Int))), some (.int (iI (u : Int))), some (.int (iI w))] [] 172 (mA A2) 0 0 := by
    intro hl A2 hX2 hh
    refine z_aload_n E dX5_join_59 rfl ?_
    refine z_iconst E dX5_join_60 ?_
    refine c_VQ E dX5_join_61 lkX5_63 (ok_found hX2 1 (by omega) 172) (by rfl) rfl rfl rfl (Nat.le_of_ble_eq_true rfl) ⟨(Nat.le_of_ble_eq_true rfl), (Nat.le_of_ble_eq_true rfl)⟩ ⟨rfl, rfl⟩ ⟨Nat.zero_le _, Nat.zero_le _⟩ (fun g1 hg1 => ?_)
    exact z_iret E F dX5_join_64 (fin hop ((if_pos hv).trans (if_pos hl)) (xp_tr hh hg1))
  rcases (hX.2.2.1 s hs8).1 with ls | ls
  · refine z_aload_n E dX5_join_35 rfl ?_
    refine z_iload_n E dX5_join_36 rfl ?_
    refine z_aload_n E dX5_join_37 rfl ?_
    refine z_get E dX5_join_38 (by rfl) flX5_31 (by rfl) ?_
    refine c_V E dX5_join_41 lkX5_117 (ok_reads0 (o := 40) hs8 hX ls 172) (by rfl) rfl rfl rfl (Nat.le_of_ble_eq_true rfl) ⟨(Nat.le_of_ble_eq_true rfl), (Nat.le_of_ble_eq_true rfl)⟩ ⟨rfl, rfl⟩ ⟨Nat.zero_le _, Nat.zero_le _⟩ ?_
    refine z_if_eq (tgt := 59) E (by omega) dX5_join_44 (by decide) (fun h44 => ?_) (fun hq => False.elim (by omega))
    exact hnull (Or.inl ls) A hX (fun _ _ => rfl)
  refine z_aload_n E dX5_join_35 rfl ?_
  refine z_iload_n E dX5_join_36 rfl ?_
  refine z_aload_n E dX5_join_37 rfl ?_
  refine z_get E dX5_join_38 (by rfl) flX5_31 (by rfl) ?_
  refine c_V E dX5_join_41 lkX5_117 (ok_reads1 hs8 s40 (by omega) hX ls 172) (by rfl) rfl rfl rfl (Nat.le_of_ble_eq_true rfl) ⟨(Nat.le_of_ble_eq_true rfl), (Nat.le_of_ble_eq_true rfl)⟩ ⟨rfl, rfl⟩ ⟨Nat.zero_le _, Nat.zero_le _⟩ ?_
  refine z_if_eq (tgt := 59) E (by omega) dX5_join_44 (by decide) (fun hq => False.elim (by omega)) (fun h44 => ?_)
  have hX1 : XI (va_up A (40 + 1) (srS σ s)) σ := hX.ups (by omega)
  rcases (hX.2.2.1 t ht8).1 with lt | lt
  · refine z_aload_n E dX5_join_47 rfl ?_
    refine z_iload_n E dX5_join_48 rfl ?_
    refine z_aload_n E dX5_join_49 rfl ?_
    refine z_get E dX5_join_50 (by rfl) flX5_35 (by rfl) ?_
    refine c_V E dX5_join_53 lkX5_117 (ok_reads0 (o := 42) ht8 hX1 lt 172) (by rfl) rfl rfl rfl (Nat.le_of_ble_eq_true rfl) ⟨(Nat.le_of_ble_eq_true rfl), (Nat.le_of_ble_eq_true rfl)⟩ ⟨rfl, rfl⟩ ⟨Nat.zero_le _, Nat.zero_le _⟩ ?_
    refine z_if_ne (tgt := 65) E (by omega) dX5_join_56 (by decide) (fun hq => False.elim (by omega)) (fun h56 => ?_)
    exact hnull (Or.inr lt) _ hX1 (hi_up (by omega))
  refine z_aload_n E dX5_join_47 rfl ?_
  refine z_iload_n E dX5_join_48 rfl ?_
  refine z_aload_n E dX5_join_49 rfl ?_
  refine z_get E dX5_join_50 (by rfl) flX5_35 (by rfl) ?_
  refine c_V E dX5_join_53 lkX5_117 (ok_reads1 ht8 s42 (by omega) hX1 lt 172) (by rfl) rfl rfl rfl (Nat.le_of_ble_eq_true rfl) ⟨(Nat.le_of_ble_eq_true rfl), (Nat.le_of_ble_eq_true rfl)⟩ ⟨rfl, rfl⟩ ⟨Nat.zero_le _, Nat.zero_le _⟩ ?_
  refine z_if_ne (tgt := 65) E (by omega) dX5_join_56 (by decide) (fun h56 => ?_) (fun hq => False.elim (by omega))
  have hX2 : XI (va_up (va_up A (40 + 1) (srS σ s)) (42 + 1) (srS σ t)) σ := hX1.ups (by omega)
  have hh2 : Hi A (va_up (va_up A (40 + 1) (srS σ s)) (42 + 1) (srS σ t)) := hi_tr (hi_up (by omega)) (hi_up (by omega))
  have e1 : va_up (va_up A (40 + 1) (srS σ s)) (42 + 1) (srS σ t) (40 + 1) = srS σ s := by rw [va_up_ne _ _ (by omega), va_up_self]
  have e2 : va_up (va_up A (40 + 1) (srS σ s)) (42 + 1) (srS σ t) (42 + 1) = srS σ t := va_up_self _ _ _
  generalize va_up (va_up A (40 + 1) (srS σ s)) (42 + 1) (srS σ t) = A2 at *
  have rs := srS_rok σ s
  have rt := srS_rok σ t
  rw [← e1] at rs
  rw [← e2] at rt
  have hnl : ¬ (σ s 0 = 0 ∨ σ t 0 = 0) := by omega
  refine z_iload E dX5_join_65 rfl ?_
  refine z_if_ne (tgt := 88) E (by omega) dX5_join_67 (by decide) (fun h67 => ?_) (fun h67 => ?_)
  · refine z_iload E dX5_join_88 rfl ?_
    refine z_iconst E dX5_join_90 ?_
    refine z_icmp_ne (tgt := 112) E (by omega) (by omega) dX5_join_91 (by decide) (fun h91 => ?_) (fun h91 => ?_)
    · refine z_aload_n E dX5_join_112 rfl ?_
      refine z_get E dX5_join_113 (by rfl) flX5_44 (by rfl) ?_
      refine z_aload_n E dX5_join_116 rfl ?_
      refine z_get E dX5_join_117 (by rfl) flX5_31 (by rfl) ?_
      refine z_aload_n E dX5_join_120 rfl ?_
      refine z_get E dX5_join_121 (by rfl) flX5_35 (by rfl) ?_
      refine c_V0 E dX5_join_124 lkX5_128 (ok_becomeTimes s48 s40 s42 A2 rs rt 172) (by rfl) rfl rfl rfl (Nat.le_of_ble_eq_true rfl) ⟨(Nat.le_of_ble_eq_true rfl), (Nat.le_of_ble_eq_true rfl)⟩ ⟨rfl, rfl⟩ ⟨Nat.zero_le _, Nat.zero_le _⟩ ?_
      rw [e1, e2]
      have hX3 : XI (va_up A2 (48 + 1) (mulS (srS σ s) (srS σ t))) σ := hX2.ups (by omega)
      refine z_aload_n E dX5_join_127 rfl ?_
      refine z_iload_n E dX5_join_128 rfl ?_
      refine z_aload_n E dX5_join_129 rfl ?_
      refine z_get E dX5_join_130 (by rfl) flX5_44 (by rfl) ?_
      refine c_VQ E dX5_join_133 lkX5_113 (ok_becomes hu8 s48 hX3 _ (va_up_self _ _ _) (mulS_rok _ _) 172) (by rfl) rfl rfl rfl (Nat.le_of_ble_eq_true rfl) ⟨(Nat.le_of_ble_eq_true rfl), (Nat.le_of_ble_eq_true rfl)⟩ ⟨rfl, rfl⟩ ⟨Nat.zero_le _, Nat.zero_le _⟩ (fun g1 hg1 => ?_)
      obtain ⟨A4, rfl, hX4, hh4, -⟩ := hg1
      exact z_iret E F dX5_join_136 (fin hop ((if_pos hv).trans ((if_neg hnl).trans (congrArg (fun f : Nat → Int => (f 9, setSr σ u f)) (show jnS w (srS σ s) (srS σ t) = mulS (srS σ s) (srS σ t) from by unfold jnS; rw [if_neg h67, if_neg h91])))) (xp_to hX4 (hi_tr hh2 (hi_tr (hi_up (by omega)) hh4))))
    · refine z_aload_n E dX5_join_94 rfl ?_
      refine z_get E dX5_join_95 (by rfl) flX5_44 (by rfl) ?_
      refine z_aload_n E dX5_join_98 rfl ?_
      refine z_get E dX5_join_99 (by rfl) flX5_31 (by rfl) ?_
      refine z_aload_n E dX5_join_102 rfl ?_
      refine z_get E dX5_join_103 (by rfl) flX5_35 (by rfl) ?_
      refine c_V0 E dX5_join_106 lkX5_125 (ok_becomeRest s48 s40 s42 A2 rs rt 172) (by rfl) rfl rfl rfl (Nat.le_of_ble_eq_true rfl) ⟨(Nat.le_of_ble_eq_true rfl), (Nat.le_of_ble_eq_true rfl)⟩ ⟨rfl, rfl⟩ ⟨Nat.zero_le _, Nat.zero_le _⟩ ?_
      rw [e1, e2]
      refine z_goto (tgt := 127) E dX5_join_109 (by decide) ?_
      have hX3 : XI (va_up A2 (48 + 1) (subS (srS σ s) (srS σ t))) σ := hX2.ups (by omega)
      refine z_aload_n E dX5_join_127 rfl ?_
      refine z_iload_n E dX5_join_128 rfl ?_
      refine z_aload_n E dX5_join_129 rfl ?_
      refine z_get E dX5_join_130 (by rfl) flX5_44 (by rfl) ?_
      refine c_VQ E dX5_join_133 lkX5_113 (ok_becomes hu8 s48 hX3 _ (va_up_self _ _ _) (subS_rok _ _) 172) (by rfl) rfl rfl rfl (Nat.le_of_ble_eq_true rfl) ⟨(Nat.le_of_ble_eq_true rfl), (Nat.le_of_ble_eq_true rfl)⟩ ⟨rfl, rfl⟩ ⟨Nat.zero_le _, Nat.zero_le _⟩ (fun g1 hg1 => ?_)
      obtain ⟨A4, rfl, hX4, hh4, -⟩ := hg1
      exact z_iret E F dX5_join_136 (fin hop ((if_pos hv).trans ((if_neg hnl).trans (congrArg (fun f : Nat → Int => (f 9, setSr σ u f)) (show jnS w (srS σ s) (srS σ t) = subS (srS σ s) (srS σ t) from by unfold jnS; rw [if_neg h67, if_pos h91])))) (xp_to hX4 (hi_tr hh2 (hi_tr (hi_up (by omega)) hh4))))
  · refine z_aload_n E dX5_join_70 rfl ?_
    refine z_get E dX5_join_71 (by rfl) flX5_44 (by rfl) ?_
    refine z_aload_n E dX5_join_74 rfl ?_
    refine z_get E dX5_join_75 (by rfl) flX5_31 (by rfl) ?_
    refine z_aload_n E dX5_join_78 rfl ?_
    refine z_get E dX5_join_79 (by rfl) flX5_35 (by rfl) ?_
    refine c_V0 E dX5_join_82 lkX5_121 (ok_becomeTotal s48 s40 s42 A2 rs rt 172) (by rfl) rfl rfl rfl (Nat.le_of_ble_eq_true rfl) ⟨(Nat.le_of_ble_eq_true rfl), (Nat.le_of_ble_eq_true rfl)⟩ ⟨rfl, rfl⟩ ⟨Nat.zero_le _, Nat.zero_le _⟩ ?_
    rw [e1, e2]
    refine z_goto (tgt := 127) E dX5_join_85 (by decide) ?_
    have hX3 : XI (va_up A2 (48 + 1) (addS (srS σ s) (srS σ t))) σ := hX2.ups (by omega)
    refine z_aload_n E dX5_join_127 rfl ?_
    refine z_iload_n E dX5_join_128 rfl ?_
    refine z_aload_n E dX5_join_129 rfl ?_
    refine z_get E dX5_join_130 (by rfl) flX5_44 (by rfl) ?_
    refine c_VQ E dX5_join_133 lkX5_113 (ok_becomes hu8 s48 hX3 _ (va_up_self _ _ _) (addS_rok _ _) 172) (by rfl) rfl rfl rfl (Nat.le_of_ble_eq_true rfl) ⟨(Nat.le_of_ble_eq_true rfl), (Nat.le_of_ble_eq_true rfl)⟩ ⟨rfl, rfl⟩ ⟨Nat.zero_le _, Nat.zero_le _⟩ (fun g1 hg1 => ?_)
    obtain ⟨A4, rfl, hX4, hh4, -⟩ := hg1
    exact z_iret E F dX5_join_136 (fin hop ((if_pos hv).trans ((if_neg hnl).trans (congrArg (fun f : Nat → Int => (f 9, setSr σ u f)) (show jnS w (srS σ s) (srS σ t) = addS (srS σ s) (srS σ t) from by unfold jnS; rw [if_pos h67])))) (xp_to hX4 (hi_tr hh2 (hi_tr (hi_up (by omega)) hh4))))
