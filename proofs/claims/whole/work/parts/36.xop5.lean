/-! the landed calls with two results, ladders made, items copied -/
set_option maxRecDepth 100000 in
theorem x_ladder {A : Nat → Nat → Int} {σ : St} (hX : XI A σ) (k s t : Int) (hk : inR k) (hs : inR s) (ht : inR t) : OkI mX5_ladder [.ref 0, .int (iI k), .int (iI s), .int (iI t)] 172 (mA A) (.int (iI (opLadder σ k s t).1)) (XP A (opLadder σ k s t).2) := by
  generalize hop : opLadder σ k s t = R
  refine OkM.of [some (.ref 0), some (.int (iI k)), some (.int (iI s)), some (.int (iI t))] (by decide +kernel) rfl (Nat.le_of_ble_eq_true rfl) ?_
  intro X E F
  have hbad : ¬ (iL k ∧ iS s ∧ iS t) → Zc X 21 [some (.ref 0), some (.int (iI k)), some (.int (iI s)), some (.int (iI t))] [] 172 (mA A) 0 0 := by
    intro hv
    refine z_bipush E (by decide) dX5_ladder_21 ?_
    exact z_iret E F dX5_ladder_23 (fin hop (if_neg hv) (xp_same hX))
  refine z_iload_n E dX5_ladder_0 rfl ?_
  refine c_S E dX5_ladder_1 lkX5_161 (ok_isLadder5 k hk 172 _) rfl rfl rfl (Nat.le_of_ble_eq_true rfl) ⟨(Nat.le_of_ble_eq_true rfl), (Nat.le_of_ble_eq_true rfl)⟩ ⟨rfl, rfl⟩ ⟨Nat.zero_le _, Nat.zero_le _⟩ ?_
  refine z_bif_eq (tgt := 21) E dX5_ladder_4 (by decide) (fun h4 => ?_) (fun h4 => ?_)
  · exact hbad (fun v => h4 v.1)
  refine z_iload_n E dX5_ladder_7 rfl ?_
  refine c_S E dX5_ladder_8 lkX5_56 (ok_isSheet5 s hs 172 _) rfl rfl rfl (Nat.le_of_ble_eq_true rfl) ⟨(Nat.le_of_ble_eq_true rfl), (Nat.le_of_ble_eq_true rfl)⟩ ⟨rfl, rfl⟩ ⟨Nat.zero_le _, Nat.zero_le _⟩ ?_
  refine z_bif_eq (tgt := 21) E dX5_ladder_11 (by decide) (fun h11 => ?_) (fun h11 => ?_)
  · exact hbad (fun v => h11 v.2.1)
  refine z_iload_n E dX5_ladder_14 rfl ?_
  refine c_S E dX5_ladder_15 lkX5_56 (ok_isSheet5 t ht 172 _) rfl rfl rfl (Nat.le_of_ble_eq_true rfl) ⟨(Nat.le_of_ble_eq_true rfl), (Nat.le_of_ble_eq_true rfl)⟩ ⟨rfl, rfl⟩ ⟨Nat.zero_le _, Nat.zero_le _⟩ ?_
  refine z_bif_ne (tgt := 24) E dX5_ladder_18 (by decide) (fun h18 => ?_) (fun h18 => ?_)
  case refine_2 => exact hbad (fun v => h18 v.2.2)
  have hv : iL k ∧ iS s ∧ iS t := ⟨h4, h11, h18⟩
  obtain ⟨k, rfl⟩ := nat_of h4.1
  obtain ⟨s, rfl⟩ := nat_of h11.1
  obtain ⟨t, rfl⟩ := nat_of h18.1
  have hk4 : k < 4 := by omega
  have hs8 : s < 8 := by omega
  have ht8 : t < 8 := by omega
  have hnull : (σ s 0 = 0 ∨ σ t 0 = 0) → ∀ A2, XI A2 σ → Hi A A2 → Zc X 48 [some (.ref 0), some (.int (iI (k : Int))), some (.int (iI (s : Int))), some (.int (iI (t : Int)))] [] 172 (mA A2) 0 0 := by
    intro hl A2 hX2 hh
    refine z_aload_n E dX5_ladder_48 rfl ?_
    refine z_iconst E dX5_ladder_49 ?_
    refine c_VQ E dX5_ladder_50 lkX5_63 (ok_found hX2 1 (by omega) 172) (by rfl) rfl rfl rfl (Nat.le_of_ble_eq_true rfl) ⟨(Nat.le_of_ble_eq_true rfl), (Nat.le_of_ble_eq_true rfl)⟩ ⟨rfl, rfl⟩ ⟨Nat.zero_le _, Nat.zero_le _⟩ (fun g1 hg1 => ?_)
    exact z_iret E F dX5_ladder_53 (fin hop ((if_pos hv).trans (if_pos hl)) (xp_tr hh hg1))
  rcases (hX.2.2.1 s hs8).1 with ls | ls
  · refine z_aload_n E dX5_ladder_24 rfl ?_
    refine z_iload_n E dX5_ladder_25 rfl ?_
    refine z_aload_n E dX5_ladder_26 rfl ?_
    refine z_get E dX5_ladder_27 (by rfl) flX5_31 (by rfl) ?_
    refine c_V E dX5_ladder_30 lkX5_117 (ok_reads0 (o := 40) hs8 hX ls 172) (by rfl) rfl rfl rfl (Nat.le_of_ble_eq_true rfl) ⟨(Nat.le_of_ble_eq_true rfl), (Nat.le_of_ble_eq_true rfl)⟩ ⟨rfl, rfl⟩ ⟨Nat.zero_le _, Nat.zero_le _⟩ ?_
    refine z_if_eq (tgt := 48) E (by omega) dX5_ladder_33 (by decide) (fun h33 => ?_) (fun hq => False.elim (by omega))
    exact hnull (Or.inl ls) A hX (fun _ _ => rfl)
  refine z_aload_n E dX5_ladder_24 rfl ?_
  refine z_iload_n E dX5_ladder_25 rfl ?_
  refine z_aload_n E dX5_ladder_26 rfl ?_
  refine z_get E dX5_ladder_27 (by rfl) flX5_31 (by rfl) ?_
  refine c_V E dX5_ladder_30 lkX5_117 (ok_reads1 hs8 s40 (by omega) hX ls 172) (by rfl) rfl rfl rfl (Nat.le_of_ble_eq_true rfl) ⟨(Nat.le_of_ble_eq_true rfl), (Nat.le_of_ble_eq_true rfl)⟩ ⟨rfl, rfl⟩ ⟨Nat.zero_le _, Nat.zero_le _⟩ ?_
  refine z_if_eq (tgt := 48) E (by omega) dX5_ladder_33 (by decide) (fun hq => False.elim (by omega)) (fun h33 => ?_)
  have hX1 : XI (va_up A (40 + 1) (srS σ s)) σ := hX.ups (by omega)
  rcases (hX.2.2.1 t ht8).1 with lt | lt
  · refine z_aload_n E dX5_ladder_36 rfl ?_
    refine z_iload_n E dX5_ladder_37 rfl ?_
    refine z_aload_n E dX5_ladder_38 rfl ?_
    refine z_get E dX5_ladder_39 (by rfl) flX5_35 (by rfl) ?_
    refine c_V E dX5_ladder_42 lkX5_117 (ok_reads0 (o := 42) ht8 hX1 lt 172) (by rfl) rfl rfl rfl (Nat.le_of_ble_eq_true rfl) ⟨(Nat.le_of_ble_eq_true rfl), (Nat.le_of_ble_eq_true rfl)⟩ ⟨rfl, rfl⟩ ⟨Nat.zero_le _, Nat.zero_le _⟩ ?_
    refine z_if_ne (tgt := 54) E (by omega) dX5_ladder_45 (by decide) (fun hq => False.elim (by omega)) (fun h45 => ?_)
    exact hnull (Or.inr lt) _ hX1 (hi_up (by omega))
  refine z_aload_n E dX5_ladder_36 rfl ?_
  refine z_iload_n E dX5_ladder_37 rfl ?_
  refine z_aload_n E dX5_ladder_38 rfl ?_
  refine z_get E dX5_ladder_39 (by rfl) flX5_35 (by rfl) ?_
  refine c_V E dX5_ladder_42 lkX5_117 (ok_reads1 ht8 s42 (by omega) hX1 lt 172) (by rfl) rfl rfl rfl (Nat.le_of_ble_eq_true rfl) ⟨(Nat.le_of_ble_eq_true rfl), (Nat.le_of_ble_eq_true rfl)⟩ ⟨rfl, rfl⟩ ⟨Nat.zero_le _, Nat.zero_le _⟩ ?_
  refine z_if_ne (tgt := 54) E (by omega) dX5_ladder_45 (by decide) (fun h45 => ?_) (fun hq => False.elim (by omega))
  have hX2 : XI (va_up (va_up A (40 + 1) (srS σ s)) (42 + 1) (srS σ t)) σ := hX1.ups (by omega)
  have hh2 : Hi A (va_up (va_up A (40 + 1) (srS σ s)) (42 + 1) (srS σ t)) := hi_tr (hi_up (by omega)) (hi_up (by omega))
  have e1 : va_up (va_up A (40 + 1) (srS σ s)) (42 + 1) (srS σ t) (40 + 1) = srS σ s := by rw [va_up_ne _ _ (by omega), va_up_self]
  have e2 : va_up (va_up A (40 + 1) (srS σ s)) (42 + 1) (srS σ t) (42 + 1) = srS σ t := va_up_self _ _ _
  generalize va_up (va_up A (40 + 1) (srS σ s)) (42 + 1) (srS σ t) = A2 at *
  have rs := srS_rok σ s
  have rt := srS_rok σ t
  rw [← e1] at rs
  rw [← e2] at rt
  have hnl : ¬ (σ s 0 = 0 ∨ σ t 0 = 0) := by omega
  have hnot : ¬ (srS σ s 0 ≠ 0 ∧ (srS σ t 0 = 0 ∧ srS σ t 1 ≠ 0)) → Zc X 74 [some (.ref 0), some (.int (iI (k : Int))), some (.int (iI (s : Int))), some (.int (iI (t : Int)))] [] 172 (mA A2) 0 0 := by
    intro hl
    refine z_bipush E (by decide) dX5_ladder_74 ?_
    exact z_iret E F dX5_ladder_76 (fin hop ((if_pos hv).trans ((if_neg hnl).trans (if_neg hl))) (xp_to hX2 hh2))
  refine z_aload_n E dX5_ladder_54 rfl ?_
  refine z_get E dX5_ladder_55 (by rfl) flX5_31 (by rfl) ?_
  refine c_V E dX5_ladder_58 lkX5_131 (ok_canDivide s40 A2 rs 172) (by rfl) rfl rfl rfl (Nat.le_of_ble_eq_true rfl) ⟨(Nat.le_of_ble_eq_true rfl), (Nat.le_of_ble_eq_true rfl)⟩ ⟨rfl, rfl⟩ ⟨Nat.zero_le _, Nat.zero_le _⟩ ?_
  rw [e1, if_b01]
  refine z_bif_eq (tgt := 74) E dX5_ladder_61 (by decide) (fun h61 => ?_) (fun h61 => ?_)
  · exact hnot (fun v => h61 v.1)
  refine z_aload_n E dX5_ladder_64 rfl ?_
  refine z_get E dX5_ladder_65 (by rfl) flX5_35 (by rfl) ?_
  refine c_V E dX5_ladder_68 lkX5_144 (ok_canTurn s42 A2 rt 172) (by rfl) rfl rfl rfl (Nat.le_of_ble_eq_true rfl) ⟨(Nat.le_of_ble_eq_true rfl), (Nat.le_of_ble_eq_true rfl)⟩ ⟨rfl, rfl⟩ ⟨Nat.zero_le _, Nat.zero_le _⟩ ?_
  rw [e2, if_b01]
  refine z_bif_ne (tgt := 77) E dX5_ladder_71 (by decide) (fun h71 => ?_) (fun h71 => ?_)
  case refine_2 => exact hnot (fun v => h71 v.2)
  refine z_aload_n E dX5_ladder_77 rfl ?_
  refine z_get E dX5_ladder_78 (by rfl) flX5_24 (by rfl) ?_
  refine z_aload_n E dX5_ladder_81 rfl ?_
  refine z_get E dX5_ladder_82 (by rfl) flX5_17 (by rfl) ?_
  refine z_iload_n E dX5_ladder_85 rfl ?_
  refine a_aald (j := k) E dX5_ladder_86 rfl (by omega) (by omega) (by omega) (by omega) ?_
  refine z_aload_n E dX5_ladder_87 rfl ?_
  refine z_get E dX5_ladder_88 (by rfl) flX5_31 (by rfl) ?_
  refine z_aload_n E dX5_ladder_91 rfl ?_
  refine z_get E dX5_ladder_92 (by rfl) flX5_35 (by rfl) ?_
  refine c_V0Q E dX5_ladder_95 lkX5_164 (ok_build hk4 s40 s42 (by omega) (by omega) A2 hX2.1 rs rt 172) (by rfl) rfl rfl rfl (Nat.le_of_ble_eq_true rfl) ⟨(Nat.le_of_ble_eq_true rfl), (Nat.le_of_ble_eq_true rfl)⟩ ⟨rfl, rfl⟩ ⟨Nat.zero_le _, Nat.zero_le _⟩ (fun g1 hg1 => ?_)
  obtain ⟨A3, rfl, b1, b2, b3⟩ := hg1
  rw [e1, e2] at b1
  refine z_iconst E dX5_ladder_98 ?_
  exact z_iret E F dX5_ladder_99 (fin hop ((if_pos hv).trans ((if_neg hnl).trans (if_pos ⟨h61, h71⟩))) (xp_to (hX2.ld hk4 (fun n j _ _ => blS_in _ _ n j) b1 b2 b3) (hi_tr hh2 (fun q hq => b3 q (by omega) (by omega) (by omega) (by omega) (by omega)))))
set_option maxRecDepth 100000 in
theorem x_triangle {A : Nat → Nat → Int} {σ : St} (hX : XI A σ) (s t n k : Int) (hs : inR s) (ht : inR t) (hn : inR n) (hk : inR k) : OkI mX5_triangle [.ref 0, .int (iI s), .int (iI t), .int (iI n), .int (iI k)] 172 (mA A) (.int (iI (opTri σ s t n k).1)) (XP A (opTri σ s t n k).2) := by
  generalize hop : opTri σ s t n k = R
  refine OkM.of [some (.ref 0), some (.int (iI s)), some (.int (iI t)), some (.int (iI n)), some (.int (iI k))] (by decide +kernel) rfl (Nat.le_of_ble_eq_true rfl) ?_
  intro X E F
  have hbad : ¬ (iS s ∧ iS t ∧ iP n ∧ iP k) → Zc X 29 [some (.ref 0), some (.int (iI s)), some (.int (iI t)), some (.int (iI n)), some (.int (iI k))] [] 172 (mA A) 0 0 := by
    intro hv
    refine z_bipush E (by decide) dX5_triangle_29 ?_
    exact z_iret E F dX5_triangle_31 (fin hop (if_neg hv) (xp_same hX))
  refine z_iload_n E dX5_triangle_0 rfl ?_
  refine c_S E dX5_triangle_1 lkX5_56 (ok_isSheet5 s hs 172 _) rfl rfl rfl (Nat.le_of_ble_eq_true rfl) ⟨(Nat.le_of_ble_eq_true rfl), (Nat.le_of_ble_eq_true rfl)⟩ ⟨rfl, rfl⟩ ⟨Nat.zero_le _, Nat.zero_le _⟩ ?_
  refine z_bif_eq (tgt := 29) E dX5_triangle_4 (by decide) (fun h4 => ?_) (fun h4 => ?_)
  · exact hbad (fun v => h4 v.1)
  refine z_iload_n E dX5_triangle_7 rfl ?_
  refine c_S E dX5_triangle_8 lkX5_56 (ok_isSheet5 t ht 172 _) rfl rfl rfl (Nat.le_of_ble_eq_true rfl) ⟨(Nat.le_of_ble_eq_true rfl), (Nat.le_of_ble_eq_true rfl)⟩ ⟨rfl, rfl⟩ ⟨Nat.zero_le _, Nat.zero_le _⟩ ?_
  refine z_bif_eq (tgt := 29) E dX5_triangle_11 (by decide) (fun h11 => ?_) (fun h11 => ?_)
  · exact hbad (fun v => h11 v.2.1)
  refine z_iload_n E dX5_triangle_14 rfl ?_
  refine c_S E dX5_triangle_15 lkX5_103 (ok_isPlace5 n hn 172 _) rfl rfl rfl (Nat.le_of_ble_eq_true rfl) ⟨(Nat.le_of_ble_eq_true rfl), (Nat.le_of_ble_eq_true rfl)⟩ ⟨rfl, rfl⟩ ⟨Nat.zero_le _, Nat.zero_le _⟩ ?_
  refine z_bif_eq (tgt := 29) E dX5_triangle_18 (by decide) (fun h18 => ?_) (fun h18 => ?_)
  · exact hbad (fun v => h18 v.2.2.1)
  refine z_iload E dX5_triangle_21 rfl ?_
  refine c_S E dX5_triangle_23 lkX5_103 (ok_isPlace5 k hk 172 _) rfl rfl rfl (Nat.le_of_ble_eq_true rfl) ⟨(Nat.le_of_ble_eq_true rfl), (Nat.le_of_ble_eq_true rfl)⟩ ⟨rfl, rfl⟩ ⟨Nat.zero_le _, Nat.zero_le _⟩ ?_
  refine z_bif_ne (tgt := 32) E dX5_triangle_26 (by decide) (fun h26 => ?_) (fun h26 => ?_)
  case refine_2 => exact hbad (fun v => h26 v.2.2.2)
  have hv : iS s ∧ iS t ∧ iP n ∧ iP k := ⟨h4, h11, h18, h26⟩
  obtain ⟨s, rfl⟩ := nat_of h4.1
  obtain ⟨t, rfl⟩ := nat_of h11.1
  obtain ⟨n, rfl⟩ := nat_of h18.1
  obtain ⟨k, rfl⟩ := nat_of h26.1
  have hs8 : s < 8 := by omega
  have ht8 : t < 8 := by omega
  have hnull : (σ s 0 = 0 ∨ σ t 0 = 0) → ∀ A2, XI A2 σ → Hi A A2 → Zc X 56 [some (.ref 0), some (.int (iI (s : Int))), some (.int (iI (t : Int))), some (.int (iI (n : Int))), some (.int (iI (k : Int)))] [] 172 (mA A2) 0 0 := by
    intro hl A2 hX2 hh
    refine z_aload_n E dX5_triangle_56 rfl ?_
    refine z_iconst E dX5_triangle_57 ?_
    refine c_VQ E dX5_triangle_58 lkX5_63 (ok_found hX2 1 (by omega) 172) (by rfl) rfl rfl rfl (Nat.le_of_ble_eq_true rfl) ⟨(Nat.le_of_ble_eq_true rfl), (Nat.le_of_ble_eq_true rfl)⟩ ⟨rfl, rfl⟩ ⟨Nat.zero_le _, Nat.zero_le _⟩ (fun g1 hg1 => ?_)
    exact z_iret E F dX5_triangle_61 (fin hop ((if_pos hv).trans (if_pos hl)) (xp_tr hh hg1))
  rcases (hX.2.2.1 s hs8).1 with ls | ls
  · refine z_aload_n E dX5_triangle_32 rfl ?_
    refine z_iload_n E dX5_triangle_33 rfl ?_
    refine z_aload_n E dX5_triangle_34 rfl ?_
    refine z_get E dX5_triangle_35 (by rfl) flX5_31 (by rfl) ?_
    refine c_V E dX5_triangle_38 lkX5_117 (ok_reads0 (o := 40) hs8 hX ls 172) (by rfl) rfl rfl rfl (Nat.le_of_ble_eq_true rfl) ⟨(Nat.le_of_ble_eq_true rfl), (Nat.le_of_ble_eq_true rfl)⟩ ⟨rfl, rfl⟩ ⟨Nat.zero_le _, Nat.zero_le _⟩ ?_
    refine z_if_eq (tgt := 56) E (by omega) dX5_triangle_41 (by decide) (fun h41 => ?_) (fun hq => False.elim (by omega))
    exact hnull (Or.inl ls) A hX (fun _ _ => rfl)
  refine z_aload_n E dX5_triangle_32 rfl ?_
  refine z_iload_n E dX5_triangle_33 rfl ?_
  refine z_aload_n E dX5_triangle_34 rfl ?_
  refine z_get E dX5_triangle_35 (by rfl) flX5_31 (by rfl) ?_
  refine c_V E dX5_triangle_38 lkX5_117 (ok_reads1 hs8 s40 (by omega) hX ls 172) (by rfl) rfl rfl rfl (Nat.le_of_ble_eq_true rfl) ⟨(Nat.le_of_ble_eq_true rfl), (Nat.le_of_ble_eq_true rfl)⟩ ⟨rfl, rfl⟩ ⟨Nat.zero_le _, Nat.zero_le _⟩ ?_
  refine z_if_eq (tgt := 56) E (by omega) dX5_triangle_41 (by decide) (fun hq => False.elim (by omega)) (fun h41 => ?_)
  have hX1 : XI (va_up A (40 + 1) (srS σ s)) σ := hX.ups (by omega)
  rcases (hX.2.2.1 t ht8).1 with lt | lt
  · refine z_aload_n E dX5_triangle_44 rfl ?_
    refine z_iload_n E dX5_triangle_45 rfl ?_
    refine z_aload_n E dX5_triangle_46 rfl ?_
    refine z_get E dX5_triangle_47 (by rfl) flX5_35 (by rfl) ?_
    refine c_V E dX5_triangle_50 lkX5_117 (ok_reads0 (o := 42) ht8 hX1 lt 172) (by rfl) rfl rfl rfl (Nat.le_of_ble_eq_true rfl) ⟨(Nat.le_of_ble_eq_true rfl), (Nat.le_of_ble_eq_true rfl)⟩ ⟨rfl, rfl⟩ ⟨Nat.zero_le _, Nat.zero_le _⟩ ?_
    refine z_if_ne (tgt := 62) E (by omega) dX5_triangle_53 (by decide) (fun hq => False.elim (by omega)) (fun h53 => ?_)
    exact hnull (Or.inr lt) _ hX1 (hi_up (by omega))
  refine z_aload_n E dX5_triangle_44 rfl ?_
  refine z_iload_n E dX5_triangle_45 rfl ?_
  refine z_aload_n E dX5_triangle_46 rfl ?_
  refine z_get E dX5_triangle_47 (by rfl) flX5_35 (by rfl) ?_
  refine c_V E dX5_triangle_50 lkX5_117 (ok_reads1 ht8 s42 (by omega) hX1 lt 172) (by rfl) rfl rfl rfl (Nat.le_of_ble_eq_true rfl) ⟨(Nat.le_of_ble_eq_true rfl), (Nat.le_of_ble_eq_true rfl)⟩ ⟨rfl, rfl⟩ ⟨Nat.zero_le _, Nat.zero_le _⟩ ?_
  refine z_if_ne (tgt := 62) E (by omega) dX5_triangle_53 (by decide) (fun h53 => ?_) (fun hq => False.elim (by omega))
  have hX2 : XI (va_up (va_up A (40 + 1) (srS σ s)) (42 + 1) (srS σ t)) σ := hX1.ups (by omega)
  have hh2 : Hi A (va_up (va_up A (40 + 1) (srS σ s)) (42 + 1) (srS σ t)) := hi_tr (hi_up (by omega)) (hi_up (by omega))
  have e1 : va_up (va_up A (40 + 1) (srS σ s)) (42 + 1) (srS σ t) (40 + 1) = srS σ s := by rw [va_up_ne _ _ (by omega), va_up_self]
  have e2 : va_up (va_up A (40 + 1) (srS σ s)) (42 + 1) (srS σ t) (42 + 1) = srS σ t := va_up_self _ _ _
  generalize va_up (va_up A (40 + 1) (srS σ s)) (42 + 1) (srS σ t) = A2 at *
  have rs := srS_rok σ s
  have rt := srS_rok σ t
  rw [← e1] at rs
  rw [← e2] at rt
  have hnl : ¬ (σ s 0 = 0 ∨ σ t 0 = 0) := by omega
  refine z_aload_n E dX5_triangle_62 rfl ?_
  refine z_get E dX5_triangle_63 (by rfl) flX5_35 (by rfl) ?_
  refine c_V E dX5_triangle_66 lkX5_138 (ok_canBePutIn s42 A2 rt 172) (by rfl) rfl rfl rfl (Nat.le_of_ble_eq_true rfl) ⟨(Nat.le_of_ble_eq_true rfl), (Nat.le_of_ble_eq_true rfl)⟩ ⟨rfl, rfl⟩ ⟨Nat.zero_le _, Nat.zero_le _⟩ ?_
  rw [e2, if_b01]
  refine z_bif_ne (tgt := 75) E dX5_triangle_69 (by decide) (fun h69 => ?_) (fun h69 => ?_)
  · refine z_aload_n E dX5_triangle_75 rfl ?_
    refine z_get E dX5_triangle_76 (by rfl) flX5_44 (by rfl) ?_
    refine z_aload_n E dX5_triangle_79 rfl ?_
    refine z_get E dX5_triangle_80 (by rfl) flX5_35 (by rfl) ?_
    refine z_iload E dX5_triangle_83 rfl ?_
    refine c_V0 E dX5_triangle_85 lkX5_150 (ok_becomeRaised s48 s42 (by omega) A2 rt k (by omega) 172) (by rfl) rfl rfl rfl (Nat.le_of_ble_eq_true rfl) ⟨(Nat.le_of_ble_eq_true rfl), (Nat.le_of_ble_eq_true rfl)⟩ ⟨rfl, rfl⟩ ⟨Nat.zero_le _, Nat.zero_le _⟩ ?_
    rw [e2]
    have e3 : va_up A2 (48 + 1) (raS (srS σ t) k 10) (40 + 1) = srS σ s := by rw [va_up_ne _ _ (by omega)]; exact e1
    have e4 : va_up A2 (48 + 1) (raS (srS σ t) k 10) (48 + 1) = raS (srS σ t) k 10 := va_up_self _ _ _
    refine z_aload_n E dX5_triangle_88 rfl ?_
    refine z_get E dX5_triangle_89 (by rfl) flX5_44 (by rfl) ?_
    refine z_aload_n E dX5_triangle_92 rfl ?_
    refine z_get E dX5_triangle_93 (by rfl) flX5_31 (by rfl) ?_
    refine z_aload_n E dX5_triangle_96 rfl ?_
    refine z_get E dX5_triangle_97 (by rfl) flX5_44 (by rfl) ?_
    refine c_V0 E dX5_triangle_100 lkX5_128 (ok_becomeTimes s48 s40 s48 _ (by rw [e3]; exact srS_rok σ s) (by rw [e4]; exact raS_rok _ _ _) 172) (by rfl) rfl rfl rfl (Nat.le_of_ble_eq_true rfl) ⟨(Nat.le_of_ble_eq_true rfl), (Nat.le_of_ble_eq_true rfl)⟩ ⟨rfl, rfl⟩ ⟨Nat.zero_le _, Nat.zero_le _⟩ ?_
    rw [e3, e4, va_uu]
    refine z_aload_n E dX5_triangle_103 rfl ?_
    refine z_get E dX5_triangle_104 (by rfl) flX5_44 (by rfl) ?_
    refine z_get E dX5_triangle_107 (cel_ser s48 _) flX5_175 (by rfl) ?_
    refine z_iload_n E dX5_triangle_110 rfl ?_
    refine a_iald (j := n) E dX5_triangle_111 (cel_row s48) (by omega) (by omega) (by omega) ?_
    rw [va_up_self]
    exact z_iret E F dX5_triangle_112 (fin hop ((if_pos hv).trans ((if_neg hnl).trans (if_pos h69))) (xp_to (hX2.ups (by omega)) (hi_tr hh2 (hi_up (by omega)))))
  · refine z_bipush E (by decide) dX5_triangle_72 ?_
    exact z_iret E F dX5_triangle_74 (fin hop ((if_pos hv).trans ((if_neg hnl).trans (if_neg h69))) (xp_to hX2 hh2))
set_option maxRecDepth 100000 in
theorem x_back {A : Nat → Nat → Int} {σ : St} (hX : XI A σ) (s t u v : Int) (hs : inR s) (ht : inR t) (hu : inR u) (hvv : inR v) : OkI mX5_back [.ref 0, .int (iI s), .int (iI t), .int (iI u), .int (iI v)] 172 (mA A) (.int (iI (opBack σ s t u v).1)) (XP A (opBack σ s t u v).2) := by
  generalize hop : opBack σ s t u v = R
  refine OkM.of [some (.ref 0), some (.int (iI s)), some (.int (iI t)), some (.int (iI u)), some (.int (iI v))] (by decide +kernel) rfl (Nat.le_of_ble_eq_true rfl) ?_
  intro X E F
  have hbad : ¬ (iS s ∧ iS t ∧ iS u ∧ iS v ∧ u ≠ v) → Zc X 35 [some (.ref 0), some (.int (iI s)), some (.int (iI t)), some (.int (iI u)), some (.int (iI v))] [] 172 (mA A) 0 0 := by
    intro hv
    refine z_bipush E (by decide) dX5_back_35 ?_
    exact z_iret E F dX5_back_37 (fin hop (if_neg hv) (xp_same hX))
  refine z_iload_n E dX5_back_0 rfl ?_
  refine c_S E dX5_back_1 lkX5_56 (ok_isSheet5 s hs 172 _) rfl rfl rfl (Nat.le_of_ble_eq_true rfl) ⟨(Nat.le_of_ble_eq_true rfl), (Nat.le_of_ble_eq_true rfl)⟩ ⟨rfl, rfl⟩ ⟨Nat.zero_le _, Nat.zero_le _⟩ ?_
  refine z_bif_eq (tgt := 35) E dX5_back_4 (by decide) (fun h4 => ?_) (fun h4 => ?_)
  · exact hbad (fun v => h4 v.1)
  refine z_iload_n E dX5_back_7 rfl ?_
  refine c_S E dX5_back_8 lkX5_56 (ok_isSheet5 t ht 172 _) rfl rfl rfl (Nat.le_of_ble_eq_true rfl) ⟨(Nat.le_of_ble_eq_true rfl), (Nat.le_of_ble_eq_true rfl)⟩ ⟨rfl, rfl⟩ ⟨Nat.zero_le _, Nat.zero_le _⟩ ?_
  refine z_bif_eq (tgt := 35) E dX5_back_11 (by decide) (fun h11 => ?_) (fun h11 => ?_)
  · exact hbad (fun v => h11 v.2.1)
  refine z_iload_n E dX5_back_14 rfl ?_
  refine c_S E dX5_back_15 lkX5_56 (ok_isSheet5 u hu 172 _) rfl rfl rfl (Nat.le_of_ble_eq_true rfl) ⟨(Nat.le_of_ble_eq_true rfl), (Nat.le_of_ble_eq_true rfl)⟩ ⟨rfl, rfl⟩ ⟨Nat.zero_le _, Nat.zero_le _⟩ ?_
  refine z_bif_eq (tgt := 35) E dX5_back_18 (by decide) (fun h18 => ?_) (fun h18 => ?_)
  · exact hbad (fun v => h18 v.2.2.1)
  refine z_iload E dX5_back_21 rfl ?_
  refine c_S E dX5_back_23 lkX5_56 (ok_isSheet5 v hvv 172 _) rfl rfl rfl (Nat.le_of_ble_eq_true rfl) ⟨(Nat.le_of_ble_eq_true rfl), (Nat.le_of_ble_eq_true rfl)⟩ ⟨rfl, rfl⟩ ⟨Nat.zero_le _, Nat.zero_le _⟩ ?_
  refine z_bif_eq (tgt := 35) E dX5_back_26 (by decide) (fun h26 => ?_) (fun h26 => ?_)
  · exact hbad (fun v => h26 v.2.2.2.1)
  refine z_iload_n E dX5_back_29 rfl ?_
  refine z_iload E dX5_back_30 rfl ?_
  refine z_icmp_ne (tgt := 38) E (by omega) (by omega) dX5_back_32 (by decide) (fun h32 => ?_) (fun h32 => ?_)
  case refine_2 => exact hbad (fun v => v.2.2.2.2 h32)
  have hv : iS s ∧ iS t ∧ iS u ∧ iS v ∧ u ≠ v := ⟨h4, h11, h18, h26, h32⟩
  obtain ⟨s, rfl⟩ := nat_of h4.1
  obtain ⟨t, rfl⟩ := nat_of h11.1
  obtain ⟨u, rfl⟩ := nat_of h18.1
  obtain ⟨v, rfl⟩ := nat_of h26.1
  have hs8 : s < 8 := by omega
  have ht8 : t < 8 := by omega
  have hu8 : u < 8 := by omega
  have hv8 : v < 8 := by omega
  have hnull : (σ s 0 = 0 ∨ σ t 0 = 0) → ∀ A2, XI A2 σ → Hi A A2 → Zc X 62 [some (.ref 0), some (.int (iI (s : Int))), some (.int (iI (t : Int))), some (.int (iI (u : Int))), some (.int (iI (v : Int)))] [] 172 (mA A2) 0 0 := by
    intro hl A2 hX2 hh
    refine z_aload_n E dX5_back_62 rfl ?_
    refine z_iconst E dX5_back_63 ?_
    refine c_VQ E dX5_back_64 lkX5_63 (ok_found hX2 1 (by omega) 172) (by rfl) rfl rfl rfl (Nat.le_of_ble_eq_true rfl) ⟨(Nat.le_of_ble_eq_true rfl), (Nat.le_of_ble_eq_true rfl)⟩ ⟨rfl, rfl⟩ ⟨Nat.zero_le _, Nat.zero_le _⟩ (fun g1 hg1 => ?_)
    exact z_iret E F dX5_back_67 (fin hop ((if_pos hv).trans (if_pos hl)) (xp_tr hh hg1))
  rcases (hX.2.2.1 s hs8).1 with ls | ls
  · refine z_aload_n E dX5_back_38 rfl ?_
    refine z_iload_n E dX5_back_39 rfl ?_
    refine z_aload_n E dX5_back_40 rfl ?_
    refine z_get E dX5_back_41 (by rfl) flX5_31 (by rfl) ?_
    refine c_V E dX5_back_44 lkX5_117 (ok_reads0 (o := 40) hs8 hX ls 172) (by rfl) rfl rfl rfl (Nat.le_of_ble_eq_true rfl) ⟨(Nat.le_of_ble_eq_true rfl), (Nat.le_of_ble_eq_true rfl)⟩ ⟨rfl, rfl⟩ ⟨Nat.zero_le _, Nat.zero_le _⟩ ?_
    refine z_if_eq (tgt := 62) E (by omega) dX5_back_47 (by decide) (fun h47 => ?_) (fun hq => False.elim (by omega))
    exact hnull (Or.inl ls) A hX (fun _ _ => rfl)
  refine z_aload_n E dX5_back_38 rfl ?_
  refine z_iload_n E dX5_back_39 rfl ?_
  refine z_aload_n E dX5_back_40 rfl ?_
  refine z_get E dX5_back_41 (by rfl) flX5_31 (by rfl) ?_
  refine c_V E dX5_back_44 lkX5_117 (ok_reads1 hs8 s40 (by omega) hX ls 172) (by rfl) rfl rfl rfl (Nat.le_of_ble_eq_true rfl) ⟨(Nat.le_of_ble_eq_true rfl), (Nat.le_of_ble_eq_true rfl)⟩ ⟨rfl, rfl⟩ ⟨Nat.zero_le _, Nat.zero_le _⟩ ?_
  refine z_if_eq (tgt := 62) E (by omega) dX5_back_47 (by decide) (fun hq => False.elim (by omega)) (fun h47 => ?_)
  have hX1 : XI (va_up A (40 + 1) (srS σ s)) σ := hX.ups (by omega)
  rcases (hX.2.2.1 t ht8).1 with lt | lt
  · refine z_aload_n E dX5_back_50 rfl ?_
    refine z_iload_n E dX5_back_51 rfl ?_
    refine z_aload_n E dX5_back_52 rfl ?_
    refine z_get E dX5_back_53 (by rfl) flX5_35 (by rfl) ?_
    refine c_V E dX5_back_56 lkX5_117 (ok_reads0 (o := 42) ht8 hX1 lt 172) (by rfl) rfl rfl rfl (Nat.le_of_ble_eq_true rfl) ⟨(Nat.le_of_ble_eq_true rfl), (Nat.le_of_ble_eq_true rfl)⟩ ⟨rfl, rfl⟩ ⟨Nat.zero_le _, Nat.zero_le _⟩ ?_
    refine z_if_ne (tgt := 68) E (by omega) dX5_back_59 (by decide) (fun hq => False.elim (by omega)) (fun h59 => ?_)
    exact hnull (Or.inr lt) _ hX1 (hi_up (by omega))
  refine z_aload_n E dX5_back_50 rfl ?_
  refine z_iload_n E dX5_back_51 rfl ?_
  refine z_aload_n E dX5_back_52 rfl ?_
  refine z_get E dX5_back_53 (by rfl) flX5_35 (by rfl) ?_
  refine c_V E dX5_back_56 lkX5_117 (ok_reads1 ht8 s42 (by omega) hX1 lt 172) (by rfl) rfl rfl rfl (Nat.le_of_ble_eq_true rfl) ⟨(Nat.le_of_ble_eq_true rfl), (Nat.le_of_ble_eq_true rfl)⟩ ⟨rfl, rfl⟩ ⟨Nat.zero_le _, Nat.zero_le _⟩ ?_
  refine z_if_ne (tgt := 68) E (by omega) dX5_back_59 (by decide) (fun h59 => ?_) (fun hq => False.elim (by omega))
  have hX2 : XI (va_up (va_up A (40 + 1) (srS σ s)) (42 + 1) (srS σ t)) σ := hX1.ups (by omega)
  have hh2 : Hi A (va_up (va_up A (40 + 1) (srS σ s)) (42 + 1) (srS σ t)) := hi_tr (hi_up (by omega)) (hi_up (by omega))
  have e1 : va_up (va_up A (40 + 1) (srS σ s)) (42 + 1) (srS σ t) (40 + 1) = srS σ s := by rw [va_up_ne _ _ (by omega), va_up_self]
  have e2 : va_up (va_up A (40 + 1) (srS σ s)) (42 + 1) (srS σ t) (42 + 1) = srS σ t := va_up_self _ _ _
  generalize va_up (va_up A (40 + 1) (srS σ s)) (42 + 1) (srS σ t) = A2 at *
  have rs := srS_rok σ s
  have rt := srS_rok σ t
  rw [← e1] at rs
  rw [← e2] at rt
  have hnl : ¬ (σ s 0 = 0 ∨ σ t 0 = 0) := by omega
  have hnot : ¬ (srS σ s 0 ≠ 0 ∧ (srS σ t 0 = 0 ∧ srS σ t 1 ≠ 0)) → Zc X 88 [some (.ref 0), some (.int (iI (s : Int))), some (.int (iI (t : Int))), some (.int (iI (u : Int))), some (.int (iI (v : Int)))] [] 172 (mA A2) 0 0 := by
    intro hl
    refine z_bipush E (by decide) dX5_back_88 ?_
    exact z_iret E F dX5_back_90 (fin hop ((if_pos hv).trans ((if_neg hnl).trans (if_neg hl))) (xp_to hX2 hh2))
  refine z_aload_n E dX5_back_68 rfl ?_
  refine z_get E dX5_back_69 (by rfl) flX5_31 (by rfl) ?_
  refine c_V E dX5_back_72 lkX5_131 (ok_canDivide s40 A2 rs 172) (by rfl) rfl rfl rfl (Nat.le_of_ble_eq_true rfl) ⟨(Nat.le_of_ble_eq_true rfl), (Nat.le_of_ble_eq_true rfl)⟩ ⟨rfl, rfl⟩ ⟨Nat.zero_le _, Nat.zero_le _⟩ ?_
  rw [e1, if_b01]
  refine z_bif_eq (tgt := 88) E dX5_back_75 (by decide) (fun h75 => ?_) (fun h75 => ?_)
  · exact hnot (fun v => h75 v.1)
  refine z_aload_n E dX5_back_78 rfl ?_
  refine z_get E dX5_back_79 (by rfl) flX5_35 (by rfl) ?_
  refine c_V E dX5_back_82 lkX5_144 (ok_canTurn s42 A2 rt 172) (by rfl) rfl rfl rfl (Nat.le_of_ble_eq_true rfl) ⟨(Nat.le_of_ble_eq_true rfl), (Nat.le_of_ble_eq_true rfl)⟩ ⟨rfl, rfl⟩ ⟨Nat.zero_le _, Nat.zero_le _⟩ ?_
  rw [e2, if_b01]
  refine z_bif_ne (tgt := 91) E dX5_back_85 (by decide) (fun h85 => ?_) (fun h85 => ?_)
  case refine_2 => exact hnot (fun v => h85 v.2)
  refine z_aload_n E dX5_back_91 rfl ?_
  refine z_get E dX5_back_92 (by rfl) flX5_24 (by rfl) ?_
  refine z_aload_n E dX5_back_95 rfl ?_
  refine z_get E dX5_back_96 (by rfl) flX5_35 (by rfl) ?_
  refine z_aload_n E dX5_back_99 rfl ?_
  refine z_get E dX5_back_100 (by rfl) flX5_47 (by rfl) ?_
  refine c_V0Q E dX5_back_103 lkX5_147 (ok_turned s42 s50 (by omega) (by omega) (by omega) (by omega) A2 hX2.1 rt 172) (by rfl) rfl rfl rfl (Nat.le_of_ble_eq_true rfl) ⟨(Nat.le_of_ble_eq_true rfl), (Nat.le_of_ble_eq_true rfl)⟩ ⟨rfl, rfl⟩ ⟨Nat.zero_le _, Nat.zero_le _⟩ (fun g1 hg1 => ?_)
  obtain ⟨A3, rfl, f3, o3⟩ := hg1
  rw [e2] at f3
  have hX3 : XI A3 σ := hX2.scr (fun k hk => o3 k (by simp; omega))
  have f31 : A3 (40 + 1) = srS σ s := by rw [o3 (40 + 1) (by simp)]; exact e1
  refine z_aload_n E dX5_back_106 rfl ?_
  refine z_get E dX5_back_107 (by rfl) flX5_24 (by rfl) ?_
  refine z_aload_n E dX5_back_110 rfl ?_
  refine z_get E dX5_back_111 (by rfl) flX5_31 (by rfl) ?_
  refine z_aload_n E dX5_back_114 rfl ?_
  refine z_get E dX5_back_115 (by rfl) flX5_47 (by rfl) ?_
  refine z_aload_n E dX5_back_118 rfl ?_
  refine z_get E dX5_back_119 (by rfl) flX5_44 (by rfl) ?_
  refine c_V0 E dX5_back_122 lkX5_206 (ok_oneByInto s40 s50 s48 (by omega) (by omega) (by omega) (by omega) A3 hX3.1 (by rw [f31]; exact srS_rok σ s) (by rw [f3]; exact tuS_rok _) 172) (by rfl) rfl rfl rfl (Nat.le_of_ble_eq_true rfl) ⟨(Nat.le_of_ble_eq_true rfl), (Nat.le_of_ble_eq_true rfl)⟩ ⟨rfl, rfl⟩ ⟨Nat.zero_le _, Nat.zero_le _⟩ ?_
  rw [f31, f3]
  have hX4 : XI (va_up (va_up A3 37 (hoS (srS σ s) (tuS (srS σ t)) 9)) (48 + 1) (obS (srS σ s) (tuS (srS σ t)))) σ := (hX3.ups (by omega)).ups (by omega)
  have f4 : va_up (va_up A3 37 (hoS (srS σ s) (tuS (srS σ t)) 9)) (48 + 1) (obS (srS σ s) (tuS (srS σ t))) (48 + 1) = obS (srS σ s) (tuS (srS σ t)) := va_up_self _ _ _
  have f5 : va_up (va_up A3 37 (hoS (srS σ s) (tuS (srS σ t)) 9)) (48 + 1) (obS (srS σ s) (tuS (srS σ t))) (50 + 1) = tuS (srS σ t) := by rw [va_up_ne _ _ (by omega), va_up_ne _ _ (by omega)]; exact f3
  have hh4 : Hi A2 (va_up (va_up A3 37 (hoS (srS σ s) (tuS (srS σ t)) 9)) (48 + 1) (obS (srS σ s) (tuS (srS σ t)))) := hi_tr (fun k hk => o3 k (by simp; omega)) (hi_tr (hi_up (by omega)) (hi_up (by omega)))
  generalize va_up (va_up A3 37 (hoS (srS σ s) (tuS (srS σ t)) 9)) (48 + 1) (obS (srS σ s) (tuS (srS σ t))) = A4 at *
  refine z_aload_n E dX5_back_125 rfl ?_
  refine z_iload_n E dX5_back_126 rfl ?_
  refine z_aload_n E dX5_back_127 rfl ?_
  refine z_get E dX5_back_128 (by rfl) flX5_44 (by rfl) ?_
  refine c_VQ E dX5_back_131 lkX5_113 (ok_becomes hu8 s48 hX4 _ f4 (qS_rok _ _) 172) (by rfl) rfl rfl rfl (Nat.le_of_ble_eq_true rfl) ⟨(Nat.le_of_ble_eq_true rfl), (Nat.le_of_ble_eq_true rfl)⟩ ⟨rfl, rfl⟩ ⟨Nat.zero_le _, Nat.zero_le _⟩ (fun g1 hg1 => ?_)
  obtain ⟨A5, rfl, hX5, hh5, hl5⟩ := hg1
  have f6 : A5 (50 + 1) = tuS (srS σ t) := by rw [hl5 (50 + 1) (by omega)]; exact f5
  refine z_pop E dX5_back_134 rfl ?_
  refine z_aload_n E dX5_back_135 rfl ?_
  refine z_iload E dX5_back_136 rfl ?_
  refine z_aload_n E dX5_back_138 rfl ?_
  refine z_get E dX5_back_139 (by rfl) flX5_47 (by rfl) ?_
  refine c_VQ E dX5_back_142 lkX5_113 (ok_becomes hv8 s50 hX5 _ f6 (tuS_rok _) 172) (by rfl) rfl rfl rfl (Nat.le_of_ble_eq_true rfl) ⟨(Nat.le_of_ble_eq_true rfl), (Nat.le_of_ble_eq_true rfl)⟩ ⟨rfl, rfl⟩ ⟨Nat.zero_le _, Nat.zero_le _⟩ (fun g1 hg1 => ?_)
  obtain ⟨A6, rfl, hX6, hh6, -⟩ := hg1
  refine z_pop E dX5_back_145 rfl ?_
  refine z_iconst E dX5_back_146 ?_
  exact z_iret E F dX5_back_147 (fin hop ((if_pos hv).trans ((if_neg hnl).trans (if_pos ⟨h75, h85⟩))) (xp_to hX6 (hi_tr hh2 (hi_tr hh4 (hi_tr hh5 hh6)))))
set_option maxRecDepth 100000 in
theorem x_product {A : Nat → Nat → Int} {σ : St} (hX : XI A σ) (s t p q u v : Int) (hs : inR s) (ht : inR t) (hp : inR p) (hq : inR q) (hu : inR u) (hvv : inR v) : OkI mX5_product [.ref 0, .int (iI s), .int (iI t), .int (iI p), .int (iI q), .int (iI u), .int (iI v)] 172 (mA A) (.int (iI (opProd σ s t p q u v).1)) (XP A (opProd σ s t p q u v).2) := by
  generalize hop : opProd σ s t p q u v = R
  refine OkM.of [some (.ref 0), some (.int (iI s)), some (.int (iI t)), some (.int (iI p)), some (.int (iI q)), some (.int (iI u)), some (.int (iI v))] (by decide +kernel) rfl (Nat.le_of_ble_eq_true rfl) ?_
  intro X E F
  have hbad : ¬ (iS s ∧ iS t ∧ iS p ∧ iS q ∧ iS u ∧ iS v ∧ u ≠ v) → Zc X 29 [some (.ref 0), some (.int (iI s)), some (.int (iI t)), some (.int (iI p)), some (.int (iI q)), some (.int (iI u)), some (.int (iI v))] [] 172 (mA A) 0 0 := by
    intro hv
    refine z_bipush E (by decide) dX5_product_29 ?_
    exact z_iret E F dX5_product_31 (fin hop (if_neg hv) (xp_same hX))
  have hbad2 : ¬ (iS s ∧ iS t ∧ iS p ∧ iS q ∧ iS u ∧ iS v ∧ u ≠ v) → Zc X 55 [some (.ref 0), some (.int (iI s)), some (.int (iI t)), some (.int (iI p)), some (.int (iI q)), some (.int (iI u)), some (.int (iI v))] [] 172 (mA A) 0 0 := by
    intro hv
    refine z_bipush E (by decide) dX5_product_55 ?_
    exact z_iret E F dX5_product_57 (fin hop (if_neg hv) (xp_same hX))
  refine z_iload_n E dX5_product_0 rfl ?_
  refine c_S E dX5_product_1 lkX5_56 (ok_isSheet5 s hs 172 _) rfl rfl rfl (Nat.le_of_ble_eq_true rfl) ⟨(Nat.le_of_ble_eq_true rfl), (Nat.le_of_ble_eq_true rfl)⟩ ⟨rfl, rfl⟩ ⟨Nat.zero_le _, Nat.zero_le _⟩ ?_
  refine z_bif_eq (tgt := 29) E dX5_product_4 (by decide) (fun h4 => ?_) (fun h4 => ?_)
  · exact hbad (fun v => h4 v.1)
  refine z_iload_n E dX5_product_7 rfl ?_
  refine c_S E dX5_product_8 lkX5_56 (ok_isSheet5 t ht 172 _) rfl rfl rfl (Nat.le_of_ble_eq_true rfl) ⟨(Nat.le_of_ble_eq_true rfl), (Nat.le_of_ble_eq_true rfl)⟩ ⟨rfl, rfl⟩ ⟨Nat.zero_le _, Nat.zero_le _⟩ ?_
  refine z_bif_eq (tgt := 29) E dX5_product_11 (by decide) (fun h11 => ?_) (fun h11 => ?_)
  · exact hbad (fun v => h11 v.2.1)
  refine z_iload_n E dX5_product_14 rfl ?_
  refine c_S E dX5_product_15 lkX5_56 (ok_isSheet5 p hp 172 _) rfl rfl rfl (Nat.le_of_ble_eq_true rfl) ⟨(Nat.le_of_ble_eq_true rfl), (Nat.le_of_ble_eq_true rfl)⟩ ⟨rfl, rfl⟩ ⟨Nat.zero_le _, Nat.zero_le _⟩ ?_
  refine z_bif_eq (tgt := 29) E dX5_product_18 (by decide) (fun h18 => ?_) (fun h18 => ?_)
  · exact hbad (fun v => h18 v.2.2.1)
  refine z_iload E dX5_product_21 rfl ?_
  refine c_S E dX5_product_23 lkX5_56 (ok_isSheet5 q hq 172 _) rfl rfl rfl (Nat.le_of_ble_eq_true rfl) ⟨(Nat.le_of_ble_eq_true rfl), (Nat.le_of_ble_eq_true rfl)⟩ ⟨rfl, rfl⟩ ⟨Nat.zero_le _, Nat.zero_le _⟩ ?_
  refine z_bif_ne (tgt := 32) E dX5_product_26 (by decide) (fun h26 => ?_) (fun h26 => ?_)
  case refine_2 => exact hbad (fun v => h26 v.2.2.2.1)
  refine z_iload E dX5_product_32 rfl ?_
  refine c_S E dX5_product_34 lkX5_56 (ok_isSheet5 u hu 172 _) rfl rfl rfl (Nat.le_of_ble_eq_true rfl) ⟨(Nat.le_of_ble_eq_true rfl), (Nat.le_of_ble_eq_true rfl)⟩ ⟨rfl, rfl⟩ ⟨Nat.zero_le _, Nat.zero_le _⟩ ?_
  refine z_bif_eq (tgt := 55) E dX5_product_37 (by decide) (fun h37 => ?_) (fun h37 => ?_)
  · exact hbad2 (fun v => h37 v.2.2.2.2.1)
  refine z_iload E dX5_product_40 rfl ?_
  refine c_S E dX5_product_42 lkX5_56 (ok_isSheet5 v hvv 172 _) rfl rfl rfl (Nat.le_of_ble_eq_true rfl) ⟨(Nat.le_of_ble_eq_true rfl), (Nat.le_of_ble_eq_true rfl)⟩ ⟨rfl, rfl⟩ ⟨Nat.zero_le _, Nat.zero_le _⟩ ?_
  refine z_bif_eq (tgt := 55) E dX5_product_45 (by decide) (fun h45 => ?_) (fun h45 => ?_)
  · exact hbad2 (fun v => h45 v.2.2.2.2.2.1)
  refine z_iload E dX5_product_48 rfl ?_
  refine z_iload E dX5_product_50 rfl ?_
  refine z_icmp_ne (tgt := 58) E (by omega) (by omega) dX5_product_52 (by decide) (fun h52 => ?_) (fun h52 => ?_)
  case refine_2 => exact hbad2 (fun v => v.2.2.2.2.2.2 h52)
  have hv : iS s ∧ iS t ∧ iS p ∧ iS q ∧ iS u ∧ iS v ∧ u ≠ v := ⟨h4, h11, h18, h26, h37, h45, h52⟩
  obtain ⟨s, rfl⟩ := nat_of h4.1
  obtain ⟨t, rfl⟩ := nat_of h11.1
  obtain ⟨p, rfl⟩ := nat_of h18.1
  obtain ⟨q, rfl⟩ := nat_of h26.1
  obtain ⟨u, rfl⟩ := nat_of h37.1
  obtain ⟨v, rfl⟩ := nat_of h45.1
  have hs8 : s < 8 := by omega
  have ht8 : t < 8 := by omega
  have hp8 : p < 8 := by omega
  have hq8 : q < 8 := by omega
  have hu8 : u < 8 := by omega
  have hv8 : v < 8 := by omega
  have hnull : (σ s 0 = 0 ∨ σ t 0 = 0 ∨ σ p 0 = 0 ∨ σ q 0 = 0) → ∀ A2, XI A2 σ → Hi A A2 → Zc X 107 [some (.ref 0), some (.int (iI (s : Int))), some (.int (iI (t : Int))), some (.int (iI (p : Int))), some (.int (iI (q : Int))), some (.int (iI (u : Int))), some (.int (iI (v : Int)))] [] 172 (mA A2) 0 0 := by
    intro hl A2 hX2 hh
    refine z_aload_n E dX5_product_107 rfl ?_
    refine z_iconst E dX5_product_108 ?_
    refine c_VQ E dX5_product_109 lkX5_63 (ok_found hX2 1 (by omega) 172) (by rfl) rfl rfl rfl (Nat.le_of_ble_eq_true rfl) ⟨(Nat.le_of_ble_eq_true rfl), (Nat.le_of_ble_eq_true rfl)⟩ ⟨rfl, rfl⟩ ⟨Nat.zero_le _, Nat.zero_le _⟩ (fun g1 hg1 => ?_)
    exact z_iret E F dX5_product_112 (fin hop ((if_pos hv).trans (if_pos hl)) (xp_tr hh hg1))
  have i2 : ∀ {x : Prop}, σ t 0 = 0 → (σ s 0 = 0 ∨ σ t 0 = 0 ∨ σ p 0 = 0 ∨ σ q 0 = 0) := fun h => Or.inr (Or.inl h)
  have i3 : σ p 0 = 0 → (σ s 0 = 0 ∨ σ t 0 = 0 ∨ σ p 0 = 0 ∨ σ q 0 = 0) := fun h => Or.inr (Or.inr (Or.inl h))
  have i4 : σ q 0 = 0 → (σ s 0 = 0 ∨ σ t 0 = 0 ∨ σ p 0 = 0 ∨ σ q 0 = 0) := fun h => Or.inr (Or.inr (Or.inr h))
  have i2 : σ t 0 = 0 → (σ s 0 = 0 ∨ σ t 0 = 0 ∨ σ p 0 = 0 ∨ σ q 0 = 0) := fun h => Or.inr (Or.inl h)
  rcases (hX.2.2.1 s hs8).1 with ls | ls
  · refine z_aload_n E dX5_product_58 rfl ?_
    refine z_iload_n E dX5_product_59 rfl ?_
    refine z_aload_n E dX5_product_60 rfl ?_
    refine z_get E dX5_product_61 (by rfl) flX5_31 (by rfl) ?_
    refine c_V E dX5_product_64 lkX5_117 (ok_reads0 (o := 40) hs8 hX ls 172) (by rfl) rfl rfl rfl (Nat.le_of_ble_eq_true rfl) ⟨(Nat.le_of_ble_eq_true rfl), (Nat.le_of_ble_eq_true rfl)⟩ ⟨rfl, rfl⟩ ⟨Nat.zero_le _, Nat.zero_le _⟩ ?_
    refine z_if_eq (tgt := 107) E (by omega) dX5_product_67 (by decide) (fun h67 => ?_) (fun hq => False.elim (by omega))
    exact hnull (Or.inl ls) A hX (fun _ _ => rfl)
  refine z_aload_n E dX5_product_58 rfl ?_
  refine z_iload_n E dX5_product_59 rfl ?_
  refine z_aload_n E dX5_product_60 rfl ?_
  refine z_get E dX5_product_61 (by rfl) flX5_31 (by rfl) ?_
  refine c_V E dX5_product_64 lkX5_117 (ok_reads1 hs8 s40 (by omega) hX ls 172) (by rfl) rfl rfl rfl (Nat.le_of_ble_eq_true rfl) ⟨(Nat.le_of_ble_eq_true rfl), (Nat.le_of_ble_eq_true rfl)⟩ ⟨rfl, rfl⟩ ⟨Nat.zero_le _, Nat.zero_le _⟩ ?_
  refine z_if_eq (tgt := 107) E (by omega) dX5_product_67 (by decide) (fun hq => False.elim (by omega)) (fun h67 => ?_)
  have hX1 : XI (va_up A (40 + 1) (srS σ s)) σ := hX.ups (by omega)
  have e11 : va_up A (40 + 1) (srS σ s) (40 + 1) = srS σ s := va_up_self _ _ _
  have hh1 : Hi A (va_up A (40 + 1) (srS σ s)) := hi_up (by omega)
  generalize va_up A (40 + 1) (srS σ s) = A1 at *
  rcases (hX.2.2.1 t ht8).1 with lt | lt
  · refine z_aload_n E dX5_product_70 rfl ?_
    refine z_iload_n E dX5_product_71 rfl ?_
    refine z_aload_n E dX5_product_72 rfl ?_
    refine z_get E dX5_product_73 (by rfl) flX5_35 (by rfl) ?_
    refine c_V E dX5_product_76 lkX5_117 (ok_reads0 (o := 42) ht8 hX1 lt 172) (by rfl) rfl rfl rfl (Nat.le_of_ble_eq_true rfl) ⟨(Nat.le_of_ble_eq_true rfl), (Nat.le_of_ble_eq_true rfl)⟩ ⟨rfl, rfl⟩ ⟨Nat.zero_le _, Nat.zero_le _⟩ ?_
    refine z_if_eq (tgt := 107) E (by omega) dX5_product_79 (by decide) (fun h79 => ?_) (fun hq => False.elim (by omega))
    exact hnull (i2 lt) A1 hX1 hh1
  refine z_aload_n E dX5_product_70 rfl ?_
  refine z_iload_n E dX5_product_71 rfl ?_
  refine z_aload_n E dX5_product_72 rfl ?_
  refine z_get E dX5_product_73 (by rfl) flX5_35 (by rfl) ?_
  refine c_V E dX5_product_76 lkX5_117 (ok_reads1 ht8 s42 (by omega) hX1 lt 172) (by rfl) rfl rfl rfl (Nat.le_of_ble_eq_true rfl) ⟨(Nat.le_of_ble_eq_true rfl), (Nat.le_of_ble_eq_true rfl)⟩ ⟨rfl, rfl⟩ ⟨Nat.zero_le _, Nat.zero_le _⟩ ?_
  refine z_if_eq (tgt := 107) E (by omega) dX5_product_79 (by decide) (fun hq => False.elim (by omega)) (fun h79 => ?_)
  have hX2 : XI (va_up A1 (42 + 1) (srS σ t)) σ := hX1.ups (by omega)
  have e21 : va_up A1 (42 + 1) (srS σ t) (40 + 1) = srS σ s := by rw [va_up_ne _ _ (by omega)]; exact e11
  have e22 : va_up A1 (42 + 1) (srS σ t) (42 + 1) = srS σ t := va_up_self _ _ _
  have hh2 : Hi A (va_up A1 (42 + 1) (srS σ t)) := hi_tr hh1 (hi_up (by omega))
  generalize va_up A1 (42 + 1) (srS σ t) = A2 at *
  rcases (hX.2.2.1 p hp8).1 with lp | lp
  · refine z_aload_n E dX5_product_82 rfl ?_
    refine z_iload_n E dX5_product_83 rfl ?_
    refine z_aload_n E dX5_product_84 rfl ?_
    refine z_get E dX5_product_85 (by rfl) flX5_38 (by rfl) ?_
    refine c_V E dX5_product_88 lkX5_117 (ok_reads0 (o := 44) hp8 hX2 lp 172) (by rfl) rfl rfl rfl (Nat.le_of_ble_eq_true rfl) ⟨(Nat.le_of_ble_eq_true rfl), (Nat.le_of_ble_eq_true rfl)⟩ ⟨rfl, rfl⟩ ⟨Nat.zero_le _, Nat.zero_le _⟩ ?_
    refine z_if_eq (tgt := 107) E (by omega) dX5_product_91 (by decide) (fun h91 => ?_) (fun hq => False.elim (by omega))
    exact hnull (i3 lp) A2 hX2 hh2
  refine z_aload_n E dX5_product_82 rfl ?_
  refine z_iload_n E dX5_product_83 rfl ?_
  refine z_aload_n E dX5_product_84 rfl ?_
  refine z_get E dX5_product_85 (by rfl) flX5_38 (by rfl) ?_
  refine c_V E dX5_product_88 lkX5_117 (ok_reads1 hp8 s44 (by omega) hX2 lp 172) (by rfl) rfl rfl rfl (Nat.le_of_ble_eq_true rfl) ⟨(Nat.le_of_ble_eq_true rfl), (Nat.le_of_ble_eq_true rfl)⟩ ⟨rfl, rfl⟩ ⟨Nat.zero_le _, Nat.zero_le _⟩ ?_
  refine z_if_eq (tgt := 107) E (by omega) dX5_product_91 (by decide) (fun hq => False.elim (by omega)) (fun h91 => ?_)
  have hX3 : XI (va_up A2 (44 + 1) (srS σ p)) σ := hX2.ups (by omega)
  have e31 : va_up A2 (44 + 1) (srS σ p) (40 + 1) = srS σ s := by rw [va_up_ne _ _ (by omega)]; exact e21
  have e32 : va_up A2 (44 + 1) (srS σ p) (42 + 1) = srS σ t := by rw [va_up_ne _ _ (by omega)]; exact e22
  have e33 : va_up A2 (44 + 1) (srS σ p) (44 + 1) = srS σ p := va_up_self _ _ _
  have hh3 : Hi A (va_up A2 (44 + 1) (srS σ p)) := hi_tr hh2 (hi_up (by omega))
  generalize va_up A2 (44 + 1) (srS σ p) = A3 at *
  rcases (hX.2.2.1 q hq8).1 with lq | lq
  · refine z_aload_n E dX5_product_94 rfl ?_
    refine z_iload E dX5_product_95 rfl ?_
    refine z_aload_n E dX5_product_97 rfl ?_
    refine z_get E dX5_product_98 (by rfl) flX5_41 (by rfl) ?_
    refine c_V E dX5_product_101 lkX5_117 (ok_reads0 (o := 46) hq8 hX3 lq 172) (by rfl) rfl rfl rfl (Nat.le_of_ble_eq_true rfl) ⟨(Nat.le_of_ble_eq_true rfl), (Nat.le_of_ble_eq_true rfl)⟩ ⟨rfl, rfl⟩ ⟨Nat.zero_le _, Nat.zero_le _⟩ ?_
    refine z_if_ne (tgt := 113) E (by omega) dX5_product_104 (by decide) (fun hq => False.elim (by omega)) (fun h104 => ?_)
    exact hnull (i4 lq) A3 hX3 hh3
  refine z_aload_n E dX5_product_94 rfl ?_
  refine z_iload E dX5_product_95 rfl ?_
  refine z_aload_n E dX5_product_97 rfl ?_
  refine z_get E dX5_product_98 (by rfl) flX5_41 (by rfl) ?_
  refine c_V E dX5_product_101 lkX5_117 (ok_reads1 hq8 s46 (by omega) hX3 lq 172) (by rfl) rfl rfl rfl (Nat.le_of_ble_eq_true rfl) ⟨(Nat.le_of_ble_eq_true rfl), (Nat.le_of_ble_eq_true rfl)⟩ ⟨rfl, rfl⟩ ⟨Nat.zero_le _, Nat.zero_le _⟩ ?_
  refine z_if_ne (tgt := 113) E (by omega) dX5_product_104 (by decide) (fun h104 => ?_) (fun hq => False.elim (by omega))
  have hX4 : XI (va_up A3 (46 + 1) (srS σ q)) σ := hX3.ups (by omega)
  have e41 : va_up A3 (46 + 1) (srS σ q) (40 + 1) = srS σ s := by rw [va_up_ne _ _ (by omega)]; exact e31
  have e42 : va_up A3 (46 + 1) (srS σ q) (42 + 1) = srS σ t := by rw [va_up_ne _ _ (by omega)]; exact e32
  have e43 : va_up A3 (46 + 1) (srS σ q) (44 + 1) = srS σ p := by rw [va_up_ne _ _ (by omega)]; exact e33
  have e44 : va_up A3 (46 + 1) (srS σ q) (46 + 1) = srS σ q := va_up_self _ _ _
  have hh4 : Hi A (va_up A3 (46 + 1) (srS σ q)) := hi_tr hh3 (hi_up (by omega))
  generalize va_up A3 (46 + 1) (srS σ q) = A4 at *
  have rs := srS_rok σ s
  have rt := srS_rok σ t
  have rp := srS_rok σ p
  have rq := srS_rok σ q
  have hnl : ¬ (σ s 0 = 0 ∨ σ t 0 = 0 ∨ σ p 0 = 0 ∨ σ q 0 = 0) := by omega
  have hnot : ¬ (srS σ t 0 = 0 ∧ srS σ q 0 = 0) → Zc X 133 [some (.ref 0), some (.int (iI (s : Int))), some (.int (iI (t : Int))), some (.int (iI (p : Int))), some (.int (iI (q : Int))), some (.int (iI (u : Int))), some (.int (iI (v : Int)))] [] 172 (mA A4) 0 0 := by
    intro hl
    refine z_bipush E (by decide) dX5_product_133 ?_
    exact z_iret E F dX5_product_135 (fin hop ((if_pos hv).trans ((if_neg hnl).trans (if_neg hl))) (xp_to hX4 hh4))
  refine z_aload_n E dX5_product_113 rfl ?_
  refine z_get E dX5_product_114 (by rfl) flX5_35 (by rfl) ?_
  refine c_V E dX5_product_117 lkX5_138 (ok_canBePutIn s42 A4 (by rw [e42]; exact rt) 172) (by rfl) rfl rfl rfl (Nat.le_of_ble_eq_true rfl) ⟨(Nat.le_of_ble_eq_true rfl), (Nat.le_of_ble_eq_true rfl)⟩ ⟨rfl, rfl⟩ ⟨Nat.zero_le _, Nat.zero_le _⟩ ?_
  rw [e42, if_b01]
  refine z_bif_eq (tgt := 133) E dX5_product_120 (by decide) (fun h120 => ?_) (fun h120 => ?_)
  · exact hnot (fun v => h120 v.1)
  refine z_aload_n E dX5_product_123 rfl ?_
  refine z_get E dX5_product_124 (by rfl) flX5_41 (by rfl) ?_
  refine c_V E dX5_product_127 lkX5_138 (ok_canBePutIn s46 A4 (by rw [e44]; exact rq) 172) (by rfl) rfl rfl rfl (Nat.le_of_ble_eq_true rfl) ⟨(Nat.le_of_ble_eq_true rfl), (Nat.le_of_ble_eq_true rfl)⟩ ⟨rfl, rfl⟩ ⟨Nat.zero_le _, Nat.zero_le _⟩ ?_
  rw [e44, if_b01]
  refine z_bif_ne (tgt := 136) E dX5_product_130 (by decide) (fun h130 => ?_) (fun h130 => ?_)
  case refine_2 => exact hnot (fun v => h130 v.2)
  refine z_aload_n E dX5_product_136 rfl ?_
  refine z_get E dX5_product_137 (by rfl) flX5_44 (by rfl) ?_
  refine z_aload_n E dX5_product_140 rfl ?_
  refine z_get E dX5_product_141 (by rfl) flX5_38 (by rfl) ?_
  refine z_aload_n E dX5_product_144 rfl ?_
  refine z_get E dX5_product_145 (by rfl) flX5_35 (by rfl) ?_
  refine c_V0 E dX5_product_148 lkX5_141 (ok_becomeInto s48 s44 s42 (by omega) (by omega) A4 (by rw [e43]; exact rp) (by rw [e42]; exact rt) 172) (by rfl) rfl rfl rfl (Nat.le_of_ble_eq_true rfl) ⟨(Nat.le_of_ble_eq_true rfl), (Nat.le_of_ble_eq_true rfl)⟩ ⟨rfl, rfl⟩ ⟨Nat.zero_le _, Nat.zero_le _⟩ ?_
  rw [e43, e42]
  have g1 : va_up A4 (48 + 1) (hoS (srS σ p) (srS σ t) 9) (40 + 1) = srS σ s := by rw [va_up_ne _ _ (by omega)]; exact e41
  have g2 : va_up A4 (48 + 1) (hoS (srS σ p) (srS σ t) 9) (48 + 1) = hoS (srS σ p) (srS σ t) 9 := va_up_self _ _ _
  refine z_aload_n E dX5_product_151 rfl ?_
  refine z_get E dX5_product_152 (by rfl) flX5_44 (by rfl) ?_
  refine z_aload_n E dX5_product_155 rfl ?_
  refine z_get E dX5_product_156 (by rfl) flX5_31 (by rfl) ?_
  refine z_aload_n E dX5_product_159 rfl ?_
  refine z_get E dX5_product_160 (by rfl) flX5_44 (by rfl) ?_
  refine c_V0 E dX5_product_163 lkX5_128 (ok_becomeTimes s48 s40 s48 _ (by rw [g1]; exact rs) (by rw [g2]; exact hoS_rok _ rp 9) 172) (by rfl) rfl rfl rfl (Nat.le_of_ble_eq_true rfl) ⟨(Nat.le_of_ble_eq_true rfl), (Nat.le_of_ble_eq_true rfl)⟩ ⟨rfl, rfl⟩ ⟨Nat.zero_le _, Nat.zero_le _⟩ ?_
  rw [g1, g2, va_uu]
  generalize hfm : mulS (srS σ s) (hoS (srS σ p) (srS σ t) 9) = fm
  have rfm : rok fm := by rw [← hfm]; exact mulS_rok _ _
  have g3 : va_up A4 (48 + 1) fm (42 + 1) = srS σ t := by rw [va_up_ne _ _ (by omega)]; exact e42
  have g4 : va_up A4 (48 + 1) fm (46 + 1) = srS σ q := by rw [va_up_ne _ _ (by omega)]; exact e44
  refine z_aload_n E dX5_product_166 rfl ?_
  refine z_get E dX5_product_167 (by rfl) flX5_47 (by rfl) ?_
  refine z_aload_n E dX5_product_170 rfl ?_
  refine z_get E dX5_product_171 (by rfl) flX5_41 (by rfl) ?_
  refine z_aload_n E dX5_product_174 rfl ?_
  refine z_get E dX5_product_175 (by rfl) flX5_35 (by rfl) ?_
  refine c_V0 E dX5_product_178 lkX5_141 (ok_becomeInto s50 s46 s42 (by omega) (by omega) _ (by rw [g4]; exact rq) (by rw [g3]; exact rt) 172) (by rfl) rfl rfl rfl (Nat.le_of_ble_eq_true rfl) ⟨(Nat.le_of_ble_eq_true rfl), (Nat.le_of_ble_eq_true rfl)⟩ ⟨rfl, rfl⟩ ⟨Nat.zero_le _, Nat.zero_le _⟩ ?_
  rw [g4, g3]
  generalize hfo : hoS (srS σ q) (srS σ t) 9 = fo
  have rfo : rok fo := by rw [← hfo]; exact hoS_rok _ rq 9
  have hX5 : XI (va_up (va_up A4 (48 + 1) fm) (50 + 1) fo) σ := (hX4.ups (by omega)).ups (by omega)
  have g5 : va_up (va_up A4 (48 + 1) fm) (50 + 1) fo (48 + 1) = fm := by rw [va_up_ne _ _ (by omega), va_up_self]
  have g6 : va_up (va_up A4 (48 + 1) fm) (50 + 1) fo (50 + 1) = fo := va_up_self _ _ _
  have hh5 : Hi A (va_up (va_up A4 (48 + 1) fm) (50 + 1) fo) := hi_tr hh4 (hi_tr (hi_up (by omega)) (hi_up (by omega)))
  generalize va_up (va_up A4 (48 + 1) fm) (50 + 1) fo = A5 at *
  refine z_aload_n E dX5_product_181 rfl ?_
  refine z_iload E dX5_product_182 rfl ?_
  refine z_aload_n E dX5_product_184 rfl ?_
  refine z_get E dX5_product_185 (by rfl) flX5_44 (by rfl) ?_
  refine c_VQ E dX5_product_188 lkX5_113 (ok_becomes hu8 s48 hX5 fm g5 rfm 172) (by rfl) rfl rfl rfl (Nat.le_of_ble_eq_true rfl) ⟨(Nat.le_of_ble_eq_true rfl), (Nat.le_of_ble_eq_true rfl)⟩ ⟨rfl, rfl⟩ ⟨Nat.zero_le _, Nat.zero_le _⟩ (fun g1 hg1 => ?_)
  obtain ⟨A6, rfl, hX6, hh6, hl6⟩ := hg1
  have g7 : A6 (50 + 1) = fo := by rw [hl6 (50 + 1) (by omega)]; exact g6
  refine z_pop E dX5_product_191 rfl ?_
  refine z_aload_n E dX5_product_192 rfl ?_
  refine z_iload E dX5_product_193 rfl ?_
  refine z_aload_n E dX5_product_195 rfl ?_
  refine z_get E dX5_product_196 (by rfl) flX5_47 (by rfl) ?_
  refine c_VQ E dX5_product_199 lkX5_113 (ok_becomes hv8 s50 hX6 fo g7 rfo 172) (by rfl) rfl rfl rfl (Nat.le_of_ble_eq_true rfl) ⟨(Nat.le_of_ble_eq_true rfl), (Nat.le_of_ble_eq_true rfl)⟩ ⟨rfl, rfl⟩ ⟨Nat.zero_le _, Nat.zero_le _⟩ (fun g1 hg1 => ?_)
  obtain ⟨A7, rfl, hX7, hh7, -⟩ := hg1
  refine z_pop E dX5_product_202 rfl ?_
  refine z_iconst E dX5_product_203 ?_
  have hres : opProd σ (s : Int) (t : Int) (p : Int) (q : Int) (u : Int) (v : Int) = (1, setSr (setSr σ u fm) v fo) := by
    rw [← hfm, ← hfo]
    exact (if_pos hv).trans ((if_neg hnl).trans (if_pos ⟨h120, h130⟩))
  exact z_iret E F dX5_product_204 (fin hop hres (xp_to hX7 (hi_tr hh5 (hi_tr hh6 hh7))))
/-- items of one SHEET laid into another -/
theorem XI.cp {A : Nat → Nat → Int} {σ : St} (h : XI A σ) {s i t j n : Nat} (hs : s < 8) (ht : t < 8) (h1 : i + n ≤ 20) (h2 : j + n ≤ 20) : XI (va_up A (53 + 2 * t) (cpy (A (53 + 2 * s)) (A (53 + 2 * t)) i j n)) (va_up σ t (cpR σ s i t j n)) := by
  obtain ⟨hK, hV, hS⟩ := h
  have e : ∀ k, k ≠ 53 + 2 * t → va_up A (53 + 2 * t) (cpy (A (53 + 2 * s)) (A (53 + 2 * t)) i j n) k = A k := fun k hk => va_up_ne _ _ hk
  have e2 : ∀ r, r ≠ t → va_up σ t (cpR σ s i t j n) r = σ r := fun r hr => va_up_ne _ _ hr
  have c0 : ∀ q, q < 3 → cpR σ s i t j n q = σ t q := fun q hq => by unfold cpR; rw [if_neg (by omega)]
  refine ⟨⟨fun m h1 h2 => by rw [e 4 (by omega)]; exact hK.1 m h1 h2, fun m hm => by rw [e 5 (by omega)]; exact hK.2.1 m hm, fun m hm => by rw [e 6 (by omega)]; exact hK.2.2.1 m hm, by rw [e 31 (by omega)]; exact hK.2.2.2.1, fun m k hk hm => by rw [e (8 + m) (by omega)]; exact hK.2.2.2.2 m k hk hm⟩, ⟨fun r hr => ?_, fun k hk => ?_, ?_⟩, ⟨fun r hr => ?_, fun k hk => ?_, ?_⟩⟩
  · by_cases er : r = t
    · subst er
      obtain ⟨v1, v2, v3, v4⟩ := hV.1 r hr
      rw [e (52 + 2 * r) (by omega), va_up_self, va_up_self, c0 0 (by omega), c0 1 (by omega), c0 2 (by omega)]
      refine ⟨v1, v2, v3, fun q hq => ?_⟩
      unfold cpy cpR
      by_cases c : j ≤ q ∧ q < j + n
      · rw [if_pos c, if_pos (by omega), (hV.1 s hs).2.2.2 (i + (q - j)) (by omega)]
        congr 1
        omega
      · rw [if_neg c, if_neg (by omega)]; exact v4 q hq
    · rw [e (52 + 2 * r) (by omega), e (53 + 2 * r) (by omega), e2 r er]; exact hV.1 r hr
  · refine ⟨by rw [e (68 + 22 * k) (by omega), e2 (8 + k) (by omega)]; exact (hV.2.1 k hk).1, fun m q hm hq => ?_⟩
    rw [e (70 + 22 * k + 2 * m + 1) (by omega), e2 (8 + k) (by omega)]; exact (hV.2.1 k hk).2 m q hm hq
  · rw [e 0 (by omega), e2 12 (by omega)]; exact hV.2.2
  · by_cases er : r = t
    · subst er
      obtain ⟨r1, r2, r3, r4⟩ := hS.1 r hr
      rw [va_up_self, c0 0 (by omega), c0 1 (by omega), c0 2 (by omega)]
      refine ⟨r1, r2, r3, fun q hq => ?_⟩
      unfold cpR
      by_cases c : 3 + j ≤ 3 + q ∧ 3 + q < 3 + j + n
      · rw [if_pos c, show 3 + i + (3 + q - (3 + j)) = 3 + (i + (q - j)) by omega]; exact (hS.1 s hs).2.2.2 _ (by omega)
      · rw [if_neg c]; exact r4 q hq
    · rw [e2 r er]; exact hS.1 r hr
  · rw [e2 (8 + k) (by omega)]; exact hS.2.1 k hk
  · rw [e2 12 (by omega)]; exact hS.2.2
set_option maxRecDepth 100000 in
theorem x_copy {A : Nat → Nat → Int} {σ : St} (hX : XI A σ) (s i t j n : Int) (hs : inR s) (hi : inR i) (ht : inR t) (hj : inR j) (hn : inR n) : OkI mX5_copy [.ref 0, .int (iI s), .int (iI i), .int (iI t), .int (iI j), .int (iI n)] 172 (mA A) (.int (iI (opCopy σ s i t j n).1)) (XP A (opCopy σ s i t j n).2) := by
  generalize hop : opCopy σ s i t j n = R
  refine OkM.of [some (.ref 0), some (.int (iI s)), some (.int (iI i)), some (.int (iI t)), some (.int (iI j)), some (.int (iI n))] (by decide +kernel) rfl (Nat.le_of_ble_eq_true rfl) ?_
  intro X E F
  have hbad : ¬ (iS s ∧ iS t) → Zc X 14 [some (.ref 0), some (.int (iI s)), some (.int (iI i)), some (.int (iI t)), some (.int (iI j)), some (.int (iI n))] [] 172 (mA A) 0 0 := by
    intro hv
    refine z_bipush E (by decide) dX5_copy_14 ?_
    exact z_iret E F dX5_copy_16 (fin hop (if_neg hv) (xp_same hX))
  refine z_iload_n E dX5_copy_0 rfl ?_
  refine c_S E dX5_copy_1 lkX5_56 (ok_isSheet5 s hs 172 _) rfl rfl rfl (Nat.le_of_ble_eq_true rfl) ⟨(Nat.le_of_ble_eq_true rfl), (Nat.le_of_ble_eq_true rfl)⟩ ⟨rfl, rfl⟩ ⟨Nat.zero_le _, Nat.zero_le _⟩ ?_
  refine z_bif_eq (tgt := 14) E dX5_copy_4 (by decide) (fun h4 => ?_) (fun h4 => ?_)
  · exact hbad (fun v => h4 v.1)
  refine z_iload_n E dX5_copy_7 rfl ?_
  refine c_S E dX5_copy_8 lkX5_56 (ok_isSheet5 t ht 172 _) rfl rfl rfl (Nat.le_of_ble_eq_true rfl) ⟨(Nat.le_of_ble_eq_true rfl), (Nat.le_of_ble_eq_true rfl)⟩ ⟨rfl, rfl⟩ ⟨Nat.zero_le _, Nat.zero_le _⟩ ?_
  refine z_bif_ne (tgt := 17) E dX5_copy_11 (by decide) (fun h11 => ?_) (fun h11 => ?_)
  case refine_2 => exact hbad (fun v => h11 v.2)
  have hv : iS s ∧ iS t := ⟨h4, h11⟩
  obtain ⟨s, rfl⟩ := nat_of h4.1
  obtain ⟨t, rfl⟩ := nat_of h11.1
  have hs8 : s < 8 := by omega
  have ht8 : t < 8 := by omega
  obtain ⟨v1, v2, v3, v4⟩ := hX.2.1.1 s hs8
  obtain ⟨w1, w2, w3, w4⟩ := hX.2.1.1 t ht8
  obtain ⟨r1, r2, r3, r4⟩ := hX.2.2.1 s hs8
  obtain ⟨q1, q2, q3, q4⟩ := hX.2.2.1 t ht8
  have hnull : (σ s 0 = 0 ∨ σ t 0 = 0) → ∀ A2, XI A2 σ → Hi A A2 → Zc X 41 [some (.ref 0), some (.int (iI (s : Int))), some (.int (iI i)), some (.int (iI (t : Int))), some (.int (iI j)), some (.int (iI n))] [] 172 (mA A2) 0 0 := by
    intro hl A2 hX2 hh
    refine z_aload_n E dX5_copy_41 rfl ?_
    refine z_iconst E dX5_copy_42 ?_
    refine c_VQ E dX5_copy_43 lkX5_63 (ok_found hX2 1 (by omega) 172) (by rfl) rfl rfl rfl (Nat.le_of_ble_eq_true rfl) ⟨(Nat.le_of_ble_eq_true rfl), (Nat.le_of_ble_eq_true rfl)⟩ ⟨rfl, rfl⟩ ⟨Nat.zero_le _, Nat.zero_le _⟩ (fun g1 hg1 => ?_)
    exact z_iret E F dX5_copy_46 (fin hop ((if_pos hv).trans (if_pos hl)) (xp_tr hh hg1))
  refine z_aload_n E dX5_copy_17 rfl ?_
  refine z_get E dX5_copy_18 (by rfl) flX5_11 (by rfl) ?_
  refine z_iload_n E dX5_copy_21 rfl ?_
  refine a_aald (j := s) E dX5_copy_22 rfl (by omega) (by omega) (by omega) (by omega) ?_
  refine z_get E dX5_copy_23 (cel_sheet hs8 _) flX5_71 (by rfl) ?_
  rw [v1]
  refine z_if_ne (tgt := 41) E (by omega) dX5_copy_26 (by decide) (fun h26 => ?_) (fun h26 => ?_)
  · exact hnull (Or.inl (by omega)) A hX (fun _ _ => rfl)
  refine z_aload_n E dX5_copy_29 rfl ?_
  refine z_get E dX5_copy_30 (by rfl) flX5_11 (by rfl) ?_
  refine z_iload_n E dX5_copy_33 rfl ?_
  refine a_aald (j := t) E dX5_copy_34 rfl (by omega) (by omega) (by omega) (by omega) ?_
  refine z_get E dX5_copy_35 (cel_sheet ht8 _) flX5_71 (by rfl) ?_
  rw [w1]
  refine z_if_eq (tgt := 47) E (by omega) dX5_copy_38 (by decide) (fun h38 => ?_) (fun h38 => ?_)
  case refine_2 => exact hnull (Or.inr (by omega)) A hX (fun _ _ => rfl)
  have hnl : ¬ (σ s 0 = 0 ∨ σ t 0 = 0) := by omega
  refine z_aload_n E dX5_copy_47 rfl ?_
  refine z_get E dX5_copy_48 (by rfl) flX5_11 (by rfl) ?_
  refine z_iload_n E dX5_copy_51 rfl ?_
  refine a_aald (j := s) E dX5_copy_52 rfl (by omega) (by omega) (by omega) (by omega) ?_
  refine z_get E dX5_copy_53 (cel_sheet hs8 _) flX5_90 (by rfl) ?_
  rw [v2]
  refine z_aload_n E dX5_copy_56 rfl ?_
  refine z_get E dX5_copy_57 (by rfl) flX5_11 (by rfl) ?_
  refine z_iload_n E dX5_copy_60 rfl ?_
  refine a_aald (j := t) E dX5_copy_61 rfl (by omega) (by omega) (by omega) (by omega) ?_
  refine z_get E dX5_copy_62 (cel_sheet ht8 _) flX5_90 (by rfl) ?_
  rw [w2]
  refine z_icmp_eq (tgt := 74) E (by omega) (by omega) dX5_copy_65 (by decide) (fun h65 => ?_) (fun h65 => ?_)
  case refine_2 =>
    refine z_aload_n E dX5_copy_68 rfl ?_
    refine z_iconst E dX5_copy_69 ?_
    refine c_VQ E dX5_copy_70 lkX5_63 (ok_found hX 4 (by omega) 172) (by rfl) rfl rfl rfl (Nat.le_of_ble_eq_true rfl) ⟨(Nat.le_of_ble_eq_true rfl), (Nat.le_of_ble_eq_true rfl)⟩ ⟨rfl, rfl⟩ ⟨Nat.zero_le _, Nat.zero_le _⟩ (fun g1 hg1 => ?_)
    exact z_iret E F dX5_copy_73 (fin hop ((if_pos hv).trans ((if_neg hnl).trans (if_neg h65))) hg1)
  have hidx : ¬ ((0 ≤ i ∧ 0 ≤ n ∧ i + n ≤ σ s 2) ∧ (0 ≤ j ∧ 0 ≤ n ∧ j + n ≤ σ t 2)) → Zc X 105 [some (.ref 0), some (.int (iI (s : Int))), some (.int (iI i)), some (.int (iI (t : Int))), some (.int (iI j)), some (.int (iI n))] [] 172 (mA A) 0 0 := by
    intro hl
    refine z_aload_n E dX5_copy_105 rfl ?_
    refine z_iconst E dX5_copy_106 ?_
    refine c_VQ E dX5_copy_107 lkX5_63 (ok_found hX 2 (by omega) 172) (by rfl) rfl rfl rfl (Nat.le_of_ble_eq_true rfl) ⟨(Nat.le_of_ble_eq_true rfl), (Nat.le_of_ble_eq_true rfl)⟩ ⟨rfl, rfl⟩ ⟨Nat.zero_le _, Nat.zero_le _⟩ (fun g1 hg1 => ?_)
    exact z_iret E F dX5_copy_110 (fin hop ((if_pos hv).trans ((if_neg hnl).trans ((if_pos h65).trans (if_neg hl)))) hg1)
  refine z_aload_n E dX5_copy_74 rfl ?_
  refine z_get E dX5_copy_75 (by rfl) flX5_11 (by rfl) ?_
  refine z_iload_n E dX5_copy_78 rfl ?_
  refine a_aald (j := s) E dX5_copy_79 rfl (by omega) (by omega) (by omega) (by omega) ?_
  refine z_iload_n E dX5_copy_80 rfl ?_
  refine z_iload E dX5_copy_81 rfl ?_
  refine c_V E dX5_copy_83 lkX5_93 (ok_hasStretch hs8 hX i n hi hn 172) (cel_sheet hs8 _) rfl rfl rfl (Nat.le_of_ble_eq_true rfl) ⟨(Nat.le_of_ble_eq_true rfl), (Nat.le_of_ble_eq_true rfl)⟩ ⟨rfl, rfl⟩ ⟨Nat.zero_le _, Nat.zero_le _⟩ ?_
  refine z_bif_eq (tgt := 105) E dX5_copy_86 (by decide) (fun h86 => ?_) (fun h86 => ?_)
  · exact hidx (fun v => h86 v.1)
  refine z_aload_n E dX5_copy_89 rfl ?_
  refine z_get E dX5_copy_90 (by rfl) flX5_11 (by rfl) ?_
  refine z_iload_n E dX5_copy_93 rfl ?_
  refine a_aald (j := t) E dX5_copy_94 rfl (by omega) (by omega) (by omega) (by omega) ?_
  refine z_iload E dX5_copy_95 rfl ?_
  refine z_iload E dX5_copy_97 rfl ?_
  refine c_V E dX5_copy_99 lkX5_93 (ok_hasStretch ht8 hX j n hj hn 172) (cel_sheet ht8 _) rfl rfl rfl (Nat.le_of_ble_eq_true rfl) ⟨(Nat.le_of_ble_eq_true rfl), (Nat.le_of_ble_eq_true rfl)⟩ ⟨rfl, rfl⟩ ⟨Nat.zero_le _, Nat.zero_le _⟩ ?_
  refine z_bif_ne (tgt := 111) E dX5_copy_102 (by decide) (fun h102 => ?_) (fun h102 => ?_)
  case refine_2 => exact hidx (fun v => h102 v.2)
  obtain ⟨i, rfl⟩ := nat_of h86.1
  obtain ⟨j, rfl⟩ := nat_of h102.1
  obtain ⟨n, rfl⟩ := nat_of h86.2.1
  refine z_aload_n E dX5_copy_111 rfl ?_
  refine z_get E dX5_copy_112 (by rfl) flX5_11 (by rfl) ?_
  refine z_iload_n E dX5_copy_115 rfl ?_
  refine a_aald (j := s) E dX5_copy_116 rfl (by omega) (by omega) (by omega) (by omega) ?_
  refine z_get E dX5_copy_117 (cel_sheet hs8 _) flX5_82 (by rfl) ?_
  refine z_iload_n E dX5_copy_120 rfl ?_
  refine z_aload_n E dX5_copy_121 rfl ?_
  refine z_get E dX5_copy_122 (by rfl) flX5_11 (by rfl) ?_
  refine z_iload_n E dX5_copy_125 rfl ?_
  refine a_aald (j := t) E dX5_copy_126 rfl (by omega) (by omega) (by omega) (by omega) ?_
  refine z_get E dX5_copy_127 (cel_sheet ht8 _) flX5_82 (by rfl) ?_
  refine z_iload E dX5_copy_130 rfl ?_
  refine z_iload E dX5_copy_132 rfl ?_
  refine z_copy (sp := i) (dp := j) (n := n) E dX5_copy_134 lkX5_97 (cel_items hs8 _) (cel_items ht8 _) rfl rfl rfl (by omega) (by omega) (by omega) rfl (Nat.le_of_ble_eq_true rfl) (Nat.le_of_ble_eq_true rfl) ?_
  rw [← cel_items ht8, mA_up]
  refine z_iconst E dX5_copy_137 ?_
  exact z_iret E F dX5_copy_138 (fin hop ((if_pos hv).trans ((if_neg hnl).trans ((if_pos h65).trans (if_pos ⟨h86, h102⟩)))) (xp_to (hX.cp hs8 ht8 (by omega) (by omega)) (hi_up (by omega))))
