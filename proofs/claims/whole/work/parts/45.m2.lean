/-! the reference's calls on series -/
theorem jnS_rok (w : Int) (a b : Nat → Int) : rok (jnS w a b) := by
  unfold jnS
  split
  · intro j _; unfold addS; omega
  · split
    · intro j _; unfold subS; omega
    · exact mulS_rok _ _
set_option maxRecDepth 100000 in
theorem m_join {A : Nat → Nat → Int} {σ : St} (hM : MI A σ) (s t u w : Int) (hs : inR s) (ht : inR t) (hu : inR u) (hw : inR w) : OkI mX6_join [.ref 156, .int (iI s), .int (iI t), .int (iI u), .int (iI w)] 172 (mA A) (.int (iI (opJoin σ s t u w).1)) (MP A (opJoin σ s t u w).2) := by
  generalize hop : opJoin σ s t u w = R
  refine OkM.of [some (.ref 156), some (.int (iI s)), some (.int (iI t)), some (.int (iI u)), some (.int (iI w)), none] (by decide +kernel) rfl (Nat.le_of_ble_eq_true rfl) ?_
  intro X E F
  have hbad : ¬ (iS s ∧ iS t ∧ iS u ∧ (0 ≤ w ∧ w ≤ 2)) → Zc X 31 [some (.ref 156), some (.int (iI s)), some (.int (iI t)), some (.int (iI u)), some (.int (iI w)), none] [] 172 (mA A) 0 0 := by
    intro hv
    refine z_bipush E (by decide) dX6_join_31 ?_
    exact z_iret E F dX6_join_33 (fin hop (if_neg hv) (mp_same hM))
  refine z_iload_n E dX6_join_0 rfl ?_
  refine c_S E dX6_join_1 lkX6_74 (ok_isSheet6 s hs 172 _) rfl rfl rfl (Nat.le_of_ble_eq_true rfl) ⟨(Nat.le_of_ble_eq_true rfl), (Nat.le_of_ble_eq_true rfl)⟩ ⟨rfl, rfl⟩ ⟨Nat.zero_le _, Nat.zero_le _⟩ ?_
  refine z_bif_eq (tgt := 31) E dX6_join_4 (by decide) (fun h4 => hbad (fun v => h4 v.1)) (fun h4 => ?_)
  refine z_iload_n E dX6_join_7 rfl ?_
  refine c_S E dX6_join_8 lkX6_74 (ok_isSheet6 t ht 172 _) rfl rfl rfl (Nat.le_of_ble_eq_true rfl) ⟨(Nat.le_of_ble_eq_true rfl), (Nat.le_of_ble_eq_true rfl)⟩ ⟨rfl, rfl⟩ ⟨Nat.zero_le _, Nat.zero_le _⟩ ?_
  refine z_bif_eq (tgt := 31) E dX6_join_11 (by decide) (fun h11 => hbad (fun v => h11 v.2.1)) (fun h11 => ?_)
  refine z_iload_n E dX6_join_14 rfl ?_
  refine c_S E dX6_join_15 lkX6_74 (ok_isSheet6 u hu 172 _) rfl rfl rfl (Nat.le_of_ble_eq_true rfl) ⟨(Nat.le_of_ble_eq_true rfl), (Nat.le_of_ble_eq_true rfl)⟩ ⟨rfl, rfl⟩ ⟨Nat.zero_le _, Nat.zero_le _⟩ ?_
  refine z_bif_eq (tgt := 31) E dX6_join_18 (by decide) (fun h18 => hbad (fun v => h18 v.2.2.1)) (fun h18 => ?_)
  refine z_iload E dX6_join_21 rfl ?_
  refine z_iconst E dX6_join_23 ?_
  refine z_iconst E dX6_join_24 ?_
  refine c_S E dX6_join_25 lkX6_70 (ok_inB w 0 2 (0 ≤ w ∧ w ≤ 2) (by omega) hw (by omega) (by omega) 172 _) rfl rfl rfl (Nat.le_of_ble_eq_true rfl) ⟨(Nat.le_of_ble_eq_true rfl), (Nat.le_of_ble_eq_true rfl)⟩ ⟨rfl, rfl⟩ ⟨Nat.zero_le _, Nat.zero_le _⟩ ?_
  refine z_bif_ne (tgt := 34) E dX6_join_28 (by decide) (fun h28 => ?_) (fun h28 => hbad (fun v => h28 v.2.2.2))
  have hv : iS s ∧ iS t ∧ iS u ∧ (0 ≤ w ∧ w ≤ 2) := ⟨h4, h11, h18, h28⟩
  obtain ⟨⟨s, rfl⟩, ⟨t, rfl⟩, ⟨u, rfl⟩⟩ := And.intro (nat_of h4.1) (And.intro (nat_of h11.1) (nat_of h18.1))
  have hs8 : s < 8 := by omega
  have ht8 : t < 8 := by omega
  have hu8 : u < 8 := by omega
  rcases (hM.2.1 s hs8).1 with ls | ls
  · refine z_aload_n E dX6_join_34 rfl ?_
    refine z_iload_n E dX6_join_35 rfl ?_
    refine c_VQ E dX6_join_36 lkX6_118 (ok_isLost0 hM hs8 ls 172) (by rfl) rfl rfl rfl (Nat.le_of_ble_eq_true rfl) ⟨(Nat.le_of_ble_eq_true rfl), (Nat.le_of_ble_eq_true rfl)⟩ ⟨rfl, rfl⟩ ⟨Nat.zero_le _, Nat.zero_le _⟩ (fun g1 hg1 => ?_)
    refine z_if_ne (tgt := 50) E (by omega) dX6_join_39 (by decide) (fun h39 => ?_) (fun hq => False.elim (by omega))
    refine z_bipush E (by decide) dX6_join_50 ?_
    exact z_iret E F dX6_join_52 (fin hop ((if_pos hv).trans (if_pos (Or.inl ls))) hg1)
  refine z_aload_n E dX6_join_34 rfl ?_
  refine z_iload_n E dX6_join_35 rfl ?_
  refine c_V E dX6_join_36 lkX6_118 (ok_isLost1 hM hs8 ls 172) (by rfl) rfl rfl rfl (Nat.le_of_ble_eq_true rfl) ⟨(Nat.le_of_ble_eq_true rfl), (Nat.le_of_ble_eq_true rfl)⟩ ⟨rfl, rfl⟩ ⟨Nat.zero_le _, Nat.zero_le _⟩ ?_
  refine z_if_ne (tgt := 50) E (by omega) dX6_join_39 (by decide) (fun hq => False.elim (by omega)) (fun h39 => ?_)
  rcases (hM.2.1 t ht8).1 with lt | lt
  · refine z_aload_n E dX6_join_42 rfl ?_
    refine z_iload_n E dX6_join_43 rfl ?_
    refine c_VQ E dX6_join_44 lkX6_118 (ok_isLost0 hM ht8 lt 172) (by rfl) rfl rfl rfl (Nat.le_of_ble_eq_true rfl) ⟨(Nat.le_of_ble_eq_true rfl), (Nat.le_of_ble_eq_true rfl)⟩ ⟨rfl, rfl⟩ ⟨Nat.zero_le _, Nat.zero_le _⟩ (fun g1 hg1 => ?_)
    refine z_if_eq (tgt := 53) E (by omega) dX6_join_47 (by decide) (fun hq => False.elim (by omega)) (fun h47 => ?_)
    refine z_bipush E (by decide) dX6_join_50 ?_
    exact z_iret E F dX6_join_52 (fin hop ((if_pos hv).trans (if_pos (Or.inr lt))) hg1)
  refine z_aload_n E dX6_join_42 rfl ?_
  refine z_iload_n E dX6_join_43 rfl ?_
  refine c_V E dX6_join_44 lkX6_118 (ok_isLost1 hM ht8 lt 172) (by rfl) rfl rfl rfl (Nat.le_of_ble_eq_true rfl) ⟨(Nat.le_of_ble_eq_true rfl), (Nat.le_of_ble_eq_true rfl)⟩ ⟨rfl, rfl⟩ ⟨Nat.zero_le _, Nat.zero_le _⟩ ?_
  refine z_if_eq (tgt := 53) E (by omega) dX6_join_47 (by decide) (fun h47 => ?_) (fun hq => False.elim (by omega))
  have hl : ¬ (σ s 0 = 0 ∨ σ t 0 = 0) := by omega
  refine z_aload_n E dX6_join_53 rfl ?_
  refine z_iload_n E dX6_join_54 rfl ?_
  refine z_aload_n E dX6_join_55 rfl ?_
  refine z_get E dX6_join_56 (by rfl) flX6_26 (by rfl) ?_
  refine c_V0 E dX6_join_59 lkX6_105 (ok_read hM hs8 t162 172) (by rfl) rfl rfl rfl (Nat.le_of_ble_eq_true rfl) ⟨(Nat.le_of_ble_eq_true rfl), (Nat.le_of_ble_eq_true rfl)⟩ ⟨rfl, rfl⟩ ⟨Nat.zero_le _, Nat.zero_le _⟩ ?_
  refine z_aload_n E dX6_join_62 rfl ?_
  refine z_iload_n E dX6_join_63 rfl ?_
  refine z_aload_n E dX6_join_64 rfl ?_
  refine z_get E dX6_join_65 (by rfl) flX6_29 (by rfl) ?_
  refine c_V0 E dX6_join_68 lkX6_105 (ok_read (hM.ups (by omega)) ht8 t163 172) (by rfl) rfl rfl rfl (Nat.le_of_ble_eq_true rfl) ⟨(Nat.le_of_ble_eq_true rfl), (Nat.le_of_ble_eq_true rfl)⟩ ⟨rfl, rfl⟩ ⟨Nat.zero_le _, Nat.zero_le _⟩ ?_
  generalize hB : va_up (va_up A 162 (srS σ s)) 163 (srS σ t) = B
  have hMB : MI B σ := by rw [← hB]; exact (hM.ups (by omega)).ups (by omega)
  have loB : Lo A B := by rw [← hB]; exact lo_tr (lo_up (by omega)) (lo_up (by omega))
  have b2 : B 162 = srS σ s := by rw [← hB, va_up_ne _ _ (by omega), va_up_self]
  have b3 : B 163 = srS σ t := by rw [← hB, va_up_self]
  have rs := srS_rok σ s
  have rt := srS_rok σ t
  refine z_iconst E dX6_join_71 ?_
  refine z_istore (ls' := [_, _, _, _, _, _]) E dX6_join_72 (Nat.le_of_ble_eq_true rfl) rfl ?_
  have loop : ∀ (m i : Nat), i + m = 10 → ∀ A' : Nat → Nat → Int, A' = va_up B 164 (fun j => if j < i then (if w = 0 then addS (srS σ s) (srS σ t) j else subS (srS σ s) (srS σ t) j) else B 164 j) → Zc X 74 [some (.ref 156), some (.int (iI (s : Int))), some (.int (iI (t : Int))), some (.int (iI (u : Int))), some (.int (iI w)), some (.int (iI (i : Int)))] [] 172 (mA A') 0 0 := by
    intro m
    induction m with
    | zero =>
      intro i hi A' hA
      have e0 : mA A' = mA (va_up B 164 (fun j => if w = 0 then addS (srS σ s) (srS σ t) j else subS (srS σ s) (srS σ t) j)) := by
        rw [hA]; exact row_eq (cel_ten t164) (fun j hj => if_pos (by omega))
      refine z_mem e0 ?_
      have fin2 : ∀ (A2 : Nat → Nat → Int), MI A2 σ → Lo A A2 → A2 164 = jnS w (srS σ s) (srS σ t) → Zc X 158 [some (.ref 156), some (.int (iI (s : Int))), some (.int (iI (t : Int))), some (.int (iI (u : Int))), some (.int (iI w)), some (.int (iI (i : Int)))] [] 172 (mA A2) 0 0 := by
        intro A2 hM2 lo2 e4
        refine z_aload_n E dX6_join_158 rfl ?_
        refine z_aload_n E dX6_join_159 rfl ?_
        refine z_get E dX6_join_160 (by rfl) flX6_32 (by rfl) ?_
        refine z_iload_n E dX6_join_163 rfl ?_
        refine c_VQ E dX6_join_164 lkX6_114 (ok_tells hM2 t164 hu8 (jnS w (srS σ s) (srS σ t)) e4 (jnS_rok w _ _) 172) (by rfl) rfl rfl rfl (Nat.le_of_ble_eq_true rfl) ⟨(Nat.le_of_ble_eq_true rfl), (Nat.le_of_ble_eq_true rfl)⟩ ⟨rfl, rfl⟩ ⟨Nat.zero_le _, Nat.zero_le _⟩ (fun g1 hg1 => ?_)
        obtain ⟨A3, rfl, m3, l3, _⟩ := hg1
        exact z_iret E F dX6_join_167 (fin hop ((if_pos hv).trans (if_neg hl)) (mp_to m3 (lo_tr lo2 l3)))
      refine z_iload E dX6_join_74 rfl ?_
      refine z_bipush E (by decide) dX6_join_76 ?_
      refine z_icmp_ge (tgt := 137) E (by omega) (by omega) dX6_join_78 (by decide) (fun h78 => ?_) (fun h78 => ?_)
      · refine z_iload E dX6_join_137 rfl ?_
        refine z_iconst E dX6_join_139 ?_
        refine z_icmp_ne (tgt := 158) E (by omega) (by omega) dX6_join_140 (by decide) (fun h140 => ?_) (fun h140 => ?_)
        · refine fin2 _ (hMB.ups (by omega)) (lo_tr loB (lo_up (by omega))) ?_
          rw [va_up_self]
          unfold jnS
          by_cases e : w = 0
          · rw [if_pos e]; funext j; rw [if_pos e]
          · rw [if_neg e, if_pos (by omega)]; funext j; rw [if_neg e]
        · refine z_aload_n E dX6_join_143 rfl ?_
          refine z_get E dX6_join_144 (by rfl) flX6_26 (by rfl) ?_
          refine z_aload_n E dX6_join_147 rfl ?_
          refine z_get E dX6_join_148 (by rfl) flX6_29 (by rfl) ?_
          refine z_aload_n E dX6_join_151 rfl ?_
          refine z_get E dX6_join_152 (by rfl) flX6_32 (by rfl) ?_
          refine c_S0 E dX6_join_155 lkX6_94 (ok_times t162 t163 t164 (by omega) (by omega) _ (by rw [va_up_ne _ _ (by omega), b2]; exact rs) (by rw [va_up_ne _ _ (by omega), b3]; exact rt) 172) rfl rfl rfl (Nat.le_of_ble_eq_true rfl) ⟨(Nat.le_of_ble_eq_true rfl), (Nat.le_of_ble_eq_true rfl)⟩ ⟨rfl, rfl⟩ ⟨Nat.zero_le _, Nat.zero_le _⟩ ?_
          rw [va_up_ne _ _ (by omega), va_up_ne _ _ (by omega), b2, b3]
          refine fin2 _ ((hMB.ups (by omega)).ups (by omega)) (lo_tr loB (lo_tr (lo_up (by omega)) (lo_up (by omega)))) ?_
          rw [va_up_self]
          unfold jnS
          rw [if_neg (by omega), if_neg (by omega)]
      · omega
    | succ m ih =>
      intro i hi A' hA
      have e2 : A' 162 = srS σ s := by rw [hA, va_up_ne _ _ (by omega)]; exact b2
      have e3 : A' 163 = srS σ t := by rw [hA, va_up_ne _ _ (by omega)]; exact b3
      have ri := rs i (by omega)
      have rj := rt i (by omega)
      have key : ∀ v, v = (if w = 0 then addS (srS σ s) (srS σ t) i else subS (srS σ s) (srS σ t) i) → va_up A' 164 (up (A' 164) i v) = va_up B 164 (fun j => if j < i + 1 then (if w = 0 then addS (srS σ s) (srS σ t) j else subS (srS σ s) (srS σ t) j) else B 164 j) := by
        intro v hv
        rw [hA, va_uu, va_up_self]
        refine congrArg (va_up B 164) (funext fun j => ?_)
        by_cases e1 : j = i
        · subst e1; rw [up_eq, if_pos (by omega), hv]
        · rw [up_ne _ _ e1]
          by_cases e4 : j < i
          · rw [if_pos e4, if_pos (show j < i + 1 by omega)]
          · rw [if_neg e4, if_neg (show ¬ j < i + 1 by omega)]
      refine z_iload E dX6_join_74 rfl ?_
      refine z_bipush E (by decide) dX6_join_76 ?_
      refine z_icmp_ge (tgt := 137) E (by omega) (by omega) dX6_join_78 (by decide) (fun h78 => ?_) (fun h78 => ?_)
      · omega
      · refine z_aload_n E dX6_join_81 rfl ?_
        refine z_get E dX6_join_82 (by rfl) flX6_32 (by rfl) ?_
        refine z_iload E dX6_join_85 rfl ?_
        refine z_iload E dX6_join_87 rfl ?_
        refine z_if_ne (tgt := 111) E (by omega) dX6_join_89 (by decide) (fun h89 => ?_) (fun h89 => ?_)
        · refine z_aload_n E dX6_join_111 rfl ?_
          refine z_get E dX6_join_112 (by rfl) flX6_26 (by rfl) ?_
          refine z_iload E dX6_join_115 rfl ?_
          refine a_iald (j := i) E dX6_join_117 (cel_ten t162) (by omega) (by omega) (by omega) ?_
          refine z_aload_n E dX6_join_118 rfl ?_
          refine z_get E dX6_join_119 (by rfl) flX6_29 (by rfl) ?_
          refine z_iload E dX6_join_122 rfl ?_
          refine a_iald (j := i) E dX6_join_124 (cel_ten t163) (by omega) (by omega) (by omega) ?_
          rw [e2, e3]
          refine z_isub E dX6_join_125 ?_
          refine z_i2l E (by omega) dX6_join_126 ?_
          refine c_S E dX6_join_127 lkX6_62 (ok_mod _ ⟨by omega, by omega⟩ (by omega) 172 _) rfl rfl rfl (Nat.le_of_ble_eq_true rfl) ⟨(Nat.le_of_ble_eq_true rfl), (Nat.le_of_ble_eq_true rfl)⟩ ⟨rfl, rfl⟩ ⟨Nat.zero_le _, Nat.zero_le _⟩ ?_
          refine a_iast (j := i) E dX6_join_130 (cel_ten t164) (by omega) (by omega) (by omega) ?_
          refine z_iinc (ls' := [_, _, _, _, _, _]) E dX6_join_131 rfl rfl ?_
          refine z_goto (tgt := 74) E dX6_join_134 (by decide) ?_
          rw [ei]
          exact ih (i + 1) (by omega) _ (key _ (by rw [if_neg h89]; rfl))
        · refine z_aload_n E dX6_join_92 rfl ?_
          refine z_get E dX6_join_93 (by rfl) flX6_26 (by rfl) ?_
          refine z_iload E dX6_join_96 rfl ?_
          refine a_iald (j := i) E dX6_join_98 (cel_ten t162) (by omega) (by omega) (by omega) ?_
          refine z_aload_n E dX6_join_99 rfl ?_
          refine z_get E dX6_join_100 (by rfl) flX6_29 (by rfl) ?_
          refine z_iload E dX6_join_103 rfl ?_
          refine a_iald (j := i) E dX6_join_105 (cel_ten t163) (by omega) (by omega) (by omega) ?_
          rw [e2, e3]
          refine z_iadd E dX6_join_106 ?_
          refine z_i2l E (by omega) dX6_join_107 ?_
          refine z_goto (tgt := 127) E dX6_join_108 (by decide) ?_
          refine c_S E dX6_join_127 lkX6_62 (ok_mod _ ⟨by omega, by omega⟩ (by omega) 172 _) rfl rfl rfl (Nat.le_of_ble_eq_true rfl) ⟨(Nat.le_of_ble_eq_true rfl), (Nat.le_of_ble_eq_true rfl)⟩ ⟨rfl, rfl⟩ ⟨Nat.zero_le _, Nat.zero_le _⟩ ?_
          refine a_iast (j := i) E dX6_join_130 (cel_ten t164) (by omega) (by omega) (by omega) ?_
          refine z_iinc (ls' := [_, _, _, _, _, _]) E dX6_join_131 rfl rfl ?_
          refine z_goto (tgt := 74) E dX6_join_134 (by decide) ?_
          rw [ei]
          exact ih (i + 1) (by omega) _ (key _ (by rw [if_pos h89]; rfl))
  refine z_mem ?_ (loop 10 0 (by omega) _ rfl)
  exact (row_id (cel_ten t164) (fun j hj => if_neg (by omega))).symm
set_option maxRecDepth 100000 in
theorem m_over {A : Nat → Nat → Int} {σ : St} (hM : MI A σ) (s t u : Int) (hs : inR s) (ht : inR t) (hu : inR u) : OkI mX6_over [.ref 156, .int (iI s), .int (iI t), .int (iI u)] 172 (mA A) (.int (iI (opOver σ s t u).1)) (MP A (opOver σ s t u).2) := by
  generalize hop : opOver σ s t u = R
  refine OkM.of [some (.ref 156), some (.int (iI s)), some (.int (iI t)), some (.int (iI u))] (by decide +kernel) rfl (Nat.le_of_ble_eq_true rfl) ?_
  intro X E F
  have hbad : ¬ (iS s ∧ iS t ∧ iS u) → Zc X 21 [some (.ref 156), some (.int (iI s)), some (.int (iI t)), some (.int (iI u))] [] 172 (mA A) 0 0 := by
    intro hv
    refine z_bipush E (by decide) dX6_over_21 ?_
    exact z_iret E F dX6_over_23 (fin hop (if_neg hv) (mp_same hM))
  refine z_iload_n E dX6_over_0 rfl ?_
  refine c_S E dX6_over_1 lkX6_74 (ok_isSheet6 s hs 172 _) rfl rfl rfl (Nat.le_of_ble_eq_true rfl) ⟨(Nat.le_of_ble_eq_true rfl), (Nat.le_of_ble_eq_true rfl)⟩ ⟨rfl, rfl⟩ ⟨Nat.zero_le _, Nat.zero_le _⟩ ?_
  refine z_bif_eq (tgt := 21) E dX6_over_4 (by decide) (fun h4 => hbad (fun v => h4 v.1)) (fun h4 => ?_)
  refine z_iload_n E dX6_over_7 rfl ?_
  refine c_S E dX6_over_8 lkX6_74 (ok_isSheet6 t ht 172 _) rfl rfl rfl (Nat.le_of_ble_eq_true rfl) ⟨(Nat.le_of_ble_eq_true rfl), (Nat.le_of_ble_eq_true rfl)⟩ ⟨rfl, rfl⟩ ⟨Nat.zero_le _, Nat.zero_le _⟩ ?_
  refine z_bif_eq (tgt := 21) E dX6_over_11 (by decide) (fun h11 => hbad (fun v => h11 v.2.1)) (fun h11 => ?_)
  refine z_iload_n E dX6_over_14 rfl ?_
  refine c_S E dX6_over_15 lkX6_74 (ok_isSheet6 u hu 172 _) rfl rfl rfl (Nat.le_of_ble_eq_true rfl) ⟨(Nat.le_of_ble_eq_true rfl), (Nat.le_of_ble_eq_true rfl)⟩ ⟨rfl, rfl⟩ ⟨Nat.zero_le _, Nat.zero_le _⟩ ?_
  refine z_bif_ne (tgt := 24) E dX6_over_18 (by decide) (fun h18 => ?_) (fun h18 => hbad (fun v => h18 v.2.2))
  have hv : iS s ∧ iS t ∧ iS u := ⟨h4, h11, h18⟩
  obtain ⟨⟨s, rfl⟩, ⟨t, rfl⟩, ⟨u, rfl⟩⟩ := And.intro (nat_of h4.1) (And.intro (nat_of h11.1) (nat_of h18.1))
  have hs8 : s < 8 := by omega
  have ht8 : t < 8 := by omega
  have hu8 : u < 8 := by omega
  rcases (hM.2.1 s hs8).1 with ls | ls
  · refine z_aload_n E dX6_over_24 rfl ?_
    refine z_iload_n E dX6_over_25 rfl ?_
    refine c_VQ E dX6_over_26 lkX6_118 (ok_isLost0 hM hs8 ls 172) (by rfl) rfl rfl rfl (Nat.le_of_ble_eq_true rfl) ⟨(Nat.le_of_ble_eq_true rfl), (Nat.le_of_ble_eq_true rfl)⟩ ⟨rfl, rfl⟩ ⟨Nat.zero_le _, Nat.zero_le _⟩ (fun g1 hg1 => ?_)
    refine z_if_ne (tgt := 40) E (by omega) dX6_over_29 (by decide) (fun h29 => ?_) (fun hq => False.elim (by omega))
    refine z_bipush E (by decide) dX6_over_40 ?_
    exact z_iret E F dX6_over_42 (fin hop ((if_pos hv).trans (if_pos (Or.inl ls))) hg1)
  refine z_aload_n E dX6_over_24 rfl ?_
  refine z_iload_n E dX6_over_25 rfl ?_
  refine c_V E dX6_over_26 lkX6_118 (ok_isLost1 hM hs8 ls 172) (by rfl) rfl rfl rfl (Nat.le_of_ble_eq_true rfl) ⟨(Nat.le_of_ble_eq_true rfl), (Nat.le_of_ble_eq_true rfl)⟩ ⟨rfl, rfl⟩ ⟨Nat.zero_le _, Nat.zero_le _⟩ ?_
  refine z_if_ne (tgt := 40) E (by omega) dX6_over_29 (by decide) (fun hq => False.elim (by omega)) (fun h29 => ?_)
  rcases (hM.2.1 t ht8).1 with lt | lt
  · refine z_aload_n E dX6_over_32 rfl ?_
    refine z_iload_n E dX6_over_33 rfl ?_
    refine c_VQ E dX6_over_34 lkX6_118 (ok_isLost0 hM ht8 lt 172) (by rfl) rfl rfl rfl (Nat.le_of_ble_eq_true rfl) ⟨(Nat.le_of_ble_eq_true rfl), (Nat.le_of_ble_eq_true rfl)⟩ ⟨rfl, rfl⟩ ⟨Nat.zero_le _, Nat.zero_le _⟩ (fun g1 hg1 => ?_)
    refine z_if_eq (tgt := 43) E (by omega) dX6_over_37 (by decide) (fun hq => False.elim (by omega)) (fun h37 => ?_)
    refine z_bipush E (by decide) dX6_over_40 ?_
    exact z_iret E F dX6_over_42 (fin hop ((if_pos hv).trans (if_pos (Or.inr lt))) hg1)
  refine z_aload_n E dX6_over_32 rfl ?_
  refine z_iload_n E dX6_over_33 rfl ?_
  refine c_V E dX6_over_34 lkX6_118 (ok_isLost1 hM ht8 lt 172) (by rfl) rfl rfl rfl (Nat.le_of_ble_eq_true rfl) ⟨(Nat.le_of_ble_eq_true rfl), (Nat.le_of_ble_eq_true rfl)⟩ ⟨rfl, rfl⟩ ⟨Nat.zero_le _, Nat.zero_le _⟩ ?_
  refine z_if_eq (tgt := 43) E (by omega) dX6_over_37 (by decide) (fun h37 => ?_) (fun hq => False.elim (by omega))
  have hl : ¬ (σ s 0 = 0 ∨ σ t 0 = 0) := by omega
  refine z_aload_n E dX6_over_43 rfl ?_
  refine z_iload_n E dX6_over_44 rfl ?_
  refine z_aload_n E dX6_over_45 rfl ?_
  refine z_get E dX6_over_46 (by rfl) flX6_26 (by rfl) ?_
  refine c_V0 E dX6_over_49 lkX6_105 (ok_read hM hs8 t162 172) (by rfl) rfl rfl rfl (Nat.le_of_ble_eq_true rfl) ⟨(Nat.le_of_ble_eq_true rfl), (Nat.le_of_ble_eq_true rfl)⟩ ⟨rfl, rfl⟩ ⟨Nat.zero_le _, Nat.zero_le _⟩ ?_
  refine z_aload_n E dX6_over_52 rfl ?_
  refine z_iload_n E dX6_over_53 rfl ?_
  refine z_aload_n E dX6_over_54 rfl ?_
  refine z_get E dX6_over_55 (by rfl) flX6_29 (by rfl) ?_
  refine c_V0 E dX6_over_58 lkX6_105 (ok_read (hM.ups (by omega)) ht8 t163 172) (by rfl) rfl rfl rfl (Nat.le_of_ble_eq_true rfl) ⟨(Nat.le_of_ble_eq_true rfl), (Nat.le_of_ble_eq_true rfl)⟩ ⟨rfl, rfl⟩ ⟨Nat.zero_le _, Nat.zero_le _⟩ ?_
  generalize hB : va_up (va_up A 162 (srS σ s)) 163 (srS σ t) = B
  have hMB : MI B σ := by rw [← hB]; exact (hM.ups (by omega)).ups (by omega)
  have loB : Lo A B := by rw [← hB]; exact lo_tr (lo_up (by omega)) (lo_up (by omega))
  have b2 : B 162 = srS σ s := by rw [← hB, va_up_ne _ _ (by omega), va_up_self]
  have b3 : B 163 = srS σ t := by rw [← hB, va_up_self]
  have rs := srS_rok σ s
  have rt := srS_rok σ t
  have rt0 := rt 0 (by omega)
  refine z_aload_n E dX6_over_61 rfl ?_
  refine z_get E dX6_over_62 (by rfl) flX6_29 (by rfl) ?_
  refine z_iconst E dX6_over_65 ?_
  refine a_iald (j := 0) E dX6_over_66 (cel_ten t163) (by omega) (by omega) (by omega) ?_
  rw [b3]
  refine z_if_ne (tgt := 73) E (by omega) dX6_over_67 (by decide) (fun h67 => ?_) (fun h67 => ?_)
  · refine z_aload_n E dX6_over_73 rfl ?_
    refine z_get E dX6_over_74 (by rfl) flX6_26 (by rfl) ?_
    refine z_aload_n E dX6_over_77 rfl ?_
    refine z_get E dX6_over_78 (by rfl) flX6_29 (by rfl) ?_
    refine z_aload_n E dX6_over_81 rfl ?_
    refine z_get E dX6_over_82 (by rfl) flX6_32 (by rfl) ?_
    refine c_S0 E dX6_over_85 lkX6_121 (ok_by t162 t163 t164 (by omega) (by omega) B (by rw [b2]; exact rs) (by rw [b3]; exact rt) 172) rfl rfl rfl (Nat.le_of_ble_eq_true rfl) ⟨(Nat.le_of_ble_eq_true rfl), (Nat.le_of_ble_eq_true rfl)⟩ ⟨rfl, rfl⟩ ⟨Nat.zero_le _, Nat.zero_le _⟩ ?_
    rw [b2, b3]
    refine z_aload_n E dX6_over_88 rfl ?_
    refine z_aload_n E dX6_over_89 rfl ?_
    refine z_get E dX6_over_90 (by rfl) flX6_32 (by rfl) ?_
    refine z_iload_n E dX6_over_93 rfl ?_
    refine c_VQ E dX6_over_94 lkX6_114 (ok_tells (A := va_up B 164 (qS (srS σ s) (srS σ t))) (hMB.ups (by omega)) t164 hu8 (qS (srS σ s) (srS σ t)) (va_up_self _ _ _) (qS_rok _ _) 172) (by rfl) rfl rfl rfl (Nat.le_of_ble_eq_true rfl) ⟨(Nat.le_of_ble_eq_true rfl), (Nat.le_of_ble_eq_true rfl)⟩ ⟨rfl, rfl⟩ ⟨Nat.zero_le _, Nat.zero_le _⟩ (fun g1 hg1 => ?_)
    obtain ⟨A3, rfl, m3, l3, _⟩ := hg1
    exact z_iret E F dX6_over_97 (fin hop ((if_pos hv).trans ((if_neg hl).trans (if_pos h67))) (mp_to m3 (lo_tr loB (lo_tr (lo_up (by omega)) l3))))
  · refine z_bipush E (by decide) dX6_over_70 ?_
    exact z_iret E F dX6_over_72 (fin hop ((if_pos hv).trans ((if_neg hl).trans (if_neg (fun q => q h67)))) (mp_to hMB loB))
set_option maxRecDepth 100000 in
theorem m_into {A : Nat → Nat → Int} {σ : St} (hM : MI A σ) (s t u : Int) (hs : inR s) (ht : inR t) (hu : inR u) : OkI mX6_into [.ref 156, .int (iI s), .int (iI t), .int (iI u)] 172 (mA A) (.int (iI (opInto σ s t u).1)) (MP A (opInto σ s t u).2) := by
  generalize hop : opInto σ s t u = R
  refine OkM.of [some (.ref 156), some (.int (iI s)), some (.int (iI t)), some (.int (iI u))] (by decide +kernel) rfl (Nat.le_of_ble_eq_true rfl) ?_
  intro X E F
  have hbad : ¬ (iS s ∧ iS t ∧ iS u) → Zc X 21 [some (.ref 156), some (.int (iI s)), some (.int (iI t)), some (.int (iI u))] [] 172 (mA A) 0 0 := by
    intro hv
    refine z_bipush E (by decide) dX6_into_21 ?_
    exact z_iret E F dX6_into_23 (fin hop (if_neg hv) (mp_same hM))
  refine z_iload_n E dX6_into_0 rfl ?_
  refine c_S E dX6_into_1 lkX6_74 (ok_isSheet6 s hs 172 _) rfl rfl rfl (Nat.le_of_ble_eq_true rfl) ⟨(Nat.le_of_ble_eq_true rfl), (Nat.le_of_ble_eq_true rfl)⟩ ⟨rfl, rfl⟩ ⟨Nat.zero_le _, Nat.zero_le _⟩ ?_
  refine z_bif_eq (tgt := 21) E dX6_into_4 (by decide) (fun h4 => hbad (fun v => h4 v.1)) (fun h4 => ?_)
  refine z_iload_n E dX6_into_7 rfl ?_
  refine c_S E dX6_into_8 lkX6_74 (ok_isSheet6 t ht 172 _) rfl rfl rfl (Nat.le_of_ble_eq_true rfl) ⟨(Nat.le_of_ble_eq_true rfl), (Nat.le_of_ble_eq_true rfl)⟩ ⟨rfl, rfl⟩ ⟨Nat.zero_le _, Nat.zero_le _⟩ ?_
  refine z_bif_eq (tgt := 21) E dX6_into_11 (by decide) (fun h11 => hbad (fun v => h11 v.2.1)) (fun h11 => ?_)
  refine z_iload_n E dX6_into_14 rfl ?_
  refine c_S E dX6_into_15 lkX6_74 (ok_isSheet6 u hu 172 _) rfl rfl rfl (Nat.le_of_ble_eq_true rfl) ⟨(Nat.le_of_ble_eq_true rfl), (Nat.le_of_ble_eq_true rfl)⟩ ⟨rfl, rfl⟩ ⟨Nat.zero_le _, Nat.zero_le _⟩ ?_
  refine z_bif_ne (tgt := 24) E dX6_into_18 (by decide) (fun h18 => ?_) (fun h18 => hbad (fun v => h18 v.2.2))
  have hv : iS s ∧ iS t ∧ iS u := ⟨h4, h11, h18⟩
  obtain ⟨⟨s, rfl⟩, ⟨t, rfl⟩, ⟨u, rfl⟩⟩ := And.intro (nat_of h4.1) (And.intro (nat_of h11.1) (nat_of h18.1))
  have hs8 : s < 8 := by omega
  have ht8 : t < 8 := by omega
  have hu8 : u < 8 := by omega
  rcases (hM.2.1 s hs8).1 with ls | ls
  · refine z_aload_n E dX6_into_24 rfl ?_
    refine z_iload_n E dX6_into_25 rfl ?_
    refine c_VQ E dX6_into_26 lkX6_118 (ok_isLost0 hM hs8 ls 172) (by rfl) rfl rfl rfl (Nat.le_of_ble_eq_true rfl) ⟨(Nat.le_of_ble_eq_true rfl), (Nat.le_of_ble_eq_true rfl)⟩ ⟨rfl, rfl⟩ ⟨Nat.zero_le _, Nat.zero_le _⟩ (fun g1 hg1 => ?_)
    refine z_if_ne (tgt := 40) E (by omega) dX6_into_29 (by decide) (fun h29 => ?_) (fun hq => False.elim (by omega))
    refine z_bipush E (by decide) dX6_into_40 ?_
    exact z_iret E F dX6_into_42 (fin hop ((if_pos hv).trans (if_pos (Or.inl ls))) hg1)
  refine z_aload_n E dX6_into_24 rfl ?_
  refine z_iload_n E dX6_into_25 rfl ?_
  refine c_V E dX6_into_26 lkX6_118 (ok_isLost1 hM hs8 ls 172) (by rfl) rfl rfl rfl (Nat.le_of_ble_eq_true rfl) ⟨(Nat.le_of_ble_eq_true rfl), (Nat.le_of_ble_eq_true rfl)⟩ ⟨rfl, rfl⟩ ⟨Nat.zero_le _, Nat.zero_le _⟩ ?_
  refine z_if_ne (tgt := 40) E (by omega) dX6_into_29 (by decide) (fun hq => False.elim (by omega)) (fun h29 => ?_)
  rcases (hM.2.1 t ht8).1 with lt | lt
  · refine z_aload_n E dX6_into_32 rfl ?_
    refine z_iload_n E dX6_into_33 rfl ?_
    refine c_VQ E dX6_into_34 lkX6_118 (ok_isLost0 hM ht8 lt 172) (by rfl) rfl rfl rfl (Nat.le_of_ble_eq_true rfl) ⟨(Nat.le_of_ble_eq_true rfl), (Nat.le_of_ble_eq_true rfl)⟩ ⟨rfl, rfl⟩ ⟨Nat.zero_le _, Nat.zero_le _⟩ (fun g1 hg1 => ?_)
    refine z_if_eq (tgt := 43) E (by omega) dX6_into_37 (by decide) (fun hq => False.elim (by omega)) (fun h37 => ?_)
    refine z_bipush E (by decide) dX6_into_40 ?_
    exact z_iret E F dX6_into_42 (fin hop ((if_pos hv).trans (if_pos (Or.inr lt))) hg1)
  refine z_aload_n E dX6_into_32 rfl ?_
  refine z_iload_n E dX6_into_33 rfl ?_
  refine c_V E dX6_into_34 lkX6_118 (ok_isLost1 hM ht8 lt 172) (by rfl) rfl rfl rfl (Nat.le_of_ble_eq_true rfl) ⟨(Nat.le_of_ble_eq_true rfl), (Nat.le_of_ble_eq_true rfl)⟩ ⟨rfl, rfl⟩ ⟨Nat.zero_le _, Nat.zero_le _⟩ ?_
  refine z_if_eq (tgt := 43) E (by omega) dX6_into_37 (by decide) (fun h37 => ?_) (fun hq => False.elim (by omega))
  have hl : ¬ (σ s 0 = 0 ∨ σ t 0 = 0) := by omega
  refine z_aload_n E dX6_into_43 rfl ?_
  refine z_iload_n E dX6_into_44 rfl ?_
  refine z_aload_n E dX6_into_45 rfl ?_
  refine z_get E dX6_into_46 (by rfl) flX6_26 (by rfl) ?_
  refine c_V0 E dX6_into_49 lkX6_105 (ok_read hM hs8 t162 172) (by rfl) rfl rfl rfl (Nat.le_of_ble_eq_true rfl) ⟨(Nat.le_of_ble_eq_true rfl), (Nat.le_of_ble_eq_true rfl)⟩ ⟨rfl, rfl⟩ ⟨Nat.zero_le _, Nat.zero_le _⟩ ?_
  refine z_aload_n E dX6_into_52 rfl ?_
  refine z_iload_n E dX6_into_53 rfl ?_
  refine z_aload_n E dX6_into_54 rfl ?_
  refine z_get E dX6_into_55 (by rfl) flX6_29 (by rfl) ?_
  refine c_V0 E dX6_into_58 lkX6_105 (ok_read (hM.ups (by omega)) ht8 t163 172) (by rfl) rfl rfl rfl (Nat.le_of_ble_eq_true rfl) ⟨(Nat.le_of_ble_eq_true rfl), (Nat.le_of_ble_eq_true rfl)⟩ ⟨rfl, rfl⟩ ⟨Nat.zero_le _, Nat.zero_le _⟩ ?_
  generalize hB : va_up (va_up A 162 (srS σ s)) 163 (srS σ t) = B
  have hMB : MI B σ := by rw [← hB]; exact (hM.ups (by omega)).ups (by omega)
  have loB : Lo A B := by rw [← hB]; exact lo_tr (lo_up (by omega)) (lo_up (by omega))
  have b2 : B 162 = srS σ s := by rw [← hB, va_up_ne _ _ (by omega), va_up_self]
  have b3 : B 163 = srS σ t := by rw [← hB, va_up_self]
  have rs := srS_rok σ s
  have rt := srS_rok σ t
  have rt0 := rt 0 (by omega)
  refine z_aload_n E dX6_into_61 rfl ?_
  refine z_get E dX6_into_62 (by rfl) flX6_29 (by rfl) ?_
  refine z_iconst E dX6_into_65 ?_
  refine a_iald (j := 0) E dX6_into_66 (cel_ten t163) (by omega) (by omega) (by omega) ?_
  rw [b3]
  refine z_if_eq (tgt := 73) E (by omega) dX6_into_67 (by decide) (fun h67 => ?_) (fun h67 => ?_)
  · refine z_aload_n E dX6_into_73 rfl ?_
    refine z_aload_n E dX6_into_74 rfl ?_
    refine z_get E dX6_into_75 (by rfl) flX6_26 (by rfl) ?_
    refine z_aload_n E dX6_into_78 rfl ?_
    refine z_get E dX6_into_79 (by rfl) flX6_29 (by rfl) ?_
    refine z_aload_n E dX6_into_82 rfl ?_
    refine z_get E dX6_into_83 (by rfl) flX6_32 (by rfl) ?_
    refine c_V0Q E dX6_into_86 lkX6_102 (ok_puts t162 t163 t164 (by omega) (by omega) (by omega) B (by rw [b2]; exact rs) (by rw [b3]; exact rt) 172) (by rfl) rfl rfl rfl (Nat.le_of_ble_eq_true rfl) ⟨(Nat.le_of_ble_eq_true rfl), (Nat.le_of_ble_eq_true rfl)⟩ ⟨rfl, rfl⟩ ⟨Nat.zero_le _, Nat.zero_le _⟩ (fun g1 hg1 => ?_)
    obtain ⟨A2, rfl, f2, o2⟩ := hg1
    rw [b2, b3] at f2
    have m2 : MI A2 σ := hMB.scr (fun k hk => o2 k (by simp; omega))
    have l2 : Lo A A2 := lo_tr loB (fun k hk => o2 k (by simp; omega))
    refine z_aload_n E dX6_into_89 rfl ?_
    refine z_aload_n E dX6_into_90 rfl ?_
    refine z_get E dX6_into_91 (by rfl) flX6_32 (by rfl) ?_
    refine z_iload_n E dX6_into_94 rfl ?_
    refine c_VQ E dX6_into_95 lkX6_114 (ok_tells m2 t164 hu8 (ptS (srS σ s) (srS σ t) 10) f2 (ptS_rok _ _ _) 172) (by rfl) rfl rfl rfl (Nat.le_of_ble_eq_true rfl) ⟨(Nat.le_of_ble_eq_true rfl), (Nat.le_of_ble_eq_true rfl)⟩ ⟨rfl, rfl⟩ ⟨Nat.zero_le _, Nat.zero_le _⟩ (fun g1 hg1 => ?_)
    obtain ⟨A3, rfl, m3, l3, _⟩ := hg1
    exact z_iret E F dX6_into_98 (fin hop ((if_pos hv).trans ((if_neg hl).trans ((if_pos h67).trans (sr_eq (M_into rs rt))))) (mp_to m3 (lo_tr l2 l3)))
  · refine z_bipush E (by decide) dX6_into_70 ?_
    exact z_iret E F dX6_into_72 (fin hop ((if_pos hv).trans ((if_neg hl).trans (if_neg h67))) (mp_to hMB loB))
set_option maxRecDepth 100000 in
theorem m_turn {A : Nat → Nat → Int} {σ : St} (hM : MI A σ) (s u : Int) (hs : inR s) (hu : inR u) : OkI mX6_turn [.ref 156, .int (iI s), .int (iI u)] 172 (mA A) (.int (iI (opTurn σ s u).1)) (MP A (opTurn σ s u).2) := by
  generalize hop : opTurn σ s u = R
  refine OkM.of [some (.ref 156), some (.int (iI s)), some (.int (iI u))] (by decide +kernel) rfl (Nat.le_of_ble_eq_true rfl) ?_
  intro X E F
  have hbad : ¬ (iS s ∧ iS u) → Zc X 14 [some (.ref 156), some (.int (iI s)), some (.int (iI u))] [] 172 (mA A) 0 0 := by
    intro hv
    refine z_bipush E (by decide) dX6_turn_14 ?_
    exact z_iret E F dX6_turn_16 (fin hop (if_neg hv) (mp_same hM))
  refine z_iload_n E dX6_turn_0 rfl ?_
  refine c_S E dX6_turn_1 lkX6_74 (ok_isSheet6 s hs 172 _) rfl rfl rfl (Nat.le_of_ble_eq_true rfl) ⟨(Nat.le_of_ble_eq_true rfl), (Nat.le_of_ble_eq_true rfl)⟩ ⟨rfl, rfl⟩ ⟨Nat.zero_le _, Nat.zero_le _⟩ ?_
  refine z_bif_eq (tgt := 14) E dX6_turn_4 (by decide) (fun h4 => hbad (fun v => h4 v.1)) (fun h4 => ?_)
  refine z_iload_n E dX6_turn_7 rfl ?_
  refine c_S E dX6_turn_8 lkX6_74 (ok_isSheet6 u hu 172 _) rfl rfl rfl (Nat.le_of_ble_eq_true rfl) ⟨(Nat.le_of_ble_eq_true rfl), (Nat.le_of_ble_eq_true rfl)⟩ ⟨rfl, rfl⟩ ⟨Nat.zero_le _, Nat.zero_le _⟩ ?_
  refine z_bif_ne (tgt := 17) E dX6_turn_11 (by decide) (fun h11 => ?_) (fun h11 => hbad (fun v => h11 v.2))
  have hv : iS s ∧ iS u := ⟨h4, h11⟩
  obtain ⟨⟨s, rfl⟩, ⟨u, rfl⟩⟩ := And.intro (nat_of h4.1) (nat_of h11.1)
  have hs8 : s < 8 := by omega
  have hu8 : u < 8 := by omega
  rcases (hM.2.1 s hs8).1 with ls | ls
  · refine z_aload_n E dX6_turn_17 rfl ?_
    refine z_iload_n E dX6_turn_18 rfl ?_
    refine c_VQ E dX6_turn_19 lkX6_118 (ok_isLost0 hM hs8 ls 172) (by rfl) rfl rfl rfl (Nat.le_of_ble_eq_true rfl) ⟨(Nat.le_of_ble_eq_true rfl), (Nat.le_of_ble_eq_true rfl)⟩ ⟨rfl, rfl⟩ ⟨Nat.zero_le _, Nat.zero_le _⟩ (fun g1 hg1 => ?_)
    refine z_if_eq (tgt := 28) E (by omega) dX6_turn_22 (by decide) (fun hq => False.elim (by omega)) (fun h22 => ?_)
    refine z_bipush E (by decide) dX6_turn_25 ?_
    exact z_iret E F dX6_turn_27 (fin hop ((if_pos hv).trans (if_pos ls)) hg1)
  refine z_aload_n E dX6_turn_17 rfl ?_
  refine z_iload_n E dX6_turn_18 rfl ?_
  refine c_V E dX6_turn_19 lkX6_118 (ok_isLost1 hM hs8 ls 172) (by rfl) rfl rfl rfl (Nat.le_of_ble_eq_true rfl) ⟨(Nat.le_of_ble_eq_true rfl), (Nat.le_of_ble_eq_true rfl)⟩ ⟨rfl, rfl⟩ ⟨Nat.zero_le _, Nat.zero_le _⟩ ?_
  refine z_if_eq (tgt := 28) E (by omega) dX6_turn_22 (by decide) (fun h22 => ?_) (fun hq => False.elim (by omega))
  have hl : ¬ (σ s 0 = 0) := by omega
  refine z_aload_n E dX6_turn_28 rfl ?_
  refine z_iload_n E dX6_turn_29 rfl ?_
  refine z_aload_n E dX6_turn_30 rfl ?_
  refine z_get E dX6_turn_31 (by rfl) flX6_26 (by rfl) ?_
  refine c_V0 E dX6_turn_34 lkX6_105 (ok_read hM hs8 t162 172) (by rfl) rfl rfl rfl (Nat.le_of_ble_eq_true rfl) ⟨(Nat.le_of_ble_eq_true rfl), (Nat.le_of_ble_eq_true rfl)⟩ ⟨rfl, rfl⟩ ⟨Nat.zero_le _, Nat.zero_le _⟩ ?_
  generalize hB : va_up A 162 (srS σ s) = B
  have hMB : MI B σ := by rw [← hB]; exact hM.ups (by omega)
  have loB : Lo A B := by rw [← hB]; exact lo_up (by omega)
  have b2 : B 162 = srS σ s := by rw [← hB, va_up_self]
  have rs := srS_rok σ s
  refine z_aload_n E dX6_turn_37 rfl ?_
  refine z_get E dX6_turn_38 (by rfl) flX6_26 (by rfl) ?_
  refine c_S E dX6_turn_41 lkX6_124 (ok_canTurn6 t162 B (by rw [b2]; exact rs) 172) rfl rfl rfl (Nat.le_of_ble_eq_true rfl) ⟨(Nat.le_of_ble_eq_true rfl), (Nat.le_of_ble_eq_true rfl)⟩ ⟨rfl, rfl⟩ ⟨Nat.zero_le _, Nat.zero_le _⟩ ?_
  rw [b2]
  refine z_bif_ne (tgt := 50) E dX6_turn_44 (by decide) (fun h44 => ?_) (fun h44 => ?_)
  · refine z_aload_n E dX6_turn_50 rfl ?_
    refine z_aload_n E dX6_turn_51 rfl ?_
    refine z_get E dX6_turn_52 (by rfl) flX6_26 (by rfl) ?_
    refine z_aload_n E dX6_turn_55 rfl ?_
    refine z_get E dX6_turn_56 (by rfl) flX6_29 (by rfl) ?_
    refine c_V0Q E dX6_turn_59 lkX6_128 (ok_turns t162 t163 (by omega) (by omega) (by omega) B (by rw [b2]; exact rs) 172) (by rfl) rfl rfl rfl (Nat.le_of_ble_eq_true rfl) ⟨(Nat.le_of_ble_eq_true rfl), (Nat.le_of_ble_eq_true rfl)⟩ ⟨rfl, rfl⟩ ⟨Nat.zero_le _, Nat.zero_le _⟩ (fun g1 hg1 => ?_)
    obtain ⟨A2, rfl, f2, o2⟩ := hg1
    rw [b2] at f2
    have m2 : MI A2 σ := hMB.scr (fun k hk => o2 k (by simp; omega))
    have l2 : Lo A A2 := lo_tr loB (fun k hk => o2 k (by simp; omega))
    refine z_aload_n E dX6_turn_62 rfl ?_
    refine z_aload_n E dX6_turn_63 rfl ?_
    refine z_get E dX6_turn_64 (by rfl) flX6_29 (by rfl) ?_
    refine z_iload_n E dX6_turn_67 rfl ?_
    refine c_VQ E dX6_turn_68 lkX6_114 (ok_tells m2 t163 hu8 (tmS (srS σ s) 9) f2 (tmS_rok _ _) 172) (by rfl) rfl rfl rfl (Nat.le_of_ble_eq_true rfl) ⟨(Nat.le_of_ble_eq_true rfl), (Nat.le_of_ble_eq_true rfl)⟩ ⟨rfl, rfl⟩ ⟨Nat.zero_le _, Nat.zero_le _⟩ (fun g1 hg1 => ?_)
    obtain ⟨A3, rfl, m3, l3, _⟩ := hg1
    exact z_iret E F dX6_turn_71 (fin hop ((if_pos hv).trans ((if_neg hl).trans ((if_pos h44).trans (sr_eq (M_turn rs h44.1 h44.2))))) (mp_to m3 (lo_tr l2 l3)))
  · refine z_bipush E (by decide) dX6_turn_47 ?_
    exact z_iret E F dX6_turn_49 (fin hop ((if_pos hv).trans ((if_neg hl).trans (if_neg h44))) (mp_to hMB loB))
set_option maxRecDepth 100000 in
theorem m_power {A : Nat → Nat → Int} {σ : St} (hM : MI A σ) (s n u : Int) (hs : inR s) (hn : inR n) (hu : inR u) : OkI mX6_power [.ref 156, .int (iI s), .int (iI n), .int (iI u)] 172 (mA A) (.int (iI (opPower σ s n u).1)) (MP A (opPower σ s n u).2) := by
  generalize hop : opPower σ s n u = R
  refine OkM.of [some (.ref 156), some (.int (iI s)), some (.int (iI n)), some (.int (iI u)), none] (by decide +kernel) rfl (Nat.le_of_ble_eq_true rfl) ?_
  intro X E F
  have hbad : ¬ (iS s ∧ (0 ≤ n ∧ n ≤ 1000) ∧ iS u) → Zc X 25 [some (.ref 156), some (.int (iI s)), some (.int (iI n)), some (.int (iI u)), none] [] 172 (mA A) 0 0 := by
    intro hv
    refine z_bipush E (by decide) dX6_power_25 ?_
    exact z_iret E F dX6_power_27 (fin hop (if_neg hv) (mp_same hM))
  refine z_iload_n E dX6_power_0 rfl ?_
  refine c_S E dX6_power_1 lkX6_74 (ok_isSheet6 s hs 172 _) rfl rfl rfl (Nat.le_of_ble_eq_true rfl) ⟨(Nat.le_of_ble_eq_true rfl), (Nat.le_of_ble_eq_true rfl)⟩ ⟨rfl, rfl⟩ ⟨Nat.zero_le _, Nat.zero_le _⟩ ?_
  refine z_bif_eq (tgt := 25) E dX6_power_4 (by decide) (fun h4 => hbad (fun v => h4 v.1)) (fun h4 => ?_)
  refine z_iload_n E dX6_power_7 rfl ?_
  refine z_iconst E dX6_power_8 ?_
  refine z_sipush E (by decide) dX6_power_9 ?_
  refine c_S E dX6_power_12 lkX6_70 (ok_inB n 0 1000 (0 ≤ n ∧ n ≤ 1000) (by omega) hn (by omega) (by omega) 172 _) rfl rfl rfl (Nat.le_of_ble_eq_true rfl) ⟨(Nat.le_of_ble_eq_true rfl), (Nat.le_of_ble_eq_true rfl)⟩ ⟨rfl, rfl⟩ ⟨Nat.zero_le _, Nat.zero_le _⟩ ?_
  refine z_bif_eq (tgt := 25) E dX6_power_15 (by decide) (fun h15 => hbad (fun v => h15 v.2.1)) (fun h15 => ?_)
  refine z_iload_n E dX6_power_18 rfl ?_
  refine c_S E dX6_power_19 lkX6_74 (ok_isSheet6 u hu 172 _) rfl rfl rfl (Nat.le_of_ble_eq_true rfl) ⟨(Nat.le_of_ble_eq_true rfl), (Nat.le_of_ble_eq_true rfl)⟩ ⟨rfl, rfl⟩ ⟨Nat.zero_le _, Nat.zero_le _⟩ ?_
  refine z_bif_ne (tgt := 28) E dX6_power_22 (by decide) (fun h22 => ?_) (fun h22 => hbad (fun v => h22 v.2.2))
  have hv : iS s ∧ (0 ≤ n ∧ n ≤ 1000) ∧ iS u := ⟨h4, h15, h22⟩
  obtain ⟨⟨s, rfl⟩, ⟨n, rfl⟩, ⟨u, rfl⟩⟩ := And.intro (nat_of h4.1) (And.intro (nat_of h15.1) (nat_of h22.1))
  have hs8 : s < 8 := by omega
  have hu8 : u < 8 := by omega
  rcases (hM.2.1 s hs8).1 with ls | ls
  · refine z_aload_n E dX6_power_28 rfl ?_
    refine z_iload_n E dX6_power_29 rfl ?_
    refine c_VQ E dX6_power_30 lkX6_118 (ok_isLost0 hM hs8 ls 172) (by rfl) rfl rfl rfl (Nat.le_of_ble_eq_true rfl) ⟨(Nat.le_of_ble_eq_true rfl), (Nat.le_of_ble_eq_true rfl)⟩ ⟨rfl, rfl⟩ ⟨Nat.zero_le _, Nat.zero_le _⟩ (fun g1 hg1 => ?_)
    refine z_if_eq (tgt := 39) E (by omega) dX6_power_33 (by decide) (fun hq => False.elim (by omega)) (fun h33 => ?_)
    refine z_bipush E (by decide) dX6_power_36 ?_
    exact z_iret E F dX6_power_38 (fin hop ((if_pos hv).trans (if_pos ls)) hg1)
  refine z_aload_n E dX6_power_28 rfl ?_
  refine z_iload_n E dX6_power_29 rfl ?_
  refine c_V E dX6_power_30 lkX6_118 (ok_isLost1 hM hs8 ls 172) (by rfl) rfl rfl rfl (Nat.le_of_ble_eq_true rfl) ⟨(Nat.le_of_ble_eq_true rfl), (Nat.le_of_ble_eq_true rfl)⟩ ⟨rfl, rfl⟩ ⟨Nat.zero_le _, Nat.zero_le _⟩ ?_
  refine z_if_eq (tgt := 39) E (by omega) dX6_power_33 (by decide) (fun h33 => ?_) (fun hq => False.elim (by omega))
  have hl : ¬ (σ s 0 = 0) := by omega
  refine z_aload_n E dX6_power_39 rfl ?_
  refine z_iload_n E dX6_power_40 rfl ?_
  refine z_aload_n E dX6_power_41 rfl ?_
  refine z_get E dX6_power_42 (by rfl) flX6_26 (by rfl) ?_
  refine c_V0 E dX6_power_45 lkX6_105 (ok_read hM hs8 t162 172) (by rfl) rfl rfl rfl (Nat.le_of_ble_eq_true rfl) ⟨(Nat.le_of_ble_eq_true rfl), (Nat.le_of_ble_eq_true rfl)⟩ ⟨rfl, rfl⟩ ⟨Nat.zero_le _, Nat.zero_le _⟩ ?_
  have rs := srS_rok σ s
  refine z_aload_n E dX6_power_48 rfl ?_
  refine z_get E dX6_power_49 (by rfl) flX6_29 (by rfl) ?_
  refine c_S0 E dX6_power_52 lkX6_90 (ok_one t163 _ 172) rfl rfl rfl (Nat.le_of_ble_eq_true rfl) ⟨(Nat.le_of_ble_eq_true rfl), (Nat.le_of_ble_eq_true rfl)⟩ ⟨rfl, rfl⟩ ⟨Nat.zero_le _, Nat.zero_le _⟩ ?_
  refine z_iconst E dX6_power_55 ?_
  refine z_istore (ls' := [_, _, _, _, _]) E dX6_power_56 (Nat.le_of_ble_eq_true rfl) rfl ?_
  have loop : ∀ (m k : Nat), k + m = n → ∀ A' : Nat → Nat → Int, MI A' σ → Lo A A' → A' 162 = srS σ s → A' 163 = pR (srS σ s) k → Zc X 58 [some (.ref 156), some (.int (iI (s : Int))), some (.int (iI (n : Int))), some (.int (iI (u : Int))), some (.int (iI (k : Int)))] [] 172 (mA A') 0 0 := by
    intro m
    induction m with
    | zero =>
      intro k hk A' m1 l1 e2 e3
      have hk2 : k = n := by omega
      subst hk2
      refine z_iload E dX6_power_58 rfl ?_
      refine z_iload_n E dX6_power_60 rfl ?_
      refine z_icmp_ge (tgt := 96) E (by omega) (by omega) dX6_power_61 (by decide) (fun h61 => ?_) (fun h61 => ?_)
      · refine z_aload_n E dX6_power_96 rfl ?_
        refine z_aload_n E dX6_power_97 rfl ?_
        refine z_get E dX6_power_98 (by rfl) flX6_29 (by rfl) ?_
        refine z_iload_n E dX6_power_101 rfl ?_
        refine c_VQ E dX6_power_102 lkX6_114 (ok_tells m1 t163 hu8 (pR (srS σ s) k) e3 (pR_rok _ _) 172) (by rfl) rfl rfl rfl (Nat.le_of_ble_eq_true rfl) ⟨(Nat.le_of_ble_eq_true rfl), (Nat.le_of_ble_eq_true rfl)⟩ ⟨rfl, rfl⟩ ⟨Nat.zero_le _, Nat.zero_le _⟩ (fun g1 hg1 => ?_)
        obtain ⟨A3, rfl, m3, l3, _⟩ := hg1
        exact z_iret E F dX6_power_105 (fin hop ((if_pos hv).trans ((if_neg hl).trans (sr_eq (M_pow rs (by omega))))) (mp_to m3 (lo_tr l1 l3)))
      · omega
    | succ m ih =>
      intro k hk A' m1 l1 e2 e3
      refine z_iload E dX6_power_58 rfl ?_
      refine z_iload_n E dX6_power_60 rfl ?_
      refine z_icmp_ge (tgt := 96) E (by omega) (by omega) dX6_power_61 (by decide) (fun h61 => ?_) (fun h61 => ?_)
      · omega
      · refine z_aload_n E dX6_power_64 rfl ?_
        refine z_get E dX6_power_65 (by rfl) flX6_26 (by rfl) ?_
        refine z_aload_n E dX6_power_68 rfl ?_
        refine z_get E dX6_power_69 (by rfl) flX6_29 (by rfl) ?_
        refine z_aload_n E dX6_power_72 rfl ?_
        refine z_get E dX6_power_73 (by rfl) flX6_32 (by rfl) ?_
        refine c_S0 E dX6_power_76 lkX6_94 (ok_times t162 t163 t164 (by omega) (by omega) A' (by rw [e2]; exact rs) (by rw [e3]; exact pR_rok _ _) 172) rfl rfl rfl (Nat.le_of_ble_eq_true rfl) ⟨(Nat.le_of_ble_eq_true rfl), (Nat.le_of_ble_eq_true rfl)⟩ ⟨rfl, rfl⟩ ⟨Nat.zero_le _, Nat.zero_le _⟩ ?_
        rw [e2, e3]
        refine z_aload_n E dX6_power_79 rfl ?_
        refine z_get E dX6_power_80 (by rfl) flX6_32 (by rfl) ?_
        refine z_aload_n E dX6_power_83 rfl ?_
        refine z_get E dX6_power_84 (by rfl) flX6_29 (by rfl) ?_
        refine c_S0 E dX6_power_87 lkX6_98 (ok_set t164 t163 _ 172) rfl rfl rfl (Nat.le_of_ble_eq_true rfl) ⟨(Nat.le_of_ble_eq_true rfl), (Nat.le_of_ble_eq_true rfl)⟩ ⟨rfl, rfl⟩ ⟨Nat.zero_le _, Nat.zero_le _⟩ ?_
        rw [va_up_self]
        refine z_iinc (ls' := [_, _, _, _, _]) E dX6_power_90 rfl rfl ?_
        refine z_goto (tgt := 58) E dX6_power_93 (by decide) ?_
        rw [ei]
        refine ih (k + 1) (by omega) _ ((m1.ups (by omega)).ups (by omega)) (lo_tr l1 (lo_tr (lo_up (by omega)) (lo_up (by omega)))) ?_ ?_
        · rw [va_up_ne _ _ (by omega), va_up_ne _ _ (by omega)]; exact e2
        · rw [va_up_self]; rfl
  refine loop n 0 (by omega) _ ((hM.ups (by omega)).ups (by omega)) (lo_tr (lo_up (by omega)) (lo_up (by omega))) ?_ (va_up_self _ _ _)
  rw [va_up_ne _ _ (by omega), va_up_self]
set_option maxRecDepth 100000 in
theorem m_apply {A : Nat → Nat → Int} {σ : St} (hM : MI A σ) (s t u : Int) (hs : inR s) (ht : inR t) (hu : inR u) : OkI mX6_apply [.ref 156, .int (iI s), .int (iI t), .int (iI u)] 172 (mA A) (.int (iI (opApply σ s t u).1)) (MP A (opApply σ s t u).2) := by
  generalize hop : opApply σ s t u = R
  refine OkM.of [some (.ref 156), some (.int (iI s)), some (.int (iI t)), some (.int (iI u))] (by decide +kernel) rfl (Nat.le_of_ble_eq_true rfl) ?_
  intro X E F
  have hbad : ¬ (iS s ∧ iS t ∧ iS u) → Zc X 21 [some (.ref 156), some (.int (iI s)), some (.int (iI t)), some (.int (iI u))] [] 172 (mA A) 0 0 := by
    intro hv
    refine z_bipush E (by decide) dX6_apply_21 ?_
    exact z_iret E F dX6_apply_23 (fin hop (if_neg hv) (mp_same hM))
  refine z_iload_n E dX6_apply_0 rfl ?_
  refine c_S E dX6_apply_1 lkX6_74 (ok_isSheet6 s hs 172 _) rfl rfl rfl (Nat.le_of_ble_eq_true rfl) ⟨(Nat.le_of_ble_eq_true rfl), (Nat.le_of_ble_eq_true rfl)⟩ ⟨rfl, rfl⟩ ⟨Nat.zero_le _, Nat.zero_le _⟩ ?_
  refine z_bif_eq (tgt := 21) E dX6_apply_4 (by decide) (fun h4 => hbad (fun v => h4 v.1)) (fun h4 => ?_)
  refine z_iload_n E dX6_apply_7 rfl ?_
  refine c_S E dX6_apply_8 lkX6_74 (ok_isSheet6 t ht 172 _) rfl rfl rfl (Nat.le_of_ble_eq_true rfl) ⟨(Nat.le_of_ble_eq_true rfl), (Nat.le_of_ble_eq_true rfl)⟩ ⟨rfl, rfl⟩ ⟨Nat.zero_le _, Nat.zero_le _⟩ ?_
  refine z_bif_eq (tgt := 21) E dX6_apply_11 (by decide) (fun h11 => hbad (fun v => h11 v.2.1)) (fun h11 => ?_)
  refine z_iload_n E dX6_apply_14 rfl ?_
  refine c_S E dX6_apply_15 lkX6_74 (ok_isSheet6 u hu 172 _) rfl rfl rfl (Nat.le_of_ble_eq_true rfl) ⟨(Nat.le_of_ble_eq_true rfl), (Nat.le_of_ble_eq_true rfl)⟩ ⟨rfl, rfl⟩ ⟨Nat.zero_le _, Nat.zero_le _⟩ ?_
  refine z_bif_ne (tgt := 24) E dX6_apply_18 (by decide) (fun h18 => ?_) (fun h18 => hbad (fun v => h18 v.2.2))
  have hv : iS s ∧ iS t ∧ iS u := ⟨h4, h11, h18⟩
  obtain ⟨⟨s, rfl⟩, ⟨t, rfl⟩, ⟨u, rfl⟩⟩ := And.intro (nat_of h4.1) (And.intro (nat_of h11.1) (nat_of h18.1))
  have hs8 : s < 8 := by omega
  have ht8 : t < 8 := by omega
  have hu8 : u < 8 := by omega
  rcases (hM.2.1 s hs8).1 with ls | ls
  · refine z_aload_n E dX6_apply_24 rfl ?_
    refine z_iload_n E dX6_apply_25 rfl ?_
    refine c_VQ E dX6_apply_26 lkX6_118 (ok_isLost0 hM hs8 ls 172) (by rfl) rfl rfl rfl (Nat.le_of_ble_eq_true rfl) ⟨(Nat.le_of_ble_eq_true rfl), (Nat.le_of_ble_eq_true rfl)⟩ ⟨rfl, rfl⟩ ⟨Nat.zero_le _, Nat.zero_le _⟩ (fun g1 hg1 => ?_)
    refine z_if_ne (tgt := 40) E (by omega) dX6_apply_29 (by decide) (fun h29 => ?_) (fun hq => False.elim (by omega))
    refine z_bipush E (by decide) dX6_apply_40 ?_
    exact z_iret E F dX6_apply_42 (fin hop ((if_pos hv).trans (if_pos (Or.inl ls))) hg1)
  refine z_aload_n E dX6_apply_24 rfl ?_
  refine z_iload_n E dX6_apply_25 rfl ?_
  refine c_V E dX6_apply_26 lkX6_118 (ok_isLost1 hM hs8 ls 172) (by rfl) rfl rfl rfl (Nat.le_of_ble_eq_true rfl) ⟨(Nat.le_of_ble_eq_true rfl), (Nat.le_of_ble_eq_true rfl)⟩ ⟨rfl, rfl⟩ ⟨Nat.zero_le _, Nat.zero_le _⟩ ?_
  refine z_if_ne (tgt := 40) E (by omega) dX6_apply_29 (by decide) (fun hq => False.elim (by omega)) (fun h29 => ?_)
  rcases (hM.2.1 t ht8).1 with lt | lt
  · refine z_aload_n E dX6_apply_32 rfl ?_
    refine z_iload_n E dX6_apply_33 rfl ?_
    refine c_VQ E dX6_apply_34 lkX6_118 (ok_isLost0 hM ht8 lt 172) (by rfl) rfl rfl rfl (Nat.le_of_ble_eq_true rfl) ⟨(Nat.le_of_ble_eq_true rfl), (Nat.le_of_ble_eq_true rfl)⟩ ⟨rfl, rfl⟩ ⟨Nat.zero_le _, Nat.zero_le _⟩ (fun g1 hg1 => ?_)
    refine z_if_eq (tgt := 43) E (by omega) dX6_apply_37 (by decide) (fun hq => False.elim (by omega)) (fun h37 => ?_)
    refine z_bipush E (by decide) dX6_apply_40 ?_
    exact z_iret E F dX6_apply_42 (fin hop ((if_pos hv).trans (if_pos (Or.inr lt))) hg1)
  refine z_aload_n E dX6_apply_32 rfl ?_
  refine z_iload_n E dX6_apply_33 rfl ?_
  refine c_V E dX6_apply_34 lkX6_118 (ok_isLost1 hM ht8 lt 172) (by rfl) rfl rfl rfl (Nat.le_of_ble_eq_true rfl) ⟨(Nat.le_of_ble_eq_true rfl), (Nat.le_of_ble_eq_true rfl)⟩ ⟨rfl, rfl⟩ ⟨Nat.zero_le _, Nat.zero_le _⟩ ?_
  refine z_if_eq (tgt := 43) E (by omega) dX6_apply_37 (by decide) (fun h37 => ?_) (fun hq => False.elim (by omega))
  have hl : ¬ (σ s 0 = 0 ∨ σ t 0 = 0) := by omega
  refine z_aload_n E dX6_apply_43 rfl ?_
  refine z_iload_n E dX6_apply_44 rfl ?_
  refine z_aload_n E dX6_apply_45 rfl ?_
  refine z_get E dX6_apply_46 (by rfl) flX6_26 (by rfl) ?_
  refine c_V0 E dX6_apply_49 lkX6_105 (ok_read hM hs8 t162 172) (by rfl) rfl rfl rfl (Nat.le_of_ble_eq_true rfl) ⟨(Nat.le_of_ble_eq_true rfl), (Nat.le_of_ble_eq_true rfl)⟩ ⟨rfl, rfl⟩ ⟨Nat.zero_le _, Nat.zero_le _⟩ ?_
  refine z_aload_n E dX6_apply_52 rfl ?_
  refine z_iload_n E dX6_apply_53 rfl ?_
  refine z_aload_n E dX6_apply_54 rfl ?_
  refine z_get E dX6_apply_55 (by rfl) flX6_29 (by rfl) ?_
  refine c_V0 E dX6_apply_58 lkX6_105 (ok_read (hM.ups (by omega)) ht8 t163 172) (by rfl) rfl rfl rfl (Nat.le_of_ble_eq_true rfl) ⟨(Nat.le_of_ble_eq_true rfl), (Nat.le_of_ble_eq_true rfl)⟩ ⟨rfl, rfl⟩ ⟨Nat.zero_le _, Nat.zero_le _⟩ ?_
  generalize hB : va_up (va_up A 162 (srS σ s)) 163 (srS σ t) = B
  have hMB : MI B σ := by rw [← hB]; exact (hM.ups (by omega)).ups (by omega)
  have loB : Lo A B := by rw [← hB]; exact lo_tr (lo_up (by omega)) (lo_up (by omega))
  have b2 : B 162 = srS σ s := by rw [← hB, va_up_ne _ _ (by omega), va_up_self]
  have b3 : B 163 = srS σ t := by rw [← hB, va_up_self]
  have rs := srS_rok σ s
  have rt := srS_rok σ t
  refine z_aload_n E dX6_apply_61 rfl ?_
  refine z_get E dX6_apply_62 (by rfl) flX6_26 (by rfl) ?_
  refine z_aload_n E dX6_apply_65 rfl ?_
  refine z_get E dX6_apply_66 (by rfl) flX6_29 (by rfl) ?_
  refine z_aload_n E dX6_apply_69 rfl ?_
  refine z_get E dX6_apply_70 (by rfl) flX6_32 (by rfl) ?_
  refine c_S0 E dX6_apply_73 lkX6_134 (ok_works t162 t163 t164 (by omega) (by omega) B (by rw [b2]; exact rs) (by rw [b3]; exact rt) 172) rfl rfl rfl (Nat.le_of_ble_eq_true rfl) ⟨(Nat.le_of_ble_eq_true rfl), (Nat.le_of_ble_eq_true rfl)⟩ ⟨rfl, rfl⟩ ⟨Nat.zero_le _, Nat.zero_le _⟩ ?_
  rw [b2, b3]
  refine z_aload_n E dX6_apply_76 rfl ?_
  refine z_aload_n E dX6_apply_77 rfl ?_
  refine z_get E dX6_apply_78 (by rfl) flX6_32 (by rfl) ?_
  refine z_iload_n E dX6_apply_81 rfl ?_
  refine c_VQ E dX6_apply_82 lkX6_114 (ok_tells (A := va_up B 164 (wkS (srS σ s) (srS σ t))) (hMB.ups (by omega)) t164 hu8 (wkS (srS σ s) (srS σ t)) (va_up_self _ _ _) (fun j _ => wkT_in _ _ _ _) 172) (by rfl) rfl rfl rfl (Nat.le_of_ble_eq_true rfl) ⟨(Nat.le_of_ble_eq_true rfl), (Nat.le_of_ble_eq_true rfl)⟩ ⟨rfl, rfl⟩ ⟨Nat.zero_le _, Nat.zero_le _⟩ (fun g1 hg1 => ?_)
  obtain ⟨A3, rfl, m3, l3, _⟩ := hg1
  exact z_iret E F dX6_apply_85 (fin hop ((if_pos hv).trans ((if_neg hl).trans (sr_eq (M_work rs rt)))) (mp_to m3 (lo_tr loB (lo_tr (lo_up (by omega)) l3))))
set_option maxRecDepth 100000 in
theorem m_difference {A : Nat → Nat → Int} {σ : St} (hM : MI A σ) (s k x : Int) (hs : inR s) (hk : inR k) (hx : inR x) : OkI mX6_difference [.ref 156, .int (iI s), .int (iI k), .int (iI x)] 172 (mA A) (.int (iI (opDiff σ s k x).1)) (MP A (opDiff σ s k x).2) := by
  generalize hop : opDiff σ s k x = R
  refine OkM.of [some (.ref 156), some (.int (iI s)), some (.int (iI k)), some (.int (iI x))] (by decide +kernel) rfl (Nat.le_of_ble_eq_true rfl) ?_
  intro X E F
  have hbad : ¬ (iS s ∧ iP k) → Zc X 17 [some (.ref 156), some (.int (iI s)), some (.int (iI k)), some (.int (iI x))] [] 172 (mA A) 0 0 := by
    intro hv
    refine z_bipush E (by decide) dX6_difference_17 ?_
    exact z_iret E F dX6_difference_19 (fin hop (if_neg hv) (mp_same hM))
  refine z_iload_n E dX6_difference_0 rfl ?_
  refine c_S E dX6_difference_1 lkX6_74 (ok_isSheet6 s hs 172 _) rfl rfl rfl (Nat.le_of_ble_eq_true rfl) ⟨(Nat.le_of_ble_eq_true rfl), (Nat.le_of_ble_eq_true rfl)⟩ ⟨rfl, rfl⟩ ⟨Nat.zero_le _, Nat.zero_le _⟩ ?_
  refine z_bif_eq (tgt := 17) E dX6_difference_4 (by decide) (fun h4 => hbad (fun v => h4 v.1)) (fun h4 => ?_)
  refine z_iload_n E dX6_difference_7 rfl ?_
  refine z_iconst E dX6_difference_8 ?_
  refine z_bipush E (by decide) dX6_difference_9 ?_
  refine c_S E dX6_difference_11 lkX6_70 (ok_inB k 0 9 (iP k) (by omega) hk (by omega) (by omega) 172 _) rfl rfl rfl (Nat.le_of_ble_eq_true rfl) ⟨(Nat.le_of_ble_eq_true rfl), (Nat.le_of_ble_eq_true rfl)⟩ ⟨rfl, rfl⟩ ⟨Nat.zero_le _, Nat.zero_le _⟩ ?_
  refine z_bif_ne (tgt := 20) E dX6_difference_14 (by decide) (fun h14 => ?_) (fun h14 => hbad (fun v => h14 v.2))
  have hv : iS s ∧ iP k := ⟨h4, h14⟩
  obtain ⟨⟨s, rfl⟩, ⟨k, rfl⟩⟩ := And.intro (nat_of h4.1) (nat_of h14.1)
  have hs8 : s < 8 := by omega
  rcases (hM.2.1 s hs8).1 with ls | ls
  · refine z_aload_n E dX6_difference_20 rfl ?_
    refine z_iload_n E dX6_difference_21 rfl ?_
    refine c_VQ E dX6_difference_22 lkX6_118 (ok_isLost0 hM hs8 ls 172) (by rfl) rfl rfl rfl (Nat.le_of_ble_eq_true rfl) ⟨(Nat.le_of_ble_eq_true rfl), (Nat.le_of_ble_eq_true rfl)⟩ ⟨rfl, rfl⟩ ⟨Nat.zero_le _, Nat.zero_le _⟩ (fun g1 hg1 => ?_)
    refine z_if_eq (tgt := 31) E (by omega) dX6_difference_25 (by decide) (fun hq => False.elim (by omega)) (fun h25 => ?_)
    refine z_bipush E (by decide) dX6_difference_28 ?_
    exact z_iret E F dX6_difference_30 (fin hop ((if_pos hv).trans (if_pos ls)) hg1)
  refine z_aload_n E dX6_difference_20 rfl ?_
  refine z_iload_n E dX6_difference_21 rfl ?_
  refine c_V E dX6_difference_22 lkX6_118 (ok_isLost1 hM hs8 ls 172) (by rfl) rfl rfl rfl (Nat.le_of_ble_eq_true rfl) ⟨(Nat.le_of_ble_eq_true rfl), (Nat.le_of_ble_eq_true rfl)⟩ ⟨rfl, rfl⟩ ⟨Nat.zero_le _, Nat.zero_le _⟩ ?_
  refine z_if_eq (tgt := 31) E (by omega) dX6_difference_25 (by decide) (fun h25 => ?_) (fun hq => False.elim (by omega))
  have hl : ¬ (σ s 0 = 0) := by omega
  refine z_aload_n E dX6_difference_31 rfl ?_
  refine z_iload_n E dX6_difference_32 rfl ?_
  refine z_aload_n E dX6_difference_33 rfl ?_
  refine z_get E dX6_difference_34 (by rfl) flX6_26 (by rfl) ?_
  refine c_V0 E dX6_difference_37 lkX6_105 (ok_read hM hs8 t162 172) (by rfl) rfl rfl rfl (Nat.le_of_ble_eq_true rfl) ⟨(Nat.le_of_ble_eq_true rfl), (Nat.le_of_ble_eq_true rfl)⟩ ⟨rfl, rfl⟩ ⟨Nat.zero_le _, Nat.zero_le _⟩ ?_
  have rs := srS_rok σ s
  refine z_aload_n E dX6_difference_40 rfl ?_
  refine z_iload_n E dX6_difference_41 rfl ?_
  refine z_iload_n E dX6_difference_42 rfl ?_
  refine z_i2l E (by omega) dX6_difference_43 ?_
  refine c_S E dX6_difference_44 lkX6_62 (ok_mod _ ⟨by omega, by omega⟩ (by omega) 172 _) rfl rfl rfl (Nat.le_of_ble_eq_true rfl) ⟨(Nat.le_of_ble_eq_true rfl), (Nat.le_of_ble_eq_true rfl)⟩ ⟨rfl, rfl⟩ ⟨Nat.zero_le _, Nat.zero_le _⟩ ?_
  refine c_V E dX6_difference_47 lkX6_159 (ok_differs (va_up A 162 (srS σ s)) (by rw [va_up_self]; exact rs) k (by omega) (x % 10007) (by omega) 172) (by rfl) rfl rfl rfl (Nat.le_of_ble_eq_true rfl) ⟨(Nat.le_of_ble_eq_true rfl), (Nat.le_of_ble_eq_true rfl)⟩ ⟨rfl, rfl⟩ ⟨Nat.zero_le _, Nat.zero_le _⟩ ?_
  rw [va_up_self]
  exact z_iret E F dX6_difference_50 (fin hop ((if_pos hv).trans ((if_neg hl).trans (congrArg (fun z => (z, σ)) (M_diff rs x (k := k) (by omega))))) (mp_to (hM.ups (by omega)) (lo_up (by omega))))
set_option maxRecDepth 100000 in
theorem m_sum {A : Nat → Nat → Int} {σ : St} (hM : MI A σ) (s x n : Int) (hs : inR s) (hx : inR x) (hn : inR n) : OkI mX6_sum [.ref 156, .int (iI s), .int (iI x), .int (iI n)] 172 (mA A) (.int (iI (opSum σ s x n).1)) (MP A (opSum σ s x n).2) := by
  generalize hop : opSum σ s x n = R
  refine OkM.of [some (.ref 156), some (.int (iI s)), some (.int (iI x)), some (.int (iI n)), none, none, none] (by decide +kernel) rfl (Nat.le_of_ble_eq_true rfl) ?_
  intro X E F
  have hbad : ¬ (iS s ∧ (0 ≤ n ∧ n ≤ 2000000000)) → Zc X 17 [some (.ref 156), some (.int (iI s)), some (.int (iI x)), some (.int (iI n)), none, none, none] [] 172 (mA A) 0 0 := by
    intro hv
    refine z_bipush E (by decide) dX6_sum_17 ?_
    exact z_iret E F dX6_sum_19 (fin hop (if_neg hv) (mp_same hM))
  refine z_iload_n E dX6_sum_0 rfl ?_
  refine c_S E dX6_sum_1 lkX6_74 (ok_isSheet6 s hs 172 _) rfl rfl rfl (Nat.le_of_ble_eq_true rfl) ⟨(Nat.le_of_ble_eq_true rfl), (Nat.le_of_ble_eq_true rfl)⟩ ⟨rfl, rfl⟩ ⟨Nat.zero_le _, Nat.zero_le _⟩ ?_
  refine z_bif_eq (tgt := 17) E dX6_sum_4 (by decide) (fun h4 => hbad (fun v => h4 v.1)) (fun h4 => ?_)
  refine z_iload_n E dX6_sum_7 rfl ?_
  refine z_iconst E dX6_sum_8 ?_
  refine z_ldc (z := 2000000000) E ctX6_158 (by decide) dX6_sum_9 ?_
  refine c_S E dX6_sum_11 lkX6_70 (ok_inB n 0 2000000000 (0 ≤ n ∧ n ≤ 2000000000) (by omega) hn (by omega) (by omega) 172 _) rfl rfl rfl (Nat.le_of_ble_eq_true rfl) ⟨(Nat.le_of_ble_eq_true rfl), (Nat.le_of_ble_eq_true rfl)⟩ ⟨rfl, rfl⟩ ⟨Nat.zero_le _, Nat.zero_le _⟩ ?_
  refine z_bif_ne (tgt := 20) E dX6_sum_14 (by decide) (fun h14 => ?_) (fun h14 => hbad (fun v => h14 v.2))
  have hv : iS s ∧ (0 ≤ n ∧ n ≤ 2000000000) := ⟨h4, h14⟩
  obtain ⟨s, rfl⟩ := nat_of h4.1
  have hs8 : s < 8 := by omega
  rcases (hM.2.1 s hs8).1 with ls | ls
  · refine z_aload_n E dX6_sum_20 rfl ?_
    refine z_iload_n E dX6_sum_21 rfl ?_
    refine c_VQ E dX6_sum_22 lkX6_118 (ok_isLost0 hM hs8 ls 172) (by rfl) rfl rfl rfl (Nat.le_of_ble_eq_true rfl) ⟨(Nat.le_of_ble_eq_true rfl), (Nat.le_of_ble_eq_true rfl)⟩ ⟨rfl, rfl⟩ ⟨Nat.zero_le _, Nat.zero_le _⟩ (fun g1 hg1 => ?_)
    refine z_if_eq (tgt := 31) E (by omega) dX6_sum_25 (by decide) (fun hq => False.elim (by omega)) (fun h25 => ?_)
    refine z_bipush E (by decide) dX6_sum_28 ?_
    exact z_iret E F dX6_sum_30 (fin hop ((if_pos hv).trans (if_pos ls)) hg1)
  refine z_aload_n E dX6_sum_20 rfl ?_
  refine z_iload_n E dX6_sum_21 rfl ?_
  refine c_V E dX6_sum_22 lkX6_118 (ok_isLost1 hM hs8 ls 172) (by rfl) rfl rfl rfl (Nat.le_of_ble_eq_true rfl) ⟨(Nat.le_of_ble_eq_true rfl), (Nat.le_of_ble_eq_true rfl)⟩ ⟨rfl, rfl⟩ ⟨Nat.zero_le _, Nat.zero_le _⟩ ?_
  refine z_if_eq (tgt := 31) E (by omega) dX6_sum_25 (by decide) (fun h25 => ?_) (fun hq => False.elim (by omega))
  have hl : ¬ (σ s 0 = 0) := by omega
  refine z_aload_n E dX6_sum_31 rfl ?_
  refine z_iload_n E dX6_sum_32 rfl ?_
  refine z_aload_n E dX6_sum_33 rfl ?_
  refine z_get E dX6_sum_34 (by rfl) flX6_26 (by rfl) ?_
  refine c_V0 E dX6_sum_37 lkX6_105 (ok_read hM hs8 t162 172) (by rfl) rfl rfl rfl (Nat.le_of_ble_eq_true rfl) ⟨(Nat.le_of_ble_eq_true rfl), (Nat.le_of_ble_eq_true rfl)⟩ ⟨rfl, rfl⟩ ⟨Nat.zero_le _, Nat.zero_le _⟩ ?_
  have rs := srS_rok σ s
  refine z_iconst E dX6_sum_40 ?_
  refine z_istore (ls' := [_, _, _, _, _, _, _]) E dX6_sum_41 (Nat.le_of_ble_eq_true rfl) rfl ?_
  refine z_iconst E dX6_sum_43 ?_
  refine z_istore (ls' := [_, _, _, _, _, _, _]) E dX6_sum_44 (Nat.le_of_ble_eq_true rfl) rfl ?_
  refine z_iconst E dX6_sum_46 ?_
  refine z_istore (ls' := [_, _, _, _, _, _, _]) E dX6_sum_47 (Nat.le_of_ble_eq_true rfl) rfl ?_
  have loop : ∀ (m k : Nat), k + m = 10 → Zc X 49 [some (.ref 156), some (.int (iI (s : Int))), some (.int (iI x)), some (.int (iI n)), some (.int (iI (suT (fdS (srS σ s) x) (n % 10007) k))), some (.int (iI (suC (n % 10007) k))), some (.int (iI (k : Int)))] [] 172 (mA (va_up A 162 (srS σ s))) 0 0 := by
    intro m
    induction m with
    | zero =>
      intro k hk
      have hk2 : k = 10 := by omega
      subst hk2
      refine z_iload E dX6_sum_49 rfl ?_
      refine z_bipush E (by decide) dX6_sum_51 ?_
      refine z_icmp_ge (tgt := 119) E (by omega) (by omega) dX6_sum_53 (by decide) (fun h53 => ?_) (fun h53 => ?_)
      · refine z_iload E dX6_sum_119 rfl ?_
        exact z_iret E F dX6_sum_121 (fin hop ((if_pos hv).trans (if_neg hl)) (mp_to (hM.ups (by omega)) (lo_up (by omega))))
      · omega
    | succ m ih =>
      intro k hk
      have i1 := suC_in (n % 10007) k
      have i2 := suT_in (fdS (srS σ s) x) (n % 10007) k
      have p1 := mul_in i1 (b := (n - (k : Int)) % 10007) (by omega)
      have i3 := pw_in ((k : Int) + 1) 10005
      have p2 := mul_in (a := suC (n % 10007) k * ((n - (k : Int)) % 10007) % 10007) (by omega) i3
      have e1 : suC (n % 10007) (k + 1) = suC (n % 10007) k * ((n - (k : Int)) % 10007) % 10007 * pw ((k : Int) + 1) 10005 % 10007 := by
        rw [suC, show (n % 10007 - (k : Int)) % 10007 = (n - (k : Int)) % 10007 by omega]; rfl
      have i4 := suC_in (n % 10007) (k + 1)
      have e2 := M_diff rs x (k := k) (by omega)
      have i5 : 0 ≤ dfM (srS σ s) (x % 10007) k ∧ dfM (srS σ s) (x % 10007) k < 10007 := by unfold dfM; omega
      have p3 := mul_in i5 i4
      refine z_iload E dX6_sum_49 rfl ?_
      refine z_bipush E (by decide) dX6_sum_51 ?_
      refine z_icmp_ge (tgt := 119) E (by omega) (by omega) dX6_sum_53 (by decide) (fun h53 => ?_) (fun h53 => ?_)
      · omega
      · refine z_iload E dX6_sum_56 rfl ?_
        refine z_i2l E (by omega) dX6_sum_58 ?_
        refine z_iload_n E dX6_sum_59 rfl ?_
        refine z_i2l E (by omega) dX6_sum_60 ?_
        refine z_iload E dX6_sum_61 rfl ?_
        refine z_i2l E (by omega) dX6_sum_63 ?_
        refine z_lsub E dX6_sum_64 ?_
        refine c_S E dX6_sum_65 lkX6_62 (ok_mod _ ⟨by omega, by omega⟩ (by omega) 172 _) rfl rfl rfl (Nat.le_of_ble_eq_true rfl) ⟨(Nat.le_of_ble_eq_true rfl), (Nat.le_of_ble_eq_true rfl)⟩ ⟨rfl, rfl⟩ ⟨Nat.zero_le _, Nat.zero_le _⟩ ?_
        refine z_i2l E (by omega) dX6_sum_68 ?_
        refine z_lmul E dX6_sum_69 ?_
        refine c_S E dX6_sum_70 lkX6_62 (ok_mod _ ⟨by omega, by omega⟩ (by omega) 172 _) rfl rfl rfl (Nat.le_of_ble_eq_true rfl) ⟨(Nat.le_of_ble_eq_true rfl), (Nat.le_of_ble_eq_true rfl)⟩ ⟨rfl, rfl⟩ ⟨Nat.zero_le _, Nat.zero_le _⟩ ?_
        refine z_i2l E (by omega) dX6_sum_73 ?_
        refine z_iload E dX6_sum_74 rfl ?_
        refine z_iconst E dX6_sum_76 ?_
        refine z_iadd E dX6_sum_77 ?_
        refine c_S E dX6_sum_78 lkX6_87 (ok_turnedNumber ((k : Int) + 1) (by omega) 172 _) rfl rfl rfl (Nat.le_of_ble_eq_true rfl) ⟨(Nat.le_of_ble_eq_true rfl), (Nat.le_of_ble_eq_true rfl)⟩ ⟨rfl, rfl⟩ ⟨Nat.zero_le _, Nat.zero_le _⟩ ?_
        refine z_i2l E (by omega) dX6_sum_81 ?_
        refine z_lmul E dX6_sum_82 ?_
        refine c_S E dX6_sum_83 lkX6_62 (ok_mod _ ⟨by omega, by omega⟩ (by omega) 172 _) rfl rfl rfl (Nat.le_of_ble_eq_true rfl) ⟨(Nat.le_of_ble_eq_true rfl), (Nat.le_of_ble_eq_true rfl)⟩ ⟨rfl, rfl⟩ ⟨Nat.zero_le _, Nat.zero_le _⟩ ?_
        rw [← e1]
        refine z_istore (ls' := [_, _, _, _, _, _, _]) E dX6_sum_86 (Nat.le_of_ble_eq_true rfl) rfl ?_
        refine z_iload E dX6_sum_88 rfl ?_
        refine z_i2l E (by omega) dX6_sum_90 ?_
        refine z_aload_n E dX6_sum_91 rfl ?_
        refine z_iload E dX6_sum_92 rfl ?_
        refine z_iload_n E dX6_sum_94 rfl ?_
        refine z_i2l E (by omega) dX6_sum_95 ?_
        refine c_S E dX6_sum_96 lkX6_62 (ok_mod _ ⟨by omega, by omega⟩ (by omega) 172 _) rfl rfl rfl (Nat.le_of_ble_eq_true rfl) ⟨(Nat.le_of_ble_eq_true rfl), (Nat.le_of_ble_eq_true rfl)⟩ ⟨rfl, rfl⟩ ⟨Nat.zero_le _, Nat.zero_le _⟩ ?_
        refine c_V E dX6_sum_99 lkX6_159 (ok_differs (va_up A 162 (srS σ s)) (by rw [va_up_self]; exact rs) k (by omega) (x % 10007) (by omega) 172) (by rfl) rfl rfl rfl (Nat.le_of_ble_eq_true rfl) ⟨(Nat.le_of_ble_eq_true rfl), (Nat.le_of_ble_eq_true rfl)⟩ ⟨rfl, rfl⟩ ⟨Nat.zero_le _, Nat.zero_le _⟩ ?_
        rw [va_up_self]
        refine z_i2l E (by omega) dX6_sum_102 ?_
        refine z_iload E dX6_sum_103 rfl ?_
        refine z_i2l E (by omega) dX6_sum_105 ?_
        refine z_lmul E dX6_sum_106 ?_
        refine z_ladd E dX6_sum_107 ?_
        refine c_S E dX6_sum_108 lkX6_62 (ok_mod _ ⟨by omega, by omega⟩ (by omega) 172 _) rfl rfl rfl (Nat.le_of_ble_eq_true rfl) ⟨(Nat.le_of_ble_eq_true rfl), (Nat.le_of_ble_eq_true rfl)⟩ ⟨rfl, rfl⟩ ⟨Nat.zero_le _, Nat.zero_le _⟩ ?_
        refine z_istore (ls' := [_, _, _, _, _, _, _]) E dX6_sum_111 (Nat.le_of_ble_eq_true rfl) rfl ?_
        refine z_iinc (ls' := [_, _, _, _, _, _, _]) E dX6_sum_113 rfl rfl ?_
        refine z_goto (tgt := 49) E dX6_sum_116 (by decide) ?_
        rw [ei]
        have := ih (k + 1) (by omega)
        rw [suT, e2] at this
        exact this
  exact loop 10 0 (by omega)
set_option maxRecDepth 100000 in
theorem m_triangle {A : Nat → Nat → Int} {σ : St} (hM : MI A σ) (s t n k : Int) (hs : inR s) (ht : inR t) (hn : inR n) (hk : inR k) : OkI mX6_triangle [.ref 156, .int (iI s), .int (iI t), .int (iI n), .int (iI k)] 172 (mA A) (.int (iI (opTri σ s t n k).1)) (MP A (opTri σ s t n k).2) := by
  generalize hop : opTri σ s t n k = R
  refine OkM.of [some (.ref 156), some (.int (iI s)), some (.int (iI t)), some (.int (iI n)), some (.int (iI k)), none] (by decide +kernel) rfl (Nat.le_of_ble_eq_true rfl) ?_
  intro X E F
  have hbad : ¬ (iS s ∧ iS t ∧ iP n ∧ iP k) → Zc X 35 [some (.ref 156), some (.int (iI s)), some (.int (iI t)), some (.int (iI n)), some (.int (iI k)), none] [] 172 (mA A) 0 0 := by
    intro hv
    refine z_bipush E (by decide) dX6_triangle_35 ?_
    exact z_iret E F dX6_triangle_37 (fin hop (if_neg hv) (mp_same hM))
  refine z_iload_n E dX6_triangle_0 rfl ?_
  refine c_S E dX6_triangle_1 lkX6_74 (ok_isSheet6 s hs 172 _) rfl rfl rfl (Nat.le_of_ble_eq_true rfl) ⟨(Nat.le_of_ble_eq_true rfl), (Nat.le_of_ble_eq_true rfl)⟩ ⟨rfl, rfl⟩ ⟨Nat.zero_le _, Nat.zero_le _⟩ ?_
  refine z_bif_eq (tgt := 35) E dX6_triangle_4 (by decide) (fun h4 => hbad (fun v => h4 v.1)) (fun h4 => ?_)
  refine z_iload_n E dX6_triangle_7 rfl ?_
  refine c_S E dX6_triangle_8 lkX6_74 (ok_isSheet6 t ht 172 _) rfl rfl rfl (Nat.le_of_ble_eq_true rfl) ⟨(Nat.le_of_ble_eq_true rfl), (Nat.le_of_ble_eq_true rfl)⟩ ⟨rfl, rfl⟩ ⟨Nat.zero_le _, Nat.zero_le _⟩ ?_
  refine z_bif_eq (tgt := 35) E dX6_triangle_11 (by decide) (fun h11 => hbad (fun v => h11 v.2.1)) (fun h11 => ?_)
  refine z_iload_n E dX6_triangle_14 rfl ?_
  refine z_iconst E dX6_triangle_15 ?_
  refine z_bipush E (by decide) dX6_triangle_16 ?_
  refine c_S E dX6_triangle_18 lkX6_70 (ok_inB n 0 9 (iP n) (by omega) hn (by omega) (by omega) 172 _) rfl rfl rfl (Nat.le_of_ble_eq_true rfl) ⟨(Nat.le_of_ble_eq_true rfl), (Nat.le_of_ble_eq_true rfl)⟩ ⟨rfl, rfl⟩ ⟨Nat.zero_le _, Nat.zero_le _⟩ ?_
  refine z_bif_eq (tgt := 35) E dX6_triangle_21 (by decide) (fun h21 => hbad (fun v => h21 v.2.2.1)) (fun h21 => ?_)
  refine z_iload E dX6_triangle_24 rfl ?_
  refine z_iconst E dX6_triangle_26 ?_
  refine z_bipush E (by decide) dX6_triangle_27 ?_
  refine c_S E dX6_triangle_29 lkX6_70 (ok_inB k 0 9 (iP k) (by omega) hk (by omega) (by omega) 172 _) rfl rfl rfl (Nat.le_of_ble_eq_true rfl) ⟨(Nat.le_of_ble_eq_true rfl), (Nat.le_of_ble_eq_true rfl)⟩ ⟨rfl, rfl⟩ ⟨Nat.zero_le _, Nat.zero_le _⟩ ?_
  refine z_bif_ne (tgt := 38) E dX6_triangle_32 (by decide) (fun h32 => ?_) (fun h32 => hbad (fun v => h32 v.2.2.2))
  have hv : iS s ∧ iS t ∧ iP n ∧ iP k := ⟨h4, h11, h21, h32⟩
  obtain ⟨⟨s, rfl⟩, ⟨t, rfl⟩, ⟨n, rfl⟩, ⟨k, rfl⟩⟩ := And.intro (nat_of h4.1) (And.intro (nat_of h11.1) (And.intro (nat_of h21.1) (nat_of h32.1)))
  have hs8 : s < 8 := by omega
  have ht8 : t < 8 := by omega
  rcases (hM.2.1 s hs8).1 with ls | ls
  · refine z_aload_n E dX6_triangle_38 rfl ?_
    refine z_iload_n E dX6_triangle_39 rfl ?_
    refine c_VQ E dX6_triangle_40 lkX6_118 (ok_isLost0 hM hs8 ls 172) (by rfl) rfl rfl rfl (Nat.le_of_ble_eq_true rfl) ⟨(Nat.le_of_ble_eq_true rfl), (Nat.le_of_ble_eq_true rfl)⟩ ⟨rfl, rfl⟩ ⟨Nat.zero_le _, Nat.zero_le _⟩ (fun g1 hg1 => ?_)
    refine z_if_ne (tgt := 54) E (by omega) dX6_triangle_43 (by decide) (fun h43 => ?_) (fun hq => False.elim (by omega))
    refine z_bipush E (by decide) dX6_triangle_54 ?_
    exact z_iret E F dX6_triangle_56 (fin hop ((if_pos hv).trans (if_pos (Or.inl ls))) hg1)
  refine z_aload_n E dX6_triangle_38 rfl ?_
  refine z_iload_n E dX6_triangle_39 rfl ?_
  refine c_V E dX6_triangle_40 lkX6_118 (ok_isLost1 hM hs8 ls 172) (by rfl) rfl rfl rfl (Nat.le_of_ble_eq_true rfl) ⟨(Nat.le_of_ble_eq_true rfl), (Nat.le_of_ble_eq_true rfl)⟩ ⟨rfl, rfl⟩ ⟨Nat.zero_le _, Nat.zero_le _⟩ ?_
  refine z_if_ne (tgt := 54) E (by omega) dX6_triangle_43 (by decide) (fun hq => False.elim (by omega)) (fun h43 => ?_)
  rcases (hM.2.1 t ht8).1 with lt | lt
  · refine z_aload_n E dX6_triangle_46 rfl ?_
    refine z_iload_n E dX6_triangle_47 rfl ?_
    refine c_VQ E dX6_triangle_48 lkX6_118 (ok_isLost0 hM ht8 lt 172) (by rfl) rfl rfl rfl (Nat.le_of_ble_eq_true rfl) ⟨(Nat.le_of_ble_eq_true rfl), (Nat.le_of_ble_eq_true rfl)⟩ ⟨rfl, rfl⟩ ⟨Nat.zero_le _, Nat.zero_le _⟩ (fun g1 hg1 => ?_)
    refine z_if_eq (tgt := 57) E (by omega) dX6_triangle_51 (by decide) (fun hq => False.elim (by omega)) (fun h51 => ?_)
    refine z_bipush E (by decide) dX6_triangle_54 ?_
    exact z_iret E F dX6_triangle_56 (fin hop ((if_pos hv).trans (if_pos (Or.inr lt))) hg1)
  refine z_aload_n E dX6_triangle_46 rfl ?_
  refine z_iload_n E dX6_triangle_47 rfl ?_
  refine c_V E dX6_triangle_48 lkX6_118 (ok_isLost1 hM ht8 lt 172) (by rfl) rfl rfl rfl (Nat.le_of_ble_eq_true rfl) ⟨(Nat.le_of_ble_eq_true rfl), (Nat.le_of_ble_eq_true rfl)⟩ ⟨rfl, rfl⟩ ⟨Nat.zero_le _, Nat.zero_le _⟩ ?_
  refine z_if_eq (tgt := 57) E (by omega) dX6_triangle_51 (by decide) (fun h51 => ?_) (fun hq => False.elim (by omega))
  have hl : ¬ (σ s 0 = 0 ∨ σ t 0 = 0) := by omega
  refine z_aload_n E dX6_triangle_57 rfl ?_
  refine z_iload_n E dX6_triangle_58 rfl ?_
  refine z_aload_n E dX6_triangle_59 rfl ?_
  refine z_get E dX6_triangle_60 (by rfl) flX6_26 (by rfl) ?_
  refine c_V0 E dX6_triangle_63 lkX6_105 (ok_read hM hs8 t162 172) (by rfl) rfl rfl rfl (Nat.le_of_ble_eq_true rfl) ⟨(Nat.le_of_ble_eq_true rfl), (Nat.le_of_ble_eq_true rfl)⟩ ⟨rfl, rfl⟩ ⟨Nat.zero_le _, Nat.zero_le _⟩ ?_
  refine z_aload_n E dX6_triangle_66 rfl ?_
  refine z_iload_n E dX6_triangle_67 rfl ?_
  refine z_aload_n E dX6_triangle_68 rfl ?_
  refine z_get E dX6_triangle_69 (by rfl) flX6_29 (by rfl) ?_
  refine c_V0 E dX6_triangle_72 lkX6_105 (ok_read (hM.ups (by omega)) ht8 t163 172) (by rfl) rfl rfl rfl (Nat.le_of_ble_eq_true rfl) ⟨(Nat.le_of_ble_eq_true rfl), (Nat.le_of_ble_eq_true rfl)⟩ ⟨rfl, rfl⟩ ⟨Nat.zero_le _, Nat.zero_le _⟩ ?_
  generalize hB : va_up (va_up A 162 (srS σ s)) 163 (srS σ t) = B
  have hMB : MI B σ := by rw [← hB]; exact (hM.ups (by omega)).ups (by omega)
  have loB : Lo A B := by rw [← hB]; exact lo_tr (lo_up (by omega)) (lo_up (by omega))
  have b2 : B 162 = srS σ s := by rw [← hB, va_up_ne _ _ (by omega), va_up_self]
  have b3 : B 163 = srS σ t := by rw [← hB, va_up_self]
  have rs := srS_rok σ s
  have rt := srS_rok σ t
  have rt0 := rt 0 (by omega)
  refine z_aload_n E dX6_triangle_75 rfl ?_
  refine z_get E dX6_triangle_76 (by rfl) flX6_29 (by rfl) ?_
  refine z_iconst E dX6_triangle_79 ?_
  refine a_iald (j := 0) E dX6_triangle_80 (cel_ten t163) (by omega) (by omega) (by omega) ?_
  rw [b3]
  refine z_if_eq (tgt := 87) E (by omega) dX6_triangle_81 (by decide) (fun h81 => ?_) (fun h81 => ?_)
  · refine z_iconst E dX6_triangle_87 ?_
    refine z_istore (ls' := [_, _, _, _, _, _]) E dX6_triangle_88 (Nat.le_of_ble_eq_true rfl) rfl ?_
    have loop : ∀ (m j : Nat), j + m = k → ∀ A' : Nat → Nat → Int, MI A' σ → Lo A A' → A' 162 = trR (srS σ s) (srS σ t) j → A' 163 = srS σ t → Zc X 90 [some (.ref 156), some (.int (iI (s : Int))), some (.int (iI (t : Int))), some (.int (iI (n : Int))), some (.int (iI (k : Int))), some (.int (iI (j : Int)))] [] 172 (mA A') 0 0 := by
      intro m
      induction m with
      | zero =>
        intro j hj A' m1 l1 e2 e3
        have hj2 : j = k := by omega
        subst hj2
        refine z_iload E dX6_triangle_90 rfl ?_
        refine z_iload E dX6_triangle_92 rfl ?_
        refine z_icmp_ge (tgt := 129) E (by omega) (by omega) dX6_triangle_94 (by decide) (fun h94 => ?_) (fun h94 => ?_)
        · refine z_aload_n E dX6_triangle_129 rfl ?_
          refine z_get E dX6_triangle_130 (by rfl) flX6_26 (by rfl) ?_
          refine z_iload_n E dX6_triangle_133 rfl ?_
          refine a_iald (j := n) E dX6_triangle_134 (cel_ten t162) (by omega) (by omega) (by omega) ?_
          rw [e2]
          exact z_iret E F dX6_triangle_135 (fin hop ((if_pos hv).trans ((if_neg hl).trans ((if_pos h81).trans (congrArg (fun z => (z, σ)) (M_tri rs rt (k := j) (by omega) n (by omega)))))) (mp_to m1 l1))
        · omega
      | succ m ih =>
        intro j hj A' m1 l1 e2 e3
        refine z_iload E dX6_triangle_90 rfl ?_
        refine z_iload E dX6_triangle_92 rfl ?_
        refine z_icmp_ge (tgt := 129) E (by omega) (by omega) dX6_triangle_94 (by decide) (fun h94 => ?_) (fun h94 => ?_)
        · omega
        · refine z_aload_n E dX6_triangle_97 rfl ?_
          refine z_get E dX6_triangle_98 (by rfl) flX6_26 (by rfl) ?_
          refine z_aload_n E dX6_triangle_101 rfl ?_
          refine z_get E dX6_triangle_102 (by rfl) flX6_29 (by rfl) ?_
          refine z_aload_n E dX6_triangle_105 rfl ?_
          refine z_get E dX6_triangle_106 (by rfl) flX6_32 (by rfl) ?_
          refine c_S0 E dX6_triangle_109 lkX6_94 (ok_times t162 t163 t164 (by omega) (by omega) A' (by rw [e2]; exact trR_rok rs _) (by rw [e3]; exact rt) 172) rfl rfl rfl (Nat.le_of_ble_eq_true rfl) ⟨(Nat.le_of_ble_eq_true rfl), (Nat.le_of_ble_eq_true rfl)⟩ ⟨rfl, rfl⟩ ⟨Nat.zero_le _, Nat.zero_le _⟩ ?_
          rw [e2, e3]
          refine z_aload_n E dX6_triangle_112 rfl ?_
          refine z_get E dX6_triangle_113 (by rfl) flX6_32 (by rfl) ?_
          refine z_aload_n E dX6_triangle_116 rfl ?_
          refine z_get E dX6_triangle_117 (by rfl) flX6_26 (by rfl) ?_
          refine c_S0 E dX6_triangle_120 lkX6_98 (ok_set t164 t162 _ 172) rfl rfl rfl (Nat.le_of_ble_eq_true rfl) ⟨(Nat.le_of_ble_eq_true rfl), (Nat.le_of_ble_eq_true rfl)⟩ ⟨rfl, rfl⟩ ⟨Nat.zero_le _, Nat.zero_le _⟩ ?_
          rw [va_up_self]
          refine z_iinc (ls' := [_, _, _, _, _, _]) E dX6_triangle_123 rfl rfl ?_
          refine z_goto (tgt := 90) E dX6_triangle_126 (by decide) ?_
          rw [ei]
          refine ih (j + 1) (by omega) _ ((m1.ups (by omega)).ups (by omega)) (lo_tr l1 (lo_tr (lo_up (by omega)) (lo_up (by omega)))) ?_ ?_
          · rw [va_up_self]; rfl
          · rw [va_up_ne _ _ (by omega), va_up_ne _ _ (by omega)]; exact e3
    exact loop k 0 (by omega) _ hMB loB b2 b3
  · refine z_bipush E (by decide) dX6_triangle_84 ?_
    exact z_iret E F dX6_triangle_86 (fin hop ((if_pos hv).trans ((if_neg hl).trans (if_neg h81))) (mp_to hMB loB))
