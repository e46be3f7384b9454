/-! the reference's calls: told in another's steps, counts, digest -/
set_option maxRecDepth 100000 in
theorem m_bound {A : Nat → Nat → Int} {σ : St} (hM : MI A σ) (k o n j : Int) (hk : inR k) (ho : inR o) (hn : inR n) (hj : inR j) : OkI mX6_bound [.ref 156, .int (iI k), .int (iI o), .int (iI n), .int (iI j)] 172 (mA A) (.int (iI (opBound σ k o n j).1)) (MP A (opBound σ k o n j).2) := by
  generalize hop : opBound σ k o n j = R
  refine OkM.of [some (.ref 156), some (.int (iI k)), some (.int (iI o)), some (.int (iI n)), some (.int (iI j)), none, none, none] (by decide +kernel) rfl (Nat.le_of_ble_eq_true rfl) ?_
  intro X E F
  have hbad : ¬ (iL k ∧ iL o ∧ iP n ∧ iP j) → Zc X 28 [some (.ref 156), some (.int (iI k)), some (.int (iI o)), some (.int (iI n)), some (.int (iI j)), none, none, none] [] 172 (mA A) 0 0 := by
    intro hv
    refine z_bipush E (by decide) dX6_bound_28 ?_
    exact z_iret E F dX6_bound_30 (fin hop (if_neg hv) (mp_same hM))
  refine z_iload_n E dX6_bound_0 rfl ?_
  refine z_iload_n E dX6_bound_1 rfl ?_
  refine c_S E dX6_bound_2 lkX6_141 (ok_isRung k n hk hn 172 _) rfl rfl rfl (Nat.le_of_ble_eq_true rfl) ⟨(Nat.le_of_ble_eq_true rfl), (Nat.le_of_ble_eq_true rfl)⟩ ⟨rfl, rfl⟩ ⟨Nat.zero_le _, Nat.zero_le _⟩ ?_
  refine z_bif_eq (tgt := 28) E dX6_bound_5 (by decide) (fun h5 => hbad (fun v => h5 (And.intro v.1 v.2.2.1))) (fun h5 => ?_)
  refine z_iload_n E dX6_bound_8 rfl ?_
  refine z_iconst E dX6_bound_9 ?_
  refine z_iconst E dX6_bound_10 ?_
  refine c_S E dX6_bound_11 lkX6_70 (ok_inB o 0 3 (iL o) (by omega) ho (by omega) (by omega) 172 _) rfl rfl rfl (Nat.le_of_ble_eq_true rfl) ⟨(Nat.le_of_ble_eq_true rfl), (Nat.le_of_ble_eq_true rfl)⟩ ⟨rfl, rfl⟩ ⟨Nat.zero_le _, Nat.zero_le _⟩ ?_
  refine z_bif_eq (tgt := 28) E dX6_bound_14 (by decide) (fun h14 => hbad (fun v => h14 v.2.1)) (fun h14 => ?_)
  refine z_iload E dX6_bound_17 rfl ?_
  refine z_iconst E dX6_bound_19 ?_
  refine z_bipush E (by decide) dX6_bound_20 ?_
  refine c_S E dX6_bound_22 lkX6_70 (ok_inB j 0 9 (iP j) (by omega) hj (by omega) (by omega) 172 _) rfl rfl rfl (Nat.le_of_ble_eq_true rfl) ⟨(Nat.le_of_ble_eq_true rfl), (Nat.le_of_ble_eq_true rfl)⟩ ⟨rfl, rfl⟩ ⟨Nat.zero_le _, Nat.zero_le _⟩ ?_
  refine z_bif_ne (tgt := 31) E dX6_bound_25 (by decide) (fun h25 => ?_) (fun h25 => hbad (fun v => h25 v.2.2.2))
  have hv : iL k ∧ iL o ∧ iP n ∧ iP j := ⟨h5.1, h14, h5.2, h25⟩
  obtain ⟨⟨k, rfl⟩, ⟨n, rfl⟩, ⟨o, rfl⟩, ⟨j, rfl⟩⟩ := And.intro (nat_of h5.1.1) (And.intro (nat_of h5.2.1) (And.intro (nat_of h14.1) (nat_of h25.1)))
  have hk4 : k < 4 := by omega
  have ho4 : o < 4 := by omega
  have hn10 : n < 10 := by omega
  have v1 := (hM.1.2.1 k hk4).1
  have r1 := (hM.2.2.1 k hk4).1
  have v2 := (hM.1.2.1 o ho4).1
  have r2 := (hM.2.2.1 o ho4).1
  have hnot : (σ (8 + k) 0 = 0 ∨ σ (8 + o) 0 = 0) → Zc X 49 [some (.ref 156), some (.int (iI (k : Int))), some (.int (iI (o : Int))), some (.int (iI (n : Int))), some (.int (iI (j : Int))), none, none, none] [] 172 (mA A) 0 0 := by
    intro hl
    refine z_bipush E (by decide) dX6_bound_49 ?_
    exact z_iret E F dX6_bound_51 (fin hop ((if_pos hv).trans (if_pos hl)) (mp_same hM))
  refine z_aload_n E dX6_bound_31 rfl ?_
  refine z_get E dX6_bound_32 (by rfl) flX6_50 (by rfl) ?_
  refine z_iload_n E dX6_bound_35 rfl ?_
  refine a_zald (j := k) E dX6_bound_36 (fun _ => rfl) (by omega) (by omega) (by omega) ?_
  rw [v1]
  refine z_if_eq (tgt := 49) E (by omega) dX6_bound_37 (by decide) (fun h37 => ?_) (fun h37 => ?_)
  · exact hnot (Or.inl h37)
  refine z_aload_n E dX6_bound_40 rfl ?_
  refine z_get E dX6_bound_41 (by rfl) flX6_50 (by rfl) ?_
  refine z_iload_n E dX6_bound_44 rfl ?_
  refine a_zald (j := o) E dX6_bound_45 (fun _ => rfl) (by omega) (by omega) (by omega) ?_
  rw [v2]
  refine z_if_ne (tgt := 52) E (by omega) dX6_bound_46 (by decide) (fun h46 => ?_) (fun h46 => ?_)
  case refine_2 => exact hnot (Or.inr h46)
  refine z_aload_n E dX6_bound_52 rfl ?_
  refine z_iload_n E dX6_bound_53 rfl ?_
  refine z_iload_n E dX6_bound_54 rfl ?_
  refine z_aload_n E dX6_bound_55 rfl ?_
  refine z_get E dX6_bound_56 (by rfl) flX6_26 (by rfl) ?_
  refine c_V0 E dX6_bound_59 lkX6_145 (ok_rung hM hk4 hn10 t162 172) (by rfl) rfl rfl rfl (Nat.le_of_ble_eq_true rfl) ⟨(Nat.le_of_ble_eq_true rfl), (Nat.le_of_ble_eq_true rfl)⟩ ⟨rfl, rfl⟩ ⟨Nat.zero_le _, Nat.zero_le _⟩ ?_
  generalize hR : stp σ k n = T
  have rT : rok T := by rw [← hR]; exact stp_rok hM hk4 hn10
  refine z_iconst E dX6_bound_62 ?_
  refine z_istore (ls' := [_, _, _, _, _, _, _, _]) E dX6_bound_63 (Nat.le_of_ble_eq_true rfl) rfl ?_
  refine z_bipush E (by decide) dX6_bound_65 ?_
  refine z_istore (ls' := [_, _, _, _, _, _, _, _]) E dX6_bound_67 (Nat.le_of_ble_eq_true rfl) rfl ?_
  have loop : ∀ (q c : Nat), c + q = 10 - j → ∀ (l7 : Option Value) (fd : Int) (A' : Nat → Nat → Int), MI A' σ → Lo A A' → A' 162 = tiR T (stp σ o) c → (1 ≤ c → fd = tiH T (stp σ o) (c - 1)) → Zc X 69 [some (.ref 156), some (.int (iI (k : Int))), some (.int (iI (o : Int))), some (.int (iI (n : Int))), some (.int (iI (j : Int))), some (.int (iI fd)), some (.int (iI (9 - (c : Int)))), l7] [] 172 (mA A') 0 0 := by
    intro q
    induction q with
    | zero =>
      intro c hc l7 fd A' m1 l1 e2 hfd
      have e9 := hfd (by omega)
      rw [show c - 1 = 9 - j by omega] at e9
      refine z_iload E dX6_bound_69 rfl ?_
      refine z_iload E dX6_bound_71 rfl ?_
      refine z_icmp_lt (tgt := 165) E (by omega) (by omega) dX6_bound_73 (by decide) (fun h73 => ?_) (fun h73 => ?_)
      · refine z_iload E dX6_bound_165 rfl ?_
        exact z_iret E F dX6_bound_167 (fin hop ((if_pos hv).trans ((if_neg (by show ¬ (σ (8 + k) 0 = 0 ∨ σ (8 + o) 0 = 0); omega)).trans (by show (tiH (stp σ k n) (stp σ o) (9 - j), σ) = _; rw [hR, e9]))) (mp_to m1 l1))
      · omega
    | succ q ih =>
      intro c hc l7 fd A' m1 l1 e2 hfd
      have rb := stp_rok hM ho4 (n := 9 - c) (by omega)
      have i1 := tiR_rok (stp σ o) rT c (9 - c) (by omega)
      have i2 := rb (9 - c) (by omega)
      have i3 := pw_in (stp σ o (9 - c) (9 - c)) 10005
      have p1 := mul_in i1 i3
      have i4 : 0 ≤ tiH T (stp σ o) c ∧ tiH T (stp σ o) c < 10007 := by unfold tiH; omega
      refine z_iload E dX6_bound_69 rfl ?_
      refine z_iload E dX6_bound_71 rfl ?_
      refine z_icmp_lt (tgt := 165) E (by omega) (by omega) dX6_bound_73 (by decide) (fun h73 => ?_) (fun h73 => ?_)
      · omega
      · refine z_aload_n E dX6_bound_76 rfl ?_
        refine z_iload_n E dX6_bound_77 rfl ?_
        refine z_iload E dX6_bound_78 rfl ?_
        refine z_aload_n E dX6_bound_80 rfl ?_
        refine z_get E dX6_bound_81 (by rfl) flX6_29 (by rfl) ?_
        rw [show (9 : Int) - (c : Int) = ((9 - c : Nat) : Int) by omega]
        refine c_V0 E dX6_bound_84 lkX6_145 (ok_rung m1 ho4 (n := 9 - c) (by omega) t163 172) (by rfl) rfl rfl rfl (Nat.le_of_ble_eq_true rfl) ⟨(Nat.le_of_ble_eq_true rfl), (Nat.le_of_ble_eq_true rfl)⟩ ⟨rfl, rfl⟩ ⟨Nat.zero_le _, Nat.zero_le _⟩ ?_
        refine z_aload_n E dX6_bound_87 rfl ?_
        refine z_get E dX6_bound_88 (by rfl) flX6_26 (by rfl) ?_
        refine z_iload E dX6_bound_91 rfl ?_
        refine a_iald (j := 9 - c) E dX6_bound_93 (cel_ten t162) (by omega) (by omega) (by omega) ?_
        rw [va_up_ne (j := 162) (k := 163) _ _ (by omega), e2]
        refine z_i2l E (by omega) dX6_bound_94 ?_
        refine z_aload_n E dX6_bound_95 rfl ?_
        refine z_get E dX6_bound_96 (by rfl) flX6_29 (by rfl) ?_
        refine z_iload E dX6_bound_99 rfl ?_
        refine a_iald (j := 9 - c) E dX6_bound_101 (cel_ten t163) (by omega) (by omega) (by omega) ?_
        rw [va_up_self]
        refine c_S E dX6_bound_102 lkX6_87 (ok_turnedNumber _ (by omega) 172 _) rfl rfl rfl (Nat.le_of_ble_eq_true rfl) ⟨(Nat.le_of_ble_eq_true rfl), (Nat.le_of_ble_eq_true rfl)⟩ ⟨rfl, rfl⟩ ⟨Nat.zero_le _, Nat.zero_le _⟩ ?_
        refine z_i2l E (by omega) dX6_bound_105 ?_
        refine z_lmul E dX6_bound_106 ?_
        refine c_S E dX6_bound_107 lkX6_62 (ok_mod _ ⟨by omega, by omega⟩ (by omega) 172 _) rfl rfl rfl (Nat.le_of_ble_eq_true rfl) ⟨(Nat.le_of_ble_eq_true rfl), (Nat.le_of_ble_eq_true rfl)⟩ ⟨rfl, rfl⟩ ⟨Nat.zero_le _, Nat.zero_le _⟩ ?_
        rw [show tiR T (stp σ o) c (9 - c) * pw (stp σ o (9 - c) (9 - c)) 10005 % 10007 = tiH T (stp σ o) c from rfl]
        generalize hB : va_up A' 163 (stp σ o (9 - c)) = B
        have hMB : MI B σ := by rw [← hB]; exact m1.ups (by omega)
        have loB : Lo A B := by rw [← hB]; exact lo_tr l1 (lo_up (by omega))
        have b2 : B 162 = tiR T (stp σ o) c := by rw [← hB, va_up_ne _ _ (by omega)]; exact e2
        have b3 : B 163 = stp σ o (9 - c) := by rw [← hB, va_up_self]
        refine z_istore (ls' := [_, _, _, _, _, _, _, _]) E dX6_bound_110 (Nat.le_of_ble_eq_true rfl) rfl ?_
        refine z_iconst E dX6_bound_112 ?_
        refine z_istore (ls' := [_, _, _, _, _, _, _, _]) E dX6_bound_113 (Nat.le_of_ble_eq_true rfl) rfl ?_
        have inner : ∀ (m i : Nat), i + m = 10 - c → ∀ A2 : Nat → Nat → Int, A2 = va_up B 162 (fun y => if y < i then tiR T (stp σ o) (c + 1) y else tiR T (stp σ o) c y) → Zc X 115 [some (.ref 156), some (.int (iI (k : Int))), some (.int (iI (o : Int))), some (.int (iI (n : Int))), some (.int (iI (j : Int))), some (.int (iI (tiH T (stp σ o) c))), some (.int (iI ((9 - c : Nat) : Int))), some (.int (iI (i : Int)))] [] 172 (mA A2) 0 0 := by
          intro m
          induction m with
          | zero =>
            intro i hi A2 hA
            refine z_iload E dX6_bound_115 rfl ?_
            refine z_iload E dX6_bound_117 rfl ?_
            refine z_icmp_gt (tgt := 159) E (by omega) (by omega) dX6_bound_119 (by decide) (fun h119 => ?_) (fun h119 => ?_)
            · refine z_iinc (ls' := [_, _, _, _, _, _, _, _]) E dX6_bound_159 rfl rfl ?_
              refine z_goto (tgt := 69) E dX6_bound_162 (by decide) ?_
              rw [show ((9 - c : Nat) : Int) + -1 = 9 - ((c + 1 : Nat) : Int) by omega]
              refine ih (c + 1) (by omega) _ _ _ (by rw [hA]; exact hMB.ups (by omega)) (by rw [hA]; exact lo_tr loB (lo_up (by omega))) ?_ (fun _ => rfl)
              rw [hA, va_up_self]
              funext y
              by_cases e : y < i
              · rw [if_pos e]
              · rw [if_neg e, tiR_hi (by omega)]
            · omega
          | succ m ihm =>
            intro i hi A2 hA
            have a2 : A2 162 i = tiR T (stp σ o) c i := by rw [hA, va_up_self, if_neg (by omega)]
            have a3 : A2 163 = stp σ o (9 - c) := by rw [hA, va_up_ne _ _ (by omega)]; exact b3
            have w1 := tiR_rok (stp σ o) rT c i (by omega)
            have w2 := rb i (by omega)
            have w3 := mul_in i4 w2
            refine z_iload E dX6_bound_115 rfl ?_
            refine z_iload E dX6_bound_117 rfl ?_
            refine z_icmp_gt (tgt := 159) E (by omega) (by omega) dX6_bound_119 (by decide) (fun h119 => ?_) (fun h119 => ?_)
            · omega
            · refine z_aload_n E dX6_bound_122 rfl ?_
              refine z_get E dX6_bound_123 (by rfl) flX6_26 (by rfl) ?_
              refine z_iload E dX6_bound_126 rfl ?_
              refine z_aload_n E dX6_bound_128 rfl ?_
              refine z_get E dX6_bound_129 (by rfl) flX6_26 (by rfl) ?_
              refine z_iload E dX6_bound_132 rfl ?_
              refine a_iald (j := i) E dX6_bound_134 (cel_ten t162) (by omega) (by omega) (by omega) ?_
              rw [a2]
              refine z_i2l E (by omega) dX6_bound_135 ?_
              refine z_iload E dX6_bound_136 rfl ?_
              refine z_i2l E (by omega) dX6_bound_138 ?_
              refine z_aload_n E dX6_bound_139 rfl ?_
              refine z_get E dX6_bound_140 (by rfl) flX6_29 (by rfl) ?_
              refine z_iload E dX6_bound_143 rfl ?_
              refine a_iald (j := i) E dX6_bound_145 (cel_ten t163) (by omega) (by omega) (by omega) ?_
              rw [a3]
              refine z_i2l E (by omega) dX6_bound_146 ?_
              refine z_lmul E dX6_bound_147 ?_
              refine z_lsub E dX6_bound_148 ?_
              refine c_S E dX6_bound_149 lkX6_62 (ok_mod _ ⟨by omega, by omega⟩ (by omega) 172 _) rfl rfl rfl (Nat.le_of_ble_eq_true rfl) ⟨(Nat.le_of_ble_eq_true rfl), (Nat.le_of_ble_eq_true rfl)⟩ ⟨rfl, rfl⟩ ⟨Nat.zero_le _, Nat.zero_le _⟩ ?_
              refine a_iast (j := i) E dX6_bound_152 (cel_ten t162) (by omega) (by omega) (by omega) ?_
              refine z_iinc (ls' := [_, _, _, _, _, _, _, _]) E dX6_bound_153 rfl rfl ?_
              refine z_goto (tgt := 115) E dX6_bound_156 (by decide) ?_
              rw [ei]
              refine ihm (i + 1) (by omega) _ ?_
              rw [hA, va_uu, va_up_self]
              refine congrArg (va_up B 162) (funext fun y => ?_)
              by_cases e1 : y = i
              · subst e1; rw [up_eq, if_pos (by omega), tiR_lo (by omega)]
              · rw [up_ne _ _ e1]
                by_cases e4 : y < i
                · rw [if_pos e4, if_pos (show y < i + 1 by omega)]
                · rw [if_neg e4, if_neg (show ¬ y < i + 1 by omega)]
        refine inner (10 - c) 0 (by omega) B ?_
        rw [show (fun y => if y < 0 then tiR T (stp σ o) (c + 1) y else tiR T (stp σ o) c y) = B 162 by rw [b2]; funext y; rw [if_neg (by omega)], up_same]
  exact loop (10 - j) 0 (by omega) none 0 _ (hM.ups (by omega)) (lo_up (by omega)) (va_up_self _ _ _) (fun h => by omega)
set_option maxRecDepth 100000 in
theorem ok_count6 {A : Nat → Nat → Int} {σ : St} (hM : MI A σ) (w : Int) (hw : inR w) (N : Nat) : OkR mX6_count [.ref 156, .int (iI w)] N (mA A) (some (.int (iI (opCount σ w)))) (mA A) := by
  refine OkM.of [some (.ref 156), some (.int (iI w)), none, none] (by decide +kernel) rfl (Nat.le_of_ble_eq_true rfl) ?_
  intro X E F
  refine z_iconst E dX6_count_0 ?_
  refine z_istore_n (ls' := [_, _, _, _]) E rfl dX6_count_1 (Nat.le_of_ble_eq_true rfl) rfl ?_
  refine z_iload_n E dX6_count_2 rfl ?_
  by_cases h0 : w = 0
  · refine z_tswIn (j := 0) (tgt := 28) E dX6_count_3 h0 hw (by omega) rfl (by decide) ?_
    refine z_iconst E dX6_count_28 ?_
    refine z_istore_n (ls' := [_, _, _, _]) E rfl dX6_count_29 (Nat.le_of_ble_eq_true rfl) rfl ?_
    have loop : ∀ (m s : Nat), s + m = 8 → Zc X 30 [some (.ref 156), some (.int (iI w)), some (.int (iI (ctS σ s))), some (.int (iI (s : Int)))] [] N (mA A) 0 0 := by
      intro m
      induction m with
      | zero =>
        intro s hs
        have hs2 : s = 8 := by omega
        subst hs2
        refine z_iload_n E dX6_count_30 rfl ?_
        refine z_bipush E (by decide) dX6_count_31 ?_
        refine z_icmp_ge (tgt := 59) E (by omega) (by omega) dX6_count_33 (by decide) (fun h33 => ?_) (fun h33 => ?_)
        · refine z_iload_n E dX6_count_59 rfl ?_
          exact z_iret E F dX6_count_60 ⟨by rw [opCount, if_pos h0], rfl⟩
        · omega
      | succ m ih =>
        intro s hs
        have hs8 : s < 8 := by omega
        have v1 := (hM.1.1 s hs8).1
        have r1 := (hM.2.1 s hs8).1
        have h1 := ih (s + 1) (by omega)
        simp only [ctS] at h1
        refine z_iload_n E dX6_count_30 rfl ?_
        refine z_bipush E (by decide) dX6_count_31 ?_
        refine z_icmp_ge (tgt := 59) E (by omega) (by omega) dX6_count_33 (by decide) (fun h33 => ?_) (fun h33 => ?_)
        · omega
        · refine z_iload_n E dX6_count_36 rfl ?_
          refine z_aload_n E dX6_count_37 rfl ?_
          refine z_get E dX6_count_38 (by rfl) flX6_7 (by rfl) ?_
          refine z_iload_n E dX6_count_41 rfl ?_
          refine a_zald (j := s) E dX6_count_42 (fun _ => rfl) (by omega) (by omega) (by omega) ?_
          rw [v1]
          refine z_if_eq (tgt := 50) E (by omega) dX6_count_43 (by decide) (fun h43 => ?_) (fun h43 => ?_)
          · refine z_iconst E dX6_count_50 ?_
            refine z_iadd E dX6_count_51 ?_
            refine z_istore_n (ls' := [_, _, _, _]) E rfl dX6_count_52 (Nat.le_of_ble_eq_true rfl) rfl ?_
            refine z_iinc (ls' := [_, _, _, _]) E dX6_count_53 rfl rfl ?_
            refine z_goto (tgt := 30) E dX6_count_56 (by decide) ?_
            rw [ei]
            rw [h43] at h1
            exact h1
          · refine z_iconst E dX6_count_46 ?_
            refine z_goto (tgt := 51) E dX6_count_47 (by decide) ?_
            refine z_iadd E dX6_count_51 ?_
            refine z_istore_n (ls' := [_, _, _, _]) E rfl dX6_count_52 (Nat.le_of_ble_eq_true rfl) rfl ?_
            refine z_iinc (ls' := [_, _, _, _]) E dX6_count_53 rfl rfl ?_
            refine z_goto (tgt := 30) E dX6_count_56 (by decide) ?_
            rw [ei]
            rw [show σ s 0 = 1 by omega] at h1
            exact h1
    exact loop 8 0 (by omega)
  by_cases h1 : w = 1
  · refine z_tswIn (j := 1) (tgt := 61) E dX6_count_3 h1 hw (by omega) rfl (by decide) ?_
    refine z_iconst E dX6_count_61 ?_
    refine z_istore_n (ls' := [_, _, _, _]) E rfl dX6_count_62 (Nat.le_of_ble_eq_true rfl) rfl ?_
    have loop : ∀ (m s : Nat), s + m = 4 → Zc X 63 [some (.ref 156), some (.int (iI w)), some (.int (iI (ctL σ s))), some (.int (iI (s : Int)))] [] N (mA A) 0 0 := by
      intro m
      induction m with
      | zero =>
        intro s hs
        have hs2 : s = 4 := by omega
        subst hs2
        refine z_iload_n E dX6_count_63 rfl ?_
        refine z_iconst E dX6_count_64 ?_
        refine z_icmp_ge (tgt := 91) E (by omega) (by omega) dX6_count_65 (by decide) (fun h65 => ?_) (fun h65 => ?_)
        · refine z_iload_n E dX6_count_91 rfl ?_
          exact z_iret E F dX6_count_92 ⟨by rw [opCount, if_neg h0, if_pos h1], rfl⟩
        · omega
      | succ m ih =>
        intro s hs
        have hs8 : s < 4 := by omega
        have v1 := (hM.1.2.1 s hs8).1
        have r1 := (hM.2.2.1 s hs8).1
        have h1 := ih (s + 1) (by omega)
        simp only [ctL] at h1
        refine z_iload_n E dX6_count_63 rfl ?_
        refine z_iconst E dX6_count_64 ?_
        refine z_icmp_ge (tgt := 91) E (by omega) (by omega) dX6_count_65 (by decide) (fun h65 => ?_) (fun h65 => ?_)
        · omega
        · refine z_iload_n E dX6_count_68 rfl ?_
          refine z_aload_n E dX6_count_69 rfl ?_
          refine z_get E dX6_count_70 (by rfl) flX6_50 (by rfl) ?_
          refine z_iload_n E dX6_count_73 rfl ?_
          refine a_zald (j := s) E dX6_count_74 (fun _ => rfl) (by omega) (by omega) (by omega) ?_
          rw [v1]
          refine z_if_eq (tgt := 82) E (by omega) dX6_count_75 (by decide) (fun h75 => ?_) (fun h75 => ?_)
          · refine z_iconst E dX6_count_82 ?_
            refine z_iadd E dX6_count_83 ?_
            refine z_istore_n (ls' := [_, _, _, _]) E rfl dX6_count_84 (Nat.le_of_ble_eq_true rfl) rfl ?_
            refine z_iinc (ls' := [_, _, _, _]) E dX6_count_85 rfl rfl ?_
            refine z_goto (tgt := 63) E dX6_count_88 (by decide) ?_
            rw [ei]
            rw [h75] at h1
            exact h1
          · refine z_iconst E dX6_count_78 ?_
            refine z_goto (tgt := 83) E dX6_count_79 (by decide) ?_
            refine z_iadd E dX6_count_83 ?_
            refine z_istore_n (ls' := [_, _, _, _]) E rfl dX6_count_84 (Nat.le_of_ble_eq_true rfl) rfl ?_
            refine z_iinc (ls' := [_, _, _, _]) E dX6_count_85 rfl rfl ?_
            refine z_goto (tgt := 63) E dX6_count_88 (by decide) ?_
            rw [ei]
            rw [show σ (8 + s) 0 = 1 by omega] at h1
            exact h1
    exact loop 4 0 (by omega)
  by_cases h2 : w = 2
  · refine z_tswIn (j := 2) (tgt := 93) E dX6_count_3 h2 hw (by omega) rfl (by decide) ?_
    refine z_aload_n E dX6_count_93 rfl ?_
    refine z_get E dX6_count_94 (by rfl) flX6_66 (by rfl) ?_
    rw [hM.1.2.2]
    exact z_iret E F dX6_count_97 ⟨by rw [opCount, if_neg h0, if_neg h1, if_pos h2], rfl⟩
  · refine z_tswOut (tgt := 98) E dX6_count_3 hw (by omega) (by decide) ?_
    refine z_bipush E (by decide) dX6_count_98 ?_
    exact z_iret E F dX6_count_100 ⟨by rw [opCount, if_neg h0, if_neg h1, if_neg h2], rfl⟩
set_option maxRecDepth 100000 in
theorem m_digest {A : Nat → Nat → Int} {σ : St} (hM : MI A σ) : OkI mX6_digest [.ref 156] 172 (mA A) (.long (lI (opDigest σ))) (MP A σ) := by
  have c1 := ctS_in hM.2 8 (by omega)
  have c2 := ctL_in hM.2 4 (by omega)
  refine OkM.of [some (.ref 156), none, none, none, none] (by decide +kernel) rfl (Nat.le_of_ble_eq_true rfl) ?_
  intro X E F
  refine z_ldc2 (z := 17) E ctX6_162 (by decide) dX6_digest_0 ?_
  refine z_lstore_n (ls' := [_, _, _, _, _]) E rfl dX6_digest_3 (Nat.le_of_ble_eq_true rfl) rfl ?_
  refine z_ldc2 (z := 31) E ctX6_164 (by decide) dX6_digest_4 ?_
  refine z_lload_n E dX6_digest_7 rfl ?_
  refine z_lmul E dX6_digest_8 ?_
  refine z_aload_n E dX6_digest_9 rfl ?_
  refine z_iconst E dX6_digest_10 ?_
  refine c_V E dX6_digest_11 lkX6_166 (ok_count6 hM 0 (by omega) 172) (by rfl) rfl rfl rfl (Nat.le_of_ble_eq_true rfl) ⟨(Nat.le_of_ble_eq_true rfl), (Nat.le_of_ble_eq_true rfl)⟩ ⟨rfl, rfl⟩ ⟨Nat.zero_le _, Nat.zero_le _⟩ ?_
  rw [show opCount σ 0 = ctS σ 8 from rfl]
  refine z_i2l E (by omega) dX6_digest_14 ?_
  refine z_ladd E dX6_digest_15 ?_
  refine z_lstore_n (ls' := [_, _, _, _, _]) E rfl dX6_digest_16 (Nat.le_of_ble_eq_true rfl) rfl ?_
  refine z_ldc2 (z := 31) E ctX6_164 (by decide) dX6_digest_17 ?_
  refine z_lload_n E dX6_digest_20 rfl ?_
  refine z_lmul E dX6_digest_21 ?_
  refine z_aload_n E dX6_digest_22 rfl ?_
  refine z_iconst E dX6_digest_23 ?_
  refine c_V E dX6_digest_24 lkX6_166 (ok_count6 hM 1 (by omega) 172) (by rfl) rfl rfl rfl (Nat.le_of_ble_eq_true rfl) ⟨(Nat.le_of_ble_eq_true rfl), (Nat.le_of_ble_eq_true rfl)⟩ ⟨rfl, rfl⟩ ⟨Nat.zero_le _, Nat.zero_le _⟩ ?_
  rw [show opCount σ 1 = ctL σ 4 from rfl]
  refine z_i2l E (by omega) dX6_digest_27 ?_
  refine z_ladd E dX6_digest_28 ?_
  refine z_lstore_n (ls' := [_, _, _, _, _]) E rfl dX6_digest_29 (Nat.le_of_ble_eq_true rfl) rfl ?_
  refine z_iconst E dX6_digest_30 ?_
  refine z_istore_n (ls' := [_, _, _, _, _]) E rfl dX6_digest_31 (Nat.le_of_ble_eq_true rfl) rfl ?_
  generalize hh : (31 * (31 * 17 + ctS σ 8) + ctL σ 4 : Int) = h0
  have hres : opDigest σ = dgL σ (dgS σ h0 8) 4 := by rw [← hh]; rfl
  have second : ∀ (m k : Nat), k + m = 4 → ∀ (l4 : Option Value) (A' : Nat → Nat → Int), MI A' σ → Lo A A' → Zc X 104 [some (.ref 156), some (.long (lI (dgL σ (dgS σ h0 8) k))), none, some (.int (iI (k : Int))), l4] [] 172 (mA A') 0 0 := by
    intro m
    induction m with
    | zero =>
      intro k hk l4 A' hM' hlo
      have hk2 : k = 4 := by omega
      subst hk2
      refine z_iload_n E dX6_digest_104 rfl ?_
      refine z_iconst E dX6_digest_105 ?_
      refine z_icmp_ge (tgt := 172) E (by omega) (by omega) dX6_digest_106 (by decide) (fun h106 => ?_) (fun h106 => ?_)
      · refine z_lload_n E dX6_digest_172 rfl ?_
        exact z_lret E F dX6_digest_173 ⟨by rw [hres], mp_to hM' hlo⟩
      · omega
    | succ m ih =>
      intro k hk l4 A' hM' hlo
      have hk4 : k < 4 := by omega
      have v1 := (hM'.1.2.1 k hk4).1
      have r1 := (hM'.2.2.1 k hk4).1
      have v2 := fun j hj => (hM'.1.2.1 k hk4).2 9 j (by omega) hj
      have r2 := fun j hj => (hM'.2.2.1 k hk4).2 9 j (by omega) hj
      refine z_iload_n E dX6_digest_104 rfl ?_
      refine z_iconst E dX6_digest_105 ?_
      refine z_icmp_ge (tgt := 172) E (by omega) (by omega) dX6_digest_106 (by decide) (fun h106 => ?_) (fun h106 => ?_)
      · omega
      · refine z_aload_n E dX6_digest_109 rfl ?_
        refine z_get E dX6_digest_110 (by rfl) flX6_50 (by rfl) ?_
        refine z_iload_n E dX6_digest_113 rfl ?_
        refine a_zald (j := k) E dX6_digest_114 (fun _ => rfl) (by omega) (by omega) (by omega) ?_
        rw [v1]
        refine z_if_eq (tgt := 166) E (by omega) dX6_digest_115 (by decide) (fun h115 => ?_) (fun h115 => ?_)
        · have h1 := ih (k + 1) (by omega) l4 A' hM' hlo
          refine z_iinc (ls' := [_, _, _, _, _]) E dX6_digest_166 rfl rfl ?_
          refine z_goto (tgt := 104) E dX6_digest_169 (by decide) ?_
          rw [ei]
          simp only [dgL] at h1
          rw [if_pos h115] at h1
          exact h1
        · refine z_ldc2 (z := 31) E ctX6_164 (by decide) dX6_digest_118 ?_
          refine z_lload_n E dX6_digest_121 rfl ?_
          refine z_lmul E dX6_digest_122 ?_
          refine z_iload_n E dX6_digest_123 rfl ?_
          refine z_i2l E (by omega) dX6_digest_124 ?_
          refine z_ladd E dX6_digest_125 ?_
          refine z_lstore_n (ls' := [_, _, _, _, _]) E rfl dX6_digest_126 (Nat.le_of_ble_eq_true rfl) rfl ?_
          refine z_iconst E dX6_digest_127 ?_
          refine z_istore (ls' := [_, _, _, _, _]) E dX6_digest_128 (Nat.le_of_ble_eq_true rfl) rfl ?_
          have inner : ∀ (q j : Nat), j + q = 10 → Zc X 130 [some (.ref 156), some (.long (lI (mx (stp σ k 9) (31 * dgL σ (dgS σ h0 8) k + (k : Int)) j))), none, some (.int (iI (k : Int))), some (.int (iI (j : Int)))] [] 172 (mA A') 0 0 := by
            intro q
            induction q with
            | zero =>
              intro j hj
              have hj2 : j = 10 := by omega
              subst hj2
              refine z_iload E dX6_digest_130 rfl ?_
              refine z_bipush E (by decide) dX6_digest_132 ?_
              refine z_icmp_ge (tgt := 166) E (by omega) (by omega) dX6_digest_134 (by decide) (fun h134 => ?_) (fun h134 => ?_)
              · have h1 := ih (k + 1) (by omega) (some (.int (iI ((10 : Nat) : Int)))) A' hM' hlo
                refine z_iinc (ls' := [_, _, _, _, _]) E dX6_digest_166 rfl rfl ?_
                refine z_goto (tgt := 104) E dX6_digest_169 (by decide) ?_
                rw [ei]
                simp only [dgL] at h1
                rw [if_neg h115] at h1
                exact h1
              · omega
            | succ q ihq =>
              intro j hj
              have e1 := v2 j (by omega)
              have e2 := r2 j (by omega)
              refine z_iload E dX6_digest_130 rfl ?_
              refine z_bipush E (by decide) dX6_digest_132 ?_
              refine z_icmp_ge (tgt := 166) E (by omega) (by omega) dX6_digest_134 (by decide) (fun h134 => ?_) (fun h134 => ?_)
              · omega
              · refine z_ldc2 (z := 31) E ctX6_164 (by decide) dX6_digest_137 ?_
                refine z_lload_n E dX6_digest_140 rfl ?_
                refine z_lmul E dX6_digest_141 ?_
                refine z_aload_n E dX6_digest_142 rfl ?_
                refine z_get E dX6_digest_143 (by rfl) flX6_53 (by rfl) ?_
                refine z_bipush E (by decide) dX6_digest_146 ?_
                refine z_iload_n E dX6_digest_148 rfl ?_
                refine z_imul E dX6_digest_149 ?_
                refine z_bipush E (by decide) dX6_digest_150 ?_
                refine z_iadd E dX6_digest_152 ?_
                refine z_iload E dX6_digest_153 rfl ?_
                refine z_iadd E dX6_digest_155 ?_
                refine a_iald (j := 100 * k + 10 * 9 + j) E dX6_digest_156 (fun _ => rfl) (by omega) (by omega) (by omega) ?_
                rw [e1]
                refine z_i2l E (by omega) dX6_digest_157 ?_
                refine z_ladd E dX6_digest_158 ?_
                refine z_lstore_n (ls' := [_, _, _, _, _]) E rfl dX6_digest_159 (Nat.le_of_ble_eq_true rfl) rfl ?_
                refine z_iinc (ls' := [_, _, _, _, _]) E dX6_digest_160 rfl rfl ?_
                refine z_goto (tgt := 130) E dX6_digest_163 (by decide) ?_
                rw [ei]
                exact ihq (j + 1) (by omega)
          exact inner 10 0 (by omega)
  have loop : ∀ (m s : Nat), s + m = 8 → ∀ (l4 : Option Value) (A' : Nat → Nat → Int), MI A' σ → Lo A A' → Zc X 32 [some (.ref 156), some (.long (lI (dgS σ h0 s))), none, some (.int (iI (s : Int))), l4] [] 172 (mA A') 0 0 := by
    intro m
    induction m with
    | zero =>
      intro s hs l4 A' hM' hlo
      have hs2 : s = 8 := by omega
      subst hs2
      refine z_iload_n E dX6_digest_32 rfl ?_
      refine z_bipush E (by decide) dX6_digest_33 ?_
      refine z_icmp_ge (tgt := 102) E (by omega) (by omega) dX6_digest_35 (by decide) (fun h35 => ?_) (fun h35 => ?_)
      · refine z_iconst E dX6_digest_102 ?_
        refine z_istore_n (ls' := [_, _, _, _, _]) E rfl dX6_digest_103 (Nat.le_of_ble_eq_true rfl) rfl ?_
        exact second 4 0 (by omega) _ A' hM' hlo
      · omega
    | succ m ih =>
      intro s hs l4 A' hM' hlo
      have hs8 : s < 8 := by omega
      have v1 := (hM'.1.1 s hs8).1
      have r1 := (hM'.2.1 s hs8).1
      refine z_iload_n E dX6_digest_32 rfl ?_
      refine z_bipush E (by decide) dX6_digest_33 ?_
      refine z_icmp_ge (tgt := 102) E (by omega) (by omega) dX6_digest_35 (by decide) (fun h35 => ?_) (fun h35 => ?_)
      · omega
      · refine z_aload_n E dX6_digest_38 rfl ?_
        refine z_get E dX6_digest_39 (by rfl) flX6_7 (by rfl) ?_
        refine z_iload_n E dX6_digest_42 rfl ?_
        refine a_zald (j := s) E dX6_digest_43 (fun _ => rfl) (by omega) (by omega) (by omega) ?_
        rw [v1]
        refine z_if_eq (tgt := 96) E (by omega) dX6_digest_44 (by decide) (fun h44 => ?_) (fun h44 => ?_)
        · have h1 := ih (s + 1) (by omega) l4 A' hM' hlo
          refine z_iinc (ls' := [_, _, _, _, _]) E dX6_digest_96 rfl rfl ?_
          refine z_goto (tgt := 32) E dX6_digest_99 (by decide) ?_
          rw [ei]
          simp only [dgS] at h1
          rw [if_pos h44] at h1
          exact h1
        · refine z_ldc2 (z := 31) E ctX6_164 (by decide) dX6_digest_47 ?_
          refine z_lload_n E dX6_digest_50 rfl ?_
          refine z_lmul E dX6_digest_51 ?_
          refine z_iload_n E dX6_digest_52 rfl ?_
          refine z_i2l E (by omega) dX6_digest_53 ?_
          refine z_ladd E dX6_digest_54 ?_
          refine z_lstore_n (ls' := [_, _, _, _, _]) E rfl dX6_digest_55 (Nat.le_of_ble_eq_true rfl) rfl ?_
          refine z_aload_n E dX6_digest_56 rfl ?_
          refine z_iload_n E dX6_digest_57 rfl ?_
          refine z_aload_n E dX6_digest_58 rfl ?_
          refine z_get E dX6_digest_59 (by rfl) flX6_26 (by rfl) ?_
          refine c_V0 E dX6_digest_62 lkX6_105 (ok_read hM' hs8 t162 172) (by rfl) rfl rfl rfl (Nat.le_of_ble_eq_true rfl) ⟨(Nat.le_of_ble_eq_true rfl), (Nat.le_of_ble_eq_true rfl)⟩ ⟨rfl, rfl⟩ ⟨Nat.zero_le _, Nat.zero_le _⟩ ?_
          refine z_iconst E dX6_digest_65 ?_
          refine z_istore (ls' := [_, _, _, _, _]) E dX6_digest_66 (Nat.le_of_ble_eq_true rfl) rfl ?_
          have inner : ∀ (q j : Nat), j + q = 10 → Zc X 68 [some (.ref 156), some (.long (lI (mx (srS σ s) (31 * dgS σ h0 s + (s : Int)) j))), none, some (.int (iI (s : Int))), some (.int (iI (j : Int)))] [] 172 (mA (va_up A' 162 (srS σ s))) 0 0 := by
            intro q
            induction q with
            | zero =>
              intro j hj
              have hj2 : j = 10 := by omega
              subst hj2
              refine z_iload E dX6_digest_68 rfl ?_
              refine z_bipush E (by decide) dX6_digest_70 ?_
              refine z_icmp_ge (tgt := 96) E (by omega) (by omega) dX6_digest_72 (by decide) (fun h72 => ?_) (fun h72 => ?_)
              · have h1 := ih (s + 1) (by omega) (some (.int (iI ((10 : Nat) : Int)))) (va_up A' 162 (srS σ s)) (hM'.ups (by omega)) (lo_tr hlo (lo_up (by omega)))
                refine z_iinc (ls' := [_, _, _, _, _]) E dX6_digest_96 rfl rfl ?_
                refine z_goto (tgt := 32) E dX6_digest_99 (by decide) ?_
                rw [ei]
                simp only [dgS] at h1
                rw [if_neg h44] at h1
                exact h1
              · omega
            | succ q ihq =>
              intro j hj
              have e2 := srS_rok σ s j (by omega)
              refine z_iload E dX6_digest_68 rfl ?_
              refine z_bipush E (by decide) dX6_digest_70 ?_
              refine z_icmp_ge (tgt := 96) E (by omega) (by omega) dX6_digest_72 (by decide) (fun h72 => ?_) (fun h72 => ?_)
              · omega
              · refine z_ldc2 (z := 31) E ctX6_164 (by decide) dX6_digest_75 ?_
                refine z_lload_n E dX6_digest_78 rfl ?_
                refine z_lmul E dX6_digest_79 ?_
                refine z_aload_n E dX6_digest_80 rfl ?_
                refine z_get E dX6_digest_81 (by rfl) flX6_26 (by rfl) ?_
                refine z_iload E dX6_digest_84 rfl ?_
                refine a_iald (j := j) E dX6_digest_86 (cel_ten t162) (by omega) (by omega) (by omega) ?_
                rw [va_up_self]
                refine z_i2l E (by omega) dX6_digest_87 ?_
                refine z_ladd E dX6_digest_88 ?_
                refine z_lstore_n (ls' := [_, _, _, _, _]) E rfl dX6_digest_89 (Nat.le_of_ble_eq_true rfl) rfl ?_
                refine z_iinc (ls' := [_, _, _, _, _]) E dX6_digest_90 rfl rfl ?_
                refine z_goto (tgt := 68) E dX6_digest_93 (by decide) ?_
                rw [ei]
                exact ihq (j + 1) (by omega)
          exact inner 10 0 (by omega)
  exact loop 8 0 (by omega) none A hM (fun _ _ => rfl)
set_option maxRecDepth 100000 in
theorem m_copy {A : Nat → Nat → Int} {σ : St} (hM : MI A σ) (s i t j n : Int) (hs : inR s) (hi : inR i) (ht : inR t) (hj : inR j) (hn : inR n) : OkI mX6_copy [.ref 156, .int (iI s), .int (iI i), .int (iI t), .int (iI j), .int (iI n)] 172 (mA A) (.int (iI (opCopy σ s i t j n).1)) (MP A (opCopy σ s i t j n).2) := by
  generalize hop : opCopy σ s i t j n = R
  refine OkM.of [some (.ref 156), some (.int (iI s)), some (.int (iI i)), some (.int (iI t)), some (.int (iI j)), some (.int (iI n)), none] (by decide +kernel) rfl (Nat.le_of_ble_eq_true rfl) ?_
  intro X E F
  have hbad : ¬ (iS s ∧ iS t) → Zc X 14 [some (.ref 156), some (.int (iI s)), some (.int (iI i)), some (.int (iI t)), some (.int (iI j)), some (.int (iI n)), none] [] 172 (mA A) 0 0 := by
    intro hv
    refine z_bipush E (by decide) dX6_copy_14 ?_
    exact z_iret E F dX6_copy_16 (fin hop (if_neg hv) (mp_same hM))
  refine z_iload_n E dX6_copy_0 rfl ?_
  refine c_S E dX6_copy_1 lkX6_74 (ok_isSheet6 s hs 172 _) rfl rfl rfl (Nat.le_of_ble_eq_true rfl) ⟨(Nat.le_of_ble_eq_true rfl), (Nat.le_of_ble_eq_true rfl)⟩ ⟨rfl, rfl⟩ ⟨Nat.zero_le _, Nat.zero_le _⟩ ?_
  refine z_bif_eq (tgt := 14) E dX6_copy_4 (by decide) (fun h4 => hbad (fun v => h4 v.1)) (fun h4 => ?_)
  refine z_iload_n E dX6_copy_7 rfl ?_
  refine c_S E dX6_copy_8 lkX6_74 (ok_isSheet6 t ht 172 _) rfl rfl rfl (Nat.le_of_ble_eq_true rfl) ⟨(Nat.le_of_ble_eq_true rfl), (Nat.le_of_ble_eq_true rfl)⟩ ⟨rfl, rfl⟩ ⟨Nat.zero_le _, Nat.zero_le _⟩ ?_
  refine z_bif_ne (tgt := 17) E dX6_copy_11 (by decide) (fun h11 => ?_) (fun h11 => hbad (fun v => h11 v.2))
  have hv : iS s ∧ iS t := ⟨h4, h11⟩
  obtain ⟨⟨s, rfl⟩, ⟨t, rfl⟩⟩ := And.intro (nat_of h4.1) (nat_of h11.1)
  have hs8 : s < 8 := by omega
  have ht8 : t < 8 := by omega
  obtain ⟨v1, v2, v3, v4⟩ := hM.1.1 s hs8
  obtain ⟨w1, w2, w3, w4⟩ := hM.1.1 t ht8
  obtain ⟨r1, r2, r3, r4⟩ := hM.2.1 s hs8
  obtain ⟨q1, q2, q3, q4⟩ := hM.2.1 t ht8
  have hnull : (σ s 0 = 0 ∨ σ t 0 = 0) → Zc X 35 [some (.ref 156), some (.int (iI (s : Int))), some (.int (iI i)), some (.int (iI (t : Int))), some (.int (iI j)), some (.int (iI n)), none] [] 172 (mA A) 0 0 := by
    intro hl
    refine z_aload_n E dX6_copy_35 rfl ?_
    refine z_iconst E dX6_copy_36 ?_
    refine c_VQ E dX6_copy_37 lkX6_78 (ok_meets hM 1 (by omega) 172) (by rfl) rfl rfl rfl (Nat.le_of_ble_eq_true rfl) ⟨(Nat.le_of_ble_eq_true rfl), (Nat.le_of_ble_eq_true rfl)⟩ ⟨rfl, rfl⟩ ⟨Nat.zero_le _, Nat.zero_le _⟩ (fun g1 hg1 => ?_)
    exact z_iret E F dX6_copy_40 (fin hop ((if_pos hv).trans (if_pos hl)) hg1)
  refine z_aload_n E dX6_copy_17 rfl ?_
  refine z_get E dX6_copy_18 (by rfl) flX6_7 (by rfl) ?_
  refine z_iload_n E dX6_copy_21 rfl ?_
  refine a_zald (j := s) E dX6_copy_22 (fun _ => rfl) (by omega) (by omega) (by omega) ?_
  rw [v1]
  refine z_if_eq (tgt := 35) E (by omega) dX6_copy_23 (by decide) (fun h23 => ?_) (fun h23 => ?_)
  · exact hnull (Or.inl h23)
  refine z_aload_n E dX6_copy_26 rfl ?_
  refine z_get E dX6_copy_27 (by rfl) flX6_7 (by rfl) ?_
  refine z_iload_n E dX6_copy_30 rfl ?_
  refine a_zald (j := t) E dX6_copy_31 (fun _ => rfl) (by omega) (by omega) (by omega) ?_
  rw [w1]
  refine z_if_ne (tgt := 41) E (by omega) dX6_copy_32 (by decide) (fun h32 => ?_) (fun h32 => ?_)
  case refine_2 => exact hnull (Or.inr h32)
  have hnl : ¬ (σ s 0 = 0 ∨ σ t 0 = 0) := by omega
  refine z_aload_n E dX6_copy_41 rfl ?_
  refine z_get E dX6_copy_42 (by rfl) flX6_13 (by rfl) ?_
  refine z_iload_n E dX6_copy_45 rfl ?_
  refine a_iald (j := s) E dX6_copy_46 (fun _ => rfl) (by omega) (by omega) (by omega) ?_
  rw [v2]
  refine z_aload_n E dX6_copy_47 rfl ?_
  refine z_get E dX6_copy_48 (by rfl) flX6_13 (by rfl) ?_
  refine z_iload_n E dX6_copy_51 rfl ?_
  refine a_iald (j := t) E dX6_copy_52 (fun _ => rfl) (by omega) (by omega) (by omega) ?_
  rw [w2]
  refine z_icmp_eq (tgt := 62) E (by omega) (by omega) dX6_copy_53 (by decide) (fun h53 => ?_) (fun h53 => ?_)
  case refine_2 =>
    refine z_aload_n E dX6_copy_56 rfl ?_
    refine z_iconst E dX6_copy_57 ?_
    refine c_VQ E dX6_copy_58 lkX6_78 (ok_meets hM 4 (by omega) 172) (by rfl) rfl rfl rfl (Nat.le_of_ble_eq_true rfl) ⟨(Nat.le_of_ble_eq_true rfl), (Nat.le_of_ble_eq_true rfl)⟩ ⟨rfl, rfl⟩ ⟨Nat.zero_le _, Nat.zero_le _⟩ (fun g1 hg1 => ?_)
    exact z_iret E F dX6_copy_61 (fin hop ((if_pos hv).trans ((if_neg hnl).trans (if_neg h53))) hg1)
  have hidx : ¬ ((0 ≤ i ∧ 0 ≤ n ∧ i + n ≤ σ s 2) ∧ (0 ≤ j ∧ 0 ≤ n ∧ j + n ≤ σ t 2)) → Zc X 111 [some (.ref 156), some (.int (iI (s : Int))), some (.int (iI i)), some (.int (iI (t : Int))), some (.int (iI j)), some (.int (iI n)), none] [] 172 (mA A) 0 0 := by
    intro hl
    refine z_aload_n E dX6_copy_111 rfl ?_
    refine z_iconst E dX6_copy_112 ?_
    refine c_VQ E dX6_copy_113 lkX6_78 (ok_meets hM 2 (by omega) 172) (by rfl) rfl rfl rfl (Nat.le_of_ble_eq_true rfl) ⟨(Nat.le_of_ble_eq_true rfl), (Nat.le_of_ble_eq_true rfl)⟩ ⟨rfl, rfl⟩ ⟨Nat.zero_le _, Nat.zero_le _⟩ (fun g1 hg1 => ?_)
    exact z_iret E F dX6_copy_116 (fin hop ((if_pos hv).trans ((if_neg hnl).trans ((if_pos h53).trans (if_neg hl)))) hg1)
  refine z_iload_n E dX6_copy_62 rfl ?_
  refine z_if_lt (tgt := 111) E (by omega) dX6_copy_63 (by decide) (fun h63 => ?_) (fun h63 => ?_)
  · exact hidx (fun v => by omega)
  refine z_iload E dX6_copy_66 rfl ?_
  refine z_if_lt (tgt := 111) E (by omega) dX6_copy_68 (by decide) (fun h68 => ?_) (fun h68 => ?_)
  · exact hidx (fun v => by omega)
  refine z_iload E dX6_copy_71 rfl ?_
  refine z_if_lt (tgt := 111) E (by omega) dX6_copy_73 (by decide) (fun h73 => ?_) (fun h73 => ?_)
  · exact hidx (fun v => by omega)
  refine z_iload_n E dX6_copy_76 rfl ?_
  refine z_i2l E (by omega) dX6_copy_77 ?_
  refine z_iload E dX6_copy_78 rfl ?_
  refine z_i2l E (by omega) dX6_copy_80 ?_
  refine z_ladd E dX6_copy_81 ?_
  refine z_aload_n E dX6_copy_82 rfl ?_
  refine z_get E dX6_copy_83 (by rfl) flX6_17 (by rfl) ?_
  refine z_iload_n E dX6_copy_86 rfl ?_
  refine a_iald (j := s) E dX6_copy_87 (fun _ => rfl) (by omega) (by omega) (by omega) ?_
  rw [v3]
  refine z_i2l E (by omega) dX6_copy_88 ?_
  refine z_lcmp E (by omega) (by omega) dX6_copy_89 (fun z89 rz89 lt89 gt89 => ?_)
  refine z_if_gt (tgt := 111) E (by omega) dX6_copy_90 (by decide) (fun h90 => ?_) (fun h90 => ?_)
  · exact hidx (fun v => by omega)
  refine z_iload E dX6_copy_93 rfl ?_
  refine z_i2l E (by omega) dX6_copy_95 ?_
  refine z_iload E dX6_copy_96 rfl ?_
  refine z_i2l E (by omega) dX6_copy_98 ?_
  refine z_ladd E dX6_copy_99 ?_
  refine z_aload_n E dX6_copy_100 rfl ?_
  refine z_get E dX6_copy_101 (by rfl) flX6_17 (by rfl) ?_
  refine z_iload_n E dX6_copy_104 rfl ?_
  refine a_iald (j := t) E dX6_copy_105 (fun _ => rfl) (by omega) (by omega) (by omega) ?_
  rw [w3]
  refine z_i2l E (by omega) dX6_copy_106 ?_
  refine z_lcmp E (by omega) (by omega) dX6_copy_107 (fun z107 rz107 lt107 gt107 => ?_)
  refine z_if_le (tgt := 117) E (by omega) dX6_copy_108 (by decide) (fun h108 => ?_) (fun h108 => ?_)
  case refine_2 => exact hidx (fun v => by omega)
  obtain ⟨⟨i, rfl⟩, ⟨j, rfl⟩, ⟨n, rfl⟩⟩ := And.intro (nat_of (s := i) (by omega)) (And.intro (nat_of (s := j) (by omega)) (nat_of (s := n) (by omega)))
  have hc : (0 ≤ (i : Int) ∧ 0 ≤ (n : Int) ∧ (i : Int) + n ≤ σ s 2) ∧ (0 ≤ (j : Int) ∧ 0 ≤ (n : Int) ∧ (j : Int) + n ≤ σ t 2) := by omega
  have hres : opCopy σ (s : Int) (i : Int) (t : Int) (j : Int) (n : Int) = (1, va_up σ t (cpR σ s i t j n)) := (if_pos hv).trans ((if_neg hnl).trans ((if_pos h53).trans (if_pos hc)))
  refine z_iconst E dX6_copy_117 ?_
  refine z_istore (ls' := [_, _, _, _, _, _, _]) E dX6_copy_118 (Nat.le_of_ble_eq_true rfl) rfl ?_
  have loop2 : ∀ (m k : Nat), k + m = n → ∀ A' : Nat → Nat → Int, MI (va_up A' 160 (A 160)) σ → Lo A A' → (∀ q, q < n → A' 161 q = σ s (3 + i + q)) → A' 160 = (fun q => if 20 * t + j ≤ q ∧ q < 20 * t + j + k then σ s (3 + i + (q - (20 * t + j))) else A 160 q) → Zc X 157 [some (.ref 156), some (.int (iI (s : Int))), some (.int (iI (i : Int))), some (.int (iI (t : Int))), some (.int (iI (j : Int))), some (.int (iI (n : Int))), some (.int (iI (k : Int)))] [] 172 (mA A') 0 0 := by
    intro m
    induction m with
    | zero =>
      intro k hk A' m1 l1 e1 e0
      have hk2 : k = n := by omega
      subst hk2
      refine z_iload E dX6_copy_157 rfl ?_
      refine z_iload E dX6_copy_159 rfl ?_
      refine z_icmp_ge (tgt := 192) E (by omega) (by omega) dX6_copy_161 (by decide) (fun h161 => ?_) (fun h161 => ?_)
      · refine z_iconst E dX6_copy_192 ?_
        refine z_iret E F dX6_copy_193 (fin hop hres (mp_to ?_ l1))
        have := m1.its ht8 (R := A' 160) (T := cpR σ s i t j k) ?_ ?_ ?_
        · rw [va_uu, up_same] at this; exact this
        · intro y hy; unfold cpR; rw [if_neg (by omega)]
        · intro y hy
          unfold cpR
          split
          · rw [show 3 + i + (3 + y - (3 + j)) = 3 + (i + (y - j)) by omega]; exact r4 _ (by omega)
          · exact q4 y hy
        · intro r y hr hy
          rw [e0, va_up_self]
          show (if 20 * t + j ≤ 20 * r + y ∧ 20 * r + y < 20 * t + j + k then σ s (3 + i + (20 * r + y - (20 * t + j))) else A 160 (20 * r + y)) = _
          by_cases er : r = t
          · subst er
            rw [if_pos rfl]
            unfold cpR
            by_cases eb : j ≤ y ∧ y < j + k
            · rw [if_pos (by omega), if_pos (by omega)]; congr 1; omega
            · rw [if_neg (by omega), if_neg (by omega)]; exact w4 y hy
          · rw [if_neg (by omega), if_neg er]
      · omega
    | succ m ih =>
      intro k hk A' m1 l1 e1 e0
      have e2 := e1 k (by omega)
      refine z_iload E dX6_copy_157 rfl ?_
      refine z_iload E dX6_copy_159 rfl ?_
      refine z_icmp_ge (tgt := 192) E (by omega) (by omega) dX6_copy_161 (by decide) (fun h161 => ?_) (fun h161 => ?_)
      · omega
      · refine z_aload_n E dX6_copy_164 rfl ?_
        refine z_get E dX6_copy_165 (by rfl) flX6_20 (by rfl) ?_
        refine z_bipush E (by decide) dX6_copy_168 ?_
        refine z_iload_n E dX6_copy_170 rfl ?_
        refine z_imul E dX6_copy_171 ?_
        refine z_iload E dX6_copy_172 rfl ?_
        refine z_iadd E dX6_copy_174 ?_
        refine z_iload E dX6_copy_175 rfl ?_
        refine z_iadd E dX6_copy_177 ?_
        refine z_aload_n E dX6_copy_178 rfl ?_
        refine z_get E dX6_copy_179 (by rfl) flX6_23 (by rfl) ?_
        refine z_iload E dX6_copy_182 rfl ?_
        refine a_iald (j := k) E dX6_copy_184 (fun _ => rfl) (by omega) (by omega) (by omega) ?_
        rw [e2]
        refine a_iast (j := 20 * t + j + k) E dX6_copy_185 (fun _ => rfl) (by omega) (by omega) (by omega) ?_
        refine z_iinc (ls' := [_, _, _, _, _, _, _]) E dX6_copy_186 rfl rfl ?_
        refine z_goto (tgt := 157) E dX6_copy_189 (by decide) ?_
        rw [ei]
        refine ih (k + 1) (by omega) _ ?_ (lo_tr l1 (lo_up (by omega))) ?_ ?_
        · rw [va_uu]; exact m1
        · intro q hq; rw [va_up_ne _ _ (by omega)]; exact e1 q hq
        · rw [va_up_self, e0]
          funext q
          by_cases eq : q = 20 * t + j + k
          · subst eq; rw [up_eq, if_pos (by omega), show 20 * t + j + k - (20 * t + j) = k by omega]
          · rw [up_ne _ _ eq]
            by_cases e4 : 20 * t + j ≤ q ∧ q < 20 * t + j + k
            · rw [if_pos e4, if_pos (by omega)]
            · rw [if_neg e4, if_neg (by omega)]
  have loop : ∀ (m k : Nat), k + m = n → ∀ A' : Nat → Nat → Int, (∃ T, A' = va_up A 161 T) → (∀ q, q < k → A' 161 q = σ s (3 + i + q)) → Zc X 120 [some (.ref 156), some (.int (iI (s : Int))), some (.int (iI (i : Int))), some (.int (iI (t : Int))), some (.int (iI (j : Int))), some (.int (iI (n : Int))), some (.int (iI (k : Int)))] [] 172 (mA A') 0 0 := by
    intro m
    induction m with
    | zero =>
      intro k hk A' hA e1
      obtain ⟨T, rfl⟩ := hA
      refine z_iload E dX6_copy_120 rfl ?_
      refine z_iload E dX6_copy_122 rfl ?_
      refine z_icmp_ge (tgt := 154) E (by omega) (by omega) dX6_copy_124 (by decide) (fun h124 => ?_) (fun h124 => ?_)
      · refine z_iconst E dX6_copy_154 ?_
        refine z_istore (ls' := [_, _, _, _, _, _, _]) E dX6_copy_155 (Nat.le_of_ble_eq_true rfl) rfl ?_
        refine loop2 n 0 (by omega) _ ?_ (lo_up (by omega)) (fun q hq => e1 q (by omega)) ?_
        · refine hM.scr (fun r hr => ?_)
          by_cases er : r = 160
          · subst er; rw [va_up_self]
          · rw [va_up_ne _ _ er, va_up_ne _ _ (by omega)]
        · rw [va_up_ne _ _ (by omega)]; funext q; rw [if_neg (by omega)]
      · omega
    | succ m ih =>
      intro k hk A' hA e1
      obtain ⟨T, rfl⟩ := hA
      have e2 : va_up A 161 T 160 (20 * s + i + k) = σ s (3 + i + k) := by
        rw [va_up_ne _ _ (by omega), show 20 * s + i + k = 20 * s + (i + k) by omega, v4 (i + k) (by omega)]; congr 1; omega
      refine z_iload E dX6_copy_120 rfl ?_
      refine z_iload E dX6_copy_122 rfl ?_
      refine z_icmp_ge (tgt := 154) E (by omega) (by omega) dX6_copy_124 (by decide) (fun h124 => ?_) (fun h124 => ?_)
      · omega
      · refine z_aload_n E dX6_copy_127 rfl ?_
        refine z_get E dX6_copy_128 (by rfl) flX6_23 (by rfl) ?_
        refine z_iload E dX6_copy_131 rfl ?_
        refine z_aload_n E dX6_copy_133 rfl ?_
        refine z_get E dX6_copy_134 (by rfl) flX6_20 (by rfl) ?_
        refine z_bipush E (by decide) dX6_copy_137 ?_
        refine z_iload_n E dX6_copy_139 rfl ?_
        refine z_imul E dX6_copy_140 ?_
        refine z_iload_n E dX6_copy_141 rfl ?_
        refine z_iadd E dX6_copy_142 ?_
        refine z_iload E dX6_copy_143 rfl ?_
        refine z_iadd E dX6_copy_145 ?_
        refine a_iald (j := 20 * s + i + k) E dX6_copy_146 (fun _ => rfl) (by omega) (by omega) (by omega) ?_
        rw [e2]
        refine a_iast (j := k) E dX6_copy_147 (fun _ => rfl) (by omega) (by omega) (by omega) ?_
        refine z_iinc (ls' := [_, _, _, _, _, _, _]) E dX6_copy_148 rfl rfl ?_
        refine z_goto (tgt := 120) E dX6_copy_151 (by decide) ?_
        rw [ei, va_uu]
        refine ih (k + 1) (by omega) _ ⟨_, rfl⟩ (fun q hq => ?_)
        rw [va_up_self]
        by_cases eq : q = k
        · subst eq; rw [up_eq]
        · rw [up_ne _ _ eq]; exact e1 q (by omega)
  refine loop n 0 (by omega) A ⟨A 161, (up_same A 161).symm⟩ (fun q hq => by omega)
