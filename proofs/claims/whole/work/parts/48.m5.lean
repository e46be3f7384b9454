/-! the reference's calls: ladders made, rows through values, kinds -/
theorem mml (a b : Int) : a % 10007 * b % 10007 = a * b % 10007 := by
  rw [Int.mul_emod, Int.emod_emod_of_dvd a (Int.dvd_refl 10007), ← Int.mul_emod]
theorem MI.ld {A A' : Nat → Nat → Int} {σ : St} (h : MI A σ) {k : Nat} (hk : k < 4) {B : Nat → Nat → Int} (rB : ∀ n j, n < 10 → j < 10 → 0 ≤ B n j ∧ B n j < 10007) (h1 : ∀ n j, n < 10 → j < 10 → A' 171 (100 * k + 10 * n + j) = B n j) (h2 : ∀ q, ¬ (100 * k ≤ q ∧ q < 100 * k + 100) → A' 171 q = A 171 q) (h3 : A' 170 = up (A 170) k 1) (e : ∀ r, 156 ≤ r → r ≤ 160 → A' r = A r) : MI A' (setLd σ k B) := by
  obtain ⟨hV, hS⟩ := h
  have e2 : ∀ t, t ≠ 8 + k → setLd σ k B t = σ t := fun t ht => va_up_ne _ _ ht
  have e3 : setLd σ k B (8 + k) 0 = 1 := by unfold setLd; rw [va_up_self]; rfl
  have e4 : ∀ n j, n < 10 → j < 10 → setLd σ k B (8 + k) (1 + 10 * n + j) = B n j := fun n j hn hj => by
    unfold setLd
    rw [va_up_self, if_neg (by omega), show (1 + 10 * n + j - 1) / 10 = n by omega, show (1 + 10 * n + j - 1) % 10 = j by omega]
  refine ⟨⟨fun t ht => ?_, fun q hq => ?_, ?_⟩, ⟨fun t ht => ?_, fun q hq => ?_, ?_⟩⟩
  · rw [e 157 (by omega) (by omega), e 158 (by omega) (by omega), e 159 (by omega) (by omega), e 160 (by omega) (by omega), e2 t (by omega)]; exact hV.1 t ht
  · by_cases eq : q = k
    · subst eq
      exact ⟨by rw [e3, h3, up_eq], fun n j hn hj => by rw [e4 n j hn hj]; exact h1 n j hn hj⟩
    · refine ⟨by rw [h3, up_ne _ _ eq, e2 (8 + q) (by omega)]; exact (hV.2.1 q hq).1, fun n j hn hj => ?_⟩
      rw [h2 _ (by omega), e2 (8 + q) (by omega)]; exact (hV.2.1 q hq).2 n j hn hj
  · rw [e 156 (by omega) (by omega), e2 12 (by omega)]; exact hV.2.2
  · rw [e2 t (by omega)]; exact hS.1 t ht
  · by_cases eq : q = k
    · subst eq
      exact ⟨Or.inr e3, fun n j hn hj => by rw [e4 n j hn hj]; exact rB n j hn hj⟩
    · rw [e2 (8 + q) (by omega)]; exact hS.2.1 q hq
  · rw [e2 12 (by omega)]; exact hS.2.2
set_option maxRecDepth 100000 in
theorem m_ladder {A : Nat → Nat → Int} {σ : St} (hM : MI A σ) (k p f : Int) (hk : inR k) (hp : inR p) (hf : inR f) : OkI mX6_ladder [.ref 156, .int (iI k), .int (iI p), .int (iI f)] 172 (mA A) (.int (iI (opLadder σ k p f).1)) (MP A (opLadder σ k p f).2) := by
  generalize hop : opLadder σ k p f = R
  refine OkM.of [some (.ref 156), some (.int (iI k)), some (.int (iI p)), some (.int (iI f)), none, none, none] (by decide +kernel) rfl (Nat.le_of_ble_eq_true rfl) ?_
  intro X E F
  have hbad : ¬ (iL k ∧ iS p ∧ iS f) → Zc X 23 [some (.ref 156), some (.int (iI k)), some (.int (iI p)), some (.int (iI f)), none, none, none] [] 172 (mA A) 0 0 := by
    intro hv
    refine z_bipush E (by decide) dX6_ladder_23 ?_
    exact z_iret E F dX6_ladder_25 (fin hop (if_neg hv) (mp_same hM))
  refine z_iload_n E dX6_ladder_0 rfl ?_
  refine z_iconst E dX6_ladder_1 ?_
  refine z_iconst E dX6_ladder_2 ?_
  refine c_S E dX6_ladder_3 lkX6_70 (ok_inB k 0 3 (iL k) (by omega) hk (by omega) (by omega) 172 _) rfl rfl rfl (Nat.le_of_ble_eq_true rfl) ⟨(Nat.le_of_ble_eq_true rfl), (Nat.le_of_ble_eq_true rfl)⟩ ⟨rfl, rfl⟩ ⟨Nat.zero_le _, Nat.zero_le _⟩ ?_
  refine z_bif_eq (tgt := 23) E dX6_ladder_6 (by decide) (fun h6 => hbad (fun v => h6 v.1)) (fun h6 => ?_)
  refine z_iload_n E dX6_ladder_9 rfl ?_
  refine c_S E dX6_ladder_10 lkX6_74 (ok_isSheet6 p hp 172 _) rfl rfl rfl (Nat.le_of_ble_eq_true rfl) ⟨(Nat.le_of_ble_eq_true rfl), (Nat.le_of_ble_eq_true rfl)⟩ ⟨rfl, rfl⟩ ⟨Nat.zero_le _, Nat.zero_le _⟩ ?_
  refine z_bif_eq (tgt := 23) E dX6_ladder_13 (by decide) (fun h13 => hbad (fun v => h13 v.2.1)) (fun h13 => ?_)
  refine z_iload_n E dX6_ladder_16 rfl ?_
  refine c_S E dX6_ladder_17 lkX6_74 (ok_isSheet6 f hf 172 _) rfl rfl rfl (Nat.le_of_ble_eq_true rfl) ⟨(Nat.le_of_ble_eq_true rfl), (Nat.le_of_ble_eq_true rfl)⟩ ⟨rfl, rfl⟩ ⟨Nat.zero_le _, Nat.zero_le _⟩ ?_
  refine z_bif_ne (tgt := 26) E dX6_ladder_20 (by decide) (fun h20 => ?_) (fun h20 => hbad (fun v => h20 v.2.2))
  have hv : iL k ∧ iS p ∧ iS f := ⟨h6, h13, h20⟩
  obtain ⟨⟨k, rfl⟩, ⟨p, rfl⟩, ⟨f, rfl⟩⟩ := And.intro (nat_of h6.1) (And.intro (nat_of h13.1) (nat_of h20.1))
  have hk4 : k < 4 := by omega
  have hp8 : p < 8 := by omega
  have hf8 : f < 8 := by omega
  rcases (hM.2.1 p hp8).1 with lp | lp
  · refine z_aload_n E dX6_ladder_26 rfl ?_
    refine z_iload_n E dX6_ladder_27 rfl ?_
    refine c_VQ E dX6_ladder_28 lkX6_118 (ok_isLost0 hM hp8 lp 172) (by rfl) rfl rfl rfl (Nat.le_of_ble_eq_true rfl) ⟨(Nat.le_of_ble_eq_true rfl), (Nat.le_of_ble_eq_true rfl)⟩ ⟨rfl, rfl⟩ ⟨Nat.zero_le _, Nat.zero_le _⟩ (fun g1 hg1 => ?_)
    refine z_if_ne (tgt := 42) E (by omega) dX6_ladder_31 (by decide) (fun h31 => ?_) (fun hq => False.elim (by omega))
    refine z_bipush E (by decide) dX6_ladder_42 ?_
    exact z_iret E F dX6_ladder_44 (fin hop ((if_pos hv).trans (if_pos (Or.inl lp))) hg1)
  refine z_aload_n E dX6_ladder_26 rfl ?_
  refine z_iload_n E dX6_ladder_27 rfl ?_
  refine c_V E dX6_ladder_28 lkX6_118 (ok_isLost1 hM hp8 lp 172) (by rfl) rfl rfl rfl (Nat.le_of_ble_eq_true rfl) ⟨(Nat.le_of_ble_eq_true rfl), (Nat.le_of_ble_eq_true rfl)⟩ ⟨rfl, rfl⟩ ⟨Nat.zero_le _, Nat.zero_le _⟩ ?_
  refine z_if_ne (tgt := 42) E (by omega) dX6_ladder_31 (by decide) (fun hq => False.elim (by omega)) (fun h31 => ?_)
  rcases (hM.2.1 f hf8).1 with lf | lf
  · refine z_aload_n E dX6_ladder_34 rfl ?_
    refine z_iload_n E dX6_ladder_35 rfl ?_
    refine c_VQ E dX6_ladder_36 lkX6_118 (ok_isLost0 hM hf8 lf 172) (by rfl) rfl rfl rfl (Nat.le_of_ble_eq_true rfl) ⟨(Nat.le_of_ble_eq_true rfl), (Nat.le_of_ble_eq_true rfl)⟩ ⟨rfl, rfl⟩ ⟨Nat.zero_le _, Nat.zero_le _⟩ (fun g1 hg1 => ?_)
    refine z_if_eq (tgt := 45) E (by omega) dX6_ladder_39 (by decide) (fun hq => False.elim (by omega)) (fun h39 => ?_)
    refine z_bipush E (by decide) dX6_ladder_42 ?_
    exact z_iret E F dX6_ladder_44 (fin hop ((if_pos hv).trans (if_pos (Or.inr lf))) hg1)
  refine z_aload_n E dX6_ladder_34 rfl ?_
  refine z_iload_n E dX6_ladder_35 rfl ?_
  refine c_V E dX6_ladder_36 lkX6_118 (ok_isLost1 hM hf8 lf 172) (by rfl) rfl rfl rfl (Nat.le_of_ble_eq_true rfl) ⟨(Nat.le_of_ble_eq_true rfl), (Nat.le_of_ble_eq_true rfl)⟩ ⟨rfl, rfl⟩ ⟨Nat.zero_le _, Nat.zero_le _⟩ ?_
  refine z_if_eq (tgt := 45) E (by omega) dX6_ladder_39 (by decide) (fun h39 => ?_) (fun hq => False.elim (by omega))
  have hnl : ¬ (σ p 0 = 0 ∨ σ f 0 = 0) := by omega
  refine z_aload_n E dX6_ladder_45 rfl ?_
  refine z_iload_n E dX6_ladder_46 rfl ?_
  refine z_aload_n E dX6_ladder_47 rfl ?_
  refine z_get E dX6_ladder_48 (by rfl) flX6_26 (by rfl) ?_
  refine c_V0 E dX6_ladder_51 lkX6_105 (ok_read hM hp8 t162 172) (by rfl) rfl rfl rfl (Nat.le_of_ble_eq_true rfl) ⟨(Nat.le_of_ble_eq_true rfl), (Nat.le_of_ble_eq_true rfl)⟩ ⟨rfl, rfl⟩ ⟨Nat.zero_le _, Nat.zero_le _⟩ ?_
  refine z_aload_n E dX6_ladder_54 rfl ?_
  refine z_iload_n E dX6_ladder_55 rfl ?_
  refine z_aload_n E dX6_ladder_56 rfl ?_
  refine z_get E dX6_ladder_57 (by rfl) flX6_29 (by rfl) ?_
  refine c_V0 E dX6_ladder_60 lkX6_105 (ok_read (hM.ups (by omega)) hf8 t163 172) (by rfl) rfl rfl rfl (Nat.le_of_ble_eq_true rfl) ⟨(Nat.le_of_ble_eq_true rfl), (Nat.le_of_ble_eq_true rfl)⟩ ⟨rfl, rfl⟩ ⟨Nat.zero_le _, Nat.zero_le _⟩ ?_
  generalize hB : va_up (va_up A 162 (srS σ p)) 163 (srS σ f) = B
  have hMB : MI B σ := by rw [← hB]; exact (hM.ups (by omega)).ups (by omega)
  have loB : Lo A B := by rw [← hB]; exact lo_tr (lo_up (by omega)) (lo_up (by omega))
  have b2 : B 162 = srS σ p := by rw [← hB, va_up_ne _ _ (by omega), va_up_self]
  have b3 : B 163 = srS σ f := by rw [← hB, va_up_self]
  have rp := srS_rok σ p
  have rf := srS_rok σ f
  by_cases hc : srS σ p 0 ≠ 0 ∧ (srS σ f 0 = 0 ∧ srS σ f 1 ≠ 0)
  case neg =>
    refine z_aload_n E dX6_ladder_63 rfl ?_
    refine c_V E dX6_ladder_64 lkX6_137 (ok_canLadder0 B (by rw [b2]; exact rp) (by rw [b3]; exact rf) (by rw [b2, b3]; exact hc) 172) (by rfl) rfl rfl rfl (Nat.le_of_ble_eq_true rfl) ⟨(Nat.le_of_ble_eq_true rfl), (Nat.le_of_ble_eq_true rfl)⟩ ⟨rfl, rfl⟩ ⟨Nat.zero_le _, Nat.zero_le _⟩ ?_
    refine z_if_ne (tgt := 73) E (by omega) dX6_ladder_67 (by decide) (fun hq => False.elim (by omega)) (fun h67 => ?_)
    refine z_bipush E (by decide) dX6_ladder_70 ?_
    exact z_iret E F dX6_ladder_72 (fin hop ((if_pos hv).trans ((if_neg hnl).trans (if_neg hc))) (mp_to hMB loB))
  refine z_aload_n E dX6_ladder_63 rfl ?_
  refine c_VQ E dX6_ladder_64 lkX6_137 (ok_canLadder1 B (by rw [b2]; exact rp) (by rw [b3]; exact rf) (by rw [b2, b3]; exact hc) 172) (by rfl) rfl rfl rfl (Nat.le_of_ble_eq_true rfl) ⟨(Nat.le_of_ble_eq_true rfl), (Nat.le_of_ble_eq_true rfl)⟩ ⟨rfl, rfl⟩ ⟨Nat.zero_le _, Nat.zero_le _⟩ (fun g1 hg1 => ?_)
  obtain ⟨D, rfl, d4, d5, oD⟩ := hg1
  rw [b3] at d4
  rw [b2, b3] at d5
  have hMD : MI D σ := hMB.scr (fun k hk => oD k (by simp; omega))
  have loD : Lo A D := lo_tr loB (fun k hk => oD k (by simp; omega))
  refine z_if_ne (tgt := 73) E (by omega) dX6_ladder_67 (by decide) (fun h67 => ?_) (fun hq => False.elim (by omega))
  have hres : opLadder σ (k : Int) (p : Int) (f : Int) = (1, setLd σ k (blS (srS σ p) (srS σ f))) := (if_pos hv).trans ((if_neg hnl).trans (if_pos hc))
  generalize srS σ p = G at *
  generalize srS σ f = F' at *
  have hval : ∀ n j, n < 10 → j < 10 → fcl n * pw (fcl j) 10005 % 10007 * ldR G F' j n % 10007 = blS G F' n j := by
    intro n j hn hj
    unfold blS
    rw [M_if hj, M_lad rp rf hc.2.1 hc.2.2 j n hn, mml, mml]
    congr 1
    rw [Int.mul_assoc, Int.mul_comm (ifc j), ← Int.mul_assoc, Int.mul_comm (fcl n)]
  refine z_iconst E dX6_ladder_73 ?_
  refine z_istore (ls' := [_, _, _, _, _, _, _]) E dX6_ladder_74 (Nat.le_of_ble_eq_true rfl) rfl ?_
  have loop : ∀ (q j : Nat), j + q = 10 → ∀ (l5 l6 : Option Value) (A' : Nat → Nat → Int), (∀ r, (r < 164 ∨ r = 170) → A' r = D r) → A' 164 = tmS F' 9 → A' 165 = ldR G F' j → (∀ n j2, n < 10 → j2 < j → A' 171 (100 * k + 10 * n + j2) = blS G F' n j2) → (∀ q, ¬ (100 * k ≤ q ∧ q < 100 * k + 100) → A' 171 q = D 171 q) → Zc X 76 [some (.ref 156), some (.int (iI (k : Int))), some (.int (iI (p : Int))), some (.int (iI (f : Int))), some (.int (iI (j : Int))), l5, l6] [] 172 (mA A') 0 0 := by
    intro q
    induction q with
    | zero =>
      intro j hj l5 l6 A' e1 e4 e5 e6 e7
      have hj2 : j = 10 := by omega
      subst hj2
      refine z_iload E dX6_ladder_76 rfl ?_
      refine z_bipush E (by decide) dX6_ladder_78 ?_
      refine z_icmp_ge (tgt := 185) E (by omega) (by omega) dX6_ladder_80 (by decide) (fun h80 => ?_) (fun h80 => ?_)
      · refine z_aload_n E dX6_ladder_185 rfl ?_
        refine z_get E dX6_ladder_186 (by rfl) flX6_50 (by rfl) ?_
        refine z_iload_n E dX6_ladder_189 rfl ?_
        refine z_iconst E dX6_ladder_190 ?_
        refine a_zast (j := k) E dX6_ladder_191 (by omega) (fun _ => rfl) (by omega) (by omega) (by omega) ?_
        refine z_iconst E dX6_ladder_192 ?_
        refine z_iret E F dX6_ladder_193 (fin hop hres (mp_to ?_ ?_))
        · refine hMD.ld hk4 (fun n j _ _ => blS_in _ _ n j) (fun n j hn hj => ?_) (fun q hq => ?_) ?_ (fun r h1 h2 => ?_)
          · rw [va_up_ne _ _ (by omega)]; exact e6 n j hn hj
          · rw [va_up_ne _ _ (by omega)]; exact e7 q hq
          · rw [va_up_self, e1 170 (by omega)]
          · rw [va_up_ne _ _ (by omega)]; exact e1 r (by omega)
        · exact lo_tr loD (lo_tr (fun r hr => e1 r (by omega)) (lo_up (by omega)))
      · omega
    | succ q ih =>
      intro j hj l5 l6 A' e1 e4 e5 e6 e7
      refine z_iload E dX6_ladder_76 rfl ?_
      refine z_bipush E (by decide) dX6_ladder_78 ?_
      refine z_icmp_ge (tgt := 185) E (by omega) (by omega) dX6_ladder_80 (by decide) (fun h80 => ?_) (fun h80 => ?_)
      · omega
      · refine z_iconst E dX6_ladder_83 ?_
        refine z_istore (ls' := [_, _, _, _, _, _, _]) E dX6_ladder_84 (Nat.le_of_ble_eq_true rfl) rfl ?_
        have inner : ∀ (m n : Nat), n + m = 10 → ∀ (l6 : Option Value) (A' : Nat → Nat → Int), (∀ r, (r < 164 ∨ r = 170) → A' r = D r) → A' 164 = tmS F' 9 → A' 165 = ldR G F' j → (∀ n2 j2, n2 < 10 → (j2 < j ∨ (j2 = j ∧ n2 < n)) → A' 171 (100 * k + 10 * n2 + j2) = blS G F' n2 j2) → (∀ q, ¬ (100 * k ≤ q ∧ q < 100 * k + 100) → A' 171 q = D 171 q) → Zc X 86 [some (.ref 156), some (.int (iI (k : Int))), some (.int (iI (p : Int))), some (.int (iI (f : Int))), some (.int (iI (j : Int))), some (.int (iI (n : Int))), l6] [] 172 (mA A') 0 0 := by
          intro m
          induction m with
          | zero =>
            intro n hn l6 A' e1 e4 e5 e6 e7
            refine z_iload E dX6_ladder_86 rfl ?_
            refine z_bipush E (by decide) dX6_ladder_88 ?_
            refine z_icmp_ge (tgt := 153) E (by omega) (by omega) dX6_ladder_90 (by decide) (fun h90 => ?_) (fun h90 => ?_)
            · refine z_aload_n E dX6_ladder_153 rfl ?_
              refine z_get E dX6_ladder_154 (by rfl) flX6_32 (by rfl) ?_
              refine z_aload_n E dX6_ladder_157 rfl ?_
              refine z_get E dX6_ladder_158 (by rfl) flX6_35 (by rfl) ?_
              refine z_aload_n E dX6_ladder_161 rfl ?_
              refine z_get E dX6_ladder_162 (by rfl) flX6_41 (by rfl) ?_
              refine c_S0 E dX6_ladder_165 lkX6_94 (ok_times t164 t165 t167 (by omega) (by omega) A' (by rw [e4]; exact tmS_rok _ _) (by rw [e5]; exact ldR_rok _ _ _) 172) rfl rfl rfl (Nat.le_of_ble_eq_true rfl) ⟨(Nat.le_of_ble_eq_true rfl), (Nat.le_of_ble_eq_true rfl)⟩ ⟨rfl, rfl⟩ ⟨Nat.zero_le _, Nat.zero_le _⟩ ?_
              rw [e4, e5]
              refine z_aload_n E dX6_ladder_168 rfl ?_
              refine z_get E dX6_ladder_169 (by rfl) flX6_41 (by rfl) ?_
              refine z_aload_n E dX6_ladder_172 rfl ?_
              refine z_get E dX6_ladder_173 (by rfl) flX6_35 (by rfl) ?_
              refine c_S0 E dX6_ladder_176 lkX6_98 (ok_set t167 t165 _ 172) rfl rfl rfl (Nat.le_of_ble_eq_true rfl) ⟨(Nat.le_of_ble_eq_true rfl), (Nat.le_of_ble_eq_true rfl)⟩ ⟨rfl, rfl⟩ ⟨Nat.zero_le _, Nat.zero_le _⟩ ?_
              rw [va_up_self]
              refine z_iinc (ls' := [_, _, _, _, _, _, _]) E dX6_ladder_179 rfl rfl ?_
              refine z_goto (tgt := 76) E dX6_ladder_182 (by decide) ?_
              rw [ei]
              refine ih (j + 1) (by omega) _ _ _ ?_ ?_ ?_ ?_ ?_
              · intro r hr; rw [va_up_ne _ _ (by omega), va_up_ne _ _ (by omega)]; exact e1 r hr
              · rw [va_up_ne _ _ (by omega), va_up_ne _ _ (by omega)]; exact e4
              · rw [va_up_self]; rfl
              · intro n2 j2 hn2 hj2; rw [va_up_ne _ _ (by omega), va_up_ne _ _ (by omega)]; exact e6 n2 j2 hn2 (by omega)
              · intro q hq; rw [va_up_ne _ _ (by omega), va_up_ne _ _ (by omega)]; exact e7 q hq
            · omega
          | succ m ihm =>
            intro n hn l6 A' e1 e4 e5 e6 e7
            have i1 := fcl_in n
            have i2 := pw_in (fcl j) 10005
            have i3 := ldR_rok G F' j n (by omega)
            have i4 := fcl_in j
            have p1 := mul_in i1 i2
            have p2 := mul_in (a := fcl n * pw (fcl j) 10005 % 10007) (by omega) i3
            refine z_iload E dX6_ladder_86 rfl ?_
            refine z_bipush E (by decide) dX6_ladder_88 ?_
            refine z_icmp_ge (tgt := 153) E (by omega) (by omega) dX6_ladder_90 (by decide) (fun h90 => ?_) (fun h90 => ?_)
            · omega
            · refine z_iload E dX6_ladder_93 rfl ?_
              refine c_S E dX6_ladder_95 lkX6_109 (ok_factorial n (by omega) 172 _) rfl rfl rfl (Nat.le_of_ble_eq_true rfl) ⟨(Nat.le_of_ble_eq_true rfl), (Nat.le_of_ble_eq_true rfl)⟩ ⟨rfl, rfl⟩ ⟨Nat.zero_le _, Nat.zero_le _⟩ ?_
              refine z_i2l E (by omega) dX6_ladder_98 ?_
              refine z_iload E dX6_ladder_99 rfl ?_
              refine c_S E dX6_ladder_101 lkX6_109 (ok_factorial j (by omega) 172 _) rfl rfl rfl (Nat.le_of_ble_eq_true rfl) ⟨(Nat.le_of_ble_eq_true rfl), (Nat.le_of_ble_eq_true rfl)⟩ ⟨rfl, rfl⟩ ⟨Nat.zero_le _, Nat.zero_le _⟩ ?_
              refine c_S E dX6_ladder_104 lkX6_87 (ok_turnedNumber _ (by omega) 172 _) rfl rfl rfl (Nat.le_of_ble_eq_true rfl) ⟨(Nat.le_of_ble_eq_true rfl), (Nat.le_of_ble_eq_true rfl)⟩ ⟨rfl, rfl⟩ ⟨Nat.zero_le _, Nat.zero_le _⟩ ?_
              refine z_i2l E (by omega) dX6_ladder_107 ?_
              refine z_lmul E dX6_ladder_108 ?_
              refine c_S E dX6_ladder_109 lkX6_62 (ok_mod _ ⟨by omega, by omega⟩ (by omega) 172 _) rfl rfl rfl (Nat.le_of_ble_eq_true rfl) ⟨(Nat.le_of_ble_eq_true rfl), (Nat.le_of_ble_eq_true rfl)⟩ ⟨rfl, rfl⟩ ⟨Nat.zero_le _, Nat.zero_le _⟩ ?_
              refine z_istore (ls' := [_, _, _, _, _, _, _]) E dX6_ladder_112 (Nat.le_of_ble_eq_true rfl) rfl ?_
              refine z_aload_n E dX6_ladder_114 rfl ?_
              refine z_get E dX6_ladder_115 (by rfl) flX6_53 (by rfl) ?_
              refine z_bipush E (by decide) dX6_ladder_118 ?_
              refine z_iload_n E dX6_ladder_120 rfl ?_
              refine z_imul E dX6_ladder_121 ?_
              refine z_bipush E (by decide) dX6_ladder_122 ?_
              refine z_iload E dX6_ladder_124 rfl ?_
              refine z_imul E dX6_ladder_126 ?_
              refine z_iadd E dX6_ladder_127 ?_
              refine z_iload E dX6_ladder_128 rfl ?_
              refine z_iadd E dX6_ladder_130 ?_
              refine z_iload E dX6_ladder_131 rfl ?_
              refine z_i2l E (by omega) dX6_ladder_133 ?_
              refine z_aload_n E dX6_ladder_134 rfl ?_
              refine z_get E dX6_ladder_135 (by rfl) flX6_35 (by rfl) ?_
              refine z_iload E dX6_ladder_138 rfl ?_
              refine a_iald (j := n) E dX6_ladder_140 (cel_ten t165) (by omega) (by omega) (by omega) ?_
              rw [e5]
              refine z_i2l E (by omega) dX6_ladder_141 ?_
              refine z_lmul E dX6_ladder_142 ?_
              refine c_S E dX6_ladder_143 lkX6_62 (ok_mod _ ⟨by omega, by omega⟩ (by omega) 172 _) rfl rfl rfl (Nat.le_of_ble_eq_true rfl) ⟨(Nat.le_of_ble_eq_true rfl), (Nat.le_of_ble_eq_true rfl)⟩ ⟨rfl, rfl⟩ ⟨Nat.zero_le _, Nat.zero_le _⟩ ?_
              rw [hval n j (by omega) (by omega)]
              refine a_iast (j := 100 * k + 10 * n + j) E dX6_ladder_146 (fun _ => rfl) (by omega) (by omega) (by omega) ?_
              refine z_iinc (ls' := [_, _, _, _, _, _, _]) E dX6_ladder_147 rfl rfl ?_
              refine z_goto (tgt := 86) E dX6_ladder_150 (by decide) ?_
              rw [ei]
              refine ihm (n + 1) (by omega) _ _ ?_ ?_ ?_ ?_ ?_
              · intro r hr; rw [va_up_ne _ _ (by omega)]; exact e1 r hr
              · rw [va_up_ne _ _ (by omega)]; exact e4
              · rw [va_up_ne _ _ (by omega)]; exact e5
              · intro n2 j2 hn2 hj2
                rw [va_up_self]
                by_cases ee : n2 = n ∧ j2 = j
                · obtain ⟨rfl, rfl⟩ := ee; rw [up_eq]
                · rw [up_ne _ _ (by omega)]; exact e6 n2 j2 hn2 (by omega)
              · intro q hq; rw [va_up_self, up_ne _ _ (by omega)]; exact e7 q hq
        exact inner 10 0 (by omega) _ A' e1 e4 e5 (fun n2 j2 h1 h2 => e6 n2 j2 h1 (by omega)) e7
  exact loop 10 0 (by omega) none none D (fun _ _ => rfl) d4 d5 (fun n j2 _ h => by omega) (fun _ _ => rfl)
set_option maxRecDepth 100000 in
theorem m_through {A : Nat → Nat → Int} {σ : St} (hM : MI A σ) (s n u : Int) (hs : inR s) (hn : inR n) (hu : inR u) : OkI mX6_through [.ref 156, .int (iI s), .int (iI n), .int (iI u)] 172 (mA A) (.int (iI (opThrough σ s n u).1)) (MP A (opThrough σ s n u).2) := by
  generalize hop : opThrough σ s n u = R
  refine OkM.of [some (.ref 156), some (.int (iI s)), some (.int (iI n)), some (.int (iI u)), none, none, none, none] (by decide +kernel) rfl (Nat.le_of_ble_eq_true rfl) ?_
  intro X E F
  have hbad : ¬ (iS s ∧ (1 ≤ n ∧ n ≤ 10) ∧ iS u) → Zc X 24 [some (.ref 156), some (.int (iI s)), some (.int (iI n)), some (.int (iI u)), none, none, none, none] [] 172 (mA A) 0 0 := by
    intro hv
    refine z_bipush E (by decide) dX6_through_24 ?_
    exact z_iret E F dX6_through_26 (fin hop (if_neg hv) (mp_same hM))
  refine z_iload_n E dX6_through_0 rfl ?_
  refine c_S E dX6_through_1 lkX6_74 (ok_isSheet6 s hs 172 _) rfl rfl rfl (Nat.le_of_ble_eq_true rfl) ⟨(Nat.le_of_ble_eq_true rfl), (Nat.le_of_ble_eq_true rfl)⟩ ⟨rfl, rfl⟩ ⟨Nat.zero_le _, Nat.zero_le _⟩ ?_
  refine z_bif_eq (tgt := 24) E dX6_through_4 (by decide) (fun h4 => hbad (fun v => h4 v.1)) (fun h4 => ?_)
  refine z_iload_n E dX6_through_7 rfl ?_
  refine z_iconst E dX6_through_8 ?_
  refine z_bipush E (by decide) dX6_through_9 ?_
  refine c_S E dX6_through_11 lkX6_70 (ok_inB n 1 10 (1 ≤ n ∧ n ≤ 10) (by omega) hn (by omega) (by omega) 172 _) rfl rfl rfl (Nat.le_of_ble_eq_true rfl) ⟨(Nat.le_of_ble_eq_true rfl), (Nat.le_of_ble_eq_true rfl)⟩ ⟨rfl, rfl⟩ ⟨Nat.zero_le _, Nat.zero_le _⟩ ?_
  refine z_bif_eq (tgt := 24) E dX6_through_14 (by decide) (fun h14 => hbad (fun v => h14 v.2.1)) (fun h14 => ?_)
  refine z_iload_n E dX6_through_17 rfl ?_
  refine c_S E dX6_through_18 lkX6_74 (ok_isSheet6 u hu 172 _) rfl rfl rfl (Nat.le_of_ble_eq_true rfl) ⟨(Nat.le_of_ble_eq_true rfl), (Nat.le_of_ble_eq_true rfl)⟩ ⟨rfl, rfl⟩ ⟨Nat.zero_le _, Nat.zero_le _⟩ ?_
  refine z_bif_ne (tgt := 27) E dX6_through_21 (by decide) (fun h21 => ?_) (fun h21 => hbad (fun v => h21 v.2.2))
  have hv : iS s ∧ (1 ≤ n ∧ n ≤ 10) ∧ iS u := ⟨h4, h14, h21⟩
  obtain ⟨⟨s, rfl⟩, ⟨n, rfl⟩, ⟨u, rfl⟩⟩ := And.intro (nat_of h4.1) (And.intro (nat_of (s := n) (by omega)) (nat_of h21.1))
  have hs8 : s < 8 := by omega
  have hu8 : u < 8 := by omega
  rcases (hM.2.1 s hs8).1 with ls | ls
  · refine z_aload_n E dX6_through_27 rfl ?_
    refine z_iload_n E dX6_through_28 rfl ?_
    refine c_VQ E dX6_through_29 lkX6_118 (ok_isLost0 hM hs8 ls 172) (by rfl) rfl rfl rfl (Nat.le_of_ble_eq_true rfl) ⟨(Nat.le_of_ble_eq_true rfl), (Nat.le_of_ble_eq_true rfl)⟩ ⟨rfl, rfl⟩ ⟨Nat.zero_le _, Nat.zero_le _⟩ (fun g1 hg1 => ?_)
    refine z_if_eq (tgt := 38) E (by omega) dX6_through_32 (by decide) (fun hq => False.elim (by omega)) (fun h32 => ?_)
    refine z_bipush E (by decide) dX6_through_35 ?_
    exact z_iret E F dX6_through_37 (fin hop ((if_pos hv).trans (if_pos ls)) hg1)
  refine z_aload_n E dX6_through_27 rfl ?_
  refine z_iload_n E dX6_through_28 rfl ?_
  refine c_V E dX6_through_29 lkX6_118 (ok_isLost1 hM hs8 ls 172) (by rfl) rfl rfl rfl (Nat.le_of_ble_eq_true rfl) ⟨(Nat.le_of_ble_eq_true rfl), (Nat.le_of_ble_eq_true rfl)⟩ ⟨rfl, rfl⟩ ⟨Nat.zero_le _, Nat.zero_le _⟩ ?_
  refine z_if_eq (tgt := 38) E (by omega) dX6_through_32 (by decide) (fun h32 => ?_) (fun hq => False.elim (by omega))
  have hnl : ¬ (σ s 0 = 0) := by omega
  have hvq := hv
  clear hv
  refine z_aload_n E dX6_through_38 rfl ?_
  refine z_iload_n E dX6_through_39 rfl ?_
  refine z_aload_n E dX6_through_40 rfl ?_
  refine z_get E dX6_through_41 (by rfl) flX6_29 (by rfl) ?_
  refine c_V0 E dX6_through_44 lkX6_105 (ok_read hM hs8 t163 172) (by rfl) rfl rfl rfl (Nat.le_of_ble_eq_true rfl) ⟨(Nat.le_of_ble_eq_true rfl), (Nat.le_of_ble_eq_true rfl)⟩ ⟨rfl, rfl⟩ ⟨Nat.zero_le _, Nat.zero_le _⟩ ?_
  generalize hV : srS σ s = V
  have rV : rok V := by rw [← hV]; exact srS_rok _ _
  refine z_iconst E dX6_through_47 ?_
  refine z_istore (ls' := [_, _, _, _, _, _, _, _]) E dX6_through_48 (Nat.le_of_ble_eq_true rfl) rfl ?_
  have third : ∀ (A3 : Nat → Nat → Int), MI A3 (setSr σ u (tcS V n)) → Lo A A3 → A3 164 = tcS V n → ∀ (w4 : Int) (l7 : Option Value) (m i : Nat), i + m = 10 → Zc X 270 [some (.ref 156), some (.int (iI (s : Int))), some (.int (iI (n : Int))), some (.int (iI (u : Int))), some (.int (iI w4)), some (.int (iI ((dgR (tcS V n) i : Nat) : Int))), some (.int (iI (i : Int))), l7] [] 172 (mA A3) 0 0 := by
    intro A3 m3 l3 e4 w4 l7 m
    induction m with
    | zero =>
      intro i hi
      have hi2 : i = 10 := by omega
      subst hi2
      refine z_iload E dX6_through_270 rfl ?_
      refine z_bipush E (by decide) dX6_through_272 ?_
      refine z_icmp_ge (tgt := 302) E (by omega) (by omega) dX6_through_274 (by decide) (fun h274 => ?_) (fun h274 => ?_)
      · refine z_iload E dX6_through_302 rfl ?_
        have q : ((((dg (thS (dfT (srS σ s) 9) n n) 9 : Nat) : Int), setSr σ u (thS (dfT (srS σ s) 9) n n)) : Int × St) = (((dgR (tcS V n) 10 : Nat) : Int), setSr σ u (tcS V n)) := by
          rw [hV, setSr_congr (M_through rV (n := n) (by omega)), dgR_eq, dg_congr 9 (fun j hj => M_through rV (n := n) (by omega) j (by omega))]
        exact z_iret E F dX6_through_304 (fin hop ((if_pos hvq).trans ((if_neg hnl).trans q)) (mp_to m3 l3))
      · omega
    | succ m ih =>
      intro i hi
      have r1 := tcS_rok V n i (by omega)
      have h1 := ih (i + 1) (by omega)
      rw [dgR] at h1
      refine z_iload E dX6_through_270 rfl ?_
      refine z_bipush E (by decide) dX6_through_272 ?_
      refine z_icmp_ge (tgt := 302) E (by omega) (by omega) dX6_through_274 (by decide) (fun h274 => ?_) (fun h274 => ?_)
      · omega
      · refine z_aload_n E dX6_through_277 rfl ?_
        refine z_get E dX6_through_278 (by rfl) flX6_32 (by rfl) ?_
        refine z_iload E dX6_through_281 rfl ?_
        refine a_iald (j := i) E dX6_through_283 (cel_ten t164) (by omega) (by omega) (by omega) ?_
        rw [e4]
        refine z_if_eq (tgt := 292) E (by omega) dX6_through_284 (by decide) (fun h284 => ?_) (fun h284 => ?_)
        · rw [if_pos h284] at h1
          refine z_iload E dX6_through_292 rfl ?_
          refine z_istore (ls' := [_, _, _, _, _, _, _, _]) E dX6_through_294 (Nat.le_of_ble_eq_true rfl) rfl ?_
          refine z_iinc (ls' := [_, _, _, _, _, _, _, _]) E dX6_through_296 rfl rfl ?_
          refine z_goto (tgt := 270) E dX6_through_299 (by decide) ?_
          rw [ei]
          exact h1
        · rw [if_neg h284] at h1
          refine z_iload E dX6_through_287 rfl ?_
          refine z_goto (tgt := 294) E dX6_through_289 (by decide) ?_
          refine z_istore (ls' := [_, _, _, _, _, _, _, _]) E dX6_through_294 (Nat.le_of_ble_eq_true rfl) rfl ?_
          refine z_iinc (ls' := [_, _, _, _, _, _, _, _]) E dX6_through_296 rfl rfl ?_
          refine z_goto (tgt := 270) E dX6_through_299 (by decide) ?_
          rw [ei]
          exact h1
  have second : ∀ (q k : Nat), k + q = n → ∀ (l5 l6 l7 : Option Value) (A' : Nat → Nat → Int), MI A' σ → Lo A A' → A' 163 = V → A' 164 = tcS V k → A' 165 = tdS k → Zc X 91 [some (.ref 156), some (.int (iI (s : Int))), some (.int (iI (n : Int))), some (.int (iI (u : Int))), some (.int (iI (k : Int))), l5, l6, l7] [] 172 (mA A') 0 0 := by
    intro q
    induction q with
    | zero =>
      intro k hk l5 l6 l7 A' m1 l1 e3 e4 e5
      have hk2 : k = n := by omega
      subst hk2
      refine z_iload E dX6_through_91 rfl ?_
      refine z_iload_n E dX6_through_93 rfl ?_
      refine z_icmp_ge (tgt := 253) E (by omega) (by omega) dX6_through_94 (by decide) (fun h94 => ?_) (fun h94 => ?_)
      · refine z_aload_n E dX6_through_253 rfl ?_
        refine z_aload_n E dX6_through_254 rfl ?_
        refine z_get E dX6_through_255 (by rfl) flX6_32 (by rfl) ?_
        refine z_iload_n E dX6_through_258 rfl ?_
        refine c_VQ E dX6_through_259 lkX6_114 (ok_tells m1 t164 hu8 (tcS V k) e4 (tcS_rok _ _) 172) (by rfl) rfl rfl rfl (Nat.le_of_ble_eq_true rfl) ⟨(Nat.le_of_ble_eq_true rfl), (Nat.le_of_ble_eq_true rfl)⟩ ⟨rfl, rfl⟩ ⟨Nat.zero_le _, Nat.zero_le _⟩ (fun g1 hg1 => ?_)
        obtain ⟨A3, rfl, m3, l3, o3⟩ := hg1
        refine z_istore (ls' := [_, _, _, _, _, _, _, _]) E dX6_through_262 (Nat.le_of_ble_eq_true rfl) rfl ?_
        refine z_iconst E dX6_through_264 ?_
        refine z_istore (ls' := [_, _, _, _, _, _, _, _]) E dX6_through_265 (Nat.le_of_ble_eq_true rfl) rfl ?_
        refine z_iconst E dX6_through_267 ?_
        refine z_istore (ls' := [_, _, _, _, _, _, _, _]) E dX6_through_268 (Nat.le_of_ble_eq_true rfl) rfl ?_
        exact third A3 m3 (lo_tr l1 l3) (by rw [o3 164 (by omega) (by omega)]; exact e4) _ _ 10 0 (by omega)
      · omega
    | succ q ih =>
      intro k hk l5 l6 l7 A' m1 l1 e3 e4 e5
      have i1 := rV k (by omega)
      have i2 := hv_in (tcS V k) (k : Int) 10
      have i3 := hv_in (tdS k) (k : Int) 10
      have i4 := pw_in (hv (tdS k) (k : Int) 10) 10005
      have p1 := mul_in (a := (V k - hv (tcS V k) (k : Int) 10) % 10007) (by omega) i4
      refine z_iload E dX6_through_91 rfl ?_
      refine z_iload_n E dX6_through_93 rfl ?_
      refine z_icmp_ge (tgt := 253) E (by omega) (by omega) dX6_through_94 (by decide) (fun h94 => ?_) (fun h94 => ?_)
      · omega
      · refine z_aload_n E dX6_through_97 rfl ?_
        refine z_get E dX6_through_98 (by rfl) flX6_29 (by rfl) ?_
        refine z_iload E dX6_through_101 rfl ?_
        refine a_iald (j := k) E dX6_through_103 (cel_ten t163) (by omega) (by omega) (by omega) ?_
        rw [e3]
        refine z_i2l E (by omega) dX6_through_104 ?_
        refine z_aload_n E dX6_through_105 rfl ?_
        refine z_get E dX6_through_106 (by rfl) flX6_32 (by rfl) ?_
        refine z_iload E dX6_through_109 rfl ?_
        refine c_S E dX6_through_111 lkX6_131 (ok_valueOf t164 A' (by rw [e4]; exact tcS_rok _ _) (k : Int) (by omega) 172) rfl rfl rfl (Nat.le_of_ble_eq_true rfl) ⟨(Nat.le_of_ble_eq_true rfl), (Nat.le_of_ble_eq_true rfl)⟩ ⟨rfl, rfl⟩ ⟨Nat.zero_le _, Nat.zero_le _⟩ ?_
        rw [e4]
        refine z_i2l E (by omega) dX6_through_114 ?_
        refine z_lsub E dX6_through_115 ?_
        refine c_S E dX6_through_116 lkX6_62 (ok_mod _ ⟨by omega, by omega⟩ (by omega) 172 _) rfl rfl rfl (Nat.le_of_ble_eq_true rfl) ⟨(Nat.le_of_ble_eq_true rfl), (Nat.le_of_ble_eq_true rfl)⟩ ⟨rfl, rfl⟩ ⟨Nat.zero_le _, Nat.zero_le _⟩ ?_
        refine z_istore (ls' := [_, _, _, _, _, _, _, _]) E dX6_through_119 (Nat.le_of_ble_eq_true rfl) rfl ?_
        refine z_iload E dX6_through_121 rfl ?_
        refine z_i2l E (by omega) dX6_through_123 ?_
        refine z_aload_n E dX6_through_124 rfl ?_
        refine z_get E dX6_through_125 (by rfl) flX6_35 (by rfl) ?_
        refine z_iload E dX6_through_128 rfl ?_
        refine c_S E dX6_through_130 lkX6_131 (ok_valueOf t165 A' (by rw [e5]; exact tdS_rok _) (k : Int) (by omega) 172) rfl rfl rfl (Nat.le_of_ble_eq_true rfl) ⟨(Nat.le_of_ble_eq_true rfl), (Nat.le_of_ble_eq_true rfl)⟩ ⟨rfl, rfl⟩ ⟨Nat.zero_le _, Nat.zero_le _⟩ ?_
        rw [e5]
        refine c_S E dX6_through_133 lkX6_87 (ok_turnedNumber _ (by omega) 172 _) rfl rfl rfl (Nat.le_of_ble_eq_true rfl) ⟨(Nat.le_of_ble_eq_true rfl), (Nat.le_of_ble_eq_true rfl)⟩ ⟨rfl, rfl⟩ ⟨Nat.zero_le _, Nat.zero_le _⟩ ?_
        refine z_i2l E (by omega) dX6_through_136 ?_
        refine z_lmul E dX6_through_137 ?_
        refine c_S E dX6_through_138 lkX6_62 (ok_mod _ ⟨by omega, by omega⟩ (by omega) 172 _) rfl rfl rfl (Nat.le_of_ble_eq_true rfl) ⟨(Nat.le_of_ble_eq_true rfl), (Nat.le_of_ble_eq_true rfl)⟩ ⟨rfl, rfl⟩ ⟨Nat.zero_le _, Nat.zero_le _⟩ ?_
        refine z_istore (ls' := [_, _, _, _, _, _, _, _]) E dX6_through_141 (Nat.le_of_ble_eq_true rfl) rfl ?_
        refine z_iconst E dX6_through_143 ?_
        refine z_istore (ls' := [_, _, _, _, _, _, _, _]) E dX6_through_144 (Nat.le_of_ble_eq_true rfl) rfl ?_
        generalize hL : (V k - hv (tcS V k) (k : Int) 10) % 10007 = L
        generalize hSh : L * pw (hv (tdS k) (k : Int) 10) 10005 % 10007 = Sh
        have rSh : 0 ≤ Sh ∧ Sh < 10007 := by omega
        have hT : ∀ i, tcS V (k + 1) i = (tcS V k i + Sh * tdS k i) % 10007 := by intro i; rw [← hSh, ← hL]; rfl
        have dn : ∀ (m c : Nat), c + m = 10 → ∀ A2 : Nat → Nat → Int, MI A2 σ → Lo A A2 → A2 163 = V → A2 164 = tcS V (k + 1) → A2 165 = (fun (y : Nat) => if 9 - (c : Int) < (y : Int) ∧ y < 10 then tdS (k + 1) y else tdS k y) → Zc X 194 [some (.ref 156), some (.int (iI (s : Int))), some (.int (iI (n : Int))), some (.int (iI (u : Int))), some (.int (iI (k : Int))), some (.int (iI L)), some (.int (iI Sh)), some (.int (iI (9 - (c : Int))))] [] 172 (mA A2) 0 0 := by
          intro m
          induction m with
          | zero =>
            intro c hc A2 m2 l2 a3 a4 a5
            refine z_iload E dX6_through_194 rfl ?_
            refine z_if_lt (tgt := 247) E (by omega) dX6_through_196 (by decide) (fun h196 => ?_) (fun h196 => ?_)
            · refine z_iinc (ls' := [_, _, _, _, _, _, _, _]) E dX6_through_247 rfl rfl ?_
              refine z_goto (tgt := 91) E dX6_through_250 (by decide) ?_
              rw [ei]
              refine z_mem (g' := mA (va_up A2 165 (tdS (k + 1)))) ?_ (ih (k + 1) (by omega) _ _ _ _ (m2.ups (by omega)) (lo_tr l2 (lo_up (by omega))) ?_ ?_ (va_up_self _ _ _))
              · refine (row_id (cel_ten t165) (fun y hy => ?_)).symm
                rw [a5]
                show tdS (k + 1) y = (if 9 - (c : Int) < (y : Int) ∧ y < 10 then tdS (k + 1) y else tdS k y)
                rw [if_pos (by omega)]
              · rw [va_up_ne _ _ (by omega)]; exact a3
              · rw [va_up_ne _ _ (by omega)]; exact a4
            · omega
          | succ m ihm =>
            intro c hc A2 m2 l2 a3 a4 a5
            have v1 : A2 165 (9 - c) = tdS k (9 - c) := by
              rw [a5]
              show (if 9 - (c : Int) < ((9 - c : Nat) : Int) ∧ 9 - c < 10 then tdS (k + 1) (9 - c) else tdS k (9 - c)) = _
              rw [if_neg (by omega)]
            have w1 := tdS_rok k (9 - c) (by omega)
            have w2 := mul_in (a := (k : Int)) (by omega) w1
            have key : ∀ w, w = tdS (k + 1) (9 - c) → Zc X 240 [some (.ref 156), some (.int (iI (s : Int))), some (.int (iI (n : Int))), some (.int (iI (u : Int))), some (.int (iI (k : Int))), some (.int (iI L)), some (.int (iI Sh)), some (.int (iI (9 - (c : Int))))] [.int (iI w), .int (iI (9 - (c : Int))), .ref 165] 172 (mA A2) 0 0 := by
              intro w hw
              refine a_iast (j := 9 - c) E dX6_through_240 (cel_ten t165) (by omega) (by omega) (by omega) ?_
              refine z_iinc (ls' := [_, _, _, _, _, _, _, _]) E dX6_through_241 rfl rfl ?_
              refine z_goto (tgt := 194) E dX6_through_244 (by decide) ?_
              rw [show 9 - (c : Int) + -1 = 9 - ((c + 1 : Nat) : Int) by omega]
              refine ihm (c + 1) (by omega) _ (m2.ups (by omega)) (lo_tr l2 (lo_up (by omega))) (by rw [va_up_ne _ _ (by omega)]; exact a3) (by rw [va_up_ne _ _ (by omega)]; exact a4) ?_
              rw [va_up_self, a5, hw]
              funext y
              by_cases ey : y = 9 - c
              · subst ey; rw [up_eq, if_pos (by omega)]
              · rw [up_ne _ _ ey]
                show (if 9 - (c : Int) < (y : Int) ∧ y < 10 then tdS (k + 1) y else tdS k y) = _
                by_cases e6 : 9 - (c : Int) < (y : Int) ∧ y < 10
                · rw [if_pos e6, if_pos (by omega)]
                · rw [if_neg e6, if_neg (by omega)]
            refine z_iload E dX6_through_194 rfl ?_
            refine z_if_lt (tgt := 247) E (by omega) dX6_through_196 (by decide) (fun h196 => ?_) (fun h196 => ?_)
            · omega
            · refine z_aload_n E dX6_through_199 rfl ?_
              refine z_get E dX6_through_200 (by rfl) flX6_35 (by rfl) ?_
              refine z_iload E dX6_through_203 rfl ?_
              refine z_iload E dX6_through_205 rfl ?_
              refine z_if_le (tgt := 222) E (by omega) dX6_through_207 (by decide) (fun h207 => ?_) (fun h207 => ?_)
              · have c9 : c = 9 := by omega
                subst c9
                have w1' : 0 ≤ tdS k 0 ∧ tdS k 0 < 10007 := w1
                have w2' := mul_in (a := (k : Int)) (by omega) w1'
                refine z_iconst E dX6_through_222 ?_
                refine z_i2l E (by omega) dX6_through_223 ?_
                refine z_iload E dX6_through_224 rfl ?_
                refine z_i2l E (by omega) dX6_through_226 ?_
                refine z_aload_n E dX6_through_227 rfl ?_
                refine z_get E dX6_through_228 (by rfl) flX6_35 (by rfl) ?_
                refine z_iload E dX6_through_231 rfl ?_
                refine a_iald (j := 0) E dX6_through_233 (cel_ten t165) (by omega) (by omega) (by omega) ?_
                rw [show A2 165 0 = tdS k 0 from v1]
                refine z_i2l E (by omega) dX6_through_234 ?_
                refine z_lmul E dX6_through_235 ?_
                refine z_lsub E dX6_through_236 ?_
                refine c_S E dX6_through_237 lkX6_62 (ok_mod _ ⟨by omega, by omega⟩ (by omega) 172 _) rfl rfl rfl (Nat.le_of_ble_eq_true rfl) ⟨(Nat.le_of_ble_eq_true rfl), (Nat.le_of_ble_eq_true rfl)⟩ ⟨rfl, rfl⟩ ⟨Nat.zero_le _, Nat.zero_le _⟩ ?_
                refine key _ ?_
                show (0 - (k : Int) * tdS k 0) % 10007 = tfS (k : Int) (tdS k) 0
                unfold tfS
                rw [if_pos rfl]
                congr 1
                rw [Int.neg_mul]; omega
              · have v2 : A2 165 (8 - c) = tdS k (8 - c) := by
                  rw [a5]
                  show (if 9 - (c : Int) < ((8 - c : Nat) : Int) ∧ 8 - c < 10 then tdS (k + 1) (8 - c) else tdS k (8 - c)) = _
                  rw [if_neg (by omega)]
                have w3 := tdS_rok k (8 - c) (by omega)
                refine z_aload_n E dX6_through_210 rfl ?_
                refine z_get E dX6_through_211 (by rfl) flX6_35 (by rfl) ?_
                refine z_iload E dX6_through_214 rfl ?_
                refine z_iconst E dX6_through_216 ?_
                refine z_isub E dX6_through_217 ?_
                refine a_iald (j := 8 - c) E dX6_through_218 (cel_ten t165) (by omega) (by omega) (by omega) ?_
                refine z_goto (tgt := 223) E dX6_through_219 (by decide) ?_
                rw [v2]
                refine z_i2l E (by omega) dX6_through_223 ?_
                refine z_iload E dX6_through_224 rfl ?_
                refine z_i2l E (by omega) dX6_through_226 ?_
                refine z_aload_n E dX6_through_227 rfl ?_
                refine z_get E dX6_through_228 (by rfl) flX6_35 (by rfl) ?_
                refine z_iload E dX6_through_231 rfl ?_
                refine a_iald (j := 9 - c) E dX6_through_233 (cel_ten t165) (by omega) (by omega) (by omega) ?_
                rw [v1]
                refine z_i2l E (by omega) dX6_through_234 ?_
                refine z_lmul E dX6_through_235 ?_
                refine z_lsub E dX6_through_236 ?_
                refine c_S E dX6_through_237 lkX6_62 (ok_mod _ ⟨by omega, by omega⟩ (by omega) 172 _) rfl rfl rfl (Nat.le_of_ble_eq_true rfl) ⟨(Nat.le_of_ble_eq_true rfl), (Nat.le_of_ble_eq_true rfl)⟩ ⟨rfl, rfl⟩ ⟨Nat.zero_le _, Nat.zero_le _⟩ ?_
                refine key _ ?_
                show _ = tfS (k : Int) (tdS k) (9 - c)
                unfold tfS
                rw [if_neg (by omega), show 9 - c - 1 = 8 - c by omega]
        have up1 : ∀ (m i : Nat), i + m = 10 → ∀ A2 : Nat → Nat → Int, A2 = va_up A' 164 (fun y => if y < i then tcS V (k + 1) y else tcS V k y) → Zc X 146 [some (.ref 156), some (.int (iI (s : Int))), some (.int (iI (n : Int))), some (.int (iI (u : Int))), some (.int (iI (k : Int))), some (.int (iI L)), some (.int (iI Sh)), some (.int (iI (i : Int)))] [] 172 (mA A2) 0 0 := by
          intro m
          induction m with
          | zero =>
            intro i hi A2 hA
            refine z_iload E dX6_through_146 rfl ?_
            refine z_bipush E (by decide) dX6_through_148 ?_
            refine z_icmp_ge (tgt := 190) E (by omega) (by omega) dX6_through_150 (by decide) (fun h150 => ?_) (fun h150 => ?_)
            · refine z_bipush E (by decide) dX6_through_190 ?_
              refine z_istore (ls' := [_, _, _, _, _, _, _, _]) E dX6_through_192 (Nat.le_of_ble_eq_true rfl) rfl ?_
              refine z_mem (g' := mA (va_up A' 164 (tcS V (k + 1)))) (by rw [hA]; exact row_eq (cel_ten t164) (fun j hj => if_pos (by omega))) (dn 10 0 (by omega) _ (m1.ups (by omega)) (lo_tr l1 (lo_up (by omega))) (by rw [va_up_ne _ _ (by omega)]; exact e3) (va_up_self _ _ _) ?_)
              rw [va_up_ne _ _ (by omega), e5]
              funext y
              rw [if_neg (by omega)]
            · omega
          | succ m ihm =>
            intro i hi A2 hA
            have a4 : A2 164 i = tcS V k i := by rw [hA, va_up_self, if_neg (by omega)]
            have a5 : A2 165 = tdS k := by rw [hA, va_up_ne _ _ (by omega)]; exact e5
            have w1 := tcS_rok V k i (by omega)
            have w2 := tdS_rok k i (by omega)
            have w3 := mul_in rSh w2
            refine z_iload E dX6_through_146 rfl ?_
            refine z_bipush E (by decide) dX6_through_148 ?_
            refine z_icmp_ge (tgt := 190) E (by omega) (by omega) dX6_through_150 (by decide) (fun h150 => ?_) (fun h150 => ?_)
            · omega
            · refine z_aload_n E dX6_through_153 rfl ?_
              refine z_get E dX6_through_154 (by rfl) flX6_32 (by rfl) ?_
              refine z_iload E dX6_through_157 rfl ?_
              refine z_aload_n E dX6_through_159 rfl ?_
              refine z_get E dX6_through_160 (by rfl) flX6_32 (by rfl) ?_
              refine z_iload E dX6_through_163 rfl ?_
              refine a_iald (j := i) E dX6_through_165 (cel_ten t164) (by omega) (by omega) (by omega) ?_
              rw [a4]
              refine z_i2l E (by omega) dX6_through_166 ?_
              refine z_iload E dX6_through_167 rfl ?_
              refine z_i2l E (by omega) dX6_through_169 ?_
              refine z_aload_n E dX6_through_170 rfl ?_
              refine z_get E dX6_through_171 (by rfl) flX6_35 (by rfl) ?_
              refine z_iload E dX6_through_174 rfl ?_
              refine a_iald (j := i) E dX6_through_176 (cel_ten t165) (by omega) (by omega) (by omega) ?_
              rw [a5]
              refine z_i2l E (by omega) dX6_through_177 ?_
              refine z_lmul E dX6_through_178 ?_
              refine z_ladd E dX6_through_179 ?_
              refine c_S E dX6_through_180 lkX6_62 (ok_mod _ ⟨by omega, by omega⟩ (by omega) 172 _) rfl rfl rfl (Nat.le_of_ble_eq_true rfl) ⟨(Nat.le_of_ble_eq_true rfl), (Nat.le_of_ble_eq_true rfl)⟩ ⟨rfl, rfl⟩ ⟨Nat.zero_le _, Nat.zero_le _⟩ ?_
              refine a_iast (j := i) E dX6_through_183 (cel_ten t164) (by omega) (by omega) (by omega) ?_
              refine z_iinc (ls' := [_, _, _, _, _, _, _, _]) E dX6_through_184 rfl rfl ?_
              refine z_goto (tgt := 146) E dX6_through_187 (by decide) ?_
              rw [ei]
              refine ihm (i + 1) (by omega) _ ?_
              rw [hA, va_uu, va_up_self]
              refine congrArg (va_up A' 164) (funext fun y => ?_)
              by_cases e1 : y = i
              · subst e1; rw [up_eq, if_pos (by omega), hT]
              · rw [up_ne _ _ e1]
                by_cases e4 : y < i
                · rw [if_pos e4, if_pos (show y < i + 1 by omega)]
                · rw [if_neg e4, if_neg (show ¬ y < i + 1 by omega)]
        refine up1 10 0 (by omega) A' ?_
        rw [show (fun y => if y < 0 then tcS V (k + 1) y else tcS V k y) = A' 164 by rw [e4]; funext y; rw [if_neg (by omega)], up_same]
  have first : ∀ (m i : Nat), i + m = 10 → ∀ A' : Nat → Nat → Int, (∀ r, r ≠ 164 → r ≠ 165 → A' r = va_up A 163 V r) → (∀ y, y < i → A' 164 y = 0 ∧ A' 165 y = conS 1 y) → Zc X 50 [some (.ref 156), some (.int (iI (s : Int))), some (.int (iI (n : Int))), some (.int (iI (u : Int))), some (.int (iI (i : Int))), none, none, none] [] 172 (mA A') 0 0 := by
    intro m
    induction m with
    | zero =>
      intro i hi A' e1 e2
      refine z_iload E dX6_through_50 rfl ?_
      refine z_bipush E (by decide) dX6_through_52 ?_
      refine z_icmp_ge (tgt := 88) E (by omega) (by omega) dX6_through_54 (by decide) (fun h54 => ?_) (fun h54 => ?_)
      · refine z_iconst E dX6_through_88 ?_
        refine z_istore (ls' := [_, _, _, _, _, _, _, _]) E dX6_through_89 (Nat.le_of_ble_eq_true rfl) rfl ?_
        refine z_mem (g' := mA (va_up (va_up A' 164 (tcS V 0)) 165 (tdS 0))) ?_ (second n 0 (by omega) _ _ _ _ ?_ ?_ ?_ ?_ (va_up_self _ _ _))
        · have h1 : mA (va_up A' 164 (tcS V 0)) = mA A' := row_id (cel_ten t164) (fun y hy => (e2 y (by omega)).1.symm)
          have h2 : mA (va_up (va_up A' 164 (tcS V 0)) 165 (tdS 0)) = mA (va_up A' 164 (tcS V 0)) := row_id (cel_ten t165) (fun y hy => by rw [va_up_ne _ _ (by omega)]; exact (e2 y (by omega)).2.symm)
          rw [h2, h1]
        · refine hM.scr (fun r hr => ?_)
          rw [va_up_ne _ _ (by omega), va_up_ne _ _ (by omega), e1 r (by omega) (by omega), va_up_ne _ _ (by omega)]
        · intro r hr
          rw [va_up_ne _ _ (by omega), va_up_ne _ _ (by omega), e1 r (by omega) (by omega), va_up_ne _ _ (by omega)]
        · rw [va_up_ne _ _ (by omega), va_up_ne _ _ (by omega), e1 163 (by omega) (by omega), va_up_self]
        · rw [va_up_ne _ _ (by omega), va_up_self]
      · omega
    | succ m ih =>
      intro i hi A' e1 e2
      have fin3 : ∀ w, w = conS 1 i → Zc X 81 [some (.ref 156), some (.int (iI (s : Int))), some (.int (iI (n : Int))), some (.int (iI (u : Int))), some (.int (iI (i : Int))), none, none, none] [.int (iI w), .int (iI (i : Int)), .ref 165] 172 (mA (va_up A' 164 (up (A' 164) i 0))) 0 0 := by
        intro w hw
        refine a_iast (j := i) E dX6_through_81 (cel_ten t165) (by omega) (by omega) (by omega) ?_
        refine z_iinc (ls' := [_, _, _, _, _, _, _, _]) E dX6_through_82 rfl rfl ?_
        refine z_goto (tgt := 50) E dX6_through_85 (by decide) ?_
        rw [ei]
        refine ih (i + 1) (by omega) _ (fun r h1 h2 => ?_) (fun y hy => ?_)
        · rw [va_up_ne _ _ h2, va_up_ne _ _ h1]; exact e1 r h1 h2
        · rw [va_up_self, va_up_ne (j := 164) (k := 165) _ _ (by omega), va_up_self, va_up_ne (j := 165) (k := 164) _ _ (by omega)]
          by_cases ey : y = i
          · subst ey; rw [up_eq, up_eq]; exact ⟨rfl, hw⟩
          · rw [up_ne _ _ ey, up_ne _ _ ey]; exact e2 y (by omega)
      refine z_iload E dX6_through_50 rfl ?_
      refine z_bipush E (by decide) dX6_through_52 ?_
      refine z_icmp_ge (tgt := 88) E (by omega) (by omega) dX6_through_54 (by decide) (fun h54 => ?_) (fun h54 => ?_)
      · omega
      · refine z_aload_n E dX6_through_57 rfl ?_
        refine z_get E dX6_through_58 (by rfl) flX6_32 (by rfl) ?_
        refine z_iload E dX6_through_61 rfl ?_
        refine z_iconst E dX6_through_63 ?_
        refine a_iast (j := i) E dX6_through_64 (cel_ten t164) (by omega) (by omega) (by omega) ?_
        refine z_aload_n E dX6_through_65 rfl ?_
        refine z_get E dX6_through_66 (by rfl) flX6_35 (by rfl) ?_
        refine z_iload E dX6_through_69 rfl ?_
        refine z_iload E dX6_through_71 rfl ?_
        refine z_if_ne (tgt := 80) E (by omega) dX6_through_73 (by decide) (fun h73 => ?_) (fun h73 => ?_)
        · refine z_iconst E dX6_through_80 ?_
          exact fin3 _ (by unfold conS; rw [up_ne _ _ (by omega)])
        · refine z_iconst E dX6_through_76 ?_
          refine z_goto (tgt := 81) E dX6_through_77 (by decide) ?_
          exact fin3 _ (by unfold conS; rw [show i = 0 by omega, up_eq])
  exact first 10 0 (by omega) _ (fun _ _ _ => rfl) (fun y hy => by omega)
