/-! the reference's calls: triangles, ladders asked, counts -/
set_option maxRecDepth 100000 in
theorem m_product {A : Nat → Nat → Int} {σ : St} (hM : MI A σ) (p f h l u v : Int) (hp : inR p) (hf : inR f) (hh : inR h) (hl : inR l) (hu : inR u) (hv' : inR v) : OkI mX6_product [.ref 156, .int (iI p), .int (iI f), .int (iI h), .int (iI l), .int (iI u), .int (iI v)] 172 (mA A) (.int (iI (opProd σ p f h l u v).1)) (MP A (opProd σ p f h l u v).2) := by
  generalize hop : opProd σ p f h l u v = R
  refine OkM.of [some (.ref 156), some (.int (iI p)), some (.int (iI f)), some (.int (iI h)), some (.int (iI l)), some (.int (iI u)), some (.int (iI v)), none, none] (by decide +kernel) rfl (Nat.le_of_ble_eq_true rfl) ?_
  intro X E F
  have hbad : ¬ (iS p ∧ iS f ∧ iS h ∧ iS l ∧ iS u ∧ iS v ∧ u ≠ v) → Zc X 52 [some (.ref 156), some (.int (iI p)), some (.int (iI f)), some (.int (iI h)), some (.int (iI l)), some (.int (iI u)), some (.int (iI v)), none, none] [] 172 (mA A) 0 0 := by
    intro hv
    refine z_bipush E (by decide) dX6_product_52 ?_
    exact z_iret E F dX6_product_54 (fin hop (if_neg hv) (mp_same hM))
  refine z_iload_n E dX6_product_0 rfl ?_
  refine c_S E dX6_product_1 lkX6_74 (ok_isSheet6 p hp 172 _) rfl rfl rfl (Nat.le_of_ble_eq_true rfl) ⟨(Nat.le_of_ble_eq_true rfl), (Nat.le_of_ble_eq_true rfl)⟩ ⟨rfl, rfl⟩ ⟨Nat.zero_le _, Nat.zero_le _⟩ ?_
  refine z_bif_eq (tgt := 52) E dX6_product_4 (by decide) (fun h4 => hbad (fun v => h4 v.1)) (fun h4 => ?_)
  refine z_iload_n E dX6_product_7 rfl ?_
  refine c_S E dX6_product_8 lkX6_74 (ok_isSheet6 f hf 172 _) rfl rfl rfl (Nat.le_of_ble_eq_true rfl) ⟨(Nat.le_of_ble_eq_true rfl), (Nat.le_of_ble_eq_true rfl)⟩ ⟨rfl, rfl⟩ ⟨Nat.zero_le _, Nat.zero_le _⟩ ?_
  refine z_bif_eq (tgt := 52) E dX6_product_11 (by decide) (fun h11 => hbad (fun v => h11 v.2.1)) (fun h11 => ?_)
  refine z_iload_n E dX6_product_14 rfl ?_
  refine c_S E dX6_product_15 lkX6_74 (ok_isSheet6 h hh 172 _) rfl rfl rfl (Nat.le_of_ble_eq_true rfl) ⟨(Nat.le_of_ble_eq_true rfl), (Nat.le_of_ble_eq_true rfl)⟩ ⟨rfl, rfl⟩ ⟨Nat.zero_le _, Nat.zero_le _⟩ ?_
  refine z_bif_eq (tgt := 52) E dX6_product_18 (by decide) (fun h18 => hbad (fun v => h18 v.2.2.1)) (fun h18 => ?_)
  refine z_iload E dX6_product_21 rfl ?_
  refine c_S E dX6_product_23 lkX6_74 (ok_isSheet6 l hl 172 _) rfl rfl rfl (Nat.le_of_ble_eq_true rfl) ⟨(Nat.le_of_ble_eq_true rfl), (Nat.le_of_ble_eq_true rfl)⟩ ⟨rfl, rfl⟩ ⟨Nat.zero_le _, Nat.zero_le _⟩ ?_
  refine z_bif_eq (tgt := 52) E dX6_product_26 (by decide) (fun h26 => hbad (fun v => h26 v.2.2.2.1)) (fun h26 => ?_)
  refine z_iload E dX6_product_29 rfl ?_
  refine c_S E dX6_product_31 lkX6_74 (ok_isSheet6 u hu 172 _) rfl rfl rfl (Nat.le_of_ble_eq_true rfl) ⟨(Nat.le_of_ble_eq_true rfl), (Nat.le_of_ble_eq_true rfl)⟩ ⟨rfl, rfl⟩ ⟨Nat.zero_le _, Nat.zero_le _⟩ ?_
  refine z_bif_eq (tgt := 52) E dX6_product_34 (by decide) (fun h34 => hbad (fun v => h34 v.2.2.2.2.1)) (fun h34 => ?_)
  refine z_iload E dX6_product_37 rfl ?_
  refine c_S E dX6_product_39 lkX6_74 (ok_isSheet6 v hv' 172 _) rfl rfl rfl (Nat.le_of_ble_eq_true rfl) ⟨(Nat.le_of_ble_eq_true rfl), (Nat.le_of_ble_eq_true rfl)⟩ ⟨rfl, rfl⟩ ⟨Nat.zero_le _, Nat.zero_le _⟩ ?_
  refine z_bif_eq (tgt := 52) E dX6_product_42 (by decide) (fun h42 => hbad (fun v => h42 v.2.2.2.2.2.1)) (fun h42 => ?_)
  refine z_iload E dX6_product_45 rfl ?_
  refine z_iload E dX6_product_47 rfl ?_
  refine z_icmp_ne (tgt := 55) E (by omega) (by omega) dX6_product_49 (by decide) (fun h49 => ?_) (fun h49 => ?_)
  case refine_2 => exact hbad (fun w => w.2.2.2.2.2.2 h49)
  have hv : iS p ∧ iS f ∧ iS h ∧ iS l ∧ iS u ∧ iS v ∧ u ≠ v := ⟨h4, h11, h18, h26, h34, h42, h49⟩
  obtain ⟨⟨p, rfl⟩, ⟨f, rfl⟩, ⟨h, rfl⟩, ⟨l, rfl⟩, ⟨u, rfl⟩, ⟨v, rfl⟩⟩ := And.intro (nat_of h4.1) (And.intro (nat_of h11.1) (And.intro (nat_of h18.1) (And.intro (nat_of h26.1) (And.intro (nat_of h34.1) (nat_of h42.1)))))
  have hp8 : p < 8 := by omega
  have hf8 : f < 8 := by omega
  have hh8 : h < 8 := by omega
  have hl8 : l < 8 := by omega
  have hu8 : u < 8 := by omega
  have hv8 : v < 8 := by omega
  rcases (hM.2.1 p hp8).1 with lp | lp
  · refine z_aload_n E dX6_product_55 rfl ?_
    refine z_iload_n E dX6_product_56 rfl ?_
    refine c_VQ E dX6_product_57 lkX6_118 (ok_isLost0 hM hp8 lp 172) (by rfl) rfl rfl rfl (Nat.le_of_ble_eq_true rfl) ⟨(Nat.le_of_ble_eq_true rfl), (Nat.le_of_ble_eq_true rfl)⟩ ⟨rfl, rfl⟩ ⟨Nat.zero_le _, Nat.zero_le _⟩ (fun g1 hg1 => ?_)
    refine z_if_ne (tgt := 88) E (by omega) dX6_product_60 (by decide) (fun h60 => ?_) (fun hq => False.elim (by omega))
    refine z_bipush E (by decide) dX6_product_88 ?_
    exact z_iret E F dX6_product_90 (fin hop ((if_pos hv).trans (if_pos (Or.inl lp))) hg1)
  refine z_aload_n E dX6_product_55 rfl ?_
  refine z_iload_n E dX6_product_56 rfl ?_
  refine c_V E dX6_product_57 lkX6_118 (ok_isLost1 hM hp8 lp 172) (by rfl) rfl rfl rfl (Nat.le_of_ble_eq_true rfl) ⟨(Nat.le_of_ble_eq_true rfl), (Nat.le_of_ble_eq_true rfl)⟩ ⟨rfl, rfl⟩ ⟨Nat.zero_le _, Nat.zero_le _⟩ ?_
  refine z_if_ne (tgt := 88) E (by omega) dX6_product_60 (by decide) (fun hq => False.elim (by omega)) (fun h60 => ?_)
  rcases (hM.2.1 f hf8).1 with lf | lf
  · refine z_aload_n E dX6_product_63 rfl ?_
    refine z_iload_n E dX6_product_64 rfl ?_
    refine c_VQ E dX6_product_65 lkX6_118 (ok_isLost0 hM hf8 lf 172) (by rfl) rfl rfl rfl (Nat.le_of_ble_eq_true rfl) ⟨(Nat.le_of_ble_eq_true rfl), (Nat.le_of_ble_eq_true rfl)⟩ ⟨rfl, rfl⟩ ⟨Nat.zero_le _, Nat.zero_le _⟩ (fun g1 hg1 => ?_)
    refine z_if_ne (tgt := 88) E (by omega) dX6_product_68 (by decide) (fun h68 => ?_) (fun hq => False.elim (by omega))
    refine z_bipush E (by decide) dX6_product_88 ?_
    exact z_iret E F dX6_product_90 (fin hop ((if_pos hv).trans (if_pos (Or.inr<|Or.inl lf))) hg1)
  refine z_aload_n E dX6_product_63 rfl ?_
  refine z_iload_n E dX6_product_64 rfl ?_
  refine c_V E dX6_product_65 lkX6_118 (ok_isLost1 hM hf8 lf 172) (by rfl) rfl rfl rfl (Nat.le_of_ble_eq_true rfl) ⟨(Nat.le_of_ble_eq_true rfl), (Nat.le_of_ble_eq_true rfl)⟩ ⟨rfl, rfl⟩ ⟨Nat.zero_le _, Nat.zero_le _⟩ ?_
  refine z_if_ne (tgt := 88) E (by omega) dX6_product_68 (by decide) (fun hq => False.elim (by omega)) (fun h68 => ?_)
  rcases (hM.2.1 h hh8).1 with lh | lh
  · refine z_aload_n E dX6_product_71 rfl ?_
    refine z_iload_n E dX6_product_72 rfl ?_
    refine c_VQ E dX6_product_73 lkX6_118 (ok_isLost0 hM hh8 lh 172) (by rfl) rfl rfl rfl (Nat.le_of_ble_eq_true rfl) ⟨(Nat.le_of_ble_eq_true rfl), (Nat.le_of_ble_eq_true rfl)⟩ ⟨rfl, rfl⟩ ⟨Nat.zero_le _, Nat.zero_le _⟩ (fun g1 hg1 => ?_)
    refine z_if_ne (tgt := 88) E (by omega) dX6_product_76 (by decide) (fun h76 => ?_) (fun hq => False.elim (by omega))
    refine z_bipush E (by decide) dX6_product_88 ?_
    exact z_iret E F dX6_product_90 (fin hop ((if_pos hv).trans (if_pos (Or.inr<|Or.inr<|Or.inl lh))) hg1)
  refine z_aload_n E dX6_product_71 rfl ?_
  refine z_iload_n E dX6_product_72 rfl ?_
  refine c_V E dX6_product_73 lkX6_118 (ok_isLost1 hM hh8 lh 172) (by rfl) rfl rfl rfl (Nat.le_of_ble_eq_true rfl) ⟨(Nat.le_of_ble_eq_true rfl), (Nat.le_of_ble_eq_true rfl)⟩ ⟨rfl, rfl⟩ ⟨Nat.zero_le _, Nat.zero_le _⟩ ?_
  refine z_if_ne (tgt := 88) E (by omega) dX6_product_76 (by decide) (fun hq => False.elim (by omega)) (fun h76 => ?_)
  rcases (hM.2.1 l hl8).1 with ll | ll
  · refine z_aload_n E dX6_product_79 rfl ?_
    refine z_iload E dX6_product_80 rfl ?_
    refine c_VQ E dX6_product_82 lkX6_118 (ok_isLost0 hM hl8 ll 172) (by rfl) rfl rfl rfl (Nat.le_of_ble_eq_true rfl) ⟨(Nat.le_of_ble_eq_true rfl), (Nat.le_of_ble_eq_true rfl)⟩ ⟨rfl, rfl⟩ ⟨Nat.zero_le _, Nat.zero_le _⟩ (fun g1 hg1 => ?_)
    refine z_if_eq (tgt := 91) E (by omega) dX6_product_85 (by decide) (fun hq => False.elim (by omega)) (fun h85 => ?_)
    refine z_bipush E (by decide) dX6_product_88 ?_
    exact z_iret E F dX6_product_90 (fin hop ((if_pos hv).trans (if_pos (Or.inr<|Or.inr<|Or.inr ll))) hg1)
  refine z_aload_n E dX6_product_79 rfl ?_
  refine z_iload E dX6_product_80 rfl ?_
  refine c_V E dX6_product_82 lkX6_118 (ok_isLost1 hM hl8 ll 172) (by rfl) rfl rfl rfl (Nat.le_of_ble_eq_true rfl) ⟨(Nat.le_of_ble_eq_true rfl), (Nat.le_of_ble_eq_true rfl)⟩ ⟨rfl, rfl⟩ ⟨Nat.zero_le _, Nat.zero_le _⟩ ?_
  refine z_if_eq (tgt := 91) E (by omega) dX6_product_85 (by decide) (fun h85 => ?_) (fun hq => False.elim (by omega))
  have hnl : ¬ (σ p 0 = 0 ∨ σ f 0 = 0 ∨ σ h 0 = 0 ∨ σ l 0 = 0) := by omega
  refine z_aload_n E dX6_product_91 rfl ?_
  refine z_iload_n E dX6_product_92 rfl ?_
  refine z_aload_n E dX6_product_93 rfl ?_
  refine z_get E dX6_product_94 (by rfl) flX6_29 (by rfl) ?_
  refine c_V0 E dX6_product_97 lkX6_105 (ok_read hM hf8 t163 172) (by rfl) rfl rfl rfl (Nat.le_of_ble_eq_true rfl) ⟨(Nat.le_of_ble_eq_true rfl), (Nat.le_of_ble_eq_true rfl)⟩ ⟨rfl, rfl⟩ ⟨Nat.zero_le _, Nat.zero_le _⟩ ?_
  refine z_aload_n E dX6_product_100 rfl ?_
  refine z_iload E dX6_product_101 rfl ?_
  refine z_aload_n E dX6_product_103 rfl ?_
  refine z_get E dX6_product_104 (by rfl) flX6_35 (by rfl) ?_
  refine c_V0 E dX6_product_107 lkX6_105 (ok_read (hM.ups (by omega)) hl8 t165 172) (by rfl) rfl rfl rfl (Nat.le_of_ble_eq_true rfl) ⟨(Nat.le_of_ble_eq_true rfl), (Nat.le_of_ble_eq_true rfl)⟩ ⟨rfl, rfl⟩ ⟨Nat.zero_le _, Nat.zero_le _⟩ ?_
  generalize hB : va_up (va_up A 163 (srS σ f)) 165 (srS σ l) = B
  have hMB : MI B σ := by rw [← hB]; exact (hM.ups (by omega)).ups (by omega)
  have loB : Lo A B := by rw [← hB]; exact lo_tr (lo_up (by omega)) (lo_up (by omega))
  have b3 : B 163 = srS σ f := by rw [← hB, va_up_ne _ _ (by omega), va_up_self]
  have b5 : B 165 = srS σ l := by rw [← hB, va_up_self]
  have rp := srS_rok σ p
  have rf := srS_rok σ f
  have rh := srS_rok σ h
  have rl := srS_rok σ l
  have rf0 := rf 0 (by omega)
  have rl0 := rl 0 (by omega)
  have hnot : ¬ (srS σ f 0 = 0 ∧ srS σ l 0 = 0) → Zc X 128 [some (.ref 156), some (.int (iI (p : Int))), some (.int (iI (f : Int))), some (.int (iI (h : Int))), some (.int (iI (l : Int))), some (.int (iI (u : Int))), some (.int (iI (v : Int))), none, none] [] 172 (mA B) 0 0 := by
    intro hn
    refine z_bipush E (by decide) dX6_product_128 ?_
    exact z_iret E F dX6_product_130 (fin hop ((if_pos hv).trans ((if_neg hnl).trans (if_neg hn))) (mp_to hMB loB))
  refine z_aload_n E dX6_product_110 rfl ?_
  refine z_get E dX6_product_111 (by rfl) flX6_29 (by rfl) ?_
  refine z_iconst E dX6_product_114 ?_
  refine a_iald (j := 0) E dX6_product_115 (cel_ten t163) (by omega) (by omega) (by omega) ?_
  rw [b3]
  refine z_if_ne (tgt := 128) E (by omega) dX6_product_116 (by decide) (fun h116 => ?_) (fun h116 => ?_)
  · exact hnot (fun q => h116 q.1)
  refine z_aload_n E dX6_product_119 rfl ?_
  refine z_get E dX6_product_120 (by rfl) flX6_35 (by rfl) ?_
  refine z_iconst E dX6_product_123 ?_
  refine a_iald (j := 0) E dX6_product_124 (cel_ten t165) (by omega) (by omega) (by omega) ?_
  rw [b5]
  refine z_if_eq (tgt := 131) E (by omega) dX6_product_125 (by decide) (fun h125 => ?_) (fun h125 => ?_)
  case refine_2 => exact hnot (fun q => h125 q.2)
  refine z_aload_n E dX6_product_131 rfl ?_
  refine z_iload_n E dX6_product_132 rfl ?_
  refine z_aload_n E dX6_product_133 rfl ?_
  refine z_get E dX6_product_134 (by rfl) flX6_26 (by rfl) ?_
  refine c_V0 E dX6_product_137 lkX6_105 (ok_read hMB hh8 t162 172) (by rfl) rfl rfl rfl (Nat.le_of_ble_eq_true rfl) ⟨(Nat.le_of_ble_eq_true rfl), (Nat.le_of_ble_eq_true rfl)⟩ ⟨rfl, rfl⟩ ⟨Nat.zero_le _, Nat.zero_le _⟩ ?_
  generalize hC : va_up B 162 (srS σ h) = C
  have hMC : MI C σ := by rw [← hC]; exact hMB.ups (by omega)
  have loC : Lo A C := by rw [← hC]; exact lo_tr loB (lo_up (by omega))
  have c2 : C 162 = srS σ h := by rw [← hC, va_up_self]
  have c3 : C 163 = srS σ f := by rw [← hC, va_up_ne _ _ (by omega)]; exact b3
  have c5 : C 165 = srS σ l := by rw [← hC, va_up_ne _ _ (by omega)]; exact b5
  refine z_aload_n E dX6_product_140 rfl ?_
  refine z_aload_n E dX6_product_141 rfl ?_
  refine z_get E dX6_product_142 (by rfl) flX6_26 (by rfl) ?_
  refine z_aload_n E dX6_product_145 rfl ?_
  refine z_get E dX6_product_146 (by rfl) flX6_29 (by rfl) ?_
  refine z_aload_n E dX6_product_149 rfl ?_
  refine z_get E dX6_product_150 (by rfl) flX6_32 (by rfl) ?_
  refine c_V0Q E dX6_product_153 lkX6_102 (ok_puts t162 t163 t164 (by omega) (by omega) (by omega) C (by rw [c2]; exact rh) (by rw [c3]; exact rf) 172) (by rfl) rfl rfl rfl (Nat.le_of_ble_eq_true rfl) ⟨(Nat.le_of_ble_eq_true rfl), (Nat.le_of_ble_eq_true rfl)⟩ ⟨rfl, rfl⟩ ⟨Nat.zero_le _, Nat.zero_le _⟩ (fun g1 hg1 => ?_)
  obtain ⟨D, rfl, f4, oD⟩ := hg1
  rw [c2, c3] at f4
  have hMD : MI D σ := hMC.scr (fun k hk => oD k (by simp; omega))
  have loD : Lo A D := lo_tr loC (fun k hk => oD k (by simp; omega))
  have d3 : D 163 = srS σ f := by rw [oD 163 (by simp)]; exact c3
  have d5 : D 165 = srS σ l := by rw [oD 165 (by simp)]; exact c5
  refine z_aload_n E dX6_product_156 rfl ?_
  refine z_iload_n E dX6_product_157 rfl ?_
  refine z_aload_n E dX6_product_158 rfl ?_
  refine z_get E dX6_product_159 (by rfl) flX6_26 (by rfl) ?_
  refine c_V0 E dX6_product_162 lkX6_105 (ok_read hMD hp8 t162 172) (by rfl) rfl rfl rfl (Nat.le_of_ble_eq_true rfl) ⟨(Nat.le_of_ble_eq_true rfl), (Nat.le_of_ble_eq_true rfl)⟩ ⟨rfl, rfl⟩ ⟨Nat.zero_le _, Nat.zero_le _⟩ ?_
  generalize hG : va_up D 162 (srS σ p) = G
  have hMG : MI G σ := by rw [← hG]; exact hMD.ups (by omega)
  have loG : Lo A G := by rw [← hG]; exact lo_tr loD (lo_up (by omega))
  have g2 : G 162 = srS σ p := by rw [← hG, va_up_self]
  have g3 : G 163 = srS σ f := by rw [← hG, va_up_ne _ _ (by omega)]; exact d3
  have g4 : G 164 = ptS (srS σ h) (srS σ f) 10 := by rw [← hG, va_up_ne _ _ (by omega)]; exact f4
  have g5 : G 165 = srS σ l := by rw [← hG, va_up_ne _ _ (by omega)]; exact d5
  refine z_aload_n E dX6_product_165 rfl ?_
  refine z_get E dX6_product_166 (by rfl) flX6_26 (by rfl) ?_
  refine z_aload_n E dX6_product_169 rfl ?_
  refine z_get E dX6_product_170 (by rfl) flX6_32 (by rfl) ?_
  refine z_aload_n E dX6_product_173 rfl ?_
  refine z_get E dX6_product_174 (by rfl) flX6_38 (by rfl) ?_
  refine c_S0 E dX6_product_177 lkX6_94 (ok_times t162 t164 t166 (by omega) (by omega) G (by rw [g2]; exact rp) (by rw [g4]; exact ptS_rok _ _ _) 172) rfl rfl rfl (Nat.le_of_ble_eq_true rfl) ⟨(Nat.le_of_ble_eq_true rfl), (Nat.le_of_ble_eq_true rfl)⟩ ⟨rfl, rfl⟩ ⟨Nat.zero_le _, Nat.zero_le _⟩ ?_
  rw [g2, g4]
  refine z_aload_n E dX6_product_180 rfl ?_
  refine z_get E dX6_product_181 (by rfl) flX6_38 (by rfl) ?_
  refine z_aload_n E dX6_product_184 rfl ?_
  refine z_get E dX6_product_185 (by rfl) flX6_26 (by rfl) ?_
  refine c_S0 E dX6_product_188 lkX6_98 (ok_set t166 t162 _ 172) rfl rfl rfl (Nat.le_of_ble_eq_true rfl) ⟨(Nat.le_of_ble_eq_true rfl), (Nat.le_of_ble_eq_true rfl)⟩ ⟨rfl, rfl⟩ ⟨Nat.zero_le _, Nat.zero_le _⟩ ?_
  rw [va_up_self]
  generalize hH : va_up (va_up G 166 (mulS (srS σ p) (ptS (srS σ h) (srS σ f) 10))) 162 (mulS (srS σ p) (ptS (srS σ h) (srS σ f) 10)) = H
  have hMH : MI H σ := by rw [← hH]; exact (hMG.ups (by omega)).ups (by omega)
  have loH : Lo A H := by rw [← hH]; exact lo_tr loG (lo_tr (lo_up (by omega)) (lo_up (by omega)))
  have e2 : H 162 = mulS (srS σ p) (ptS (srS σ h) (srS σ f) 10) := by rw [← hH, va_up_self]
  have e3 : H 163 = srS σ f := by rw [← hH, va_up_ne _ _ (by omega), va_up_ne _ _ (by omega)]; exact g3
  have e5 : H 165 = srS σ l := by rw [← hH, va_up_ne _ _ (by omega), va_up_ne _ _ (by omega)]; exact g5
  refine z_aload_n E dX6_product_191 rfl ?_
  refine z_aload_n E dX6_product_192 rfl ?_
  refine z_get E dX6_product_193 (by rfl) flX6_35 (by rfl) ?_
  refine z_aload_n E dX6_product_196 rfl ?_
  refine z_get E dX6_product_197 (by rfl) flX6_29 (by rfl) ?_
  refine z_aload_n E dX6_product_200 rfl ?_
  refine z_get E dX6_product_201 (by rfl) flX6_32 (by rfl) ?_
  refine c_V0Q E dX6_product_204 lkX6_102 (ok_puts t165 t163 t164 (by omega) (by omega) (by omega) H (by rw [e5]; exact rl) (by rw [e3]; exact rf) 172) (by rfl) rfl rfl rfl (Nat.le_of_ble_eq_true rfl) ⟨(Nat.le_of_ble_eq_true rfl), (Nat.le_of_ble_eq_true rfl)⟩ ⟨rfl, rfl⟩ ⟨Nat.zero_le _, Nat.zero_le _⟩ (fun g1 hg1 => ?_)
  obtain ⟨K, rfl, k4, oK⟩ := hg1
  rw [e5, e3] at k4
  have hMK : MI K σ := hMH.scr (fun k hk => oK k (by simp; omega))
  have loK : Lo A K := lo_tr loH (fun k hk => oK k (by simp; omega))
  have k2 : K 162 = mulS (srS σ p) (ptS (srS σ h) (srS σ f) 10) := by rw [oK 162 (by simp)]; exact e2
  refine z_aload_n E dX6_product_207 rfl ?_
  refine z_aload_n E dX6_product_208 rfl ?_
  refine z_get E dX6_product_209 (by rfl) flX6_26 (by rfl) ?_
  refine z_iload E dX6_product_212 rfl ?_
  refine c_VQ E dX6_product_214 lkX6_114 (ok_tells hMK t162 hu8 _ k2 (mulS_rok _ _) 172) (by rfl) rfl rfl rfl (Nat.le_of_ble_eq_true rfl) ⟨(Nat.le_of_ble_eq_true rfl), (Nat.le_of_ble_eq_true rfl)⟩ ⟨rfl, rfl⟩ ⟨Nat.zero_le _, Nat.zero_le _⟩ (fun g1 hg1 => ?_)
  obtain ⟨A3, rfl, m3, l3, o3⟩ := hg1
  refine z_istore (ls' := [_, _, _, _, _, _, _, _, _]) E dX6_product_217 (Nat.le_of_ble_eq_true rfl) rfl ?_
  refine z_aload_n E dX6_product_219 rfl ?_
  refine z_aload_n E dX6_product_220 rfl ?_
  refine z_get E dX6_product_221 (by rfl) flX6_32 (by rfl) ?_
  refine z_iload E dX6_product_224 rfl ?_
  refine c_VQ E dX6_product_226 lkX6_114 (ok_tells m3 t164 hv8 (ptS (srS σ l) (srS σ f) 10) (by rw [o3 164 (by omega) (by omega)]; exact k4) (ptS_rok _ _ _) 172) (by rfl) rfl rfl rfl (Nat.le_of_ble_eq_true rfl) ⟨(Nat.le_of_ble_eq_true rfl), (Nat.le_of_ble_eq_true rfl)⟩ ⟨rfl, rfl⟩ ⟨Nat.zero_le _, Nat.zero_le _⟩ (fun g1 hg1 => ?_)
  obtain ⟨A4, rfl, m4, l4, o4⟩ := hg1
  refine z_istore (ls' := [_, _, _, _, _, _, _, _, _]) E dX6_product_229 (Nat.le_of_ble_eq_true rfl) rfl ?_
  refine z_iconst E dX6_product_231 ?_
  have q1 : setSr σ u (mulS (srS σ p) (hoS (srS σ h) (srS σ f) 9)) = setSr σ u (mulS (srS σ p) (ptS (srS σ h) (srS σ f) 10)) := setSr_congr (fun j hj => mulS_congr (fun _ _ => rfl) (fun i hi => M_into rh rf i (by omega)))
  have q2 : setSr (setSr σ u (mulS (srS σ p) (hoS (srS σ h) (srS σ f) 9))) v (hoS (srS σ l) (srS σ f) 9) = setSr (setSr σ u (mulS (srS σ p) (ptS (srS σ h) (srS σ f) 10))) v (ptS (srS σ l) (srS σ f) 10) := by
    rw [q1]; exact setSr_congr (fun j hj => M_into rl rf j hj)
  exact z_iret E F dX6_product_232 (fin hop ((if_pos hv).trans ((if_neg hnl).trans ((if_pos ⟨h116, h125⟩).trans (congrArg (fun z => ((1 : Int), z)) q2)))) (mp_to m4 (lo_tr loK (lo_tr l3 l4))))
set_option maxRecDepth 100000 in
theorem m_back {A : Nat → Nat → Int} {σ : St} (hM : MI A σ) (p f u v : Int) (hp : inR p) (hf : inR f) (hu : inR u) (hv' : inR v) : OkI mX6_back [.ref 156, .int (iI p), .int (iI f), .int (iI u), .int (iI v)] 172 (mA A) (.int (iI (opBack σ p f u v).1)) (MP A (opBack σ p f u v).2) := by
  generalize hop : opBack σ p f u v = R
  refine OkM.of [some (.ref 156), some (.int (iI p)), some (.int (iI f)), some (.int (iI u)), some (.int (iI v)), none, none] (by decide +kernel) rfl (Nat.le_of_ble_eq_true rfl) ?_
  intro X E F
  have hbad : ¬ (iS p ∧ iS f ∧ iS u ∧ iS v ∧ u ≠ v) → Zc X 35 [some (.ref 156), some (.int (iI p)), some (.int (iI f)), some (.int (iI u)), some (.int (iI v)), none, none] [] 172 (mA A) 0 0 := by
    intro hv
    refine z_bipush E (by decide) dX6_back_35 ?_
    exact z_iret E F dX6_back_37 (fin hop (if_neg hv) (mp_same hM))
  refine z_iload_n E dX6_back_0 rfl ?_
  refine c_S E dX6_back_1 lkX6_74 (ok_isSheet6 p hp 172 _) rfl rfl rfl (Nat.le_of_ble_eq_true rfl) ⟨(Nat.le_of_ble_eq_true rfl), (Nat.le_of_ble_eq_true rfl)⟩ ⟨rfl, rfl⟩ ⟨Nat.zero_le _, Nat.zero_le _⟩ ?_
  refine z_bif_eq (tgt := 35) E dX6_back_4 (by decide) (fun h4 => hbad (fun v => h4 v.1)) (fun h4 => ?_)
  refine z_iload_n E dX6_back_7 rfl ?_
  refine c_S E dX6_back_8 lkX6_74 (ok_isSheet6 f hf 172 _) rfl rfl rfl (Nat.le_of_ble_eq_true rfl) ⟨(Nat.le_of_ble_eq_true rfl), (Nat.le_of_ble_eq_true rfl)⟩ ⟨rfl, rfl⟩ ⟨Nat.zero_le _, Nat.zero_le _⟩ ?_
  refine z_bif_eq (tgt := 35) E dX6_back_11 (by decide) (fun h11 => hbad (fun v => h11 v.2.1)) (fun h11 => ?_)
  refine z_iload_n E dX6_back_14 rfl ?_
  refine c_S E dX6_back_15 lkX6_74 (ok_isSheet6 u hu 172 _) rfl rfl rfl (Nat.le_of_ble_eq_true rfl) ⟨(Nat.le_of_ble_eq_true rfl), (Nat.le_of_ble_eq_true rfl)⟩ ⟨rfl, rfl⟩ ⟨Nat.zero_le _, Nat.zero_le _⟩ ?_
  refine z_bif_eq (tgt := 35) E dX6_back_18 (by decide) (fun h18 => hbad (fun v => h18 v.2.2.1)) (fun h18 => ?_)
  refine z_iload E dX6_back_21 rfl ?_
  refine c_S E dX6_back_23 lkX6_74 (ok_isSheet6 v hv' 172 _) rfl rfl rfl (Nat.le_of_ble_eq_true rfl) ⟨(Nat.le_of_ble_eq_true rfl), (Nat.le_of_ble_eq_true rfl)⟩ ⟨rfl, rfl⟩ ⟨Nat.zero_le _, Nat.zero_le _⟩ ?_
  refine z_bif_eq (tgt := 35) E dX6_back_26 (by decide) (fun h26 => hbad (fun v => h26 v.2.2.2.1)) (fun h26 => ?_)
  refine z_iload_n E dX6_back_29 rfl ?_
  refine z_iload E dX6_back_30 rfl ?_
  refine z_icmp_ne (tgt := 38) E (by omega) (by omega) dX6_back_32 (by decide) (fun h32 => ?_) (fun h32 => ?_)
  case refine_2 => exact hbad (fun w => w.2.2.2.2 h32)
  have hv : iS p ∧ iS f ∧ iS u ∧ iS v ∧ u ≠ v := ⟨h4, h11, h18, h26, h32⟩
  obtain ⟨⟨p, rfl⟩, ⟨f, rfl⟩, ⟨u, rfl⟩, ⟨v, rfl⟩⟩ := And.intro (nat_of h4.1) (And.intro (nat_of h11.1) (And.intro (nat_of h18.1) (nat_of h26.1)))
  have hp8 : p < 8 := by omega
  have hf8 : f < 8 := by omega
  have hu8 : u < 8 := by omega
  have hv8 : v < 8 := by omega
  rcases (hM.2.1 p hp8).1 with lp | lp
  · refine z_aload_n E dX6_back_38 rfl ?_
    refine z_iload_n E dX6_back_39 rfl ?_
    refine c_VQ E dX6_back_40 lkX6_118 (ok_isLost0 hM hp8 lp 172) (by rfl) rfl rfl rfl (Nat.le_of_ble_eq_true rfl) ⟨(Nat.le_of_ble_eq_true rfl), (Nat.le_of_ble_eq_true rfl)⟩ ⟨rfl, rfl⟩ ⟨Nat.zero_le _, Nat.zero_le _⟩ (fun g1 hg1 => ?_)
    refine z_if_ne (tgt := 54) E (by omega) dX6_back_43 (by decide) (fun h43 => ?_) (fun hq => False.elim (by omega))
    refine z_bipush E (by decide) dX6_back_54 ?_
    exact z_iret E F dX6_back_56 (fin hop ((if_pos hv).trans (if_pos (Or.inl lp))) hg1)
  refine z_aload_n E dX6_back_38 rfl ?_
  refine z_iload_n E dX6_back_39 rfl ?_
  refine c_V E dX6_back_40 lkX6_118 (ok_isLost1 hM hp8 lp 172) (by rfl) rfl rfl rfl (Nat.le_of_ble_eq_true rfl) ⟨(Nat.le_of_ble_eq_true rfl), (Nat.le_of_ble_eq_true rfl)⟩ ⟨rfl, rfl⟩ ⟨Nat.zero_le _, Nat.zero_le _⟩ ?_
  refine z_if_ne (tgt := 54) E (by omega) dX6_back_43 (by decide) (fun hq => False.elim (by omega)) (fun h43 => ?_)
  rcases (hM.2.1 f hf8).1 with lf | lf
  · refine z_aload_n E dX6_back_46 rfl ?_
    refine z_iload_n E dX6_back_47 rfl ?_
    refine c_VQ E dX6_back_48 lkX6_118 (ok_isLost0 hM hf8 lf 172) (by rfl) rfl rfl rfl (Nat.le_of_ble_eq_true rfl) ⟨(Nat.le_of_ble_eq_true rfl), (Nat.le_of_ble_eq_true rfl)⟩ ⟨rfl, rfl⟩ ⟨Nat.zero_le _, Nat.zero_le _⟩ (fun g1 hg1 => ?_)
    refine z_if_eq (tgt := 57) E (by omega) dX6_back_51 (by decide) (fun hq => False.elim (by omega)) (fun h51 => ?_)
    refine z_bipush E (by decide) dX6_back_54 ?_
    exact z_iret E F dX6_back_56 (fin hop ((if_pos hv).trans (if_pos (Or.inr lf))) hg1)
  refine z_aload_n E dX6_back_46 rfl ?_
  refine z_iload_n E dX6_back_47 rfl ?_
  refine c_V E dX6_back_48 lkX6_118 (ok_isLost1 hM hf8 lf 172) (by rfl) rfl rfl rfl (Nat.le_of_ble_eq_true rfl) ⟨(Nat.le_of_ble_eq_true rfl), (Nat.le_of_ble_eq_true rfl)⟩ ⟨rfl, rfl⟩ ⟨Nat.zero_le _, Nat.zero_le _⟩ ?_
  refine z_if_eq (tgt := 57) E (by omega) dX6_back_51 (by decide) (fun h51 => ?_) (fun hq => False.elim (by omega))
  have hnl : ¬ (σ p 0 = 0 ∨ σ f 0 = 0) := by omega
  refine z_aload_n E dX6_back_57 rfl ?_
  refine z_iload_n E dX6_back_58 rfl ?_
  refine z_aload_n E dX6_back_59 rfl ?_
  refine z_get E dX6_back_60 (by rfl) flX6_26 (by rfl) ?_
  refine c_V0 E dX6_back_63 lkX6_105 (ok_read hM hp8 t162 172) (by rfl) rfl rfl rfl (Nat.le_of_ble_eq_true rfl) ⟨(Nat.le_of_ble_eq_true rfl), (Nat.le_of_ble_eq_true rfl)⟩ ⟨rfl, rfl⟩ ⟨Nat.zero_le _, Nat.zero_le _⟩ ?_
  refine z_aload_n E dX6_back_66 rfl ?_
  refine z_iload_n E dX6_back_67 rfl ?_
  refine z_aload_n E dX6_back_68 rfl ?_
  refine z_get E dX6_back_69 (by rfl) flX6_29 (by rfl) ?_
  refine c_V0 E dX6_back_72 lkX6_105 (ok_read (hM.ups (by omega)) hf8 t163 172) (by rfl) rfl rfl rfl (Nat.le_of_ble_eq_true rfl) ⟨(Nat.le_of_ble_eq_true rfl), (Nat.le_of_ble_eq_true rfl)⟩ ⟨rfl, rfl⟩ ⟨Nat.zero_le _, Nat.zero_le _⟩ ?_
  generalize hB : va_up (va_up A 162 (srS σ p)) 163 (srS σ f) = B
  have hMB : MI B σ := by rw [← hB]; exact (hM.ups (by omega)).ups (by omega)
  have loB : Lo A B := by rw [← hB]; exact lo_tr (lo_up (by omega)) (lo_up (by omega))
  have b2 : B 162 = srS σ p := by rw [← hB, va_up_ne _ _ (by omega), va_up_self]
  have b3 : B 163 = srS σ f := by rw [← hB, va_up_self]
  have rp := srS_rok σ p
  have rf := srS_rok σ f
  by_cases hc : srS σ p 0 ≠ 0 ∧ (srS σ f 0 = 0 ∧ srS σ f 1 ≠ 0)
  · refine z_aload_n E dX6_back_75 rfl ?_
    refine c_VQ E dX6_back_76 lkX6_137 (ok_canLadder1 B (by rw [b2]; exact rp) (by rw [b3]; exact rf) (by rw [b2, b3]; exact hc) 172) (by rfl) rfl rfl rfl (Nat.le_of_ble_eq_true rfl) ⟨(Nat.le_of_ble_eq_true rfl), (Nat.le_of_ble_eq_true rfl)⟩ ⟨rfl, rfl⟩ ⟨Nat.zero_le _, Nat.zero_le _⟩ (fun g1 hg1 => ?_)
    obtain ⟨D, rfl, d4, d5, oD⟩ := hg1
    rw [b3] at d4
    rw [b2, b3] at d5
    have hMD : MI D σ := hMB.scr (fun k hk => oD k (by simp; omega))
    have loD : Lo A D := lo_tr loB (fun k hk => oD k (by simp; omega))
    refine z_if_ne (tgt := 85) E (by omega) dX6_back_79 (by decide) (fun h79 => ?_) (fun hq => False.elim (by omega))
    refine z_aload_n E dX6_back_85 rfl ?_
    refine z_aload_n E dX6_back_86 rfl ?_
    refine z_get E dX6_back_87 (by rfl) flX6_35 (by rfl) ?_
    refine z_iload_n E dX6_back_90 rfl ?_
    refine c_VQ E dX6_back_91 lkX6_114 (ok_tells hMD t165 hu8 _ d5 (qS_rok _ _) 172) (by rfl) rfl rfl rfl (Nat.le_of_ble_eq_true rfl) ⟨(Nat.le_of_ble_eq_true rfl), (Nat.le_of_ble_eq_true rfl)⟩ ⟨rfl, rfl⟩ ⟨Nat.zero_le _, Nat.zero_le _⟩ (fun g1 hg1 => ?_)
    obtain ⟨A3, rfl, m3, l3, o3⟩ := hg1
    refine z_istore (ls' := [_, _, _, _, _, _, _]) E dX6_back_94 (Nat.le_of_ble_eq_true rfl) rfl ?_
    refine z_aload_n E dX6_back_96 rfl ?_
    refine z_aload_n E dX6_back_97 rfl ?_
    refine z_get E dX6_back_98 (by rfl) flX6_32 (by rfl) ?_
    refine z_iload E dX6_back_101 rfl ?_
    refine c_VQ E dX6_back_103 lkX6_114 (ok_tells m3 t164 hv8 (tmS (srS σ f) 9) (by rw [o3 164 (by omega) (by omega)]; exact d4) (tmS_rok _ _) 172) (by rfl) rfl rfl rfl (Nat.le_of_ble_eq_true rfl) ⟨(Nat.le_of_ble_eq_true rfl), (Nat.le_of_ble_eq_true rfl)⟩ ⟨rfl, rfl⟩ ⟨Nat.zero_le _, Nat.zero_le _⟩ (fun g1 hg1 => ?_)
    obtain ⟨A4, rfl, m4, l4, o4⟩ := hg1
    refine z_istore (ls' := [_, _, _, _, _, _, _]) E dX6_back_106 (Nat.le_of_ble_eq_true rfl) rfl ?_
    refine z_iconst E dX6_back_108 ?_
    have q2 : setSr (setSr σ u (obS (srS σ p) (tuS (srS σ f)))) v (tuS (srS σ f)) = setSr (setSr σ u (omS (srS σ p) (srS σ f))) v (tmS (srS σ f) 9) := by
      rw [setSr_congr (M_om rp rf hc.2.1 hc.2.2)]; exact setSr_congr (M_turn rf hc.2.1 hc.2.2)
    exact z_iret E F dX6_back_109 (fin hop ((if_pos hv).trans ((if_neg hnl).trans ((if_pos hc).trans (congrArg (fun z => ((1 : Int), z)) q2)))) (mp_to m4 (lo_tr loD (lo_tr l3 l4))))
  · refine z_aload_n E dX6_back_75 rfl ?_
    refine c_V E dX6_back_76 lkX6_137 (ok_canLadder0 B (by rw [b2]; exact rp) (by rw [b3]; exact rf) (by rw [b2, b3]; exact hc) 172) (by rfl) rfl rfl rfl (Nat.le_of_ble_eq_true rfl) ⟨(Nat.le_of_ble_eq_true rfl), (Nat.le_of_ble_eq_true rfl)⟩ ⟨rfl, rfl⟩ ⟨Nat.zero_le _, Nat.zero_le _⟩ ?_
    refine z_if_ne (tgt := 85) E (by omega) dX6_back_79 (by decide) (fun hq => False.elim (by omega)) (fun h79 => ?_)
    refine z_bipush E (by decide) dX6_back_82 ?_
    exact z_iret E F dX6_back_84 (fin hop ((if_pos hv).trans ((if_neg hnl).trans (if_neg hc))) (mp_to hMB loB))
set_option maxRecDepth 100000 in
theorem m_aRow {A : Nat → Nat → Int} {σ : St} (hM : MI A σ) (f u : Int) (hf : inR f) (hu : inR u) : OkI mX6_aRow [.ref 156, .int (iI f), .int (iI u)] 172 (mA A) (.int (iI (opARow σ f u).1)) (MP A (opARow σ f u).2) := by
  generalize hop : opARow σ f u = R
  refine OkM.of [some (.ref 156), some (.int (iI f)), some (.int (iI u)), none] (by decide +kernel) rfl (Nat.le_of_ble_eq_true rfl) ?_
  intro X E F
  have hbad : ¬ (iS f ∧ iS u) → Zc X 14 [some (.ref 156), some (.int (iI f)), some (.int (iI u)), none] [] 172 (mA A) 0 0 := by
    intro hv
    refine z_bipush E (by decide) dX6_aRow_14 ?_
    exact z_iret E F dX6_aRow_16 (fin hop (if_neg hv) (mp_same hM))
  refine z_iload_n E dX6_aRow_0 rfl ?_
  refine c_S E dX6_aRow_1 lkX6_74 (ok_isSheet6 f hf 172 _) rfl rfl rfl (Nat.le_of_ble_eq_true rfl) ⟨(Nat.le_of_ble_eq_true rfl), (Nat.le_of_ble_eq_true rfl)⟩ ⟨rfl, rfl⟩ ⟨Nat.zero_le _, Nat.zero_le _⟩ ?_
  refine z_bif_eq (tgt := 14) E dX6_aRow_4 (by decide) (fun h4 => hbad (fun v => h4 v.1)) (fun h4 => ?_)
  refine z_iload_n E dX6_aRow_7 rfl ?_
  refine c_S E dX6_aRow_8 lkX6_74 (ok_isSheet6 u hu 172 _) rfl rfl rfl (Nat.le_of_ble_eq_true rfl) ⟨(Nat.le_of_ble_eq_true rfl), (Nat.le_of_ble_eq_true rfl)⟩ ⟨rfl, rfl⟩ ⟨Nat.zero_le _, Nat.zero_le _⟩ ?_
  refine z_bif_ne (tgt := 17) E dX6_aRow_11 (by decide) (fun h11 => ?_) (fun h11 => hbad (fun v => h11 v.2))
  have hv : iS f ∧ iS u := ⟨h4, h11⟩
  obtain ⟨⟨f, rfl⟩, ⟨u, rfl⟩⟩ := And.intro (nat_of h4.1) (nat_of h11.1)
  have hf8 : f < 8 := by omega
  have hu8 : u < 8 := by omega
  rcases (hM.2.1 f hf8).1 with lf | lf
  · refine z_aload_n E dX6_aRow_17 rfl ?_
    refine z_iload_n E dX6_aRow_18 rfl ?_
    refine c_VQ E dX6_aRow_19 lkX6_118 (ok_isLost0 hM hf8 lf 172) (by rfl) rfl rfl rfl (Nat.le_of_ble_eq_true rfl) ⟨(Nat.le_of_ble_eq_true rfl), (Nat.le_of_ble_eq_true rfl)⟩ ⟨rfl, rfl⟩ ⟨Nat.zero_le _, Nat.zero_le _⟩ (fun g1 hg1 => ?_)
    refine z_if_eq (tgt := 28) E (by omega) dX6_aRow_22 (by decide) (fun hq => False.elim (by omega)) (fun h22 => ?_)
    refine z_bipush E (by decide) dX6_aRow_25 ?_
    exact z_iret E F dX6_aRow_27 (fin hop ((if_pos hv).trans (if_pos lf)) hg1)
  refine z_aload_n E dX6_aRow_17 rfl ?_
  refine z_iload_n E dX6_aRow_18 rfl ?_
  refine c_V E dX6_aRow_19 lkX6_118 (ok_isLost1 hM hf8 lf 172) (by rfl) rfl rfl rfl (Nat.le_of_ble_eq_true rfl) ⟨(Nat.le_of_ble_eq_true rfl), (Nat.le_of_ble_eq_true rfl)⟩ ⟨rfl, rfl⟩ ⟨Nat.zero_le _, Nat.zero_le _⟩ ?_
  refine z_if_eq (tgt := 28) E (by omega) dX6_aRow_22 (by decide) (fun h22 => ?_) (fun hq => False.elim (by omega))
  have hnl : ¬ (σ f 0 = 0) := by omega
  refine z_aload_n E dX6_aRow_28 rfl ?_
  refine z_iload_n E dX6_aRow_29 rfl ?_
  refine z_aload_n E dX6_aRow_30 rfl ?_
  refine z_get E dX6_aRow_31 (by rfl) flX6_26 (by rfl) ?_
  refine c_V0 E dX6_aRow_34 lkX6_105 (ok_read hM hf8 t162 172) (by rfl) rfl rfl rfl (Nat.le_of_ble_eq_true rfl) ⟨(Nat.le_of_ble_eq_true rfl), (Nat.le_of_ble_eq_true rfl)⟩ ⟨rfl, rfl⟩ ⟨Nat.zero_le _, Nat.zero_le _⟩ ?_
  generalize hB : va_up A 162 (srS σ f) = B
  have hMB : MI B σ := by rw [← hB]; exact hM.ups (by omega)
  have loB : Lo A B := by rw [← hB]; exact lo_up (by omega)
  have b2 : B 162 = srS σ f := by rw [← hB, va_up_self]
  have rs := srS_rok σ f
  refine z_aload_n E dX6_aRow_37 rfl ?_
  refine z_get E dX6_aRow_38 (by rfl) flX6_26 (by rfl) ?_
  refine c_S E dX6_aRow_41 lkX6_124 (ok_canTurn6 t162 B (by rw [b2]; exact rs) 172) rfl rfl rfl (Nat.le_of_ble_eq_true rfl) ⟨(Nat.le_of_ble_eq_true rfl), (Nat.le_of_ble_eq_true rfl)⟩ ⟨rfl, rfl⟩ ⟨Nat.zero_le _, Nat.zero_le _⟩ ?_
  rw [b2]
  refine z_bif_ne (tgt := 50) E dX6_aRow_44 (by decide) (fun h44 => ?_) (fun h44 => ?_)
  case refine_2 =>
    refine z_bipush E (by decide) dX6_aRow_47 ?_
    exact z_iret E F dX6_aRow_49 (fin hop ((if_pos hv).trans ((if_neg hnl).trans (if_neg h44))) (mp_to hMB loB))
  refine z_aload_n E dX6_aRow_50 rfl ?_
  refine z_aload_n E dX6_aRow_51 rfl ?_
  refine z_get E dX6_aRow_52 (by rfl) flX6_26 (by rfl) ?_
  refine z_aload_n E dX6_aRow_55 rfl ?_
  refine z_get E dX6_aRow_56 (by rfl) flX6_29 (by rfl) ?_
  refine c_V0Q E dX6_aRow_59 lkX6_128 (ok_turns t162 t163 (by omega) (by omega) (by omega) B (by rw [b2]; exact rs) 172) (by rfl) rfl rfl rfl (Nat.le_of_ble_eq_true rfl) ⟨(Nat.le_of_ble_eq_true rfl), (Nat.le_of_ble_eq_true rfl)⟩ ⟨rfl, rfl⟩ ⟨Nat.zero_le _, Nat.zero_le _⟩ (fun g1 hg1 => ?_)
  obtain ⟨D, rfl, d3, oD⟩ := hg1
  rw [b2] at d3
  generalize hT : tmS (srS σ f) 9 = T at d3
  have rT : rok T := by rw [← hT]; exact tmS_rok _ _
  have hMD : MI D σ := hMB.scr (fun k hk => oD k (by simp; omega))
  have loD : Lo A D := lo_tr loB (fun k hk => oD k (by simp; omega))
  refine z_iconst E dX6_aRow_62 ?_
  refine z_istore_n (ls' := [_, _, _, _]) E rfl dX6_aRow_63 (Nat.le_of_ble_eq_true rfl) rfl ?_
  have fin2 : ∀ (l3 : Option Value) (A' : Nat → Nat → Int), MI A' σ → Lo A A' → A' 164 = shd T → Zc X 100 [some (.ref 156), some (.int (iI (f : Int))), some (.int (iI (u : Int))), l3] [] 172 (mA A') 0 0 := by
    intro l3 A' m1 l1 e4
    refine z_aload_n E dX6_aRow_100 rfl ?_
    refine z_get E dX6_aRow_101 (by rfl) flX6_26 (by rfl) ?_
    refine c_S0 E dX6_aRow_104 lkX6_90 (ok_one t162 A' 172) rfl rfl rfl (Nat.le_of_ble_eq_true rfl) ⟨(Nat.le_of_ble_eq_true rfl), (Nat.le_of_ble_eq_true rfl)⟩ ⟨rfl, rfl⟩ ⟨Nat.zero_le _, Nat.zero_le _⟩ ?_
    refine z_aload_n E dX6_aRow_107 rfl ?_
    refine z_get E dX6_aRow_108 (by rfl) flX6_26 (by rfl) ?_
    refine z_aload_n E dX6_aRow_111 rfl ?_
    refine z_get E dX6_aRow_112 (by rfl) flX6_32 (by rfl) ?_
    refine z_aload_n E dX6_aRow_115 rfl ?_
    refine z_get E dX6_aRow_116 (by rfl) flX6_35 (by rfl) ?_
    have g1 : va_up A' 162 (conS 1) 162 = conS 1 := va_up_self _ _ _
    have g2 : va_up A' 162 (conS 1) 164 = shd T := by rw [va_up_ne _ _ (by omega)]; exact e4
    refine c_S0 E dX6_aRow_119 lkX6_121 (ok_by t162 t164 t165 (by omega) (by omega) _ (by rw [g1]; exact conS_rok (by omega)) (by rw [g2]; exact shd_rok rT) 172) rfl rfl rfl (Nat.le_of_ble_eq_true rfl) ⟨(Nat.le_of_ble_eq_true rfl), (Nat.le_of_ble_eq_true rfl)⟩ ⟨rfl, rfl⟩ ⟨Nat.zero_le _, Nat.zero_le _⟩ ?_
    rw [g1, g2]
    refine z_aload_n E dX6_aRow_122 rfl ?_
    refine z_get E dX6_aRow_123 (by rfl) flX6_35 (by rfl) ?_
    refine z_bipush E (by decide) dX6_aRow_126 ?_
    refine z_iconst E dX6_aRow_128 ?_
    refine a_iast (j := 9) E dX6_aRow_129 (cel_ten t165) (by omega) (by omega) (by omega) ?_
    rw [va_uu, va_up_self]
    refine z_aload_n E dX6_aRow_130 rfl ?_
    refine z_aload_n E dX6_aRow_131 rfl ?_
    refine z_get E dX6_aRow_132 (by rfl) flX6_35 (by rfl) ?_
    refine z_iload_n E dX6_aRow_135 rfl ?_
    refine c_VQ E dX6_aRow_136 lkX6_114 (ok_tells (A := va_up (va_up A' 162 (conS 1)) 165 (tbS T)) ((m1.ups (by omega)).ups (by omega)) t165 hu8 (tbS T) (va_up_self _ _ _) (tbS_rok T) 172) (by rfl) rfl rfl rfl (Nat.le_of_ble_eq_true rfl) ⟨(Nat.le_of_ble_eq_true rfl), (Nat.le_of_ble_eq_true rfl)⟩ ⟨rfl, rfl⟩ ⟨Nat.zero_le _, Nat.zero_le _⟩ (fun g1 hg1 => ?_)
    obtain ⟨A3, rfl, m3, l3, o3⟩ := hg1
    have e5 : A3 165 = tbS T := by rw [o3 165 (by omega) (by omega), va_up_self]
    refine z_istore_n (ls' := [_, _, _, _]) E rfl dX6_aRow_139 (Nat.le_of_ble_eq_true rfl) rfl ?_
    refine z_aload_n E dX6_aRow_140 rfl ?_
    refine z_get E dX6_aRow_141 (by rfl) flX6_35 (by rfl) ?_
    refine z_iconst E dX6_aRow_144 ?_
    refine a_iald (j := 0) E dX6_aRow_145 (cel_ten t165) (by omega) (by omega) (by omega) ?_
    rw [e5]
    have q : ((tbS (tuS (srS σ f)) 0, setSr σ u (tbS (tuS (srS σ f)))) : Int × St) = (tbS T 0, setSr σ u (tbS T)) := by
      rw [← hT, setSr_congr (M_tb rs h44.1 h44.2), M_tb rs h44.1 h44.2 0 (by omega)]
    exact z_iret E F dX6_aRow_146 (fin hop ((if_pos hv).trans ((if_neg hnl).trans ((if_pos h44).trans q))) (mp_to m3 (lo_tr l1 (lo_tr (lo_tr (lo_up (by omega)) (lo_up (by omega))) l3))))
  have loop : ∀ (m i : Nat), i + m = 10 → ∀ A' : Nat → Nat → Int, A' = va_up D 164 (fun j => if j < i then shd T j else D 164 j) → Zc X 64 [some (.ref 156), some (.int (iI (f : Int))), some (.int (iI (u : Int))), some (.int (iI (i : Int)))] [] 172 (mA A') 0 0 := by
    intro m
    induction m with
    | zero =>
      intro i hi A' hA
      have e0 : mA A' = mA (va_up D 164 (shd T)) := by rw [hA]; exact row_eq (cel_ten t164) (fun j hj => if_pos (by omega))
      refine z_mem e0 ?_
      refine z_iload_n E dX6_aRow_64 rfl ?_
      refine z_bipush E (by decide) dX6_aRow_65 ?_
      refine z_icmp_ge (tgt := 100) E (by omega) (by omega) dX6_aRow_67 (by decide) (fun h67 => ?_) (fun h67 => ?_)
      · exact fin2 _ _ (hMD.ups (by omega)) (lo_tr loD (lo_up (by omega))) (va_up_self _ _ _)
      · omega
    | succ m ih =>
      intro i hi A' hA
      have e3 : A' 163 = T := by rw [hA, va_up_ne _ _ (by omega)]; exact d3
      have key : ∀ v, v = shd T i → va_up A' 164 (up (A' 164) i v) = va_up D 164 (fun j => if j < i + 1 then shd T j else D 164 j) := by
        intro v hv
        rw [hA, va_uu, va_up_self]
        refine congrArg (va_up D 164) (funext fun j => ?_)
        by_cases e1 : j = i
        · subst e1; rw [up_eq, if_pos (by omega), hv]
        · rw [up_ne _ _ e1]
          by_cases e4 : j < i
          · rw [if_pos e4, if_pos (show j < i + 1 by omega)]
          · rw [if_neg e4, if_neg (show ¬ j < i + 1 by omega)]
      refine z_iload_n E dX6_aRow_64 rfl ?_
      refine z_bipush E (by decide) dX6_aRow_65 ?_
      refine z_icmp_ge (tgt := 100) E (by omega) (by omega) dX6_aRow_67 (by decide) (fun h67 => ?_) (fun h67 => ?_)
      · omega
      · refine z_aload_n E dX6_aRow_70 rfl ?_
        refine z_get E dX6_aRow_71 (by rfl) flX6_32 (by rfl) ?_
        refine z_iload_n E dX6_aRow_74 rfl ?_
        refine z_iload_n E dX6_aRow_75 rfl ?_
        refine z_bipush E (by decide) dX6_aRow_76 ?_
        refine z_icmp_ge (tgt := 92) E (by omega) (by omega) dX6_aRow_78 (by decide) (fun h78 => ?_) (fun h78 => ?_)
        · refine z_iconst E dX6_aRow_92 ?_
          refine a_iast (j := i) E dX6_aRow_93 (cel_ten t164) (by omega) (by omega) (by omega) ?_
          refine z_iinc (ls' := [_, _, _, _]) E dX6_aRow_94 rfl rfl ?_
          refine z_goto (tgt := 64) E dX6_aRow_97 (by decide) ?_
          rw [ei]
          exact ih (i + 1) (by omega) _ (key _ (by unfold shd; rw [if_neg (by omega)]))
        · refine z_aload_n E dX6_aRow_81 rfl ?_
          refine z_get E dX6_aRow_82 (by rfl) flX6_29 (by rfl) ?_
          refine z_iload_n E dX6_aRow_85 rfl ?_
          refine z_iconst E dX6_aRow_86 ?_
          refine z_iadd E dX6_aRow_87 ?_
          refine a_iald (j := i + 1) E dX6_aRow_88 (cel_ten t163) (by omega) (by omega) (by omega) ?_
          refine z_goto (tgt := 93) E dX6_aRow_89 (by decide) ?_
          rw [e3]
          refine a_iast (j := i) E dX6_aRow_93 (cel_ten t164) (by omega) (by omega) (by omega) ?_
          refine z_iinc (ls' := [_, _, _, _]) E dX6_aRow_94 rfl rfl ?_
          refine z_goto (tgt := 64) E dX6_aRow_97 (by decide) ?_
          rw [ei]
          exact ih (i + 1) (by omega) _ (key _ (by unfold shd; rw [if_pos (by omega)]))
  refine z_mem ?_ (loop 10 0 (by omega) _ rfl)
  exact (row_id (cel_ten t164) (fun j hj => if_neg (by omega))).symm
set_option maxRecDepth 100000 in
theorem m_lowers {A : Nat → Nat → Int} {σ : St} (hM : MI A σ) (k s : Int) (hk : inR k) (hs : inR s) : OkI mX6_lowers [.ref 156, .int (iI k), .int (iI s)] 172 (mA A) (.int (iI (opLowers σ k s).1)) (MP A (opLowers σ k s).2) := by
  generalize hop : opLowers σ k s = R
  refine OkM.of [some (.ref 156), some (.int (iI k)), some (.int (iI s)), none, none] (by decide +kernel) rfl (Nat.le_of_ble_eq_true rfl) ?_
  intro X E F
  have hbad : ¬ (iL k ∧ iS s) → Zc X 16 [some (.ref 156), some (.int (iI k)), some (.int (iI s)), none, none] [] 172 (mA A) 0 0 := by
    intro hv
    refine z_bipush E (by decide) dX6_lowers_16 ?_
    exact z_iret E F dX6_lowers_18 (fin hop (if_neg hv) (mp_same hM))
  refine z_iload_n E dX6_lowers_0 rfl ?_
  refine z_iconst E dX6_lowers_1 ?_
  refine z_iconst E dX6_lowers_2 ?_
  refine c_S E dX6_lowers_3 lkX6_70 (ok_inB k 0 3 (iL k) (by omega) hk (by omega) (by omega) 172 _) rfl rfl rfl (Nat.le_of_ble_eq_true rfl) ⟨(Nat.le_of_ble_eq_true rfl), (Nat.le_of_ble_eq_true rfl)⟩ ⟨rfl, rfl⟩ ⟨Nat.zero_le _, Nat.zero_le _⟩ ?_
  refine z_bif_eq (tgt := 16) E dX6_lowers_6 (by decide) (fun h6 => hbad (fun v => h6 v.1)) (fun h6 => ?_)
  refine z_iload_n E dX6_lowers_9 rfl ?_
  refine c_S E dX6_lowers_10 lkX6_74 (ok_isSheet6 s hs 172 _) rfl rfl rfl (Nat.le_of_ble_eq_true rfl) ⟨(Nat.le_of_ble_eq_true rfl), (Nat.le_of_ble_eq_true rfl)⟩ ⟨rfl, rfl⟩ ⟨Nat.zero_le _, Nat.zero_le _⟩ ?_
  refine z_bif_ne (tgt := 19) E dX6_lowers_13 (by decide) (fun h13 => ?_) (fun h13 => hbad (fun v => h13 v.2))
  have hv : iL k ∧ iS s := ⟨h6, h13⟩
  obtain ⟨⟨k, rfl⟩, ⟨s, rfl⟩⟩ := And.intro (nat_of h6.1) (nat_of h13.1)
  have hk4 : k < 4 := by omega
  have hs8 : s < 8 := by omega
  rcases (hM.2.1 s hs8).1 with ls | ls
  · refine z_aload_n E dX6_lowers_19 rfl ?_
    refine z_iload_n E dX6_lowers_20 rfl ?_
    refine c_VQ E dX6_lowers_21 lkX6_118 (ok_isLost0 hM hs8 ls 172) (by rfl) rfl rfl rfl (Nat.le_of_ble_eq_true rfl) ⟨(Nat.le_of_ble_eq_true rfl), (Nat.le_of_ble_eq_true rfl)⟩ ⟨rfl, rfl⟩ ⟨Nat.zero_le _, Nat.zero_le _⟩ (fun g1 hg1 => ?_)
    refine z_if_eq (tgt := 30) E (by omega) dX6_lowers_24 (by decide) (fun hq => False.elim (by omega)) (fun h24 => ?_)
    refine z_bipush E (by decide) dX6_lowers_27 ?_
    exact z_iret E F dX6_lowers_29 (fin hop ((if_pos hv).trans (if_pos ls)) hg1)
  refine z_aload_n E dX6_lowers_19 rfl ?_
  refine z_iload_n E dX6_lowers_20 rfl ?_
  refine c_V E dX6_lowers_21 lkX6_118 (ok_isLost1 hM hs8 ls 172) (by rfl) rfl rfl rfl (Nat.le_of_ble_eq_true rfl) ⟨(Nat.le_of_ble_eq_true rfl), (Nat.le_of_ble_eq_true rfl)⟩ ⟨rfl, rfl⟩ ⟨Nat.zero_le _, Nat.zero_le _⟩ ?_
  refine z_if_eq (tgt := 30) E (by omega) dX6_lowers_24 (by decide) (fun h24 => ?_) (fun hq => False.elim (by omega))
  have hnl : ¬ (σ s 0 = 0) := by omega
  have v1 := (hM.1.2.1 k (by omega)).1
  have r1 := (hM.2.2.1 k (by omega)).1
  refine z_aload_n E dX6_lowers_30 rfl ?_
  refine z_get E dX6_lowers_31 (by rfl) flX6_50 (by rfl) ?_
  refine z_iload_n E dX6_lowers_34 rfl ?_
  refine a_zald (j := k) E dX6_lowers_35 (fun _ => rfl) (by omega) (by omega) (by omega) ?_
  rw [v1]
  refine z_if_ne (tgt := 42) E (by omega) dX6_lowers_36 (by decide) (fun h36 => ?_) (fun h36 => ?_)
  case refine_2 =>
    refine z_bipush E (by decide) dX6_lowers_39 ?_
    exact z_iret E F dX6_lowers_41 (fin hop ((if_pos hv).trans ((if_neg hnl).trans (if_pos (by show σ (8 + k) 0 = 0; omega)))) (mp_same hM))
  have hres : ∀ w, fnF (lwS (srS σ s) (stp σ k)) 9 1 = w → opLowers σ (k : Int) (s : Int) = (w, σ) := fun w hw => by
    rw [← hw]; exact (if_pos hv).trans ((if_neg hnl).trans (if_neg (by show ¬ σ (8 + k) 0 = 0; omega)))
  refine z_aload_n E dX6_lowers_42 rfl ?_
  refine z_iload_n E dX6_lowers_43 rfl ?_
  refine z_aload_n E dX6_lowers_44 rfl ?_
  refine z_get E dX6_lowers_45 (by rfl) flX6_26 (by rfl) ?_
  refine c_V0 E dX6_lowers_48 lkX6_105 (ok_read hM hs8 t162 172) (by rfl) rfl rfl rfl (Nat.le_of_ble_eq_true rfl) ⟨(Nat.le_of_ble_eq_true rfl), (Nat.le_of_ble_eq_true rfl)⟩ ⟨rfl, rfl⟩ ⟨Nat.zero_le _, Nat.zero_le _⟩ ?_
  have rs := srS_rok σ s
  refine z_iconst E dX6_lowers_51 ?_
  refine z_istore_n (ls' := [_, _, _, _, _]) E rfl dX6_lowers_52 (Nat.le_of_ble_eq_true rfl) rfl ?_
  have loop : ∀ (q n : Nat), n + q = 10 → 1 ≤ n → fnF (lwS (srS σ s) (stp σ k)) q n = fnF (lwS (srS σ s) (stp σ k)) 9 1 → ∀ (l4 : Option Value) (A' : Nat → Nat → Int), MI A' σ → Lo A A' → A' 162 = srS σ s → Zc X 53 [some (.ref 156), some (.int (iI (k : Int))), some (.int (iI (s : Int))), some (.int (iI (n : Int))), l4] [] 172 (mA A') 0 0 := by
    intro q
    induction q with
    | zero =>
      intro n hn h1 hq l4 A' m1 l1 e2
      refine z_iload_n E dX6_lowers_53 rfl ?_
      refine z_bipush E (by decide) dX6_lowers_54 ?_
      refine z_icmp_ge (tgt := 144) E (by omega) (by omega) dX6_lowers_56 (by decide) (fun h56 => ?_) (fun h56 => ?_)
      · refine z_iconst E dX6_lowers_144 ?_
        exact z_iret E F dX6_lowers_145 (fin hop (hres _ hq.symm) (mp_to m1 l1))
      · omega
    | succ q ih =>
      intro n hn h1 hq l4 A' m1 l1 e2
      have rn := stp_rok hM hk4 (n := n) (by omega)
      have rn1 := stp_rok hM hk4 (n := n - 1) (by omega)
      refine z_iload_n E dX6_lowers_53 rfl ?_
      refine z_bipush E (by decide) dX6_lowers_54 ?_
      refine z_icmp_ge (tgt := 144) E (by omega) (by omega) dX6_lowers_56 (by decide) (fun h56 => ?_) (fun h56 => ?_)
      · omega
      · refine z_aload_n E dX6_lowers_59 rfl ?_
        refine z_iload_n E dX6_lowers_60 rfl ?_
        refine z_iload_n E dX6_lowers_61 rfl ?_
        refine z_aload_n E dX6_lowers_62 rfl ?_
        refine z_get E dX6_lowers_63 (by rfl) flX6_29 (by rfl) ?_
        refine c_V0 E dX6_lowers_66 lkX6_145 (ok_rung m1 hk4 (n := n) (by omega) t163 172) (by rfl) rfl rfl rfl (Nat.le_of_ble_eq_true rfl) ⟨(Nat.le_of_ble_eq_true rfl), (Nat.le_of_ble_eq_true rfl)⟩ ⟨rfl, rfl⟩ ⟨Nat.zero_le _, Nat.zero_le _⟩ ?_
        refine z_aload_n E dX6_lowers_69 rfl ?_
        refine z_get E dX6_lowers_70 (by rfl) flX6_26 (by rfl) ?_
        refine z_aload_n E dX6_lowers_73 rfl ?_
        refine z_get E dX6_lowers_74 (by rfl) flX6_29 (by rfl) ?_
        refine z_aload_n E dX6_lowers_77 rfl ?_
        refine z_get E dX6_lowers_78 (by rfl) flX6_32 (by rfl) ?_
        refine c_S0 E dX6_lowers_81 lkX6_134 (ok_works t162 t163 t164 (by omega) (by omega) _ (by rw [va_up_ne _ _ (by omega), e2]; exact rs) (by rw [va_up_self]; exact rn) 172) rfl rfl rfl (Nat.le_of_ble_eq_true rfl) ⟨(Nat.le_of_ble_eq_true rfl), (Nat.le_of_ble_eq_true rfl)⟩ ⟨rfl, rfl⟩ ⟨Nat.zero_le _, Nat.zero_le _⟩ ?_
        rw [va_up_self, va_up_ne (j := 162) (k := 163) _ _ (by omega), e2]
        refine z_aload_n E dX6_lowers_84 rfl ?_
        refine z_iload_n E dX6_lowers_85 rfl ?_
        refine z_iload_n E dX6_lowers_86 rfl ?_
        refine z_iconst E dX6_lowers_87 ?_
        refine z_isub E dX6_lowers_88 ?_
        refine z_aload_n E dX6_lowers_89 rfl ?_
        refine z_get E dX6_lowers_90 (by rfl) flX6_35 (by rfl) ?_
        rw [show (n : Int) - 1 = ((n - 1 : Nat) : Int) by omega]
        refine c_V0 E dX6_lowers_93 lkX6_145 (ok_rung (A := va_up (va_up A' 163 (stp σ k n)) 164 (wkS (srS σ s) (stp σ k n))) ((m1.ups (by omega)).ups (by omega)) hk4 (n := n - 1) (by omega) t165 172) (by rfl) rfl rfl rfl (Nat.le_of_ble_eq_true rfl) ⟨(Nat.le_of_ble_eq_true rfl), (Nat.le_of_ble_eq_true rfl)⟩ ⟨rfl, rfl⟩ ⟨Nat.zero_le _, Nat.zero_le _⟩ ?_
        generalize hB : va_up (va_up (va_up A' 163 (stp σ k n)) 164 (wkS (srS σ s) (stp σ k n))) 165 (stp σ k (n - 1)) = B
        have hMB : MI B σ := by rw [← hB]; exact ((m1.ups (by omega)).ups (by omega)).ups (by omega)
        have loB : Lo A B := by rw [← hB]; exact lo_tr l1 (lo_tr (lo_tr (lo_up (by omega)) (lo_up (by omega))) (lo_up (by omega)))
        have b2 : B 162 = srS σ s := by rw [← hB, va_up_ne _ _ (by omega), va_up_ne _ _ (by omega), va_up_ne _ _ (by omega)]; exact e2
        have b4 : B 164 = wkS (srS σ s) (stp σ k n) := by rw [← hB, va_up_ne _ _ (by omega), va_up_self]
        have b5 : B 165 = stp σ k (n - 1) := by rw [← hB, va_up_self]
        refine z_iconst E dX6_lowers_96 ?_
        refine z_istore (ls' := [_, _, _, _, _]) E dX6_lowers_97 (Nat.le_of_ble_eq_true rfl) rfl ?_
        have inner : ∀ (m j : Nat), j + m = 10 → (∀ i, i < j → opS (srS σ s) (stp σ k n) i = (n : Int) * stp σ k (n - 1) i % 10007) → Zc X 99 [some (.ref 156), some (.int (iI (k : Int))), some (.int (iI (s : Int))), some (.int (iI (n : Int))), some (.int (iI (j : Int)))] [] 172 (mA B) 0 0 := by
          intro m
          induction m with
          | zero =>
            intro j hj hall
            refine z_iload E dX6_lowers_99 rfl ?_
            refine z_bipush E (by decide) dX6_lowers_101 ?_
            refine z_icmp_ge (tgt := 138) E (by omega) (by omega) dX6_lowers_103 (by decide) (fun h103 => ?_) (fun h103 => ?_)
            · refine z_iinc (ls' := [_, _, _, _, _]) E dX6_lowers_138 rfl rfl ?_
              refine z_goto (tgt := 53) E dX6_lowers_141 (by decide) ?_
              rw [ei]
              refine ih (n + 1) (by omega) (by omega) ?_ _ _ hMB loB b2
              rw [← hq, fnF_t (show lwS (srS σ s) (stp σ k) n from fun i hi => hall i (by omega))]
            · omega
          | succ m ihm =>
            intro j hj hall
            have w1 := wkT_in (srS σ s) (stp σ k n) j (10 - j)
            have w2 := rn1 j (by omega)
            have w3 := mul_in (a := (n : Int)) (by omega) w2
            have w4 := M_work rs rn j (by omega)
            have w5 : 0 ≤ wkS (srS σ s) (stp σ k n) j ∧ wkS (srS σ s) (stp σ k n) j < 10007 := w1
            refine z_iload E dX6_lowers_99 rfl ?_
            refine z_bipush E (by decide) dX6_lowers_101 ?_
            refine z_icmp_ge (tgt := 138) E (by omega) (by omega) dX6_lowers_103 (by decide) (fun h103 => ?_) (fun h103 => ?_)
            · omega
            · refine z_aload_n E dX6_lowers_106 rfl ?_
              refine z_get E dX6_lowers_107 (by rfl) flX6_32 (by rfl) ?_
              refine z_iload E dX6_lowers_110 rfl ?_
              refine a_iald (j := j) E dX6_lowers_112 (cel_ten t164) (by omega) (by omega) (by omega) ?_
              refine z_iload_n E dX6_lowers_113 rfl ?_
              refine z_i2l E (by omega) dX6_lowers_114 ?_
              refine z_aload_n E dX6_lowers_115 rfl ?_
              refine z_get E dX6_lowers_116 (by rfl) flX6_35 (by rfl) ?_
              refine z_iload E dX6_lowers_119 rfl ?_
              refine a_iald (j := j) E dX6_lowers_121 (cel_ten t165) (by omega) (by omega) (by omega) ?_
              rw [b4, b5]
              refine z_i2l E (by omega) dX6_lowers_122 ?_
              refine z_lmul E dX6_lowers_123 ?_
              refine c_S E dX6_lowers_124 lkX6_62 (ok_mod _ ⟨by omega, by omega⟩ (by omega) 172 _) rfl rfl rfl (Nat.le_of_ble_eq_true rfl) ⟨(Nat.le_of_ble_eq_true rfl), (Nat.le_of_ble_eq_true rfl)⟩ ⟨rfl, rfl⟩ ⟨Nat.zero_le _, Nat.zero_le _⟩ ?_
              refine z_icmp_eq (tgt := 132) E (by omega) (by omega) dX6_lowers_127 (by decide) (fun h127 => ?_) (fun h127 => ?_)
              · refine z_iinc (ls' := [_, _, _, _, _]) E dX6_lowers_132 rfl rfl ?_
                refine z_goto (tgt := 99) E dX6_lowers_135 (by decide) ?_
                rw [ei]
                refine ihm (j + 1) (by omega) (fun i hi => ?_)
                by_cases e : i = j
                · subst e; rw [w4]; exact h127
                · exact hall i (by omega)
              · refine z_iload_n E dX6_lowers_130 rfl ?_
                exact z_iret E F dX6_lowers_131 (fin hop (hres _ (by rw [← hq, fnF_f (fun hw => h127 (by rw [← w4]; exact hw j (by omega)))])) (mp_to hMB loB))
        exact inner 10 0 (by omega) (fun i hi => by omega)
  exact loop 9 1 (by omega) (by omega) rfl none _ (hM.ups (by omega)) (lo_up (by omega)) (va_up_self _ _ _)
set_option maxRecDepth 100000 in
theorem m_binomial {A : Nat → Nat → Int} {σ : St} (hM : MI A σ) (k : Int) (hk : inR k) : OkI mX6_binomial [.ref 156, .int (iI k)] 172 (mA A) (.int (iI (opBinom σ k).1)) (MP A (opBinom σ k).2) := by
  generalize hop : opBinom σ k = R
  refine OkM.of [some (.ref 156), some (.int (iI k)), none] (by decide +kernel) rfl (Nat.le_of_ble_eq_true rfl) ?_
  intro X E F
  have hbad : ¬ (iL k) → Zc X 9 [some (.ref 156), some (.int (iI k)), none] [] 172 (mA A) 0 0 := by
    intro hv
    refine z_bipush E (by decide) dX6_binomial_9 ?_
    exact z_iret E F dX6_binomial_11 (fin hop (if_neg hv) (mp_same hM))
  refine z_iload_n E dX6_binomial_0 rfl ?_
  refine z_iconst E dX6_binomial_1 ?_
  refine z_iconst E dX6_binomial_2 ?_
  refine c_S E dX6_binomial_3 lkX6_70 (ok_inB k 0 3 (iL k) (by omega) hk (by omega) (by omega) 172 _) rfl rfl rfl (Nat.le_of_ble_eq_true rfl) ⟨(Nat.le_of_ble_eq_true rfl), (Nat.le_of_ble_eq_true rfl)⟩ ⟨rfl, rfl⟩ ⟨Nat.zero_le _, Nat.zero_le _⟩ ?_
  refine z_bif_ne (tgt := 12) E dX6_binomial_6 (by decide) (fun h6 => ?_) (fun h6 => hbad (fun v => h6 v))
  have hv : iL k := h6
  obtain ⟨k, rfl⟩ := nat_of h6.1
  have hk4 : k < 4 := by omega
  have v1 := (hM.1.2.1 k (by omega)).1
  have r1 := (hM.2.2.1 k (by omega)).1
  refine z_aload_n E dX6_binomial_12 rfl ?_
  refine z_get E dX6_binomial_13 (by rfl) flX6_50 (by rfl) ?_
  refine z_iload_n E dX6_binomial_16 rfl ?_
  refine a_zald (j := k) E dX6_binomial_17 (fun _ => rfl) (by omega) (by omega) (by omega) ?_
  rw [v1]
  refine z_if_ne (tgt := 24) E (by omega) dX6_binomial_18 (by decide) (fun h18 => ?_) (fun h18 => ?_)
  case refine_2 =>
    refine z_bipush E (by decide) dX6_binomial_21 ?_
    exact z_iret E F dX6_binomial_23 (fin hop ((if_pos hv).trans (if_pos (by show σ (8 + k) 0 = 0; omega))) (mp_same hM))
  have hres : ∀ w, lsF (bnP (vlL σ k)) 10 0 = w → opBinom σ (k : Int) = (w, σ) := fun w hw => by
    rw [← hw]; exact (if_pos hv).trans (if_neg (by show ¬ σ (8 + k) 0 = 0; omega))
  refine z_iconst E dX6_binomial_24 ?_
  refine z_istore_n (ls' := [_, _, _]) E rfl dX6_binomial_25 (Nat.le_of_ble_eq_true rfl) rfl ?_
  have loop : ∀ (q n : Nat), n + q = 10 → lsF (bnP (vlL σ k)) q n = lsF (bnP (vlL σ k)) 10 0 → ∀ (A' : Nat → Nat → Int), MI A' σ → Lo A A' → Zc X 26 [some (.ref 156), some (.int (iI (k : Int))), some (.int (iI (n : Int)))] [] 172 (mA A') 0 0 := by
    intro q
    induction q with
    | zero =>
      intro n hn hq A' m1 l1
      have e9 : (n : Int) - 1 = lsF (bnP (vlL σ k)) 10 0 := by rw [← hq]; simp only [lsF]
      refine z_iload_n E dX6_binomial_26 rfl ?_
      refine z_bipush E (by decide) dX6_binomial_27 ?_
      refine z_icmp_ge (tgt := 47) E (by omega) (by omega) dX6_binomial_29 (by decide) (fun h29 => ?_) (fun h29 => ?_)
      · refine z_iload_n E dX6_binomial_47 rfl ?_
        refine z_iconst E dX6_binomial_48 ?_
        refine z_isub E dX6_binomial_49 ?_
        exact z_iret E F dX6_binomial_50 (fin hop (hres _ e9.symm) (mp_to m1 l1))
      · omega
    | succ q ih =>
      intro n hn hq A' m1 l1
      refine z_iload_n E dX6_binomial_26 rfl ?_
      refine z_bipush E (by decide) dX6_binomial_27 ?_
      refine z_icmp_ge (tgt := 47) E (by omega) (by omega) dX6_binomial_29 (by decide) (fun h29 => ?_) (fun h29 => ?_)
      · omega
      · refine z_aload_n E dX6_binomial_32 rfl ?_
        refine z_iload_n E dX6_binomial_33 rfl ?_
        refine z_iload_n E dX6_binomial_34 rfl ?_
        refine c_VQ E dX6_binomial_35 lkX6_155 (ok_isBinomial m1 hk4 (m := n) (by omega) 172) (by rfl) rfl rfl rfl (Nat.le_of_ble_eq_true rfl) ⟨(Nat.le_of_ble_eq_true rfl), (Nat.le_of_ble_eq_true rfl)⟩ ⟨rfl, rfl⟩ ⟨Nat.zero_le _, Nat.zero_le _⟩ (fun g1 hg1 => ?_)
        obtain ⟨R2, rfl⟩ := hg1
        have m2 : MI (va_up A' 162 R2) σ := m1.ups (by omega)
        have l2 : Lo A (va_up A' 162 R2) := lo_tr l1 (lo_up (by omega))
        refine z_bif_eq (tgt := 47) E dX6_binomial_38 (by decide) (fun h38 => ?_) (fun h38 => ?_)
        · refine z_iload_n E dX6_binomial_47 rfl ?_
          refine z_iconst E dX6_binomial_48 ?_
          refine z_isub E dX6_binomial_49 ?_
          exact z_iret E F dX6_binomial_50 (fin hop (hres _ (by rw [← hq, lsF_f (fun hw => h38 ((M_bin (by omega)).1 hw))])) (mp_to m2 l2))
        · refine z_iinc (ls' := [_, _, _]) E dX6_binomial_41 rfl rfl ?_
          refine z_goto (tgt := 26) E dX6_binomial_44 (by decide) ?_
          rw [ei]
          exact ih (n + 1) (by omega) (by rw [← hq, lsF_t ((M_bin (by omega)).2 h38)]) _ m2 l2
  exact loop 10 0 (by omega) rfl _ hM (fun _ _ => rfl)
