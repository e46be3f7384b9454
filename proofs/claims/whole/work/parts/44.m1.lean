/-! the reference's calls: sheets -/
theorem sr_eq {σ : St} {u : Nat} {f g : Nat → Int} (h : ∀ j, j < 10 → f j = g j) : (f 9, setSr σ u f) = (g 9, setSr σ u g) := by
  rw [setSr_congr h, h 9 (by omega)]
set_option maxRecDepth 100000 in
theorem m_sheet {A : Nat → Nat → Int} {σ : St} (hM : MI A σ) (s fo n : Int) (hs : inR s) (hf : inR fo) (hn : inR n) : OkI mX6_sheet [.ref 156, .int (iI s), .int (iI fo), .int (iI n)] 172 (mA A) (.int (iI (opSheet σ s fo n).1)) (MP A (opSheet σ s fo n).2) := by
  generalize hop : opSheet σ s fo n = R
  refine OkM.of [some (.ref 156), some (.int (iI s)), some (.int (iI fo)), some (.int (iI n)), none] (by decide +kernel) rfl (Nat.le_of_ble_eq_true rfl) ?_
  intro X E F
  have hbad : ¬ (iS s ∧ iF fo ∧ n ≤ 20) → Zc X 22 [some (.ref 156), some (.int (iI s)), some (.int (iI fo)), some (.int (iI n)), none] [] 172 (mA A) 0 0 := by
    intro hv
    refine z_bipush E (by decide) dX6_sheet_22 ?_
    exact z_iret E F dX6_sheet_24 (fin hop (if_neg hv) (mp_same hM))
  refine z_iload_n E dX6_sheet_0 rfl ?_
  refine c_S E dX6_sheet_1 lkX6_74 (ok_isSheet6 s hs 172 _) rfl rfl rfl (Nat.le_of_ble_eq_true rfl) ⟨(Nat.le_of_ble_eq_true rfl), (Nat.le_of_ble_eq_true rfl)⟩ ⟨rfl, rfl⟩ ⟨Nat.zero_le _, Nat.zero_le _⟩ ?_
  refine z_bif_eq (tgt := 22) E dX6_sheet_4 (by decide) (fun h4 => hbad (fun v => h4 v.1)) (fun h4 => ?_)
  refine z_iload_n E dX6_sheet_7 rfl ?_
  refine z_iconst E dX6_sheet_8 ?_
  refine z_iconst E dX6_sheet_9 ?_
  refine c_S E dX6_sheet_10 lkX6_70 (ok_inB fo 0 2 (iF fo) (by omega) hf (by omega) (by omega) 172 _) rfl rfl rfl (Nat.le_of_ble_eq_true rfl) ⟨(Nat.le_of_ble_eq_true rfl), (Nat.le_of_ble_eq_true rfl)⟩ ⟨rfl, rfl⟩ ⟨Nat.zero_le _, Nat.zero_le _⟩ ?_
  refine z_bif_eq (tgt := 22) E dX6_sheet_13 (by decide) (fun h13 => hbad (fun v => h13 v.2.1)) (fun h13 => ?_)
  refine z_iload_n E dX6_sheet_16 rfl ?_
  refine z_bipush E (by decide) dX6_sheet_17 ?_
  refine z_icmp_le (tgt := 25) E (by omega) (by omega) dX6_sheet_19 (by decide) (fun h19 => ?_) (fun h19 => ?_)
  · have hv : iS s ∧ iF fo ∧ n ≤ 20 := ⟨h4, h13, h19⟩
    obtain ⟨s, rfl⟩ := nat_of h4.1
    have hs8 : s < 8 := by omega
    refine z_iload_n E dX6_sheet_25 rfl ?_
    refine z_if_ge (tgt := 35) E (by omega) dX6_sheet_26 (by decide) (fun h26 => ?_) (fun h26 => ?_)
    · refine z_aload_n E dX6_sheet_35 rfl ?_
      refine z_get E dX6_sheet_36 (by rfl) flX6_7 (by rfl) ?_
      refine z_iload_n E dX6_sheet_39 rfl ?_
      refine z_iconst E dX6_sheet_40 ?_
      refine a_zast (j := s) E dX6_sheet_41 (by omega) (fun _ => rfl) (by omega) (by omega) (by omega) ?_
      refine z_aload_n E dX6_sheet_42 rfl ?_
      refine z_get E dX6_sheet_43 (by rfl) flX6_13 (by rfl) ?_
      refine z_iload_n E dX6_sheet_46 rfl ?_
      refine z_iload_n E dX6_sheet_47 rfl ?_
      refine a_iast (j := s) E dX6_sheet_48 (fun _ => rfl) (by omega) (by omega) (by omega) ?_
      refine z_aload_n E dX6_sheet_49 rfl ?_
      refine z_get E dX6_sheet_50 (by rfl) flX6_17 (by rfl) ?_
      refine z_iload_n E dX6_sheet_53 rfl ?_
      refine z_iload_n E dX6_sheet_54 rfl ?_
      refine a_iast (j := s) E dX6_sheet_55 (fun _ => rfl) (by omega) (by omega) (by omega) ?_
      refine z_iconst E dX6_sheet_56 ?_
      refine z_istore (ls' := [_, _, _, _, _]) E dX6_sheet_57 (Nat.le_of_ble_eq_true rfl) rfl ?_
      rw [va_up_ne (j := 158) (k := 157) _ _ (by omega), va_up_ne (j := 159) (k := 158) _ _ (by omega), va_up_ne (j := 159) (k := 157) _ _ (by omega)]
      generalize hB : va_up (va_up (va_up A 157 (up (A 157) s 1)) 158 (up (A 158) s fo)) 159 (up (A 159) s n) = B
      have b1 : ∀ k, k ≠ 157 → k ≠ 158 → k ≠ 159 → B k = A k := fun k h1 h2 h3 => by rw [← hB, va_up_ne _ _ h3, va_up_ne _ _ h2, va_up_ne _ _ h1]
      have b7 : B 157 = up (A 157) s 1 := by rw [← hB, va_up_ne _ _ (by omega), va_up_ne _ _ (by omega), va_up_self]
      have b8 : B 158 = up (A 158) s fo := by rw [← hB, va_up_ne _ _ (by omega), va_up_self]
      have b9 : B 159 = up (A 159) s n := by rw [← hB, va_up_self]
      have loop : ∀ (m i : Nat), i + m = 20 → ∀ A' : Nat → Nat → Int, A' = va_up B 160 (fun q => if 20 * s ≤ q ∧ q < 20 * s + i then 0 else A 160 q) → Zc X 59 [some (.ref 156), some (.int (iI (s : Int))), some (.int (iI fo)), some (.int (iI n)), some (.int (iI (i : Int)))] [] 172 (mA A') 0 0 := by
        intro m
        induction m with
        | zero =>
          intro i hi A' hA
          have e0 : ∀ k, k ≠ 160 → A' k = B k := fun k hk => by rw [hA, va_up_ne _ _ hk]
          refine z_iload E dX6_sheet_59 rfl ?_
          refine z_bipush E (by decide) dX6_sheet_61 ?_
          refine z_icmp_ge (tgt := 85) E (by omega) (by omega) dX6_sheet_63 (by decide) (fun h63 => ?_) (fun h63 => ?_)
          · refine z_iload_n E dX6_sheet_85 rfl ?_
            refine z_iret E F dX6_sheet_86 (fin hop ((if_pos hv).trans (if_neg (by omega))) (mp_to ?_ ?_))
            · refine hM.shs hs8 (by omega) (by omega) (fun j hj => by omega) (fun k hk => ?_) ?_ ?_ ?_ (fun t j ht hj => ?_)
              · rw [e0 k (by omega)]; exact b1 k (by omega) (by omega) (by omega)
              · rw [e0 157 (by omega)]; exact b7
              · rw [e0 158 (by omega)]; exact b8
              · rw [e0 159 (by omega)]; exact b9
              · rw [hA, va_up_self]
                by_cases et : t = s
                · subst et
                  rw [if_pos (by omega), if_pos rfl]
                · rw [if_neg (by omega), if_neg et]
            · intro k hk; rw [e0 k (by omega)]; exact b1 k (by omega) (by omega) (by omega)
          · omega
        | succ m ih =>
          intro i hi A' hA
          have key : va_up A' 160 (up (A' 160) (20 * s + i) 0) = va_up B 160 (fun q => if 20 * s ≤ q ∧ q < 20 * s + (i + 1) then 0 else A 160 q) := by
            rw [hA, va_uu, va_up_self]
            refine congrArg (va_up B 160) (funext fun q => ?_)
            by_cases e1 : q = 20 * s + i
            · subst e1; rw [up_eq, if_pos (by omega)]
            · rw [up_ne _ _ e1]
              by_cases e2 : 20 * s ≤ q ∧ q < 20 * s + i
              · rw [if_pos e2, if_pos (by omega)]
              · rw [if_neg e2, if_neg (by omega)]
          refine z_iload E dX6_sheet_59 rfl ?_
          refine z_bipush E (by decide) dX6_sheet_61 ?_
          refine z_icmp_ge (tgt := 85) E (by omega) (by omega) dX6_sheet_63 (by decide) (fun h63 => ?_) (fun h63 => ?_)
          · omega
          · refine z_aload_n E dX6_sheet_66 rfl ?_
            refine z_get E dX6_sheet_67 (by rfl) flX6_20 (by rfl) ?_
            refine z_bipush E (by decide) dX6_sheet_70 ?_
            refine z_iload_n E dX6_sheet_72 rfl ?_
            refine z_imul E dX6_sheet_73 ?_
            refine z_iload E dX6_sheet_74 rfl ?_
            refine z_iadd E dX6_sheet_76 ?_
            refine z_iconst E dX6_sheet_77 ?_
            refine a_iast (j := 20 * s + i) E dX6_sheet_78 (fun _ => rfl) (by omega) (by omega) (by omega) ?_
            refine z_iinc (ls' := [_, _, _, _, _]) E dX6_sheet_79 rfl rfl ?_
            refine z_goto (tgt := 59) E dX6_sheet_82 (by decide) ?_
            rw [ei]
            exact ih (i + 1) (by omega) _ key
      refine z_mem ?_ (loop 20 0 (by omega) _ rfl)
      refine (row_id (A := B) (k := 160) c160 (fun q hq => ?_)).symm
      rw [if_neg (by omega), b1 160 (by omega) (by omega) (by omega)]
    · refine z_aload_n E dX6_sheet_29 rfl ?_
      refine z_iconst E dX6_sheet_30 ?_
      refine c_VQ E dX6_sheet_31 lkX6_78 (ok_meets hM 5 (by omega) 172) (by rfl) rfl rfl rfl (Nat.le_of_ble_eq_true rfl) ⟨(Nat.le_of_ble_eq_true rfl), (Nat.le_of_ble_eq_true rfl)⟩ ⟨rfl, rfl⟩ ⟨Nat.zero_le _, Nat.zero_le _⟩ (fun g1 hg1 => ?_)
      exact z_iret E F dX6_sheet_34 (fin hop ((if_pos hv).trans (if_pos h26)) hg1)
  · exact hbad (fun v => by omega)
theorem MI.los {A : Nat → Nat → Int} {σ : St} (h : MI A σ) {s : Nat} (hs : s < 8) : MI (va_up A 157 (up (A 157) s 0)) (va_up σ s (up (σ s) 0 0)) := by
  obtain ⟨hV, hS⟩ := h
  have e : ∀ k, k ≠ 157 → va_up A 157 (up (A 157) s 0) k = A k := fun k hk => va_up_ne _ _ hk
  have e2 : ∀ t, t ≠ s → va_up σ s (up (σ s) 0 0) t = σ t := fun t ht => va_up_ne _ _ ht
  refine ⟨⟨fun t ht => ?_, fun k hk => ?_, ?_⟩, ⟨fun t ht => ?_, fun k hk => ?_, ?_⟩⟩
  · rw [e 158 (by omega), e 159 (by omega), e 160 (by omega), va_up_self]
    by_cases et : t = s
    · subst et
      rw [va_up_self, up_eq, up_eq, up_ne _ _ (by omega), up_ne _ _ (by omega)]
      obtain ⟨v1, v2, v3, v4⟩ := hV.1 t ht
      exact ⟨rfl, v2, v3, fun j hj => by rw [up_ne _ _ (by omega)]; exact v4 j hj⟩
    · rw [up_ne _ _ et, e2 t et]; exact hV.1 t ht
  · rw [e 170 (by omega), e 171 (by omega), e2 (8 + k) (by omega)]; exact hV.2.1 k hk
  · rw [e 156 (by omega), e2 12 (by omega)]; exact hV.2.2
  · by_cases et : t = s
    · subst et
      obtain ⟨r1, r2, r3, r4⟩ := hS.1 t ht
      rw [va_up_self, up_eq, up_ne _ _ (by omega), up_ne _ _ (by omega)]
      exact ⟨Or.inl rfl, r2, r3, fun j hj => by rw [up_ne _ _ (by omega)]; exact r4 j hj⟩
    · rw [e2 t et]; exact hS.1 t ht
  · rw [e2 (8 + k) (by omega)]; exact hS.2.1 k hk
  · rw [e2 12 (by omega)]; exact hS.2.2
set_option maxRecDepth 100000 in
theorem m_lose {A : Nat → Nat → Int} {σ : St} (hM : MI A σ) (s : Int) (hs : inR s) : OkI mX6_lose [.ref 156, .int (iI s)] 172 (mA A) (.int (iI (opLose σ s).1)) (MP A (opLose σ s).2) := by
  generalize hop : opLose σ s = R
  refine OkM.of [some (.ref 156), some (.int (iI s))] (by decide +kernel) rfl (Nat.le_of_ble_eq_true rfl) ?_
  intro X E F
  have hbad : ¬ (iS s) → Zc X 7 [some (.ref 156), some (.int (iI s))] [] 172 (mA A) 0 0 := by
    intro hv
    refine z_bipush E (by decide) dX6_lose_7 ?_
    exact z_iret E F dX6_lose_9 (fin hop (if_neg hv) (mp_same hM))
  refine z_iload_n E dX6_lose_0 rfl ?_
  refine c_S E dX6_lose_1 lkX6_74 (ok_isSheet6 s hs 172 _) rfl rfl rfl (Nat.le_of_ble_eq_true rfl) ⟨(Nat.le_of_ble_eq_true rfl), (Nat.le_of_ble_eq_true rfl)⟩ ⟨rfl, rfl⟩ ⟨Nat.zero_le _, Nat.zero_le _⟩ ?_
  refine z_bif_ne (tgt := 10) E dX6_lose_4 (by decide) (fun h4 => ?_) (fun h4 => hbad (fun v => h4 v))
  have hv : iS s := h4
  obtain ⟨s, rfl⟩ := nat_of h4.1
  have hs8 : s < 8 := by omega
  obtain ⟨v1, v2, v3, v4⟩ := hM.1.1 s hs8
  obtain ⟨r1, r2, r3, r4⟩ := hM.2.1 s hs8
  refine z_aload_n E dX6_lose_10 rfl ?_
  refine z_get E dX6_lose_11 (by rfl) flX6_7 (by rfl) ?_
  refine z_iload_n E dX6_lose_14 rfl ?_
  refine a_zald (j := s) E dX6_lose_15 (fun _ => rfl) (by omega) (by omega) (by omega) ?_
  rw [v1]
  refine z_if_ne (tgt := 25) E (by omega) dX6_lose_16 (by decide) (fun h16 => ?_) (fun h16 => ?_)
  · refine z_aload_n E dX6_lose_25 rfl ?_
    refine z_get E dX6_lose_26 (by rfl) flX6_7 (by rfl) ?_
    refine z_iload_n E dX6_lose_29 rfl ?_
    refine z_iconst E dX6_lose_30 ?_
    refine a_zast (j := s) E dX6_lose_31 (by omega) (fun _ => rfl) (by omega) (by omega) (by omega) ?_
    refine z_aload_n E dX6_lose_32 rfl ?_
    refine z_get E dX6_lose_33 (by rfl) flX6_17 (by rfl) ?_
    refine z_iload_n E dX6_lose_36 rfl ?_
    refine a_iald (j := s) E dX6_lose_37 (fun _ => rfl) (by omega) (by omega) (by omega) ?_
    rw [va_up_ne (j := 159) (k := 157) _ _ (by omega), v3]
    exact z_iret E F dX6_lose_38 (fin hop ((if_pos hv).trans (if_neg (by show ¬ σ s 0 = 0; omega))) (mp_to (hM.los hs8) (lo_up (by omega))))
  · refine z_aload_n E dX6_lose_19 rfl ?_
    refine z_iconst E dX6_lose_20 ?_
    refine c_VQ E dX6_lose_21 lkX6_78 (ok_meets hM 1 (by omega) 172) (by rfl) rfl rfl rfl (Nat.le_of_ble_eq_true rfl) ⟨(Nat.le_of_ble_eq_true rfl), (Nat.le_of_ble_eq_true rfl)⟩ ⟨rfl, rfl⟩ ⟨Nat.zero_le _, Nat.zero_le _⟩ (fun g1 hg1 => ?_)
    exact z_iret E F dX6_lose_24 (fin hop ((if_pos hv).trans (if_pos (by show σ s 0 = 0; omega))) hg1)
/-- items of one SHEET written anew -/
theorem MI.its {A : Nat → Nat → Int} {σ : St} (h : MI A σ) {s : Nat} (hs : s < 8) {R T : Nat → Int} (r1 : ∀ i, i < 3 → T i = σ s i) (r2 : ∀ j, j < 20 → inR (T (3 + j))) (e1 : ∀ t j, t < 8 → j < 20 → R (20 * t + j) = if t = s then T (3 + j) else A 160 (20 * t + j)) : MI (va_up A 160 R) (va_up σ s T) := by
  obtain ⟨hV, hS⟩ := h
  have e : ∀ k, k ≠ 160 → va_up A 160 R k = A k := fun k hk => va_up_ne _ _ hk
  have e2 : ∀ t, t ≠ s → va_up σ s T t = σ t := fun t ht => va_up_ne _ _ ht
  refine ⟨⟨fun t ht => ?_, fun k hk => ?_, ?_⟩, ⟨fun t ht => ?_, fun k hk => ?_, ?_⟩⟩
  · rw [e 157 (by omega), e 158 (by omega), e 159 (by omega), va_up_self]
    obtain ⟨v1, v2, v3, v4⟩ := hV.1 t ht
    by_cases et : t = s
    · subst et
      rw [va_up_self, r1 0 (by omega), r1 1 (by omega), r1 2 (by omega)]
      exact ⟨v1, v2, v3, fun j hj => by rw [e1 t j ht hj, if_pos rfl]⟩
    · rw [e2 t et]
      exact ⟨v1, v2, v3, fun j hj => by rw [e1 t j ht hj, if_neg et]; exact v4 j hj⟩
  · rw [e 170 (by omega), e 171 (by omega), e2 (8 + k) (by omega)]; exact hV.2.1 k hk
  · rw [e 156 (by omega), e2 12 (by omega)]; exact hV.2.2
  · by_cases et : t = s
    · subst et
      obtain ⟨q1, q2, q3, q4⟩ := hS.1 t ht
      rw [va_up_self, r1 0 (by omega), r1 1 (by omega), r1 2 (by omega)]
      exact ⟨q1, q2, q3, r2⟩
    · rw [e2 t et]; exact hS.1 t ht
  · rw [e2 (8 + k) (by omega)]; exact hS.2.1 k hk
  · rw [e2 12 (by omega)]; exact hS.2.2
theorem MI.itm {A : Nat → Nat → Int} {σ : St} (h : MI A σ) {s i : Nat} {v : Int} (hs : s < 8) (hi : i < 20) (hv : inR v) : MI (va_up A 160 (up (A 160) (20 * s + i) v)) (va_up σ s (up (σ s) (3 + i) v)) := by
  refine h.its hs (fun j hj => up_ne _ _ (by omega)) (fun j hj => ?_) (fun t j ht hj => ?_)
  · by_cases ej : j = i
    · subst ej; rw [up_eq]; exact hv
    · rw [up_ne _ _ (by omega)]; exact (h.2.1 s hs).2.2.2 j hj
  · by_cases et : t = s
    · subst et
      rw [if_pos rfl]
      by_cases ej : j = i
      · subst ej; rw [up_eq, up_eq]
      · rw [up_ne _ _ (by omega), up_ne _ _ (by omega)]; exact (h.1.1 t ht).2.2.2 j hj
    · rw [if_neg et, up_ne _ _ (by omega)]
set_option maxRecDepth 100000 in
theorem m_put {A : Nat → Nat → Int} {σ : St} (hM : MI A σ) (s fo i v : Int) (hs : inR s) (hf : inR fo) (hi : inR i) (hvv : inR v) : OkI mX6_put [.ref 156, .int (iI s), .int (iI fo), .int (iI i), .int (iI v)] 172 (mA A) (.int (iI (opPut σ s fo i v).1)) (MP A (opPut σ s fo i v).2) := by
  generalize hop : opPut σ s fo i v = R
  refine OkM.of [some (.ref 156), some (.int (iI s)), some (.int (iI fo)), some (.int (iI i)), some (.int (iI v)), none] (by decide +kernel) rfl (Nat.le_of_ble_eq_true rfl) ?_
  intro X E F
  have hbad : ¬ (iS s ∧ iF fo) → Zc X 16 [some (.ref 156), some (.int (iI s)), some (.int (iI fo)), some (.int (iI i)), some (.int (iI v)), none] [] 172 (mA A) 0 0 := by
    intro hv
    refine z_bipush E (by decide) dX6_put_16 ?_
    exact z_iret E F dX6_put_18 (fin hop (if_neg hv) (mp_same hM))
  refine z_iload_n E dX6_put_0 rfl ?_
  refine c_S E dX6_put_1 lkX6_74 (ok_isSheet6 s hs 172 _) rfl rfl rfl (Nat.le_of_ble_eq_true rfl) ⟨(Nat.le_of_ble_eq_true rfl), (Nat.le_of_ble_eq_true rfl)⟩ ⟨rfl, rfl⟩ ⟨Nat.zero_le _, Nat.zero_le _⟩ ?_
  refine z_bif_eq (tgt := 16) E dX6_put_4 (by decide) (fun h4 => hbad (fun v => h4 v.1)) (fun h4 => ?_)
  refine z_iload_n E dX6_put_7 rfl ?_
  refine z_iconst E dX6_put_8 ?_
  refine z_iconst E dX6_put_9 ?_
  refine c_S E dX6_put_10 lkX6_70 (ok_inB fo 0 2 (iF fo) (by omega) hf (by omega) (by omega) 172 _) rfl rfl rfl (Nat.le_of_ble_eq_true rfl) ⟨(Nat.le_of_ble_eq_true rfl), (Nat.le_of_ble_eq_true rfl)⟩ ⟨rfl, rfl⟩ ⟨Nat.zero_le _, Nat.zero_le _⟩ ?_
  refine z_bif_ne (tgt := 19) E dX6_put_13 (by decide) (fun h13 => ?_) (fun h13 => hbad (fun v => h13 v.2))
  have hv : iS s ∧ iF fo := ⟨h4, h13⟩
  obtain ⟨s, rfl⟩ := nat_of h4.1
  have hs8 : s < 8 := by omega
  have hl := lkS_in σ s fo i
  have hl0 : 0 ≤ lkS σ s fo i := by unfold lkS; split <;> (try split) <;> (try split) <;> omega
  refine z_aload_n E dX6_put_19 rfl ?_
  refine z_iload_n E dX6_put_20 rfl ?_
  refine z_iload_n E dX6_put_21 rfl ?_
  refine z_iload_n E dX6_put_22 rfl ?_
  refine c_V E dX6_put_23 lkX6_82 (ok_lacks hM hs8 fo i hf hi 172) (by rfl) rfl rfl rfl (Nat.le_of_ble_eq_true rfl) ⟨(Nat.le_of_ble_eq_true rfl), (Nat.le_of_ble_eq_true rfl)⟩ ⟨rfl, rfl⟩ ⟨Nat.zero_le _, Nat.zero_le _⟩ ?_
  refine z_istore (ls' := [_, _, _, _, _, _]) E dX6_put_26 (Nat.le_of_ble_eq_true rfl) rfl ?_
  refine z_iload E dX6_put_28 rfl ?_
  refine z_if_le (tgt := 40) E (by omega) dX6_put_30 (by decide) (fun h30 => ?_) (fun h30 => ?_)
  · have h32 : lkS σ s fo i = 0 := by omega
    obtain ⟨q1, q2, q3, q4⟩ := lkS_0 h32
    have r3 := (hM.2.1 s hs8).2.2.1
    obtain ⟨i, rfl⟩ := nat_of q3
    have key : ∀ w : Int, w = nar fo v → Zc X 73 [some (.ref 156), some (.int (iI (s : Int))), some (.int (iI fo)), some (.int (iI (i : Int))), some (.int (iI v)), some (.int (iI (lkS σ s fo (i : Int))))] [.int (iI w), .int (iI (20 * (s : Int) + (i : Int))), .ref 160] 172 (mA A) 0 0 := by
      intro w hw
      refine a_iast (j := 20 * s + i) E dX6_put_73 (fun _ => rfl) (by omega) (by omega) (by omega) ?_
      refine z_iconst E dX6_put_74 ?_
      rw [hw]
      exact z_iret E F dX6_put_75 (fin hop ((if_pos hv).trans (if_pos h32)) (mp_to (hM.itm hs8 (by omega) (nar_in hvv)) (lo_up (by omega))))
    refine z_aload_n E dX6_put_40 rfl ?_
    refine z_get E dX6_put_41 (by rfl) flX6_20 (by rfl) ?_
    refine z_bipush E (by decide) dX6_put_44 ?_
    refine z_iload_n E dX6_put_46 rfl ?_
    refine z_imul E dX6_put_47 ?_
    refine z_iload_n E dX6_put_48 rfl ?_
    refine z_iadd E dX6_put_49 ?_
    refine z_iload_n E dX6_put_50 rfl ?_
    refine z_if_ne (tgt := 60) E (by omega) dX6_put_51 (by decide) (fun h51 => ?_) (fun h51 => ?_)
    · refine z_iload_n E dX6_put_60 rfl ?_
      refine z_iconst E dX6_put_61 ?_
      refine z_icmp_ne (tgt := 71) E (by omega) (by omega) dX6_put_62 (by decide) (fun h62 => ?_) (fun h62 => ?_)
      · refine z_iload E dX6_put_71 rfl ?_
        exact key _ (by unfold nar; rw [if_neg h51, if_neg h62])
      · refine z_iload E dX6_put_65 rfl ?_
        refine z_i2s E dX6_put_67 ?_
        refine z_goto (tgt := 73) E dX6_put_68 (by decide) ?_
        exact key _ (by unfold nar; rw [if_neg h51, if_pos h62])
    · refine z_iload E dX6_put_54 rfl ?_
      refine z_i2b E dX6_put_56 ?_
      refine z_goto (tgt := 73) E dX6_put_57 (by decide) ?_
      exact key _ (by unfold nar; rw [if_pos h51])
  · refine z_aload_n E dX6_put_33 rfl ?_
    refine z_iload E dX6_put_34 rfl ?_
    refine c_VQ E dX6_put_36 lkX6_78 (ok_meets hM _ hl 172) (by rfl) rfl rfl rfl (Nat.le_of_ble_eq_true rfl) ⟨(Nat.le_of_ble_eq_true rfl), (Nat.le_of_ble_eq_true rfl)⟩ ⟨rfl, rfl⟩ ⟨Nat.zero_le _, Nat.zero_le _⟩ (fun g1 hg1 => ?_)
    exact z_iret E F dX6_put_39 (fin hop ((if_pos hv).trans (if_neg (by show ¬ lkS σ s fo i = 0; omega))) hg1)
set_option maxRecDepth 100000 in
theorem m_get {A : Nat → Nat → Int} {σ : St} (hM : MI A σ) (s fo i : Int) (hs : inR s) (hf : inR fo) (hi : inR i) : OkI mX6_get [.ref 156, .int (iI s), .int (iI fo), .int (iI i)] 172 (mA A) (.int (iI (opGet σ s fo i).1)) (MP A (opGet σ s fo i).2) := by
  generalize hop : opGet σ s fo i = R
  refine OkM.of [some (.ref 156), some (.int (iI s)), some (.int (iI fo)), some (.int (iI i)), none] (by decide +kernel) rfl (Nat.le_of_ble_eq_true rfl) ?_
  intro X E F
  have hbad : ¬ (iS s ∧ iF fo) → Zc X 16 [some (.ref 156), some (.int (iI s)), some (.int (iI fo)), some (.int (iI i)), none] [] 172 (mA A) 0 0 := by
    intro hv
    refine z_ldc (z := -2147483648) E ctX6_86 (by decide) dX6_get_16 ?_
    exact z_iret E F dX6_get_18 (fin hop (if_neg hv) (mp_same hM))
  refine z_iload_n E dX6_get_0 rfl ?_
  refine c_S E dX6_get_1 lkX6_74 (ok_isSheet6 s hs 172 _) rfl rfl rfl (Nat.le_of_ble_eq_true rfl) ⟨(Nat.le_of_ble_eq_true rfl), (Nat.le_of_ble_eq_true rfl)⟩ ⟨rfl, rfl⟩ ⟨Nat.zero_le _, Nat.zero_le _⟩ ?_
  refine z_bif_eq (tgt := 16) E dX6_get_4 (by decide) (fun h4 => hbad (fun v => h4 v.1)) (fun h4 => ?_)
  refine z_iload_n E dX6_get_7 rfl ?_
  refine z_iconst E dX6_get_8 ?_
  refine z_iconst E dX6_get_9 ?_
  refine c_S E dX6_get_10 lkX6_70 (ok_inB fo 0 2 (iF fo) (by omega) hf (by omega) (by omega) 172 _) rfl rfl rfl (Nat.le_of_ble_eq_true rfl) ⟨(Nat.le_of_ble_eq_true rfl), (Nat.le_of_ble_eq_true rfl)⟩ ⟨rfl, rfl⟩ ⟨Nat.zero_le _, Nat.zero_le _⟩ ?_
  refine z_bif_ne (tgt := 19) E dX6_get_13 (by decide) (fun h13 => ?_) (fun h13 => hbad (fun v => h13 v.2))
  have hv : iS s ∧ iF fo := ⟨h4, h13⟩
  obtain ⟨s, rfl⟩ := nat_of h4.1
  have hs8 : s < 8 := by omega
  have hl := lkS_in σ s fo i
  have hl0 : 0 ≤ lkS σ s fo i := by unfold lkS; split <;> (try split) <;> (try split) <;> omega
  refine z_aload_n E dX6_get_19 rfl ?_
  refine z_iload_n E dX6_get_20 rfl ?_
  refine z_iload_n E dX6_get_21 rfl ?_
  refine z_iload_n E dX6_get_22 rfl ?_
  refine c_V E dX6_get_23 lkX6_82 (ok_lacks hM hs8 fo i hf hi 172) (by rfl) rfl rfl rfl (Nat.le_of_ble_eq_true rfl) ⟨(Nat.le_of_ble_eq_true rfl), (Nat.le_of_ble_eq_true rfl)⟩ ⟨rfl, rfl⟩ ⟨Nat.zero_le _, Nat.zero_le _⟩ ?_
  refine z_istore (ls' := [_, _, _, _, _]) E dX6_get_26 (Nat.le_of_ble_eq_true rfl) rfl ?_
  refine z_iload E dX6_get_28 rfl ?_
  refine z_if_le (tgt := 42) E (by omega) dX6_get_30 (by decide) (fun h30 => ?_) (fun h30 => ?_)
  · have h32 : lkS σ s fo i = 0 := by omega
    obtain ⟨q1, q2, q3, q4⟩ := lkS_0 h32
    have r3 := (hM.2.1 s hs8).2.2.1
    obtain ⟨i, rfl⟩ := nat_of q3
    refine z_aload_n E dX6_get_42 rfl ?_
    refine z_get E dX6_get_43 (by rfl) flX6_20 (by rfl) ?_
    refine z_bipush E (by decide) dX6_get_46 ?_
    refine z_iload_n E dX6_get_48 rfl ?_
    refine z_imul E dX6_get_49 ?_
    refine z_iload_n E dX6_get_50 rfl ?_
    refine z_iadd E dX6_get_51 ?_
    refine a_iald (j := 20 * s + i) E dX6_get_52 (fun _ => rfl) (by omega) (by omega) (by omega) ?_
    rw [(hM.1.1 s hs8).2.2.2 i (by omega)]
    exact z_iret E F dX6_get_53 (fin hop ((if_pos hv).trans (if_pos h32)) (mp_same hM))
  · refine z_aload_n E dX6_get_33 rfl ?_
    refine z_iload E dX6_get_34 rfl ?_
    refine a_put E dX6_get_36 fpX6_66 rfl rfl ?_
    refine z_ldc (z := -2147483648) E ctX6_86 (by decide) dX6_get_39 ?_
    exact z_iret E F dX6_get_41 (fin hop ((if_pos hv).trans (if_neg (by show ¬ lkS σ s fo i = 0; omega))) (mp_to (hM.fin hl) (lo_up (by omega))))
set_option maxRecDepth 100000 in
theorem m_term {A : Nat → Nat → Int} {σ : St} (hM : MI A σ) (s i : Int) (hs : inR s) (hi : inR i) : OkI mX6_term [.ref 156, .int (iI s), .int (iI i)] 172 (mA A) (.int (iI (opTerm σ s i).1)) (MP A (opTerm σ s i).2) := by
  generalize hop : opTerm σ s i = R
  refine OkM.of [some (.ref 156), some (.int (iI s)), some (.int (iI i))] (by decide +kernel) rfl (Nat.le_of_ble_eq_true rfl) ?_
  intro X E F
  have hbad : ¬ (iS s ∧ iP i) → Zc X 17 [some (.ref 156), some (.int (iI s)), some (.int (iI i))] [] 172 (mA A) 0 0 := by
    intro hv
    refine z_bipush E (by decide) dX6_term_17 ?_
    exact z_iret E F dX6_term_19 (fin hop (if_neg hv) (mp_same hM))
  refine z_iload_n E dX6_term_0 rfl ?_
  refine c_S E dX6_term_1 lkX6_74 (ok_isSheet6 s hs 172 _) rfl rfl rfl (Nat.le_of_ble_eq_true rfl) ⟨(Nat.le_of_ble_eq_true rfl), (Nat.le_of_ble_eq_true rfl)⟩ ⟨rfl, rfl⟩ ⟨Nat.zero_le _, Nat.zero_le _⟩ ?_
  refine z_bif_eq (tgt := 17) E dX6_term_4 (by decide) (fun h4 => hbad (fun v => h4 v.1)) (fun h4 => ?_)
  refine z_iload_n E dX6_term_7 rfl ?_
  refine z_iconst E dX6_term_8 ?_
  refine z_bipush E (by decide) dX6_term_9 ?_
  refine c_S E dX6_term_11 lkX6_70 (ok_inB i 0 9 (iP i) (by omega) hi (by omega) (by omega) 172 _) rfl rfl rfl (Nat.le_of_ble_eq_true rfl) ⟨(Nat.le_of_ble_eq_true rfl), (Nat.le_of_ble_eq_true rfl)⟩ ⟨rfl, rfl⟩ ⟨Nat.zero_le _, Nat.zero_le _⟩ ?_
  refine z_bif_ne (tgt := 20) E dX6_term_14 (by decide) (fun h14 => ?_) (fun h14 => hbad (fun v => h14 v.2))
  have hv : iS s ∧ iP i := ⟨h4, h14⟩
  obtain ⟨s, rfl⟩ := nat_of h4.1
  obtain ⟨i, rfl⟩ := nat_of h14.1
  have hs8 : s < 8 := by omega
  have v1 := (hM.1.1 s hs8).1
  have r1 := (hM.2.1 s hs8).1
  refine z_aload_n E dX6_term_20 rfl ?_
  refine z_get E dX6_term_21 (by rfl) flX6_7 (by rfl) ?_
  refine z_iload_n E dX6_term_24 rfl ?_
  refine a_zald (j := s) E dX6_term_25 (fun _ => rfl) (by omega) (by omega) (by omega) ?_
  rw [v1]
  refine z_if_ne (tgt := 35) E (by omega) dX6_term_26 (by decide) (fun h26 => ?_) (fun h26 => ?_)
  · refine z_aload_n E dX6_term_35 rfl ?_
    refine z_iload_n E dX6_term_36 rfl ?_
    refine z_aload_n E dX6_term_37 rfl ?_
    refine z_get E dX6_term_38 (by rfl) flX6_26 (by rfl) ?_
    refine c_V0 E dX6_term_41 lkX6_105 (ok_read hM hs8 t162 172) (by rfl) rfl rfl rfl (Nat.le_of_ble_eq_true rfl) ⟨(Nat.le_of_ble_eq_true rfl), (Nat.le_of_ble_eq_true rfl)⟩ ⟨rfl, rfl⟩ ⟨Nat.zero_le _, Nat.zero_le _⟩ ?_
    refine z_aload_n E dX6_term_44 rfl ?_
    refine z_get E dX6_term_45 (by rfl) flX6_26 (by rfl) ?_
    refine z_iload_n E dX6_term_48 rfl ?_
    refine a_iald (j := i) E dX6_term_49 (cel_ten t162) (by omega) (by omega) (by omega) ?_
    rw [va_up_self]
    exact z_iret E F dX6_term_50 (fin hop ((if_pos hv).trans (if_neg (by show ¬ σ s 0 = 0; omega))) (mp_to (hM.ups (by omega)) (lo_up (by omega))))
  · refine z_aload_n E dX6_term_29 rfl ?_
    refine z_iconst E dX6_term_30 ?_
    refine c_VQ E dX6_term_31 lkX6_78 (ok_meets hM 1 (by omega) 172) (by rfl) rfl rfl rfl (Nat.le_of_ble_eq_true rfl) ⟨(Nat.le_of_ble_eq_true rfl), (Nat.le_of_ble_eq_true rfl)⟩ ⟨rfl, rfl⟩ ⟨Nat.zero_le _, Nat.zero_le _⟩ (fun g1 hg1 => ?_)
    exact z_iret E F dX6_term_34 (fin hop ((if_pos hv).trans (if_pos (by show σ s 0 = 0; omega))) hg1)
set_option maxRecDepth 100000 in
theorem m_value {A : Nat → Nat → Int} {σ : St} (hM : MI A σ) (s x : Int) (hs : inR s) (hx : inR x) : OkI mX6_value [.ref 156, .int (iI s), .int (iI x)] 172 (mA A) (.int (iI (opValue σ s x).1)) (MP A (opValue σ s x).2) := by
  generalize hop : opValue σ s x = R
  refine OkM.of [some (.ref 156), some (.int (iI s)), some (.int (iI x))] (by decide +kernel) rfl (Nat.le_of_ble_eq_true rfl) ?_
  intro X E F
  have hbad : ¬ (iS s) → Zc X 7 [some (.ref 156), some (.int (iI s)), some (.int (iI x))] [] 172 (mA A) 0 0 := by
    intro hv
    refine z_bipush E (by decide) dX6_value_7 ?_
    exact z_iret E F dX6_value_9 (fin hop (if_neg hv) (mp_same hM))
  refine z_iload_n E dX6_value_0 rfl ?_
  refine c_S E dX6_value_1 lkX6_74 (ok_isSheet6 s hs 172 _) rfl rfl rfl (Nat.le_of_ble_eq_true rfl) ⟨(Nat.le_of_ble_eq_true rfl), (Nat.le_of_ble_eq_true rfl)⟩ ⟨rfl, rfl⟩ ⟨Nat.zero_le _, Nat.zero_le _⟩ ?_
  refine z_bif_ne (tgt := 10) E dX6_value_4 (by decide) (fun h4 => ?_) (fun h4 => hbad (fun v => h4 v))
  have hv : iS s := h4
  obtain ⟨s, rfl⟩ := nat_of h4.1
  have hs8 : s < 8 := by omega
  rcases (hM.2.1 s hs8).1 with ls | ls
  · refine z_aload_n E dX6_value_10 rfl ?_
    refine z_iload_n E dX6_value_11 rfl ?_
    refine c_VQ E dX6_value_12 lkX6_118 (ok_isLost0 hM hs8 ls 172) (by rfl) rfl rfl rfl (Nat.le_of_ble_eq_true rfl) ⟨(Nat.le_of_ble_eq_true rfl), (Nat.le_of_ble_eq_true rfl)⟩ ⟨rfl, rfl⟩ ⟨Nat.zero_le _, Nat.zero_le _⟩ (fun g1 hg1 => ?_)
    refine z_if_eq (tgt := 21) E (by omega) dX6_value_15 (by decide) (fun hq => False.elim (by omega)) (fun h15 => ?_)
    refine z_bipush E (by decide) dX6_value_18 ?_
    exact z_iret E F dX6_value_20 (fin hop ((if_pos hv).trans (if_pos ls)) hg1)
  refine z_aload_n E dX6_value_10 rfl ?_
  refine z_iload_n E dX6_value_11 rfl ?_
  refine c_V E dX6_value_12 lkX6_118 (ok_isLost1 hM hs8 ls 172) (by rfl) rfl rfl rfl (Nat.le_of_ble_eq_true rfl) ⟨(Nat.le_of_ble_eq_true rfl), (Nat.le_of_ble_eq_true rfl)⟩ ⟨rfl, rfl⟩ ⟨Nat.zero_le _, Nat.zero_le _⟩ ?_
  refine z_if_eq (tgt := 21) E (by omega) dX6_value_15 (by decide) (fun h15 => ?_) (fun hq => False.elim (by omega))
  refine z_aload_n E dX6_value_21 rfl ?_
  refine z_iload_n E dX6_value_22 rfl ?_
  refine z_aload_n E dX6_value_23 rfl ?_
  refine z_get E dX6_value_24 (by rfl) flX6_26 (by rfl) ?_
  refine c_V0 E dX6_value_27 lkX6_105 (ok_read hM hs8 t162 172) (by rfl) rfl rfl rfl (Nat.le_of_ble_eq_true rfl) ⟨(Nat.le_of_ble_eq_true rfl), (Nat.le_of_ble_eq_true rfl)⟩ ⟨rfl, rfl⟩ ⟨Nat.zero_le _, Nat.zero_le _⟩ ?_
  refine z_aload_n E dX6_value_30 rfl ?_
  refine z_get E dX6_value_31 (by rfl) flX6_26 (by rfl) ?_
  refine z_iload_n E dX6_value_34 rfl ?_
  refine z_i2l E (by omega) dX6_value_35 ?_
  refine c_S E dX6_value_36 lkX6_62 (ok_mod _ ⟨by omega, by omega⟩ (by omega) 172 _) rfl rfl rfl (Nat.le_of_ble_eq_true rfl) ⟨(Nat.le_of_ble_eq_true rfl), (Nat.le_of_ble_eq_true rfl)⟩ ⟨rfl, rfl⟩ ⟨Nat.zero_le _, Nat.zero_le _⟩ ?_
  refine c_S E dX6_value_39 lkX6_131 (ok_valueOf t162 _ (by rw [va_up_self]; exact srS_rok _ _) (x % 10007) (by omega) 172) rfl rfl rfl (Nat.le_of_ble_eq_true rfl) ⟨(Nat.le_of_ble_eq_true rfl), (Nat.le_of_ble_eq_true rfl)⟩ ⟨rfl, rfl⟩ ⟨Nat.zero_le _, Nat.zero_le _⟩ ?_
  rw [va_up_self]
  exact z_iret E F dX6_value_42 (fin hop ((if_pos hv).trans (if_neg (by show ¬ σ s 0 = 0; omega))) (mp_to (hM.ups (by omega)) (lo_up (by omega))))
set_option maxRecDepth 100000 in
theorem m_step {A : Nat → Nat → Int} {σ : St} (hM : MI A σ) (k n j : Int) (hk : inR k) (hn : inR n) (hj : inR j) : OkI mX6_step [.ref 156, .int (iI k), .int (iI n), .int (iI j)] 172 (mA A) (.int (iI (opStep σ k n j).1)) (MP A (opStep σ k n j).2) := by
  generalize hop : opStep σ k n j = R
  refine OkM.of [some (.ref 156), some (.int (iI k)), some (.int (iI n)), some (.int (iI j))] (by decide +kernel) rfl (Nat.le_of_ble_eq_true rfl) ?_
  intro X E F
  have hbad : ¬ (iL k ∧ iP n ∧ iP j) → Zc X 18 [some (.ref 156), some (.int (iI k)), some (.int (iI n)), some (.int (iI j))] [] 172 (mA A) 0 0 := by
    intro hv
    refine z_bipush E (by decide) dX6_step_18 ?_
    exact z_iret E F dX6_step_20 (fin hop (if_neg hv) (mp_same hM))
  refine z_iload_n E dX6_step_0 rfl ?_
  refine z_iload_n E dX6_step_1 rfl ?_
  refine c_S E dX6_step_2 lkX6_141 (ok_isRung k n hk hn 172 _) rfl rfl rfl (Nat.le_of_ble_eq_true rfl) ⟨(Nat.le_of_ble_eq_true rfl), (Nat.le_of_ble_eq_true rfl)⟩ ⟨rfl, rfl⟩ ⟨Nat.zero_le _, Nat.zero_le _⟩ ?_
  refine z_bif_eq (tgt := 18) E dX6_step_5 (by decide) (fun h5 => hbad (fun v => h5 (v.imp_right And.left))) (fun h5 => ?_)
  refine z_iload_n E dX6_step_8 rfl ?_
  refine z_iconst E dX6_step_9 ?_
  refine z_bipush E (by decide) dX6_step_10 ?_
  refine c_S E dX6_step_12 lkX6_70 (ok_inB j 0 9 (iP j) (by omega) hj (by omega) (by omega) 172 _) rfl rfl rfl (Nat.le_of_ble_eq_true rfl) ⟨(Nat.le_of_ble_eq_true rfl), (Nat.le_of_ble_eq_true rfl)⟩ ⟨rfl, rfl⟩ ⟨Nat.zero_le _, Nat.zero_le _⟩ ?_
  refine z_bif_ne (tgt := 21) E dX6_step_15 (by decide) (fun h15 => ?_) (fun h15 => hbad (fun v => h15 v.2.2))
  have hv : iL k ∧ iP n ∧ iP j := ⟨h5.1, h5.2, h15⟩
  obtain ⟨⟨k, rfl⟩, ⟨n, rfl⟩, ⟨j, rfl⟩⟩ := And.intro (nat_of h5.1.1) (And.intro (nat_of h5.2.1) (nat_of h15.1))
  have v1 := (hM.1.2.1 k (by omega)).1
  have r1 := (hM.2.2.1 k (by omega)).1
  have v2 := (hM.1.2.1 k (by omega)).2 n j (by omega) (by omega)
  refine z_aload_n E dX6_step_21 rfl ?_
  refine z_get E dX6_step_22 (by rfl) flX6_50 (by rfl) ?_
  refine z_iload_n E dX6_step_25 rfl ?_
  refine a_zald (j := k) E dX6_step_26 (fun _ => rfl) (by omega) (by omega) (by omega) ?_
  rw [v1]
  refine z_if_eq (tgt := 49) E (by omega) dX6_step_27 (by decide) (fun h27 => ?_) (fun h27 => ?_)
  · refine z_bipush E (by decide) dX6_step_49 ?_
    exact z_iret E F dX6_step_51 (fin hop ((if_pos hv).trans (if_pos (by show σ (8 + k) 0 = 0; omega))) (mp_same hM))
  · refine z_aload_n E dX6_step_30 rfl ?_
    refine z_get E dX6_step_31 (by rfl) flX6_53 (by rfl) ?_
    refine z_bipush E (by decide) dX6_step_34 ?_
    refine z_iload_n E dX6_step_36 rfl ?_
    refine z_imul E dX6_step_37 ?_
    refine z_bipush E (by decide) dX6_step_38 ?_
    refine z_iload_n E dX6_step_40 rfl ?_
    refine z_imul E dX6_step_41 ?_
    refine z_iadd E dX6_step_42 ?_
    refine z_iload_n E dX6_step_43 rfl ?_
    refine z_iadd E dX6_step_44 ?_
    refine a_iald (j := 100 * k + 10 * n + j) E dX6_step_45 (fun _ => rfl) (by omega) (by omega) (by omega) ?_
    refine z_goto (tgt := 51) E dX6_step_46 (by decide) ?_
    rw [v2]
    exact z_iret E F dX6_step_51 (fin hop ((if_pos hv).trans (if_neg (by show ¬ σ (8 + k) 0 = 0; omega))) (mp_same hM))
set_option maxRecDepth 100000 in
theorem m_at {A : Nat → Nat → Int} {σ : St} (hM : MI A σ) (k n x : Int) (hk : inR k) (hn : inR n) (hx : inR x) : OkI mX6_at [.ref 156, .int (iI k), .int (iI n), .int (iI x)] 172 (mA A) (.int (iI (opAt σ k n x).1)) (MP A (opAt σ k n x).2) := by
  generalize hop : opAt σ k n x = R
  refine OkM.of [some (.ref 156), some (.int (iI k)), some (.int (iI n)), some (.int (iI x))] (by decide +kernel) rfl (Nat.le_of_ble_eq_true rfl) ?_
  intro X E F
  have hbad : ¬ (iL k ∧ iP n) → Zc X 8 [some (.ref 156), some (.int (iI k)), some (.int (iI n)), some (.int (iI x))] [] 172 (mA A) 0 0 := by
    intro hv
    refine z_bipush E (by decide) dX6_at_8 ?_
    exact z_iret E F dX6_at_10 (fin hop (if_neg hv) (mp_same hM))
  refine z_iload_n E dX6_at_0 rfl ?_
  refine z_iload_n E dX6_at_1 rfl ?_
  refine c_S E dX6_at_2 lkX6_141 (ok_isRung k n hk hn 172 _) rfl rfl rfl (Nat.le_of_ble_eq_true rfl) ⟨(Nat.le_of_ble_eq_true rfl), (Nat.le_of_ble_eq_true rfl)⟩ ⟨rfl, rfl⟩ ⟨Nat.zero_le _, Nat.zero_le _⟩ ?_
  refine z_bif_ne (tgt := 11) E dX6_at_5 (by decide) (fun h5 => ?_) (fun h5 => hbad (fun v => h5 v))
  have hv : iL k ∧ iP n := h5
  obtain ⟨⟨k, rfl⟩, ⟨n, rfl⟩⟩ := And.intro (nat_of h5.1.1) (nat_of h5.2.1)
  have v1 := (hM.1.2.1 k (by omega)).1
  have r1 := (hM.2.2.1 k (by omega)).1
  refine z_aload_n E dX6_at_11 rfl ?_
  refine z_get E dX6_at_12 (by rfl) flX6_50 (by rfl) ?_
  refine z_iload_n E dX6_at_15 rfl ?_
  refine a_zald (j := k) E dX6_at_16 (fun _ => rfl) (by omega) (by omega) (by omega) ?_
  rw [v1]
  refine z_if_ne (tgt := 23) E (by omega) dX6_at_17 (by decide) (fun h17 => ?_) (fun h17 => ?_)
  · refine z_aload_n E dX6_at_23 rfl ?_
    refine z_iload_n E dX6_at_24 rfl ?_
    refine z_iload_n E dX6_at_25 rfl ?_
    refine z_aload_n E dX6_at_26 rfl ?_
    refine z_get E dX6_at_27 (by rfl) flX6_26 (by rfl) ?_
    refine c_V0 E dX6_at_30 lkX6_145 (ok_rung hM (k := k) (n := n) (by omega) (by omega) t162 172) (by rfl) rfl rfl rfl (Nat.le_of_ble_eq_true rfl) ⟨(Nat.le_of_ble_eq_true rfl), (Nat.le_of_ble_eq_true rfl)⟩ ⟨rfl, rfl⟩ ⟨Nat.zero_le _, Nat.zero_le _⟩ ?_
    refine z_aload_n E dX6_at_33 rfl ?_
    refine z_get E dX6_at_34 (by rfl) flX6_26 (by rfl) ?_
    refine z_iload_n E dX6_at_37 rfl ?_
    refine z_i2l E (by omega) dX6_at_38 ?_
    refine c_S E dX6_at_39 lkX6_62 (ok_mod _ ⟨by omega, by omega⟩ (by omega) 172 _) rfl rfl rfl (Nat.le_of_ble_eq_true rfl) ⟨(Nat.le_of_ble_eq_true rfl), (Nat.le_of_ble_eq_true rfl)⟩ ⟨rfl, rfl⟩ ⟨Nat.zero_le _, Nat.zero_le _⟩ ?_
    refine c_S E dX6_at_42 lkX6_131 (ok_valueOf t162 _ (by rw [va_up_self]; exact stp_rok hM (by omega) (by omega)) (x % 10007) (by omega) 172) rfl rfl rfl (Nat.le_of_ble_eq_true rfl) ⟨(Nat.le_of_ble_eq_true rfl), (Nat.le_of_ble_eq_true rfl)⟩ ⟨rfl, rfl⟩ ⟨Nat.zero_le _, Nat.zero_le _⟩ ?_
    rw [va_up_self]
    exact z_iret E F dX6_at_45 (fin hop ((if_pos hv).trans (if_neg (by show ¬ σ (8 + k) 0 = 0; omega))) (mp_to (hM.ups (by omega)) (lo_up (by omega))))
  · refine z_bipush E (by decide) dX6_at_20 ?_
    exact z_iret E F dX6_at_22 (fin hop ((if_pos hv).trans (if_pos (by show σ (8 + k) 0 = 0; omega))) (mp_same hM))
set_option maxRecDepth 100000 in
theorem m_tell {A : Nat → Nat → Int} {σ : St} (hM : MI A σ) (k n u : Int) (hk : inR k) (hn : inR n) (hu : inR u) : OkI mX6_tell [.ref 156, .int (iI k), .int (iI n), .int (iI u)] 172 (mA A) (.int (iI (opTell σ k n u).1)) (MP A (opTell σ k n u).2) := by
  generalize hop : opTell σ k n u = R
  refine OkM.of [some (.ref 156), some (.int (iI k)), some (.int (iI n)), some (.int (iI u))] (by decide +kernel) rfl (Nat.le_of_ble_eq_true rfl) ?_
  intro X E F
  have hbad : ¬ (iL k ∧ iP n ∧ iS u) → Zc X 15 [some (.ref 156), some (.int (iI k)), some (.int (iI n)), some (.int (iI u))] [] 172 (mA A) 0 0 := by
    intro hv
    refine z_bipush E (by decide) dX6_tell_15 ?_
    exact z_iret E F dX6_tell_17 (fin hop (if_neg hv) (mp_same hM))
  refine z_iload_n E dX6_tell_0 rfl ?_
  refine z_iload_n E dX6_tell_1 rfl ?_
  refine c_S E dX6_tell_2 lkX6_141 (ok_isRung k n hk hn 172 _) rfl rfl rfl (Nat.le_of_ble_eq_true rfl) ⟨(Nat.le_of_ble_eq_true rfl), (Nat.le_of_ble_eq_true rfl)⟩ ⟨rfl, rfl⟩ ⟨Nat.zero_le _, Nat.zero_le _⟩ ?_
  refine z_bif_eq (tgt := 15) E dX6_tell_5 (by decide) (fun h5 => hbad (fun v => h5 (v.imp_right And.left))) (fun h5 => ?_)
  refine z_iload_n E dX6_tell_8 rfl ?_
  refine c_S E dX6_tell_9 lkX6_74 (ok_isSheet6 u hu 172 _) rfl rfl rfl (Nat.le_of_ble_eq_true rfl) ⟨(Nat.le_of_ble_eq_true rfl), (Nat.le_of_ble_eq_true rfl)⟩ ⟨rfl, rfl⟩ ⟨Nat.zero_le _, Nat.zero_le _⟩ ?_
  refine z_bif_ne (tgt := 18) E dX6_tell_12 (by decide) (fun h12 => ?_) (fun h12 => hbad (fun v => h12 v.2.2))
  have hv : iL k ∧ iP n ∧ iS u := ⟨h5.1, h5.2, h12⟩
  obtain ⟨⟨k, rfl⟩, ⟨n, rfl⟩, ⟨u, rfl⟩⟩ := And.intro (nat_of h5.1.1) (And.intro (nat_of h5.2.1) (nat_of h12.1))
  have v1 := (hM.1.2.1 k (by omega)).1
  have r1 := (hM.2.2.1 k (by omega)).1
  refine z_aload_n E dX6_tell_18 rfl ?_
  refine z_get E dX6_tell_19 (by rfl) flX6_50 (by rfl) ?_
  refine z_iload_n E dX6_tell_22 rfl ?_
  refine a_zald (j := k) E dX6_tell_23 (fun _ => rfl) (by omega) (by omega) (by omega) ?_
  rw [v1]
  refine z_if_ne (tgt := 30) E (by omega) dX6_tell_24 (by decide) (fun h24 => ?_) (fun h24 => ?_)
  · refine z_aload_n E dX6_tell_30 rfl ?_
    refine z_iload_n E dX6_tell_31 rfl ?_
    refine z_iload_n E dX6_tell_32 rfl ?_
    refine z_aload_n E dX6_tell_33 rfl ?_
    refine z_get E dX6_tell_34 (by rfl) flX6_26 (by rfl) ?_
    refine c_V0 E dX6_tell_37 lkX6_145 (ok_rung hM (k := k) (n := n) (by omega) (by omega) t162 172) (by rfl) rfl rfl rfl (Nat.le_of_ble_eq_true rfl) ⟨(Nat.le_of_ble_eq_true rfl), (Nat.le_of_ble_eq_true rfl)⟩ ⟨rfl, rfl⟩ ⟨Nat.zero_le _, Nat.zero_le _⟩ ?_
    refine z_aload_n E dX6_tell_40 rfl ?_
    refine z_aload_n E dX6_tell_41 rfl ?_
    refine z_get E dX6_tell_42 (by rfl) flX6_26 (by rfl) ?_
    refine z_iload_n E dX6_tell_45 rfl ?_
    refine c_VQ E dX6_tell_46 lkX6_114 (ok_tells (u := u) (A := va_up A 162 (stp σ k n)) (hM.ups (by omega)) t162 (by omega) (stp σ k n) (va_up_self _ _ _) (stp_rok hM (by omega) (by omega)) 172) (by rfl) rfl rfl rfl (Nat.le_of_ble_eq_true rfl) ⟨(Nat.le_of_ble_eq_true rfl), (Nat.le_of_ble_eq_true rfl)⟩ ⟨rfl, rfl⟩ ⟨Nat.zero_le _, Nat.zero_le _⟩ (fun g1 hg1 => ?_)
    obtain ⟨A2, rfl, m2, l2, _⟩ := hg1
    exact z_iret E F dX6_tell_49 (fin hop ((if_pos hv).trans (if_neg (by show ¬ σ (8 + k) 0 = 0; omega))) (mp_to m2 (lo_tr (lo_up (by omega)) l2)))
  · refine z_bipush E (by decide) dX6_tell_27 ?_
    exact z_iret E F dX6_tell_29 (fin hop ((if_pos hv).trans (if_pos (by show σ (8 + k) 0 = 0; omega))) (mp_same hM))
