/-! the landed calls on sheets -/
set_option maxRecDepth 100000 in
theorem x_sheet {A : Nat → Nat → Int} {σ : St} (hX : XI A σ) (s fo n : Int) (hs : inR s) (hf : inR fo) (hn : inR n) : OkI mX5_sheet [.ref 0, .int (iI s), .int (iI fo), .int (iI n)] 172 (mA A) (.int (iI (opSheet σ s fo n).1)) (XP A (opSheet σ s fo n).2) := by
  generalize hop : opSheet σ s fo n = R
  refine OkM.of [some (.ref 0), some (.int (iI s)), some (.int (iI fo)), some (.int (iI n))] (by decide +kernel) rfl (Nat.le_of_ble_eq_true rfl) ?_
  intro X E F
  have hbad : ¬ (iS s ∧ iF fo ∧ n ≤ 20) → Zc X 20 [some (.ref 0), some (.int (iI s)), some (.int (iI fo)), some (.int (iI n))] [] 172 (mA A) 0 0 := by
    intro hv
    refine z_bipush E (by decide) dX5_sheet_20 ?_
    exact z_iret E F dX5_sheet_22 (fin hop (if_neg hv) (xp_same hX))
  refine z_iload_n E dX5_sheet_0 rfl ?_
  refine c_S E dX5_sheet_1 lkX5_56 (ok_isSheet5 s hs 172 _) rfl rfl rfl (Nat.le_of_ble_eq_true rfl) ⟨(Nat.le_of_ble_eq_true rfl), (Nat.le_of_ble_eq_true rfl)⟩ ⟨rfl, rfl⟩ ⟨Nat.zero_le _, Nat.zero_le _⟩ ?_
  refine z_bif_eq (tgt := 20) E dX5_sheet_4 (by decide) (fun h4 => ?_) (fun h4 => ?_)
  · exact hbad (fun v => h4 v.1)
  · refine z_iload_n E dX5_sheet_7 rfl ?_
    refine c_S E dX5_sheet_8 lkX5_60 (ok_isForm5 fo hf 172 _) rfl rfl rfl (Nat.le_of_ble_eq_true rfl) ⟨(Nat.le_of_ble_eq_true rfl), (Nat.le_of_ble_eq_true rfl)⟩ ⟨rfl, rfl⟩ ⟨Nat.zero_le _, Nat.zero_le _⟩ ?_
    refine z_bif_eq (tgt := 20) E dX5_sheet_11 (by decide) (fun h11 => ?_) (fun h11 => ?_)
    · exact hbad (fun v => h11 v.2.1)
    · refine z_iload_n E dX5_sheet_14 rfl ?_
      refine z_bipush E (by decide) dX5_sheet_15 ?_
      refine z_icmp_le (tgt := 23) E (by omega) (by omega) dX5_sheet_17 (by decide) (fun h17 => ?_) (fun h17 => ?_)
      · have hv : iS s ∧ iF fo ∧ n ≤ 20 := ⟨h4, h11, h17⟩
        obtain ⟨s, rfl⟩ := nat_of h4.1
        have hs8 : s < 8 := by omega
        refine z_iload_n E dX5_sheet_23 rfl ?_
        refine z_if_ge (tgt := 33) E (by omega) dX5_sheet_24 (by decide) (fun h24 => ?_) (fun h24 => ?_)
        · refine z_aload_n E dX5_sheet_33 rfl ?_
          refine z_get E dX5_sheet_34 (by rfl) flX5_11 (by rfl) ?_
          refine z_iload_n E dX5_sheet_37 rfl ?_
          refine a_aald (j := s) E dX5_sheet_38 rfl (by omega) (by omega) (by omega) (by omega) ?_
          refine z_iload_n E dX5_sheet_39 rfl ?_
          refine z_iload_n E dX5_sheet_40 rfl ?_
          refine c_V0 E dX5_sheet_41 lkX5_67 (ok_renew hs8 A fo n 172) (cel_sheet hs8 _) rfl rfl rfl (Nat.le_of_ble_eq_true rfl) ⟨(Nat.le_of_ble_eq_true rfl), (Nat.le_of_ble_eq_true rfl)⟩ ⟨rfl, rfl⟩ ⟨Nat.zero_le _, Nat.zero_le _⟩ ?_
          refine z_iload_n E dX5_sheet_44 rfl ?_
          refine z_iret E F dX5_sheet_45 (fin hop ((if_pos hv).trans (if_neg (by omega))) (xp_to ?_ ?_))
          · refine hX.shs hs8 h11 (by omega) (fun j _ => by omega) (fun k h1 h2 _ => by rw [va_up_ne _ _ h1, va_up_ne _ _ h2]) ⟨?_, ?_, ?_⟩ (fun j hj => ?_)
            · rw [va_up_self]; rfl
            · rw [va_up_self]; rfl
            · rw [va_up_self]; rfl
            · rw [va_up_ne _ _ (by omega), va_up_self]
          · exact hi_tr (hi_up (by omega)) (hi_up (by omega))
        · refine z_aload_n E dX5_sheet_27 rfl ?_
          refine z_iconst E dX5_sheet_28 ?_
          refine c_VQ E dX5_sheet_29 lkX5_63 (ok_found hX 5 (by omega) 172) (by rfl) rfl rfl rfl (Nat.le_of_ble_eq_true rfl) ⟨(Nat.le_of_ble_eq_true rfl), (Nat.le_of_ble_eq_true rfl)⟩ ⟨rfl, rfl⟩ ⟨Nat.zero_le _, Nat.zero_le _⟩ (fun g1 hg1 => ?_)
          exact z_iret E F dX5_sheet_32 (fin hop ((if_pos hv).trans (if_pos h24)) hg1)
      · exact hbad (fun v => by omega)
theorem XI.los {A : Nat → Nat → Int} {σ : St} (h : XI A σ) {s : Nat} (hs : s < 8) : XI (va_up A (52 + 2 * s) (up (A (52 + 2 * s)) 1 1)) (va_up σ s (up (σ s) 0 0)) := by
  obtain ⟨hK, hV, hS⟩ := h
  have e : ∀ k, k ≠ 52 + 2 * s → va_up A (52 + 2 * s) (up (A (52 + 2 * s)) 1 1) k = A k := fun k hk => va_up_ne _ _ hk
  have e2 : ∀ t, t ≠ s → va_up σ s (up (σ s) 0 0) t = σ t := fun t ht => va_up_ne _ _ ht
  refine ⟨⟨fun m h1 h2 => by rw [e 4 (by omega)]; exact hK.1 m h1 h2, fun m hm => by rw [e 5 (by omega)]; exact hK.2.1 m hm, fun m hm => by rw [e 6 (by omega)]; exact hK.2.2.1 m hm, by rw [e 31 (by omega)]; exact hK.2.2.2.1, fun m k hk hm => by rw [e (8 + m) (by omega)]; exact hK.2.2.2.2 m k hk hm⟩, ⟨fun t ht => ?_, fun k hk => ?_, ?_⟩, ⟨fun t ht => ?_, fun k hk => ?_, ?_⟩⟩
  · by_cases et : t = s
    · subst et
      rw [va_up_self, va_up_self, va_up_ne _ _ (by omega), up_eq, up_eq, up_ne _ _ (by omega), up_ne _ _ (by omega), up_ne _ _ (by omega), up_ne _ _ (by omega)]
      obtain ⟨v1, v2, v3, v4⟩ := hV.1 t ht
      exact ⟨by omega, v2, v3, fun j hj => by rw [up_ne _ _ (by omega)]; exact v4 j hj⟩
    · rw [e (52 + 2 * t) (by omega), e (53 + 2 * t) (by omega), e2 t et]; exact hV.1 t ht
  · refine ⟨by rw [e (68 + 22 * k) (by omega), e2 (8 + k) (by omega)]; exact (hV.2.1 k hk).1, fun m j hm hj => ?_⟩
    rw [e (70 + 22 * k + 2 * m + 1) (by omega), e2 (8 + k) (by omega)]; exact (hV.2.1 k hk).2 m j hm hj
  · rw [e 0 (by omega), e2 12 (by omega)]; exact hV.2.2
  · by_cases et : t = s
    · subst et
      obtain ⟨r1, r2, r3, r4⟩ := hS.1 t ht
      rw [va_up_self, up_eq, up_ne _ _ (by omega), up_ne _ _ (by omega)]
      exact ⟨Or.inl rfl, r2, r3, fun j hj => by rw [up_ne _ _ (by omega)]; exact r4 j hj⟩
    · rw [e2 t et]; exact hS.1 t ht
  · rw [e2 (8 + k) (by omega)]; exact hS.2.1 k hk
  · rw [e2 12 (by omega)]; exact hS.2.2
set_option maxRecDepth 100000 in
theorem x_lose {A : Nat → Nat → Int} {σ : St} (hX : XI A σ) (s : Int) (hs : inR s) : OkI mX5_lose [.ref 0, .int (iI s)] 172 (mA A) (.int (iI (opLose σ s).1)) (XP A (opLose σ s).2) := by
  generalize hop : opLose σ s = R
  refine OkM.of [some (.ref 0), some (.int (iI s))] (by decide +kernel) rfl (Nat.le_of_ble_eq_true rfl) ?_
  intro X E F
  refine z_iload_n E dX5_lose_0 rfl ?_
  refine c_S E dX5_lose_1 lkX5_56 (ok_isSheet5 s hs 172 _) rfl rfl rfl (Nat.le_of_ble_eq_true rfl) ⟨(Nat.le_of_ble_eq_true rfl), (Nat.le_of_ble_eq_true rfl)⟩ ⟨rfl, rfl⟩ ⟨Nat.zero_le _, Nat.zero_le _⟩ ?_
  refine z_bif_ne (tgt := 10) E dX5_lose_4 (by decide) (fun h4 => ?_) (fun h4 => ?_)
  · have hv : iS s := h4
    obtain ⟨s, rfl⟩ := nat_of h4.1
    have hs8 : s < 8 := by omega
    obtain ⟨v1, v2, v3, v4⟩ := hX.2.1.1 s hs8
    obtain ⟨r1, r2, r3, r4⟩ := hX.2.2.1 s hs8
    refine z_aload_n E dX5_lose_10 rfl ?_
    refine z_get E dX5_lose_11 (by rfl) flX5_11 (by rfl) ?_
    refine z_iload_n E dX5_lose_14 rfl ?_
    refine a_aald (j := s) E dX5_lose_15 rfl (by omega) (by omega) (by omega) (by omega) ?_
    refine z_get E dX5_lose_16 (cel_sheet hs8 _) flX5_71 (by rfl) ?_
    rw [v1]
    refine z_if_eq (tgt := 28) E (by omega) dX5_lose_19 (by decide) (fun h19 => ?_) (fun h19 => ?_)
    · refine z_aload_n E dX5_lose_28 rfl ?_
      refine z_get E dX5_lose_29 (by rfl) flX5_11 (by rfl) ?_
      refine z_iload_n E dX5_lose_32 rfl ?_
      refine a_aald (j := s) E dX5_lose_33 rfl (by omega) (by omega) (by omega) (by omega) ?_
      refine z_iconst E dX5_lose_34 ?_
      refine a_putZ E dX5_lose_35 fpX5_71 (by omega) (cel_sheet hs8 _) (by rw [cel_sheet hs8]; rfl) ?_
      refine z_aload_n E dX5_lose_38 rfl ?_
      refine z_get E dX5_lose_39 (by rfl) flX5_11 (by rfl) ?_
      refine z_iload_n E dX5_lose_42 rfl ?_
      refine a_aald (j := s) E dX5_lose_43 rfl (by omega) (by omega) (by omega) (by omega) ?_
      refine z_get E dX5_lose_44 (cel_sheet hs8 _) flX5_75 (by rfl) ?_
      rw [va_up_self, up_ne _ _ (by omega), v3]
      exact z_iret E F dX5_lose_47 (fin hop ((if_pos hv).trans (if_neg (by show ¬ σ s 0 = 0; omega))) (xp_to (hX.los hs8) (hi_up (by omega))))
    · refine z_aload_n E dX5_lose_22 rfl ?_
      refine z_iconst E dX5_lose_23 ?_
      refine c_VQ E dX5_lose_24 lkX5_63 (ok_found hX 1 (by omega) 172) (by rfl) rfl rfl rfl (Nat.le_of_ble_eq_true rfl) ⟨(Nat.le_of_ble_eq_true rfl), (Nat.le_of_ble_eq_true rfl)⟩ ⟨rfl, rfl⟩ ⟨Nat.zero_le _, Nat.zero_le _⟩ (fun g1 hg1 => ?_)
      exact z_iret E F dX5_lose_27 (fin hop ((if_pos hv).trans (if_pos (by show σ s 0 = 0; omega))) hg1)
  · refine z_bipush E (by decide) dX5_lose_7 ?_
    exact z_iret E F dX5_lose_9 (fin hop (if_neg h4) (xp_same hX))
theorem lkS_in (σ : St) (s : Nat) (fo i : Int) : inR (lkS σ s fo i) := by
  unfold lkS
  split
  · omega
  · split
    · omega
    · split <;> omega
theorem lkS_0 {σ : St} {s : Nat} {fo i : Int} (h : lkS σ s fo i = 0) : σ s 0 ≠ 0 ∧ σ s 1 = fo ∧ 0 ≤ i ∧ i < σ s 2 := by
  unfold lkS at h
  split at h
  · omega
  · split at h
    · omega
    · split at h <;> omega
/-- one item of a SHEET -/
theorem XI.itm {A : Nat → Nat → Int} {σ : St} (h : XI A σ) {s i : Nat} {v : Int} (hs : s < 8) (hi : i < 20) (hv : inR v) : XI (va_up A (53 + 2 * s) (up (A (53 + 2 * s)) i v)) (va_up σ s (up (σ s) (3 + i) v)) := by
  obtain ⟨hK, hV, hS⟩ := h
  have e : ∀ k, k ≠ 53 + 2 * s → va_up A (53 + 2 * s) (up (A (53 + 2 * s)) i v) k = A k := fun k hk => va_up_ne _ _ hk
  have e2 : ∀ t, t ≠ s → va_up σ s (up (σ s) (3 + i) v) t = σ t := fun t ht => va_up_ne _ _ ht
  refine ⟨⟨fun m h1 h2 => by rw [e 4 (by omega)]; exact hK.1 m h1 h2, fun m hm => by rw [e 5 (by omega)]; exact hK.2.1 m hm, fun m hm => by rw [e 6 (by omega)]; exact hK.2.2.1 m hm, by rw [e 31 (by omega)]; exact hK.2.2.2.1, fun m k hk hm => by rw [e (8 + m) (by omega)]; exact hK.2.2.2.2 m k hk hm⟩, ⟨fun t ht => ?_, fun k hk => ?_, ?_⟩, ⟨fun t ht => ?_, fun k hk => ?_, ?_⟩⟩
  · by_cases et : t = s
    · subst et
      obtain ⟨v1, v2, v3, v4⟩ := hV.1 t ht
      rw [e (52 + 2 * t) (by omega), va_up_self, va_up_self, up_ne _ _ (by omega), up_ne _ _ (by omega), up_ne _ _ (by omega)]
      refine ⟨v1, v2, v3, fun j hj => ?_⟩
      by_cases ej : j = i
      · subst ej; rw [up_eq, up_eq]
      · rw [up_ne _ _ ej, up_ne _ _ (by omega)]; exact v4 j hj
    · rw [e (52 + 2 * t) (by omega), e (53 + 2 * t) (by omega), e2 t et]; exact hV.1 t ht
  · refine ⟨by rw [e (68 + 22 * k) (by omega), e2 (8 + k) (by omega)]; exact (hV.2.1 k hk).1, fun m j hm hj => ?_⟩
    rw [e (70 + 22 * k + 2 * m + 1) (by omega), e2 (8 + k) (by omega)]; exact (hV.2.1 k hk).2 m j hm hj
  · rw [e 0 (by omega), e2 12 (by omega)]; exact hV.2.2
  · by_cases et : t = s
    · subst et
      obtain ⟨r1, r2, r3, r4⟩ := hS.1 t ht
      rw [va_up_self, up_ne _ _ (by omega), up_ne _ _ (by omega), up_ne _ _ (by omega)]
      refine ⟨r1, r2, r3, fun j hj => ?_⟩
      by_cases ej : j = i
      · subst ej; rw [up_eq]; exact hv
      · rw [up_ne _ _ (by omega)]; exact r4 j hj
    · rw [e2 t et]; exact hS.1 t ht
  · rw [e2 (8 + k) (by omega)]; exact hS.2.1 k hk
  · rw [e2 12 (by omega)]; exact hS.2.2
set_option maxRecDepth 100000 in
theorem x_put {A : Nat → Nat → Int} {σ : St} (hX : XI A σ) (s fo i v : Int) (hs : inR s) (hf : inR fo) (hi : inR i) (hvv : inR v) : OkI mX5_put [.ref 0, .int (iI s), .int (iI fo), .int (iI i), .int (iI v)] 172 (mA A) (.int (iI (opPut σ s fo i v).1)) (XP A (opPut σ s fo i v).2) := by
  generalize hop : opPut σ s fo i v = R
  refine OkM.of [some (.ref 0), some (.int (iI s)), some (.int (iI fo)), some (.int (iI i)), some (.int (iI v)), none] (by decide +kernel) rfl (Nat.le_of_ble_eq_true rfl) ?_
  intro X E F
  have hbad : ¬ (iS s ∧ iF fo) → Zc X 14 [some (.ref 0), some (.int (iI s)), some (.int (iI fo)), some (.int (iI i)), some (.int (iI v)), none] [] 172 (mA A) 0 0 := by
    intro hv
    refine z_bipush E (by decide) dX5_put_14 ?_
    exact z_iret E F dX5_put_16 (fin hop (if_neg hv) (xp_same hX))
  refine z_iload_n E dX5_put_0 rfl ?_
  refine c_S E dX5_put_1 lkX5_56 (ok_isSheet5 s hs 172 _) rfl rfl rfl (Nat.le_of_ble_eq_true rfl) ⟨(Nat.le_of_ble_eq_true rfl), (Nat.le_of_ble_eq_true rfl)⟩ ⟨rfl, rfl⟩ ⟨Nat.zero_le _, Nat.zero_le _⟩ ?_
  refine z_bif_eq (tgt := 14) E dX5_put_4 (by decide) (fun h4 => ?_) (fun h4 => ?_)
  · exact hbad (fun v => h4 v.1)
  · refine z_iload_n E dX5_put_7 rfl ?_
    refine c_S E dX5_put_8 lkX5_60 (ok_isForm5 fo hf 172 _) rfl rfl rfl (Nat.le_of_ble_eq_true rfl) ⟨(Nat.le_of_ble_eq_true rfl), (Nat.le_of_ble_eq_true rfl)⟩ ⟨rfl, rfl⟩ ⟨Nat.zero_le _, Nat.zero_le _⟩ ?_
    refine z_bif_ne (tgt := 17) E dX5_put_11 (by decide) (fun h11 => ?_) (fun h11 => ?_)
    · have hv : iS s ∧ iF fo := ⟨h4, h11⟩
      obtain ⟨s, rfl⟩ := nat_of h4.1
      have hs8 : s < 8 := by omega
      have hl := lkS_in σ s fo i
      refine z_aload_n E dX5_put_17 rfl ?_
      refine z_get E dX5_put_18 (by rfl) flX5_11 (by rfl) ?_
      refine z_iload_n E dX5_put_21 rfl ?_
      refine a_aald (j := s) E dX5_put_22 rfl (by omega) (by omega) (by omega) (by omega) ?_
      refine z_iload_n E dX5_put_23 rfl ?_
      refine z_iload_n E dX5_put_24 rfl ?_
      refine c_V E dX5_put_25 lkX5_78 (ok_findingAt hs8 hX fo i hf hi 172) (cel_sheet hs8 _) rfl rfl rfl (Nat.le_of_ble_eq_true rfl) ⟨(Nat.le_of_ble_eq_true rfl), (Nat.le_of_ble_eq_true rfl)⟩ ⟨rfl, rfl⟩ ⟨Nat.zero_le _, Nat.zero_le _⟩ ?_
      refine z_istore (ls' := [_, _, _, _, _, _]) E dX5_put_28 (Nat.le_of_ble_eq_true rfl) rfl ?_
      refine z_iload E dX5_put_30 rfl ?_
      refine z_if_eq (tgt := 42) E (by omega) dX5_put_32 (by decide) (fun h32 => ?_) (fun h32 => ?_)
      · obtain ⟨q1, q2, q3, q4⟩ := lkS_0 h32
        have r3 := (hX.2.2.1 s hs8).2.2.1
        obtain ⟨i, rfl⟩ := nat_of q3
        refine z_aload_n E dX5_put_42 rfl ?_
        refine z_get E dX5_put_43 (by rfl) flX5_11 (by rfl) ?_
        refine z_iload_n E dX5_put_46 rfl ?_
        refine a_aald (j := s) E dX5_put_47 rfl (by omega) (by omega) (by omega) (by omega) ?_
        refine z_get E dX5_put_48 (cel_sheet hs8 _) flX5_82 (by rfl) ?_
        refine z_iload_n E dX5_put_51 rfl ?_
        refine z_iload_n E dX5_put_52 rfl ?_
        refine z_iload E dX5_put_53 rfl ?_
        refine c_S E dX5_put_55 lkX5_86 (ok_narrowed fo v hf 172 _) rfl rfl rfl (Nat.le_of_ble_eq_true rfl) ⟨(Nat.le_of_ble_eq_true rfl), (Nat.le_of_ble_eq_true rfl)⟩ ⟨rfl, rfl⟩ ⟨Nat.zero_le _, Nat.zero_le _⟩ ?_
        refine a_iast (j := i) E dX5_put_58 (cel_items hs8) (by omega) (by omega) (by omega) ?_
        refine z_iconst E dX5_put_59 ?_
        exact z_iret E F dX5_put_60 (fin hop ((if_pos hv).trans (if_pos h32)) (xp_to (hX.itm hs8 (by omega) (nar_in hvv)) (hi_up (by omega))))
      · refine z_aload_n E dX5_put_35 rfl ?_
        refine z_iload E dX5_put_36 rfl ?_
        refine c_VQ E dX5_put_38 lkX5_63 (ok_found hX _ hl 172) (by rfl) rfl rfl rfl (Nat.le_of_ble_eq_true rfl) ⟨(Nat.le_of_ble_eq_true rfl), (Nat.le_of_ble_eq_true rfl)⟩ ⟨rfl, rfl⟩ ⟨Nat.zero_le _, Nat.zero_le _⟩ (fun g1 hg1 => ?_)
        exact z_iret E F dX5_put_41 (fin hop ((if_pos hv).trans (if_neg h32)) hg1)
    · exact hbad (fun v => h11 v.2)
set_option maxRecDepth 100000 in
theorem x_get {A : Nat → Nat → Int} {σ : St} (hX : XI A σ) (s fo i : Int) (hs : inR s) (hf : inR fo) (hi : inR i) : OkI mX5_get [.ref 0, .int (iI s), .int (iI fo), .int (iI i)] 172 (mA A) (.int (iI (opGet σ s fo i).1)) (XP A (opGet σ s fo i).2) := by
  generalize hop : opGet σ s fo i = R
  refine OkM.of [some (.ref 0), some (.int (iI s)), some (.int (iI fo)), some (.int (iI i)), none] (by decide +kernel) rfl (Nat.le_of_ble_eq_true rfl) ?_
  intro X E F
  have hbad : ¬ (iS s ∧ iF fo) → Zc X 14 [some (.ref 0), some (.int (iI s)), some (.int (iI fo)), some (.int (iI i)), none] [] 172 (mA A) 0 0 := by
    intro hv
    refine z_ldc (z := -2147483648) E ctX5_89 (by decide) dX5_get_14 ?_
    exact z_iret E F dX5_get_16 (fin hop (if_neg hv) (xp_same hX))
  refine z_iload_n E dX5_get_0 rfl ?_
  refine c_S E dX5_get_1 lkX5_56 (ok_isSheet5 s hs 172 _) rfl rfl rfl (Nat.le_of_ble_eq_true rfl) ⟨(Nat.le_of_ble_eq_true rfl), (Nat.le_of_ble_eq_true rfl)⟩ ⟨rfl, rfl⟩ ⟨Nat.zero_le _, Nat.zero_le _⟩ ?_
  refine z_bif_eq (tgt := 14) E dX5_get_4 (by decide) (fun h4 => ?_) (fun h4 => ?_)
  · exact hbad (fun v => h4 v.1)
  · refine z_iload_n E dX5_get_7 rfl ?_
    refine c_S E dX5_get_8 lkX5_60 (ok_isForm5 fo hf 172 _) rfl rfl rfl (Nat.le_of_ble_eq_true rfl) ⟨(Nat.le_of_ble_eq_true rfl), (Nat.le_of_ble_eq_true rfl)⟩ ⟨rfl, rfl⟩ ⟨Nat.zero_le _, Nat.zero_le _⟩ ?_
    refine z_bif_ne (tgt := 17) E dX5_get_11 (by decide) (fun h11 => ?_) (fun h11 => ?_)
    · have hv : iS s ∧ iF fo := ⟨h4, h11⟩
      obtain ⟨s, rfl⟩ := nat_of h4.1
      have hs8 : s < 8 := by omega
      have hl := lkS_in σ s fo i
      refine z_aload_n E dX5_get_17 rfl ?_
      refine z_get E dX5_get_18 (by rfl) flX5_11 (by rfl) ?_
      refine z_iload_n E dX5_get_21 rfl ?_
      refine a_aald (j := s) E dX5_get_22 rfl (by omega) (by omega) (by omega) (by omega) ?_
      refine z_iload_n E dX5_get_23 rfl ?_
      refine z_iload_n E dX5_get_24 rfl ?_
      refine c_V E dX5_get_25 lkX5_78 (ok_findingAt hs8 hX fo i hf hi 172) (cel_sheet hs8 _) rfl rfl rfl (Nat.le_of_ble_eq_true rfl) ⟨(Nat.le_of_ble_eq_true rfl), (Nat.le_of_ble_eq_true rfl)⟩ ⟨rfl, rfl⟩ ⟨Nat.zero_le _, Nat.zero_le _⟩ ?_
      refine z_istore (ls' := [_, _, _, _, _]) E dX5_get_28 (Nat.le_of_ble_eq_true rfl) rfl ?_
      refine z_iload E dX5_get_30 rfl ?_
      refine z_if_eq (tgt := 45) E (by omega) dX5_get_32 (by decide) (fun h32 => ?_) (fun h32 => ?_)
      · obtain ⟨q1, q2, q3, q4⟩ := lkS_0 h32
        have r3 := (hX.2.2.1 s hs8).2.2.1
        obtain ⟨i, rfl⟩ := nat_of q3
        refine z_aload_n E dX5_get_45 rfl ?_
        refine z_get E dX5_get_46 (by rfl) flX5_11 (by rfl) ?_
        refine z_iload_n E dX5_get_49 rfl ?_
        refine a_aald (j := s) E dX5_get_50 rfl (by omega) (by omega) (by omega) (by omega) ?_
        refine z_get E dX5_get_51 (cel_sheet hs8 _) flX5_82 (by rfl) ?_
        refine z_iload_n E dX5_get_54 rfl ?_
        refine a_iald (j := i) E dX5_get_55 (cel_items hs8) (by omega) (by omega) (by omega) ?_
        rw [(hX.2.1.1 s hs8).2.2.2 i (by omega)]
        exact z_iret E F dX5_get_56 (fin hop ((if_pos hv).trans (if_pos h32)) (xp_same hX))
      · refine z_aload_n E dX5_get_35 rfl ?_
        refine z_iload E dX5_get_36 rfl ?_
        refine c_VQ E dX5_get_38 lkX5_63 (ok_found hX _ hl 172) (by rfl) rfl rfl rfl (Nat.le_of_ble_eq_true rfl) ⟨(Nat.le_of_ble_eq_true rfl), (Nat.le_of_ble_eq_true rfl)⟩ ⟨rfl, rfl⟩ ⟨Nat.zero_le _, Nat.zero_le _⟩ (fun g1 hg1 => ?_)
        refine z_pop E dX5_get_41 rfl ?_
        refine z_ldc (z := -2147483648) E ctX5_89 (by decide) dX5_get_42 ?_
        exact z_iret E F dX5_get_44 (fin hop ((if_pos hv).trans (if_neg h32)) hg1)
    · exact hbad (fun v => h11 v.2)
set_option maxRecDepth 100000 in
theorem x_term {A : Nat → Nat → Int} {σ : St} (hX : XI A σ) (s i : Int) (hs : inR s) (hi : inR i) : OkI mX5_term [.ref 0, .int (iI s), .int (iI i)] 172 (mA A) (.int (iI (opTerm σ s i).1)) (XP A (opTerm σ s i).2) := by
  generalize hop : opTerm σ s i = R
  refine OkM.of [some (.ref 0), some (.int (iI s)), some (.int (iI i))] (by decide +kernel) rfl (Nat.le_of_ble_eq_true rfl) ?_
  intro X E F
  have hbad : ¬ (iS s ∧ iP i) → Zc X 14 [some (.ref 0), some (.int (iI s)), some (.int (iI i))] [] 172 (mA A) 0 0 := by
    intro hv
    refine z_bipush E (by decide) dX5_term_14 ?_
    exact z_iret E F dX5_term_16 (fin hop (if_neg hv) (xp_same hX))
  refine z_iload_n E dX5_term_0 rfl ?_
  refine c_S E dX5_term_1 lkX5_56 (ok_isSheet5 s hs 172 _) rfl rfl rfl (Nat.le_of_ble_eq_true rfl) ⟨(Nat.le_of_ble_eq_true rfl), (Nat.le_of_ble_eq_true rfl)⟩ ⟨rfl, rfl⟩ ⟨Nat.zero_le _, Nat.zero_le _⟩ ?_
  refine z_bif_eq (tgt := 14) E dX5_term_4 (by decide) (fun h4 => ?_) (fun h4 => ?_)
  · exact hbad (fun v => h4 v.1)
  · refine z_iload_n E dX5_term_7 rfl ?_
    refine c_S E dX5_term_8 lkX5_103 (ok_isPlace5 i hi 172 _) rfl rfl rfl (Nat.le_of_ble_eq_true rfl) ⟨(Nat.le_of_ble_eq_true rfl), (Nat.le_of_ble_eq_true rfl)⟩ ⟨rfl, rfl⟩ ⟨Nat.zero_le _, Nat.zero_le _⟩ ?_
    refine z_bif_ne (tgt := 17) E dX5_term_11 (by decide) (fun h11 => ?_) (fun h11 => ?_)
    · have hv : iS s ∧ iP i := ⟨h4, h11⟩
      obtain ⟨s, rfl⟩ := nat_of h4.1
      obtain ⟨i, rfl⟩ := nat_of h11.1
      have hs8 : s < 8 := by omega
      have v1 := (hX.2.1.1 s hs8).1
      have r1 := (hX.2.2.1 s hs8).1
      refine z_aload_n E dX5_term_17 rfl ?_
      refine z_get E dX5_term_18 (by rfl) flX5_11 (by rfl) ?_
      refine z_iload_n E dX5_term_21 rfl ?_
      refine a_aald (j := s) E dX5_term_22 rfl (by omega) (by omega) (by omega) (by omega) ?_
      refine z_get E dX5_term_23 (cel_sheet hs8 _) flX5_71 (by rfl) ?_
      rw [v1]
      refine z_if_eq (tgt := 35) E (by omega) dX5_term_26 (by decide) (fun h26 => ?_) (fun h26 => ?_)
      · refine z_aload_n E dX5_term_35 rfl ?_
        refine z_get E dX5_term_36 (by rfl) flX5_11 (by rfl) ?_
        refine z_iload_n E dX5_term_39 rfl ?_
        refine a_aald (j := s) E dX5_term_40 rfl (by omega) (by omega) (by omega) (by omega) ?_
        refine z_iload_n E dX5_term_41 rfl ?_
        refine c_V E dX5_term_42 lkX5_106 (ok_number hs8 hX i (by omega) 172) (cel_sheet hs8 _) rfl rfl rfl (Nat.le_of_ble_eq_true rfl) ⟨(Nat.le_of_ble_eq_true rfl), (Nat.le_of_ble_eq_true rfl)⟩ ⟨rfl, rfl⟩ ⟨Nat.zero_le _, Nat.zero_le _⟩ ?_
        exact z_iret E F dX5_term_45 (fin hop ((if_pos hv).trans (if_neg (by show ¬ σ s 0 = 0; omega))) (xp_same hX))
      · refine z_aload_n E dX5_term_29 rfl ?_
        refine z_iconst E dX5_term_30 ?_
        refine c_VQ E dX5_term_31 lkX5_63 (ok_found hX 1 (by omega) 172) (by rfl) rfl rfl rfl (Nat.le_of_ble_eq_true rfl) ⟨(Nat.le_of_ble_eq_true rfl), (Nat.le_of_ble_eq_true rfl)⟩ ⟨rfl, rfl⟩ ⟨Nat.zero_le _, Nat.zero_le _⟩ (fun g1 hg1 => ?_)
        exact z_iret E F dX5_term_34 (fin hop ((if_pos hv).trans (if_pos (by show σ s 0 = 0; omega))) hg1)
    · exact hbad (fun v => h11 v.2)
