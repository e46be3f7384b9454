/-! the reference: its state, what its calls share -/
theorem MI.scr {A A' : Nat → Nat → Int} {σ : St} (h : MI A σ) (e : ∀ k, ((156 ≤ k ∧ k ≤ 160) ∨ 170 ≤ k) → A' k = A k) : MI A' σ := by
  obtain ⟨hV, hS⟩ := h
  refine ⟨⟨fun s hs => ?_, fun k hk => ?_, by rw [e 156 (by omega)]; exact hV.2.2⟩, hS⟩
  · rw [e 157 (by omega), e 158 (by omega), e 159 (by omega), e 160 (by omega)]; exact hV.1 s hs
  · rw [e 170 (by omega), e 171 (by omega)]; exact hV.2.1 k hk
theorem MI.ups {A : Nat → Nat → Int} {σ : St} (h : MI A σ) {k : Nat} {f : Nat → Int} (hk : k < 156 ∨ (161 ≤ k ∧ k < 170)) : MI (va_up A k f) σ := h.scr (fun j hj => va_up_ne _ _ (by omega))
theorem MI.fin {A : Nat → Nat → Int} {σ : St} (h : MI A σ) {n : Int} (hn : inR n) : MI (va_up A 156 (up (A 156) 5 n)) (fnd σ n) := by
  obtain ⟨hV, hS⟩ := h
  have e : ∀ k, k ≠ 156 → va_up A 156 (up (A 156) 5 n) k = A k := fun k hk => va_up_ne _ _ hk
  have e2 : ∀ s, s ≠ 12 → fnd σ n s = σ s := fun s hs => va_up_ne _ _ hs
  refine ⟨⟨fun s hs => ?_, fun k hk => ?_, ?_⟩, hS.fin hn⟩
  · rw [e 157 (by omega), e 158 (by omega), e 159 (by omega), e 160 (by omega), e2 s (by omega)]; exact hV.1 s hs
  · rw [e 170 (by omega), e 171 (by omega), e2 (8 + k) (by omega)]; exact hV.2.1 k hk
  · show va_up A 156 _ 156 5 = va_up σ 12 _ 12 0; rw [va_up_self, va_up_self, up_eq, up_eq]
theorem MI.shs {A A' : Nat → Nat → Int} {σ : St} (h : MI A σ) {s : Nat} (hs : s < 8) {fo sz : Int} {f : Nat → Int} (h1 : 0 ≤ fo ∧ fo < 3) (h2 : 0 ≤ sz ∧ sz ≤ 20) (h3 : ∀ j, j < 20 → inR (f j))
    (e : ∀ k, (k = 156 ∨ 170 ≤ k) → A' k = A k) (e7 : A' 157 = up (A 157) s 1) (e8 : A' 158 = up (A 158) s fo) (e9 : A' 159 = up (A 159) s sz) (e0 : ∀ t j, t < 8 → j < 20 → A' 160 (20 * t + j) = if t = s then f j else A 160 (20 * t + j)) : MI A' (setSh σ s fo sz f) := by
  obtain ⟨hV, hS⟩ := h
  refine ⟨⟨fun t ht => ?_, fun k hk => ?_, ?_⟩, hS.sh hs h1 h2 h3⟩
  · rw [e7, e8, e9]
    by_cases et : t = s
    · subst et
      unfold setSh
      rw [va_up_self, up_eq, up_eq, up_eq]
      refine ⟨rfl, rfl, rfl, fun j hj => ?_⟩
      rw [shR_it, e0 t j ht hj, if_pos rfl]
    · unfold setSh
      rw [va_up_ne _ _ et, up_ne _ _ et, up_ne _ _ et, up_ne _ _ et]
      obtain ⟨v1, v2, v3, v4⟩ := hV.1 t ht
      exact ⟨v1, v2, v3, fun j hj => by rw [e0 t j ht hj, if_neg et]; exact v4 j hj⟩
  · unfold setSh
    rw [va_up_ne _ _ (by omega), e 170 (by omega), e 171 (by omega)]; exact hV.2.1 k hk
  · unfold setSh
    rw [va_up_ne _ _ (by omega), e 156 (by omega)]; exact hV.2.2
def MP (A : Nat → Nat → Int) (σ : St) (g : Mem) : Prop := ∃ A', g = mA A' ∧ MI A' σ ∧ Lo A A'
theorem mp_same {A : Nat → Nat → Int} {σ : St} (h : MI A σ) : MP A σ (mA A) := ⟨A, rfl, h, fun _ _ => rfl⟩
theorem mp_to {A A' : Nat → Nat → Int} {σ : St} (h : MI A' σ) (hh : Lo A A') : MP A σ (mA A') := ⟨A', rfl, h, hh⟩
theorem mp_tr {A A' : Nat → Nat → Int} {σ : St} {g : Mem} (hh : Lo A A') (h : MP A' σ g) : MP A σ g := by
  obtain ⟨A2, h1, h2, h3⟩ := h
  exact ⟨A2, h1, h2, fun k hk => (h3 k hk).trans (hh k hk)⟩
theorem lo_up {A : Nat → Nat → Int} {k : Nat} {f : Nat → Int} (hk : 156 ≤ k) : Lo A (va_up A k f) := fun j hj => va_up_ne _ _ (by omega)
theorem lo_tr {A B C : Nat → Nat → Int} (h1 : Lo A B) (h2 : Lo B C) : Lo A C := fun k hk => (h2 k hk).trans (h1 k hk)
theorem ok_meets {A : Nat → Nat → Int} {σ : St} (hM : MI A σ) (n : Int) (hn : inR n) (N : Nat) : OkI mX6_meets [.ref 156, .int (iI n)] N (mA A) (.int (iI (-10 - n))) (MP A (fnd σ n)) := by
  refine OkM.of [some (.ref 156), some (.int (iI n))] (by decide +kernel) rfl (Nat.le_of_ble_eq_true rfl) ?_
  intro X E F
  refine z_aload_n E dX6_meets_0 rfl ?_
  refine z_iload_n E dX6_meets_1 rfl ?_
  refine a_put E dX6_meets_2 fpX6_66 rfl rfl ?_
  refine z_bipush E (by decide) dX6_meets_5 ?_
  refine z_iload_n E dX6_meets_7 rfl ?_
  refine z_isub E dX6_meets_8 ?_
  exact z_iret E F dX6_meets_9 ⟨rfl, mp_to (hM.fin hn) (lo_up (by omega))⟩
theorem ok_isLost1 {A : Nat → Nat → Int} {σ : St} (hM : MI A σ) {s : Nat} (hs : s < 8) (hl : σ s 0 = 1) (N : Nat) : OkR mX6_isLost [.ref 156, .int (iI (s : Int))] N (mA A) (some (.int (iI 0))) (mA A) := by
  have v1 := (hM.1.1 s hs).1
  refine OkM.of [some (.ref 156), some (.int (iI (s : Int)))] (by decide +kernel) rfl (Nat.le_of_ble_eq_true rfl) ?_
  intro X E F
  refine z_aload_n E dX6_isLost_0 rfl ?_
  refine z_get E dX6_isLost_1 (by rfl) flX6_7 (by rfl) ?_
  refine z_iload_n E dX6_isLost_4 rfl ?_
  refine a_zald (j := s) E dX6_isLost_5 (fun _ => rfl) (by omega) (by omega) (by omega) ?_
  rw [v1]
  refine z_if_eq (tgt := 11) E (by omega) dX6_isLost_6 (by decide) (fun h6 => ?_) (fun h6 => ?_)
  · omega
  · refine z_iconst E dX6_isLost_9 ?_
    exact z_zret E F (by first | exact Or.inl rfl | exact Or.inr rfl) dX6_isLost_10 ⟨rfl, rfl⟩
theorem ok_isLost0 {A : Nat → Nat → Int} {σ : St} (hM : MI A σ) {s : Nat} (hs : s < 8) (hl : σ s 0 = 0) (N : Nat) : OkI mX6_isLost [.ref 156, .int (iI (s : Int))] N (mA A) (.int (iI 1)) (MP A (fnd σ 1)) := by
  have v1 := (hM.1.1 s hs).1
  refine OkM.of [some (.ref 156), some (.int (iI (s : Int)))] (by decide +kernel) rfl (Nat.le_of_ble_eq_true rfl) ?_
  intro X E F
  refine z_aload_n E dX6_isLost_0 rfl ?_
  refine z_get E dX6_isLost_1 (by rfl) flX6_7 (by rfl) ?_
  refine z_iload_n E dX6_isLost_4 rfl ?_
  refine a_zald (j := s) E dX6_isLost_5 (fun _ => rfl) (by omega) (by omega) (by omega) ?_
  rw [v1]
  refine z_if_eq (tgt := 11) E (by omega) dX6_isLost_6 (by decide) (fun h6 => ?_) (fun h6 => ?_)
  · refine z_aload_n E dX6_isLost_11 rfl ?_
    refine z_iconst E dX6_isLost_12 ?_
    refine a_put E dX6_isLost_13 fpX6_66 rfl rfl ?_
    refine z_iconst E dX6_isLost_16 ?_
    exact z_zret E F (by first | exact Or.inl rfl | exact Or.inr rfl) dX6_isLost_17 ⟨rfl, mp_to (hM.fin (by omega)) (lo_up (by omega))⟩
  · omega
set_option maxRecDepth 100000 in
theorem ok_lacks {A : Nat → Nat → Int} {σ : St} (hM : MI A σ) {s : Nat} (hs : s < 8) (fo i : Int) (hf : inR fo) (hi : inR i) (N : Nat) : OkR mX6_lacks [.ref 156, .int (iI (s : Int)), .int (iI fo), .int (iI i)] N (mA A) (some (.int (iI (lkS σ s fo i)))) (mA A) := by
  obtain ⟨v1, v2, v3, v4⟩ := hM.1.1 s hs
  obtain ⟨r1, r2, r3, r4⟩ := hM.2.1 s hs
  refine OkM.of [some (.ref 156), some (.int (iI (s : Int))), some (.int (iI fo)), some (.int (iI i))] (by decide +kernel) rfl (Nat.le_of_ble_eq_true rfl) ?_
  intro X E F
  refine z_aload_n E dX6_lacks_0 rfl ?_
  refine z_get E dX6_lacks_1 (by rfl) flX6_7 (by rfl) ?_
  refine z_iload_n E dX6_lacks_4 rfl ?_
  refine a_zald (j := s) E dX6_lacks_5 (fun _ => rfl) (by omega) (by omega) (by omega) ?_
  rw [v1]
  refine z_if_ne (tgt := 13) E (by omega) dX6_lacks_6 (by decide) (fun h6 => ?_) (fun h6 => ?_)
  · refine z_aload_n E dX6_lacks_13 rfl ?_
    refine z_get E dX6_lacks_14 (by rfl) flX6_13 (by rfl) ?_
    refine z_iload_n E dX6_lacks_17 rfl ?_
    refine a_iald (j := s) E dX6_lacks_18 (fun _ => rfl) (by omega) (by omega) (by omega) ?_
    rw [v2]
    refine z_iload_n E dX6_lacks_19 rfl ?_
    refine z_icmp_eq (tgt := 27) E (by omega) (by omega) dX6_lacks_20 (by decide) (fun h20 => ?_) (fun h20 => ?_)
    · refine z_iload_n E dX6_lacks_27 rfl ?_
      refine z_iconst E dX6_lacks_28 ?_
      refine z_aload_n E dX6_lacks_29 rfl ?_
      refine z_get E dX6_lacks_30 (by rfl) flX6_17 (by rfl) ?_
      refine z_iload_n E dX6_lacks_33 rfl ?_
      refine a_iald (j := s) E dX6_lacks_34 (fun _ => rfl) (by omega) (by omega) (by omega) ?_
      rw [v3]
      refine z_iconst E dX6_lacks_35 ?_
      refine z_isub E dX6_lacks_36 ?_
      refine c_S E dX6_lacks_37 lkX6_70 (ok_inB i 0 (σ s 2 - 1) (0 ≤ i ∧ i < σ s 2) (by omega) hi (by omega) (by omega) N (mA A)) rfl rfl rfl (Nat.le_of_ble_eq_true rfl) ⟨(Nat.le_of_ble_eq_true rfl), (Nat.le_of_ble_eq_true rfl)⟩ ⟨rfl, rfl⟩ ⟨Nat.zero_le _, Nat.zero_le _⟩ ?_
      refine z_bif_eq (tgt := 47) E dX6_lacks_40 (by decide) (fun h40 => ?_) (fun h40 => ?_)
      · refine z_iconst E dX6_lacks_47 ?_
        exact z_iret E F dX6_lacks_48 ⟨by rw [lkS, if_neg (by omega), if_neg (by omega), if_neg h40], rfl⟩
      · refine z_iconst E dX6_lacks_43 ?_
        refine z_goto (tgt := 48) E dX6_lacks_44 (by decide) ?_
        exact z_iret E F dX6_lacks_48 ⟨by rw [lkS, if_neg (by omega), if_neg (by omega), if_pos h40], rfl⟩
    · refine z_iconst E dX6_lacks_23 ?_
      refine z_goto (tgt := 48) E dX6_lacks_24 (by decide) ?_
      exact z_iret E F dX6_lacks_48 ⟨by rw [lkS, if_neg (by omega), if_pos h20], rfl⟩
  · refine z_iconst E dX6_lacks_9 ?_
    refine z_goto (tgt := 48) E dX6_lacks_10 (by decide) ?_
    exact z_iret E F dX6_lacks_48 ⟨by rw [lkS, if_pos (by omega)], rfl⟩
set_option maxRecDepth 100000 in
theorem ok_read {A : Nat → Nat → Int} {σ : St} (hM : MI A σ) {s y : Nat} (hs : s < 8) (hy : TenK y) (N : Nat) : OkR mX6_read [.ref 156, .int (iI (s : Int)), .ref y] N (mA A) none (mA (va_up A y (srS σ s))) := by
  obtain ⟨v1, v2, v3, v4⟩ := hM.1.1 s hs
  obtain ⟨r1, r2, r3, r4⟩ := hM.2.1 s hs
  have hy1 := hy.1
  have hy2 := hy.2
  refine OkM.of [some (.ref 156), some (.int (iI (s : Int))), some (.ref y), none] (by decide +kernel) rfl (Nat.le_of_ble_eq_true rfl) ?_
  intro X E F
  refine z_iconst E dX6_read_0 ?_
  refine z_istore_n (ls' := [_, _, _, _]) E rfl dX6_read_1 (Nat.le_of_ble_eq_true rfl) rfl ?_
  have loop : ∀ (m i : Nat), i + m = 10 → ∀ A' : Nat → Nat → Int, A' = va_up A y (fun j => if j < i then srS σ s j else A y j) → Zc X 2 [some (.ref 156), some (.int (iI (s : Int))), some (.ref y), some (.int (iI (i : Int)))] [] N (mA A') 0 0 := by
    intro m
    induction m with
    | zero =>
      intro i hi A' hA
      refine z_iload_n E dX6_read_2 rfl ?_
      refine z_bipush E (by decide) dX6_read_3 ?_
      refine z_icmp_ge (tgt := 46) E (by omega) (by omega) dX6_read_5 (by decide) (fun h5 => ?_) (fun h5 => ?_)
      · refine z_vret E F dX6_read_46 ⟨rfl, ?_⟩
        rw [hA]
        exact row_eq (cel_ten hy) (fun j hj => if_pos (by omega))
      · omega
    | succ m ih =>
      intro i hi A' hA
      have e9 : A' 159 s = σ s 2 := by rw [hA, va_up_ne _ _ (by omega)]; exact v3
      have e0 : A' 160 (20 * s + i) = σ s (3 + i) := by rw [hA, va_up_ne _ _ (by omega)]; exact v4 i (by omega)
      have ri := r4 i (by omega)
      have key : va_up A' y (up (A' y) i (srS σ s i)) = va_up A y (fun j => if j < i + 1 then srS σ s j else A y j) := by
        rw [hA, va_uu, va_up_self]
        refine congrArg (va_up A y) (funext fun j => ?_)
        by_cases e1 : j = i
        · subst e1; rw [up_eq, if_pos (by omega)]
        · rw [up_ne _ _ e1]
          by_cases e2 : j < i
          · rw [if_pos e2, if_pos (by omega)]
          · rw [if_neg e2, if_neg (by omega)]
      refine z_iload_n E dX6_read_2 rfl ?_
      refine z_bipush E (by decide) dX6_read_3 ?_
      refine z_icmp_ge (tgt := 46) E (by omega) (by omega) dX6_read_5 (by decide) (fun h5 => ?_) (fun h5 => ?_)
      · omega
      · refine z_aload_n E dX6_read_8 rfl ?_
        refine z_iload_n E dX6_read_9 rfl ?_
        refine z_iload_n E dX6_read_10 rfl ?_
        refine z_aload_n E dX6_read_11 rfl ?_
        refine z_get E dX6_read_12 (by rfl) flX6_17 (by rfl) ?_
        refine z_iload_n E dX6_read_15 rfl ?_
        refine a_iald (j := s) E dX6_read_16 (fun _ => rfl) (by omega) (by omega) (by omega) ?_
        rw [e9]
        refine z_icmp_ge (tgt := 38) E (by omega) (by omega) dX6_read_17 (by decide) (fun h17 => ?_) (fun h17 => ?_)
        · have k0 : srS σ s i = 0 := by unfold srS; rw [if_neg (by omega)]
          rw [k0] at key
          refine z_iconst E dX6_read_38 ?_
          refine a_iast (j := i) E dX6_read_39 (cel_ten hy) (by omega) (by omega) (by omega) ?_
          refine z_iinc (ls' := [_, _, _, _]) E dX6_read_40 rfl rfl ?_
          refine z_goto (tgt := 2) E dX6_read_43 (by decide) ?_
          rw [ei]
          exact ih (i + 1) (by omega) _ key
        · have k0 : srS σ s i = σ s (3 + i) % 10007 := by unfold srS; rw [if_pos h17]
          rw [k0] at key
          refine z_aload_n E dX6_read_20 rfl ?_
          refine z_get E dX6_read_21 (by rfl) flX6_20 (by rfl) ?_
          refine z_bipush E (by decide) dX6_read_24 ?_
          refine z_iload_n E dX6_read_26 rfl ?_
          refine z_imul E dX6_read_27 ?_
          refine z_iload_n E dX6_read_28 rfl ?_
          refine z_iadd E dX6_read_29 ?_
          refine a_iald (j := 20 * s + i) E dX6_read_30 (fun _ => rfl) (by omega) (by omega) (by omega) ?_
          rw [e0]
          refine z_i2l E (by omega) dX6_read_31 ?_
          refine c_S E dX6_read_32 lkX6_62 (ok_mod _ ⟨by omega, by omega⟩ (by omega) N (mA A')) rfl rfl rfl (Nat.le_of_ble_eq_true rfl) ⟨(Nat.le_of_ble_eq_true rfl), (Nat.le_of_ble_eq_true rfl)⟩ ⟨rfl, rfl⟩ ⟨Nat.zero_le _, Nat.zero_le _⟩ ?_
          refine z_goto (tgt := 39) E dX6_read_35 (by decide) ?_
          refine a_iast (j := i) E dX6_read_39 (cel_ten hy) (by omega) (by omega) (by omega) ?_
          refine z_iinc (ls' := [_, _, _, _]) E dX6_read_40 rfl rfl ?_
          refine z_goto (tgt := 2) E dX6_read_43 (by decide) ?_
          rw [ei]
          exact ih (i + 1) (by omega) _ key
  refine z_mem ?_ (loop 10 0 (by omega) _ rfl)
  exact (row_id (cel_ten hy) (fun j hj => if_neg (by omega))).symm
theorem c160 (f : Nat → Int) : cel 160 f = (6, vals 160 f) := rfl
set_option maxRecDepth 100000 in
theorem ok_tells {A : Nat → Nat → Int} {σ : St} (hM : MI A σ) {x u : Nat} (hx : TenK x) (hu : u < 8) (f : Nat → Int) (hf : A x = f) (rf : rok f) (N : Nat) : OkI mX6_tells [.ref 156, .ref x, .int (iI (u : Int))] N (mA A) (.int (iI (f 9))) (fun g' => ∃ A', g' = mA A' ∧ MI A' (setSr σ u f) ∧ Lo A A' ∧ ∀ k, 161 ≤ k → k < 170 → A' k = A k) := by
  have hx1 := hx.1
  have hx2 := hx.2
  refine OkM.of [some (.ref 156), some (.ref x), some (.int (iI (u : Int))), none] (by decide +kernel) rfl (Nat.le_of_ble_eq_true rfl) ?_
  intro X E F
  refine z_aload_n E dX6_tells_0 rfl ?_
  refine z_get E dX6_tells_1 (by rfl) flX6_7 (by rfl) ?_
  refine z_iload_n E dX6_tells_4 rfl ?_
  refine z_iconst E dX6_tells_5 ?_
  refine a_zast (j := u) E dX6_tells_6 (by omega) (fun _ => rfl) (by omega) (by omega) (by omega) ?_
  refine z_aload_n E dX6_tells_7 rfl ?_
  refine z_get E dX6_tells_8 (by rfl) flX6_13 (by rfl) ?_
  refine z_iload_n E dX6_tells_11 rfl ?_
  refine z_iconst E dX6_tells_12 ?_
  refine a_iast (j := u) E dX6_tells_13 (fun _ => rfl) (by omega) (by omega) (by omega) ?_
  refine z_aload_n E dX6_tells_14 rfl ?_
  refine z_get E dX6_tells_15 (by rfl) flX6_17 (by rfl) ?_
  refine z_iload_n E dX6_tells_18 rfl ?_
  refine z_bipush E (by decide) dX6_tells_19 ?_
  refine a_iast (j := u) E dX6_tells_21 (fun _ => rfl) (by omega) (by omega) (by omega) ?_
  refine z_iconst E dX6_tells_22 ?_
  refine z_istore_n (ls' := [_, _, _, _]) E rfl dX6_tells_23 (Nat.le_of_ble_eq_true rfl) rfl ?_
  rw [va_up_ne (j := 158) (k := 157) _ _ (by omega), va_up_ne (j := 159) (k := 158) _ _ (by omega), va_up_ne (j := 159) (k := 157) _ _ (by omega)]
  generalize hB : va_up (va_up (va_up A 157 (up (A 157) u 1)) 158 (up (A 158) u 2)) 159 (up (A 159) u 10) = B
  have b1 : ∀ k, k ≠ 157 → k ≠ 158 → k ≠ 159 → B k = A k := fun k h1 h2 h3 => by rw [← hB, va_up_ne _ _ h3, va_up_ne _ _ h2, va_up_ne _ _ h1]
  have b7 : B 157 = up (A 157) u 1 := by rw [← hB, va_up_ne _ _ (by omega), va_up_ne _ _ (by omega), va_up_self]
  have b8 : B 158 = up (A 158) u 2 := by rw [← hB, va_up_ne _ _ (by omega), va_up_self]
  have b9 : B 159 = up (A 159) u 10 := by rw [← hB, va_up_self]
  have loop : ∀ (m i : Nat), i + m = 20 → ∀ A' : Nat → Nat → Int, A' = va_up B 160 (fun q => if 20 * u ≤ q ∧ q < 20 * u + i then cut f (q - 20 * u) else A 160 q) → Zc X 24 [some (.ref 156), some (.ref x), some (.int (iI (u : Int))), some (.int (iI (i : Int)))] [] N (mA A') 0 0 := by
    intro m
    induction m with
    | zero =>
      intro i hi A' hA
      have ex : A' x = f := by rw [hA, va_up_ne _ _ (by omega), b1 x (by omega) (by omega) (by omega)]; exact hf
      have e0 : ∀ k, k ≠ 160 → A' k = B k := fun k hk => by rw [hA, va_up_ne _ _ hk]
      refine z_iload_n E dX6_tells_24 rfl ?_
      refine z_bipush E (by decide) dX6_tells_25 ?_
      refine z_icmp_ge (tgt := 60) E (by omega) (by omega) dX6_tells_27 (by decide) (fun h27 => ?_) (fun h27 => ?_)
      · refine z_aload_n E dX6_tells_60 rfl ?_
        refine z_bipush E (by decide) dX6_tells_61 ?_
        refine a_iald (j := 9) E dX6_tells_63 (cel_ten hx) (by omega) (by omega) (by omega) ?_
        rw [ex]
        refine z_iret E F dX6_tells_64 ⟨rfl, A', rfl, ?_, ?_, ?_⟩
        · refine hM.shs hu (by omega) (by omega) (fun j hj => ?_) (fun k hk => ?_) ?_ ?_ ?_ (fun t j ht hj => ?_)
          · unfold cut
            split
            · have := rf j (by omega); omega
            · omega
          · rw [e0 k (by omega)]; exact b1 k (by omega) (by omega) (by omega)
          · rw [e0 157 (by omega)]; exact b7
          · rw [e0 158 (by omega)]; exact b8
          · rw [e0 159 (by omega)]; exact b9
          · rw [hA, va_up_self]
            by_cases et : t = u
            · subst et
              rw [if_pos (by omega), if_pos rfl, show 20 * t + j - 20 * t = j by omega]
            · rw [if_neg (by omega), if_neg et]
        · intro k hk; rw [e0 k (by omega)]; exact b1 k (by omega) (by omega) (by omega)
        · intro k h1 h2; rw [e0 k (by omega)]; exact b1 k (by omega) (by omega) (by omega)
      · omega
    | succ m ih =>
      intro i hi A' hA
      have ex : A' x = f := by rw [hA, va_up_ne _ _ (by omega), b1 x (by omega) (by omega) (by omega)]; exact hf
      have key : va_up A' 160 (up (A' 160) (20 * u + i) (cut f i)) = va_up B 160 (fun q => if 20 * u ≤ q ∧ q < 20 * u + (i + 1) then cut f (q - 20 * u) else A 160 q) := by
        rw [hA, va_uu, va_up_self]
        refine congrArg (va_up B 160) (funext fun q => ?_)
        by_cases e1 : q = 20 * u + i
        · subst e1; rw [up_eq, if_pos (by omega), show 20 * u + i - 20 * u = i by omega]
        · rw [up_ne _ _ e1]
          by_cases e2 : 20 * u ≤ q ∧ q < 20 * u + i
          · rw [if_pos e2, if_pos (by omega)]
          · rw [if_neg e2, if_neg (by omega)]
      refine z_iload_n E dX6_tells_24 rfl ?_
      refine z_bipush E (by decide) dX6_tells_25 ?_
      refine z_icmp_ge (tgt := 60) E (by omega) (by omega) dX6_tells_27 (by decide) (fun h27 => ?_) (fun h27 => ?_)
      · omega
      · refine z_aload_n E dX6_tells_30 rfl ?_
        refine z_get E dX6_tells_31 (by rfl) flX6_20 (by rfl) ?_
        refine z_bipush E (by decide) dX6_tells_34 ?_
        refine z_iload_n E dX6_tells_36 rfl ?_
        refine z_imul E dX6_tells_37 ?_
        refine z_iload_n E dX6_tells_38 rfl ?_
        refine z_iadd E dX6_tells_39 ?_
        refine z_iload_n E dX6_tells_40 rfl ?_
        refine z_bipush E (by decide) dX6_tells_41 ?_
        refine z_icmp_ge (tgt := 52) E (by omega) (by omega) dX6_tells_43 (by decide) (fun h43 => ?_) (fun h43 => ?_)
        · have k0 : cut f i = 0 := by unfold cut; rw [if_neg (by omega)]
          rw [k0] at key
          refine z_iconst E dX6_tells_52 ?_
          refine a_iast (j := 20 * u + i) E dX6_tells_53 (fun _ => rfl) (by omega) (by omega) (by omega) ?_
          refine z_iinc (ls' := [_, _, _, _]) E dX6_tells_54 rfl rfl ?_
          refine z_goto (tgt := 24) E dX6_tells_57 (by decide) ?_
          rw [ei]
          exact ih (i + 1) (by omega) _ key
        · have k0 : cut f i = f i := by unfold cut; rw [if_pos (by omega)]
          rw [k0] at key
          refine z_aload_n E dX6_tells_46 rfl ?_
          refine z_iload_n E dX6_tells_47 rfl ?_
          refine a_iald (j := i) E dX6_tells_48 (cel_ten hx) (by omega) (by omega) (by omega) ?_
          rw [ex]
          refine z_goto (tgt := 53) E dX6_tells_49 (by decide) ?_
          refine a_iast (j := 20 * u + i) E dX6_tells_53 (fun _ => rfl) (by omega) (by omega) (by omega) ?_
          refine z_iinc (ls' := [_, _, _, _]) E dX6_tells_54 rfl rfl ?_
          refine z_goto (tgt := 24) E dX6_tells_57 (by decide) ?_
          rw [ei]
          exact ih (i + 1) (by omega) _ key
  refine z_mem ?_ (loop 20 0 (by omega) _ rfl)
  refine (row_id (A := B) (k := 160) c160 (fun q hq => ?_)).symm
  rw [if_neg (by omega), b1 160 (by omega) (by omega) (by omega)]
set_option maxRecDepth 100000 in
theorem ok_rung {A : Nat → Nat → Int} {σ : St} (hM : MI A σ) {k n y : Nat} (hk : k < 4) (hn : n < 10) (hy : TenK y) (N : Nat) : OkR mX6_rung [.ref 156, .int (iI (k : Int)), .int (iI (n : Int)), .ref y] N (mA A) none (mA (va_up A y (stp σ k n))) := by
  have v4 := (hM.1.2.1 k hk).2
  have hy1 := hy.1
  have hy2 := hy.2
  refine OkM.of [some (.ref 156), some (.int (iI (k : Int))), some (.int (iI (n : Int))), some (.ref y), none] (by decide +kernel) rfl (Nat.le_of_ble_eq_true rfl) ?_
  intro X E F
  refine z_iconst E dX6_rung_0 ?_
  refine z_istore (ls' := [_, _, _, _, _]) E dX6_rung_1 (Nat.le_of_ble_eq_true rfl) rfl ?_
  have loop : ∀ (m i : Nat), i + m = 10 → ∀ A' : Nat → Nat → Int, A' = va_up A y (fun j => if j < i then stp σ k n j else A y j) → Zc X 3 [some (.ref 156), some (.int (iI (k : Int))), some (.int (iI (n : Int))), some (.ref y), some (.int (iI (i : Int)))] [] N (mA A') 0 0 := by
    intro m
    induction m with
    | zero =>
      intro i hi A' hA
      refine z_iload E dX6_rung_3 rfl ?_
      refine z_bipush E (by decide) dX6_rung_5 ?_
      refine z_icmp_ge (tgt := 37) E (by omega) (by omega) dX6_rung_7 (by decide) (fun h7 => ?_) (fun h7 => ?_)
      · refine z_vret E F dX6_rung_37 ⟨rfl, ?_⟩
        rw [hA]
        exact row_eq (cel_ten hy) (fun j hj => if_pos (by omega))
      · omega
    | succ m ih =>
      intro i hi A' hA
      have e1 : A' 171 (100 * k + 10 * n + i) = stp σ k n i := by rw [hA, va_up_ne _ _ (by omega)]; exact v4 n i hn (by omega)
      refine z_iload E dX6_rung_3 rfl ?_
      refine z_bipush E (by decide) dX6_rung_5 ?_
      refine z_icmp_ge (tgt := 37) E (by omega) (by omega) dX6_rung_7 (by decide) (fun h7 => ?_) (fun h7 => ?_)
      · omega
      · refine z_aload_n E dX6_rung_10 rfl ?_
        refine z_iload E dX6_rung_11 rfl ?_
        refine z_aload_n E dX6_rung_13 rfl ?_
        refine z_get E dX6_rung_14 (by rfl) flX6_53 (by rfl) ?_
        refine z_bipush E (by decide) dX6_rung_17 ?_
        refine z_iload_n E dX6_rung_19 rfl ?_
        refine z_imul E dX6_rung_20 ?_
        refine z_bipush E (by decide) dX6_rung_21 ?_
        refine z_iload_n E dX6_rung_23 rfl ?_
        refine z_imul E dX6_rung_24 ?_
        refine z_iadd E dX6_rung_25 ?_
        refine z_iload E dX6_rung_26 rfl ?_
        refine z_iadd E dX6_rung_28 ?_
        refine a_iald (j := 100 * k + 10 * n + i) E dX6_rung_29 (fun _ => rfl) (by omega) (by omega) (by omega) ?_
        rw [e1]
        refine a_iast (j := i) E dX6_rung_30 (cel_ten hy) (by omega) (by omega) (by omega) ?_
        refine z_iinc (ls' := [_, _, _, _, _]) E dX6_rung_31 rfl rfl ?_
        refine z_goto (tgt := 3) E dX6_rung_34 (by decide) ?_
        rw [ei]
        refine ih (i + 1) (by omega) _ ?_
        rw [hA, va_uu, va_up_self]
        refine congrArg (va_up A y) (funext fun j => ?_)
        by_cases e1 : j = i
        · subst e1; rw [up_eq, if_pos (by omega)]
        · rw [up_ne _ _ e1]
          by_cases e2 : j < i
          · rw [if_pos e2, if_pos (by omega)]
          · rw [if_neg e2, if_neg (by omega)]
  refine z_mem ?_ (loop 10 0 (by omega) _ rfl)
  exact (row_id (cel_ten hy) (fun j hj => if_neg (by omega))).symm
theorem stp_rok {A : Nat → Nat → Int} {σ : St} (hM : MI A σ) {k n : Nat} (hk : k < 4) (hn : n < 10) : rok (stp σ k n) := fun j hj => (hM.2.2.1 k hk).2 n j hn hj
theorem ok_stepAt {A : Nat → Nat → Int} {σ : St} (hM : MI A σ) {k n : Nat} (hk : k < 4) (hn : n < 10) (x : Nat) (hx : x < 10007) (N : Nat) : OkR mX6_stepAt [.ref 156, .int (iI (k : Int)), .int (iI (n : Int)), .int (iI (x : Int))] N (mA A) (some (.int (iI (vlL σ k n x)))) (mA (va_up A 162 (stp σ k n))) := by
  refine OkM.of [some (.ref 156), some (.int (iI (k : Int))), some (.int (iI (n : Int))), some (.int (iI (x : Int)))] (by decide +kernel) rfl (Nat.le_of_ble_eq_true rfl) ?_
  intro X E F
  refine z_aload_n E dX6_stepAt_0 rfl ?_
  refine z_iload_n E dX6_stepAt_1 rfl ?_
  refine z_iload_n E dX6_stepAt_2 rfl ?_
  refine z_aload_n E dX6_stepAt_3 rfl ?_
  refine z_get E dX6_stepAt_4 (by rfl) flX6_26 (by rfl) ?_
  refine c_V0 E dX6_stepAt_7 lkX6_145 (ok_rung hM hk hn t162 N) (by rfl) rfl rfl rfl (Nat.le_of_ble_eq_true rfl) ⟨(Nat.le_of_ble_eq_true rfl), (Nat.le_of_ble_eq_true rfl)⟩ ⟨rfl, rfl⟩ ⟨Nat.zero_le _, Nat.zero_le _⟩ ?_
  refine z_aload_n E dX6_stepAt_10 rfl ?_
  refine z_get E dX6_stepAt_11 (by rfl) flX6_26 (by rfl) ?_
  refine z_iload_n E dX6_stepAt_14 rfl ?_
  refine c_S E dX6_stepAt_15 lkX6_131 (ok_valueOf t162 _ (by rw [va_up_self]; exact stp_rok hM hk hn) (x : Int) (by omega) N) rfl rfl rfl (Nat.le_of_ble_eq_true rfl) ⟨(Nat.le_of_ble_eq_true rfl), (Nat.le_of_ble_eq_true rfl)⟩ ⟨rfl, rfl⟩ ⟨Nat.zero_le _, Nat.zero_le _⟩ ?_
  rw [va_up_self]
  have : hv (stp σ k n) (x : Int) 10 = vlL σ k n x := by unfold vlL; rw [show (x : Int) % 10007 = (x : Int) by omega]
  rw [this]
  exact z_iret E F dX6_stepAt_18 ⟨rfl, rfl⟩
/-- BINOMIAL as the reference reckons it -/
def bmP (V : Nat → Nat → Int) (m : Nat) : Prop := ∀ x, x ≤ m → ∀ y, y ≤ m → sm (fun k => chM m k * V k x % 10007 * V (m - k) y) (m + 1) % 10007 = V m (x + y)
theorem vlL_in (σ : St) (k n x : Nat) : 0 ≤ vlL σ k n x ∧ vlL σ k n x < 10007 := hv_in _ _ _
set_option maxRecDepth 100000 in
theorem ok_isBinomial {A : Nat → Nat → Int} {σ : St} (hM : MI A σ) {k m : Nat} (hk : k < 4) (hm : m < 10) (N : Nat) : OkI mX6_isBinomial [.ref 156, .int (iI (k : Int)), .int (iI (m : Int))] N (mA A) (.int (iI (b01 (bmP (vlL σ k) m)))) (fun g' => ∃ R, g' = mA (va_up A 162 R)) := by
  have p1 : ∀ i x, 0 ≤ chM m i * vlL σ k i x ∧ chM m i * vlL σ k i x ≤ 100120036 := fun i x => mul_in (chM_in m i) (vlL_in σ k i x)
  have p2 : ∀ x y i, 0 ≤ chM m i * vlL σ k i x % 10007 * vlL σ k (m - i) y ∧ chM m i * vlL σ k i x % 10007 * vlL σ k (m - i) y ≤ 100120036 := fun x y i => mul_in (by omega) (vlL_in σ k (m - i) y)
  refine OkM.of [some (.ref 156), some (.int (iI (k : Int))), some (.int (iI (m : Int))), none, none, none, none, none] (by decide +kernel) rfl (Nat.le_of_ble_eq_true rfl) ?_
  intro X E F
  refine z_iconst E dX6_isBinomial_0 ?_
  refine z_istore_n (ls' := [_, _, _, _, _, _, _, _]) E rfl dX6_isBinomial_1 (Nat.le_of_ble_eq_true rfl) rfl ?_
  have loop : ∀ (q x : Nat), x + q = m + 1 → (∀ x2, x2 < x → ∀ y, y ≤ m → sm (fun i => chM m i * vlL σ k i x2 % 10007 * vlL σ k (m - i) y) (m + 1) % 10007 = vlL σ k m (x2 + y)) → ∀ (l4 l5 l6 l7 : Option Value) (R : Nat → Int), Zc X 2 [some (.ref 156), some (.int (iI (k : Int))), some (.int (iI (m : Int))), some (.int (iI (x : Int))), l4, l5, l6, l7] [] N (mA (va_up A 162 R)) 0 0 := by
    intro q
    induction q with
    | zero =>
      intro x hx hall l4 l5 l6 l7 R
      refine z_iload_n E dX6_isBinomial_2 rfl ?_
      refine z_iload_n E dX6_isBinomial_3 rfl ?_
      refine z_icmp_gt (tgt := 105) E (by omega) (by omega) dX6_isBinomial_4 (by decide) (fun h4 => ?_) (fun h4 => ?_)
      · refine z_iconst E dX6_isBinomial_105 ?_
        exact z_zret E F (by first | exact Or.inl rfl | exact Or.inr rfl) dX6_isBinomial_106 ⟨by rw [b01_t (show bmP (vlL σ k) m from fun x2 hx2 => hall x2 (by omega))], R, rfl⟩
      · omega
    | succ q ih =>
      intro x hx hall l4 l5 l6 l7 R
      refine z_iload_n E dX6_isBinomial_2 rfl ?_
      refine z_iload_n E dX6_isBinomial_3 rfl ?_
      refine z_icmp_gt (tgt := 105) E (by omega) (by omega) dX6_isBinomial_4 (by decide) (fun h4 => ?_) (fun h4 => ?_)
      · omega
      · refine z_iconst E dX6_isBinomial_7 ?_
        refine z_istore (ls' := [_, _, _, _, _, _, _, _]) E dX6_isBinomial_8 (Nat.le_of_ble_eq_true rfl) rfl ?_
        have loop2 : ∀ (q2 y : Nat), y + q2 = m + 1 → (∀ y2, y2 < y → sm (fun i => chM m i * vlL σ k i x % 10007 * vlL σ k (m - i) y2) (m + 1) % 10007 = vlL σ k m (x + y2)) → ∀ (l5 l6 l7 : Option Value) (R : Nat → Int), Zc X 10 [some (.ref 156), some (.int (iI (k : Int))), some (.int (iI (m : Int))), some (.int (iI (x : Int))), some (.int (iI (y : Int))), l5, l6, l7] [] N (mA (va_up A 162 R)) 0 0 := by
          intro q2
          induction q2 with
          | zero =>
            intro y hy hall2 l5 l6 l7 R
            refine z_iload E dX6_isBinomial_10 rfl ?_
            refine z_iload_n E dX6_isBinomial_12 rfl ?_
            refine z_icmp_gt (tgt := 99) E (by omega) (by omega) dX6_isBinomial_13 (by decide) (fun h13 => ?_) (fun h13 => ?_)
            · refine z_iinc (ls' := [_, _, _, _, _, _, _, _]) E dX6_isBinomial_99 rfl rfl ?_
              refine z_goto (tgt := 2) E dX6_isBinomial_102 (by decide) ?_
              rw [ei]
              refine ih (x + 1) (by omega) (fun x2 hx2 y2 hy2 => ?_) _ _ _ _ _
              by_cases e : x2 = x
              · subst e; exact hall2 y2 (by omega)
              · exact hall x2 (by omega) y2 hy2
            · omega
          | succ q2 ih2 =>
            intro y hy hall2 l5 l6 l7 R
            refine z_iload E dX6_isBinomial_10 rfl ?_
            refine z_iload_n E dX6_isBinomial_12 rfl ?_
            refine z_icmp_gt (tgt := 99) E (by omega) (by omega) dX6_isBinomial_13 (by decide) (fun h13 => ?_) (fun h13 => ?_)
            · omega
            · refine z_lconst (z := 0) E rfl dX6_isBinomial_16 ?_
              refine z_lstore (ls' := [_, _, _, _, _, _, _, _]) E dX6_isBinomial_17 (Nat.le_of_ble_eq_true rfl) rfl ?_
              refine z_iconst E dX6_isBinomial_19 ?_
              refine z_istore (ls' := [_, _, _, _, _, _, _, _]) E dX6_isBinomial_20 (Nat.le_of_ble_eq_true rfl) rfl ?_
              have inner : ∀ (q3 i : Nat), i + q3 = m + 1 → ∀ R : Nat → Int, Zc X 22 [some (.ref 156), some (.int (iI (k : Int))), some (.int (iI (m : Int))), some (.int (iI (x : Int))), some (.int (iI (y : Int))), some (.long (lI (sm (fun i => chM m i * vlL σ k i x % 10007 * vlL σ k (m - i) y) i))), none, some (.int (iI (i : Int)))] [] N (mA (va_up A 162 R)) 0 0 := by
                intro q3
                induction q3 with
                | zero =>
                  intro i hi R
                  have hi2 : i = m + 1 := by omega
                  subst hi2
                  have hsm := sm_in (n := m + 1) (fun i _ => p2 x y i)
                  have rr := vlL_in σ k m (x + y)
                  have hM2 : MI (va_up A 162 R) σ := hM.ups (by omega)
                  refine z_iload E dX6_isBinomial_22 rfl ?_
                  refine z_iload_n E dX6_isBinomial_24 rfl ?_
                  refine z_icmp_gt (tgt := 73) E (by omega) (by omega) dX6_isBinomial_25 (by decide) (fun h25 => ?_) (fun h25 => ?_)
                  · refine z_lload E dX6_isBinomial_73 rfl ?_
                    refine c_S E dX6_isBinomial_75 lkX6_62 (ok_mod _ ⟨by omega, by omega⟩ (by omega) N _) rfl rfl rfl (Nat.le_of_ble_eq_true rfl) ⟨(Nat.le_of_ble_eq_true rfl), (Nat.le_of_ble_eq_true rfl)⟩ ⟨rfl, rfl⟩ ⟨Nat.zero_le _, Nat.zero_le _⟩ ?_
                    refine z_aload_n E dX6_isBinomial_78 rfl ?_
                    refine z_iload_n E dX6_isBinomial_79 rfl ?_
                    refine z_iload_n E dX6_isBinomial_80 rfl ?_
                    refine z_iload_n E dX6_isBinomial_81 rfl ?_
                    refine z_iload E dX6_isBinomial_82 rfl ?_
                    refine z_iadd E dX6_isBinomial_84 ?_
                    rw [show (x : Int) + (y : Int) = ((x + y : Nat) : Int) by omega]
                    refine c_V E dX6_isBinomial_85 lkX6_152 (ok_stepAt hM2 hk hm (x + y) (by omega) N) (by rfl) rfl rfl rfl (Nat.le_of_ble_eq_true rfl) ⟨(Nat.le_of_ble_eq_true rfl), (Nat.le_of_ble_eq_true rfl)⟩ ⟨rfl, rfl⟩ ⟨Nat.zero_le _, Nat.zero_le _⟩ ?_
                    rw [va_uu]
                    refine z_icmp_eq (tgt := 93) E (by omega) (by omega) dX6_isBinomial_88 (by decide) (fun h88 => ?_) (fun h88 => ?_)
                    · refine z_iinc (ls' := [_, _, _, _, _, _, _, _]) E dX6_isBinomial_93 rfl rfl ?_
                      refine z_goto (tgt := 10) E dX6_isBinomial_96 (by decide) ?_
                      rw [ei]
                      refine ih2 (y + 1) (by omega) (fun y2 hy2 => ?_) _ _ _ _
                      by_cases e : y2 = y
                      · subst e; exact h88
                      · exact hall2 y2 (by omega)
                    · refine z_iconst E dX6_isBinomial_91 ?_
                      exact z_zret E F (by first | exact Or.inl rfl | exact Or.inr rfl) dX6_isBinomial_92 ⟨by rw [b01_f (show ¬ bmP (vlL σ k) m from fun h => h88 (h x (by omega) y (by omega)))], _, rfl⟩
                  · omega
                | succ q3 ih3 =>
                  intro i hi R
                  have hM2 : MI (va_up A 162 R) σ := hM.ups (by omega)
                  have hM3 : MI (va_up A 162 (stp σ k i)) σ := hM.ups (by omega)
                  have r1 := chM_in m i
                  have r2 := vlL_in σ k i x
                  have r3 := vlL_in σ k (m - i) y
                  have pp := p1 i x
                  have pp2 := p2 x y i
                  refine z_iload E dX6_isBinomial_22 rfl ?_
                  refine z_iload_n E dX6_isBinomial_24 rfl ?_
                  refine z_icmp_gt (tgt := 73) E (by omega) (by omega) dX6_isBinomial_25 (by decide) (fun h25 => ?_) (fun h25 => ?_)
                  · omega
                  · refine z_lload E dX6_isBinomial_28 rfl ?_
                    refine z_iload_n E dX6_isBinomial_30 rfl ?_
                    refine z_iload E dX6_isBinomial_31 rfl ?_
                    refine c_S E dX6_isBinomial_33 lkX6_149 (ok_choose m i (by omega) (by omega) N _) rfl rfl rfl (Nat.le_of_ble_eq_true rfl) ⟨(Nat.le_of_ble_eq_true rfl), (Nat.le_of_ble_eq_true rfl)⟩ ⟨rfl, rfl⟩ ⟨Nat.zero_le _, Nat.zero_le _⟩ ?_
                    refine z_i2l E (by omega) dX6_isBinomial_36 ?_
                    refine z_aload_n E dX6_isBinomial_37 rfl ?_
                    refine z_iload_n E dX6_isBinomial_38 rfl ?_
                    refine z_iload E dX6_isBinomial_39 rfl ?_
                    refine z_iload_n E dX6_isBinomial_41 rfl ?_
                    refine c_V E dX6_isBinomial_42 lkX6_152 (ok_stepAt hM2 hk (n := i) (by omega) x (by omega) N) (by rfl) rfl rfl rfl (Nat.le_of_ble_eq_true rfl) ⟨(Nat.le_of_ble_eq_true rfl), (Nat.le_of_ble_eq_true rfl)⟩ ⟨rfl, rfl⟩ ⟨Nat.zero_le _, Nat.zero_le _⟩ ?_
                    rw [va_uu]
                    refine z_i2l E (by omega) dX6_isBinomial_45 ?_
                    refine z_lmul E dX6_isBinomial_46 ?_
                    refine c_S E dX6_isBinomial_47 lkX6_62 (ok_mod _ ⟨by omega, by omega⟩ (by omega) N _) rfl rfl rfl (Nat.le_of_ble_eq_true rfl) ⟨(Nat.le_of_ble_eq_true rfl), (Nat.le_of_ble_eq_true rfl)⟩ ⟨rfl, rfl⟩ ⟨Nat.zero_le _, Nat.zero_le _⟩ ?_
                    refine z_i2l E (by omega) dX6_isBinomial_50 ?_
                    refine z_aload_n E dX6_isBinomial_51 rfl ?_
                    refine z_iload_n E dX6_isBinomial_52 rfl ?_
                    refine z_iload_n E dX6_isBinomial_53 rfl ?_
                    refine z_iload E dX6_isBinomial_54 rfl ?_
                    refine z_isub E dX6_isBinomial_56 ?_
                    refine z_iload E dX6_isBinomial_57 rfl ?_
                    rw [show (m : Int) - (i : Int) = ((m - i : Nat) : Int) by omega]
                    refine c_V E dX6_isBinomial_59 lkX6_152 (ok_stepAt hM3 hk (n := m - i) (by omega) y (by omega) N) (by rfl) rfl rfl rfl (Nat.le_of_ble_eq_true rfl) ⟨(Nat.le_of_ble_eq_true rfl), (Nat.le_of_ble_eq_true rfl)⟩ ⟨rfl, rfl⟩ ⟨Nat.zero_le _, Nat.zero_le _⟩ ?_
                    rw [va_uu]
                    refine z_i2l E (by omega) dX6_isBinomial_62 ?_
                    refine z_lmul E dX6_isBinomial_63 ?_
                    refine z_ladd E dX6_isBinomial_64 ?_
                    refine z_lstore (ls' := [_, _, _, _, _, _, _, _]) E dX6_isBinomial_65 (Nat.le_of_ble_eq_true rfl) rfl ?_
                    refine z_iinc (ls' := [_, _, _, _, _, _, _, _]) E dX6_isBinomial_67 rfl rfl ?_
                    refine z_goto (tgt := 22) E dX6_isBinomial_70 (by decide) ?_
                    rw [ei]
                    exact ih3 (i + 1) (by omega) _
              exact inner (m + 1) 0 (by omega) R
        exact loop2 (m + 1) 0 (by omega) (fun y2 h => by omega) _ _ _ R
  have := loop (m + 1) 0 (by omega) (fun x2 h => by omega) none none none none (A 162)
  rw [up_same] at this
  exact this
/-- a difference as the reference reckons it: the row's sum, signs changing, the last as it is -/
def dsT (c : Nat → Int) (x : Int) (k : Nat) (i : Nat) : Int := if (k - i) % 2 = 0 then chM k i * hv c ((x + (i : Int)) % 10007) 10 else -(chM k i * hv c ((x + (i : Int)) % 10007) 10)
def dfM (c : Nat → Int) (x : Int) (k : Nat) : Int := sm (dsT c x k) (k + 1) % 10007
theorem sm_abs {f : Nat → Int} {C : Int} : ∀ {n : Nat}, (∀ i, i < n → -C ≤ f i ∧ f i ≤ C) → -((n : Int) * C) ≤ sm f n ∧ sm f n ≤ (n : Int) * C
  | 0, _ => by simp [sm]
  | n + 1, h => by
    have h1 := sm_abs (f := f) (C := C) (n := n) (fun i hi => h i (by omega))
    have h2 := h n (by omega)
    simp only [sm]
    have e : ((n + 1 : Nat) : Int) * C = (n : Int) * C + C := by
      rw [show ((n + 1 : Nat) : Int) = (n : Int) + 1 from rfl, Int.add_mul, Int.one_mul]
    omega
set_option maxRecDepth 100000 in
theorem ok_differs (A : Nat → Nat → Int) (ra : rok (A 162)) (k : Nat) (hk : k < 10) (x : Int) (hx : 0 ≤ x ∧ x < 10007) (N : Nat) : OkR mX6_differs [.ref 156, .int (iI (k : Int)), .int (iI x)] N (mA A) (some (.int (iI (dfM (A 162) x k)))) (mA A) := by
  have p1 : ∀ i, 0 ≤ chM k i * hv (A 162) ((x + (i : Int)) % 10007) 10 ∧ chM k i * hv (A 162) ((x + (i : Int)) % 10007) 10 ≤ 100120036 := fun i => mul_in (chM_in k i) (hv_in _ _ _)
  have p2 : ∀ i, -100120036 ≤ dsT (A 162) x k i ∧ dsT (A 162) x k i ≤ 100120036 := fun i => by have := p1 i; unfold dsT; split <;> omega
  refine OkM.of [some (.ref 156), some (.int (iI (k : Int))), some (.int (iI x)), none, none, none, none, none] (by decide +kernel) rfl (Nat.le_of_ble_eq_true rfl) ?_
  intro X E F
  refine z_lconst (z := 0) E rfl dX6_differs_0 ?_
  refine z_lstore_n (ls' := [_, _, _, _, _, _, _, _]) E rfl dX6_differs_1 (Nat.le_of_ble_eq_true rfl) rfl ?_
  refine z_iconst E dX6_differs_2 ?_
  refine z_istore (ls' := [_, _, _, _, _, _, _, _]) E dX6_differs_3 (Nat.le_of_ble_eq_true rfl) rfl ?_
  have loop : ∀ (m i : Nat), i + m = k + 1 → ∀ (l6 l7 : Option Value), Zc X 5 [some (.ref 156), some (.int (iI (k : Int))), some (.int (iI x)), some (.long (lI (sm (dsT (A 162) x k) i))), none, some (.int (iI (i : Int))), l6, l7] [] N (mA A) 0 0 := by
    intro m
    induction m with
    | zero =>
      intro i hi l6 l7
      have hi2 : i = k + 1 := by omega
      subst hi2
      have hs := sm_abs (n := k + 1) (fun i _ => p2 i)
      refine z_iload E dX6_differs_5 rfl ?_
      refine z_iload_n E dX6_differs_7 rfl ?_
      refine z_icmp_gt (tgt := 64) E (by omega) (by omega) dX6_differs_8 (by decide) (fun h8 => ?_) (fun h8 => ?_)
      · refine z_lload_n E dX6_differs_64 rfl ?_
        refine c_S E dX6_differs_65 lkX6_62 (ok_mod _ ⟨by omega, by omega⟩ (by omega) N (mA A)) rfl rfl rfl (Nat.le_of_ble_eq_true rfl) ⟨(Nat.le_of_ble_eq_true rfl), (Nat.le_of_ble_eq_true rfl)⟩ ⟨rfl, rfl⟩ ⟨Nat.zero_le _, Nat.zero_le _⟩ ?_
        exact z_iret E F dX6_differs_68 ⟨rfl, rfl⟩
      · omega
    | succ m ih =>
      intro i hi l6 l7
      have r1 := chM_in k i
      have r2 := hv_in (A 162) ((x + (i : Int)) % 10007) 10
      refine z_iload E dX6_differs_5 rfl ?_
      refine z_iload_n E dX6_differs_7 rfl ?_
      refine z_icmp_gt (tgt := 64) E (by omega) (by omega) dX6_differs_8 (by decide) (fun h8 => ?_) (fun h8 => ?_)
      · omega
      · refine z_iload_n E dX6_differs_11 rfl ?_
        refine z_iload E dX6_differs_12 rfl ?_
        refine c_S E dX6_differs_14 lkX6_149 (ok_choose k i (by omega) (by omega) N (mA A)) rfl rfl rfl (Nat.le_of_ble_eq_true rfl) ⟨(Nat.le_of_ble_eq_true rfl), (Nat.le_of_ble_eq_true rfl)⟩ ⟨rfl, rfl⟩ ⟨Nat.zero_le _, Nat.zero_le _⟩ ?_
        refine z_i2l E (by omega) dX6_differs_17 ?_
        refine z_aload_n E dX6_differs_18 rfl ?_
        refine z_get E dX6_differs_19 (by rfl) flX6_26 (by rfl) ?_
        refine z_iload_n E dX6_differs_22 rfl ?_
        refine z_i2l E (by omega) dX6_differs_23 ?_
        refine z_iload E dX6_differs_24 rfl ?_
        refine z_i2l E (by omega) dX6_differs_26 ?_
        refine z_ladd E dX6_differs_27 ?_
        refine c_S E dX6_differs_28 lkX6_62 (ok_mod _ ⟨by omega, by omega⟩ (by omega) N (mA A)) rfl rfl rfl (Nat.le_of_ble_eq_true rfl) ⟨(Nat.le_of_ble_eq_true rfl), (Nat.le_of_ble_eq_true rfl)⟩ ⟨rfl, rfl⟩ ⟨Nat.zero_le _, Nat.zero_le _⟩ ?_
        refine c_S E dX6_differs_31 lkX6_131 (ok_valueOf t162 A ra _ (by omega) N) rfl rfl rfl (Nat.le_of_ble_eq_true rfl) ⟨(Nat.le_of_ble_eq_true rfl), (Nat.le_of_ble_eq_true rfl)⟩ ⟨rfl, rfl⟩ ⟨Nat.zero_le _, Nat.zero_le _⟩ ?_
        refine z_i2l E (by omega) dX6_differs_34 ?_
        refine z_lmul E dX6_differs_35 ?_
        refine z_lstore (ls' := [_, _, _, _, _, _, _, _]) E dX6_differs_36 (Nat.le_of_ble_eq_true rfl) rfl ?_
        refine z_lload_n E dX6_differs_38 rfl ?_
        refine z_iload_n E dX6_differs_39 rfl ?_
        refine z_iload E dX6_differs_40 rfl ?_
        refine z_isub E dX6_differs_42 ?_
        refine z_iconst E dX6_differs_43 ?_
        refine z_irem E (by omega) (by omega) (by omega) (Int.tmod_eq_emod_of_nonneg (by omega)) dX6_differs_44 ?_
        refine z_if_ne (tgt := 53) E (by omega) dX6_differs_45 (by decide) (fun h45 => ?_) (fun h45 => ?_)
        · have e0 : dsT (A 162) x k i = -(chM k i * hv (A 162) ((x + (i : Int)) % 10007) 10) := by unfold dsT; rw [if_neg (by omega)]
          refine z_lload E dX6_differs_53 rfl ?_
          refine z_lneg E dX6_differs_55 ?_
          refine z_ladd E dX6_differs_56 ?_
          refine z_lstore_n (ls' := [_, _, _, _, _, _, _, _]) E rfl dX6_differs_57 (Nat.le_of_ble_eq_true rfl) rfl ?_
          refine z_iinc (ls' := [_, _, _, _, _, _, _, _]) E dX6_differs_58 rfl rfl ?_
          refine z_goto (tgt := 5) E dX6_differs_61 (by decide) ?_
          rw [ei]
          have := ih (i + 1) (by omega) (some (.long (lI (chM k i * hv (A 162) ((x + (i : Int)) % 10007) 10)))) none
          simp only [sm] at this
          rw [e0] at this
          exact this
        · have e0 : dsT (A 162) x k i = chM k i * hv (A 162) ((x + (i : Int)) % 10007) 10 := by unfold dsT; rw [if_pos (by omega)]
          refine z_lload E dX6_differs_48 rfl ?_
          refine z_goto (tgt := 56) E dX6_differs_50 (by decide) ?_
          refine z_ladd E dX6_differs_56 ?_
          refine z_lstore_n (ls' := [_, _, _, _, _, _, _, _]) E rfl dX6_differs_57 (Nat.le_of_ble_eq_true rfl) rfl ?_
          refine z_iinc (ls' := [_, _, _, _, _, _, _, _]) E dX6_differs_58 rfl rfl ?_
          refine z_goto (tgt := 5) E dX6_differs_61 (by decide) ?_
          rw [ei]
          have := ih (i + 1) (by omega) (some (.long (lI (chM k i * hv (A 162) ((x + (i : Int)) % 10007) 10)))) none
          simp only [sm] at this
          rw [e0] at this
          exact this
  exact loop (k + 1) 0 (by omega) none none
/-- 1 by (g INTO F) as the reference reckons it, F being f TURNED -/
def omS (p f : Nat → Int) : Nat → Int := qS (conS 1) (ptS p (tmS f 9) 10)
set_option maxRecDepth 100000 in
theorem ok_canLadder0 (A : Nat → Nat → Int) (ra : rok (A 162)) (rb : rok (A 163)) (hc : ¬ (A 162 0 ≠ 0 ∧ (A 163 0 = 0 ∧ A 163 1 ≠ 0))) (N : Nat) : OkR mX6_canLadder [.ref 156] N (mA A) (some (.int (iI 0))) (mA A) := by
  have r0 := ra 0 (by omega)
  refine OkM.of [some (.ref 156)] (by decide +kernel) rfl (Nat.le_of_ble_eq_true rfl) ?_
  intro X E F
  refine z_aload_n E dX6_canLadder_0 rfl ?_
  refine z_get E dX6_canLadder_1 (by rfl) flX6_26 (by rfl) ?_
  refine z_iconst E dX6_canLadder_4 ?_
  refine a_iald (j := 0) E dX6_canLadder_5 (fun _ => rfl) (by omega) (by omega) (by omega) ?_
  refine z_if_eq (tgt := 19) E (by omega) dX6_canLadder_6 (by decide) (fun h6 => ?_) (fun h6 => ?_)
  · refine z_iconst E dX6_canLadder_19 ?_
    exact z_zret E F (by first | exact Or.inl rfl | exact Or.inr rfl) dX6_canLadder_20 ⟨rfl, rfl⟩
  · refine z_aload_n E dX6_canLadder_9 rfl ?_
    refine z_get E dX6_canLadder_10 (by rfl) flX6_29 (by rfl) ?_
    refine c_S E dX6_canLadder_13 lkX6_124 (ok_canTurn6 t163 A rb N) rfl rfl rfl (Nat.le_of_ble_eq_true rfl) ⟨(Nat.le_of_ble_eq_true rfl), (Nat.le_of_ble_eq_true rfl)⟩ ⟨rfl, rfl⟩ ⟨Nat.zero_le _, Nat.zero_le _⟩ ?_
    refine z_bif_ne (tgt := 21) E dX6_canLadder_16 (by decide) (fun h16 => ?_) (fun h16 => ?_)
    · exact absurd ⟨h6, h16⟩ hc
    · refine z_iconst E dX6_canLadder_19 ?_
      exact z_zret E F (by first | exact Or.inl rfl | exact Or.inr rfl) dX6_canLadder_20 ⟨rfl, rfl⟩
set_option maxRecDepth 100000 in
theorem ok_canLadder1 (A : Nat → Nat → Int) (ra : rok (A 162)) (rb : rok (A 163)) (hc : A 162 0 ≠ 0 ∧ (A 163 0 = 0 ∧ A 163 1 ≠ 0)) (N : Nat) : OkI mX6_canLadder [.ref 156] N (mA A) (.int (iI 1)) (fun g' => ∃ A', g' = mA A' ∧ A' 164 = tmS (A 163) 9 ∧ A' 165 = omS (A 162) (A 163) ∧ Off A A' [164, 165, 166, 167, 168, 169]) := by
  have r0 := ra 0 (by omega)
  refine OkM.of [some (.ref 156)] (by decide +kernel) rfl (Nat.le_of_ble_eq_true rfl) ?_
  intro X E F
  refine z_aload_n E dX6_canLadder_0 rfl ?_
  refine z_get E dX6_canLadder_1 (by rfl) flX6_26 (by rfl) ?_
  refine z_iconst E dX6_canLadder_4 ?_
  refine a_iald (j := 0) E dX6_canLadder_5 (fun _ => rfl) (by omega) (by omega) (by omega) ?_
  refine z_if_eq (tgt := 19) E (by omega) dX6_canLadder_6 (by decide) (fun h6 => ?_) (fun h6 => ?_)
  · exact absurd h6 hc.1
  refine z_aload_n E dX6_canLadder_9 rfl ?_
  refine z_get E dX6_canLadder_10 (by rfl) flX6_29 (by rfl) ?_
  refine c_S E dX6_canLadder_13 lkX6_124 (ok_canTurn6 t163 A rb N) rfl rfl rfl (Nat.le_of_ble_eq_true rfl) ⟨(Nat.le_of_ble_eq_true rfl), (Nat.le_of_ble_eq_true rfl)⟩ ⟨rfl, rfl⟩ ⟨Nat.zero_le _, Nat.zero_le _⟩ ?_
  refine z_bif_ne (tgt := 21) E dX6_canLadder_16 (by decide) (fun h16 => ?_) (fun h16 => absurd hc.2 h16)
  refine z_aload_n E dX6_canLadder_21 rfl ?_
  refine z_aload_n E dX6_canLadder_22 rfl ?_
  refine z_get E dX6_canLadder_23 (by rfl) flX6_29 (by rfl) ?_
  refine z_aload_n E dX6_canLadder_26 rfl ?_
  refine z_get E dX6_canLadder_27 (by rfl) flX6_32 (by rfl) ?_
  refine c_V0Q E dX6_canLadder_30 lkX6_128 (ok_turns t163 t164 (by omega) (by omega) (by omega) A rb N) (by rfl) rfl rfl rfl (Nat.le_of_ble_eq_true rfl) ⟨(Nat.le_of_ble_eq_true rfl), (Nat.le_of_ble_eq_true rfl)⟩ ⟨rfl, rfl⟩ ⟨Nat.zero_le _, Nat.zero_le _⟩ (fun g1 hg1 => ?_)
  obtain ⟨A1, rfl, f1, o1⟩ := hg1
  have a1 : A1 162 = A 162 := o1 162 (by simp)
  refine z_aload_n E dX6_canLadder_33 rfl ?_
  refine z_aload_n E dX6_canLadder_34 rfl ?_
  refine z_get E dX6_canLadder_35 (by rfl) flX6_26 (by rfl) ?_
  refine z_aload_n E dX6_canLadder_38 rfl ?_
  refine z_get E dX6_canLadder_39 (by rfl) flX6_32 (by rfl) ?_
  refine z_aload_n E dX6_canLadder_42 rfl ?_
  refine z_get E dX6_canLadder_43 (by rfl) flX6_35 (by rfl) ?_
  refine c_V0Q E dX6_canLadder_46 lkX6_102 (ok_puts t162 t164 t165 (by omega) (by omega) (by omega) A1 (by rw [a1]; exact ra) (by rw [f1]; exact tmS_rok _ _) N) (by rfl) rfl rfl rfl (Nat.le_of_ble_eq_true rfl) ⟨(Nat.le_of_ble_eq_true rfl), (Nat.le_of_ble_eq_true rfl)⟩ ⟨rfl, rfl⟩ ⟨Nat.zero_le _, Nat.zero_le _⟩ (fun g1 hg1 => ?_)
  obtain ⟨A2, rfl, f2, o2⟩ := hg1
  rw [a1, f1] at f2
  have c2 : A2 164 = tmS (A 163) 9 := by rw [o2 164 (by simp)]; exact f1
  refine z_aload_n E dX6_canLadder_49 rfl ?_
  refine z_get E dX6_canLadder_50 (by rfl) flX6_38 (by rfl) ?_
  refine c_S0 E dX6_canLadder_53 lkX6_90 (ok_one t166 A2 N) rfl rfl rfl (Nat.le_of_ble_eq_true rfl) ⟨(Nat.le_of_ble_eq_true rfl), (Nat.le_of_ble_eq_true rfl)⟩ ⟨rfl, rfl⟩ ⟨Nat.zero_le _, Nat.zero_le _⟩ ?_
  have g1 : va_up A2 166 (conS 1) 166 = conS 1 := va_up_self _ _ _
  have g2 : va_up A2 166 (conS 1) 165 = ptS (A 162) (tmS (A 163) 9) 10 := by rw [va_up_ne _ _ (by omega)]; exact f2
  refine z_aload_n E dX6_canLadder_56 rfl ?_
  refine z_get E dX6_canLadder_57 (by rfl) flX6_38 (by rfl) ?_
  refine z_aload_n E dX6_canLadder_60 rfl ?_
  refine z_get E dX6_canLadder_61 (by rfl) flX6_35 (by rfl) ?_
  refine z_aload_n E dX6_canLadder_64 rfl ?_
  refine z_get E dX6_canLadder_65 (by rfl) flX6_41 (by rfl) ?_
  refine c_S0 E dX6_canLadder_68 lkX6_121 (ok_by t166 t165 t167 (by omega) (by omega) _ (by rw [g1]; exact conS_rok (by omega)) (by rw [g2]; exact ptS_rok _ _ _) N) rfl rfl rfl (Nat.le_of_ble_eq_true rfl) ⟨(Nat.le_of_ble_eq_true rfl), (Nat.le_of_ble_eq_true rfl)⟩ ⟨rfl, rfl⟩ ⟨Nat.zero_le _, Nat.zero_le _⟩ ?_
  rw [g1, g2]
  refine z_aload_n E dX6_canLadder_71 rfl ?_
  refine z_get E dX6_canLadder_72 (by rfl) flX6_41 (by rfl) ?_
  refine z_aload_n E dX6_canLadder_75 rfl ?_
  refine z_get E dX6_canLadder_76 (by rfl) flX6_35 (by rfl) ?_
  refine c_S0 E dX6_canLadder_79 lkX6_98 (ok_set t167 t165 _ N) rfl rfl rfl (Nat.le_of_ble_eq_true rfl) ⟨(Nat.le_of_ble_eq_true rfl), (Nat.le_of_ble_eq_true rfl)⟩ ⟨rfl, rfl⟩ ⟨Nat.zero_le _, Nat.zero_le _⟩ ?_
  rw [va_up_self]
  refine z_iconst E dX6_canLadder_82 ?_
  refine z_zret E F (Or.inr rfl) dX6_canLadder_83 ⟨rfl, _, rfl, ?_, ?_, ?_⟩
  · rw [va_up_ne _ _ (by omega), va_up_ne _ _ (by omega), va_up_ne _ _ (by omega)]; exact c2
  · rw [va_up_self]; rfl
  · intro r hr
    simp at hr
    rw [va_up_ne _ _ (by omega), va_up_ne _ _ (by omega), va_up_ne _ _ (by omega), o2 r (by simp; omega)]
    exact o1 r (by simp; omega)
