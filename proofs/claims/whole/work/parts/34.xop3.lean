/-! rows that agree where they are asked -/
theorem if_b01 {p : Prop} {h : Decidable p} : @ite Int p h 1 0 = b01 p := by
  by_cases q : p
  · rw [if_pos q, b01_t q]
  · rw [if_neg q, b01_f q]
theorem hv_congr {c c' : Nat → Int} (h : ∀ j, j < 10 → c j = c' j) (p : Int) : ∀ k, hv c p k = hv c' p k
  | 0 => rfl
  | k + 1 => by simp only [hv]; rw [hv_congr h p k, h (9 - k) (by omega)]
theorem opS_congr {a b b' : Nat → Int} (h : ∀ j, j < 10 → b j = b' j) (m : Nat) : opS a b m = opS a b' m := by
  unfold opS
  rw [sm_congr (g := fun i => a i * (b' (m + i) * fcl (m + i) % 10007)) (fun i hi => by rw [h (m + i) (by omega)])]
theorem fnF_congr {p q : Nat → Prop} : ∀ (f n : Nat), (∀ m, n ≤ m → m < n + f → (p m ↔ q m)) → fnF p f n = fnF q f n
  | 0, _, _ => rfl
  | f + 1, n, h => by
    have h1 := h n (Nat.le_refl n) (by omega)
    by_cases c : p n
    · rw [fnF_t c, fnF_t (h1.mp c)]; exact fnF_congr f (n + 1) (fun m h2 h3 => h m (by omega) (by omega))
    · rw [fnF_f c, fnF_f (fun d => c (h1.mpr d))]
theorem lsF_congr {p q : Nat → Prop} : ∀ (f n : Nat), (∀ m, n ≤ m → m < n + f → (p m ↔ q m)) → lsF p f n = lsF q f n
  | 0, _, _ => rfl
  | f + 1, n, h => by
    have h1 := h n (Nat.le_refl n) (by omega)
    by_cases c : p n
    · rw [lsF_t c, lsF_t (h1.mp c)]; exact lsF_congr f (n + 1) (fun m h2 h3 => h m (by omega) (by omega))
    · rw [lsF_f c, lsF_f (fun d => c (h1.mpr d))]
theorem lwS_congr {a : Nat → Int} {S S' : Nat → Nat → Int} (h : ∀ n j, n < 10 → j < 10 → S n j = S' n j) {n : Nat} (hn : n < 10) : lwS a S n ↔ lwS a S' n := by
  unfold lwS
  constructor
  · intro q i hi; rw [← opS_congr (h n · hn), ← h (n - 1) i (by omega) hi]; exact q i hi
  · intro q i hi; rw [opS_congr (h n · hn), h (n - 1) i (by omega) hi]; exact q i hi
theorem tiR_congr {R R' : Nat → Int} {S S' : Nat → Nat → Int} (hR : ∀ j, j < 10 → R j = R' j) (h : ∀ n j, n < 10 → j < 10 → S n j = S' n j) : ∀ c i, i < 10 → tiR R S c i = tiR R' S' c i
  | 0, i, hi => hR i hi
  | c + 1, i, hi => by
    simp only [tiR]
    rw [tiR_congr hR h c i hi, tiR_congr hR h c (9 - c) (by omega), h (9 - c) (9 - c) (by omega) (by omega), h (9 - c) i (by omega) hi]
theorem tiH_congr {R R' : Nat → Int} {S S' : Nat → Nat → Int} (hR : ∀ j, j < 10 → R j = R' j) (h : ∀ n j, n < 10 → j < 10 → S n j = S' n j) (c : Nat) : tiH R S c = tiH R' S' c := by
  unfold tiH
  rw [tiR_congr hR h c (9 - c) (by omega), h (9 - c) (9 - c) (by omega) (by omega)]
theorem bnP_congr {V V' : Nat → Nat → Int} (h : ∀ n x, n < 10 → x < 19 → V n x = V' n x) {m : Nat} (hm : m < 10) : bnP V m ↔ bnP V' m := by
  have e : ∀ x y, x ≤ m → y ≤ m → sm (fun k => chs m k * V k x % 10007 * V (m - k) y) (m + 1) = sm (fun k => chs m k * V' k x % 10007 * V' (m - k) y) (m + 1) := fun x y hx hy => sm_congr (fun k hk => by rw [h k x (by omega) (by omega), h (m - k) y (by omega) (by omega)])
  constructor
  · intro q x hx y hy; rw [← e x y hx hy, ← h m (x + y) hm (by omega)]; exact q x hx y hy
  · intro q x hx y hy; rw [e x y hx hy, h m (x + y) hm (by omega)]; exact q x hx y hy
theorem mx_congr {c c' : Nat → Int} (h : ∀ j, j < 10 → c j = c' j) (s : Int) : ∀ k, k ≤ 10 → mx c s k = mx c' s k
  | 0, _ => rfl
  | k + 1, hk => by simp only [mx]; rw [mx_congr h s k (by omega), h k (by omega)]
theorem setSr_congr {σ : St} {u : Nat} {f f' : Nat → Int} (h : ∀ j, j < 10 → f j = f' j) : setSr σ u f = setSr σ u f' := by
  unfold setSr
  congr 1
  funext j
  unfold cut
  by_cases e : j < 10
  · rw [if_pos e, if_pos e, h j e]
  · rw [if_neg e, if_neg e]
theorem XI.row {A : Nat → Nat → Int} {σ : St} (hX : XI A σ) {k n : Nat} (hk : k < 4) (hn : n < 10) : ∀ j, j < 10 → A (70 + 22 * k + 2 * n + 1) j = stp σ k n j := fun j hj => (hX.2.1.2.1 k hk).2 n j hn hj
theorem XI.rowok {A : Nat → Nat → Int} {σ : St} (hX : XI A σ) {k n : Nat} (hk : k < 4) (hn : n < 10) : rok (A (70 + 22 * k + 2 * n + 1)) := fun j hj => by
  rw [hX.row hk hn j hj]; exact (hX.2.2.2.1 k hk).2 n j hn hj
theorem XI.ld {A A' : Nat → Nat → Int} {σ : St} (hX : XI A σ) {k : Nat} (hk : k < 4) {B : Nat → Nat → Int} (rB : ∀ n j, n < 10 → j < 10 → 0 ≤ B n j ∧ B n j < 10007) (h1 : ∀ n j, n < 10 → j < 10 → A' (70 + 22 * k + 2 * n + 1) j = B n j) (h2 : A' (68 + 22 * k) 1 = 1) (ho : OffB A A' k) : XI A' (setLd σ k B) := by
  obtain ⟨hK, hV, hS⟩ := hX
  have e : ∀ q, (q < 18 ∨ q = 31 ∨ (52 ≤ q ∧ q < 156)) → ¬ (68 + 22 * k ≤ q ∧ q < 90 + 22 * k) → A' q = A q := fun q h3 h4 => ho q (by omega) (by omega) (by omega) (by omega) h4
  have e2 : ∀ t, t ≠ 8 + k → setLd σ k B t = σ t := fun t ht => va_up_ne _ _ ht
  have e3 : setLd σ k B (8 + k) 0 = 1 := by unfold setLd; rw [va_up_self]; rfl
  have e4 : ∀ n j, n < 10 → j < 10 → setLd σ k B (8 + k) (1 + 10 * n + j) = B n j := fun n j hn hj => by
    unfold setLd
    rw [va_up_self, if_neg (by omega), show (1 + 10 * n + j - 1) / 10 = n by omega, show (1 + 10 * n + j - 1) % 10 = j by omega]
  refine ⟨hK.offB ho, ⟨fun t ht => ?_, fun q hq => ?_, ?_⟩, ⟨fun t ht => ?_, fun q hq => ?_, ?_⟩⟩
  · rw [e (52 + 2 * t) (by omega) (by omega), e (53 + 2 * t) (by omega) (by omega), e2 t (by omega)]; exact hV.1 t ht
  · by_cases eq : q = k
    · subst eq
      exact ⟨by rw [e3]; exact h2, fun n j hn hj => by rw [e4 n j hn hj]; exact h1 n j hn hj⟩
    · refine ⟨by rw [e (68 + 22 * q) (by omega) (by omega), e2 (8 + q) (by omega)]; exact (hV.2.1 q hq).1, fun n j hn hj => ?_⟩
      rw [e (70 + 22 * q + 2 * n + 1) (by omega) (by omega), e2 (8 + q) (by omega)]; exact (hV.2.1 q hq).2 n j hn hj
  · rw [e 0 (by omega) (by omega), e2 12 (by omega)]; exact hV.2.2
  · rw [e2 t (by omega)]; exact hS.1 t ht
  · by_cases eq : q = k
    · subst eq
      exact ⟨Or.inr e3, fun n j hn hj => by rw [e4 n j hn hj]; exact rB n j hn hj⟩
    · rw [e2 (8 + q) (by omega)]; exact hS.2.1 q hq
  · rw [e2 12 (by omega)]; exact hS.2.2
theorem blS_in (G F : Nat → Int) (n k : Nat) : 0 ≤ blS G F n k ∧ blS G F n k < 10007 := by unfold blS; omega
set_option maxRecDepth 100000 in
theorem x_turn {A : Nat → Nat → Int} {σ : St} (hX : XI A σ) (s u : Int) (hs : inR s) (hu : inR u) : OkI mX5_turn [.ref 0, .int (iI s), .int (iI u)] 172 (mA A) (.int (iI (opTurn σ s u).1)) (XP A (opTurn σ s u).2) := by
  generalize hop : opTurn σ s u = R
  refine OkM.of [some (.ref 0), some (.int (iI s)), some (.int (iI u))] (by decide +kernel) rfl (Nat.le_of_ble_eq_true rfl) ?_
  intro X E F
  have hbad : ¬ (iS s ∧ iS u) → Zc X 14 [some (.ref 0), some (.int (iI s)), some (.int (iI u))] [] 172 (mA A) 0 0 := by
    intro hv
    refine z_bipush E (by decide) dX5_turn_14 ?_
    exact z_iret E F dX5_turn_16 (fin hop (if_neg hv) (xp_same hX))
  refine z_iload_n E dX5_turn_0 rfl ?_
  refine c_S E dX5_turn_1 lkX5_56 (ok_isSheet5 s hs 172 _) rfl rfl rfl (Nat.le_of_ble_eq_true rfl) ⟨(Nat.le_of_ble_eq_true rfl), (Nat.le_of_ble_eq_true rfl)⟩ ⟨rfl, rfl⟩ ⟨Nat.zero_le _, Nat.zero_le _⟩ ?_
  refine z_bif_eq (tgt := 14) E dX5_turn_4 (by decide) (fun h4 => ?_) (fun h4 => ?_)
  · exact hbad (fun v => h4 v.1)
  refine z_iload_n E dX5_turn_7 rfl ?_
  refine c_S E dX5_turn_8 lkX5_56 (ok_isSheet5 u hu 172 _) rfl rfl rfl (Nat.le_of_ble_eq_true rfl) ⟨(Nat.le_of_ble_eq_true rfl), (Nat.le_of_ble_eq_true rfl)⟩ ⟨rfl, rfl⟩ ⟨Nat.zero_le _, Nat.zero_le _⟩ ?_
  refine z_bif_ne (tgt := 17) E dX5_turn_11 (by decide) (fun h11 => ?_) (fun h11 => ?_)
  case refine_2 => exact hbad (fun v => h11 v.2)
  have hv : iS s ∧ iS u := ⟨h4, h11⟩
  obtain ⟨s, rfl⟩ := nat_of h4.1
  obtain ⟨u, rfl⟩ := nat_of h11.1
  have hs8 : s < 8 := by omega
  have hu8 : u < 8 := by omega
  have hnull : (σ s 0 = 0) → ∀ A2, XI A2 σ → Hi A A2 → Zc X 29 [some (.ref 0), some (.int (iI (s : Int))), some (.int (iI (u : Int)))] [] 172 (mA A2) 0 0 := by
    intro hl A2 hX2 hh
    refine z_aload_n E dX5_turn_29 rfl ?_
    refine z_iconst E dX5_turn_30 ?_
    refine c_VQ E dX5_turn_31 lkX5_63 (ok_found hX2 1 (by omega) 172) (by rfl) rfl rfl rfl (Nat.le_of_ble_eq_true rfl) ⟨(Nat.le_of_ble_eq_true rfl), (Nat.le_of_ble_eq_true rfl)⟩ ⟨rfl, rfl⟩ ⟨Nat.zero_le _, Nat.zero_le _⟩ (fun g1 hg1 => ?_)
    exact z_iret E F dX5_turn_34 (fin hop ((if_pos hv).trans (if_pos hl)) (xp_tr hh hg1))
  rcases (hX.2.2.1 s hs8).1 with ls | ls
  · refine z_aload_n E dX5_turn_17 rfl ?_
    refine z_iload_n E dX5_turn_18 rfl ?_
    refine z_aload_n E dX5_turn_19 rfl ?_
    refine z_get E dX5_turn_20 (by rfl) flX5_31 (by rfl) ?_
    refine c_V E dX5_turn_23 lkX5_117 (ok_reads0 (o := 40) hs8 hX ls 172) (by rfl) rfl rfl rfl (Nat.le_of_ble_eq_true rfl) ⟨(Nat.le_of_ble_eq_true rfl), (Nat.le_of_ble_eq_true rfl)⟩ ⟨rfl, rfl⟩ ⟨Nat.zero_le _, Nat.zero_le _⟩ ?_
    refine z_if_ne (tgt := 35) E (by omega) dX5_turn_26 (by decide) (fun hq => False.elim (by omega)) (fun h26 => ?_)
    exact hnull ls A hX (fun _ _ => rfl)
  refine z_aload_n E dX5_turn_17 rfl ?_
  refine z_iload_n E dX5_turn_18 rfl ?_
  refine z_aload_n E dX5_turn_19 rfl ?_
  refine z_get E dX5_turn_20 (by rfl) flX5_31 (by rfl) ?_
  refine c_V E dX5_turn_23 lkX5_117 (ok_reads1 hs8 s40 (by omega) hX ls 172) (by rfl) rfl rfl rfl (Nat.le_of_ble_eq_true rfl) ⟨(Nat.le_of_ble_eq_true rfl), (Nat.le_of_ble_eq_true rfl)⟩ ⟨rfl, rfl⟩ ⟨Nat.zero_le _, Nat.zero_le _⟩ ?_
  refine z_if_ne (tgt := 35) E (by omega) dX5_turn_26 (by decide) (fun h26 => ?_) (fun hq => False.elim (by omega))
  have hnl : ¬ σ s 0 = 0 := by omega
  have hX1 : XI (va_up A (40 + 1) (srS σ s)) σ := hX.ups (by omega)
  have e1 : va_up A (40 + 1) (srS σ s) (40 + 1) = srS σ s := va_up_self _ _ _
  have hh1 : Hi A (va_up A (40 + 1) (srS σ s)) := hi_up (by omega)
  generalize va_up A (40 + 1) (srS σ s) = A1 at *
  have rs := srS_rok σ s
  rw [← e1] at rs
  refine z_aload_n E dX5_turn_35 rfl ?_
  refine z_get E dX5_turn_36 (by rfl) flX5_31 (by rfl) ?_
  refine c_V E dX5_turn_39 lkX5_144 (ok_canTurn s40 A1 rs 172) (by rfl) rfl rfl rfl (Nat.le_of_ble_eq_true rfl) ⟨(Nat.le_of_ble_eq_true rfl), (Nat.le_of_ble_eq_true rfl)⟩ ⟨rfl, rfl⟩ ⟨Nat.zero_le _, Nat.zero_le _⟩ ?_
  rw [e1, if_b01]
  refine z_bif_ne (tgt := 48) E dX5_turn_42 (by decide) (fun h42 => ?_) (fun h42 => ?_)
  · refine z_aload_n E dX5_turn_48 rfl ?_
    refine z_get E dX5_turn_49 (by rfl) flX5_24 (by rfl) ?_
    refine z_aload_n E dX5_turn_52 rfl ?_
    refine z_get E dX5_turn_53 (by rfl) flX5_31 (by rfl) ?_
    refine z_aload_n E dX5_turn_56 rfl ?_
    refine z_get E dX5_turn_57 (by rfl) flX5_44 (by rfl) ?_
    refine c_V0Q E dX5_turn_60 lkX5_147 (ok_turned s40 s48 (by omega) (by omega) (by omega) (by omega) A1 hX1.1 rs 172) (by rfl) rfl rfl rfl (Nat.le_of_ble_eq_true rfl) ⟨(Nat.le_of_ble_eq_true rfl), (Nat.le_of_ble_eq_true rfl)⟩ ⟨rfl, rfl⟩ ⟨Nat.zero_le _, Nat.zero_le _⟩ (fun g1 hg1 => ?_)
    obtain ⟨A2, rfl, f2, o2⟩ := hg1
    rw [e1] at f2
    have hX2 : XI A2 σ := hX1.scr (fun k hk => o2 k (by simp; omega))
    refine z_aload_n E dX5_turn_63 rfl ?_
    refine z_iload_n E dX5_turn_64 rfl ?_
    refine z_aload_n E dX5_turn_65 rfl ?_
    refine z_get E dX5_turn_66 (by rfl) flX5_44 (by rfl) ?_
    refine c_VQ E dX5_turn_69 lkX5_113 (ok_becomes hu8 s48 hX2 _ f2 (tuS_rok _) 172) (by rfl) rfl rfl rfl (Nat.le_of_ble_eq_true rfl) ⟨(Nat.le_of_ble_eq_true rfl), (Nat.le_of_ble_eq_true rfl)⟩ ⟨rfl, rfl⟩ ⟨Nat.zero_le _, Nat.zero_le _⟩ (fun g1 hg1 => ?_)
    obtain ⟨A4, rfl, hX4, hh4, -⟩ := hg1
    exact z_iret E F dX5_turn_72 (fin hop ((if_pos hv).trans ((if_neg hnl).trans (if_pos h42))) (xp_to hX4 (hi_tr hh1 (hi_tr (fun k hk => o2 k (by simp; omega)) hh4))))
  · refine z_bipush E (by decide) dX5_turn_45 ?_
    exact z_iret E F dX5_turn_47 (fin hop ((if_pos hv).trans ((if_neg hnl).trans (if_neg h42))) (xp_to hX1 hh1))
set_option maxRecDepth 100000 in
theorem x_aRow {A : Nat → Nat → Int} {σ : St} (hX : XI A σ) (s u : Int) (hs : inR s) (hu : inR u) : OkI mX5_aRow [.ref 0, .int (iI s), .int (iI u)] 172 (mA A) (.int (iI (opARow σ s u).1)) (XP A (opARow σ s u).2) := by
  generalize hop : opARow σ s u = R
  refine OkM.of [some (.ref 0), some (.int (iI s)), some (.int (iI u))] (by decide +kernel) rfl (Nat.le_of_ble_eq_true rfl) ?_
  intro X E F
  have hbad : ¬ (iS s ∧ iS u) → Zc X 14 [some (.ref 0), some (.int (iI s)), some (.int (iI u))] [] 172 (mA A) 0 0 := by
    intro hv
    refine z_bipush E (by decide) dX5_aRow_14 ?_
    exact z_iret E F dX5_aRow_16 (fin hop (if_neg hv) (xp_same hX))
  refine z_iload_n E dX5_aRow_0 rfl ?_
  refine c_S E dX5_aRow_1 lkX5_56 (ok_isSheet5 s hs 172 _) rfl rfl rfl (Nat.le_of_ble_eq_true rfl) ⟨(Nat.le_of_ble_eq_true rfl), (Nat.le_of_ble_eq_true rfl)⟩ ⟨rfl, rfl⟩ ⟨Nat.zero_le _, Nat.zero_le _⟩ ?_
  refine z_bif_eq (tgt := 14) E dX5_aRow_4 (by decide) (fun h4 => ?_) (fun h4 => ?_)
  · exact hbad (fun v => h4 v.1)
  refine z_iload_n E dX5_aRow_7 rfl ?_
  refine c_S E dX5_aRow_8 lkX5_56 (ok_isSheet5 u hu 172 _) rfl rfl rfl (Nat.le_of_ble_eq_true rfl) ⟨(Nat.le_of_ble_eq_true rfl), (Nat.le_of_ble_eq_true rfl)⟩ ⟨rfl, rfl⟩ ⟨Nat.zero_le _, Nat.zero_le _⟩ ?_
  refine z_bif_ne (tgt := 17) E dX5_aRow_11 (by decide) (fun h11 => ?_) (fun h11 => ?_)
  case refine_2 => exact hbad (fun v => h11 v.2)
  have hv : iS s ∧ iS u := ⟨h4, h11⟩
  obtain ⟨s, rfl⟩ := nat_of h4.1
  obtain ⟨u, rfl⟩ := nat_of h11.1
  have hs8 : s < 8 := by omega
  have hu8 : u < 8 := by omega
  have hnull : (σ s 0 = 0) → ∀ A2, XI A2 σ → Hi A A2 → Zc X 29 [some (.ref 0), some (.int (iI (s : Int))), some (.int (iI (u : Int)))] [] 172 (mA A2) 0 0 := by
    intro hl A2 hX2 hh
    refine z_aload_n E dX5_aRow_29 rfl ?_
    refine z_iconst E dX5_aRow_30 ?_
    refine c_VQ E dX5_aRow_31 lkX5_63 (ok_found hX2 1 (by omega) 172) (by rfl) rfl rfl rfl (Nat.le_of_ble_eq_true rfl) ⟨(Nat.le_of_ble_eq_true rfl), (Nat.le_of_ble_eq_true rfl)⟩ ⟨rfl, rfl⟩ ⟨Nat.zero_le _, Nat.zero_le _⟩ (fun g1 hg1 => ?_)
    exact z_iret E F dX5_aRow_34 (fin hop ((if_pos hv).trans (if_pos hl)) (xp_tr hh hg1))
  rcases (hX.2.2.1 s hs8).1 with ls | ls
  · refine z_aload_n E dX5_aRow_17 rfl ?_
    refine z_iload_n E dX5_aRow_18 rfl ?_
    refine z_aload_n E dX5_aRow_19 rfl ?_
    refine z_get E dX5_aRow_20 (by rfl) flX5_31 (by rfl) ?_
    refine c_V E dX5_aRow_23 lkX5_117 (ok_reads0 (o := 40) hs8 hX ls 172) (by rfl) rfl rfl rfl (Nat.le_of_ble_eq_true rfl) ⟨(Nat.le_of_ble_eq_true rfl), (Nat.le_of_ble_eq_true rfl)⟩ ⟨rfl, rfl⟩ ⟨Nat.zero_le _, Nat.zero_le _⟩ ?_
    refine z_if_ne (tgt := 35) E (by omega) dX5_aRow_26 (by decide) (fun hq => False.elim (by omega)) (fun h26 => ?_)
    exact hnull ls A hX (fun _ _ => rfl)
  refine z_aload_n E dX5_aRow_17 rfl ?_
  refine z_iload_n E dX5_aRow_18 rfl ?_
  refine z_aload_n E dX5_aRow_19 rfl ?_
  refine z_get E dX5_aRow_20 (by rfl) flX5_31 (by rfl) ?_
  refine c_V E dX5_aRow_23 lkX5_117 (ok_reads1 hs8 s40 (by omega) hX ls 172) (by rfl) rfl rfl rfl (Nat.le_of_ble_eq_true rfl) ⟨(Nat.le_of_ble_eq_true rfl), (Nat.le_of_ble_eq_true rfl)⟩ ⟨rfl, rfl⟩ ⟨Nat.zero_le _, Nat.zero_le _⟩ ?_
  refine z_if_ne (tgt := 35) E (by omega) dX5_aRow_26 (by decide) (fun h26 => ?_) (fun hq => False.elim (by omega))
  have hnl : ¬ σ s 0 = 0 := by omega
  have hX1 : XI (va_up A (40 + 1) (srS σ s)) σ := hX.ups (by omega)
  have e1 : va_up A (40 + 1) (srS σ s) (40 + 1) = srS σ s := va_up_self _ _ _
  have hh1 : Hi A (va_up A (40 + 1) (srS σ s)) := hi_up (by omega)
  generalize va_up A (40 + 1) (srS σ s) = A1 at *
  have rs := srS_rok σ s
  rw [← e1] at rs
  refine z_aload_n E dX5_aRow_35 rfl ?_
  refine z_get E dX5_aRow_36 (by rfl) flX5_31 (by rfl) ?_
  refine c_V E dX5_aRow_39 lkX5_144 (ok_canTurn s40 A1 rs 172) (by rfl) rfl rfl rfl (Nat.le_of_ble_eq_true rfl) ⟨(Nat.le_of_ble_eq_true rfl), (Nat.le_of_ble_eq_true rfl)⟩ ⟨rfl, rfl⟩ ⟨Nat.zero_le _, Nat.zero_le _⟩ ?_
  rw [e1, if_b01]
  refine z_bif_ne (tgt := 48) E dX5_aRow_42 (by decide) (fun h42 => ?_) (fun h42 => ?_)
  · refine z_aload_n E dX5_aRow_48 rfl ?_
    refine z_get E dX5_aRow_49 (by rfl) flX5_24 (by rfl) ?_
    refine z_aload_n E dX5_aRow_52 rfl ?_
    refine z_get E dX5_aRow_53 (by rfl) flX5_31 (by rfl) ?_
    refine z_aload_n E dX5_aRow_56 rfl ?_
    refine z_get E dX5_aRow_57 (by rfl) flX5_35 (by rfl) ?_
    refine c_V0Q E dX5_aRow_60 lkX5_147 (ok_turned s40 s42 (by omega) (by omega) (by omega) (by omega) A1 hX1.1 rs 172) (by rfl) rfl rfl rfl (Nat.le_of_ble_eq_true rfl) ⟨(Nat.le_of_ble_eq_true rfl), (Nat.le_of_ble_eq_true rfl)⟩ ⟨rfl, rfl⟩ ⟨Nat.zero_le _, Nat.zero_le _⟩ (fun g1 hg1 => ?_)
    obtain ⟨A2, rfl, f2, o2⟩ := hg1
    rw [e1] at f2
    have hX2 : XI A2 σ := hX1.scr (fun k hk => o2 k (by simp; omega))
    refine z_aload_n E dX5_aRow_63 rfl ?_
    refine z_get E dX5_aRow_64 (by rfl) flX5_24 (by rfl) ?_
    refine z_aload_n E dX5_aRow_67 rfl ?_
    refine z_get E dX5_aRow_68 (by rfl) flX5_35 (by rfl) ?_
    refine z_aload_n E dX5_aRow_71 rfl ?_
    refine z_get E dX5_aRow_72 (by rfl) flX5_44 (by rfl) ?_
    refine c_V0 E dX5_aRow_75 lkX5_209 (ok_tBy s42 s48 (by omega) (by omega) A2 hX2.1 (by rw [f2]; exact tuS_rok _) 172) (by rfl) rfl rfl rfl (Nat.le_of_ble_eq_true rfl) ⟨(Nat.le_of_ble_eq_true rfl), (Nat.le_of_ble_eq_true rfl)⟩ ⟨rfl, rfl⟩ ⟨Nat.zero_le _, Nat.zero_le _⟩ ?_
    rw [f2]
    have hX3 : XI (va_up (va_up A2 33 (shd (tuS (srS σ s)))) (48 + 1) (tbS (tuS (srS σ s)))) σ := (hX2.ups (by omega)).ups (by omega)
    have e3 : va_up (va_up A2 33 (shd (tuS (srS σ s)))) (48 + 1) (tbS (tuS (srS σ s))) (48 + 1) = tbS (tuS (srS σ s)) := va_up_self _ _ _
    have hh3 : Hi A2 (va_up (va_up A2 33 (shd (tuS (srS σ s)))) (48 + 1) (tbS (tuS (srS σ s)))) := hi_tr (hi_up (by omega)) (hi_up (by omega))
    generalize va_up (va_up A2 33 (shd (tuS (srS σ s)))) (48 + 1) (tbS (tuS (srS σ s))) = A3 at *
    refine z_aload_n E dX5_aRow_78 rfl ?_
    refine z_iload_n E dX5_aRow_79 rfl ?_
    refine z_aload_n E dX5_aRow_80 rfl ?_
    refine z_get E dX5_aRow_81 (by rfl) flX5_44 (by rfl) ?_
    refine c_VQ E dX5_aRow_84 lkX5_113 (ok_becomes hu8 s48 hX3 _ e3 (tbS_rok _) 172) (by rfl) rfl rfl rfl (Nat.le_of_ble_eq_true rfl) ⟨(Nat.le_of_ble_eq_true rfl), (Nat.le_of_ble_eq_true rfl)⟩ ⟨rfl, rfl⟩ ⟨Nat.zero_le _, Nat.zero_le _⟩ (fun g1 hg1 => ?_)
    obtain ⟨A4, rfl, hX4, hh4, hl4⟩ := hg1
    have e4 : A4 49 = tbS (tuS (srS σ s)) := by rw [hl4 49 (by omega)]; exact e3
    refine z_pop E dX5_aRow_87 rfl ?_
    refine z_aload_n E dX5_aRow_88 rfl ?_
    refine z_get E dX5_aRow_89 (by rfl) flX5_44 (by rfl) ?_
    refine z_get E dX5_aRow_92 (cel_ser s48 _) flX5_175 (by rfl) ?_
    refine z_iconst E dX5_aRow_95 ?_
    refine a_iald (j := 0) E dX5_aRow_96 (fun _ => rfl) (by omega) (by omega) (by omega) ?_
    rw [e4]
    exact z_iret E F dX5_aRow_97 (fin hop ((if_pos hv).trans ((if_neg hnl).trans (if_pos h42))) (xp_to hX4 (hi_tr hh1 (hi_tr (fun k hk => o2 k (by simp; omega)) (hi_tr hh3 hh4)))))
  · refine z_bipush E (by decide) dX5_aRow_45 ?_
    exact z_iret E F dX5_aRow_47 (fin hop ((if_pos hv).trans ((if_neg hnl).trans (if_neg h42))) (xp_to hX1 hh1))
set_option maxRecDepth 100000 in
theorem x_power {A : Nat → Nat → Int} {σ : St} (hX : XI A σ) (s n u : Int) (hs : inR s) (hn : inR n) (hu : inR u) : OkI mX5_power [.ref 0, .int (iI s), .int (iI n), .int (iI u)] 172 (mA A) (.int (iI (opPower σ s n u).1)) (XP A (opPower σ s n u).2) := by
  generalize hop : opPower σ s n u = R
  refine OkM.of [some (.ref 0), some (.int (iI s)), some (.int (iI n)), some (.int (iI u))] (by decide +kernel) rfl (Nat.le_of_ble_eq_true rfl) ?_
  intro X E F
  have hbad : ¬ (iS s ∧ (0 ≤ n ∧ n ≤ 1000) ∧ iS u) → Zc X 25 [some (.ref 0), some (.int (iI s)), some (.int (iI n)), some (.int (iI u))] [] 172 (mA A) 0 0 := by
    intro hv
    refine z_bipush E (by decide) dX5_power_25 ?_
    exact z_iret E F dX5_power_27 (fin hop (if_neg hv) (xp_same hX))
  refine z_iload_n E dX5_power_0 rfl ?_
  refine c_S E dX5_power_1 lkX5_56 (ok_isSheet5 s hs 172 _) rfl rfl rfl (Nat.le_of_ble_eq_true rfl) ⟨(Nat.le_of_ble_eq_true rfl), (Nat.le_of_ble_eq_true rfl)⟩ ⟨rfl, rfl⟩ ⟨Nat.zero_le _, Nat.zero_le _⟩ ?_
  refine z_bif_eq (tgt := 25) E dX5_power_4 (by decide) (fun h4 => ?_) (fun h4 => ?_)
  · exact hbad (fun v => h4 v.1)
  refine z_iload_n E dX5_power_7 rfl ?_
  refine z_if_lt (tgt := 25) E (by omega) dX5_power_8 (by decide) (fun h8 => ?_) (fun h8 => ?_)
  · exact hbad (fun v => by omega)
  refine z_iload_n E dX5_power_11 rfl ?_
  refine z_sipush E (by decide) dX5_power_12 ?_
  refine z_icmp_gt (tgt := 25) E (by omega) (by omega) dX5_power_15 (by decide) (fun h15 => ?_) (fun h15 => ?_)
  · exact hbad (fun v => by omega)
  refine z_iload_n E dX5_power_18 rfl ?_
  refine c_S E dX5_power_19 lkX5_56 (ok_isSheet5 u hu 172 _) rfl rfl rfl (Nat.le_of_ble_eq_true rfl) ⟨(Nat.le_of_ble_eq_true rfl), (Nat.le_of_ble_eq_true rfl)⟩ ⟨rfl, rfl⟩ ⟨Nat.zero_le _, Nat.zero_le _⟩ ?_
  refine z_bif_ne (tgt := 28) E dX5_power_22 (by decide) (fun h22 => ?_) (fun h22 => ?_)
  case refine_2 => exact hbad (fun v => h22 v.2.2)
  have hv : iS s ∧ (0 ≤ n ∧ n ≤ 1000) ∧ iS u := ⟨h4, ⟨h8, h15⟩, h22⟩
  obtain ⟨s, rfl⟩ := nat_of h4.1
  obtain ⟨u, rfl⟩ := nat_of h22.1
  obtain ⟨n, rfl⟩ := nat_of h8
  have hs8 : s < 8 := by omega
  have hu8 : u < 8 := by omega
  have hnull : (σ s 0 = 0) → ∀ A2, XI A2 σ → Hi A A2 → Zc X 40 [some (.ref 0), some (.int (iI (s : Int))), some (.int (iI (n : Int))), some (.int (iI (u : Int)))] [] 172 (mA A2) 0 0 := by
    intro hl A2 hX2 hh
    refine z_aload_n E dX5_power_40 rfl ?_
    refine z_iconst E dX5_power_41 ?_
    refine c_VQ E dX5_power_42 lkX5_63 (ok_found hX2 1 (by omega) 172) (by rfl) rfl rfl rfl (Nat.le_of_ble_eq_true rfl) ⟨(Nat.le_of_ble_eq_true rfl), (Nat.le_of_ble_eq_true rfl)⟩ ⟨rfl, rfl⟩ ⟨Nat.zero_le _, Nat.zero_le _⟩ (fun g1 hg1 => ?_)
    exact z_iret E F dX5_power_45 (fin hop ((if_pos hv).trans (if_pos hl)) (xp_tr hh hg1))
  rcases (hX.2.2.1 s hs8).1 with ls | ls
  · refine z_aload_n E dX5_power_28 rfl ?_
    refine z_iload_n E dX5_power_29 rfl ?_
    refine z_aload_n E dX5_power_30 rfl ?_
    refine z_get E dX5_power_31 (by rfl) flX5_31 (by rfl) ?_
    refine c_V E dX5_power_34 lkX5_117 (ok_reads0 (o := 40) hs8 hX ls 172) (by rfl) rfl rfl rfl (Nat.le_of_ble_eq_true rfl) ⟨(Nat.le_of_ble_eq_true rfl), (Nat.le_of_ble_eq_true rfl)⟩ ⟨rfl, rfl⟩ ⟨Nat.zero_le _, Nat.zero_le _⟩ ?_
    refine z_if_ne (tgt := 46) E (by omega) dX5_power_37 (by decide) (fun hq => False.elim (by omega)) (fun h37 => ?_)
    exact hnull ls A hX (fun _ _ => rfl)
  refine z_aload_n E dX5_power_28 rfl ?_
  refine z_iload_n E dX5_power_29 rfl ?_
  refine z_aload_n E dX5_power_30 rfl ?_
  refine z_get E dX5_power_31 (by rfl) flX5_31 (by rfl) ?_
  refine c_V E dX5_power_34 lkX5_117 (ok_reads1 hs8 s40 (by omega) hX ls 172) (by rfl) rfl rfl rfl (Nat.le_of_ble_eq_true rfl) ⟨(Nat.le_of_ble_eq_true rfl), (Nat.le_of_ble_eq_true rfl)⟩ ⟨rfl, rfl⟩ ⟨Nat.zero_le _, Nat.zero_le _⟩ ?_
  refine z_if_ne (tgt := 46) E (by omega) dX5_power_37 (by decide) (fun h37 => ?_) (fun hq => False.elim (by omega))
  have hnl : ¬ σ s 0 = 0 := by omega
  have hX1 : XI (va_up A (40 + 1) (srS σ s)) σ := hX.ups (by omega)
  refine z_aload_n E dX5_power_46 rfl ?_
  refine z_get E dX5_power_47 (by rfl) flX5_44 (by rfl) ?_
  refine z_aload_n E dX5_power_50 rfl ?_
  refine z_get E dX5_power_51 (by rfl) flX5_31 (by rfl) ?_
  refine z_iload_n E dX5_power_54 rfl ?_
  refine c_V0 E dX5_power_55 lkX5_150 (ok_becomeRaised s48 s40 (by omega) _ (by rw [va_up_self]; exact srS_rok σ s) n (by omega) 172) (by rfl) rfl rfl rfl (Nat.le_of_ble_eq_true rfl) ⟨(Nat.le_of_ble_eq_true rfl), (Nat.le_of_ble_eq_true rfl)⟩ ⟨rfl, rfl⟩ ⟨Nat.zero_le _, Nat.zero_le _⟩ ?_
  rw [va_up_self]
  have hX3 : XI (va_up (va_up A (40 + 1) (srS σ s)) (48 + 1) (raS (srS σ s) n 10)) σ := hX1.ups (by omega)
  refine z_aload_n E dX5_power_58 rfl ?_
  refine z_iload_n E dX5_power_59 rfl ?_
  refine z_aload_n E dX5_power_60 rfl ?_
  refine z_get E dX5_power_61 (by rfl) flX5_44 (by rfl) ?_
  refine c_VQ E dX5_power_64 lkX5_113 (ok_becomes hu8 s48 hX3 _ (va_up_self _ _ _) (raS_rok _ _ _) 172) (by rfl) rfl rfl rfl (Nat.le_of_ble_eq_true rfl) ⟨(Nat.le_of_ble_eq_true rfl), (Nat.le_of_ble_eq_true rfl)⟩ ⟨rfl, rfl⟩ ⟨Nat.zero_le _, Nat.zero_le _⟩ (fun g1 hg1 => ?_)
  obtain ⟨A4, rfl, hX4, hh4, -⟩ := hg1
  exact z_iret E F dX5_power_67 (fin hop ((if_pos hv).trans (if_neg hnl)) (xp_to hX4 (hi_tr (hi_tr (hi_up (by omega)) (hi_up (by omega))) hh4)))
set_option maxRecDepth 100000 in
theorem x_sum {A : Nat → Nat → Int} {σ : St} (hX : XI A σ) (s a m : Int) (hs : inR s) (ha : inR a) (hm : inR m) : OkI mX5_sum [.ref 0, .int (iI s), .int (iI a), .int (iI m)] 172 (mA A) (.int (iI (opSum σ s a m).1)) (XP A (opSum σ s a m).2) := by
  generalize hop : opSum σ s a m = R
  refine OkM.of [some (.ref 0), some (.int (iI s)), some (.int (iI a)), some (.int (iI m))] (by decide +kernel) rfl (Nat.le_of_ble_eq_true rfl) ?_
  intro X E F
  have hbad : ¬ (iS s ∧ (0 ≤ m ∧ m ≤ 2000000000)) → Zc X 17 [some (.ref 0), some (.int (iI s)), some (.int (iI a)), some (.int (iI m))] [] 172 (mA A) 0 0 := by
    intro hv
    refine z_bipush E (by decide) dX5_sum_17 ?_
    exact z_iret E F dX5_sum_19 (fin hop (if_neg hv) (xp_same hX))
  refine z_iload_n E dX5_sum_0 rfl ?_
  refine c_S E dX5_sum_1 lkX5_56 (ok_isSheet5 s hs 172 _) rfl rfl rfl (Nat.le_of_ble_eq_true rfl) ⟨(Nat.le_of_ble_eq_true rfl), (Nat.le_of_ble_eq_true rfl)⟩ ⟨rfl, rfl⟩ ⟨Nat.zero_le _, Nat.zero_le _⟩ ?_
  refine z_bif_eq (tgt := 17) E dX5_sum_4 (by decide) (fun h4 => ?_) (fun h4 => ?_)
  · exact hbad (fun v => h4 v.1)
  refine z_iload_n E dX5_sum_7 rfl ?_
  refine z_if_lt (tgt := 17) E (by omega) dX5_sum_8 (by decide) (fun h8 => ?_) (fun h8 => ?_)
  · exact hbad (fun v => by omega)
  refine z_iload_n E dX5_sum_11 rfl ?_
  refine z_ldc (z := 2000000000) E ctX5_190 (by decide) dX5_sum_12 ?_
  refine z_icmp_le (tgt := 20) E (by omega) (by omega) dX5_sum_14 (by decide) (fun h14 => ?_) (fun h14 => ?_)
  case refine_2 => exact hbad (fun v => by omega)
  have hv : iS s ∧ (0 ≤ m ∧ m ≤ 2000000000) := ⟨h4, h8, h14⟩
  obtain ⟨s, rfl⟩ := nat_of h4.1
  have hs8 : s < 8 := by omega
  have hnull : (σ s 0 = 0) → ∀ A2, XI A2 σ → Hi A A2 → Zc X 32 [some (.ref 0), some (.int (iI (s : Int))), some (.int (iI a)), some (.int (iI m))] [] 172 (mA A2) 0 0 := by
    intro hl A2 hX2 hh
    refine z_aload_n E dX5_sum_32 rfl ?_
    refine z_iconst E dX5_sum_33 ?_
    refine c_VQ E dX5_sum_34 lkX5_63 (ok_found hX2 1 (by omega) 172) (by rfl) rfl rfl rfl (Nat.le_of_ble_eq_true rfl) ⟨(Nat.le_of_ble_eq_true rfl), (Nat.le_of_ble_eq_true rfl)⟩ ⟨rfl, rfl⟩ ⟨Nat.zero_le _, Nat.zero_le _⟩ (fun g1 hg1 => ?_)
    exact z_iret E F dX5_sum_37 (fin hop ((if_pos hv).trans (if_pos hl)) (xp_tr hh hg1))
  rcases (hX.2.2.1 s hs8).1 with ls | ls
  · refine z_aload_n E dX5_sum_20 rfl ?_
    refine z_iload_n E dX5_sum_21 rfl ?_
    refine z_aload_n E dX5_sum_22 rfl ?_
    refine z_get E dX5_sum_23 (by rfl) flX5_31 (by rfl) ?_
    refine c_V E dX5_sum_26 lkX5_117 (ok_reads0 (o := 40) hs8 hX ls 172) (by rfl) rfl rfl rfl (Nat.le_of_ble_eq_true rfl) ⟨(Nat.le_of_ble_eq_true rfl), (Nat.le_of_ble_eq_true rfl)⟩ ⟨rfl, rfl⟩ ⟨Nat.zero_le _, Nat.zero_le _⟩ ?_
    refine z_if_ne (tgt := 38) E (by omega) dX5_sum_29 (by decide) (fun hq => False.elim (by omega)) (fun h29 => ?_)
    exact hnull ls A hX (fun _ _ => rfl)
  refine z_aload_n E dX5_sum_20 rfl ?_
  refine z_iload_n E dX5_sum_21 rfl ?_
  refine z_aload_n E dX5_sum_22 rfl ?_
  refine z_get E dX5_sum_23 (by rfl) flX5_31 (by rfl) ?_
  refine c_V E dX5_sum_26 lkX5_117 (ok_reads1 hs8 s40 (by omega) hX ls 172) (by rfl) rfl rfl rfl (Nat.le_of_ble_eq_true rfl) ⟨(Nat.le_of_ble_eq_true rfl), (Nat.le_of_ble_eq_true rfl)⟩ ⟨rfl, rfl⟩ ⟨Nat.zero_le _, Nat.zero_le _⟩ ?_
  refine z_if_ne (tgt := 38) E (by omega) dX5_sum_29 (by decide) (fun h29 => ?_) (fun hq => False.elim (by omega))
  have hnl : ¬ σ s 0 = 0 := by omega
  have hX1 : XI (va_up A (40 + 1) (srS σ s)) σ := hX.ups (by omega)
  refine z_aload_n E dX5_sum_38 rfl ?_
  refine z_get E dX5_sum_39 (by rfl) flX5_24 (by rfl) ?_
  refine z_aload_n E dX5_sum_42 rfl ?_
  refine z_get E dX5_sum_43 (by rfl) flX5_31 (by rfl) ?_
  refine z_iload_n E dX5_sum_46 rfl ?_
  refine z_iload_n E dX5_sum_47 rfl ?_
  refine c_V E dX5_sum_48 lkX5_191 (ok_summed s40 _ hX1.1 (by rw [va_up_self]; exact srS_rok σ s) a ha m hm 172) (by rfl) rfl rfl rfl (Nat.le_of_ble_eq_true rfl) ⟨(Nat.le_of_ble_eq_true rfl), (Nat.le_of_ble_eq_true rfl)⟩ ⟨rfl, rfl⟩ ⟨Nat.zero_le _, Nat.zero_le _⟩ ?_
  rw [va_up_self]
  exact z_iret E F dX5_sum_51 (fin hop ((if_pos hv).trans (if_neg hnl)) (xp_to (hX1.ups (by omega)) (hi_tr (hi_up (by omega)) (hi_up (by omega)))))
set_option maxRecDepth 100000 in
theorem x_difference {A : Nat → Nat → Int} {σ : St} (hX : XI A σ) (s k a : Int) (hs : inR s) (hk : inR k) (ha : inR a) : OkI mX5_difference [.ref 0, .int (iI s), .int (iI k), .int (iI a)] 172 (mA A) (.int (iI (opDiff σ s k a).1)) (XP A (opDiff σ s k a).2) := by
  generalize hop : opDiff σ s k a = R
  refine OkM.of [some (.ref 0), some (.int (iI s)), some (.int (iI k)), some (.int (iI a))] (by decide +kernel) rfl (Nat.le_of_ble_eq_true rfl) ?_
  intro X E F
  have hbad : ¬ (iS s ∧ iP k) → Zc X 14 [some (.ref 0), some (.int (iI s)), some (.int (iI k)), some (.int (iI a))] [] 172 (mA A) 0 0 := by
    intro hv
    refine z_bipush E (by decide) dX5_difference_14 ?_
    exact z_iret E F dX5_difference_16 (fin hop (if_neg hv) (xp_same hX))
  refine z_iload_n E dX5_difference_0 rfl ?_
  refine c_S E dX5_difference_1 lkX5_56 (ok_isSheet5 s hs 172 _) rfl rfl rfl (Nat.le_of_ble_eq_true rfl) ⟨(Nat.le_of_ble_eq_true rfl), (Nat.le_of_ble_eq_true rfl)⟩ ⟨rfl, rfl⟩ ⟨Nat.zero_le _, Nat.zero_le _⟩ ?_
  refine z_bif_eq (tgt := 14) E dX5_difference_4 (by decide) (fun h4 => ?_) (fun h4 => ?_)
  · exact hbad (fun v => h4 v.1)
  refine z_iload_n E dX5_difference_7 rfl ?_
  refine c_S E dX5_difference_8 lkX5_103 (ok_isPlace5 k hk 172 _) rfl rfl rfl (Nat.le_of_ble_eq_true rfl) ⟨(Nat.le_of_ble_eq_true rfl), (Nat.le_of_ble_eq_true rfl)⟩ ⟨rfl, rfl⟩ ⟨Nat.zero_le _, Nat.zero_le _⟩ ?_
  refine z_bif_ne (tgt := 17) E dX5_difference_11 (by decide) (fun h11 => ?_) (fun h11 => ?_)
  case refine_2 => exact hbad (fun v => h11 v.2)
  have hv : iS s ∧ iP k := ⟨h4, h11⟩
  obtain ⟨s, rfl⟩ := nat_of h4.1
  obtain ⟨k, rfl⟩ := nat_of h11.1
  have hs8 : s < 8 := by omega
  have hnull : (σ s 0 = 0) → ∀ A2, XI A2 σ → Hi A A2 → Zc X 29 [some (.ref 0), some (.int (iI (s : Int))), some (.int (iI (k : Int))), some (.int (iI a))] [] 172 (mA A2) 0 0 := by
    intro hl A2 hX2 hh
    refine z_aload_n E dX5_difference_29 rfl ?_
    refine z_iconst E dX5_difference_30 ?_
    refine c_VQ E dX5_difference_31 lkX5_63 (ok_found hX2 1 (by omega) 172) (by rfl) rfl rfl rfl (Nat.le_of_ble_eq_true rfl) ⟨(Nat.le_of_ble_eq_true rfl), (Nat.le_of_ble_eq_true rfl)⟩ ⟨rfl, rfl⟩ ⟨Nat.zero_le _, Nat.zero_le _⟩ (fun g1 hg1 => ?_)
    exact z_iret E F dX5_difference_34 (fin hop ((if_pos hv).trans (if_pos hl)) (xp_tr hh hg1))
  rcases (hX.2.2.1 s hs8).1 with ls | ls
  · refine z_aload_n E dX5_difference_17 rfl ?_
    refine z_iload_n E dX5_difference_18 rfl ?_
    refine z_aload_n E dX5_difference_19 rfl ?_
    refine z_get E dX5_difference_20 (by rfl) flX5_31 (by rfl) ?_
    refine c_V E dX5_difference_23 lkX5_117 (ok_reads0 (o := 40) hs8 hX ls 172) (by rfl) rfl rfl rfl (Nat.le_of_ble_eq_true rfl) ⟨(Nat.le_of_ble_eq_true rfl), (Nat.le_of_ble_eq_true rfl)⟩ ⟨rfl, rfl⟩ ⟨Nat.zero_le _, Nat.zero_le _⟩ ?_
    refine z_if_ne (tgt := 35) E (by omega) dX5_difference_26 (by decide) (fun hq => False.elim (by omega)) (fun h26 => ?_)
    exact hnull ls A hX (fun _ _ => rfl)
  refine z_aload_n E dX5_difference_17 rfl ?_
  refine z_iload_n E dX5_difference_18 rfl ?_
  refine z_aload_n E dX5_difference_19 rfl ?_
  refine z_get E dX5_difference_20 (by rfl) flX5_31 (by rfl) ?_
  refine c_V E dX5_difference_23 lkX5_117 (ok_reads1 hs8 s40 (by omega) hX ls 172) (by rfl) rfl rfl rfl (Nat.le_of_ble_eq_true rfl) ⟨(Nat.le_of_ble_eq_true rfl), (Nat.le_of_ble_eq_true rfl)⟩ ⟨rfl, rfl⟩ ⟨Nat.zero_le _, Nat.zero_le _⟩ ?_
  refine z_if_ne (tgt := 35) E (by omega) dX5_difference_26 (by decide) (fun h26 => ?_) (fun hq => False.elim (by omega))
  have hnl : ¬ σ s 0 = 0 := by omega
  have hX1 : XI (va_up A (40 + 1) (srS σ s)) σ := hX.ups (by omega)
  refine z_aload_n E dX5_difference_35 rfl ?_
  refine z_get E dX5_difference_36 (by rfl) flX5_24 (by rfl) ?_
  refine z_aload_n E dX5_difference_39 rfl ?_
  refine z_get E dX5_difference_40 (by rfl) flX5_31 (by rfl) ?_
  refine z_iload_n E dX5_difference_43 rfl ?_
  refine z_iload_n E dX5_difference_44 rfl ?_
  refine c_V E dX5_difference_45 lkX5_203 (ok_differenceAt s40 _ (by rw [va_up_self]; exact srS_rok σ s) k (by omega) a ha 172) (by rfl) rfl rfl rfl (Nat.le_of_ble_eq_true rfl) ⟨(Nat.le_of_ble_eq_true rfl), (Nat.le_of_ble_eq_true rfl)⟩ ⟨rfl, rfl⟩ ⟨Nat.zero_le _, Nat.zero_le _⟩ ?_
  rw [va_up_self]
  exact z_iret E F dX5_difference_48 (fin hop ((if_pos hv).trans (if_neg hnl)) (xp_to (hX1.ups (by omega)) (hi_tr (hi_up (by omega)) (hi_up (by omega)))))
set_option maxRecDepth 100000 in
theorem x_through {A : Nat → Nat → Int} {σ : St} (hX : XI A σ) (s n u : Int) (hs : inR s) (hn : inR n) (hu : inR u) : OkI mX5_through [.ref 0, .int (iI s), .int (iI n), .int (iI u)] 172 (mA A) (.int (iI (opThrough σ s n u).1)) (XP A (opThrough σ s n u).2) := by
  generalize hop : opThrough σ s n u = R
  refine OkM.of [some (.ref 0), some (.int (iI s)), some (.int (iI n)), some (.int (iI u))] (by decide +kernel) rfl (Nat.le_of_ble_eq_true rfl) ?_
  intro X E F
  have hbad : ¬ (iS s ∧ (1 ≤ n ∧ n ≤ 10) ∧ iS u) → Zc X 25 [some (.ref 0), some (.int (iI s)), some (.int (iI n)), some (.int (iI u))] [] 172 (mA A) 0 0 := by
    intro hv
    refine z_bipush E (by decide) dX5_through_25 ?_
    exact z_iret E F dX5_through_27 (fin hop (if_neg hv) (xp_same hX))
  refine z_iload_n E dX5_through_0 rfl ?_
  refine c_S E dX5_through_1 lkX5_56 (ok_isSheet5 s hs 172 _) rfl rfl rfl (Nat.le_of_ble_eq_true rfl) ⟨(Nat.le_of_ble_eq_true rfl), (Nat.le_of_ble_eq_true rfl)⟩ ⟨rfl, rfl⟩ ⟨Nat.zero_le _, Nat.zero_le _⟩ ?_
  refine z_bif_eq (tgt := 25) E dX5_through_4 (by decide) (fun h4 => ?_) (fun h4 => ?_)
  · exact hbad (fun v => h4 v.1)
  refine z_iload_n E dX5_through_7 rfl ?_
  refine z_iconst E dX5_through_8 ?_
  refine z_icmp_lt (tgt := 25) E (by omega) (by omega) dX5_through_9 (by decide) (fun h9 => ?_) (fun h9 => ?_)
  · exact hbad (fun v => by omega)
  refine z_iload_n E dX5_through_12 rfl ?_
  refine z_bipush E (by decide) dX5_through_13 ?_
  refine z_icmp_gt (tgt := 25) E (by omega) (by omega) dX5_through_15 (by decide) (fun h15 => ?_) (fun h15 => ?_)
  · exact hbad (fun v => by omega)
  refine z_iload_n E dX5_through_18 rfl ?_
  refine c_S E dX5_through_19 lkX5_56 (ok_isSheet5 u hu 172 _) rfl rfl rfl (Nat.le_of_ble_eq_true rfl) ⟨(Nat.le_of_ble_eq_true rfl), (Nat.le_of_ble_eq_true rfl)⟩ ⟨rfl, rfl⟩ ⟨Nat.zero_le _, Nat.zero_le _⟩ ?_
  refine z_bif_ne (tgt := 28) E dX5_through_22 (by decide) (fun h22 => ?_) (fun h22 => ?_)
  case refine_2 => exact hbad (fun v => h22 v.2.2)
  have hv : iS s ∧ (1 ≤ n ∧ n ≤ 10) ∧ iS u := ⟨h4, ⟨h9, h15⟩, h22⟩
  obtain ⟨s, rfl⟩ := nat_of h4.1
  obtain ⟨u, rfl⟩ := nat_of h22.1
  obtain ⟨n, rfl⟩ := nat_of (s := n) (by omega)
  have hs8 : s < 8 := by omega
  have hu8 : u < 8 := by omega
  have hnull : (σ s 0 = 0) → ∀ A2, XI A2 σ → Hi A A2 → Zc X 40 [some (.ref 0), some (.int (iI (s : Int))), some (.int (iI (n : Int))), some (.int (iI (u : Int)))] [] 172 (mA A2) 0 0 := by
    intro hl A2 hX2 hh
    refine z_aload_n E dX5_through_40 rfl ?_
    refine z_iconst E dX5_through_41 ?_
    refine c_VQ E dX5_through_42 lkX5_63 (ok_found hX2 1 (by omega) 172) (by rfl) rfl rfl rfl (Nat.le_of_ble_eq_true rfl) ⟨(Nat.le_of_ble_eq_true rfl), (Nat.le_of_ble_eq_true rfl)⟩ ⟨rfl, rfl⟩ ⟨Nat.zero_le _, Nat.zero_le _⟩ (fun g1 hg1 => ?_)
    exact z_iret E F dX5_through_45 (fin hop ((if_pos hv).trans (if_pos hl)) (xp_tr hh hg1))
  rcases (hX.2.2.1 s hs8).1 with ls | ls
  · refine z_aload_n E dX5_through_28 rfl ?_
    refine z_iload_n E dX5_through_29 rfl ?_
    refine z_aload_n E dX5_through_30 rfl ?_
    refine z_get E dX5_through_31 (by rfl) flX5_31 (by rfl) ?_
    refine c_V E dX5_through_34 lkX5_117 (ok_reads0 (o := 40) hs8 hX ls 172) (by rfl) rfl rfl rfl (Nat.le_of_ble_eq_true rfl) ⟨(Nat.le_of_ble_eq_true rfl), (Nat.le_of_ble_eq_true rfl)⟩ ⟨rfl, rfl⟩ ⟨Nat.zero_le _, Nat.zero_le _⟩ ?_
    refine z_if_ne (tgt := 46) E (by omega) dX5_through_37 (by decide) (fun hq => False.elim (by omega)) (fun h37 => ?_)
    exact hnull ls A hX (fun _ _ => rfl)
  refine z_aload_n E dX5_through_28 rfl ?_
  refine z_iload_n E dX5_through_29 rfl ?_
  refine z_aload_n E dX5_through_30 rfl ?_
  refine z_get E dX5_through_31 (by rfl) flX5_31 (by rfl) ?_
  refine c_V E dX5_through_34 lkX5_117 (ok_reads1 hs8 s40 (by omega) hX ls 172) (by rfl) rfl rfl rfl (Nat.le_of_ble_eq_true rfl) ⟨(Nat.le_of_ble_eq_true rfl), (Nat.le_of_ble_eq_true rfl)⟩ ⟨rfl, rfl⟩ ⟨Nat.zero_le _, Nat.zero_le _⟩ ?_
  refine z_if_ne (tgt := 46) E (by omega) dX5_through_37 (by decide) (fun h37 => ?_) (fun hq => False.elim (by omega))
  have hnl : ¬ σ s 0 = 0 := by omega
  have hX1 : XI (va_up A (40 + 1) (srS σ s)) σ := hX.ups (by omega)
  have e1 : va_up A (40 + 1) (srS σ s) (40 + 1) = srS σ s := va_up_self _ _ _
  have hh1 : Hi A (va_up A (40 + 1) (srS σ s)) := hi_up (by omega)
  generalize va_up A (40 + 1) (srS σ s) = A1 at *
  refine z_aload_n E dX5_through_46 rfl ?_
  refine z_get E dX5_through_47 (by rfl) flX5_24 (by rfl) ?_
  refine z_aload_n E dX5_through_50 rfl ?_
  refine z_get E dX5_through_51 (by rfl) flX5_31 (by rfl) ?_
  refine z_iload_n E dX5_through_54 rfl ?_
  refine z_aload_n E dX5_through_55 rfl ?_
  refine z_get E dX5_through_56 (by rfl) flX5_44 (by rfl) ?_
  refine c_V0 E dX5_through_59 lkX5_195 (ok_throughValues s40 s48 (by omega) A1 hX1.1 (by rw [e1]; exact srS_rok σ s) n (by omega) 172) (by rfl) rfl rfl rfl (Nat.le_of_ble_eq_true rfl) ⟨(Nat.le_of_ble_eq_true rfl), (Nat.le_of_ble_eq_true rfl)⟩ ⟨rfl, rfl⟩ ⟨Nat.zero_le _, Nat.zero_le _⟩ ?_
  rw [e1]
  generalize hf : thS (dfT (srS σ s) 9) n n = f
  have rf : rok f := by rw [← hf]; exact thS_rok _ _ _
  have hX3 : XI (va_up (va_up A1 29 (dfT (srS σ s) 9)) (48 + 1) f) σ := (hX1.ups (by omega)).ups (by omega)
  have e3 : va_up (va_up A1 29 (dfT (srS σ s) 9)) (48 + 1) f (48 + 1) = f := va_up_self _ _ _
  have hh3 : Hi A1 (va_up (va_up A1 29 (dfT (srS σ s) 9)) (48 + 1) f) := hi_tr (hi_up (by omega)) (hi_up (by omega))
  generalize va_up (va_up A1 29 (dfT (srS σ s) 9)) (48 + 1) f = A3 at *
  refine z_aload_n E dX5_through_62 rfl ?_
  refine z_iload_n E dX5_through_63 rfl ?_
  refine z_aload_n E dX5_through_64 rfl ?_
  refine z_get E dX5_through_65 (by rfl) flX5_44 (by rfl) ?_
  refine c_VQ E dX5_through_68 lkX5_113 (ok_becomes hu8 s48 hX3 f e3 rf 172) (by rfl) rfl rfl rfl (Nat.le_of_ble_eq_true rfl) ⟨(Nat.le_of_ble_eq_true rfl), (Nat.le_of_ble_eq_true rfl)⟩ ⟨rfl, rfl⟩ ⟨Nat.zero_le _, Nat.zero_le _⟩ (fun g1 hg1 => ?_)
  obtain ⟨A4, rfl, hX4, hh4, hl4⟩ := hg1
  have e4 : A4 (48 + 1) = f := by rw [hl4 (48 + 1) (by omega)]; exact e3
  refine z_pop E dX5_through_71 rfl ?_
  refine z_aload_n E dX5_through_72 rfl ?_
  refine z_get E dX5_through_73 (by rfl) flX5_44 (by rfl) ?_
  refine c_V E dX5_through_76 lkX5_199 (ok_degree s48 A4 (by rw [e4]; exact rf) 172) (by rfl) rfl rfl rfl (Nat.le_of_ble_eq_true rfl) ⟨(Nat.le_of_ble_eq_true rfl), (Nat.le_of_ble_eq_true rfl)⟩ ⟨rfl, rfl⟩ ⟨Nat.zero_le _, Nat.zero_le _⟩ ?_
  rw [e4]
  have hres : opThrough σ (s : Int) (n : Int) (u : Int) = (((dg f 9 : Nat) : Int), setSr σ u f) := by rw [← hf]; exact (if_pos hv).trans (if_neg hnl)
  exact z_iret E F dX5_through_79 (fin hop hres (xp_to hX4 (hi_tr hh1 (hi_tr hh3 hh4))))
