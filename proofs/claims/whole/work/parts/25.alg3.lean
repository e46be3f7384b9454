/-! LADDERS: built, lowered, told in one another, BINOMIAL -/
def buB (G F : Nat → Int) : Nat → (Nat → Int)
  | 0 => obS G (tuS F)
  | k + 1 => mulS (buB G F k) (tuS F)
theorem buB_rok (G F : Nat → Int) : ∀ k, rok (buB G F k)
  | 0 => qS_rok _ _
  | k + 1 => mulS_rok _ _
def blS (G F : Nat → Int) (n k : Nat) : Int := buB G F k n * fcl n % 10007 * ifc k % 10007
def OffB (A A' : Nat → Nat → Int) (l : Nat) : Prop := ∀ q, q ≠ 33 → q ≠ 35 → q ≠ 37 → q ≠ 39 → ¬ (68 + 22 * l ≤ q ∧ q < 90 + 22 * l) → A' q = A q
theorem KA.offB {A A' : Nat → Nat → Int} {l : Nat} (h : KA A) (ho : OffB A A' l) : KA A' := by
  have e : ∀ k, (k < 18 ∨ k = 31) → A' k = A k := fun k hk => ho k (by omega) (by omega) (by omega) (by omega) (by omega)
  refine ⟨fun n h1 h2 => by rw [e 4 (by omega)]; exact h.1 n h1 h2, fun n hn => by rw [e 5 (by omega)]; exact h.2.1 n hn, fun n hn => by rw [e 6 (by omega)]; exact h.2.2.1 n hn, by rw [e 31 (by omega)]; exact h.2.2.2.1, fun n k hk hn => by rw [e (8 + n) (by omega)]; exact h.2.2.2.2 n k hk hn⟩
set_option maxRecDepth 100000 in
theorem ok_build {l p f : Nat} (hl : l < 4) (hp : SerK p) (hf : SerK f) (hp2 : 40 ≤ p ∧ p < 52) (hf2 : 40 ≤ f ∧ f < 52) (A : Nat → Nat → Int) (hK : KA A) (ra : rok (A (p + 1))) (rb : rok (A (f + 1))) (N : Nat) :
    OkQ mX0_build [.ref 3, .ref (68 + 22 * l), .ref p, .ref f] N (mA A) (fun g' => ∃ A', g' = mA A' ∧ (∀ n k, n < 10 → k < 10 → A' (70 + 22 * l + 2 * n + 1) k = blS (A (p + 1)) (A (f + 1)) n k) ∧ A' (68 + 22 * l) 1 = 1 ∧ OffB A A' l) := by
  have hss := fun n (hn : n < 10) => ser_step hl hn
  generalize hG : A (p + 1) = G at ra ⊢
  generalize hF : A (f + 1) = F' at rb ⊢
  refine OkM.of [some (.ref 3), some (.ref (68 + 22 * l)), some (.ref p), some (.ref f), none, none, none] (by decide +kernel) rfl (Nat.le_of_ble_eq_true rfl) ?_
  intro X E F
  refine z_aload_n E dX0_build_0 rfl ?_
  refine z_aload_n E dX0_build_1 rfl ?_
  refine z_aload_n E dX0_build_2 rfl ?_
  refine z_get E dX0_build_3 (by rfl) flX0_48 (by rfl) ?_
  refine c_V0Q E dX0_build_6 lkX0_97 (ok_turned hf s38 (by omega) (by omega) (by omega) (by omega) A hK (by rw [hF]; exact rb) N) (by rfl) rfl rfl rfl (Nat.le_of_ble_eq_true rfl) ⟨(Nat.le_of_ble_eq_true rfl), (Nat.le_of_ble_eq_true rfl)⟩ ⟨rfl, rfl⟩ ⟨Nat.zero_le _, Nat.zero_le _⟩ (fun g1 hg1 => ?_)
  obtain ⟨A1, rfl, e39, hoff⟩ := hg1
  rw [hF] at e39
  have hK1 : KA A1 := hK.off hoff (by simp)
  have eG : A1 (p + 1) = G := by rw [hoff (p + 1) (by simp; have := hp.1; omega)]; exact hG
  refine z_aload_n E dX0_build_9 rfl ?_
  refine z_aload_n E dX0_build_10 rfl ?_
  refine z_aload_n E dX0_build_11 rfl ?_
  refine z_get E dX0_build_12 (by rfl) flX0_48 (by rfl) ?_
  refine z_aload_n E dX0_build_15 rfl ?_
  refine z_get E dX0_build_16 (by rfl) flX0_42 (by rfl) ?_
  refine c_V0 E dX0_build_19 lkX0_100 (ok_oneByInto hp s38 s34 (by omega) (by omega) (by omega) (by omega) A1 hK1 (by rw [eG]; exact ra) (by rw [e39]; exact tuS_rok _) N) (by rfl) rfl rfl rfl (Nat.le_of_ble_eq_true rfl) ⟨(Nat.le_of_ble_eq_true rfl), (Nat.le_of_ble_eq_true rfl)⟩ ⟨rfl, rfl⟩ ⟨Nat.zero_le _, Nat.zero_le _⟩ ?_
  rw [eG, e39]
  refine z_iconst E dX0_build_22 ?_
  refine z_istore (ls' := [_, _, _, _, _, _, _]) E dX0_build_23 (Nat.le_of_ble_eq_true rfl) rfl ?_
  have loop : ∀ (q k : Nat), k + q = 10 → ∀ (l5 l6 : Option Value) (A' : Nat → Nat → Int), A' 35 = buB G F' k → A' 39 = tuS F' → (∀ n j, n < 10 → j < k → A' (70 + 22 * l + 2 * n + 1) j = blS G F' n j) → OffB A A' l → Zc X 25 [some (.ref 3), some (.ref (68 + 22 * l)), some (.ref p), some (.ref f), some (.int (iI (k : Int))), l5, l6] [] N (mA A') 0 0 := by
    intro q
    induction q with
    | zero =>
      intro k hk l5 l6 A' e35 e39 est hof
      refine z_iload E dX0_build_25 rfl ?_
      refine z_bipush E (by decide) dX0_build_27 ?_
      refine z_icmp_ge (tgt := 120) E (by omega) (by omega) dX0_build_29 (by decide) (fun h29 => ?_) (fun h29 => ?_)
      · refine z_aload_n E dX0_build_120 rfl ?_
        refine z_iconst E dX0_build_121 ?_
        refine a_putZ E dX0_build_122 fpX0_110 (by omega) (cel_lad hl _) (by rw [cel_lad hl]; rfl) ?_
        refine z_vret E F dX0_build_125 ⟨rfl, _, rfl, ?_, ?_, ?_⟩
        · intro n j hn hj
          rw [va_up_ne _ _ (by omega)]
          exact est n j hn (by omega)
        · rw [va_up_self, up_eq]
        · intro q h1 h2 h3 h4 h5
          rw [va_up_ne _ _ (by omega)]
          exact hof q h1 h2 h3 h4 h5
      · omega
    | succ q ih =>
      intro k hk l5 l6 A' e35 e39 est hof
      refine z_iload E dX0_build_25 rfl ?_
      refine z_bipush E (by decide) dX0_build_27 ?_
      refine z_icmp_ge (tgt := 120) E (by omega) (by omega) dX0_build_29 (by decide) (fun h29 => ?_) (fun h29 => ?_)
      · omega
      · refine z_iconst E dX0_build_32 ?_
        refine z_istore (ls' := [_, _, _, _, _, _, _]) E dX0_build_33 (Nat.le_of_ble_eq_true rfl) rfl ?_
        have inner : ∀ (q2 n : Nat), n + q2 = 10 → ∀ (l6 : Option Value) (A' : Nat → Nat → Int), A' 35 = buB G F' k → A' 39 = tuS F' → (∀ m j, m < 10 → j < k → A' (70 + 22 * l + 2 * m + 1) j = blS G F' m j) → (∀ m, m < n → A' (70 + 22 * l + 2 * m + 1) k = blS G F' m k) → OffB A A' l → Zc X 35 [some (.ref 3), some (.ref (68 + 22 * l)), some (.ref p), some (.ref f), some (.int (iI (k : Int))), some (.int (iI (n : Int))), l6] [] N (mA A') 0 0 := by
          intro q2
          induction q2 with
          | zero =>
            intro n hn l6 A' e35 e39 est en hof
            refine z_iload E dX0_build_35 rfl ?_
            refine z_bipush E (by decide) dX0_build_37 ?_
            refine z_icmp_ge (tgt := 99) E (by omega) (by omega) dX0_build_39 (by decide) (fun h39 => ?_) (fun h39 => ?_)
            · refine z_aload_n E dX0_build_99 rfl ?_
              refine z_get E dX0_build_100 (by rfl) flX0_42 (by rfl) ?_
              refine z_aload_n E dX0_build_103 rfl ?_
              refine z_get E dX0_build_104 (by rfl) flX0_42 (by rfl) ?_
              refine z_aload_n E dX0_build_107 rfl ?_
              refine z_get E dX0_build_108 (by rfl) flX0_48 (by rfl) ?_
              refine c_V0 E dX0_build_111 lkX0_85 (ok_becomeTimes s34 s34 s38 A' (by show rok (A' 35); rw [e35]; exact buB_rok _ _ _) (by show rok (A' 39); rw [e39]; exact tuS_rok _) N) (by rfl) rfl rfl rfl (Nat.le_of_ble_eq_true rfl) ⟨(Nat.le_of_ble_eq_true rfl), (Nat.le_of_ble_eq_true rfl)⟩ ⟨rfl, rfl⟩ ⟨Nat.zero_le _, Nat.zero_le _⟩ ?_
              have e9 : mulS (A' (34 + 1)) (A' (38 + 1)) = buB G F' (k + 1) := by show mulS (A' 35) (A' 39) = _; rw [e35, e39]; rfl
              rw [e9]
              refine z_iinc (ls' := [_, _, _, _, _, _, _]) E dX0_build_114 rfl rfl ?_
              refine z_goto (tgt := 25) E dX0_build_117 (by decide) ?_
              rw [ei]
              refine ih (k + 1) (by omega) _ _ _ ?_ ?_ ?_ ?_
              · exact va_up_self _ _ _
              · rw [va_up_ne _ _ (by omega)]; exact e39
              · intro m j hm hj
                rw [va_up_ne _ _ (by omega)]
                by_cases e : j = k
                · subst e; exact en m (by omega)
                · exact est m j hm (by omega)
              · intro q h1 h2 h3 h4 h5
                rw [va_up_ne _ _ (by omega)]
                exact hof q h1 h2 h3 h4 h5
            · omega
          | succ q2 ihn =>
            intro n hn l6 A' e35 e39 est en hof
            have hK' : KA A' := hK.offB hof
            have r1 := buB_rok G F' k n (by omega)
            have e5 := hK'.2.1 n (by omega)
            have e6 := hK'.2.2.1 k (by omega)
            have p1 := mul_in r1 (fcl_in n)
            have p2 := mul_in (a := buB G F' k n * fcl n % 10007) (by omega) (ifc_in k)
            have hsn := hss n (by omega)
            refine z_iload E dX0_build_35 rfl ?_
            refine z_bipush E (by decide) dX0_build_37 ?_
            refine z_icmp_ge (tgt := 99) E (by omega) (by omega) dX0_build_39 (by decide) (fun h39 => ?_) (fun h39 => ?_)
            · omega
            · refine z_aload_n E dX0_build_42 rfl ?_
              refine z_get E dX0_build_43 (by rfl) flX0_42 (by rfl) ?_
              refine z_get E dX0_build_46 (cel_ser s34 _) flX0_61 (by rfl) ?_
              refine z_iload E dX0_build_49 rfl ?_
              refine a_iald (j := n) E dX0_build_51 (fun _ => rfl) (by omega) (by omega) (by omega) ?_
              refine z_aload_n E dX0_build_52 rfl ?_
              refine z_get E dX0_build_53 (by rfl) flX0_15 (by rfl) ?_
              refine z_iload E dX0_build_56 rfl ?_
              refine a_iald (j := n) E dX0_build_58 (fun _ => rfl) (by omega) (by omega) (by omega) ?_
              rw [e35, e5]
              refine z_imul E dX0_build_59 ?_
              refine z_sipush E (by decide) dX0_build_60 ?_
              refine z_irem E (by omega) (by omega) (by omega) (Int.tmod_eq_emod_of_nonneg (by omega)) dX0_build_63 ?_
              refine z_istore (ls' := [_, _, _, _, _, _, _]) E dX0_build_64 (Nat.le_of_ble_eq_true rfl) rfl ?_
              refine z_aload_n E dX0_build_66 rfl ?_
              refine z_get E dX0_build_67 (cel_lad hl _) flX0_104 (by rfl) ?_
              refine z_iload E dX0_build_70 rfl ?_
              refine a_aald (j := n) E dX0_build_72 (cel_steps hl _) (by omega) (by omega) (by omega) (by omega) ?_
              refine z_get E dX0_build_73 (cel_ser hsn _) flX0_61 (by rfl) ?_
              refine z_iload E dX0_build_76 rfl ?_
              refine z_iload E dX0_build_78 rfl ?_
              refine z_aload_n E dX0_build_80 rfl ?_
              refine z_get E dX0_build_81 (by rfl) flX0_18 (by rfl) ?_
              refine z_iload E dX0_build_84 rfl ?_
              refine a_iald (j := k) E dX0_build_86 (fun _ => rfl) (by omega) (by omega) (by omega) ?_
              rw [e6]
              refine z_imul E dX0_build_87 ?_
              refine z_sipush E (by decide) dX0_build_88 ?_
              refine z_irem E (by omega) (by omega) (by omega) (Int.tmod_eq_emod_of_nonneg (by omega)) dX0_build_91 ?_
              refine a_iast (j := k) E dX0_build_92 (cel_row hsn) (by omega) (by omega) (by omega) ?_
              refine z_iinc (ls' := [_, _, _, _, _, _, _]) E dX0_build_93 rfl rfl ?_
              refine z_goto (tgt := 35) E dX0_build_96 (by decide) ?_
              rw [ei]
              refine ihn (n + 1) (by omega) _ _ ?_ ?_ ?_ ?_ ?_
              · rw [va_up_ne _ _ (by omega)]; exact e35
              · rw [va_up_ne _ _ (by omega)]; exact e39
              · intro m j hm hj
                by_cases e : m = n
                · subst e; rw [va_up_self, up_ne _ _ (by omega)]; exact est m j hm hj
                · rw [va_up_ne _ _ (by omega)]; exact est m j hm hj
              · intro m hm
                by_cases e : m = n
                · subst e; rw [va_up_self, up_eq]; rfl
                · rw [va_up_ne _ _ (by omega)]; exact en m (by omega)
              · intro q h1 h2 h3 h4 h5
                rw [va_up_ne _ _ (by omega)]
                exact hof q h1 h2 h3 h4 h5
        exact inner 10 0 (by omega) _ _ e35 e39 est (fun m hm => by omega) hof
  refine loop 10 0 (by omega) _ _ _ ?_ ?_ (fun n j _ hj => by omega) ?_
  · exact va_up_self _ _ _
  · rw [va_up_ne _ _ (by omega), va_up_ne _ _ (by omega)]; exact e39
  · intro q h1 h2 h3 h4 h5
    rw [va_up_ne _ _ (by omega), va_up_ne _ _ (by omega)]
    exact hoff q (by simp; omega)
/-- the first n of so many from n on that p does not hold of; -1 if there is none -/
noncomputable def fnF (p : Nat → Prop) : Nat → Nat → Int
  | 0, _ => -1
  | q + 1, n => @ite Int (p n) (Classical.propDecidable _) (fnF p q (n + 1)) (n : Int)
theorem fnF_t {p : Nat → Prop} {q n : Nat} (h : p n) : fnF p (q + 1) n = fnF p q (n + 1) := @if_pos _ (Classical.propDecidable _) h _ _ _
theorem fnF_f {p : Nat → Prop} {q n : Nat} (h : ¬ p n) : fnF p (q + 1) n = (n : Int) := @if_neg _ (Classical.propDecidable _) h _ _ _
def lwS (a : Nat → Int) (S : Nat → Nat → Int) (n : Nat) : Prop := ∀ i, i < 10 → opS a (S n) i = (n : Int) * S (n - 1) i % 10007
set_option maxRecDepth 100000 in
theorem ok_firstNotLowered {l s : Nat} (hl : l < 4) (hs : SerK s) (hs2 : 40 ≤ s ∧ s < 52) (A : Nat → Nat → Int) (hK : KA A) (ra : rok (A (s + 1))) (rl : ∀ n, n < 10 → rok (A (70 + 22 * l + 2 * n + 1))) (N : Nat) :
    OkI mX0_firstNotLowered [.ref 3, .ref (68 + 22 * l), .ref s] N (mA A) (.int (iI (fnF (lwS (A (s + 1)) (fun n => A (70 + 22 * l + 2 * n + 1))) 9 1))) (fun g' => ∃ R, g' = mA (va_up A 37 R)) := by
  have hss := fun n (hn : n < 10) => ser_step hl hn
  refine OkM.of [some (.ref 3), some (.ref (68 + 22 * l)), some (.ref s), none] (by decide +kernel) rfl (Nat.le_of_ble_eq_true rfl) ?_
  intro X E F
  refine z_iconst E dX0_firstNotLowered_0 ?_
  refine z_istore_n (ls' := [_, _, _, _]) E rfl dX0_firstNotLowered_1 (Nat.le_of_ble_eq_true rfl) rfl ?_
  have loop : ∀ (q n : Nat), n + q = 10 → 1 ≤ n → ∀ A' : Nat → Nat → Int, (∃ R, A' = va_up A 37 R) → fnF (lwS (A (s + 1)) (fun n => A (70 + 22 * l + 2 * n + 1))) q n = fnF (lwS (A (s + 1)) (fun n => A (70 + 22 * l + 2 * n + 1))) 9 1 → Zc X 2 [some (.ref 3), some (.ref (68 + 22 * l)), some (.ref s), some (.int (iI (n : Int)))] [] N (mA A') 0 0 := by
    intro q
    induction q with
    | zero =>
      intro n hn h1 A' hA hv
      refine z_iload_n E dX0_firstNotLowered_2 rfl ?_
      refine z_bipush E (by decide) dX0_firstNotLowered_3 ?_
      refine z_icmp_ge (tgt := 50) E (by omega) (by omega) dX0_firstNotLowered_5 (by decide) (fun h5 => ?_) (fun h5 => ?_)
      · refine z_iconst E dX0_firstNotLowered_50 ?_
        refine z_iret E F dX0_firstNotLowered_51 ⟨by rw [← hv]; rfl, ?_⟩
        obtain ⟨R, hR⟩ := hA
        exact ⟨R, by rw [hR]⟩
      · omega
    | succ q ih =>
      intro n hn h1 A' hA hv
      obtain ⟨R, hR⟩ := hA
      have es : A' (s + 1) = A (s + 1) := by rw [hR, va_up_ne _ _ (by have := hs.1; omega)]
      have el : ∀ m, m < 10 → A' (70 + 22 * l + 2 * m + 1) = A (70 + 22 * l + 2 * m + 1) := fun m hm => by rw [hR, va_up_ne _ _ (by omega)]
      have hK' : KA A' := by rw [hR]; exact hK.up (by omega)
      refine z_iload_n E dX0_firstNotLowered_2 rfl ?_
      refine z_bipush E (by decide) dX0_firstNotLowered_3 ?_
      refine z_icmp_ge (tgt := 50) E (by omega) (by omega) dX0_firstNotLowered_5 (by decide) (fun h5 => ?_) (fun h5 => ?_)
      · omega
      · refine z_aload_n E dX0_firstNotLowered_8 rfl ?_
        refine z_aload_n E dX0_firstNotLowered_9 rfl ?_
        refine z_aload_n E dX0_firstNotLowered_10 rfl ?_
        refine z_get E dX0_firstNotLowered_11 (cel_lad hl _) flX0_104 (by rfl) ?_
        refine z_iload_n E dX0_firstNotLowered_14 rfl ?_
        refine a_aald (j := n) E dX0_firstNotLowered_15 (cel_steps hl _) (by omega) (by omega) (by omega) (by omega) ?_
        refine z_aload_n E dX0_firstNotLowered_16 rfl ?_
        refine z_get E dX0_firstNotLowered_17 (by rfl) flX0_45 (by rfl) ?_
        refine c_V0 E dX0_firstNotLowered_20 lkX0_114 (ok_operated hs (hss n (by omega)) s36 (by omega) (by omega) A' hK' (by omega) (by rw [es]; exact ra) (by rw [el n (by omega)]; exact rl n (by omega)) N) (by rfl) rfl rfl rfl (Nat.le_of_ble_eq_true rfl) ⟨(Nat.le_of_ble_eq_true rfl), (Nat.le_of_ble_eq_true rfl)⟩ ⟨rfl, rfl⟩ ⟨Nat.zero_le _, Nat.zero_le _⟩ ?_
        rw [es, el n (by omega)]
        refine z_aload_n E dX0_firstNotLowered_23 rfl ?_
        refine z_get E dX0_firstNotLowered_24 (by rfl) flX0_45 (by rfl) ?_
        refine z_iload_n E dX0_firstNotLowered_27 rfl ?_
        refine z_aload_n E dX0_firstNotLowered_28 rfl ?_
        refine z_get E dX0_firstNotLowered_29 (cel_lad hl _) flX0_104 (by rfl) ?_
        refine z_iload_n E dX0_firstNotLowered_32 rfl ?_
        refine z_iconst E dX0_firstNotLowered_33 ?_
        refine z_isub E dX0_firstNotLowered_34 ?_
        refine a_aald (j := n - 1) E dX0_firstNotLowered_35 (cel_steps hl _) (by omega) (by omega) (by omega) (by omega) ?_
        refine c_S E dX0_firstNotLowered_36 lkX0_117 (ok_isTimes s36 (hss (n - 1) (by omega)) _ (by rw [va_up_self]; exact fun j _ => opS_in _ _ _) (by rw [va_up_ne _ _ (by omega), el (n - 1) (by omega)]; exact rl (n - 1) (by omega)) n (by omega) N) rfl rfl rfl (Nat.le_of_ble_eq_true rfl) ⟨(Nat.le_of_ble_eq_true rfl), (Nat.le_of_ble_eq_true rfl)⟩ ⟨rfl, rfl⟩ ⟨Nat.zero_le _, Nat.zero_le _⟩ ?_
        rw [va_up_self, va_up_ne (j := 70 + 22 * l + 2 * (n - 1) + 1) _ _ (by omega), el (n - 1) (by omega)]
        have hdf : lwS (A (s + 1)) (fun n => A (70 + 22 * l + 2 * n + 1)) n = (∀ i, i < 10 → opS (A (s + 1)) (A (70 + 22 * l + 2 * n + 1)) i = (n : Int) * A (70 + 22 * l + 2 * (n - 1) + 1) i % 10007) := rfl
        rw [← hdf]
        by_cases hc : lwS (A (s + 1)) (fun n => A (70 + 22 * l + 2 * n + 1)) n
        · rw [b01_t hc]
          refine z_if_ne (tgt := 44) E (by omega) dX0_firstNotLowered_39 (by decide) (fun h39 => ?_) (fun h39 => ?_)
          · refine z_iinc (ls' := [_, _, _, _]) E dX0_firstNotLowered_44 rfl rfl ?_
            refine z_goto (tgt := 2) E dX0_firstNotLowered_47 (by decide) ?_
            rw [ei]
            refine ih (n + 1) (by omega) (by omega) _ ⟨opS (A (s + 1)) (A (70 + 22 * l + 2 * n + 1)), ?_⟩ (by rw [← hv, fnF_t hc])
            rw [hR, va_uu]
          · omega
        · rw [b01_f hc]
          refine z_if_ne (tgt := 44) E (by omega) dX0_firstNotLowered_39 (by decide) (fun h39 => ?_) (fun h39 => ?_)
          · omega
          · refine z_iload_n E dX0_firstNotLowered_42 rfl ?_
            refine z_iret E F dX0_firstNotLowered_43 ⟨by rw [← hv, fnF_f hc], opS (A (s + 1)) (A (70 + 22 * l + 2 * n + 1)), ?_⟩
            rw [hR, va_uu]
  exact loop 9 1 (by omega) (by omega) A ⟨A 37, (up_same A 37).symm⟩ rfl
/-- a polynomial told in a LADDER's steps: the rest behind c steps from the highest on -/
def tiR (R : Nat → Int) (S : Nat → Nat → Int) : Nat → (Nat → Int)
  | 0 => R
  | c + 1 => fun i => if i ≤ 9 - c then (tiR R S c i - tiR R S c (9 - c) * pw (S (9 - c) (9 - c)) 10005 % 10007 * S (9 - c) i) % 10007 else tiR R S c i
def tiH (R : Nat → Int) (S : Nat → Nat → Int) (c : Nat) : Int := tiR R S c (9 - c) * pw (S (9 - c) (9 - c)) 10005 % 10007
theorem tiR_lo {R : Nat → Int} {S : Nat → Nat → Int} {c i : Nat} (h : i ≤ 9 - c) : tiR R S (c + 1) i = (tiR R S c i - tiH R S c * S (9 - c) i) % 10007 := if_pos h
theorem tiR_hi {R : Nat → Int} {S : Nat → Nat → Int} {c i : Nat} (h : ¬ i ≤ 9 - c) : tiR R S (c + 1) i = tiR R S c i := if_neg h
theorem tiR_rok {R : Nat → Int} (S : Nat → Nat → Int) (h : rok R) : ∀ c, rok (tiR R S c)
  | 0 => h
  | c + 1 => fun j hj => by
    by_cases e : j ≤ 9 - c
    · rw [tiR_lo e]; omega
    · rw [tiR_hi e]; exact tiR_rok S h c j hj
theorem tiH_in (R : Nat → Int) (S : Nat → Nat → Int) (c : Nat) : 0 ≤ tiH R S c ∧ tiH R S c < 10007 := by unfold tiH; omega
set_option maxRecDepth 100000 in
theorem ok_toldIn {l s : Nat} (hl : l < 4) (hs : SerK s) (A : Nat → Nat → Int) (ra : rok (A (s + 1))) (rl : ∀ n, n < 10 → rok (A (70 + 22 * l + 2 * n + 1))) (j : Nat) (hj : j < 10) (N : Nat) :
    OkI mX0_toldIn [.ref 3, .ref s, .ref (68 + 22 * l), .int (iI (j : Int))] N (mA A) (.int (iI (tiH (A (s + 1)) (fun n => A (70 + 22 * l + 2 * n + 1)) (9 - j)))) (fun g' => ∃ R, g' = mA (va_up A 37 R)) := by
  have hss := fun n (hn : n < 10) => ser_step hl hn
  have h37 : ∀ f, cel 37 f = (6, vals 10 f) := fun _ => rfl
  generalize hR : A (s + 1) = R at ra ⊢
  refine OkM.of [some (.ref 3), some (.ref s), some (.ref (68 + 22 * l)), some (.int (iI (j : Int))), none, none, none, none] (by decide +kernel) rfl (Nat.le_of_ble_eq_true rfl) ?_
  intro X E F
  refine z_aload_n E dX0_toldIn_0 rfl ?_
  refine z_get E dX0_toldIn_1 (by rfl) flX0_45 (by rfl) ?_
  refine z_aload_n E dX0_toldIn_4 rfl ?_
  refine c_V0 E dX0_toldIn_5 lkX0_121 (ok_becomeCopyOf s36 hs A N) (by rfl) rfl rfl rfl (Nat.le_of_ble_eq_true rfl) ⟨(Nat.le_of_ble_eq_true rfl), (Nat.le_of_ble_eq_true rfl)⟩ ⟨rfl, rfl⟩ ⟨Nat.zero_le _, Nat.zero_le _⟩ ?_
  rw [hR]
  refine z_iconst E dX0_toldIn_8 ?_
  refine z_istore (ls' := [_, _, _, _, _, _, _, _]) E dX0_toldIn_9 (Nat.le_of_ble_eq_true rfl) rfl ?_
  refine z_bipush E (by decide) dX0_toldIn_11 ?_
  refine z_istore (ls' := [_, _, _, _, _, _, _, _]) E dX0_toldIn_13 (Nat.le_of_ble_eq_true rfl) rfl ?_
  generalize hS : (fun n => A (70 + 22 * l + 2 * n + 1)) = S at *
  have eS : ∀ n, A (70 + 22 * l + 2 * n + 1) = S n := fun n => by rw [← hS]
  have loop : ∀ (q c : Nat), c + q = 10 - j → ∀ (l4 : Int) (l6 l7 : Option Value) (A' : Nat → Nat → Int), A' = va_up A 37 (tiR R S c) → (1 ≤ c → l4 = tiH R S (c - 1)) → Zc X 15 [some (.ref 3), some (.ref s), some (.ref (68 + 22 * l)), some (.int (iI (j : Int))), some (.int (iI l4)), some (.int (iI (9 - (c : Int)))), l6, l7] [] N (mA A') 0 0 := by
    intro q
    induction q with
    | zero =>
      intro c hc l4 l6 l7 A' hA h4
      refine z_iload E dX0_toldIn_15 rfl ?_
      refine z_iload_n E dX0_toldIn_17 rfl ?_
      refine z_icmp_lt (tgt := 115) E (by omega) (by omega) dX0_toldIn_18 (by decide) (fun h18 => ?_) (fun h18 => ?_)
      · refine z_iload E dX0_toldIn_115 rfl ?_
        refine z_iret E F dX0_toldIn_117 ⟨by rw [h4 (by omega), show c - 1 = 9 - j by omega], tiR R S c, by rw [hA]⟩
      · omega
    | succ q ih =>
      intro c hc l4 l6 l7 A' hA h4
      have e37 : A' 37 = tiR R S c := by rw [hA, va_up_self]
      have eS' : ∀ n, n < 10 → A' (70 + 22 * l + 2 * n + 1) = S n := fun n hn => by rw [hA, va_up_ne _ _ (by omega)]; exact eS n
      have hsn := hss (9 - c) (by omega)
      have rS : rok (S (9 - c)) := by rw [← eS]; exact rl (9 - c) (by omega)
      have r1 := rS (9 - c) (by omega)
      have r2 := tiR_rok S ra c (9 - c) (by omega)
      have p1 := mul_in r2 (pw_in (S (9 - c) (9 - c)) 10005)
      have t1 := tiH_in R S c
      refine z_iload E dX0_toldIn_15 rfl ?_
      refine z_iload_n E dX0_toldIn_17 rfl ?_
      refine z_icmp_lt (tgt := 115) E (by omega) (by omega) dX0_toldIn_18 (by decide) (fun h18 => ?_) (fun h18 => ?_)
      · omega
      · refine z_aload_n E dX0_toldIn_21 rfl ?_
        refine z_get E dX0_toldIn_22 (cel_lad hl _) flX0_104 (by rfl) ?_
        refine z_iload E dX0_toldIn_25 rfl ?_
        refine a_aald (j := 9 - c) E dX0_toldIn_27 (cel_steps hl _) (by omega) (by omega) (by omega) (by omega) ?_
        refine z_astore (ls' := [_, _, _, _, _, _, _, _]) E dX0_toldIn_28 (Nat.le_of_ble_eq_true rfl) rfl ?_
        refine z_aload_n E dX0_toldIn_30 rfl ?_
        refine z_get E dX0_toldIn_31 (by rfl) flX0_45 (by rfl) ?_
        refine z_get E dX0_toldIn_34 (cel_ser s36 _) flX0_61 (by rfl) ?_
        refine z_iload E dX0_toldIn_37 rfl ?_
        refine a_iald (j := 9 - c) E dX0_toldIn_39 (fun _ => rfl) (by omega) (by omega) (by omega) ?_
        rw [e37]
        refine z_aload E dX0_toldIn_40 rfl ?_
        refine z_get E dX0_toldIn_42 (cel_ser hsn _) flX0_61 (by rfl) ?_
        refine z_iload E dX0_toldIn_45 rfl ?_
        refine a_iald (j := 9 - c) E dX0_toldIn_47 (cel_row hsn) (by omega) (by omega) (by omega) ?_
        rw [eS' (9 - c) (by omega)]
        refine c_S E dX0_toldIn_48 lkX0_55 (ok_inverse _ r1 N (mA A')) rfl rfl rfl (Nat.le_of_ble_eq_true rfl) ⟨(Nat.le_of_ble_eq_true rfl), (Nat.le_of_ble_eq_true rfl)⟩ ⟨rfl, rfl⟩ ⟨Nat.zero_le _, Nat.zero_le _⟩ ?_
        refine z_imul E dX0_toldIn_51 ?_
        refine z_sipush E (by decide) dX0_toldIn_52 ?_
        refine z_irem E (by omega) (by omega) (by omega) (Int.tmod_eq_emod_of_nonneg (by omega)) dX0_toldIn_55 ?_
        change Zc X _ _ [.int (iI (tiH R S c))] _ _ _ _
        refine z_istore (ls' := [_, _, _, _, _, _, _, _]) E dX0_toldIn_56 (Nat.le_of_ble_eq_true rfl) rfl ?_
        refine z_iconst E dX0_toldIn_58 ?_
        refine z_istore (ls' := [_, _, _, _, _, _, _, _]) E dX0_toldIn_59 (Nat.le_of_ble_eq_true rfl) rfl ?_
        have inner : ∀ (q2 i : Nat), i + q2 = 10 - c → ∀ A2 : Nat → Nat → Int, A2 = va_up A 37 (fun m => if m < i then tiR R S (c + 1) m else tiR R S c m) → Zc X 61 [some (.ref 3), some (.ref s), some (.ref (68 + 22 * l)), some (.int (iI (j : Int))), some (.int (iI (tiH R S c))), some (.int (iI (9 - (c : Int)))), some (.ref (70 + 22 * l + 2 * (9 - c))), some (.int (iI (i : Int)))] [] N (mA A2) 0 0 := by
          intro q2
          induction q2 with
          | zero =>
            intro i hi A2 hA2
            refine z_iload E dX0_toldIn_61 rfl ?_
            refine z_iload E dX0_toldIn_63 rfl ?_
            refine z_icmp_gt (tgt := 109) E (by omega) (by omega) dX0_toldIn_65 (by decide) (fun h65 => ?_) (fun h65 => ?_)
            · refine z_iinc (ls' := [_, _, _, _, _, _, _, _]) E dX0_toldIn_109 rfl rfl ?_
              refine z_goto (tgt := 15) E dX0_toldIn_112 (by decide) ?_
              rw [show 9 - (c : Int) + -1 = 9 - ((c + 1 : Nat) : Int) by omega]
              refine ih (c + 1) (by omega) _ _ _ _ ?_ (fun _ => by rw [Nat.add_sub_cancel])
              rw [hA2]
              refine congrArg (va_up A 37) (funext fun m => ?_)
              by_cases e : m < i
              · rw [if_pos e]
              · rw [if_neg e, tiR_hi (by omega)]
            · omega
          | succ q2 ihi =>
            intro i hi A2 hA2
            have e3 : A2 37 i = tiR R S c i := by rw [hA2, va_up_self, if_neg (by omega)]
            have e4 : A2 (70 + 22 * l + 2 * (9 - c) + 1) = S (9 - c) := by rw [hA2, va_up_ne _ _ (by omega)]; exact eS _
            have r3 := tiR_rok S ra c i (by omega)
            have p3 := mul_in t1 (rS i (by omega))
            refine z_iload E dX0_toldIn_61 rfl ?_
            refine z_iload E dX0_toldIn_63 rfl ?_
            refine z_icmp_gt (tgt := 109) E (by omega) (by omega) dX0_toldIn_65 (by decide) (fun h65 => ?_) (fun h65 => ?_)
            · omega
            · refine z_aload_n E dX0_toldIn_68 rfl ?_
              refine z_get E dX0_toldIn_69 (by rfl) flX0_45 (by rfl) ?_
              refine z_get E dX0_toldIn_72 (cel_ser s36 _) flX0_61 (by rfl) ?_
              refine z_iload E dX0_toldIn_75 rfl ?_
              refine z_aload_n E dX0_toldIn_77 rfl ?_
              refine z_get E dX0_toldIn_78 (by rfl) flX0_45 (by rfl) ?_
              refine z_get E dX0_toldIn_81 (cel_ser s36 _) flX0_61 (by rfl) ?_
              refine z_iload E dX0_toldIn_84 rfl ?_
              refine a_iald (j := i) E dX0_toldIn_86 (fun _ => rfl) (by omega) (by omega) (by omega) ?_
              rw [e3]
              refine z_iload E dX0_toldIn_87 rfl ?_
              refine z_aload E dX0_toldIn_89 rfl ?_
              refine z_get E dX0_toldIn_91 (cel_ser hsn _) flX0_61 (by rfl) ?_
              refine z_iload E dX0_toldIn_94 rfl ?_
              refine a_iald (j := i) E dX0_toldIn_96 (cel_row hsn) (by omega) (by omega) (by omega) ?_
              rw [e4]
              refine z_imul E dX0_toldIn_97 ?_
              refine z_isub E dX0_toldIn_98 ?_
              refine c_S E dX0_toldIn_99 lkX0_78 (ok_of _ ⟨by omega, by omega⟩ N (mA A2)) rfl rfl rfl (Nat.le_of_ble_eq_true rfl) ⟨(Nat.le_of_ble_eq_true rfl), (Nat.le_of_ble_eq_true rfl)⟩ ⟨rfl, rfl⟩ ⟨Nat.zero_le _, Nat.zero_le _⟩ ?_
              refine a_iast (j := i) E dX0_toldIn_102 (fun _ => rfl) (by omega) (by omega) (by omega) ?_
              refine z_iinc (ls' := [_, _, _, _, _, _, _, _]) E dX0_toldIn_103 rfl rfl ?_
              refine z_goto (tgt := 61) E dX0_toldIn_106 (by decide) ?_
              rw [ei]
              refine ihi (i + 1) (by omega) _ ?_
              rw [hA2, va_uu, va_up_self]
              refine congrArg (va_up A 37) (funext fun m => ?_)
              by_cases e1 : m = i
              · subst e1; rw [up_eq, if_pos (by omega), tiR_lo (by omega)]
              · rw [up_ne _ _ e1]
                by_cases e2 : m < i
                · rw [if_pos e2, if_pos (by omega)]
                · rw [if_neg e2, if_neg (by omega)]
        refine inner (10 - c) 0 (by omega) _ ?_
        rw [hA]
        exact congrArg (va_up A 37) (funext fun m => (if_neg (by omega)).symm)
  refine Eq.mp ?_ (loop (10 - j) 0 (by omega) 0 none none _ rfl (fun h => by omega))
  rw [show (9 : Int) - ((0 : Nat) : Int) = 9 by omega]
  rfl
theorem cel_val {n : Nat} (h : n < 10) (f : Nat → Int) : cel (19 + n) f = (6, vals 19 f) := by
  unfold cel
  rw [if_pos (by omega), if_neg (by omega), if_neg (by omega), if_neg (by omega), if_neg (by omega), if_neg (by omega), if_neg (by omega), if_neg (by omega), if_neg (by omega), if_neg (by omega), if_pos (by omega)]
theorem cel_cho {n : Nat} (h : n < 10) (f : Nat → Int) : cel (8 + n) f = (6, vals 10 f) := by
  unfold cel
  rw [if_pos (by omega), if_neg (by omega), if_neg (by omega), if_neg (by omega), if_neg (by omega), if_neg (by omega), if_neg (by omega), if_neg (by omega), if_pos (by omega)]
def bnP (V : Nat → Nat → Int) (m : Nat) : Prop := ∀ x, x ≤ m → ∀ y, y ≤ m → sm (fun k => chs m k * V k x % 10007 * V (m - k) y) (m + 1) % 10007 = V m (x + y)
theorem chs_in : ∀ m, m < 10 → ∀ k, k < 10 → 0 ≤ chs m k ∧ chs m k ≤ 126 := by decide
set_option maxRecDepth 100000 in
theorem ok_isBinomialAt (A : Nat → Nat → Int) (hK : KA A) (V : Nat → Nat → Int) (hV : ∀ n x, n < 10 → x < 19 → A (19 + n) x = V n x) (rV : ∀ n x, n < 10 → x < 19 → 0 ≤ V n x ∧ V n x < 10007) (m : Nat) (hm : m < 10) (N : Nat) : OkR mX0_isBinomialAt [.ref 3, .int (iI (m : Int))] N (mA A) (some (.int (iI (b01 (bnP V m))))) (mA A) := by
  have p1 : ∀ k x, k ≤ m → x < 19 → 0 ≤ chs m k * V k x ∧ chs m k * V k x ≤ 100120036 := fun k x hk hx => mul_in (by have := chs_in m hm k (by omega); omega) (rV k x (by omega) hx)
  have p2 : ∀ x y k, x ≤ m → y ≤ m → k < m + 1 → 0 ≤ chs m k * V k x % 10007 * V (m - k) y ∧ chs m k * V k x % 10007 * V (m - k) y ≤ 100120036 := fun x y k hx hy hk => mul_in (by omega) (rV (m - k) y (by omega) (by omega))
  refine OkM.of [some (.ref 3), some (.int (iI (m : Int))), none, none, none, none] (by decide +kernel) rfl (Nat.le_of_ble_eq_true rfl) ?_
  intro X E F
  refine z_iconst E dX0_isBinomialAt_0 ?_
  refine z_istore_n (ls' := [_, _, _, _, _, _]) E rfl dX0_isBinomialAt_1 (Nat.le_of_ble_eq_true rfl) rfl ?_
  have loop : ∀ (q x : Nat), x + q = m + 1 → (∀ x2, x2 < x → ∀ y, y ≤ m → sm (fun k => chs m k * V k x2 % 10007 * V (m - k) y) (m + 1) % 10007 = V m (x2 + y)) → ∀ (l3 l4 l5 : Option Value), Zc X 2 [some (.ref 3), some (.int (iI (m : Int))), some (.int (iI (x : Int))), l3, l4, l5] [] N (mA A) 0 0 := by
    intro q
    induction q with
    | zero =>
      intro x hx hall l3 l4 l5
      refine z_iload_n E dX0_isBinomialAt_2 rfl ?_
      refine z_iload_n E dX0_isBinomialAt_3 rfl ?_
      refine z_icmp_gt (tgt := 105) E (by omega) (by omega) dX0_isBinomialAt_4 (by decide) (fun h4 => ?_) (fun h4 => ?_)
      · refine z_iconst E dX0_isBinomialAt_105 ?_
        exact z_zret E F (by first | exact Or.inl rfl | exact Or.inr rfl) dX0_isBinomialAt_106 ⟨by rw [b01_t (show bnP V m from fun x2 hx2 => hall x2 (by omega))], rfl⟩
      · omega
    | succ q ih =>
      intro x hx hall l3 l4 l5
      refine z_iload_n E dX0_isBinomialAt_2 rfl ?_
      refine z_iload_n E dX0_isBinomialAt_3 rfl ?_
      refine z_icmp_gt (tgt := 105) E (by omega) (by omega) dX0_isBinomialAt_4 (by decide) (fun h4 => ?_) (fun h4 => ?_)
      · omega
      · refine z_iconst E dX0_isBinomialAt_7 ?_
        refine z_istore_n (ls' := [_, _, _, _, _, _]) E rfl dX0_isBinomialAt_8 (Nat.le_of_ble_eq_true rfl) rfl ?_
        have loop2 : ∀ (q2 y : Nat), y + q2 = m + 1 → (∀ y2, y2 < y → sm (fun k => chs m k * V k x % 10007 * V (m - k) y2) (m + 1) % 10007 = V m (x + y2)) → ∀ (l4 l5 : Option Value), Zc X 9 [some (.ref 3), some (.int (iI (m : Int))), some (.int (iI (x : Int))), some (.int (iI (y : Int))), l4, l5] [] N (mA A) 0 0 := by
          intro q2
          induction q2 with
          | zero =>
            intro y hy hall2 l4 l5
            refine z_iload_n E dX0_isBinomialAt_9 rfl ?_
            refine z_iload_n E dX0_isBinomialAt_10 rfl ?_
            refine z_icmp_gt (tgt := 99) E (by omega) (by omega) dX0_isBinomialAt_11 (by decide) (fun h11 => ?_) (fun h11 => ?_)
            · refine z_iinc (ls' := [_, _, _, _, _, _]) E dX0_isBinomialAt_99 rfl rfl ?_
              refine z_goto (tgt := 2) E dX0_isBinomialAt_102 (by decide) ?_
              rw [ei]
              refine ih (x + 1) (by omega) (fun x2 hx2 y2 hy2 => ?_) _ _ _
              by_cases e : x2 = x
              · subst e; exact hall2 y2 (by omega)
              · exact hall x2 (by omega) y2 hy2
            · omega
          | succ q2 ih2 =>
            intro y hy hall2 l4 l5
            refine z_iload_n E dX0_isBinomialAt_9 rfl ?_
            refine z_iload_n E dX0_isBinomialAt_10 rfl ?_
            refine z_icmp_gt (tgt := 99) E (by omega) (by omega) dX0_isBinomialAt_11 (by decide) (fun h11 => ?_) (fun h11 => ?_)
            · omega
            · refine z_iconst E dX0_isBinomialAt_14 ?_
              refine z_istore (ls' := [_, _, _, _, _, _]) E dX0_isBinomialAt_15 (Nat.le_of_ble_eq_true rfl) rfl ?_
              refine z_iconst E dX0_isBinomialAt_17 ?_
              refine z_istore (ls' := [_, _, _, _, _, _]) E dX0_isBinomialAt_18 (Nat.le_of_ble_eq_true rfl) rfl ?_
              have inner : ∀ (q3 k : Nat), k + q3 = m + 1 → Zc X 20 [some (.ref 3), some (.int (iI (m : Int))), some (.int (iI (x : Int))), some (.int (iI (y : Int))), some (.int (iI (sm (fun k => chs m k * V k x % 10007 * V (m - k) y) k))), some (.int (iI (k : Int)))] [] N (mA A) 0 0 := by
                intro q3
                induction q3 with
                | zero =>
                  intro k hk
                  have hk2 : k = m + 1 := by omega
                  subst hk2
                  have hsm := sm_in (n := m + 1) (p2 x y · (by omega) (by omega))
                  have rr := rV m (x + y) (by omega) (by omega)
                  have ev := hV m (x + y) (by omega) (by omega)
                  refine z_iload E dX0_isBinomialAt_20 rfl ?_
                  refine z_iload_n E dX0_isBinomialAt_22 rfl ?_
                  refine z_icmp_gt (tgt := 72) E (by omega) (by omega) dX0_isBinomialAt_23 (by decide) (fun h23 => ?_) (fun h23 => ?_)
                  · refine z_iload E dX0_isBinomialAt_72 rfl ?_
                    refine z_sipush E (by decide) dX0_isBinomialAt_74 ?_
                    refine z_irem E (by omega) (by omega) (by omega) (Int.tmod_eq_emod_of_nonneg (by omega)) dX0_isBinomialAt_77 ?_
                    refine z_aload_n E dX0_isBinomialAt_78 rfl ?_
                    refine z_get E dX0_isBinomialAt_79 (by rfl) flX0_26 (by rfl) ?_
                    refine z_iload_n E dX0_isBinomialAt_82 rfl ?_
                    refine a_aald (j := m) E dX0_isBinomialAt_83 rfl (by omega) (by omega) (by omega) (by omega) ?_
                    refine z_iload_n E dX0_isBinomialAt_84 rfl ?_
                    refine z_iload_n E dX0_isBinomialAt_85 rfl ?_
                    refine z_iadd E dX0_isBinomialAt_86 ?_
                    refine a_iald (j := x + y) E dX0_isBinomialAt_87 (cel_val hm) (by omega) (by omega) (by omega) ?_
                    rw [ev]
                    refine z_icmp_eq (tgt := 93) E (by omega) (by omega) dX0_isBinomialAt_88 (by decide) (fun h88 => ?_) (fun h88 => ?_)
                    · refine z_iinc (ls' := [_, _, _, _, _, _]) E dX0_isBinomialAt_93 rfl rfl ?_
                      refine z_goto (tgt := 9) E dX0_isBinomialAt_96 (by decide) ?_
                      rw [ei]
                      refine ih2 (y + 1) (by omega) (fun y2 hy2 => ?_) _ _
                      by_cases e : y2 = y
                      · subst e; exact h88
                      · exact hall2 y2 (by omega)
                    · refine z_iconst E dX0_isBinomialAt_91 ?_
                      exact z_zret E F (by first | exact Or.inl rfl | exact Or.inr rfl) dX0_isBinomialAt_92 ⟨by rw [b01_f (show ¬ bnP V m from fun h => h88 (h x (by omega) y (by omega)))], rfl⟩
                  · omega
                | succ q3 ih3 =>
                  intro k hk
                  have ec2 := hK.2.2.2.2 m k (by omega) hm
                  have ev1 := hV k x (by omega) (by omega)
                  have ev2 := hV (m - k) y (by omega) (by omega)
                  have pp := p1 k x (by omega) (by omega)
                  refine z_iload E dX0_isBinomialAt_20 rfl ?_
                  refine z_iload_n E dX0_isBinomialAt_22 rfl ?_
                  refine z_icmp_gt (tgt := 72) E (by omega) (by omega) dX0_isBinomialAt_23 (by decide) (fun h23 => ?_) (fun h23 => ?_)
                  · omega
                  · refine z_iload E dX0_isBinomialAt_26 rfl ?_
                    refine z_aload_n E dX0_isBinomialAt_28 rfl ?_
                    refine z_get E dX0_isBinomialAt_29 (by rfl) flX0_23 (by rfl) ?_
                    refine z_iload_n E dX0_isBinomialAt_32 rfl ?_
                    refine a_aald (j := m) E dX0_isBinomialAt_33 rfl (by omega) (by omega) (by omega) (by omega) ?_
                    refine z_iload E dX0_isBinomialAt_34 rfl ?_
                    refine a_iald (j := k) E dX0_isBinomialAt_36 (cel_cho hm) (by omega) (by omega) (by omega) ?_
                    refine z_aload_n E dX0_isBinomialAt_37 rfl ?_
                    refine z_get E dX0_isBinomialAt_38 (by rfl) flX0_26 (by rfl) ?_
                    refine z_iload E dX0_isBinomialAt_41 rfl ?_
                    refine a_aald (j := k) E dX0_isBinomialAt_43 rfl (by omega) (by omega) (by omega) (by omega) ?_
                    refine z_iload_n E dX0_isBinomialAt_44 rfl ?_
                    refine a_iald (j := x) E dX0_isBinomialAt_45 (cel_val (by omega)) (by omega) (by omega) (by omega) ?_
                    rw [ec2, ev1]
                    refine z_imul E dX0_isBinomialAt_46 ?_
                    refine z_sipush E (by decide) dX0_isBinomialAt_47 ?_
                    refine z_irem E (by omega) (by omega) (by omega) (Int.tmod_eq_emod_of_nonneg (by omega)) dX0_isBinomialAt_50 ?_
                    refine z_aload_n E dX0_isBinomialAt_51 rfl ?_
                    refine z_get E dX0_isBinomialAt_52 (by rfl) flX0_26 (by rfl) ?_
                    refine z_iload_n E dX0_isBinomialAt_55 rfl ?_
                    refine z_iload E dX0_isBinomialAt_56 rfl ?_
                    refine z_isub E dX0_isBinomialAt_58 ?_
                    refine a_aald (j := m - k) E dX0_isBinomialAt_59 rfl (by omega) (by omega) (by omega) (by omega) ?_
                    refine z_iload_n E dX0_isBinomialAt_60 rfl ?_
                    refine a_iald (j := y) E dX0_isBinomialAt_61 (cel_val (by omega)) (by omega) (by omega) (by omega) ?_
                    rw [ev2]
                    refine z_imul E dX0_isBinomialAt_62 ?_
                    refine z_iadd E dX0_isBinomialAt_63 ?_
                    refine z_istore (ls' := [_, _, _, _, _, _]) E dX0_isBinomialAt_64 (Nat.le_of_ble_eq_true rfl) rfl ?_
                    refine z_iinc (ls' := [_, _, _, _, _, _]) E dX0_isBinomialAt_66 rfl rfl ?_
                    refine z_goto (tgt := 20) E dX0_isBinomialAt_69 (by decide) ?_
                    rw [ei]
                    exact ih3 (k + 1) (by omega)
              exact inner (m + 1) 0 (by omega)
        exact loop2 (m + 1) 0 (by omega) (fun y2 h => by omega) _ _
  exact loop (m + 1) 0 (by omega) (fun x2 h => by omega) _ _ _
/-- the last n of a run from n on that p holds of -/
noncomputable def lsF (p : Nat → Prop) : Nat → Nat → Int
  | 0, n => (n : Int) - 1
  | q + 1, n => @ite Int (p n) (Classical.propDecidable _) (lsF p q (n + 1)) ((n : Int) - 1)
theorem lsF_t {p : Nat → Prop} {q n : Nat} (h : p n) : lsF p (q + 1) n = lsF p q (n + 1) := @if_pos _ (Classical.propDecidable _) h _ _ _
theorem lsF_f {p : Nat → Prop} {q n : Nat} (h : ¬ p n) : lsF p (q + 1) n = (n : Int) - 1 := @if_neg _ (Classical.propDecidable _) h _ _ _
def OffV (A A' : Nat → Nat → Int) : Prop := ∀ q, ¬ (19 ≤ q ∧ q < 29) → A' q = A q
set_option maxRecDepth 100000 in
theorem ok_binomialUpTo {l : Nat} (hl : l < 4) (A : Nat → Nat → Int) (hK : KA A) (rl : ∀ n, n < 10 → rok (A (70 + 22 * l + 2 * n + 1))) (N : Nat) :
    OkI mX0_binomialUpTo [.ref 3, .ref (68 + 22 * l)] N (mA A) (.int (iI (lsF (bnP (fun n x => hv (A (70 + 22 * l + 2 * n + 1)) ((x : Int) % 10007) 10)) 10 0))) (fun g' => ∃ A', g' = mA A' ∧ OffV A A') := by
  have hss := fun n (hn : n < 10) => ser_step hl hn
  refine OkM.of [some (.ref 3), some (.ref (68 + 22 * l)), none, none] (by decide +kernel) rfl (Nat.le_of_ble_eq_true rfl) ?_
  intro X E F
  refine z_iconst E dX0_binomialUpTo_0 ?_
  refine z_istore_n (ls' := [_, _, _, _]) E rfl dX0_binomialUpTo_1 (Nat.le_of_ble_eq_true rfl) rfl ?_
  generalize hVe : (fun (n x : Nat) => hv (A (70 + 22 * l + 2 * n + 1)) ((x : Int) % 10007) 10) = V at F
  have eV : ∀ n x : Nat, hv (A (70 + 22 * l + 2 * n + 1)) ((x : Int) % 10007) 10 = V n x := fun n x => by rw [← hVe]
  have rV : ∀ n x, n < 10 → x < 19 → 0 ≤ V n x ∧ V n x < 10007 := fun n x _ _ => by rw [← eV]; exact hv_in _ _ _
  have second : ∀ A' : Nat → Nat → Int, OffV A A' → (∀ n x, n < 10 → x < 19 → A' (19 + n) x = V n x) → ∀ (q m : Nat), m + q = 10 → lsF (bnP V) q m = lsF (bnP V) 10 0 → Zc X 50 [some (.ref 3), some (.ref (68 + 22 * l)), some (.int (iI ((m : Int) - 1))), some (.int (iI (m : Int)))] [] N (mA A') 0 0 := by
    intro A' hof hAV q
    have hK' : KA A' := by
      have e : ∀ k, (k < 18 ∨ k = 31) → A' k = A k := fun k hk => hof k (by omega)
      exact ⟨fun n h1 h2 => by rw [e 4 (by omega)]; exact hK.1 n h1 h2, fun n hn => by rw [e 5 (by omega)]; exact hK.2.1 n hn, fun n hn => by rw [e 6 (by omega)]; exact hK.2.2.1 n hn, by rw [e 31 (by omega)]; exact hK.2.2.2.1, fun n k hk hn => by rw [e (8 + n) (by omega)]; exact hK.2.2.2.2 n k hk hn⟩
    induction q with
    | zero =>
      intro m hm hv
      refine z_iload_n E dX0_binomialUpTo_50 rfl ?_
      refine z_bipush E (by decide) dX0_binomialUpTo_51 ?_
      refine z_icmp_ge (tgt := 72) E (by omega) (by omega) dX0_binomialUpTo_53 (by decide) (fun h53 => ?_) (fun h53 => ?_)
      · refine z_iload_n E dX0_binomialUpTo_72 rfl ?_
        exact z_iret E F dX0_binomialUpTo_73 ⟨by rw [← hv]; rfl, _, rfl, hof⟩
      · omega
    | succ q ih =>
      intro m hm hv
      refine z_iload_n E dX0_binomialUpTo_50 rfl ?_
      refine z_bipush E (by decide) dX0_binomialUpTo_51 ?_
      refine z_icmp_ge (tgt := 72) E (by omega) (by omega) dX0_binomialUpTo_53 (by decide) (fun h53 => ?_) (fun h53 => ?_)
      · omega
      · refine z_aload_n E dX0_binomialUpTo_56 rfl ?_
        refine z_iload_n E dX0_binomialUpTo_57 rfl ?_
        refine c_V E dX0_binomialUpTo_58 lkX0_127 (ok_isBinomialAt A' hK' V hAV rV m (by omega) N) (by rfl) rfl rfl rfl (Nat.le_of_ble_eq_true rfl) ⟨(Nat.le_of_ble_eq_true rfl), (Nat.le_of_ble_eq_true rfl)⟩ ⟨rfl, rfl⟩ ⟨Nat.zero_le _, Nat.zero_le _⟩ ?_
        by_cases hc : bnP V m
        · rw [b01_t hc]
          refine z_if_eq (tgt := 72) E (by omega) dX0_binomialUpTo_61 (by decide) (fun h61 => ?_) (fun h61 => ?_)
          · omega
          · refine z_iload_n E dX0_binomialUpTo_64 rfl ?_
            refine z_istore_n (ls' := [_, _, _, _]) E rfl dX0_binomialUpTo_65 (Nat.le_of_ble_eq_true rfl) rfl ?_
            refine z_iinc (ls' := [_, _, _, _]) E dX0_binomialUpTo_66 rfl rfl ?_
            refine z_goto (tgt := 50) E dX0_binomialUpTo_69 (by decide) ?_
            rw [ei]
            have := ih (m + 1) (by omega) (by rw [← hv, lsF_t hc])
            rw [ec] at this
            exact this
        · rw [b01_f hc]
          refine z_if_eq (tgt := 72) E (by omega) dX0_binomialUpTo_61 (by decide) (fun h61 => ?_) (fun h61 => ?_)
          · refine z_iload_n E dX0_binomialUpTo_72 rfl ?_
            exact z_iret E F dX0_binomialUpTo_73 ⟨by rw [← hv, lsF_f hc], _, rfl, hof⟩
          · omega
  have loop : ∀ (q n : Nat), n + q = 10 → ∀ (l3 : Option Value) (A' : Nat → Nat → Int), OffV A A' → (∀ m x, m < n → x < 19 → A' (19 + m) x = V m x) → Zc X 2 [some (.ref 3), some (.ref (68 + 22 * l)), some (.int (iI (n : Int))), l3] [] N (mA A') 0 0 := by
    intro q
    induction q with
    | zero =>
      intro n hn l3 A' hof hAV
      refine z_iload_n E dX0_binomialUpTo_2 rfl ?_
      refine z_bipush E (by decide) dX0_binomialUpTo_3 ?_
      refine z_icmp_ge (tgt := 46) E (by omega) (by omega) dX0_binomialUpTo_5 (by decide) (fun h5 => ?_) (fun h5 => ?_)
      · refine z_iconst E dX0_binomialUpTo_46 ?_
        refine z_istore_n (ls' := [_, _, _, _]) E rfl dX0_binomialUpTo_47 (Nat.le_of_ble_eq_true rfl) rfl ?_
        refine z_iconst E dX0_binomialUpTo_48 ?_
        refine z_istore_n (ls' := [_, _, _, _]) E rfl dX0_binomialUpTo_49 (Nat.le_of_ble_eq_true rfl) rfl ?_
        exact second A' hof (fun m x hm hx => hAV m x (by omega) hx) 10 0 (by omega) rfl
      · omega
    | succ q ih =>
      intro n hn l3 A' hof hAV
      refine z_iload_n E dX0_binomialUpTo_2 rfl ?_
      refine z_bipush E (by decide) dX0_binomialUpTo_3 ?_
      refine z_icmp_ge (tgt := 46) E (by omega) (by omega) dX0_binomialUpTo_5 (by decide) (fun h5 => ?_) (fun h5 => ?_)
      · omega
      · refine z_iconst E dX0_binomialUpTo_8 ?_
        refine z_istore_n (ls' := [_, _, _, _]) E rfl dX0_binomialUpTo_9 (Nat.le_of_ble_eq_true rfl) rfl ?_
        have inner : ∀ (q2 x : Nat), x + q2 = 19 → ∀ A' : Nat → Nat → Int, OffV A A' → (∀ m x, m < n → x < 19 → A' (19 + m) x = V m x) → (∀ x2, x2 < x → A' (19 + n) x2 = V n x2) → Zc X 10 [some (.ref 3), some (.ref (68 + 22 * l)), some (.int (iI (n : Int))), some (.int (iI (x : Int)))] [] N (mA A') 0 0 := by
          intro q2
          induction q2 with
          | zero =>
            intro x hx A' hof hAV hx2
            refine z_iload_n E dX0_binomialUpTo_10 rfl ?_
            refine z_bipush E (by decide) dX0_binomialUpTo_11 ?_
            refine z_icmp_ge (tgt := 40) E (by omega) (by omega) dX0_binomialUpTo_13 (by decide) (fun h13 => ?_) (fun h13 => ?_)
            · refine z_iinc (ls' := [_, _, _, _]) E dX0_binomialUpTo_40 rfl rfl ?_
              refine z_goto (tgt := 2) E dX0_binomialUpTo_43 (by decide) ?_
              rw [ei]
              refine ih (n + 1) (by omega) _ _ hof (fun m x2 hm hx3 => ?_)
              by_cases e : m = n
              · subst e; exact hx2 x2 (by omega)
              · exact hAV m x2 (by omega) hx3
            · omega
          | succ q2 ih2 =>
            intro x hx A' hof hAV hx2
            have es : A' (70 + 22 * l + 2 * n + 1) = A (70 + 22 * l + 2 * n + 1) := hof _ (by omega)
            refine z_iload_n E dX0_binomialUpTo_10 rfl ?_
            refine z_bipush E (by decide) dX0_binomialUpTo_11 ?_
            refine z_icmp_ge (tgt := 40) E (by omega) (by omega) dX0_binomialUpTo_13 (by decide) (fun h13 => ?_) (fun h13 => ?_)
            · omega
            · refine z_aload_n E dX0_binomialUpTo_16 rfl ?_
              refine z_get E dX0_binomialUpTo_17 (by rfl) flX0_26 (by rfl) ?_
              refine z_iload_n E dX0_binomialUpTo_20 rfl ?_
              refine a_aald (j := n) E dX0_binomialUpTo_21 rfl (by omega) (by omega) (by omega) (by omega) ?_
              refine z_iload_n E dX0_binomialUpTo_22 rfl ?_
              refine z_aload_n E dX0_binomialUpTo_23 rfl ?_
              refine z_get E dX0_binomialUpTo_24 (cel_lad hl _) flX0_104 (by rfl) ?_
              refine z_iload_n E dX0_binomialUpTo_27 rfl ?_
              refine a_aald (j := n) E dX0_binomialUpTo_28 (cel_steps hl _) (by omega) (by omega) (by omega) (by omega) ?_
              refine z_iload_n E dX0_binomialUpTo_29 rfl ?_
              refine c_V E dX0_binomialUpTo_30 lkX0_124 (ok_valueAt (hss n (by omega)) A' (by rw [es]; exact rl n (by omega)) (x : Int) (by omega) N) (cel_ser (hss n (by omega)) _) rfl rfl rfl (Nat.le_of_ble_eq_true rfl) ⟨(Nat.le_of_ble_eq_true rfl), (Nat.le_of_ble_eq_true rfl)⟩ ⟨rfl, rfl⟩ ⟨Nat.zero_le _, Nat.zero_le _⟩ ?_
              rw [es, eV]
              refine a_iast (j := x) E dX0_binomialUpTo_33 (cel_val (by omega)) (by omega) (by omega) (by omega) ?_
              refine z_iinc (ls' := [_, _, _, _]) E dX0_binomialUpTo_34 rfl rfl ?_
              refine z_goto (tgt := 10) E dX0_binomialUpTo_37 (by decide) ?_
              rw [ei]
              refine ih2 (x + 1) (by omega) _ ?_ ?_ ?_
              · intro q hq
                rw [va_up_ne _ _ (by omega)]
                exact hof q hq
              · intro m x2 hm hx3
                rw [va_up_ne _ _ (by omega)]
                exact hAV m x2 hm hx3
              · intro x2 hx3
                rw [va_up_self]
                by_cases e : x2 = x
                · subst e; rw [up_eq]
                · rw [up_ne _ _ e]; exact hx2 x2 (by omega)
        exact inner 19 0 (by omega) A' hof hAV (fun x2 h => by omega)
  exact loop 10 0 (by omega) _ A (fun q _ => rfl) (fun m x h => by omega)
