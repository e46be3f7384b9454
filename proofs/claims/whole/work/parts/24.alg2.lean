/-! KINDS, OPERATORS, differences -/
noncomputable def b01 (p : Prop) : Int := @ite Int p (Classical.propDecidable p) 1 0
theorem b01_t {p : Prop} (h : p) : b01 p = 1 := @if_pos p (Classical.propDecidable p) h Int 1 0
theorem b01_f {p : Prop} (h : ¬ p) : b01 p = 0 := @if_neg p (Classical.propDecidable p) h Int 1 0
def kS (kd : Nat) (a : Int) : Nat → Int := match kd with
  | 0 => up (conS 0) 1 1
  | 1 => expS a
  | 2 => up (expS a) 0 0
  | 3 => pw a
  | 4 => shu (expS a)
  | 5 => logS a
  | 6 => shu (pw (-a % 10007))
  | _ => conS a
theorem up_same (A : Nat → Nat → Int) (k : Nat) : va_up A k (A k) = A := by
  funext j
  by_cases e : j = k
  · subst e; rw [va_up_self]
  · rw [va_up_ne _ _ e]
set_option maxRecDepth 100000 in
theorem ok_ofKind {o : Nat} (ho : SerK o) (h1 : o ≠ 36) (A : Nat → Nat → Int) (hK : KA A) (kd : Nat) (hk : kd < 8) (a : Int) (ha : 0 ≤ a ∧ a < 10007) (N : Nat) : OkQ mX0_ofKind [.ref 3, .int (iI (kd : Int)), .int (iI a), .ref o] N (mA A) (fun g' => ∃ R, g' = mA (va_up (va_up A 37 R) (o + 1) (kS kd a))) := by
  have e31 : o + 1 ≠ 31 ∨ o = 30 := by omega
  refine OkM.of [some (.ref 3), some (.int (iI (kd : Int))), some (.int (iI a)), some (.ref o)] (by decide +kernel) rfl (Nat.le_of_ble_eq_true rfl) ?_
  intro X E F
  refine z_iload_n E dX0_ofKind_0 rfl ?_
  rcases (show kd = 0 ∨ kd = 1 ∨ kd = 2 ∨ kd = 3 ∨ kd = 4 ∨ kd = 5 ∨ kd = 6 ∨ kd = 7 by omega) with rfl | rfl | rfl | rfl | rfl | rfl | rfl | rfl
  · refine z_tswIn (j := 0) (tgt := 44) E dX0_ofKind_1 rfl (by omega) (by omega) rfl (by decide) ?_
    refine z_aload_n E dX0_ofKind_44 rfl ?_
    refine z_iconst E dX0_ofKind_45 ?_
    refine c_V0 E dX0_ofKind_46 lkX0_51 (ok_becomeConstant ho A 0 N) (cel_ser ho _) rfl rfl rfl (Nat.le_of_ble_eq_true rfl) ⟨(Nat.le_of_ble_eq_true rfl), (Nat.le_of_ble_eq_true rfl)⟩ ⟨rfl, rfl⟩ ⟨Nat.zero_le _, Nat.zero_le _⟩ ?_
    refine z_aload_n E dX0_ofKind_49 rfl ?_
    refine z_get E dX0_ofKind_50 (cel_ser ho _) flX0_61 (by rfl) ?_
    refine z_iconst E dX0_ofKind_53 ?_
    refine z_iconst E dX0_ofKind_54 ?_
    refine a_iast (j := 1) E dX0_ofKind_55 (cel_row ho) (by omega) (by omega) (by omega) ?_
    refine z_goto (tgt := 151) E dX0_ofKind_56 (by decide) ?_
    refine z_vret E F dX0_ofKind_151 ⟨rfl, A 37, ?_⟩
    rw [up_same, va_uu, va_up_self]
    rfl
  · refine z_tswIn (j := 1) (tgt := 59) E dX0_ofKind_1 rfl (by omega) (by omega) rfl (by decide) ?_
    refine z_aload_n E dX0_ofKind_59 rfl ?_
    refine z_iload_n E dX0_ofKind_60 rfl ?_
    refine z_aload_n E dX0_ofKind_61 rfl ?_
    refine c_V0 E dX0_ofKind_62 lkX0_64 (ok_exponential ho A hK a ha N) (by rfl) rfl rfl rfl (Nat.le_of_ble_eq_true rfl) ⟨(Nat.le_of_ble_eq_true rfl), (Nat.le_of_ble_eq_true rfl)⟩ ⟨rfl, rfl⟩ ⟨Nat.zero_le _, Nat.zero_le _⟩ ?_
    refine z_goto (tgt := 151) E dX0_ofKind_65 (by decide) ?_
    refine z_vret E F dX0_ofKind_151 ⟨rfl, A 37, ?_⟩
    rw [up_same]
    rfl
  · refine z_tswIn (j := 2) (tgt := 68) E dX0_ofKind_1 rfl (by omega) (by omega) rfl (by decide) ?_
    refine z_aload_n E dX0_ofKind_68 rfl ?_
    refine z_iload_n E dX0_ofKind_69 rfl ?_
    refine z_aload_n E dX0_ofKind_70 rfl ?_
    refine c_V0 E dX0_ofKind_71 lkX0_64 (ok_exponential ho A hK a ha N) (by rfl) rfl rfl rfl (Nat.le_of_ble_eq_true rfl) ⟨(Nat.le_of_ble_eq_true rfl), (Nat.le_of_ble_eq_true rfl)⟩ ⟨rfl, rfl⟩ ⟨Nat.zero_le _, Nat.zero_le _⟩ ?_
    refine z_aload_n E dX0_ofKind_74 rfl ?_
    refine z_get E dX0_ofKind_75 (cel_ser ho _) flX0_61 (by rfl) ?_
    refine z_iconst E dX0_ofKind_78 ?_
    refine z_iconst E dX0_ofKind_79 ?_
    refine a_iast (j := 0) E dX0_ofKind_80 (cel_row ho) (by omega) (by omega) (by omega) ?_
    refine z_goto (tgt := 151) E dX0_ofKind_81 (by decide) ?_
    refine z_vret E F dX0_ofKind_151 ⟨rfl, A 37, ?_⟩
    rw [up_same, va_uu, va_up_self]
    rfl
  · refine z_tswIn (j := 3) (tgt := 84) E dX0_ofKind_1 rfl (by omega) (by omega) rfl (by decide) ?_
    refine z_aload_n E dX0_ofKind_84 rfl ?_
    refine z_iload_n E dX0_ofKind_85 rfl ?_
    refine z_aload_n E dX0_ofKind_86 rfl ?_
    refine c_V0 E dX0_ofKind_87 lkX0_68 (ok_geometric ho A a ha N) (by rfl) rfl rfl rfl (Nat.le_of_ble_eq_true rfl) ⟨(Nat.le_of_ble_eq_true rfl), (Nat.le_of_ble_eq_true rfl)⟩ ⟨rfl, rfl⟩ ⟨Nat.zero_le _, Nat.zero_le _⟩ ?_
    refine z_goto (tgt := 151) E dX0_ofKind_90 (by decide) ?_
    refine z_vret E F dX0_ofKind_151 ⟨rfl, A 37, ?_⟩
    rw [up_same]
    rfl
  · refine z_tswIn (j := 4) (tgt := 93) E dX0_ofKind_1 rfl (by omega) (by omega) rfl (by decide) ?_
    refine z_aload_n E dX0_ofKind_93 rfl ?_
    refine z_iload_n E dX0_ofKind_94 rfl ?_
    refine z_aload_n E dX0_ofKind_95 rfl ?_
    refine z_get E dX0_ofKind_96 (by rfl) flX0_45 (by rfl) ?_
    refine c_V0 E dX0_ofKind_99 lkX0_64 (ok_exponential s36 A hK a ha N) (by rfl) rfl rfl rfl (Nat.le_of_ble_eq_true rfl) ⟨(Nat.le_of_ble_eq_true rfl), (Nat.le_of_ble_eq_true rfl)⟩ ⟨rfl, rfl⟩ ⟨Nat.zero_le _, Nat.zero_le _⟩ ?_
    refine z_aload_n E dX0_ofKind_102 rfl ?_
    refine z_aload_n E dX0_ofKind_103 rfl ?_
    refine z_get E dX0_ofKind_104 (by rfl) flX0_45 (by rfl) ?_
    refine c_V0 E dX0_ofKind_107 lkX0_71 (ok_becomeShiftedUp ho s36 _ N) (cel_ser ho _) rfl rfl rfl (Nat.le_of_ble_eq_true rfl) ⟨(Nat.le_of_ble_eq_true rfl), (Nat.le_of_ble_eq_true rfl)⟩ ⟨rfl, rfl⟩ ⟨Nat.zero_le _, Nat.zero_le _⟩ ?_
    refine z_goto (tgt := 151) E dX0_ofKind_110 (by decide) ?_
    refine z_vret E F dX0_ofKind_151 ⟨rfl, expS a, ?_⟩
    show mA (va_up _ _ (shu (va_up A 37 (expS a) 37))) = _
    rw [va_up_self]
    rfl
  · refine z_tswIn (j := 5) (tgt := 113) E dX0_ofKind_1 rfl (by omega) (by omega) rfl (by decide) ?_
    refine z_aload_n E dX0_ofKind_113 rfl ?_
    refine z_iload_n E dX0_ofKind_114 rfl ?_
    refine z_aload_n E dX0_ofKind_115 rfl ?_
    refine c_V0 E dX0_ofKind_116 lkX0_75 (ok_logarithm ho A hK a ha N) (by rfl) rfl rfl rfl (Nat.le_of_ble_eq_true rfl) ⟨(Nat.le_of_ble_eq_true rfl), (Nat.le_of_ble_eq_true rfl)⟩ ⟨rfl, rfl⟩ ⟨Nat.zero_le _, Nat.zero_le _⟩ ?_
    refine z_goto (tgt := 151) E dX0_ofKind_119 (by decide) ?_
    refine z_vret E F dX0_ofKind_151 ⟨rfl, A 37, ?_⟩
    rw [up_same]
    rfl
  · refine z_tswIn (j := 6) (tgt := 122) E dX0_ofKind_1 rfl (by omega) (by omega) rfl (by decide) ?_
    refine z_aload_n E dX0_ofKind_122 rfl ?_
    refine z_iload_n E dX0_ofKind_123 rfl ?_
    refine z_ineg E dX0_ofKind_124 ?_
    refine c_S E dX0_ofKind_125 lkX0_78 (ok_of (-a) ⟨by omega, by omega⟩ N (mA A)) rfl rfl rfl (Nat.le_of_ble_eq_true rfl) ⟨(Nat.le_of_ble_eq_true rfl), (Nat.le_of_ble_eq_true rfl)⟩ ⟨rfl, rfl⟩ ⟨Nat.zero_le _, Nat.zero_le _⟩ ?_
    refine z_aload_n E dX0_ofKind_128 rfl ?_
    refine z_get E dX0_ofKind_129 (by rfl) flX0_45 (by rfl) ?_
    refine c_V0 E dX0_ofKind_132 lkX0_68 (ok_geometric s36 A (-a % 10007) (by omega) N) (by rfl) rfl rfl rfl (Nat.le_of_ble_eq_true rfl) ⟨(Nat.le_of_ble_eq_true rfl), (Nat.le_of_ble_eq_true rfl)⟩ ⟨rfl, rfl⟩ ⟨Nat.zero_le _, Nat.zero_le _⟩ ?_
    refine z_aload_n E dX0_ofKind_135 rfl ?_
    refine z_aload_n E dX0_ofKind_136 rfl ?_
    refine z_get E dX0_ofKind_137 (by rfl) flX0_45 (by rfl) ?_
    refine c_V0 E dX0_ofKind_140 lkX0_71 (ok_becomeShiftedUp ho s36 _ N) (cel_ser ho _) rfl rfl rfl (Nat.le_of_ble_eq_true rfl) ⟨(Nat.le_of_ble_eq_true rfl), (Nat.le_of_ble_eq_true rfl)⟩ ⟨rfl, rfl⟩ ⟨Nat.zero_le _, Nat.zero_le _⟩ ?_
    refine z_goto (tgt := 151) E dX0_ofKind_143 (by decide) ?_
    refine z_vret E F dX0_ofKind_151 ⟨rfl, pw (-a % 10007), ?_⟩
    show mA (va_up _ _ (shu (va_up A 37 (pw (-a % 10007)) 37))) = _
    rw [va_up_self]
    rfl
  · refine z_tswOut (tgt := 146) E dX0_ofKind_1 (by omega) (by omega) (by decide) ?_
    refine z_aload_n E dX0_ofKind_146 rfl ?_
    refine z_iload_n E dX0_ofKind_147 rfl ?_
    refine c_V0 E dX0_ofKind_148 lkX0_51 (ok_becomeConstant ho A a N) (cel_ser ho _) rfl rfl rfl (Nat.le_of_ble_eq_true rfl) ⟨(Nat.le_of_ble_eq_true rfl), (Nat.le_of_ble_eq_true rfl)⟩ ⟨rfl, rfl⟩ ⟨Nat.zero_le _, Nat.zero_le _⟩ ?_
    refine z_vret E F dX0_ofKind_151 ⟨rfl, A 37, ?_⟩
    rw [up_same]
    rfl
/-- an OPERATOR on a polynomial -/
def opS (a b : Nat → Int) (m : Nat) : Int := sm (fun i => a i * (b (m + i) * fcl (m + i) % 10007)) (10 - m) % 10007 * ifc m % 10007
theorem opS_in (a b : Nat → Int) (m : Nat) : 0 ≤ opS a b m ∧ opS a b m < 10007 := by unfold opS; omega
set_option maxRecDepth 100000 in
theorem ok_operated {s t o : Nat} (hs : SerK s) (ht : SerK t) (ho : SerK o) (h1 : o ≠ s) (h2 : o ≠ t) (A : Nat → Nat → Int) (hK : KA A) (h31 : o ≠ 30) (ra : rok (A (s + 1))) (rb : rok (A (t + 1))) (N : Nat) : OkR mX0_operated [.ref 3, .ref s, .ref t, .ref o] N (mA A) none (mA (va_up A (o + 1) (opS (A (s + 1)) (A (t + 1))))) := by
  refine OkM.of [some (.ref 3), some (.ref s), some (.ref t), some (.ref o), none, none, none] (by decide +kernel) rfl (Nat.le_of_ble_eq_true rfl) ?_
  intro X E F
  refine z_iconst E dX0_operated_0 ?_
  refine z_istore (ls' := [_, _, _, _, _, _, _]) E dX0_operated_1 (Nat.le_of_ble_eq_true rfl) rfl ?_
  have loop : ∀ (q m : Nat), m + q = 10 → ∀ (l5 l6 : Option Value) (A' : Nat → Nat → Int), A' = va_up A (o + 1) (fun j => if j < m then opS (A (s + 1)) (A (t + 1)) j else A (o + 1) j) → Zc X 3 [some (.ref 3), some (.ref s), some (.ref t), some (.ref o), some (.int (iI (m : Int))), l5, l6] [] N (mA A') 0 0 := by
    intro q
    induction q with
    | zero =>
      intro m hm l5 l6 A' hA
      refine z_iload E dX0_operated_3 rfl ?_
      refine z_bipush E (by decide) dX0_operated_5 ?_
      refine z_icmp_ge (tgt := 96) E (by omega) (by omega) dX0_operated_7 (by decide) (fun h7 => ?_) (fun h7 => ?_)
      · refine z_vret E F dX0_operated_96 ⟨rfl, ?_⟩
        rw [hA]
        exact row_eq (cel_row ho) (fun j hj => if_pos (by omega))
      · omega
    | succ q ih =>
      intro m hm l5 l6 A' hA
      have es : A' (s + 1) = A (s + 1) := by rw [hA, va_up_ne _ _ (by omega)]
      have et : A' (t + 1) = A (t + 1) := by rw [hA, va_up_ne _ _ (by omega)]
      have hK' : KA A' := by rw [hA]; exact hK.up (by have := ho.1; have := ho.2; omega)
      have pb : ∀ i, m + i < 10 → 0 ≤ A (t + 1) (m + i) * fcl (m + i) ∧ A (t + 1) (m + i) * fcl (m + i) ≤ 100120036 := fun i hi => mul_in (rb (m + i) hi) (fcl_in _)
      have pr : ∀ i, i < 10 - m → 0 ≤ A (s + 1) i * (A (t + 1) (m + i) * fcl (m + i) % 10007) ∧ A (s + 1) i * (A (t + 1) (m + i) * fcl (m + i) % 10007) ≤ 100120036 := fun i hi => mul_in (ra i (by omega)) (by omega)
      refine z_iload E dX0_operated_3 rfl ?_
      refine z_bipush E (by decide) dX0_operated_5 ?_
      refine z_icmp_ge (tgt := 96) E (by omega) (by omega) dX0_operated_7 (by decide) (fun h7 => ?_) (fun h7 => ?_)
      · omega
      · refine z_iconst E dX0_operated_10 ?_
        refine z_istore (ls' := [_, _, _, _, _, _, _]) E dX0_operated_11 (Nat.le_of_ble_eq_true rfl) rfl ?_
        refine z_iload E dX0_operated_13 rfl ?_
        refine z_istore (ls' := [_, _, _, _, _, _, _]) E dX0_operated_15 (Nat.le_of_ble_eq_true rfl) rfl ?_
        have inner : ∀ (q2 i : Nat), i + q2 = 10 - m → Zc X 17 [some (.ref 3), some (.ref s), some (.ref t), some (.ref o), some (.int (iI (m : Int))), some (.int (iI (sm (fun i => A (s + 1) i * (A (t + 1) (m + i) * fcl (m + i) % 10007)) i))), some (.int (iI ((m : Int) + (i : Int))))] [] N (mA A') 0 0 := by
          intro q2
          induction q2 with
          | zero =>
            intro i hi
            have hi2 : i = 10 - m := by omega
            subst hi2
            have hsm := sm_in (n := 10 - m) pr
            have e6 := hK'.2.2.1 m (by omega)
            have p6 := mul_in (a := sm (fun i => A (s + 1) i * (A (t + 1) (m + i) * fcl (m + i) % 10007)) (10 - m) % 10007) (by omega) (ifc_in m)
            refine z_iload E dX0_operated_17 rfl ?_
            refine z_bipush E (by decide) dX0_operated_19 ?_
            refine z_icmp_ge (tgt := 65) E (by omega) (by omega) dX0_operated_21 (by decide) (fun h21 => ?_) (fun h21 => ?_)
            · refine z_aload_n E dX0_operated_65 rfl ?_
              refine z_get E dX0_operated_66 (cel_ser ho _) flX0_61 (by rfl) ?_
              refine z_iload E dX0_operated_69 rfl ?_
              refine z_iload E dX0_operated_71 rfl ?_
              refine z_sipush E (by decide) dX0_operated_73 ?_
              refine z_irem E (by omega) (by omega) (by omega) (Int.tmod_eq_emod_of_nonneg (by omega)) dX0_operated_76 ?_
              refine z_aload_n E dX0_operated_77 rfl ?_
              refine z_get E dX0_operated_78 (by rfl) flX0_18 (by rfl) ?_
              refine z_iload E dX0_operated_81 rfl ?_
              refine a_iald (j := m) E dX0_operated_83 (fun _ => rfl) (by omega) (by omega) (by omega) ?_
              rw [e6]
              refine z_imul E dX0_operated_84 ?_
              refine z_sipush E (by decide) dX0_operated_85 ?_
              refine z_irem E (by omega) (by omega) (by omega) (Int.tmod_eq_emod_of_nonneg (by omega)) dX0_operated_88 ?_
              refine a_iast (j := m) E dX0_operated_89 (cel_row ho) (by omega) (by omega) (by omega) ?_
              refine z_iinc (ls' := [_, _, _, _, _, _, _]) E dX0_operated_90 rfl rfl ?_
              refine z_goto (tgt := 3) E dX0_operated_93 (by decide) ?_
              rw [ei]
              refine ih (m + 1) (by omega) _ _ _ ?_
              rw [hA, va_uu, va_up_self]
              refine congrArg (va_up A (o + 1)) (funext fun j => ?_)
              by_cases e1 : j = m
              · subst e1; rw [up_eq, if_pos (by omega)]; rfl
              · rw [up_ne _ _ e1]
                by_cases e2 : j < m
                · rw [if_pos e2, if_pos (by omega)]
                · rw [if_neg e2, if_neg (by omega)]
            · omega
          | succ q2 ihm =>
            intro i hi
            have e5 := hK'.2.1 (m + i) (by omega)
            have p5 := pb i (by omega)
            refine z_iload E dX0_operated_17 rfl ?_
            refine z_bipush E (by decide) dX0_operated_19 ?_
            refine z_icmp_ge (tgt := 65) E (by omega) (by omega) dX0_operated_21 (by decide) (fun h21 => ?_) (fun h21 => ?_)
            · omega
            · refine z_iload E dX0_operated_24 rfl ?_
              refine z_aload_n E dX0_operated_26 rfl ?_
              refine z_get E dX0_operated_27 (cel_ser hs _) flX0_61 (by rfl) ?_
              refine z_iload E dX0_operated_30 rfl ?_
              refine z_iload E dX0_operated_32 rfl ?_
              refine z_isub E dX0_operated_34 ?_
              refine a_iald (j := i) E dX0_operated_35 (cel_row hs) (by omega) (by omega) (by omega) ?_
              refine z_aload_n E dX0_operated_36 rfl ?_
              refine z_get E dX0_operated_37 (cel_ser ht _) flX0_61 (by rfl) ?_
              refine z_iload E dX0_operated_40 rfl ?_
              refine a_iald (j := m + i) E dX0_operated_42 (cel_row ht) (by omega) (by omega) (by omega) ?_
              refine z_aload_n E dX0_operated_43 rfl ?_
              refine z_get E dX0_operated_44 (by rfl) flX0_15 (by rfl) ?_
              refine z_iload E dX0_operated_47 rfl ?_
              refine a_iald (j := m + i) E dX0_operated_49 (fun _ => rfl) (by omega) (by omega) (by omega) ?_
              rw [es, et, e5]
              refine z_imul E dX0_operated_50 ?_
              refine z_sipush E (by decide) dX0_operated_51 ?_
              refine z_irem E (by omega) (by omega) (by omega) (Int.tmod_eq_emod_of_nonneg (by omega)) dX0_operated_54 ?_
              refine z_imul E dX0_operated_55 ?_
              refine z_iadd E dX0_operated_56 ?_
              refine z_istore (ls' := [_, _, _, _, _, _, _]) E dX0_operated_57 (Nat.le_of_ble_eq_true rfl) rfl ?_
              refine z_iinc (ls' := [_, _, _, _, _, _, _]) E dX0_operated_59 rfl rfl ?_
              refine z_goto (tgt := 17) E dX0_operated_62 (by decide) ?_
              rw [show (m : Int) + (i : Int) + 1 = (m : Int) + ((i + 1 : Nat) : Int) by omega]
              exact ihm (i + 1) (by omega)
        refine Eq.mp ?_ (inner (10 - m) 0 (by omega))
        rw [show (m : Int) + ((0 : Nat) : Int) = (m : Int) by omega]
        rfl
  refine z_mem ?_ (loop 10 0 (by omega) none none _ rfl)
  exact (row_id (cel_row ho) (fun j hj => if_neg (by omega))).symm
set_option maxRecDepth 100000 in
theorem ok_isTimes {s t : Nat} (hs : SerK s) (ht : SerK t) (A : Nat → Nat → Int) (ra : rok (A (s + 1))) (rb : rok (A (t + 1))) (n : Nat) (hn : n < 10) (N : Nat) : OkR mX0_isTimes [.ref s, .int (iI (n : Int)), .ref t] N (mA A) (some (.int (iI (b01 (∀ i, i < 10 → A (s + 1) i = (n : Int) * A (t + 1) i % 10007))))) (mA A) := by
  refine OkM.of [some (.ref s), some (.int (iI (n : Int))), some (.ref t), none] (by decide +kernel) rfl (Nat.le_of_ble_eq_true rfl) ?_
  intro X E F
  refine z_iconst E dX0_isTimes_0 ?_
  refine z_istore_n (ls' := [_, _, _, _]) E rfl dX0_isTimes_1 (Nat.le_of_ble_eq_true rfl) rfl ?_
  have loop : ∀ (m i : Nat), i + m = 10 → (∀ j, j < i → A (s + 1) j = (n : Int) * A (t + 1) j % 10007) → Zc X 2 [some (.ref s), some (.int (iI (n : Int))), some (.ref t), some (.int (iI (i : Int)))] [] N (mA A) 0 0 := by
    intro m
    induction m with
    | zero =>
      intro i hi hall
      refine z_iload_n E dX0_isTimes_2 rfl ?_
      refine z_bipush E (by decide) dX0_isTimes_3 ?_
      refine z_icmp_ge (tgt := 37) E (by omega) (by omega) dX0_isTimes_5 (by decide) (fun h5 => ?_) (fun h5 => ?_)
      · refine z_iconst E dX0_isTimes_37 ?_
        exact z_zret E F (by first | exact Or.inl rfl | exact Or.inr rfl) dX0_isTimes_38 ⟨by rw [b01_t (fun j hj => hall j (by omega))], rfl⟩
      · omega
    | succ m ih =>
      intro i hi hall
      have r1 := ra i (by omega)
      have p1 := mul_in (a := (n : Int)) (by omega) (rb i (by omega))
      refine z_iload_n E dX0_isTimes_2 rfl ?_
      refine z_bipush E (by decide) dX0_isTimes_3 ?_
      refine z_icmp_ge (tgt := 37) E (by omega) (by omega) dX0_isTimes_5 (by decide) (fun h5 => ?_) (fun h5 => ?_)
      · omega
      · refine z_aload_n E dX0_isTimes_8 rfl ?_
        refine z_get E dX0_isTimes_9 (cel_ser hs _) flX0_61 (by rfl) ?_
        refine z_iload_n E dX0_isTimes_12 rfl ?_
        refine a_iald (j := i) E dX0_isTimes_13 (cel_row hs) (by omega) (by omega) (by omega) ?_
        refine z_iload_n E dX0_isTimes_14 rfl ?_
        refine z_aload_n E dX0_isTimes_15 rfl ?_
        refine z_get E dX0_isTimes_16 (cel_ser ht _) flX0_61 (by rfl) ?_
        refine z_iload_n E dX0_isTimes_19 rfl ?_
        refine a_iald (j := i) E dX0_isTimes_20 (cel_row ht) (by omega) (by omega) (by omega) ?_
        refine z_imul E dX0_isTimes_21 ?_
        refine z_sipush E (by decide) dX0_isTimes_22 ?_
        refine z_irem E (by omega) (by omega) (by omega) (Int.tmod_eq_emod_of_nonneg (by omega)) dX0_isTimes_25 ?_
        refine z_icmp_eq (tgt := 31) E (by omega) (by omega) dX0_isTimes_26 (by decide) (fun h26 => ?_) (fun h26 => ?_)
        · refine z_iinc (ls' := [_, _, _, _]) E dX0_isTimes_31 rfl rfl ?_
          refine z_goto (tgt := 2) E dX0_isTimes_34 (by decide) ?_
          rw [ei]
          refine ih (i + 1) (by omega) (fun j hj => ?_)
          by_cases e : j = i
          · subst e; exact h26
          · exact hall j (by omega)
        · refine z_iconst E dX0_isTimes_29 ?_
          exact z_zret E F (by first | exact Or.inl rfl | exact Or.inr rfl) dX0_isTimes_30 ⟨by rw [b01_f (fun h => h26 (h i (by omega)))], rfl⟩
  exact loop 10 0 (by omega) (fun j hj => by omega)
/-- differences of a row of values, k times over -/
def dfT (v : Nat → Int) : Nat → (Nat → Int)
  | 0 => v
  | k + 1 => fun j => if k + 1 ≤ j then (dfT v k j - dfT v k (j - 1)) % 10007 else dfT v k j
theorem dfT_hi {v : Nat → Int} {k j : Nat} (h : k + 1 ≤ j) : dfT v (k + 1) j = (dfT v k j - dfT v k (j - 1)) % 10007 := if_pos h
theorem dfT_lo {v : Nat → Int} {k j : Nat} (h : ¬ k + 1 ≤ j) : dfT v (k + 1) j = dfT v k j := if_neg h
theorem dfT_rok {v : Nat → Int} (h : rok v) : ∀ k, rok (dfT v k)
  | 0 => h
  | k + 1 => fun j hj => by
    have h1 := dfT_rok h k j hj
    unfold dfT
    split
    · omega
    · exact h1
set_option maxRecDepth 100000 in
theorem ok_valuesToDifferences (A : Nat → Nat → Int) (r : rok (A 29)) (N : Nat) : OkR mX0_valuesToDifferences [.ref 3] N (mA A) none (mA (va_up A 29 (dfT (A 29) 9))) := by
  have h29 : ∀ f, cel 29 f = (6, vals 10 f) := fun _ => rfl
  refine OkM.of [some (.ref 3), none, none] (by decide +kernel) rfl (Nat.le_of_ble_eq_true rfl) ?_
  intro X E F
  refine z_iconst E dX0_valuesToDifferences_0 ?_
  refine z_istore_n (ls' := [_, _, _]) E rfl dX0_valuesToDifferences_1 (Nat.le_of_ble_eq_true rfl) rfl ?_
  have loop : ∀ (q k : Nat), k + q = 9 → ∀ (l2 : Option Value) (A' : Nat → Nat → Int), A' = va_up A 29 (dfT (A 29) k) → Zc X 2 [some (.ref 3), some (.int (iI ((k : Int) + 1))), l2] [] N (mA A') 0 0 := by
    intro q
    induction q with
    | zero =>
      intro k hk l2 A' hA
      have hk2 : k = 9 := by omega
      subst hk2
      refine z_iload_n E dX0_valuesToDifferences_2 rfl ?_
      refine z_bipush E (by decide) dX0_valuesToDifferences_3 ?_
      refine z_icmp_ge (tgt := 52) E (by omega) (by omega) dX0_valuesToDifferences_5 (by decide) (fun h5 => ?_) (fun h5 => ?_)
      · exact z_vret E F dX0_valuesToDifferences_52 ⟨rfl, by rw [hA]⟩
      · omega
    | succ q ih =>
      intro k hk l2 A' hA
      refine z_iload_n E dX0_valuesToDifferences_2 rfl ?_
      refine z_bipush E (by decide) dX0_valuesToDifferences_3 ?_
      refine z_icmp_ge (tgt := 52) E (by omega) (by omega) dX0_valuesToDifferences_5 (by decide) (fun h5 => ?_) (fun h5 => ?_)
      · omega
      · refine z_bipush E (by decide) dX0_valuesToDifferences_8 ?_
        refine z_istore_n (ls' := [_, _, _]) E rfl dX0_valuesToDifferences_10 (Nat.le_of_ble_eq_true rfl) rfl ?_
        have inner2 : ∀ (d i : Nat), i = k + d → i ≤ 9 → ∀ A2 : Nat → Nat → Int, A2 = va_up A 29 (fun j => if j ≤ i then dfT (A 29) k j else dfT (A 29) (k + 1) j) → Zc X 11 [some (.ref 3), some (.int (iI ((k : Int) + 1))), some (.int (iI (i : Int)))] [] N (mA A2) 0 0 := by
          intro d
          induction d with
          | zero =>
            intro i hi h9 A2 hA2
            refine z_iload_n E dX0_valuesToDifferences_11 rfl ?_
            refine z_iload_n E dX0_valuesToDifferences_12 rfl ?_
            refine z_icmp_lt (tgt := 46) E (by omega) (by omega) dX0_valuesToDifferences_13 (by decide) (fun h13 => ?_) (fun h13 => ?_)
            · refine z_iinc (ls' := [_, _, _]) E dX0_valuesToDifferences_46 rfl rfl ?_
              refine z_goto (tgt := 2) E dX0_valuesToDifferences_49 (by decide) ?_
              rw [ei]
              refine ih (k + 1) (by omega) _ _ ?_
              rw [hA2]
              refine congrArg (va_up A 29) (funext fun j => ?_)
              by_cases e : j ≤ i
              · rw [if_pos e, dfT_lo (by omega)]
              · rw [if_neg e]
            · omega
          | succ d ihd =>
            intro i hi h9 A2 hA2
            have e1 : ∀ j, j ≤ i → A2 29 j = dfT (A 29) k j := fun j hj => by rw [hA2, va_up_self, if_pos hj]
            have r1 := dfT_rok r k i (by omega)
            have r2 := dfT_rok r k (i - 1) (by omega)
            refine z_iload_n E dX0_valuesToDifferences_11 rfl ?_
            refine z_iload_n E dX0_valuesToDifferences_12 rfl ?_
            refine z_icmp_lt (tgt := 46) E (by omega) (by omega) dX0_valuesToDifferences_13 (by decide) (fun h13 => ?_) (fun h13 => ?_)
            · omega
            · refine z_aload_n E dX0_valuesToDifferences_16 rfl ?_
              refine z_get E dX0_valuesToDifferences_17 (by rfl) flX0_29 (by rfl) ?_
              refine z_iload_n E dX0_valuesToDifferences_20 rfl ?_
              refine z_aload_n E dX0_valuesToDifferences_21 rfl ?_
              refine z_get E dX0_valuesToDifferences_22 (by rfl) flX0_29 (by rfl) ?_
              refine z_iload_n E dX0_valuesToDifferences_25 rfl ?_
              refine a_iald (j := i) E dX0_valuesToDifferences_26 (fun _ => rfl) (by omega) (by omega) (by omega) ?_
              refine z_aload_n E dX0_valuesToDifferences_27 rfl ?_
              refine z_get E dX0_valuesToDifferences_28 (by rfl) flX0_29 (by rfl) ?_
              refine z_iload_n E dX0_valuesToDifferences_31 rfl ?_
              refine z_iconst E dX0_valuesToDifferences_32 ?_
              refine z_isub E dX0_valuesToDifferences_33 ?_
              refine a_iald (j := i - 1) E dX0_valuesToDifferences_34 (fun _ => rfl) (by omega) (by omega) (by omega) ?_
              refine z_isub E dX0_valuesToDifferences_35 ?_
              rw [e1 i (by omega), e1 (i - 1) (by omega)]
              refine c_S E dX0_valuesToDifferences_36 lkX0_78 (ok_of _ ⟨by omega, by omega⟩ N (mA A2)) rfl rfl rfl (Nat.le_of_ble_eq_true rfl) ⟨(Nat.le_of_ble_eq_true rfl), (Nat.le_of_ble_eq_true rfl)⟩ ⟨rfl, rfl⟩ ⟨Nat.zero_le _, Nat.zero_le _⟩ ?_
              refine a_iast (j := i) E dX0_valuesToDifferences_39 (fun _ => rfl) (by omega) (by omega) (by omega) ?_
              refine z_iinc (ls' := [_, _, _]) E dX0_valuesToDifferences_40 rfl rfl ?_
              refine z_goto (tgt := 11) E dX0_valuesToDifferences_43 (by decide) ?_
              rw [show (i : Int) + -1 = ((i - 1 : Nat) : Int) by omega]
              refine ihd (i - 1) (by omega) (by omega) _ ?_
              rw [hA2, va_uu, va_up_self]
              refine congrArg (va_up A 29) (funext fun j => ?_)
              by_cases e2 : j = i
              · subst e2; rw [up_eq, if_neg (by omega), dfT_hi (by omega)]
              · rw [up_ne _ _ e2]
                by_cases e3 : j ≤ i - 1
                · rw [if_pos e3, if_pos (by omega)]
                · rw [if_neg e3, if_neg (by omega)]
        refine z_mem ?_ (inner2 (9 - k) 9 (by omega) (by omega) _ rfl)
        rw [hA]
        exact row_eq h29 (fun j hj => (if_pos (by omega)).symm)
  refine z_mem ?_ (loop 9 0 (by omega) none _ rfl)
  exact (row_id h29 (fun j hj => rfl)).symm
/-- a polynomial's ten values from a on, and their differences -/
def vlS (c : Nat → Int) (a : Int) (i : Nat) : Int := hv c ((a % 10007 + (i : Int)) % 10007) 10
def fdS (c : Nat → Int) (a : Int) : Nat → Int := dfT (vlS c a) 9
theorem vlS_rok (c : Nat → Int) (a : Int) : rok (vlS c a) := fun j _ => hv_in _ _ _
set_option maxRecDepth 100000 in
theorem ok_fillDifferencesAt {s : Nat} (hs : SerK s) (A : Nat → Nat → Int) (ra : rok (A (s + 1))) (a : Int) (ha : inR a) (N : Nat) : OkR mX0_fillDifferencesAt [.ref 3, .ref s, .int (iI a)] N (mA A) none (mA (va_up A 29 (fdS (A (s + 1)) a))) := by
  have h29 : ∀ f, cel 29 f = (6, vals 10 f) := fun _ => rfl
  refine OkM.of [some (.ref 3), some (.ref s), some (.int (iI a)), none, none] (by decide +kernel) rfl (Nat.le_of_ble_eq_true rfl) ?_
  intro X E F
  refine z_iload_n E dX0_fillDifferencesAt_0 rfl ?_
  refine c_S E dX0_fillDifferencesAt_1 lkX0_78 (ok_of a ha N (mA A)) rfl rfl rfl (Nat.le_of_ble_eq_true rfl) ⟨(Nat.le_of_ble_eq_true rfl), (Nat.le_of_ble_eq_true rfl)⟩ ⟨rfl, rfl⟩ ⟨Nat.zero_le _, Nat.zero_le _⟩ ?_
  refine z_istore_n (ls' := [_, _, _, _, _]) E rfl dX0_fillDifferencesAt_4 (Nat.le_of_ble_eq_true rfl) rfl ?_
  refine z_iconst E dX0_fillDifferencesAt_5 ?_
  refine z_istore (ls' := [_, _, _, _, _]) E dX0_fillDifferencesAt_6 (Nat.le_of_ble_eq_true rfl) rfl ?_
  have loop : ∀ (m i : Nat), i + m = 10 → ∀ A' : Nat → Nat → Int, A' = va_up A 29 (fun j => if j < i then vlS (A (s + 1)) a j else A 29 j) → Zc X 8 [some (.ref 3), some (.ref s), some (.int (iI a)), some (.int (iI (a % 10007))), some (.int (iI (i : Int)))] [] N (mA A') 0 0 := by
    intro m
    induction m with
    | zero =>
      intro i hi A' hA
      have hi2 : i = 10 := by omega
      subst hi2
      refine z_iload E dX0_fillDifferencesAt_8 rfl ?_
      refine z_bipush E (by decide) dX0_fillDifferencesAt_10 ?_
      refine z_icmp_ge (tgt := 36) E (by omega) (by omega) dX0_fillDifferencesAt_12 (by decide) (fun h12 => ?_) (fun h12 => ?_)
      · refine z_aload_n E dX0_fillDifferencesAt_36 rfl ?_
        refine z_mem (g' := mA (va_up A 29 (vlS (A (s + 1)) a))) (by rw [hA]; exact row_eq h29 (fun j hj => if_pos hj)) ?_
        refine c_V0 E dX0_fillDifferencesAt_37 lkX0_135 (ok_valuesToDifferences (va_up A 29 (vlS (A (s + 1)) a)) (by rw [va_up_self]; exact vlS_rok _ _) N) (by rfl) rfl rfl rfl (Nat.le_of_ble_eq_true rfl) ⟨(Nat.le_of_ble_eq_true rfl), (Nat.le_of_ble_eq_true rfl)⟩ ⟨rfl, rfl⟩ ⟨Nat.zero_le _, Nat.zero_le _⟩ ?_
        rw [va_uu, va_up_self]
        exact z_vret E F dX0_fillDifferencesAt_40 ⟨rfl, rfl⟩
      · omega
    | succ m ih =>
      intro i hi A' hA
      have es : A' (s + 1) = A (s + 1) := by rw [hA, va_up_ne _ _ (by have := hs.1; have := hs.2; omega)]
      refine z_iload E dX0_fillDifferencesAt_8 rfl ?_
      refine z_bipush E (by decide) dX0_fillDifferencesAt_10 ?_
      refine z_icmp_ge (tgt := 36) E (by omega) (by omega) dX0_fillDifferencesAt_12 (by decide) (fun h12 => ?_) (fun h12 => ?_)
      · omega
      · refine z_aload_n E dX0_fillDifferencesAt_15 rfl ?_
        refine z_get E dX0_fillDifferencesAt_16 (by rfl) flX0_29 (by rfl) ?_
        refine z_iload E dX0_fillDifferencesAt_19 rfl ?_
        refine z_aload_n E dX0_fillDifferencesAt_21 rfl ?_
        refine z_iload_n E dX0_fillDifferencesAt_22 rfl ?_
        refine z_iload E dX0_fillDifferencesAt_23 rfl ?_
        refine z_iadd E dX0_fillDifferencesAt_25 ?_
        refine c_V E dX0_fillDifferencesAt_26 lkX0_124 (ok_valueAt hs A' (by rw [es]; exact ra) _ ⟨by omega, by omega⟩ N) (cel_ser hs _) rfl rfl rfl (Nat.le_of_ble_eq_true rfl) ⟨(Nat.le_of_ble_eq_true rfl), (Nat.le_of_ble_eq_true rfl)⟩ ⟨rfl, rfl⟩ ⟨Nat.zero_le _, Nat.zero_le _⟩ ?_
        rw [es]
        refine a_iast (j := i) E dX0_fillDifferencesAt_29 (fun _ => rfl) (by omega) (by omega) (by omega) ?_
        refine z_iinc (ls' := [_, _, _, _, _]) E dX0_fillDifferencesAt_30 rfl rfl ?_
        refine z_goto (tgt := 8) E dX0_fillDifferencesAt_33 (by decide) ?_
        rw [ei]
        refine ih (i + 1) (by omega) _ ?_
        rw [hA, va_uu, va_up_self]
        refine congrArg (va_up A 29) (funext fun j => ?_)
        by_cases e2 : j = i
        · subst e2; rw [up_eq, if_pos (by omega)]; rfl
        · rw [up_ne _ _ e2]
          by_cases e3 : j < i
          · rw [if_pos e3, if_pos (by omega)]
          · rw [if_neg e3, if_neg (by omega)]
  refine z_mem ?_ (loop 10 0 (by omega) _ rfl)
  exact (row_id h29 (fun j hj => if_neg (by omega))).symm
theorem ok_differenceAt {s : Nat} (hs : SerK s) (A : Nat → Nat → Int) (ra : rok (A (s + 1))) (k : Nat) (hk : k < 10) (a : Int) (ha : inR a) (N : Nat) : OkR mX0_differenceAt [.ref 3, .ref s, .int (iI (k : Int)), .int (iI a)] N (mA A) (some (.int (iI (fdS (A (s + 1)) a k)))) (mA (va_up A 29 (fdS (A (s + 1)) a))) := by
  refine OkM.of [some (.ref 3), some (.ref s), some (.int (iI (k : Int))), some (.int (iI a))] (by decide +kernel) rfl (Nat.le_of_ble_eq_true rfl) ?_
  intro X E F
  refine z_aload_n E dX0_differenceAt_0 rfl ?_
  refine z_aload_n E dX0_differenceAt_1 rfl ?_
  refine z_iload_n E dX0_differenceAt_2 rfl ?_
  refine c_V0 E dX0_differenceAt_3 lkX0_131 (ok_fillDifferencesAt hs A ra a ha N) (by rfl) rfl rfl rfl (Nat.le_of_ble_eq_true rfl) ⟨(Nat.le_of_ble_eq_true rfl), (Nat.le_of_ble_eq_true rfl)⟩ ⟨rfl, rfl⟩ ⟨Nat.zero_le _, Nat.zero_le _⟩ ?_
  refine z_aload_n E dX0_differenceAt_6 rfl ?_
  refine z_get E dX0_differenceAt_7 (by rfl) flX0_29 (by rfl) ?_
  refine z_iload_n E dX0_differenceAt_10 rfl ?_
  refine a_iald (j := k) E dX0_differenceAt_11 (fun _ => rfl) (by omega) (by omega) (by omega) ?_
  rw [va_up_self]
  exact z_iret E F dX0_differenceAt_12 ⟨rfl, rfl⟩
/-- (top over k), and the sum -/
def suC (top : Int) : Nat → Int
  | 0 => 1
  | k + 1 => suC top k * ((top - (k : Int)) % 10007) % 10007 * pw ((k + 1 : Nat) : Int) 10005 % 10007
def suT (d : Nat → Int) (top : Int) : Nat → Int
  | 0 => 0
  | k + 1 => (suT d top k + d k * suC top (k + 1)) % 10007
theorem suC_in (top : Int) : ∀ k, 0 ≤ suC top k ∧ suC top k < 10007
  | 0 => by simp [suC]
  | k + 1 => by simp only [suC]; omega
theorem suT_in (d : Nat → Int) (top : Int) : ∀ k, 0 ≤ suT d top k ∧ suT d top k < 10007
  | 0 => by simp [suT]
  | k + 1 => by simp only [suT]; omega
set_option maxRecDepth 100000 in
theorem ok_summed {s : Nat} (hs : SerK s) (A : Nat → Nat → Int) (hK : KA A) (ra : rok (A (s + 1))) (a : Int) (ha : inR a) (many : Int) (hm : inR many) (N : Nat) : OkR mX0_summed [.ref 3, .ref s, .int (iI a), .int (iI many)] N (mA A) (some (.int (iI (suT (fdS (A (s + 1)) a) (many % 10007) 10)))) (mA (va_up A 29 (fdS (A (s + 1)) a))) := by
  refine OkM.of [some (.ref 3), some (.ref s), some (.int (iI a)), some (.int (iI many)), none, none, none, none] (by decide +kernel) rfl (Nat.le_of_ble_eq_true rfl) ?_
  intro X E F
  refine z_aload_n E dX0_summed_0 rfl ?_
  refine z_aload_n E dX0_summed_1 rfl ?_
  refine z_iload_n E dX0_summed_2 rfl ?_
  refine c_V0 E dX0_summed_3 lkX0_131 (ok_fillDifferencesAt hs A ra a ha N) (by rfl) rfl rfl rfl (Nat.le_of_ble_eq_true rfl) ⟨(Nat.le_of_ble_eq_true rfl), (Nat.le_of_ble_eq_true rfl)⟩ ⟨rfl, rfl⟩ ⟨Nat.zero_le _, Nat.zero_le _⟩ ?_
  refine z_iload_n E dX0_summed_6 rfl ?_
  refine c_S E dX0_summed_7 lkX0_78 (ok_of many hm N _) rfl rfl rfl (Nat.le_of_ble_eq_true rfl) ⟨(Nat.le_of_ble_eq_true rfl), (Nat.le_of_ble_eq_true rfl)⟩ ⟨rfl, rfl⟩ ⟨Nat.zero_le _, Nat.zero_le _⟩ ?_
  have rd : rok (fdS (A (s + 1)) a) := dfT_rok (vlS_rok _ _) 9
  have hK' : KA (va_up A 29 (fdS (A (s + 1)) a)) := hK.up (by omega)
  have e29 : va_up A 29 (fdS (A (s + 1)) a) 29 = fdS (A (s + 1)) a := va_up_self _ _ _
  generalize fdS (A (s + 1)) a = d at *
  generalize va_up A 29 d = A2 at *
  refine z_istore (ls' := [_, _, _, _, _, _, _, _]) E dX0_summed_10 (Nat.le_of_ble_eq_true rfl) rfl ?_
  refine z_iconst E dX0_summed_12 ?_
  refine z_istore (ls' := [_, _, _, _, _, _, _, _]) E dX0_summed_13 (Nat.le_of_ble_eq_true rfl) rfl ?_
  refine z_iconst E dX0_summed_15 ?_
  refine z_istore (ls' := [_, _, _, _, _, _, _, _]) E dX0_summed_16 (Nat.le_of_ble_eq_true rfl) rfl ?_
  refine z_iconst E dX0_summed_18 ?_
  refine z_istore (ls' := [_, _, _, _, _, _, _, _]) E dX0_summed_19 (Nat.le_of_ble_eq_true rfl) rfl ?_
  have ht : 0 ≤ many % 10007 ∧ many % 10007 < 10007 := by omega
  generalize many % 10007 = top at *
  have loop : ∀ (m k : Nat), k + m = 10 → Zc X 21 [some (.ref 3), some (.ref s), some (.int (iI a)), some (.int (iI many)), some (.int (iI top)), some (.int (iI (suC top k))), some (.int (iI (suT d top k))), some (.int (iI (k : Int)))] [] N (mA A2) 0 0 := by
    intro m
    induction m with
    | zero =>
      intro k hk
      have hk2 : k = 10 := by omega
      subst hk2
      refine z_iload E dX0_summed_21 rfl ?_
      refine z_bipush E (by decide) dX0_summed_23 ?_
      refine z_icmp_ge (tgt := 84) E (by omega) (by omega) dX0_summed_25 (by decide) (fun h25 => ?_) (fun h25 => ?_)
      · refine z_iload E dX0_summed_84 rfl ?_
        exact z_iret E F dX0_summed_86 ⟨rfl, rfl⟩
      · omega
    | succ m ih =>
      intro k hk
      have e4 := hK'.1 (k + 1) (by omega) (by omega)
      have p1 := mul_in (suC_in top k) (b := (top - (k : Int)) % 10007) (by omega)
      have p2 := mul_in (a := suC top k * ((top - (k : Int)) % 10007) % 10007) (by omega) (pw_in ((k + 1 : Nat) : Int) 10005)
      have p3 := mul_in (rd k (by omega)) (suC_in top (k + 1))
      have p4 := suT_in d top k
      refine z_iload E dX0_summed_21 rfl ?_
      refine z_bipush E (by decide) dX0_summed_23 ?_
      refine z_icmp_ge (tgt := 84) E (by omega) (by omega) dX0_summed_25 (by decide) (fun h25 => ?_) (fun h25 => ?_)
      · omega
      · refine z_iload E dX0_summed_28 rfl ?_
        refine z_iload E dX0_summed_30 rfl ?_
        refine z_iload E dX0_summed_32 rfl ?_
        refine z_isub E dX0_summed_34 ?_
        refine c_S E dX0_summed_35 lkX0_78 (ok_of (top - (k : Int)) ⟨by omega, by omega⟩ N (mA A2)) rfl rfl rfl (Nat.le_of_ble_eq_true rfl) ⟨(Nat.le_of_ble_eq_true rfl), (Nat.le_of_ble_eq_true rfl)⟩ ⟨rfl, rfl⟩ ⟨Nat.zero_le _, Nat.zero_le _⟩ ?_
        refine z_imul E dX0_summed_38 ?_
        refine z_sipush E (by decide) dX0_summed_39 ?_
        refine z_irem E (by omega) (by omega) (by omega) (Int.tmod_eq_emod_of_nonneg (by omega)) dX0_summed_42 ?_
        refine z_aload_n E dX0_summed_43 rfl ?_
        refine z_get E dX0_summed_44 (by rfl) flX0_9 (by rfl) ?_
        refine z_iload E dX0_summed_47 rfl ?_
        refine z_iconst E dX0_summed_49 ?_
        refine z_iadd E dX0_summed_50 ?_
        refine a_iald (j := k + 1) E dX0_summed_51 (fun _ => rfl) (by omega) (by omega) (by omega) ?_
        rw [e4]
        refine z_imul E dX0_summed_52 ?_
        refine z_sipush E (by decide) dX0_summed_53 ?_
        refine z_irem E (by omega) (by omega) (by omega) (Int.tmod_eq_emod_of_nonneg (by omega)) dX0_summed_56 ?_
        refine z_istore (ls' := [_, _, _, _, _, _, _, _]) E dX0_summed_57 (Nat.le_of_ble_eq_true rfl) rfl ?_
        refine z_iload E dX0_summed_59 rfl ?_
        refine z_aload_n E dX0_summed_61 rfl ?_
        refine z_get E dX0_summed_62 (by rfl) flX0_29 (by rfl) ?_
        refine z_iload E dX0_summed_65 rfl ?_
        refine a_iald (j := k) E dX0_summed_67 (fun _ => rfl) (by omega) (by omega) (by omega) ?_
        rw [e29]
        change Zc X _ [_, _, _, _, _, some (.int (iI (suC top (k + 1)))), _, _] _ _ _ _ _
        refine z_iload E dX0_summed_68 rfl ?_
        refine z_imul E dX0_summed_70 ?_
        refine z_iadd E dX0_summed_71 ?_
        refine z_sipush E (by decide) dX0_summed_72 ?_
        refine z_irem E (by omega) (by omega) (by omega) (Int.tmod_eq_emod_of_nonneg (by omega)) dX0_summed_75 ?_
        refine z_istore (ls' := [_, _, _, _, _, _, _, _]) E dX0_summed_76 (Nat.le_of_ble_eq_true rfl) rfl ?_
        refine z_iinc (ls' := [_, _, _, _, _, _, _, _]) E dX0_summed_78 rfl rfl ?_
        refine z_goto (tgt := 21) E dX0_summed_81 (by decide) ?_
        rw [ei]
        exact ih (k + 1) (by omega)
  exact loop 10 0 (by omega)
/-- Newton's form, from the highest difference down -/
def thS (d : Nat → Int) (many : Nat) : Nat → (Nat → Int)
  | 0 => conS 0
  | c + 1 => up (tfS ((many - 1 - c : Nat) : Int) (thS d many c)) 0 ((tfS ((many - 1 - c : Nat) : Int) (thS d many c) 0 + d (many - 1 - c) * ifc (many - 1 - c) % 10007) % 10007)
theorem thS_rok (d : Nat → Int) (many : Nat) : ∀ c, rok (thS d many c)
  | 0 => conS_rok (by omega)
  | c + 1 => up_rok (tfS_rok _ _) (by omega)
set_option maxRecDepth 100000 in
theorem ok_throughValues {s o : Nat} (hs : SerK s) (ho : SerK o) (h31 : o ≠ 30) (A : Nat → Nat → Int) (hK : KA A) (ra : rok (A (s + 1))) (many : Nat) (hm : 1 ≤ many ∧ many ≤ 10) (N : Nat) : OkR mX0_throughValues [.ref 3, .ref s, .int (iI (many : Int)), .ref o] N (mA A) none (mA (va_up (va_up A 29 (dfT (A (s + 1)) 9)) (o + 1) (thS (dfT (A (s + 1)) 9) many many))) := by
  have h29 : ∀ f, cel 29 f = (6, vals 10 f) := fun _ => rfl
  have ho1 := ho.1
  have ho2 := ho.2
  refine OkM.of [some (.ref 3), some (.ref s), some (.int (iI (many : Int))), some (.ref o), none, none] (by decide +kernel) rfl (Nat.le_of_ble_eq_true rfl) ?_
  intro X E F
  refine z_aload_n E dX0_throughValues_0 rfl ?_
  refine z_get E dX0_throughValues_1 (cel_ser hs _) flX0_61 (by rfl) ?_
  refine z_iconst E dX0_throughValues_4 ?_
  refine z_aload_n E dX0_throughValues_5 rfl ?_
  refine z_get E dX0_throughValues_6 (by rfl) flX0_29 (by rfl) ?_
  refine z_iconst E dX0_throughValues_9 ?_
  refine z_bipush E (by decide) dX0_throughValues_10 ?_
  refine z_copy (sp := 0) (dp := 0) (n := 10) E dX0_throughValues_12 lkX0_138 (cel_row hs _) (h29 _) rfl rfl rfl (by omega) (by omega) (by omega) rfl (Nat.le_of_ble_eq_true rfl) (Nat.le_of_ble_eq_true rfl) ?_
  rw [← h29, mA_up]
  refine z_mem (row_eq (h := A (s + 1)) h29 (fun j hj => ?_)) ?_
  · unfold cpy; rw [if_pos ⟨by omega, by omega⟩]; simp
  refine z_aload_n E dX0_throughValues_15 rfl ?_
  refine c_V0 E dX0_throughValues_16 lkX0_135 (ok_valuesToDifferences (va_up A 29 (A (s + 1))) (by rw [va_up_self]; exact ra) N) (by rfl) rfl rfl rfl (Nat.le_of_ble_eq_true rfl) ⟨(Nat.le_of_ble_eq_true rfl), (Nat.le_of_ble_eq_true rfl)⟩ ⟨rfl, rfl⟩ ⟨Nat.zero_le _, Nat.zero_le _⟩ ?_
  rw [va_uu, va_up_self]
  have rd : rok (dfT (A (s + 1)) 9) := dfT_rok ra 9
  have hK' : KA (va_up A 29 (dfT (A (s + 1)) 9)) := hK.up (by omega)
  have e29 : va_up A 29 (dfT (A (s + 1)) 9) 29 = dfT (A (s + 1)) 9 := va_up_self _ _ _
  generalize dfT (A (s + 1)) 9 = d at *
  generalize va_up A 29 d = A2 at *
  refine z_aload_n E dX0_throughValues_19 rfl ?_
  refine z_iconst E dX0_throughValues_20 ?_
  refine c_V0 E dX0_throughValues_21 lkX0_51 (ok_becomeConstant ho A2 0 N) (cel_ser ho _) rfl rfl rfl (Nat.le_of_ble_eq_true rfl) ⟨(Nat.le_of_ble_eq_true rfl), (Nat.le_of_ble_eq_true rfl)⟩ ⟨rfl, rfl⟩ ⟨Nat.zero_le _, Nat.zero_le _⟩ ?_
  refine z_iload_n E dX0_throughValues_24 rfl ?_
  refine z_iconst E dX0_throughValues_25 ?_
  refine z_isub E dX0_throughValues_26 ?_
  refine z_istore (ls' := [_, _, _, _, _, _]) E dX0_throughValues_27 (Nat.le_of_ble_eq_true rfl) rfl ?_
  have loop : ∀ (q c : Nat), c + q = many → ∀ (l5 : Option Value) (A' : Nat → Nat → Int), A' = va_up A2 (o + 1) (thS d many c) → Zc X 29 [some (.ref 3), some (.ref s), some (.int (iI (many : Int))), some (.ref o), some (.int (iI ((many : Int) - 1 - (c : Int)))), l5] [] N (mA A') 0 0 := by
    intro q
    induction q with
    | zero =>
      intro c hc l5 A' hA
      have hc2 : c = many := by omega
      subst hc2
      refine z_iload E dX0_throughValues_29 rfl ?_
      refine z_if_lt (tgt := 86) E (by omega) dX0_throughValues_31 (by decide) (fun h31 => ?_) (fun h31 => ?_)
      · exact z_vret E F dX0_throughValues_86 ⟨rfl, by rw [hA]⟩
      · omega
    | succ q ih =>
      intro c hc l5 A' hA
      have eo : A' (o + 1) = thS d many c := by rw [hA, va_up_self]
      have e9 : ∀ f, va_up A' (o + 1) f 29 = d := fun f => by rw [va_up_ne _ _ (by omega), hA, va_up_ne _ _ (by omega)]; exact e29
      have e6 : ∀ f, va_up A' (o + 1) f 6 (many - 1 - c) = ifc (many - 1 - c) := fun f => by rw [va_up_ne _ _ (by omega), hA, va_up_ne _ _ (by omega)]; exact hK'.2.2.1 _ (by omega)
      have p1 := mul_in (rd (many - 1 - c) (by omega)) (ifc_in (many - 1 - c))
      have p2 := tfS_rok ((many - 1 - c : Nat) : Int) (thS d many c) 0 (by omega)
      have ex : (many : Int) - 1 - (c : Int) = ((many - 1 - c : Nat) : Int) := by omega
      rw [ex]
      refine z_iload E dX0_throughValues_29 rfl ?_
      refine z_if_lt (tgt := 86) E (by omega) dX0_throughValues_31 (by decide) (fun h31 => ?_) (fun h31 => ?_)
      · omega
      · refine z_aload_n E dX0_throughValues_34 rfl ?_
        refine z_iload E dX0_throughValues_35 rfl ?_
        refine c_V0 E dX0_throughValues_37 lkX0_144 (ok_becomeTimesFactor ho A' (by rw [eo]; exact thS_rok d many c) ((many - 1 - c : Nat) : Int) (by omega) N) (cel_ser ho _) rfl rfl rfl (Nat.le_of_ble_eq_true rfl) ⟨(Nat.le_of_ble_eq_true rfl), (Nat.le_of_ble_eq_true rfl)⟩ ⟨rfl, rfl⟩ ⟨Nat.zero_le _, Nat.zero_le _⟩ ?_
        rw [eo]
        refine z_aload_n E dX0_throughValues_40 rfl ?_
        refine z_get E dX0_throughValues_41 (by rfl) flX0_29 (by rfl) ?_
        refine z_iload E dX0_throughValues_44 rfl ?_
        refine a_iald (j := many - 1 - c) E dX0_throughValues_46 (fun _ => rfl) (by omega) (by omega) (by omega) ?_
        refine z_aload_n E dX0_throughValues_47 rfl ?_
        refine z_get E dX0_throughValues_48 (by rfl) flX0_18 (by rfl) ?_
        refine z_iload E dX0_throughValues_51 rfl ?_
        refine a_iald (j := many - 1 - c) E dX0_throughValues_53 (fun _ => rfl) (by omega) (by omega) (by omega) ?_
        rw [e9, e6]
        refine z_imul E dX0_throughValues_54 ?_
        refine z_sipush E (by decide) dX0_throughValues_55 ?_
        refine z_irem E (by omega) (by omega) (by omega) (Int.tmod_eq_emod_of_nonneg (by omega)) dX0_throughValues_58 ?_
        refine z_istore (ls' := [_, _, _, _, _, _]) E dX0_throughValues_59 (Nat.le_of_ble_eq_true rfl) rfl ?_
        refine z_aload_n E dX0_throughValues_61 rfl ?_
        refine z_get E dX0_throughValues_62 (cel_ser ho _) flX0_61 (by rfl) ?_
        refine z_iconst E dX0_throughValues_65 ?_
        refine z_aload_n E dX0_throughValues_66 rfl ?_
        refine z_get E dX0_throughValues_67 (cel_ser ho _) flX0_61 (by rfl) ?_
        refine z_iconst E dX0_throughValues_70 ?_
        refine a_iald (j := 0) E dX0_throughValues_71 (cel_row ho) (by omega) (by omega) (by omega) ?_
        rw [va_up_self]
        refine z_iload E dX0_throughValues_72 rfl ?_
        refine z_iadd E dX0_throughValues_74 ?_
        refine z_sipush E (by decide) dX0_throughValues_75 ?_
        refine z_irem E (by omega) (by omega) (by omega) (Int.tmod_eq_emod_of_nonneg (by omega)) dX0_throughValues_78 ?_
        refine a_iast (j := 0) E dX0_throughValues_79 (cel_row ho) (by omega) (by omega) (by omega) ?_
        refine z_iinc (ls' := [_, _, _, _, _, _]) E dX0_throughValues_80 rfl rfl ?_
        refine z_goto (tgt := 29) E dX0_throughValues_83 (by decide) ?_
        rw [va_uu, va_up_self]
        rw [show ((many - 1 - c : Nat) : Int) + -1 = (many : Int) - 1 - ((c + 1 : Nat) : Int) by omega]
        refine ih (c + 1) (by omega) _ _ ?_
        rw [hA, va_uu]
        rfl
  refine Eq.mp ?_ (loop many 0 (by omega) none _ rfl)
  rw [show (many : Int) - 1 - ((0 : Nat) : Int) = (many : Int) - 1 by omega]
  rfl
