/-! methods that read and write no cell -/
abbrev PP : Int := 10007
theorem iI_nI (n : Nat) : iI (n : Int) = nI n := Int32.ofInt_eq_ofNat
theorem xor_sign {a b : Int} (ha : inR a) (hb : inR b) (h0 : 0 ≤ b) : (iI a ^^^ iI b).toInt < 0 ↔ a < 0 := by
  have e1 : ∀ x : Int32, x.toInt < 0 ↔ x.toBitVec.msb = true := fun x => by
    show x.toBitVec.toInt < 0 ↔ _
    rw [BitVec.msb_eq_toInt]
    simp
  have h2 : (iI b).toBitVec.msb = false := by
    cases h : (iI b).toBitVec.msb with
    | false => rfl
    | true =>
      have := (e1 (iI b)).mpr h
      rw [iI_toInt hb] at this
      omega
  have h3 : (iI a ^^^ iI b).toBitVec.msb = (iI a).toBitVec.msb := by
    rw [Int32.toBitVec_xor, BitVec.msb_xor, h2]
    simp
  rw [e1, h3, ← e1, iI_toInt ha]
theorem tmod_P (x : Int) : (0 ≤ x.tmod 10007 → x.tmod 10007 = x % 10007) ∧ (x.tmod 10007 < 0 → x.tmod 10007 + 10007 = x % 10007) ∧ -10007 < x.tmod 10007 ∧ x.tmod 10007 < 10007 := by
  have h1 := Int.mul_tdiv_add_tmod x 10007
  have h2 := tmod_bounds (a := x) (M := 10007) (by omega)
  generalize x.tdiv 10007 = q at h1
  generalize x.tmod 10007 = t at h1 h2 ⊢
  refine ⟨fun h => by omega, fun h => by omega, h2.1, h2.2⟩
def pw (v : Int) : Nat → Int
  | 0 => 1
  | n + 1 => pw v n * v % 10007
theorem pw_in (v : Int) : ∀ n, 0 ≤ pw v n ∧ pw v n < 10007
  | 0 => by simp [pw]
  | n + 1 => by simp only [pw]; omega
theorem pw_self (v : Int) (n : Nat) : pw v n % 10007 = pw v n := by have := pw_in v n; omega
theorem em_l (a b : Int) : a % 10007 * b % 10007 = a * b % 10007 := by rw [Int.mul_emod, Int.emod_emod_of_dvd _ (Int.dvd_refl _), ← Int.mul_emod]
theorem em_r (a b : Int) : a * (b % 10007) % 10007 = a * b % 10007 := by rw [Int.mul_emod, Int.emod_emod_of_dvd _ (Int.dvd_refl _), ← Int.mul_emod]
theorem pw_add (v : Int) (a : Nat) : ∀ b, pw v a * pw v b % 10007 = pw v (a + b)
  | 0 => by simp only [pw, Int.mul_one, Nat.add_zero]; exact pw_self v a
  | b + 1 => by
    show pw v a * (pw v b * v % 10007) % 10007 = pw v (a + b) * v % 10007
    rw [← pw_add v a b, em_r, em_l, Int.mul_assoc]
theorem mul_in {a b : Int} (ha : 0 ≤ a ∧ a < 10007) (hb : 0 ≤ b ∧ b < 10007) : 0 ≤ a * b ∧ a * b ≤ 100120036 := by
  refine ⟨Int.mul_nonneg ha.1 hb.1, ?_⟩
  have h1 : a * b ≤ 10006 * b := Int.mul_le_mul_of_nonneg_right (by omega) hb.1
  omega
theorem tmod_s (x : Int) : (0 ≤ x → 0 ≤ x.tmod 10007) ∧ (x < 0 → x.tmod 10007 ≤ 0) := by
  refine ⟨fun h => Int.tmod_nonneg _ h, fun h => ?_⟩
  have h1 := Int.tmod_nonneg (a := -x) 10007 (by omega)
  rw [Int.neg_tmod] at h1
  omega
set_option maxRecDepth 100000 in
theorem ok_floorMod (x : Int) (hx : inR x) (N : Nat) (g : Mem) : OkR mJ9_floorMod_7cf53 [.int (iI x), .int (iI 10007)] N g (some (.int (iI (x % 10007)))) g := by
  obtain ⟨t1, t2, t3, t4⟩ := tmod_P x
  obtain ⟨s1, s2⟩ := tmod_s x
  have hs := xor_sign (a := x) (b := 10007) hx ⟨by omega, by omega⟩ (by omega)
  refine OkM.of [some (.int (iI x)), some (.int (iI 10007)), none] (by decide +kernel) rfl (Nat.le_of_ble_eq_true rfl) ?_
  intro X E F
  refine z_iload_n E dJ9_floorMod_7cf53_0 rfl ?_
  refine z_iload_n E dJ9_floorMod_7cf53_1 rfl ?_
  refine z_irem E (by omega) (by omega) (by omega) rfl dJ9_floorMod_7cf53_2 ?_
  refine z_istore_n (ls' := [_, _, _]) E rfl dJ9_floorMod_7cf53_3 (Nat.le_of_ble_eq_true rfl) rfl ?_
  refine z_iload_n E dJ9_floorMod_7cf53_4 rfl ?_
  refine z_iload_n E dJ9_floorMod_7cf53_5 rfl ?_
  refine z_ixor E (iI_self _).symm dJ9_floorMod_7cf53_6 ?_
  refine z_if_ge (tgt := 18) E (inR_toInt _) dJ9_floorMod_7cf53_7 (by decide) (fun h7 => ?_) (fun h7 => ?_)
  · refine z_iload_n E dJ9_floorMod_7cf53_18 rfl ?_
    rw [t1 (by omega)]
    exact z_iret E F dJ9_floorMod_7cf53_19 ⟨rfl, rfl⟩
  · refine z_iload_n E dJ9_floorMod_7cf53_10 rfl ?_
    refine z_if_eq (tgt := 18) E (by omega) dJ9_floorMod_7cf53_11 (by decide) (fun h11 => ?_) (fun h11 => ?_)
    · refine z_iload_n E dJ9_floorMod_7cf53_18 rfl ?_
      rw [t1 (by omega)]
      exact z_iret E F dJ9_floorMod_7cf53_19 ⟨rfl, rfl⟩
    · refine z_iload_n E dJ9_floorMod_7cf53_14 rfl ?_
      refine z_iload_n E dJ9_floorMod_7cf53_15 rfl ?_
      refine z_iadd E dJ9_floorMod_7cf53_16 ?_
      rw [t2 (by omega)]
      exact z_iret E F dJ9_floorMod_7cf53_17 ⟨rfl, rfl⟩
theorem ok_of (x : Int) (hx : inR x) (N : Nat) (g : Mem) : OkR mX2_of [.int (iI x)] N g (some (.int (iI (x % 10007)))) g := by
  refine OkM.of [some (.int (iI x))] (by decide +kernel) rfl (Nat.le_of_ble_eq_true rfl) ?_
  intro X E F
  refine z_iload_n E dX2_of_0 rfl ?_
  refine z_sipush E (by decide) dX2_of_1 ?_
  refine c_S E dX2_of_4 lkX2_9 (ok_floorMod x hx N g) rfl rfl rfl (Nat.le_of_ble_eq_true rfl) ⟨(Nat.le_of_ble_eq_true rfl), (Nat.le_of_ble_eq_true rfl)⟩ ⟨rfl, rfl⟩ ⟨Nat.zero_le _, Nat.zero_le _⟩ ?_
  exact z_iret E F dX2_of_7 ⟨rfl, rfl⟩
theorem shr_bit (b : Nat) (hb : b < 14) : iI 10005 >>> (iI (b : Int) &&& 31) = iI ((10005 / 2 ^ b : Nat) : Int) := by
  rcases (show b = 0 ∨ b = 1 ∨ b = 2 ∨ b = 3 ∨ b = 4 ∨ b = 5 ∨ b = 6 ∨ b = 7 ∨ b = 8 ∨ b = 9 ∨ b = 10 ∨ b = 11 ∨ b = 12 ∨ b = 13 by omega) with rfl | rfl | rfl | rfl | rfl | rfl | rfl | rfl | rfl | rfl | rfl | rfl | rfl | rfl <;> decide
theorem and_1 (n : Nat) (h : n < 2147483648) : iI (n : Int) &&& iI 1 = iI ((n % 2 : Nat) : Int) := by
  rw [iI_nI, iI_nI]
  exact pk_andN (n := n) (by omega) (m := iI 1) 1 (by decide)
set_option maxRecDepth 100000 in
theorem ok_inverse (v : Int) (hv : 0 ≤ v ∧ v < 10007) (N : Nat) (g : Mem) : OkR mX2_inverse [.int (iI v)] N g (some (.int (iI (pw v 10005)))) g := by
  refine OkM.of [some (.int (iI v)), none, none] (by decide +kernel) rfl (Nat.le_of_ble_eq_true rfl) ?_
  intro X E F
  refine z_iconst E dX2_inverse_0 ?_
  refine z_istore_n (ls' := [_, _, _]) E rfl dX2_inverse_1 (Nat.le_of_ble_eq_true rfl) rfl ?_
  refine z_bipush E (by decide) dX2_inverse_2 ?_
  refine z_istore_n (ls' := [_, _, _]) E rfl dX2_inverse_4 (Nat.le_of_ble_eq_true rfl) rfl ?_
  have loop : ∀ b : Nat, b ≤ 14 → Zc X 5 [some (.int (iI v)), some (.int (iI (pw v (10005 / 2 ^ b)))), some (.int (iI ((b : Int) - 1)))] [] N g 0 0 := by
    intro b
    induction b with
    | zero =>
      intro _
      refine z_iload_n E dX2_inverse_5 rfl ?_
      refine z_if_lt (tgt := 41) E (by omega) dX2_inverse_6 (by decide) (fun h6 => ?_) (fun h6 => ?_)
      · refine z_iload_n E dX2_inverse_41 rfl ?_
        exact z_iret E F dX2_inverse_42 ⟨rfl, rfl⟩
      · omega
    | succ b ih =>
      intro hb
      have i1 := pw_in v (10005 / 2 ^ (b + 1))
      have i2 := mul_in i1 i1
      have e1 := pw_add v (10005 / 2 ^ (b + 1)) (10005 / 2 ^ (b + 1))
      generalize he : 10005 / 2 ^ (b + 1) = e at *
      have hq : 10005 / 2 ^ b = 2 * e + 10005 / 2 ^ b % 2 := by
        rw [← he, Nat.pow_succ, ← Nat.div_div_eq_div_mul]; omega
      have hle : 10005 / 2 ^ b ≤ 10005 := Nat.div_le_self _ _
      have i3 := pw_in v (e + e)
      have i4 := mul_in i3 hv
      have iv := ih (by omega)
      refine z_iload_n E dX2_inverse_5 rfl ?_
      refine z_if_lt (tgt := 41) E (by omega) dX2_inverse_6 (by decide) (fun h6 => ?_) (fun h6 => ?_)
      · omega
      · refine z_iload_n E dX2_inverse_9 rfl ?_
        refine z_iload_n E dX2_inverse_10 rfl ?_
        refine z_imul E dX2_inverse_11 ?_
        refine z_sipush E (by decide) dX2_inverse_12 ?_
        refine z_irem E (by omega) (by omega) (by omega) (Int.tmod_eq_emod_of_nonneg (by omega)) dX2_inverse_15 ?_
        refine z_istore_n (ls' := [_, _, _]) E rfl dX2_inverse_16 (Nat.le_of_ble_eq_true rfl) rfl ?_
        refine z_sipush E (by decide) dX2_inverse_17 ?_
        refine z_iload_n E dX2_inverse_20 rfl ?_
        refine z_ishr E (by rw [show ((b + 1 : Nat) : Int) - 1 = (b : Int) by omega]; exact shr_bit b (by omega)) dX2_inverse_21 ?_
        refine z_iconst E dX2_inverse_22 ?_
        refine z_iand E (and_1 _ (by omega)) dX2_inverse_23 ?_
        refine z_if_eq (tgt := 35) E (by omega) dX2_inverse_24 (by decide) (fun h24 => ?_) (fun h24 => ?_)
        · rw [hq, show 2 * e + 10005 / 2 ^ b % 2 = e + e by omega] at iv
          refine z_iinc (ls' := [_, _, _]) E dX2_inverse_35 rfl rfl ?_
          refine z_goto (tgt := 5) E dX2_inverse_38 (by decide) ?_
          rw [e1]
          refine (show (_ : Prop) from ?_)
          have ez : ((b + 1 : Nat) : Int) - 1 + -1 = (b : Int) - 1 := by omega
          rw [ez]
          exact iv
        · have hone : 10005 / 2 ^ b % 2 = 1 := by omega
          rw [hq, hone] at iv
          rw [e1]
          refine z_iload_n E dX2_inverse_27 rfl ?_
          refine z_iload_n E dX2_inverse_28 rfl ?_
          refine z_imul E dX2_inverse_29 ?_
          refine z_sipush E (by decide) dX2_inverse_30 ?_
          refine z_irem E (by omega) (by omega) (by omega) (Int.tmod_eq_emod_of_nonneg (by omega)) dX2_inverse_33 ?_
          refine z_istore_n (ls' := [_, _, _]) E rfl dX2_inverse_34 (Nat.le_of_ble_eq_true rfl) rfl ?_
          refine z_iinc (ls' := [_, _, _]) E dX2_inverse_35 rfl rfl ?_
          refine z_goto (tgt := 5) E dX2_inverse_38 (by decide) ?_
          have ez : ((b + 1 : Nat) : Int) - 1 + -1 = (b : Int) - 1 := by omega
          rw [ez]
          rw [show 2 * e + 1 = (e + e) + 1 by omega] at iv
          exact iv
  exact loop 14 (by omega)
set_option maxRecDepth 100000 in
theorem ok_mod (z : Int) (hz : inL z) (hz2 : z < 9223372036854765800) (N : Nat) (g : Mem) : OkR mX6_mod [.long (lI z)] N g (some (.int (iI (z % 10007)))) g := by
  obtain ⟨t1, t2, t3, t4⟩ := tmod_P z
  refine OkM.of [some (.long (lI z)), none, none, none] (by decide +kernel) rfl (Nat.le_of_ble_eq_true rfl) ?_
  intro X E F
  refine z_lload_n E dX6_mod_0 rfl ?_
  refine z_ldc2 (z := 10007) E ctX6_56 (by decide) dX6_mod_1 ?_
  refine z_lrem E (by omega) (by omega) (by omega) rfl dX6_mod_4 ?_
  refine z_lstore_n (ls' := [_, _, _, _]) E rfl dX6_mod_5 (Nat.le_of_ble_eq_true rfl) rfl ?_
  refine z_lload_n E dX6_mod_6 rfl ?_
  refine z_lconst (z := 0) E rfl dX6_mod_7 ?_
  refine z_lcmp E (by omega) (by omega) dX6_mod_8 (fun z8 rz8 lt8 gt8 => ?_)
  refine z_if_ge (tgt := 20) E (by omega) dX6_mod_9 (by decide) (fun h9 => ?_) (fun h9 => ?_)
  · refine z_lload_n E dX6_mod_20 rfl ?_
    refine z_l2i E dX6_mod_21 ?_
    rw [t1 (by omega)]
    exact z_iret E F dX6_mod_22 ⟨rfl, rfl⟩
  · refine z_lload_n E dX6_mod_12 rfl ?_
    refine z_ldc2 (z := 10007) E ctX6_56 (by decide) dX6_mod_13 ?_
    refine z_ladd E dX6_mod_16 ?_
    refine z_goto (tgt := 21) E dX6_mod_17 (by decide) ?_
    refine z_l2i E dX6_mod_21 ?_
    rw [t2 (by omega)]
    exact z_iret E F dX6_mod_22 ⟨rfl, rfl⟩
theorem ok_in (v a b : Int) (hv : inR v) (ha : inR a) (hb : inR b) (N : Nat) (g : Mem) : OkR mX6_in [.int (iI v), .int (iI a), .int (iI b)] N g (some (.int (iI (if a ≤ v ∧ v ≤ b then 1 else 0)))) g := by
  refine OkM.of [some (.int (iI v)), some (.int (iI a)), some (.int (iI b))] (by decide +kernel) rfl (Nat.le_of_ble_eq_true rfl) ?_
  intro X E F
  refine z_iload_n E dX6_in_0 rfl ?_
  refine z_iload_n E dX6_in_1 rfl ?_
  refine z_icmp_lt (tgt := 14) E (by omega) (by omega) dX6_in_2 (by decide) (fun h2 => ?_) (fun h2 => ?_)
  · refine z_iconst E dX6_in_14 ?_
    exact z_zret E F (by first | exact Or.inl rfl | exact Or.inr rfl) dX6_in_15 ⟨by rw [if_neg (by omega)], rfl⟩
  · refine z_iload_n E dX6_in_5 rfl ?_
    refine z_iload_n E dX6_in_6 rfl ?_
    refine z_icmp_gt (tgt := 14) E (by omega) (by omega) dX6_in_7 (by decide) (fun h7 => ?_) (fun h7 => ?_)
    · refine z_iconst E dX6_in_14 ?_
      exact z_zret E F (by first | exact Or.inl rfl | exact Or.inr rfl) dX6_in_15 ⟨by rw [if_neg (by omega)], rfl⟩
    · refine z_iconst E dX6_in_10 ?_
      refine z_goto (tgt := 15) E dX6_in_11 (by decide) ?_
      exact z_zret E F (by first | exact Or.inl rfl | exact Or.inr rfl) dX6_in_15 ⟨by rw [if_pos (by omega)], rfl⟩
