/-! SERIES -/
def sm (f : Nat → Int) : Nat → Int
  | 0 => 0
  | n + 1 => sm f n + f n
theorem sm_in {f : Nat → Int} {C : Int} : ∀ {n : Nat}, (∀ i, i < n → 0 ≤ f i ∧ f i ≤ C) → 0 ≤ sm f n ∧ sm f n ≤ (n : Int) * C
  | 0, _ => by simp [sm]
  | n + 1, h => by
    have h1 := sm_in (f := f) (C := C) (n := n) (fun i hi => h i (by omega))
    have h2 := h n (by omega)
    simp only [sm]
    have e : ((n + 1 : Nat) : Int) * C = (n : Int) * C + C := by
      rw [show ((n + 1 : Nat) : Int) = (n : Int) + 1 from rfl, Int.add_mul, Int.one_mul]
    omega
theorem sm_congr {f g : Nat → Int} : ∀ {n : Nat}, (∀ i, i < n → f i = g i) → sm f n = sm g n
  | 0, _ => rfl
  | n + 1, h => by simp only [sm]; rw [sm_congr (fun i hi => h i (by omega)), h n (by omega)]
def rok (f : Nat → Int) : Prop := ∀ j, j < 10 → 0 ≤ f j ∧ f j < 10007
def mulS (a b : Nat → Int) (n : Nat) : Int := sm (fun i => a i * b (n - i)) (n + 1) % 10007
theorem mulS_in (a b : Nat → Int) (n : Nat) : 0 ≤ mulS a b n ∧ mulS a b n < 10007 := by unfold mulS; omega
theorem mulS_rok (a b : Nat → Int) : rok (mulS a b) := fun j _ => mulS_in a b j
theorem ei (i : Nat) : (i : Int) + 1 = ((i + 1 : Nat) : Int) := rfl
theorem ed (i : Nat) : ((i + 1 : Nat) : Int) - 1 + -1 = (i : Int) - 1 := by omega
theorem ec (i : Nat) : ((i + 1 : Nat) : Int) - 1 = (i : Int) := by omega
theorem va_uu {α : Type} (A : Nat → α) (k : Nat) (f h : α) : va_up (va_up A k f) k h = va_up A k h := bx_uu A k f h
theorem row_eq {A : Nat → Nat → Int} {k n : Nat} {f h : Nat → Int} (hk : ∀ f, cel k f = (6, vals n f)) (e : ∀ j, j < n → f j = h j) : mA (va_up A k f) = mA (va_up A k h) := by
  rw [← mA_up, ← mA_up, hk, hk, vals_congr e]
theorem row_id {A : Nat → Nat → Int} {k n : Nat} {f : Nat → Int} (hk : ∀ f, cel k f = (6, vals n f)) (e : ∀ j, j < n → f j = A k j) : mA (va_up A k f) = mA A := by
  rw [row_eq hk e]
  congr 1
  funext j
  by_cases h : j = k
  · subst h; rw [va_up_self]
  · rw [va_up_ne _ _ h]
set_option maxRecDepth 100000 in
theorem ok_becomeTimes {o s t : Nat} (ho : SerK o) (hs : SerK s) (ht : SerK t) (A : Nat → Nat → Int) (ra : rok (A (s + 1))) (rb : rok (A (t + 1))) (N : Nat) : OkR mX3_becomeTimes [.ref o, .ref s, .ref t] N (mA A) none (mA (va_up A (o + 1) (mulS (A (s + 1)) (A (t + 1))))) := by
  refine OkM.of [some (.ref o), some (.ref s), some (.ref t), none, none, none] (by decide +kernel) rfl (Nat.le_of_ble_eq_true rfl) ?_
  intro X E F
  refine z_bipush E (by decide) dX3_becomeTimes_0 ?_
  refine z_istore_n (ls' := [_, _, _, _, _, _]) E rfl dX3_becomeTimes_2 (Nat.le_of_ble_eq_true rfl) rfl ?_
  have loop : ∀ (k : Nat), k ≤ 10 → ∀ (l4 l5 : Option Value) (A' : Nat → Nat → Int), A' = va_up A (o + 1) (fun j => if j < k then A (o + 1) j else mulS (A (s + 1)) (A (t + 1)) j) → Zc X 3 [some (.ref o), some (.ref s), some (.ref t), some (.int (iI ((k : Int) - 1))), l4, l5] [] N (mA A') 0 0 := by
    intro k
    induction k with
    | zero =>
      intro _ l4 l5 A' hA
      subst hA
      refine z_iload_n E dX3_becomeTimes_3 rfl ?_
      refine z_if_lt (tgt := 65) E (by omega) dX3_becomeTimes_4 (by decide) (fun h4 => ?_) (fun h4 => ?_)
      · exact z_vret E F dX3_becomeTimes_65 ⟨rfl, rfl⟩
      · omega
    | succ n ih =>
      intro hk l4 l5 A' hA
      have rd : ∀ q i, i < n + 1 → A' (q + 1) i = A (q + 1) i := fun q i hi => by
        rw [hA]
        by_cases e : q = o
        · subst e; rw [va_up_self, if_pos hi]
        · rw [va_up_ne _ _ (by omega)]
      have pr : ∀ i, i < n + 1 → 0 ≤ A (s + 1) i * A (t + 1) (n - i) ∧ A (s + 1) i * A (t + 1) (n - i) ≤ 100120036 := fun i hi => mul_in (ra i (by omega)) (rb (n - i) (by omega))
      refine z_iload_n E dX3_becomeTimes_3 rfl ?_
      refine z_if_lt (tgt := 65) E (by omega) dX3_becomeTimes_4 (by decide) (fun h4 => ?_) (fun h4 => ?_)
      · omega
      · refine z_iconst E dX3_becomeTimes_7 ?_
        refine z_istore (ls' := [_, _, _, _, _, _]) E dX3_becomeTimes_8 (Nat.le_of_ble_eq_true rfl) rfl ?_
        refine z_iconst E dX3_becomeTimes_10 ?_
        refine z_istore (ls' := [_, _, _, _, _, _]) E dX3_becomeTimes_11 (Nat.le_of_ble_eq_true rfl) rfl ?_
        have inner : ∀ (m i : Nat), i + m = n + 1 → Zc X 13 [some (.ref o), some (.ref s), some (.ref t), some (.int (iI (((n + 1 : Nat) : Int) - 1))), some (.int (iI (sm (fun i => A (s + 1) i * A (t + 1) (n - i)) i))), some (.int (iI (i : Int)))] [] N (mA A') 0 0 := by
          intro m
          induction m with
          | zero =>
            intro i hi
            have hi2 : i = n + 1 := by omega
            subst hi2
            have hsm := sm_in (f := fun i => A (s + 1) i * A (t + 1) (n - i)) (n := n + 1) pr
            refine z_iload E dX3_becomeTimes_13 rfl ?_
            refine z_iload_n E dX3_becomeTimes_15 rfl ?_
            refine z_icmp_gt (tgt := 47) E (by omega) (by omega) dX3_becomeTimes_16 (by decide) (fun h16 => ?_) (fun h16 => ?_)
            · refine z_aload_n E dX3_becomeTimes_47 rfl ?_
              refine z_get E dX3_becomeTimes_48 (cel_ser ho _) flX3_9 (by rfl) ?_
              refine z_iload_n E dX3_becomeTimes_51 rfl ?_
              refine z_iload E dX3_becomeTimes_52 rfl ?_
              refine z_sipush E (by decide) dX3_becomeTimes_54 ?_
              refine z_irem E (by omega) (by omega) (by omega) (Int.tmod_eq_emod_of_nonneg (by omega)) dX3_becomeTimes_57 ?_
              refine a_iast (j := n) E dX3_becomeTimes_58 (cel_row ho) (by omega) (by omega) (by omega) ?_
              refine z_iinc (ls' := [_, _, _, _, _, _]) E dX3_becomeTimes_59 rfl rfl ?_
              refine z_goto (tgt := 3) E dX3_becomeTimes_62 (by decide) ?_
              rw [ed]
              refine ih (by omega) _ _ _ ?_
              rw [hA, va_uu, va_up_self]
              congr 1
              funext j
              by_cases e1 : j = n
              · subst e1; rw [up_eq, if_neg (by omega)]; rfl
              · rw [up_ne _ _ e1]
                by_cases e2 : j < n
                · rw [if_pos e2, if_pos (by omega)]
                · rw [if_neg e2, if_neg (by omega)]
            · omega
          | succ m ihm =>
            intro i hi
            refine z_iload E dX3_becomeTimes_13 rfl ?_
            refine z_iload_n E dX3_becomeTimes_15 rfl ?_
            refine z_icmp_gt (tgt := 47) E (by omega) (by omega) dX3_becomeTimes_16 (by decide) (fun h16 => ?_) (fun h16 => ?_)
            · omega
            · refine z_iload E dX3_becomeTimes_19 rfl ?_
              refine z_aload_n E dX3_becomeTimes_21 rfl ?_
              refine z_get E dX3_becomeTimes_22 (cel_ser hs _) flX3_9 (by rfl) ?_
              refine z_iload E dX3_becomeTimes_25 rfl ?_
              refine a_iald (j := i) E dX3_becomeTimes_27 (cel_row hs) (by omega) (by omega) (by omega) ?_
              refine z_aload_n E dX3_becomeTimes_28 rfl ?_
              refine z_get E dX3_becomeTimes_29 (cel_ser ht _) flX3_9 (by rfl) ?_
              refine z_iload_n E dX3_becomeTimes_32 rfl ?_
              refine z_iload E dX3_becomeTimes_33 rfl ?_
              refine z_isub E dX3_becomeTimes_35 ?_
              refine a_iald (j := n - i) E dX3_becomeTimes_36 (cel_row ht) (by omega) (by omega) (by omega) ?_
              refine z_imul E dX3_becomeTimes_37 ?_
              refine z_iadd E dX3_becomeTimes_38 ?_
              refine z_istore (ls' := [_, _, _, _, _, _]) E dX3_becomeTimes_39 (Nat.le_of_ble_eq_true rfl) rfl ?_
              refine z_iinc (ls' := [_, _, _, _, _, _]) E dX3_becomeTimes_41 rfl rfl ?_
              refine z_goto (tgt := 13) E dX3_becomeTimes_44 (by decide) ?_
              rw [rd s i (by omega), rd t (n - i) (by omega), ei]
              exact ihm (i + 1) (by omega)
        exact inner (n + 1) 0 (by omega)
  refine z_mem ?_ (loop 10 (by omega) none none _ rfl)
  exact (row_id (cel_row ho) (fun j hj => by rw [if_pos hj])).symm
