/-! more of SERIES -/
set_option maxRecDepth 100000 in
theorem ok_fill (a n : Nat) (h : Nat → Int) (v : Int) (N : Nat) (g : Mem) (hg : g a = (6, vals n h)) (hn : n < 1000) : OkR mJ7_fill_53178 [.ref a, .int (iI v)] N g none (va_up g a (6, vals n (fun _ => v))) := by
  refine OkM.of [some (.ref a), some (.int (iI v)), none, none] (by decide +kernel) rfl (Nat.le_of_ble_eq_true rfl) ?_
  intro X E F
  refine z_iconst E dJ7_fill_53178_0 ?_
  refine z_istore_n (ls' := [_, _, _, _]) E rfl dJ7_fill_53178_1 (Nat.le_of_ble_eq_true rfl) rfl ?_
  refine z_aload_n E dJ7_fill_53178_2 rfl ?_
  refine z_alen E dJ7_fill_53178_3 (by omega) hg ?_
  refine z_istore_n (ls' := [_, _, _, _]) E rfl dJ7_fill_53178_4 (Nat.le_of_ble_eq_true rfl) rfl ?_
  rw [vals_len]
  have loop : ∀ (m i : Nat), i + m = n → ∀ g' : Mem, g' = va_up g a (6, vals n (fun j => if j < i then v else h j)) → Zc X 5 [some (.ref a), some (.int (iI v)), some (.int (iI (i : Int))), some (.int (iI (n : Int)))] [] N g' 0 0 := by
    intro m
    induction m with
    | zero =>
      intro i hi g' hg'
      refine z_iload_n E dJ7_fill_53178_5 rfl ?_
      refine z_iload_n E dJ7_fill_53178_6 rfl ?_
      refine z_icmp_ge (tgt := 20) E (by omega) (by omega) dJ7_fill_53178_7 (by decide) (fun h7 => ?_) (fun h7 => ?_)
      · refine z_vret E F dJ7_fill_53178_20 ⟨rfl, ?_⟩
        rw [hg', vals_congr (fun j hj => if_pos (by omega))]
      · omega
    | succ m ih =>
      intro i hi g' hg'
      refine z_iload_n E dJ7_fill_53178_5 rfl ?_
      refine z_iload_n E dJ7_fill_53178_6 rfl ?_
      refine z_icmp_ge (tgt := 20) E (by omega) (by omega) dJ7_fill_53178_7 (by decide) (fun h7 => ?_) (fun h7 => ?_)
      · omega
      · refine z_aload_n E dJ7_fill_53178_10 rfl ?_
        refine z_iload_n E dJ7_fill_53178_11 rfl ?_
        refine z_iload_n E dJ7_fill_53178_12 rfl ?_
        refine z_iast (j := i) (vs := vals n (fun j => if j < i then v else h j)) E dJ7_fill_53178_13 (by rw [hg']; exact mem_at) (by omega) (by omega) (by rw [vals_len]; omega) ?_
        refine z_iinc (ls' := [_, _, _, _]) E dJ7_fill_53178_14 rfl rfl ?_
        refine z_goto (tgt := 5) E dJ7_fill_53178_17 (by decide) ?_
        rw [ei]
        refine ih (i + 1) (by omega) _ ?_
        rw [hg', vals_set, mem_uu]
        congr 2
        apply vals_congr
        intro j hj
        by_cases e : j = i
        · subst e; rw [up_eq, if_pos (by omega)]
        · rw [up_ne _ _ e]
          by_cases e2 : j < i
          · rw [if_pos e2, if_pos (by omega)]
          · rw [if_neg e2, if_neg (by omega)]
  refine loop n 0 (by omega) _ ?_
  funext k
  by_cases e : k = a
  · subst e; rw [va_up_self, hg, vals_congr (fun j hj => if_neg (by omega))]
  · rw [va_up_ne _ _ e]
def conS (a : Int) : Nat → Int := up (fun _ => 0) 0 a
theorem ok_becomeConstantG (o c : Nat) (h : Nat → Int) (v : Int) (N : Nat) (g : Mem) (ho : g o = (2, [.ref c])) (hc : g c = (6, vals 10 h)) (hne : o ≠ c) : OkR mX3_becomeConstant [.ref o, .int (iI v)] N g none (va_up g c (6, vals 10 (conS v))) := by
  refine OkM.of [some (.ref o), some (.int (iI v))] (by decide +kernel) rfl (Nat.le_of_ble_eq_true rfl) ?_
  intro X E F
  refine z_aload_n E dX3_becomeConstant_0 rfl ?_
  refine z_get E dX3_becomeConstant_1 ho flX3_9 (by rfl) ?_
  refine z_iconst E dX3_becomeConstant_4 ?_
  refine c_S0 E dX3_becomeConstant_5 lkX3_15 (ok_fill c 10 h 0 N g hc (by omega)) rfl rfl rfl (Nat.le_of_ble_eq_true rfl) ⟨(Nat.le_of_ble_eq_true rfl), (Nat.le_of_ble_eq_true rfl)⟩ ⟨rfl, rfl⟩ ⟨Nat.zero_le _, Nat.zero_le _⟩ ?_
  refine z_aload_n E dX3_becomeConstant_8 rfl ?_
  refine z_get E dX3_becomeConstant_9 (mem_ne hne ho) flX3_9 (by rfl) ?_
  refine z_iconst E dX3_becomeConstant_12 ?_
  refine z_iload_n E dX3_becomeConstant_13 rfl ?_
  refine z_iast (j := 0) (vs := vals 10 (fun _ => 0)) E dX3_becomeConstant_14 mem_at rfl (by omega) (by rw [vals_len]; omega) ?_
  rw [mem_uu, vals_set]
  exact z_vret E F dX3_becomeConstant_15 ⟨rfl, rfl⟩
theorem ok_becomeConstant {o : Nat} (ho : SerK o) (A : Nat → Nat → Int) (v : Int) (N : Nat) : OkR mX3_becomeConstant [.ref o, .int (iI v)] N (mA A) none (mA (va_up A (o + 1) (conS v))) := by
  rw [← mA_up, cel_row ho]
  exact ok_becomeConstantG o (o + 1) (A (o + 1)) v N (mA A) (cel_ser ho _) (cel_row ho _) (by omega)
theorem ok_canDivide {o : Nat} (ho : SerK o) (A : Nat → Nat → Int) (ra : rok (A (o + 1))) (N : Nat) : OkR mX3_canDivide [.ref o] N (mA A) (some (.int (iI (if A (o + 1) 0 ≠ 0 then 1 else 0)))) (mA A) := by
  have r0 := ra 0 (by omega)
  refine OkM.of [some (.ref o)] (by decide +kernel) rfl (Nat.le_of_ble_eq_true rfl) ?_
  intro X E F
  refine z_aload_n E dX3_canDivide_0 rfl ?_
  refine z_get E dX3_canDivide_1 (cel_ser ho _) flX3_9 (by rfl) ?_
  refine z_iconst E dX3_canDivide_4 ?_
  refine a_iald (j := 0) E dX3_canDivide_5 (cel_row ho) (by omega) (by omega) (by omega) ?_
  refine z_if_eq (tgt := 13) E (by omega) dX3_canDivide_6 (by decide) (fun h6 => ?_) (fun h6 => ?_)
  · refine z_iconst E dX3_canDivide_13 ?_
    exact z_zret E F (by first | exact Or.inl rfl | exact Or.inr rfl) dX3_canDivide_14 ⟨by rw [if_neg (by omega)], rfl⟩
  · refine z_iconst E dX3_canDivide_9 ?_
    refine z_goto (tgt := 14) E dX3_canDivide_10 (by decide) ?_
    exact z_zret E F (by first | exact Or.inl rfl | exact Or.inr rfl) dX3_canDivide_14 ⟨by rw [if_pos h6], rfl⟩
theorem ok_canBePutIn {o : Nat} (ho : SerK o) (A : Nat → Nat → Int) (ra : rok (A (o + 1))) (N : Nat) : OkR mX3_canBePutIn [.ref o] N (mA A) (some (.int (iI (if A (o + 1) 0 = 0 then 1 else 0)))) (mA A) := by
  have r0 := ra 0 (by omega)
  refine OkM.of [some (.ref o)] (by decide +kernel) rfl (Nat.le_of_ble_eq_true rfl) ?_
  intro X E F
  refine z_aload_n E dX3_canBePutIn_0 rfl ?_
  refine z_get E dX3_canBePutIn_1 (cel_ser ho _) flX3_9 (by rfl) ?_
  refine z_iconst E dX3_canBePutIn_4 ?_
  refine a_iald (j := 0) E dX3_canBePutIn_5 (cel_row ho) (by omega) (by omega) (by omega) ?_
  refine z_if_ne (tgt := 13) E (by omega) dX3_canBePutIn_6 (by decide) (fun h6 => ?_) (fun h6 => ?_)
  · refine z_iconst E dX3_canBePutIn_13 ?_
    exact z_zret E F (by first | exact Or.inl rfl | exact Or.inr rfl) dX3_canBePutIn_14 ⟨by rw [if_neg h6], rfl⟩
  · refine z_iconst E dX3_canBePutIn_9 ?_
    refine z_goto (tgt := 14) E dX3_canBePutIn_10 (by decide) ?_
    exact z_zret E F (by first | exact Or.inl rfl | exact Or.inr rfl) dX3_canBePutIn_14 ⟨by rw [if_pos h6], rfl⟩
theorem ok_canTurn {o : Nat} (ho : SerK o) (A : Nat → Nat → Int) (ra : rok (A (o + 1))) (N : Nat) : OkR mX3_canTurn [.ref o] N (mA A) (some (.int (iI (if A (o + 1) 0 = 0 ∧ A (o + 1) 1 ≠ 0 then 1 else 0)))) (mA A) := by
  have r0 := ra 0 (by omega)
  have r1 := ra 1 (by omega)
  refine OkM.of [some (.ref o)] (by decide +kernel) rfl (Nat.le_of_ble_eq_true rfl) ?_
  intro X E F
  refine z_aload_n E dX3_canTurn_0 rfl ?_
  refine z_get E dX3_canTurn_1 (cel_ser ho _) flX3_9 (by rfl) ?_
  refine z_iconst E dX3_canTurn_4 ?_
  refine a_iald (j := 0) E dX3_canTurn_5 (cel_row ho) (by omega) (by omega) (by omega) ?_
  refine z_if_ne (tgt := 22) E (by omega) dX3_canTurn_6 (by decide) (fun h6 => ?_) (fun h6 => ?_)
  · refine z_iconst E dX3_canTurn_22 ?_
    exact z_zret E F (by first | exact Or.inl rfl | exact Or.inr rfl) dX3_canTurn_23 ⟨by rw [if_neg (fun h => h6 h.1)], rfl⟩
  · refine z_aload_n E dX3_canTurn_9 rfl ?_
    refine z_get E dX3_canTurn_10 (cel_ser ho _) flX3_9 (by rfl) ?_
    refine z_iconst E dX3_canTurn_13 ?_
    refine a_iald (j := 1) E dX3_canTurn_14 (cel_row ho) (by omega) (by omega) (by omega) ?_
    refine z_if_eq (tgt := 22) E (by omega) dX3_canTurn_15 (by decide) (fun h15 => ?_) (fun h15 => ?_)
    · refine z_iconst E dX3_canTurn_22 ?_
      exact z_zret E F (by first | exact Or.inl rfl | exact Or.inr rfl) dX3_canTurn_23 ⟨by rw [if_neg (fun h => h.2 h15)], rfl⟩
    · refine z_iconst E dX3_canTurn_18 ?_
      refine z_goto (tgt := 23) E dX3_canTurn_19 (by decide) ?_
      exact z_zret E F (by first | exact Or.inl rfl | exact Or.inr rfl) dX3_canTurn_23 ⟨by rw [if_pos ⟨h6, h15⟩], rfl⟩
theorem ok_becomeCopyOf {o s : Nat} (ho : SerK o) (hs : SerK s) (A : Nat → Nat → Int) (N : Nat) : OkR mX3_becomeCopyOf [.ref o, .ref s] N (mA A) none (mA (va_up A (o + 1) (A (s + 1)))) := by
  refine OkM.of [some (.ref o), some (.ref s)] (by decide +kernel) rfl (Nat.le_of_ble_eq_true rfl) ?_
  intro X E F
  refine z_aload_n E dX3_becomeCopyOf_0 rfl ?_
  refine z_get E dX3_becomeCopyOf_1 (cel_ser hs _) flX3_9 (by rfl) ?_
  refine z_iconst E dX3_becomeCopyOf_4 ?_
  refine z_aload_n E dX3_becomeCopyOf_5 rfl ?_
  refine z_get E dX3_becomeCopyOf_6 (cel_ser ho _) flX3_9 (by rfl) ?_
  refine z_iconst E dX3_becomeCopyOf_9 ?_
  refine z_bipush E (by decide) dX3_becomeCopyOf_10 ?_
  refine z_copy (sp := 0) (dp := 0) (n := 10) E dX3_becomeCopyOf_12 lkX3_21 (cel_row hs _) (cel_row ho _) rfl rfl rfl (by omega) (by omega) (by omega) rfl (Nat.le_of_ble_eq_true rfl) (Nat.le_of_ble_eq_true rfl) ?_
  rw [← cel_row ho, mA_up]
  refine z_mem (row_eq (h := A (s + 1)) (cel_row ho) (fun j hj => ?_)) ?_
  · unfold cpy; rw [if_pos ⟨by omega, by omega⟩]; simp
  exact z_vret E F dX3_becomeCopyOf_15 ⟨rfl, rfl⟩
def shd (s : Nat → Int) : Nat → Int := fun j => if j < 9 then s (j + 1) else 0
def shu (s : Nat → Int) : Nat → Int := fun j => if j = 0 then 0 else s (j - 1)
theorem ok_becomeShiftedDown {o s : Nat} (ho : SerK o) (hs : SerK s) (A : Nat → Nat → Int) (N : Nat) : OkR mX3_becomeShiftedDown [.ref o, .ref s] N (mA A) none (mA (va_up A (o + 1) (shd (A (s + 1))))) := by
  refine OkM.of [some (.ref o), some (.ref s)] (by decide +kernel) rfl (Nat.le_of_ble_eq_true rfl) ?_
  intro X E F
  refine z_aload_n E dX3_becomeShiftedDown_0 rfl ?_
  refine z_get E dX3_becomeShiftedDown_1 (cel_ser hs _) flX3_9 (by rfl) ?_
  refine z_iconst E dX3_becomeShiftedDown_4 ?_
  refine z_aload_n E dX3_becomeShiftedDown_5 rfl ?_
  refine z_get E dX3_becomeShiftedDown_6 (cel_ser ho _) flX3_9 (by rfl) ?_
  refine z_iconst E dX3_becomeShiftedDown_9 ?_
  refine z_bipush E (by decide) dX3_becomeShiftedDown_10 ?_
  refine z_copy (sp := 1) (dp := 0) (n := 9) E dX3_becomeShiftedDown_12 lkX3_21 (cel_row hs _) (cel_row ho _) rfl rfl rfl (by omega) (by omega) (by omega) rfl (Nat.le_of_ble_eq_true rfl) (Nat.le_of_ble_eq_true rfl) ?_
  rw [← cel_row ho, mA_up]
  refine z_aload_n E dX3_becomeShiftedDown_15 rfl ?_
  refine z_get E dX3_becomeShiftedDown_16 (cel_ser ho _) flX3_9 (by rfl) ?_
  refine z_bipush E (by decide) dX3_becomeShiftedDown_19 ?_
  refine z_iconst E dX3_becomeShiftedDown_21 ?_
  refine a_iast (j := 9) E dX3_becomeShiftedDown_22 (cel_row ho) (by omega) (by omega) (by omega) ?_
  rw [va_uu, va_up_self]
  refine z_mem (row_eq (h := shd (A (s + 1))) (cel_row ho) (fun j hj => ?_)) ?_
  · unfold shd
    by_cases e : j = 9
    · subst e; rw [up_eq, if_neg (by omega)]
    · rw [up_ne _ _ e, if_pos (by omega)]
      unfold cpy
      rw [if_pos ⟨by omega, by omega⟩, show 1 + (j - 0) = j + 1 by omega]
  exact z_vret E F dX3_becomeShiftedDown_23 ⟨rfl, rfl⟩
theorem ok_becomeShiftedUp {o s : Nat} (ho : SerK o) (hs : SerK s) (A : Nat → Nat → Int) (N : Nat) : OkR mX3_becomeShiftedUp [.ref o, .ref s] N (mA A) none (mA (va_up A (o + 1) (shu (A (s + 1))))) := by
  refine OkM.of [some (.ref o), some (.ref s)] (by decide +kernel) rfl (Nat.le_of_ble_eq_true rfl) ?_
  intro X E F
  refine z_aload_n E dX3_becomeShiftedUp_0 rfl ?_
  refine z_get E dX3_becomeShiftedUp_1 (cel_ser hs _) flX3_9 (by rfl) ?_
  refine z_iconst E dX3_becomeShiftedUp_4 ?_
  refine z_aload_n E dX3_becomeShiftedUp_5 rfl ?_
  refine z_get E dX3_becomeShiftedUp_6 (cel_ser ho _) flX3_9 (by rfl) ?_
  refine z_iconst E dX3_becomeShiftedUp_9 ?_
  refine z_bipush E (by decide) dX3_becomeShiftedUp_10 ?_
  refine z_copy (sp := 0) (dp := 1) (n := 9) E dX3_becomeShiftedUp_12 lkX3_21 (cel_row hs _) (cel_row ho _) rfl rfl rfl (by omega) (by omega) (by omega) rfl (Nat.le_of_ble_eq_true rfl) (Nat.le_of_ble_eq_true rfl) ?_
  rw [← cel_row ho, mA_up]
  refine z_aload_n E dX3_becomeShiftedUp_15 rfl ?_
  refine z_get E dX3_becomeShiftedUp_16 (cel_ser ho _) flX3_9 (by rfl) ?_
  refine z_iconst E dX3_becomeShiftedUp_19 ?_
  refine z_iconst E dX3_becomeShiftedUp_20 ?_
  refine a_iast (j := 0) E dX3_becomeShiftedUp_21 (cel_row ho) (by omega) (by omega) (by omega) ?_
  rw [va_uu, va_up_self]
  refine z_mem (row_eq (h := shu (A (s + 1))) (cel_row ho) (fun j hj => ?_)) ?_
  · unfold shu
    by_cases e : j = 0
    · subst e; rw [up_eq, if_pos rfl]
    · rw [up_ne _ _ e, if_neg e]
      unfold cpy
      rw [if_pos ⟨by omega, by omega⟩, show 0 + (j - 1) = j - 1 by omega]
  exact z_vret E F dX3_becomeShiftedUp_22 ⟨rfl, rfl⟩
def addS (a b : Nat → Int) (j : Nat) : Int := (a j + b j) % 10007
def subS (a b : Nat → Int) (j : Nat) : Int := (a j - b j) % 10007
set_option maxRecDepth 100000 in
theorem ok_becomeTotal {o s t : Nat} (ho : SerK o) (hs : SerK s) (ht : SerK t) (A : Nat → Nat → Int) (ra : rok (A (s + 1))) (rb : rok (A (t + 1))) (N : Nat) : OkR mX3_becomeTotal [.ref o, .ref s, .ref t] N (mA A) none (mA (va_up A (o + 1) (addS (A (s + 1)) (A (t + 1))))) := by
  refine OkM.of [some (.ref o), some (.ref s), some (.ref t), none] (by decide +kernel) rfl (Nat.le_of_ble_eq_true rfl) ?_
  intro X E F
  refine z_iconst E dX3_becomeTotal_0 ?_
  refine z_istore_n (ls' := [_, _, _, _]) E rfl dX3_becomeTotal_1 (Nat.le_of_ble_eq_true rfl) rfl ?_
  have loop : ∀ (m i : Nat), i + m = 10 → ∀ (A' : Nat → Nat → Int), A' = va_up A (o + 1) (fun j => if j < i then addS (A (s + 1)) (A (t + 1)) j else A (o + 1) j) → Zc X 2 [some (.ref o), some (.ref s), some (.ref t), some (.int (iI (i : Int)))] [] N (mA A') 0 0 := by
    intro m
    induction m with
    | zero =>
      intro i hi A' hA
      refine z_iload_n E dX3_becomeTotal_2 rfl ?_
      refine z_bipush E (by decide) dX3_becomeTotal_3 ?_
      refine z_icmp_ge (tgt := 37) E (by omega) (by omega) dX3_becomeTotal_5 (by decide) (fun h5 => ?_) (fun h5 => ?_)
      · refine z_vret E F dX3_becomeTotal_37 ⟨rfl, ?_⟩
        rw [hA]
        exact row_eq (cel_row ho) (fun j hj => if_pos (by omega))
      · omega
    | succ m ih =>
      intro i hi A' hA
      have rd : ∀ q, A' (q + 1) i = A (q + 1) i := fun q => by
        rw [hA]
        by_cases e : q = o
        · subst e; rw [va_up_self, if_neg (by omega)]
        · rw [va_up_ne _ _ (by omega)]
      have r1 := ra i (by omega)
      have r2 := rb i (by omega)
      have r3 := rd s
      have r4 := rd t
      refine z_iload_n E dX3_becomeTotal_2 rfl ?_
      refine z_bipush E (by decide) dX3_becomeTotal_3 ?_
      refine z_icmp_ge (tgt := 37) E (by omega) (by omega) dX3_becomeTotal_5 (by decide) (fun h5 => ?_) (fun h5 => ?_)
      · omega
      · refine z_aload_n E dX3_becomeTotal_8 rfl ?_
        refine z_get E dX3_becomeTotal_9 (cel_ser ho _) flX3_9 (by rfl) ?_
        refine z_iload_n E dX3_becomeTotal_12 rfl ?_
        refine z_aload_n E dX3_becomeTotal_13 rfl ?_
        refine z_get E dX3_becomeTotal_14 (cel_ser hs _) flX3_9 (by rfl) ?_
        refine z_iload_n E dX3_becomeTotal_17 rfl ?_
        refine a_iald (j := i) E dX3_becomeTotal_18 (cel_row hs) (by omega) (by omega) (by omega) ?_
        refine z_aload_n E dX3_becomeTotal_19 rfl ?_
        refine z_get E dX3_becomeTotal_20 (cel_ser ht _) flX3_9 (by rfl) ?_
        refine z_iload_n E dX3_becomeTotal_23 rfl ?_
        refine a_iald (j := i) E dX3_becomeTotal_24 (cel_row ht) (by omega) (by omega) (by omega) ?_
        refine z_iadd E dX3_becomeTotal_25 ?_
        refine z_sipush E (by decide) dX3_becomeTotal_26 ?_
        refine z_irem E (by omega) (by omega) (by omega) (Int.tmod_eq_emod_of_nonneg (by omega)) dX3_becomeTotal_29 ?_
        refine a_iast (j := i) E dX3_becomeTotal_30 (cel_row ho) (by omega) (by omega) (by omega) ?_
        refine z_iinc (ls' := [_, _, _, _]) E dX3_becomeTotal_31 rfl rfl ?_
        refine z_goto (tgt := 2) E dX3_becomeTotal_34 (by decide) ?_
        rw [rd s, rd t, ei]
        refine ih (i + 1) (by omega) _ ?_
        rw [hA, va_uu, va_up_self]
        congr 1
        funext j
        by_cases e1 : j = i
        · subst e1; rw [up_eq, if_pos (by omega)]; rfl
        · rw [up_ne _ _ e1]
          by_cases e2 : j < i
          · rw [if_pos e2, if_pos (by omega)]
          · rw [if_neg e2, if_neg (by omega)]
  refine z_mem ?_ (loop 10 0 (by omega) _ rfl)
  exact (row_id (cel_row ho) (fun j hj => if_neg (by omega))).symm
set_option maxRecDepth 100000 in
theorem ok_becomeRest {o s t : Nat} (ho : SerK o) (hs : SerK s) (ht : SerK t) (A : Nat → Nat → Int) (ra : rok (A (s + 1))) (rb : rok (A (t + 1))) (N : Nat) : OkR mX3_becomeRest [.ref o, .ref s, .ref t] N (mA A) none (mA (va_up A (o + 1) (subS (A (s + 1)) (A (t + 1))))) := by
  refine OkM.of [some (.ref o), some (.ref s), some (.ref t), none] (by decide +kernel) rfl (Nat.le_of_ble_eq_true rfl) ?_
  intro X E F
  refine z_iconst E dX3_becomeRest_0 ?_
  refine z_istore_n (ls' := [_, _, _, _]) E rfl dX3_becomeRest_1 (Nat.le_of_ble_eq_true rfl) rfl ?_
  have loop : ∀ (m i : Nat), i + m = 10 → ∀ (A' : Nat → Nat → Int), A' = va_up A (o + 1) (fun j => if j < i then subS (A (s + 1)) (A (t + 1)) j else A (o + 1) j) → Zc X 2 [some (.ref o), some (.ref s), some (.ref t), some (.int (iI (i : Int)))] [] N (mA A') 0 0 := by
    intro m
    induction m with
    | zero =>
      intro i hi A' hA
      refine z_iload_n E dX3_becomeRest_2 rfl ?_
      refine z_bipush E (by decide) dX3_becomeRest_3 ?_
      refine z_icmp_ge (tgt := 36) E (by omega) (by omega) dX3_becomeRest_5 (by decide) (fun h5 => ?_) (fun h5 => ?_)
      · refine z_vret E F dX3_becomeRest_36 ⟨rfl, ?_⟩
        rw [hA]
        exact row_eq (cel_row ho) (fun j hj => if_pos (by omega))
      · omega
    | succ m ih =>
      intro i hi A' hA
      have rd : ∀ q, A' (q + 1) i = A (q + 1) i := fun q => by
        rw [hA]
        by_cases e : q = o
        · subst e; rw [va_up_self, if_neg (by omega)]
        · rw [va_up_ne _ _ (by omega)]
      have r1 := ra i (by omega)
      have r2 := rb i (by omega)
      refine z_iload_n E dX3_becomeRest_2 rfl ?_
      refine z_bipush E (by decide) dX3_becomeRest_3 ?_
      refine z_icmp_ge (tgt := 36) E (by omega) (by omega) dX3_becomeRest_5 (by decide) (fun h5 => ?_) (fun h5 => ?_)
      · omega
      · refine z_aload_n E dX3_becomeRest_8 rfl ?_
        refine z_get E dX3_becomeRest_9 (cel_ser ho _) flX3_9 (by rfl) ?_
        refine z_iload_n E dX3_becomeRest_12 rfl ?_
        refine z_aload_n E dX3_becomeRest_13 rfl ?_
        refine z_get E dX3_becomeRest_14 (cel_ser hs _) flX3_9 (by rfl) ?_
        refine z_iload_n E dX3_becomeRest_17 rfl ?_
        refine a_iald (j := i) E dX3_becomeRest_18 (cel_row hs) (by omega) (by omega) (by omega) ?_
        refine z_aload_n E dX3_becomeRest_19 rfl ?_
        refine z_get E dX3_becomeRest_20 (cel_ser ht _) flX3_9 (by rfl) ?_
        refine z_iload_n E dX3_becomeRest_23 rfl ?_
        refine a_iald (j := i) E dX3_becomeRest_24 (cel_row ht) (by omega) (by omega) (by omega) ?_
        refine z_isub E dX3_becomeRest_25 ?_
        rw [rd s, rd t]
        refine c_S E dX3_becomeRest_26 lkX3_27 (ok_of (A (s + 1) i - A (t + 1) i) ⟨by omega, by omega⟩ N (mA A')) rfl rfl rfl (Nat.le_of_ble_eq_true rfl) ⟨(Nat.le_of_ble_eq_true rfl), (Nat.le_of_ble_eq_true rfl)⟩ ⟨rfl, rfl⟩ ⟨Nat.zero_le _, Nat.zero_le _⟩ ?_
        refine a_iast (j := i) E dX3_becomeRest_29 (cel_row ho) (by omega) (by omega) (by omega) ?_
        refine z_iinc (ls' := [_, _, _, _]) E dX3_becomeRest_30 rfl rfl ?_
        refine z_goto (tgt := 2) E dX3_becomeRest_33 (by decide) ?_
        rw [ei]
        refine ih (i + 1) (by omega) _ ?_
        rw [hA, va_uu, va_up_self]
        congr 1
        funext j
        by_cases e1 : j = i
        · subst e1; rw [up_eq, if_pos (by omega)]; rfl
        · rw [up_ne _ _ e1]
          by_cases e2 : j < i
          · rw [if_pos e2, if_pos (by omega)]
          · rw [if_neg e2, if_neg (by omega)]
  refine z_mem ?_ (loop 10 0 (by omega) _ rfl)
  exact (row_id (cel_row ho) (fun j hj => if_neg (by omega))).symm
