/-! contracts whose memory is told by a relation; the reckoner's methods -/
abbrev OkQ (M : Md) (av : List Value) (N : Nat) (g : Mem) (Q : Mem → Prop) : Prop := OkM M av N g N (fun r2 g2 => r2 = none ∧ Q g2)
abbrev OkI (M : Md) (av : List Value) (N : Nat) (g : Mem) (v : Value) (Q : Mem → Prop) : Prop := OkM M av N g N (fun r2 g2 => r2 = some v ∧ Q g2)
section QROWS
variable {X : ZX} {own nm : String} {cc : ByteArray} {nL : Nat} {rm : Room} {pc : Nat} {ls : List (Option Value)} {st : List Value} {N : Nat} {cells slots : Nat}
theorem c_V0Q (E : Ev X own cc nL rm nm) {idx n ci a : Nat} {fs : List Value} {M : Md} {av stk : List Value} {g : Mem} {Q : Mem → Prop} (hd : decode cc pc = .ok (.invokevirtual idx, 3)) (lk : LkV own idx M n ci) (hok : OkQ M (.ref a :: av) N g Q) (hg : g a = (ci, fs)) (hstk : av.reverse ++ .ref a :: st = stk) (hn : av.length = n) (hls : ls.length = nL) (hst : (st.map fun v => v.category).sum ≤ 8)
    (hroom : M.2.2.2.2.frames + 1 ≤ rm.frames ∧ 8 + (M.2.2.1 + 11) + M.2.2.2.2.locals ≤ rm.locals) (h00 : M.2.2.2.2.cells = 0 ∧ M.2.2.2.2.slots = 0) (hcell : cells ≤ rm.cells ∧ slots ≤ rm.slots)
    (k : ∀ g', Q g' → Zc X (pc + 3) ls st N g' cells slots) : Zc X pc ls stk N g cells slots := by
  subst hstk
  refine z_callV E hd lk hg hok hn hls hst (Nat.le_refl N) hroom (by rw [h00.1, h00.2]; exact hcell) ?_
  intro r2 g2 h
  obtain ⟨rfl, h⟩ := h
  rw [h00.1, h00.2]
  exact k g2 h
theorem c_VQ (E : Ev X own cc nL rm nm) {idx n ci a : Nat} {fs : List Value} {M : Md} {av stk : List Value} {g : Mem} {v : Value} {Q : Mem → Prop} (hd : decode cc pc = .ok (.invokevirtual idx, 3)) (lk : LkV own idx M n ci) (hok : OkI M (.ref a :: av) N g v Q) (hg : g a = (ci, fs)) (hstk : av.reverse ++ .ref a :: st = stk) (hn : av.length = n) (hls : ls.length = nL) (hst : (st.map fun v => v.category).sum ≤ 8)
    (hroom : M.2.2.2.2.frames + 1 ≤ rm.frames ∧ 8 + (M.2.2.1 + 11) + M.2.2.2.2.locals ≤ rm.locals) (h00 : M.2.2.2.2.cells = 0 ∧ M.2.2.2.2.slots = 0) (hcell : cells ≤ rm.cells ∧ slots ≤ rm.slots)
    (k : ∀ g', Q g' → Zc X (pc + 3) ls (v :: st) N g' cells slots) : Zc X pc ls stk N g cells slots := by
  subst hstk
  refine z_callV E hd lk hg hok hn hls hst (Nat.le_refl N) hroom (by rw [h00.1, h00.2]; exact hcell) ?_
  intro r2 g2 h
  obtain ⟨rfl, h⟩ := h
  rw [h00.1, h00.2]
  exact k g2 h
end QROWS
def Off (A A' : Nat → Nat → Int) (S : List Nat) : Prop := ∀ k, k ∉ S → A' k = A k
/-- the tables that the constructor lays -/
def fcl : Nat → Int
  | 0 => 1
  | n + 1 => fcl n * ((n + 1 : Nat) : Int) % 10007
def ifc : Nat → Int
  | 0 => 1
  | n + 1 => ifc n * pw ((n + 1 : Nat) : Int) 10005 % 10007
def chs : Nat → Nat → Int
  | _, 0 => 1
  | 0, _ + 1 => 0
  | n + 1, k + 1 => chs n k + chs n (k + 1)
theorem fcl_in : ∀ n, 0 ≤ fcl n ∧ fcl n < 10007
  | 0 => by simp [fcl]
  | n + 1 => by simp only [fcl]; omega
theorem ifc_in : ∀ n, 0 ≤ ifc n ∧ ifc n < 10007
  | 0 => by simp [ifc]
  | n + 1 => by simp only [ifc]; omega
def KA (A : Nat → Nat → Int) : Prop := (∀ n, 1 ≤ n → n ≤ 10 → A 4 n = pw (n : Int) 10005) ∧ (∀ n, n < 10 → A 5 n = fcl n) ∧ (∀ n, n < 10 → A 6 n = ifc n) ∧ A 31 = conS 1 ∧ ∀ n k, k ≤ n → n < 10 → A (8 + n) k = chs n k
theorem KA.off {A A' : Nat → Nat → Int} {S : List Nat} (h : KA A) (ho : Off A A' S) (hS : ∀ k ∈ S, 18 ≤ k ∧ k ≠ 31) : KA A' := by
  have e : ∀ k, (k < 18 ∨ k = 31) → A' k = A k := fun k hk => ho k (fun q => by have := hS k q; omega)
  refine ⟨fun n h1 h2 => by rw [e 4 (by omega)]; exact h.1 n h1 h2, fun n hn => by rw [e 5 (by omega)]; exact h.2.1 n hn, fun n hn => by rw [e 6 (by omega)]; exact h.2.2.1 n hn, by rw [e 31 (by omega)]; exact h.2.2.2.1, fun n k hk hn => by rw [e (8 + n) (by omega)]; exact h.2.2.2.2 n k hk hn⟩
theorem KA.up {A : Nat → Nat → Int} (h : KA A) {k : Nat} {f : Nat → Int} (hk : 18 ≤ k ∧ k ≠ 31) : KA (va_up A k f) :=
  h.off (S := [k]) (fun j hj => va_up_ne _ _ (by simpa using hj)) (by simp; exact hk)
set_option maxRecDepth 100000 in
theorem ok_geometric {o : Nat} (ho : SerK o) (A : Nat → Nat → Int) (a : Int) (ha : 0 ≤ a ∧ a < 10007) (N : Nat) : OkR mX0_geometric [.ref 3, .int (iI a), .ref o] N (mA A) none (mA (va_up A (o + 1) (pw a))) := by
  refine OkM.of [some (.ref 3), some (.int (iI a)), some (.ref o), none] (by decide +kernel) rfl (Nat.le_of_ble_eq_true rfl) ?_
  intro X E F
  refine z_aload_n E dX0_geometric_0 rfl ?_
  refine z_get E dX0_geometric_1 (cel_ser ho _) flX0_61 (by rfl) ?_
  refine z_iconst E dX0_geometric_4 ?_
  refine z_iconst E dX0_geometric_5 ?_
  refine a_iast (j := 0) E dX0_geometric_6 (cel_row ho) (by omega) (by omega) (by omega) ?_
  refine z_iconst E dX0_geometric_7 ?_
  refine z_istore_n (ls' := [_, _, _, _]) E rfl dX0_geometric_8 (Nat.le_of_ble_eq_true rfl) rfl ?_
  have loop : ∀ (m n : Nat), n + m = 9 → ∀ A' : Nat → Nat → Int, A' = va_up A (o + 1) (fun j => if j ≤ n then pw a j else A (o + 1) j) → Zc X 9 [some (.ref 3), some (.int (iI a)), some (.ref o), some (.int (iI ((n : Int) + 1)))] [] N (mA A') 0 0 := by
    intro m
    induction m with
    | zero =>
      intro n hn A' hA
      refine z_iload_n E dX0_geometric_9 rfl ?_
      refine z_bipush E (by decide) dX0_geometric_10 ?_
      refine z_icmp_ge (tgt := 41) E (by omega) (by omega) dX0_geometric_12 (by decide) (fun h12 => ?_) (fun h12 => ?_)
      · refine z_vret E F dX0_geometric_41 ⟨rfl, ?_⟩
        rw [hA]
        exact row_eq (cel_row ho) (fun j hj => if_pos (by omega))
      · omega
    | succ m ih =>
      intro n hn A' hA
      have e0 : A' (o + 1) n = pw a n := by rw [hA, va_up_self, if_pos (Nat.le_refl n)]
      have p0 := mul_in (pw_in a n) ha
      refine z_iload_n E dX0_geometric_9 rfl ?_
      refine z_bipush E (by decide) dX0_geometric_10 ?_
      refine z_icmp_ge (tgt := 41) E (by omega) (by omega) dX0_geometric_12 (by decide) (fun h12 => ?_) (fun h12 => ?_)
      · omega
      · refine z_aload_n E dX0_geometric_15 rfl ?_
        refine z_get E dX0_geometric_16 (cel_ser ho _) flX0_61 (by rfl) ?_
        refine z_iload_n E dX0_geometric_19 rfl ?_
        refine z_aload_n E dX0_geometric_20 rfl ?_
        refine z_get E dX0_geometric_21 (cel_ser ho _) flX0_61 (by rfl) ?_
        refine z_iload_n E dX0_geometric_24 rfl ?_
        refine z_iconst E dX0_geometric_25 ?_
        refine z_isub E dX0_geometric_26 ?_
        refine a_iald (j := n) E dX0_geometric_27 (cel_row ho) (by omega) (by omega) (by omega) ?_
        rw [e0]
        refine z_iload_n E dX0_geometric_28 rfl ?_
        refine z_imul E dX0_geometric_29 ?_
        refine z_sipush E (by decide) dX0_geometric_30 ?_
        refine z_irem E (by omega) (by omega) (by omega) (Int.tmod_eq_emod_of_nonneg (by omega)) dX0_geometric_33 ?_
        refine a_iast (j := n + 1) E dX0_geometric_34 (cel_row ho) (by omega) (by omega) (by omega) ?_
        refine z_iinc (ls' := [_, _, _, _]) E dX0_geometric_35 rfl rfl ?_
        refine z_goto (tgt := 9) E dX0_geometric_38 (by decide) ?_
        rw [ei]
        refine ih (n + 1) (by omega) _ ?_
        rw [hA, va_uu, va_up_self]
        refine congrArg (va_up A (o + 1)) (funext fun j => ?_)
        by_cases e1 : j = n + 1
        · subst e1; rw [up_eq, if_pos (by omega)]; rfl
        · rw [up_ne _ _ e1]
          by_cases e2 : j ≤ n
          · rw [if_pos e2, if_pos (by omega)]
          · rw [if_neg e2, if_neg (by omega)]
  refine loop 9 0 (by omega) _ ?_
  refine congrArg (va_up A (o + 1)) (funext fun j => ?_)
  by_cases e1 : j = 0
  · subst e1; rw [up_eq, if_pos (by omega)]; rfl
  · rw [up_ne _ _ e1, if_neg (by omega)]
def expS (a : Int) (j : Nat) : Int := pw a j * ifc j % 10007
set_option maxRecDepth 100000 in
theorem ok_exponential {o : Nat} (ho : SerK o) (A : Nat → Nat → Int) (hK : KA A) (a : Int) (ha : 0 ≤ a ∧ a < 10007) (N : Nat) : OkR mX0_exponential [.ref 3, .int (iI a), .ref o] N (mA A) none (mA (va_up A (o + 1) (expS a))) := by
  refine OkM.of [some (.ref 3), some (.int (iI a)), some (.ref o), none] (by decide +kernel) rfl (Nat.le_of_ble_eq_true rfl) ?_
  intro X E F
  refine z_aload_n E dX0_exponential_0 rfl ?_
  refine z_iload_n E dX0_exponential_1 rfl ?_
  refine z_aload_n E dX0_exponential_2 rfl ?_
  refine c_V0 E dX0_exponential_3 lkX0_68 (ok_geometric ho A a ha N) (by rfl) rfl rfl rfl (Nat.le_of_ble_eq_true rfl) ⟨(Nat.le_of_ble_eq_true rfl), (Nat.le_of_ble_eq_true rfl)⟩ ⟨rfl, rfl⟩ ⟨Nat.zero_le _, Nat.zero_le _⟩ ?_
  refine z_iconst E dX0_exponential_6 ?_
  refine z_istore_n (ls' := [_, _, _, _]) E rfl dX0_exponential_7 (Nat.le_of_ble_eq_true rfl) rfl ?_
  have loop : ∀ (m n : Nat), n + m = 10 → ∀ A' : Nat → Nat → Int, A' = va_up A (o + 1) (fun j => if j < n then expS a j else pw a j) → Zc X 8 [some (.ref 3), some (.int (iI a)), some (.ref o), some (.int (iI (n : Int)))] [] N (mA A') 0 0 := by
    intro m
    induction m with
    | zero =>
      intro n hn A' hA
      refine z_iload_n E dX0_exponential_8 rfl ?_
      refine z_bipush E (by decide) dX0_exponential_9 ?_
      refine z_icmp_ge (tgt := 43) E (by omega) (by omega) dX0_exponential_11 (by decide) (fun h11 => ?_) (fun h11 => ?_)
      · refine z_vret E F dX0_exponential_43 ⟨rfl, ?_⟩
        rw [hA]
        exact row_eq (cel_row ho) (fun j hj => if_pos (by omega))
      · omega
    | succ m ih =>
      intro n hn A' hA
      have e0 : A' (o + 1) n = pw a n := by rw [hA, va_up_self, if_neg (by omega)]
      have e6 : A' 6 n = ifc n := by rw [hA, va_up_ne _ _ (by have := ho.2; omega)]; exact hK.2.2.1 n (by omega)
      have p0 := mul_in (pw_in a n) (ifc_in n)
      refine z_iload_n E dX0_exponential_8 rfl ?_
      refine z_bipush E (by decide) dX0_exponential_9 ?_
      refine z_icmp_ge (tgt := 43) E (by omega) (by omega) dX0_exponential_11 (by decide) (fun h11 => ?_) (fun h11 => ?_)
      · omega
      · refine z_aload_n E dX0_exponential_14 rfl ?_
        refine z_get E dX0_exponential_15 (cel_ser ho _) flX0_61 (by rfl) ?_
        refine z_iload_n E dX0_exponential_18 rfl ?_
        refine z_aload_n E dX0_exponential_19 rfl ?_
        refine z_get E dX0_exponential_20 (cel_ser ho _) flX0_61 (by rfl) ?_
        refine z_iload_n E dX0_exponential_23 rfl ?_
        refine a_iald (j := n) E dX0_exponential_24 (cel_row ho) (by omega) (by omega) (by omega) ?_
        refine z_aload_n E dX0_exponential_25 rfl ?_
        refine z_get E dX0_exponential_26 (by rfl) flX0_18 (by rfl) ?_
        refine z_iload_n E dX0_exponential_29 rfl ?_
        refine a_iald (j := n) E dX0_exponential_30 (fun _ => rfl) (by omega) (by omega) (by omega) ?_
        rw [e0, e6]
        refine z_imul E dX0_exponential_31 ?_
        refine z_sipush E (by decide) dX0_exponential_32 ?_
        refine z_irem E (by omega) (by omega) (by omega) (Int.tmod_eq_emod_of_nonneg (by omega)) dX0_exponential_35 ?_
        refine a_iast (j := n) E dX0_exponential_36 (cel_row ho) (by omega) (by omega) (by omega) ?_
        refine z_iinc (ls' := [_, _, _, _]) E dX0_exponential_37 rfl rfl ?_
        refine z_goto (tgt := 8) E dX0_exponential_40 (by decide) ?_
        rw [ei]
        refine ih (n + 1) (by omega) _ ?_
        rw [hA, va_uu, va_up_self]
        refine congrArg (va_up A (o + 1)) (funext fun j => ?_)
        by_cases e1 : j = n
        · subst e1; rw [up_eq, if_pos (by omega)]; rfl
        · rw [up_ne _ _ e1]
          by_cases e2 : j < n
          · rw [if_pos e2, if_pos (by omega)]
          · rw [if_neg e2, if_neg (by omega)]
  refine loop 10 0 (by omega) _ ?_
  exact congrArg (va_up A (o + 1)) (funext fun j => (if_neg (by omega)).symm)
def logS (a : Int) (j : Nat) : Int := if j = 0 then 0 else -(pw (-a % 10007) j * pw (j : Int) 10005) % 10007
set_option maxRecDepth 100000 in
theorem ok_logarithm {o : Nat} (ho : SerK o) (A : Nat → Nat → Int) (hK : KA A) (a : Int) (ha : 0 ≤ a ∧ a < 10007) (N : Nat) : OkR mX0_logarithm [.ref 3, .int (iI a), .ref o] N (mA A) none (mA (va_up A (o + 1) (logS a))) := by
  refine OkM.of [some (.ref 3), some (.int (iI a)), some (.ref o), none] (by decide +kernel) rfl (Nat.le_of_ble_eq_true rfl) ?_
  intro X E F
  refine z_aload_n E dX0_logarithm_0 rfl ?_
  refine z_iload_n E dX0_logarithm_1 rfl ?_
  refine z_ineg E dX0_logarithm_2 ?_
  refine c_S E dX0_logarithm_3 lkX0_78 (ok_of (-a) ⟨by omega, by omega⟩ N (mA A)) rfl rfl rfl (Nat.le_of_ble_eq_true rfl) ⟨(Nat.le_of_ble_eq_true rfl), (Nat.le_of_ble_eq_true rfl)⟩ ⟨rfl, rfl⟩ ⟨Nat.zero_le _, Nat.zero_le _⟩ ?_
  refine z_aload_n E dX0_logarithm_6 rfl ?_
  refine c_V0 E dX0_logarithm_7 lkX0_68 (ok_geometric ho A (-a % 10007) (by omega) N) (by rfl) rfl rfl rfl (Nat.le_of_ble_eq_true rfl) ⟨(Nat.le_of_ble_eq_true rfl), (Nat.le_of_ble_eq_true rfl)⟩ ⟨rfl, rfl⟩ ⟨Nat.zero_le _, Nat.zero_le _⟩ ?_
  refine z_aload_n E dX0_logarithm_10 rfl ?_
  refine z_get E dX0_logarithm_11 (cel_ser ho _) flX0_61 (by rfl) ?_
  refine z_iconst E dX0_logarithm_14 ?_
  refine z_iconst E dX0_logarithm_15 ?_
  refine a_iast (j := 0) E dX0_logarithm_16 (cel_row ho) (by omega) (by omega) (by omega) ?_
  refine z_iconst E dX0_logarithm_17 ?_
  refine z_istore_n (ls' := [_, _, _, _]) E rfl dX0_logarithm_18 (Nat.le_of_ble_eq_true rfl) rfl ?_
  have loop : ∀ (m n : Nat), n + m = 9 → ∀ A' : Nat → Nat → Int, A' = va_up A (o + 1) (fun j => if j ≤ n then logS a j else pw (-a % 10007) j) → Zc X 19 [some (.ref 3), some (.int (iI a)), some (.ref o), some (.int (iI ((n : Int) + 1)))] [] N (mA A') 0 0 := by
    intro m
    induction m with
    | zero =>
      intro n hn A' hA
      refine z_iload_n E dX0_logarithm_19 rfl ?_
      refine z_bipush E (by decide) dX0_logarithm_20 ?_
      refine z_icmp_ge (tgt := 54) E (by omega) (by omega) dX0_logarithm_22 (by decide) (fun h22 => ?_) (fun h22 => ?_)
      · refine z_vret E F dX0_logarithm_54 ⟨rfl, ?_⟩
        rw [hA]
        exact row_eq (cel_row ho) (fun j hj => if_pos (by omega))
      · omega
    | succ m ih =>
      intro n hn A' hA
      have e0 : A' (o + 1) (n + 1) = pw (-a % 10007) (n + 1) := by rw [hA, va_up_self, if_neg (by omega)]
      have e4 : A' 4 (n + 1) = pw ((n + 1 : Nat) : Int) 10005 := by rw [hA, va_up_ne _ _ (by have := ho.2; omega)]; exact hK.1 (n + 1) (by omega) (by omega)
      have p0 := mul_in (pw_in (-a % 10007) (n + 1)) (pw_in ((n + 1 : Nat) : Int) 10005)
      refine z_iload_n E dX0_logarithm_19 rfl ?_
      refine z_bipush E (by decide) dX0_logarithm_20 ?_
      refine z_icmp_ge (tgt := 54) E (by omega) (by omega) dX0_logarithm_22 (by decide) (fun h22 => ?_) (fun h22 => ?_)
      · omega
      · refine z_aload_n E dX0_logarithm_25 rfl ?_
        refine z_get E dX0_logarithm_26 (cel_ser ho _) flX0_61 (by rfl) ?_
        refine z_iload_n E dX0_logarithm_29 rfl ?_
        refine z_aload_n E dX0_logarithm_30 rfl ?_
        refine z_get E dX0_logarithm_31 (cel_ser ho _) flX0_61 (by rfl) ?_
        refine z_iload_n E dX0_logarithm_34 rfl ?_
        refine a_iald (j := n + 1) E dX0_logarithm_35 (cel_row ho) (by omega) (by omega) (by omega) ?_
        refine z_aload_n E dX0_logarithm_36 rfl ?_
        refine z_get E dX0_logarithm_37 (by rfl) flX0_9 (by rfl) ?_
        refine z_iload_n E dX0_logarithm_40 rfl ?_
        refine a_iald (j := n + 1) E dX0_logarithm_41 (fun _ => rfl) (by omega) (by omega) (by omega) ?_
        rw [e0, e4]
        refine z_imul E dX0_logarithm_42 ?_
        refine z_ineg E dX0_logarithm_43 ?_
        refine c_S E dX0_logarithm_44 lkX0_78 (ok_of _ ⟨by omega, by omega⟩ N (mA A')) rfl rfl rfl (Nat.le_of_ble_eq_true rfl) ⟨(Nat.le_of_ble_eq_true rfl), (Nat.le_of_ble_eq_true rfl)⟩ ⟨rfl, rfl⟩ ⟨Nat.zero_le _, Nat.zero_le _⟩ ?_
        refine a_iast (j := n + 1) E dX0_logarithm_47 (cel_row ho) (by omega) (by omega) (by omega) ?_
        refine z_iinc (ls' := [_, _, _, _]) E dX0_logarithm_48 rfl rfl ?_
        refine z_goto (tgt := 19) E dX0_logarithm_51 (by decide) ?_
        rw [ei]
        refine ih (n + 1) (by omega) _ ?_
        rw [hA, va_uu, va_up_self]
        refine congrArg (va_up A (o + 1)) (funext fun j => ?_)
        by_cases e1 : j = n + 1
        · subst e1; rw [up_eq, if_pos (by omega), logS, if_neg (by omega)]
        · rw [up_ne _ _ e1]
          by_cases e2 : j ≤ n
          · rw [if_pos e2, if_pos (by omega)]
          · rw [if_neg e2, if_neg (by omega)]
  refine loop 9 0 (by omega) _ ?_
  rw [va_uu, va_up_self]
  refine congrArg (va_up A (o + 1)) (funext fun j => ?_)
  by_cases e1 : j = 0
  · subst e1; rw [up_eq, if_pos (by omega), logS, if_pos rfl]
  · rw [up_ne _ _ e1, if_neg (by omega)]
def tbS (f : Nat → Int) : Nat → Int := up (qS (conS 1) (shd f)) 9 0
theorem shd_rok {f : Nat → Int} (h : rok f) : rok (shd f) := fun j hj => by
  unfold shd
  by_cases e : j < 9
  · rw [if_pos e]; exact h (j + 1) (by omega)
  · rw [if_neg e]; omega
theorem tbS_rok (f : Nat → Int) : rok (tbS f) := up_rok (qS_rok _ _) (by omega)
theorem s30 : SerK 30 := ⟨by omega, by omega⟩
theorem s32 : SerK 32 := ⟨by omega, by omega⟩
theorem s34 : SerK 34 := ⟨by omega, by omega⟩
theorem s36 : SerK 36 := ⟨by omega, by omega⟩
theorem s38 : SerK 38 := ⟨by omega, by omega⟩
set_option maxRecDepth 100000 in
theorem ok_tBy {f o : Nat} (hf : SerK f) (ho : SerK o) (h1 : o ≠ 30) (h2 : o ≠ 32) (A : Nat → Nat → Int) (hK : KA A) (rf : rok (A (f + 1))) (N : Nat) : OkR mX0_tBy [.ref 3, .ref f, .ref o] N (mA A) none (mA (va_up (va_up A 33 (shd (A (f + 1)))) (o + 1) (tbS (A (f + 1))))) := by
  refine OkM.of [some (.ref 3), some (.ref f), some (.ref o)] (by decide +kernel) rfl (Nat.le_of_ble_eq_true rfl) ?_
  intro X E F
  refine z_aload_n E dX0_tBy_0 rfl ?_
  refine z_get E dX0_tBy_1 (by rfl) flX0_39 (by rfl) ?_
  refine z_aload_n E dX0_tBy_4 rfl ?_
  refine c_V0 E dX0_tBy_5 lkX0_88 (ok_becomeShiftedDown s32 hf A N) (by rfl) rfl rfl rfl (Nat.le_of_ble_eq_true rfl) ⟨(Nat.le_of_ble_eq_true rfl), (Nat.le_of_ble_eq_true rfl)⟩ ⟨rfl, rfl⟩ ⟨Nat.zero_le _, Nat.zero_le _⟩ ?_
  refine z_aload_n E dX0_tBy_8 rfl ?_
  refine z_aload_n E dX0_tBy_9 rfl ?_
  refine z_get E dX0_tBy_10 (by rfl) flX0_35 (by rfl) ?_
  refine z_aload_n E dX0_tBy_13 rfl ?_
  refine z_get E dX0_tBy_14 (by rfl) flX0_39 (by rfl) ?_
  refine c_V0 E dX0_tBy_17 lkX0_91 (ok_becomeQuotient ho s30 s32 h1 h2 _ (by show rok (va_up A 33 _ 31); rw [va_up_ne _ _ (by omega), hK.2.2.2.1]; exact conS_rok (by omega)) (by show rok (va_up A 33 _ 33); rw [va_up_self]; exact shd_rok rf) N) (cel_ser ho _) rfl rfl rfl (Nat.le_of_ble_eq_true rfl) ⟨(Nat.le_of_ble_eq_true rfl), (Nat.le_of_ble_eq_true rfl)⟩ ⟨rfl, rfl⟩ ⟨Nat.zero_le _, Nat.zero_le _⟩ ?_
  refine z_aload_n E dX0_tBy_20 rfl ?_
  refine z_get E dX0_tBy_21 (cel_ser ho _) flX0_61 (by rfl) ?_
  refine z_bipush E (by decide) dX0_tBy_24 ?_
  refine z_iconst E dX0_tBy_26 ?_
  refine a_iast (j := 9) E dX0_tBy_27 (cel_row ho) (by omega) (by omega) (by omega) ?_
  refine z_vret E F dX0_tBy_28 ⟨rfl, ?_⟩
  rw [va_uu, va_up_self]
  show mA (va_up _ _ (up (qS (va_up A 33 _ 31) (va_up A 33 _ 33)) 9 0)) = _
  rw [va_up_self, va_up_ne (j := 31) _ _ (by omega), hK.2.2.2.1]
  rfl
/-- s into t, and 1 by it -/
def obS (s t : Nat → Int) : Nat → Int := qS (conS 1) (hoS s t 9)
set_option maxRecDepth 100000 in
theorem ok_oneByInto {s t o : Nat} (hs : SerK s) (ht : SerK t) (ho : SerK o) (h1 : o ≠ 30) (h2 : o ≠ 36) (h3 : s ≠ 36) (h4 : t ≠ 36) (A : Nat → Nat → Int) (hK : KA A) (ra : rok (A (s + 1))) (rb : rok (A (t + 1))) (N : Nat) : OkR mX0_oneByInto [.ref 3, .ref s, .ref t, .ref o] N (mA A) none (mA (va_up (va_up A 37 (hoS (A (s + 1)) (A (t + 1)) 9)) (o + 1) (obS (A (s + 1)) (A (t + 1))))) := by
  refine OkM.of [some (.ref 3), some (.ref s), some (.ref t), some (.ref o)] (by decide +kernel) rfl (Nat.le_of_ble_eq_true rfl) ?_
  intro X E F
  refine z_aload_n E dX0_oneByInto_0 rfl ?_
  refine z_get E dX0_oneByInto_1 (by rfl) flX0_45 (by rfl) ?_
  refine z_aload_n E dX0_oneByInto_4 rfl ?_
  refine z_aload_n E dX0_oneByInto_5 rfl ?_
  refine c_V0 E dX0_oneByInto_6 lkX0_94 (ok_becomeInto s36 hs ht (Ne.symm h3) (Ne.symm h4) A ra rb N) (by rfl) rfl rfl rfl (Nat.le_of_ble_eq_true rfl) ⟨(Nat.le_of_ble_eq_true rfl), (Nat.le_of_ble_eq_true rfl)⟩ ⟨rfl, rfl⟩ ⟨Nat.zero_le _, Nat.zero_le _⟩ ?_
  refine z_aload_n E dX0_oneByInto_9 rfl ?_
  refine z_aload_n E dX0_oneByInto_10 rfl ?_
  refine z_get E dX0_oneByInto_11 (by rfl) flX0_35 (by rfl) ?_
  refine z_aload_n E dX0_oneByInto_14 rfl ?_
  refine z_get E dX0_oneByInto_15 (by rfl) flX0_45 (by rfl) ?_
  refine c_V0 E dX0_oneByInto_18 lkX0_91 (ok_becomeQuotient ho s30 s36 h1 h2 _ (by show rok (va_up A 37 _ 31); rw [va_up_ne _ _ (by omega), hK.2.2.2.1]; exact conS_rok (by omega)) (by show rok (va_up A 37 _ 37); rw [va_up_self]; exact hoS_rok _ ra 9) N) (cel_ser ho _) rfl rfl rfl (Nat.le_of_ble_eq_true rfl) ⟨(Nat.le_of_ble_eq_true rfl), (Nat.le_of_ble_eq_true rfl)⟩ ⟨rfl, rfl⟩ ⟨Nat.zero_le _, Nat.zero_le _⟩ ?_
  refine z_vret E F dX0_oneByInto_21 ⟨rfl, ?_⟩
  show mA (va_up _ _ (qS (va_up A 37 _ 31) (va_up A 37 _ 37))) = _
  rw [va_up_self, va_up_ne (j := 31) _ _ (by omega), hK.2.2.2.1]
  rfl
/-- powers of a SERIES -/
def pS (b : Nat → Int) : Nat → (Nat → Int)
  | 0 => conS 1
  | n + 1 => mulS (pS b n) b
theorem pS_rok (b : Nat → Int) : ∀ n, rok (pS b n)
  | 0 => conS_rok (by omega)
  | n + 1 => mulS_rok _ _
/-- Lagrange's row -/
def tuS (f : Nat → Int) (j : Nat) : Int := if j = 0 then 0 else pS (tbS f) j (j - 1) * pw (j : Int) 10005 % 10007
theorem tuS_rok (f : Nat → Int) : rok (tuS f) := fun j _ => by unfold tuS; split <;> omega
set_option maxRecDepth 100000 in
theorem ok_turned {f o : Nat} (hf : SerK f) (ho : SerK o) (h1 : o ≠ 30) (h2 : o ≠ 32) (h3 : o ≠ 34) (h4 : o ≠ 36) (A : Nat → Nat → Int) (hK : KA A) (rf : rok (A (f + 1))) (N : Nat) : OkQ mX0_turned [.ref 3, .ref f, .ref o] N (mA A) (fun g' => ∃ A', g' = mA A' ∧ A' (o + 1) = tuS (A (f + 1)) ∧ Off A A' [33, 35, 37, o + 1]) := by
  generalize hF : A (f + 1) = G at rf ⊢
  refine OkM.of [some (.ref 3), some (.ref f), some (.ref o), none] (by decide +kernel) rfl (Nat.le_of_ble_eq_true rfl) ?_
  intro X E F
  refine z_aload_n E dX0_turned_0 rfl ?_
  refine z_aload_n E dX0_turned_1 rfl ?_
  refine z_aload_n E dX0_turned_2 rfl ?_
  refine z_get E dX0_turned_3 (by rfl) flX0_42 (by rfl) ?_
  refine c_V0 E dX0_turned_6 lkX0_81 (ok_tBy hf s34 (by omega) (by omega) A hK (by rw [hF]; exact rf) N) (by rfl) rfl rfl rfl (Nat.le_of_ble_eq_true rfl) ⟨(Nat.le_of_ble_eq_true rfl), (Nat.le_of_ble_eq_true rfl)⟩ ⟨rfl, rfl⟩ ⟨Nat.zero_le _, Nat.zero_le _⟩ ?_
  rw [hF]
  refine z_aload_n E dX0_turned_9 rfl ?_
  refine z_get E dX0_turned_10 (by rfl) flX0_45 (by rfl) ?_
  refine z_iconst E dX0_turned_13 ?_
  refine c_V0 E dX0_turned_14 lkX0_51 (ok_becomeConstant s36 _ 1 N) (by rfl) rfl rfl rfl (Nat.le_of_ble_eq_true rfl) ⟨(Nat.le_of_ble_eq_true rfl), (Nat.le_of_ble_eq_true rfl)⟩ ⟨rfl, rfl⟩ ⟨Nat.zero_le _, Nat.zero_le _⟩ ?_
  refine z_aload_n E dX0_turned_17 rfl ?_
  refine z_get E dX0_turned_18 (cel_ser ho _) flX0_61 (by rfl) ?_
  refine z_iconst E dX0_turned_21 ?_
  refine z_iconst E dX0_turned_22 ?_
  refine a_iast (j := 0) E dX0_turned_23 (cel_row ho) (by omega) (by omega) (by omega) ?_
  refine z_iconst E dX0_turned_24 ?_
  refine z_istore_n (ls' := [_, _, _, _]) E rfl dX0_turned_25 (Nat.le_of_ble_eq_true rfl) rfl ?_
  have loop : ∀ (m n : Nat), n + m = 9 → ∀ A' : Nat → Nat → Int, A' 35 = tbS G → A' 37 = pS (tbS G) n → (∀ j, j ≤ n → A' (o + 1) j = tuS G j) → Off A A' [33, 35, 37, o + 1] → Zc X 26 [some (.ref 3), some (.ref f), some (.ref o), some (.int (iI ((n : Int) + 1)))] [] N (mA A') 0 0 := by
    intro m
    induction m with
    | zero =>
      intro n hn A' e35 e37 eo hoff
      refine z_iload_n E dX0_turned_26 rfl ?_
      refine z_bipush E (by decide) dX0_turned_27 ?_
      refine z_icmp_ge (tgt := 81) E (by omega) (by omega) dX0_turned_29 (by decide) (fun h29 => ?_) (fun h29 => ?_)
      · refine z_vret E F dX0_turned_81 ⟨rfl, va_up A' (o + 1) (tuS G), ?_, va_up_self _ _ _, fun k hk => ?_⟩
        · exact (row_id (cel_row ho) (fun j hj => (eo j (by omega)).symm)).symm
        · rw [va_up_ne _ _ (by simp at hk; omega)]; exact hoff k hk
      · omega
    | succ m ih =>
      intro n hn A' e35 e37 eo hoff
      have hK' : KA A' := hK.off hoff (by simp; have := ho.1; have := ho.2; omega)
      have p0 := mul_in (pS_rok (tbS G) (n + 1) n (by omega)) (pw_in ((n + 1 : Nat) : Int) 10005)
      refine z_iload_n E dX0_turned_26 rfl ?_
      refine z_bipush E (by decide) dX0_turned_27 ?_
      refine z_icmp_ge (tgt := 81) E (by omega) (by omega) dX0_turned_29 (by decide) (fun h29 => ?_) (fun h29 => ?_)
      · omega
      · refine z_aload_n E dX0_turned_32 rfl ?_
        refine z_get E dX0_turned_33 (by rfl) flX0_45 (by rfl) ?_
        refine z_aload_n E dX0_turned_36 rfl ?_
        refine z_get E dX0_turned_37 (by rfl) flX0_45 (by rfl) ?_
        refine z_aload_n E dX0_turned_40 rfl ?_
        refine z_get E dX0_turned_41 (by rfl) flX0_42 (by rfl) ?_
        refine c_V0 E dX0_turned_44 lkX0_85 (ok_becomeTimes s36 s36 s34 A' (by show rok (A' 37); rw [e37]; exact pS_rok _ n) (by show rok (A' 35); rw [e35]; exact tbS_rok _) N) (by rfl) rfl rfl rfl (Nat.le_of_ble_eq_true rfl) ⟨(Nat.le_of_ble_eq_true rfl), (Nat.le_of_ble_eq_true rfl)⟩ ⟨rfl, rfl⟩ ⟨Nat.zero_le _, Nat.zero_le _⟩ ?_
        have e9 : mulS (A' (36 + 1)) (A' (34 + 1)) = pS (tbS G) (n + 1) := by show mulS (A' 37) (A' 35) = _; rw [e37, e35]; rfl
        rw [e9]
        have e4 : va_up A' (36 + 1) (pS (tbS G) (n + 1)) 4 (n + 1) = pw ((n + 1 : Nat) : Int) 10005 := by rw [va_up_ne _ _ (by omega)]; exact hK'.1 (n + 1) (by omega) (by omega)
        have e8 : va_up A' (36 + 1) (pS (tbS G) (n + 1)) 37 n = pS (tbS G) (n + 1) n := by show va_up A' 37 _ 37 n = _; rw [va_up_self]
        refine z_aload_n E dX0_turned_47 rfl ?_
        refine z_get E dX0_turned_48 (cel_ser ho _) flX0_61 (by rfl) ?_
        refine z_iload_n E dX0_turned_51 rfl ?_
        refine z_aload_n E dX0_turned_52 rfl ?_
        refine z_get E dX0_turned_53 (by rfl) flX0_45 (by rfl) ?_
        refine z_get E dX0_turned_56 (cel_ser s36 _) flX0_61 (by rfl) ?_
        refine z_iload_n E dX0_turned_59 rfl ?_
        refine z_iconst E dX0_turned_60 ?_
        refine z_isub E dX0_turned_61 ?_
        refine a_iald (j := n) E dX0_turned_62 (fun _ => rfl) (by omega) (by omega) (by omega) ?_
        refine z_aload_n E dX0_turned_63 rfl ?_
        refine z_get E dX0_turned_64 (by rfl) flX0_9 (by rfl) ?_
        refine z_iload_n E dX0_turned_67 rfl ?_
        refine a_iald (j := n + 1) E dX0_turned_68 (fun _ => rfl) (by omega) (by omega) (by omega) ?_
        rw [e4, e8]
        refine z_imul E dX0_turned_69 ?_
        refine z_sipush E (by decide) dX0_turned_70 ?_
        refine z_irem E (by omega) (by omega) (by omega) (Int.tmod_eq_emod_of_nonneg (by omega)) dX0_turned_73 ?_
        refine a_iast (j := n + 1) E dX0_turned_74 (cel_row ho) (by omega) (by omega) (by omega) ?_
        refine z_iinc (ls' := [_, _, _, _]) E dX0_turned_75 rfl rfl ?_
        refine z_goto (tgt := 26) E dX0_turned_78 (by decide) ?_
        rw [ei]
        have hne : o + 1 ≠ 36 + 1 := by omega
        refine ih (n + 1) (by omega) _ ?_ ?_ ?_ ?_
        · rw [va_up_ne _ _ (by omega), va_up_ne _ _ (by omega)]; exact e35
        · rw [va_up_ne _ _ (by omega)]; exact va_up_self _ _ _
        · intro j hj
          rw [va_up_self, va_up_ne _ _ hne]
          by_cases e1 : j = n + 1
          · subst e1; rw [up_eq, tuS, if_neg (by omega), Nat.add_sub_cancel]
          · rw [up_ne _ _ e1]; exact eo j (by omega)
        · intro k hk
          have hk2 := hk
          simp at hk2
          rw [va_up_ne _ _ (by omega), va_up_ne _ _ (by omega)]
          exact hoff k hk
  have hne : o + 1 ≠ 36 + 1 := by omega
  refine loop 9 0 (by omega) _ ?_ ?_ ?_ ?_
  · rw [va_up_ne _ _ (by omega), va_up_ne _ _ (by omega)]; exact va_up_self _ _ _
  · rw [va_up_ne _ _ (by omega)]; exact va_up_self _ _ _
  · intro j hj
    have : j = 0 := by omega
    subst this
    rw [va_up_self, up_eq, tuS, if_pos rfl]
  · intro k hk
    simp at hk
    rw [va_up_ne _ _ (by omega), va_up_ne _ _ (by omega), va_up_ne _ _ (by omega), va_up_ne _ _ (by omega)]
