/-! memory while objects are made -/
def ov (g : Mem) (A : Nat → Nat → Int) (lo hi : Nat) : Mem := fun k => if lo ≤ k ∧ k < hi then cel k (A k) else g k
theorem ov_in {g : Mem} {A : Nat → Nat → Int} {lo hi k : Nat} (h1 : lo ≤ k) (h2 : k < hi) : ov g A lo hi k = cel k (A k) := if_pos ⟨h1, h2⟩
theorem ov_no {g : Mem} {A : Nat → Nat → Int} {lo hi k : Nat} (h : k < lo ∨ hi ≤ k) : ov g A lo hi k = g k := if_neg (by omega)
theorem ov_self (g : Mem) (A : Nat → Nat → Int) (n : Nat) : ov g A n n = g := funext fun k => ov_no (by omega)
theorem mem_cm {g : Mem} {a b : Nat} {c d : Cel} (h : a ≠ b) : va_up (va_up g a c) b d = va_up (va_up g b d) a c := by
  funext k
  by_cases e : k = b
  · subst e; rw [va_up_self, va_up_ne _ _ (Ne.symm h), va_up_self]
  · rw [va_up_ne _ _ e]
    by_cases e2 : k = a
    · subst e2; rw [va_up_self, va_up_self]
    · rw [va_up_ne _ _ e2, va_up_ne _ _ e2, va_up_ne _ _ e]
theorem ov_new {g : Mem} {A : Nat → Nat → Int} {lo n : Nat} {c : Cel} (h : lo ≤ n) (hc : cel n (A n) = c) : va_up (ov g A lo n) n c = ov g A lo (n + 1) := by
  funext k
  by_cases e : k = n
  · subst e; rw [va_up_self, ov_in h (by omega), hc]
  · rw [va_up_ne _ _ e]
    by_cases e2 : lo ≤ k ∧ k < n
    · rw [ov_in e2.1 e2.2, ov_in e2.1 (by omega)]
    · rw [ov_no (by omega), ov_no (by omega)]
theorem ov_up {g : Mem} {A : Nat → Nat → Int} {lo hi a : Nat} {f : Nat → Int} {c : Cel} (h1 : lo ≤ a) (h2 : a < hi) (hc : cel a f = c) : va_up (ov g A lo hi) a c = ov g (va_up A a f) lo hi := by
  funext k
  by_cases e : k = a
  · subst e; rw [va_up_self, ov_in h1 h2, va_up_self, hc]
  · rw [va_up_ne _ _ e]
    by_cases e2 : lo ≤ k ∧ k < hi
    · rw [ov_in e2.1 e2.2, ov_in e2.1 e2.2, va_up_ne _ _ e]
    · rw [ov_no (by omega), ov_no (by omega)]
theorem ov_out {g : Mem} {A : Nat → Nat → Int} {lo hi a : Nat} {c : Cel} (h : a < lo ∨ hi ≤ a) : va_up (ov g A lo hi) a c = ov (va_up g a c) A lo hi := by
  funext k
  by_cases e : k = a
  · subst e; rw [va_up_self, ov_no h, va_up_self]
  · rw [va_up_ne _ _ e]
    by_cases e2 : lo ≤ k ∧ k < hi
    · rw [ov_in e2.1 e2.2, ov_in e2.1 e2.2]
    · rw [ov_no (by omega), ov_no (by omega), va_up_ne _ _ e]
theorem ov_congr {g : Mem} {A A' : Nat → Nat → Int} {lo hi : Nat} (h : ∀ k, lo ≤ k → k < hi → A k = A' k) : ov g A lo hi = ov g A' lo hi := by
  funext k
  by_cases e2 : lo ≤ k ∧ k < hi
  · rw [ov_in e2.1 e2.2, ov_in e2.1 e2.2, h k e2.1 e2.2]
  · rw [ov_no (by omega), ov_no (by omega)]
/-- a cell just below that is done -/
theorem ov_dn {g : Mem} {A : Nat → Nat → Int} {lo hi : Nat} {c : Cel} (h : lo < hi) (hc : cel lo (A lo) = c) : ov (va_up g lo c) A (lo + 1) hi = ov g A lo hi := by
  funext k
  by_cases e : k = lo
  · subst e; rw [ov_no (by omega), va_up_self, ov_in (by omega) h, hc]
  · by_cases e2 : lo + 1 ≤ k ∧ k < hi
    · rw [ov_in e2.1 e2.2, ov_in (by omega) e2.2]
    · rw [ov_no (by omega), ov_no (by omega), va_up_ne _ _ e]
/-- a cell that is hidden -/
theorem ov_hid {g : Mem} {A : Nat → Nat → Int} {lo hi a : Nat} {c : Cel} (h : lo ≤ a ∧ a < hi) : ov (va_up g a c) A lo hi = ov g A lo hi := by
  funext k
  by_cases e2 : lo ≤ k ∧ k < hi
  · rw [ov_in e2.1 e2.2, ov_in e2.1 e2.2]
  · rw [ov_no (by omega), ov_no (by omega), va_up_ne _ _ (by omega)]
theorem ov_ov {g : Mem} {A : Nat → Nat → Int} {lo mid hi : Nat} (h : lo ≤ mid ∧ mid ≤ hi) : ov (ov g A lo mid) A mid hi = ov g A lo hi := by
  funext k
  by_cases e2 : mid ≤ k ∧ k < hi
  · rw [ov_in e2.1 e2.2, ov_in (by omega) e2.2]
  · rw [ov_no (by omega)]
    by_cases e3 : lo ≤ k ∧ k < mid
    · rw [ov_in e3.1 e3.2, ov_in e3.1 (by omega)]
    · rw [ov_no (by omega), ov_no (by omega)]
/-- the numbers of new cells -/
def A0 (k : Nat) : Nat → Int := if 52 ≤ k ∧ k < 68 ∧ k % 2 = 0 then up (fun _ => 0) 1 1 else fun _ => 0
theorem A0_z {k : Nat} (h : ¬ (52 ≤ k ∧ k < 68 ∧ k % 2 = 0)) : A0 k = fun _ => 0 := if_neg h
def prt (n i : Nat) (f : Nat → Nat) : List Value := (List.range n).map (fun j => if j < i then .ref (f j) else .null)
theorem prt_len (n i : Nat) (f : Nat → Nat) : (prt n i f).length = n := by simp [prt]
theorem prt_0 (n : Nat) (f : Nat → Nat) : List.replicate n Value.null = prt n 0 f := by
  apply List.ext_getElem?
  intro j
  by_cases h : j < n
  · simp [prt, h]
  · simp [prt, h]
theorem prt_set {n i : Nat} (f : Nat → Nat) (h : i < n) : (prt n i f).set i (.ref (f i)) = prt n (i + 1) f := by
  apply List.ext_getElem?
  intro j
  by_cases e : j = i
  · subst e; simp [prt, h]
  · rw [List.getElem?_set_ne (Ne.symm e)]
    by_cases hj : j < n
    · by_cases hi : j < i
      · simp [prt, hj, hi, Nat.lt_succ_of_lt hi]
      · simp [prt, hj, hi, show ¬ j < i + 1 by omega]
    · simp [prt, hj]
theorem prt_all (n : Nat) (f : Nat → Nat) : prt n n f = (List.range n).map (fun j => .ref (f j)) := by
  unfold prt
  apply List.map_congr_left
  intro j hj
  rw [if_pos (List.mem_range.mp hj)]
theorem mn_new {g : Mem} {A : Nat → Nat → Int} {q lo n : Nat} {c x : Cel} (hq : q < lo) (hlo : lo ≤ n) (hc : cel n (A n) = c) : va_up (va_up (ov g A lo n) q x) n c = va_up (ov g A lo (n + 1)) q x := by
  rw [mem_cm (by omega), ov_new hlo hc]
theorem mn_ser {g : Mem} {q lo n : Nat} {x : Cel} (hs : SerK n) (hq : q < lo) (hlo : lo ≤ n) : va_up (va_up (va_up (ov g A0 lo n) q x) n (2, [.ref (n + 1)])) (n + 1) (6, vals 10 (fun _ => 0)) = va_up (ov g A0 lo (n + 2)) q x := by
  rw [mn_new hq hlo (cel_ser hs _), mn_new hq (by omega) (by rw [cel_row hs, A0_z (by have := hs; unfold SerK at this; omega)])]
theorem c_Series {a N : Nat} {g : Mem} (hg : g a = (2, nwX3)) (hne : a ≠ N) : OkM mX3_init [.ref a] N g (N + 1) (fun r g' => r = none ∧ g' = va_up (va_up g N (6, vals 10 (fun _ => 0))) a (2, [.ref N])) := by
  refine OkM.of [some (.ref a)] (by decide +kernel) rfl (Nat.le_of_ble_eq_true rfl) ?_
  intro X E F
  refine z_aload_n E dX3_init_0 rfl ?_
  refine z_oi E dX3_init_1 oiX3 rfl (Nat.le_of_ble_eq_true rfl) (Nat.le_of_ble_eq_true rfl) ?_
  refine z_aload_n E dX3_init_4 rfl ?_
  refine z_bipush E (by decide) dX3_init_5 ?_
  refine z_newa (t := 6) (n := 10) E dX3_init_7 arI ⟨rfl, Or.inl rfl⟩ rfl (by omega) ⟨Nat.le_of_ble_eq_true rfl, Nat.le_of_ble_eq_true rfl⟩ ?_
  refine z_putF (ci := 2) E dX3_init_9 (mem_ne hne hg) ffX3_9 rfl (fun _ => rfl) (fun _ => rfl) ?_
  exact z_vret E F dX3_init_12 ⟨rfl, rfl⟩
theorem c_Sheet {a N : Nat} {g : Mem} (hg : g a = (3, nwX4)) (hne : a ≠ N) : OkM mX4_init [.ref a] N g (N + 1) (fun r g' => r = none ∧ g' = va_up (va_up g N (6, vals 20 (fun _ => 0))) a (3, [.ref N, .int (iI 1), .int (iI 0), .int (iI 0)])) := by
  refine OkM.of [some (.ref a)] (by decide +kernel) rfl (Nat.le_of_ble_eq_true rfl) ?_
  intro X E F
  refine z_aload_n E dX4_init_0 rfl ?_
  refine z_oi E dX4_init_1 oiX4 rfl (Nat.le_of_ble_eq_true rfl) (Nat.le_of_ble_eq_true rfl) ?_
  refine z_aload_n E dX4_init_4 rfl ?_
  refine z_bipush E (by decide) dX4_init_5 ?_
  refine z_newa (t := 6) (n := 20) E dX4_init_7 arI ⟨rfl, Or.inl rfl⟩ rfl (by omega) ⟨Nat.le_of_ble_eq_true rfl, Nat.le_of_ble_eq_true rfl⟩ ?_
  refine z_putF (ci := 3) E dX4_init_9 (mem_ne hne hg) ffX4_9 rfl (fun _ => rfl) (fun _ => rfl) ?_
  refine z_aload_n E dX4_init_12 rfl ?_
  refine z_iconst E dX4_init_13 ?_
  refine z_put (ci := 3) E dX4_init_14 mem_at fpX4_15 (fun _ => rfl) (fun _ => rfl) ?_
  refine z_mem (mem_uu _ _ _ _) ?_
  refine z_aload_n E dX4_init_17 rfl ?_
  refine z_iconst E dX4_init_18 ?_
  refine z_put (ci := 3) E dX4_init_19 mem_at fpX4_19 (fun _ => rfl) (fun _ => rfl) ?_
  refine z_mem (mem_uu _ _ _ _) ?_
  refine z_aload_n E dX4_init_22 rfl ?_
  refine z_iconst E dX4_init_23 ?_
  refine z_put (ci := 3) E dX4_init_24 mem_at fpX4_23 (fun _ => rfl) (fun _ => rfl) ?_
  refine z_mem (mem_uu _ _ _ _) ?_
  exact z_vret E F dX4_init_27 ⟨rfl, rfl⟩
section NEWS
variable {X : ZX} {own nm : String} {cc : ByteArray} {nL : Nat} {rm : Room} {pc : Nat} {ls : List (Option Value)} {st : List Value} {N N' : Nat} {g : Mem} {cells slots : Nat}
/-- a constructor whose contract doesn't tell the memory whole -/
theorem z_callIQ (E : Ev X own cc nL rm nm) {idx a : Nat} {y : MethodName} {bc : ByteArray} {mL : Nat} {r2 : Room} {P : Mem → Prop} (hd : decode cc pc = .ok (.invokespecial idx, 3)) (lk : LkI own idx y bc mL) (hok : OkM (y, bc, mL, none, r2) [.ref a] N g N' (fun r g2 => r = none ∧ P g2)) (hls : ls.length = nL) (hst : (st.map fun v => v.category).sum ≤ 8) (hgr : N ≤ N') (hroom : r2.frames + 1 ≤ rm.frames ∧ 8 + (mL + 11) + r2.locals ≤ rm.locals) (hcell : cells + r2.cells ≤ rm.cells ∧ slots + r2.slots ≤ rm.slots)
    (k : ∀ g', P g' → Zc X (pc + 3) ls st N' g' (cells + r2.cells) (slots + r2.slots)) : Zc X pc ls (.ref a :: st) N g cells slots := by
  obtain ⟨p, l, e, R, s, m, args, below, meth, c, Q, B⟩ := X
  obtain ⟨hx, hb, hml, hown, hts, hR, hnm, hNs⟩ := E
  subst hR
  intro H locs lsA hl hW hS
  obtain ⟨k1, k2, k3, k4, k6, k5⟩ := lk
  refine z_run (st := st) (va_runI (Ts := tblG) (b := B + a) (As := []) (rest := st.map (mv B)) (n := 0) ⟨hx, hb, hml, hown, hts⟩ (hok l B) ⟨callB_of 0 hts (mws_good k4) rfl rfl rfl (hts _ k3) (hts _ k1) k5 hroom, k6, hts _ k2⟩ ⟨wd_blind (av := [.ref a]), fun U hU hw => ⟨rfl, (congrArg (Wd B N g U) hU).mpr (hW.moved hw.alike), hNs.warm hw⟩⟩ rfl rfl (hl.1.trans hls) rfl (lv_room (by rw [cats_mv]; exact hst)) hd hcell) hl hW hS hgr ?_
  rintro r g2 ⟨rfl, hP⟩
  exact k g2 hP
/-- a new SERIES -/
theorem z_newS (E : Ev X own cc nL rm nm) {iN iC : Nat} (hd1 : decode cc pc = .ok (.new iN, 3)) (hd2 : decode cc (pc + 3) = .ok (.dup, 1)) (hd3 : decode cc (pc + 3 + 1) = .ok (.invokespecial iC, 3)) (hf : Fn own iN 2 nwX3) (lk : LkN own iC yX3_init cX3_init 1) (hls : ls.length = nL) (hst : (st.map fun v => v.category).sum ≤ 7) (hroom : 2 ≤ rm.frames ∧ 40 ≤ rm.locals) (hcell : cells + 2 ≤ rm.cells ∧ slots + 11 ≤ rm.slots)
    (k : Zc X (pc + 3 + 1 + 3) ls (.ref N :: st) (N + 2) (va_up (va_up g N (2, [.ref (N + 1)])) (N + 1) (6, vals 10 (fun _ => 0))) (cells + 2) (slots + 11)) : Zc X pc ls st N g cells slots := by
  refine z_new E hd1 hf ⟨by omega, by show slots + 1 ≤ _; omega⟩ ?_
  refine z_dup E hd2 rfl ?_
  refine z_callN (st := .ref N :: st) (N' := N + 2) (r2 := mX3_init.2.2.2.2) E hd3 lk (c_Series mem_at (by omega)) hls (by rw [List.map_cons, List.sum_cons]; show 1 + _ ≤ 8; omega) (by omega) ⟨by show 1 + 1 ≤ _; omega, by show 8 + (1 + 11) + 20 ≤ _; omega⟩ ⟨by show cells + 1 + 1 ≤ _; omega, by show slots + 1 + 10 ≤ _; omega⟩ ?_
  refine z_mem ?_ k
  rw [mem_cm (a := N + 1) (b := N) (by omega), mem_uu]
/-- rows over memory that is being made -/
theorem o_iald (E : Ev X own cc nL rm nm) {A : Nat → Nat → Int} {lo hi a j n : Nat} {x : Int} (hd : decode cc pc = .ok (.iaload, 1)) (hk : ∀ f, cel a f = (6, vals n f)) (h1 : lo ≤ a) (h2 : a < hi) (hj : x = (j : Int)) (hn : j < n) (hb : j < 2147483648) (k : Zc X (pc + 1) ls (.int (iI (A a j)) :: st) N (ov g A lo hi) cells slots) : Zc X pc ls (.int (iI x) :: .ref a :: st) N (ov g A lo hi) cells slots :=
  z_iald E hd ((ov_in h1 h2).trans (hk (A a))) hj hb (vals_at _ hn) k
theorem o_iast (E : Ev X own cc nL rm nm) {A : Nat → Nat → Int} {lo hi a j n : Nat} {x y : Int} (hd : decode cc pc = .ok (.iastore, 1)) (hk : ∀ f, cel a f = (6, vals n f)) (h1 : lo ≤ a) (h2 : a < hi) (hj : x = (j : Int)) (hn : j < n) (hb : j < 2147483648) (k : Zc X (pc + 1) ls st N (ov g (va_up A a (up (A a) j y)) lo hi) cells slots) : Zc X pc ls (.int (iI y) :: .int (iI x) :: .ref a :: st) N (ov g A lo hi) cells slots := by
  refine z_iast E hd ((ov_in h1 h2).trans (hk (A a))) hj hb (by rw [vals_len]; exact hn) ?_
  rw [vals_set, ov_up h1 h2 (hk _)]
  exact k
theorem o_aald (E : Ev X own cc nL rm nm) {A : Nat → Nat → Int} {lo hi a j n t : Nat} {x : Int} {r : Nat → Nat} (hd : decode cc pc = .ok (.aaload, 1)) (hk : cel a (A a) = (t, (List.range n).map (fun i => .ref (r i)))) (ht : 8 ≤ t ∧ t < 12) (h1 : lo ≤ a) (h2 : a < hi) (hj : x = (j : Int)) (hn : j < n) (hb : j < 2147483648) (k : Zc X (pc + 1) ls (.ref (r j) :: st) N (ov g A lo hi) cells slots) : Zc X pc ls (.int (iI x) :: .ref a :: st) N (ov g A lo hi) cells slots :=
  z_aald E ht hd ((ov_in h1 h2).trans hk) hj hb (by simp [hn]) k
end NEWS
theorem c_Ladder {q : Nat} (hq : q < 4) {a : Nat} (ha : a = 68 + 22 * q) {g : Mem} (hg : g a = (1, nwX1)) : OkM mX1_init [.ref a] (a + 1) g (a + 22) (fun r g' => r = none ∧ g' = ov g A0 a (a + 22)) := by
  refine OkM.of [some (.ref a), none] (by decide +kernel) rfl (Nat.le_of_ble_eq_true rfl) ?_
  intro X E F
  refine z_aload_n E dX1_init_0 rfl ?_
  refine z_oi E dX1_init_1 oiX1 rfl (Nat.le_of_ble_eq_true rfl) (Nat.le_of_ble_eq_true rfl) ?_
  refine z_aload_n E dX1_init_4 rfl ?_
  refine z_bipush E (by decide) dX1_init_5 ?_
  refine z_anew (t := 11) (n := 10) E dX1_init_7 clX1_9 aoX3 rfl (by omega) rfl (by omega) ⟨Nat.le_of_ble_eq_true rfl, Nat.le_of_ble_eq_true rfl⟩ ?_
  refine z_putF (ci := 1) E dX1_init_10 (mem_ne (by omega) hg) ffX1_11 rfl (fun _ => rfl) (fun _ => rfl) ?_
  refine z_aload_n E dX1_init_13 rfl ?_
  refine z_iconst E dX1_init_14 ?_
  refine z_put (ci := 1) E dX1_init_15 mem_at fpX1_17 (fun _ => rfl) (fun _ => rfl) ?_
  refine z_mem (mem_uu _ _ _ _) ?_
  refine z_iconst E dX1_init_18 ?_
  refine z_istore_n (ls' := [_, _]) E rfl dX1_init_19 (Nat.le_of_ble_eq_true rfl) rfl ?_
  have loop : ∀ (mm i : Nat), i + mm = 10 → ∀ N, N = a + 2 + 2 * i → ∀ M : Mem, M = va_up (ov (va_up g a (1, [.ref (a + 1), .int (iI 0)])) A0 (a + 2) N) (a + 1) (11, prt 10 i (fun n => a + 2 + 2 * n)) → ∀ cl sl : Nat, cl = 1 + 2 * i → sl = 10 + 11 * i → Zc X 20 [some (.ref a), some (.int (iI (i : Int)))] [] N M cl sl := by
    intro mm
    induction mm with
    | zero =>
      intro i hi N hN M hM cl sl hcl hsl
      obtain rfl : i = 10 := by omega
      subst hcl; subst hsl
      obtain rfl : N = a + 22 := by omega
      refine z_iload_n E dX1_init_20 rfl ?_
      refine z_bipush E (by decide) dX1_init_21 ?_
      refine z_icmp_ge (tgt := 45) E (by omega) (by omega) dX1_init_23 (by decide) (fun h23 => ?_) (fun hq => False.elim (by omega))
      refine z_vret E F dX1_init_45 ⟨rfl, ?_⟩
      rw [hM, prt_all, ov_out (by omega)]
      refine (ov_dn (lo := a + 1) (by omega) ?_).trans (ov_dn (lo := a) (by omega) ?_)
      · subst ha; rw [show 68 + 22 * q + 1 = 69 + 22 * q by omega, cel_steps hq, show 68 + 22 * q + 2 = 70 + 22 * q by omega]
      · subst ha; rw [cel_lad hq, A0_z (by omega), show 69 + 22 * q = 68 + 22 * q + 1 by omega]
    | succ mm ih =>
      intro i hi N hN M hM cl sl hcl hsl
      refine z_iload_n E dX1_init_20 rfl ?_
      refine z_bipush E (by decide) dX1_init_21 ?_
      refine z_icmp_ge (tgt := 45) E (by omega) (by omega) dX1_init_23 (by decide) (fun hq => False.elim (by omega)) (fun h23 => ?_)
      refine z_aload_n E dX1_init_26 rfl ?_
      refine z_get E dX1_init_27 (by rw [hM, va_up_ne _ _ (by omega), ov_no (by omega), va_up_self]) flX1_11 (by rfl) ?_
      refine z_iload_n E dX1_init_30 rfl ?_
      refine z_newS E dX1_init_31 dX1_init_34 dX1_init_35 fnX1_9 lnX1_21 rfl (Nat.le_of_ble_eq_true rfl) ⟨Nat.le_of_ble_eq_true rfl, Nat.le_of_ble_eq_true rfl⟩ ⟨by show cl + 2 ≤ 21; omega, by show sl + 11 ≤ 120; omega⟩ ?_
      have hser : SerK N := by subst hN; subst ha; rw [show 68 + 22 * q + 2 + 2 * i = 70 + 22 * q + 2 * i by omega]; exact ser_step (k := q) (n := i) hq (by omega)
      refine z_mem (show _ = va_up (ov (va_up g a (1, [.ref (a + 1), .int (iI 0)])) A0 (a + 2) (N + 2)) (a + 1) (11, prt 10 i (fun n => a + 2 + 2 * n)) by rw [hM, mn_ser hser (by omega) (by omega)]) ?_
      refine z_aast (ci := 2) (j := i) (fs := [.ref (N + 1)]) E dX1_init_38 rfl rfl (by omega) mem_at (by rw [va_up_ne _ _ (by omega), ov_in (by omega) (by omega), cel_ser hser]) rfl (by omega) (by rw [prt_len]; omega) ?_
      refine z_mem (mem_uu _ _ _ _) ?_
      refine z_iinc (ls' := [_, _]) E dX1_init_39 rfl rfl ?_
      refine z_goto (tgt := 20) E dX1_init_42 (by decide) ?_
      refine ih (i + 1) (by omega) (N + 2) (by omega) _ ?_ _ _ (by omega) (by omega)
      rw [← prt_set _ (by omega), hN]
  refine loop 10 0 rfl _ rfl _ ?_ _ _ rfl rfl
  rw [ov_self, prt_0 10 (fun n => a + 2 + 2 * n), mem_cm (by omega)]
  rfl
