/-! numbers: an int is iI of an integer, a long lI of one -/
def iI (z : Int) : Int32 := Int32.ofInt z
def lI (z : Int) : Int64 := Int64.ofInt z
abbrev inR (z : Int) : Prop := -2147483648 ≤ z ∧ z < 2147483648
abbrev inL (z : Int) : Prop := -9223372036854775808 ≤ z ∧ z < 9223372036854775808
theorem iI_add (a b : Int) : iI a + iI b = iI (a + b) := (Int32.ofInt_add a b).symm
theorem iI_sub (a b : Int) : iI a - iI b = iI (a - b) := (Int32.ofInt_sub a b).symm
theorem iI_mul (a b : Int) : iI a * iI b = iI (a * b) := (Int32.ofInt_mul a b).symm
theorem iI_neg (a : Int) : -iI a = iI (-a) := (Int32.ofInt_neg a).symm
theorem lI_add (a b : Int) : lI a + lI b = lI (a + b) := (Int64.ofInt_add a b).symm
theorem lI_sub (a b : Int) : lI a - lI b = lI (a - b) := (Int64.ofInt_sub a b).symm
theorem lI_mul (a b : Int) : lI a * lI b = lI (a * b) := (Int64.ofInt_mul a b).symm
theorem lI_neg (a : Int) : -lI a = lI (-a) := (Int64.ofInt_neg a).symm
theorem iI_toInt {a : Int} (h : inR a) : (iI a).toInt = a := Int32.toInt_ofInt_of_le h.1 h.2
theorem lI_toInt {a : Int} (h : inL a) : (lI a).toInt = a := Int64.toInt_ofInt_of_le h.1 h.2
theorem iI_self (x : Int32) : iI x.toInt = x := Int32.ofInt_toInt x
theorem inR_toInt (x : Int32) : inR x.toInt := ⟨Int32.le_toInt x, Int32.toInt_lt x⟩
theorem iI_lt {a b : Int} (ha : inR a) (hb : inR b) : iI a < iI b ↔ a < b := by rw [Int32.lt_iff_toInt_lt, iI_toInt ha, iI_toInt hb]
theorem iI_le {a b : Int} (ha : inR a) (hb : inR b) : iI a ≤ iI b ↔ a ≤ b := by rw [Int32.le_iff_toInt_le, iI_toInt ha, iI_toInt hb]
theorem iI_eq {a b : Int} (ha : inR a) (hb : inR b) : iI a = iI b ↔ a = b := by rw [← Int32.toInt_inj, iI_toInt ha, iI_toInt hb]
theorem lI_lt {a b : Int} (ha : inL a) (hb : inL b) : lI a < lI b ↔ a < b := by rw [Int64.lt_iff_toInt_lt, lI_toInt ha, lI_toInt hb]
theorem lI_eq {a b : Int} (ha : inL a) (hb : inL b) : lI a = lI b ↔ a = b := by rw [← Int64.toInt_inj, lI_toInt ha, lI_toInt hb]
theorem iI_0 : iI 0 = 0 := rfl
theorem lI_0 : lI 0 = 0 := rfl
theorem iI_clamp {a : Int} {j : Nat} (h : a = j) (hj : j < 2147483648) : (iI a).toNatClampNeg = j := by
  show (iI a).toInt.toNat = j
  rw [iI_toInt ⟨by omega, by omega⟩]
  omega
theorem iI_idx {a : Int} {j n : Nat} (h : a = j) (hn : j < n) (hj : j < 2147483648) : ¬ (iI a < 0 ∨ n ≤ (iI a).toNatClampNeg) := by
  rw [iI_clamp h hj]
  rintro (h1 | h1)
  · rw [← iI_0, iI_lt ⟨by omega, by omega⟩ ⟨by omega, by omega⟩] at h1
    omega
  · omega
theorem iI_rem {a b : Int} (ha : inR a) (hb : inR b) (h0 : 0 < b) : iI a - iI a / iI b * iI b = iI (a.tmod b) := by
  have hd : iI a / iI b = iI (a.tdiv b) := by
    rw [← Int32.toInt_inj, Int32.toInt_div, iI_toInt ha, iI_toInt hb]
    show _ = (Int32.ofInt _).toInt
    rw [Int32.toInt_ofInt]
  rw [hd, iI_mul, iI_sub, Int.tmod_def, Int.mul_comm b]
theorem iI_div {a b : Int} (ha : inR a) (hb : inR b) (h0 : 0 < b) : iI a / iI b = iI (a.tdiv b) := by
  rw [← Int32.toInt_inj, Int32.toInt_div, iI_toInt ha, iI_toInt hb]
  show _ = (Int32.ofInt _).toInt
  rw [Int32.toInt_ofInt]
theorem lI_rem {a b : Int} (ha : inL a) (hb : inL b) (h0 : 0 < b) : lI a - lI a / lI b * lI b = lI (a.tmod b) := by
  have hd : lI a / lI b = lI (a.tdiv b) := by
    rw [← Int64.toInt_inj, Int64.toInt_div, lI_toInt ha, lI_toInt hb]
    show _ = (Int64.ofInt _).toInt
    rw [Int64.toInt_ofInt]
  rw [hd, lI_mul, lI_sub, Int.tmod_def, Int.mul_comm b]
theorem i2l_I {a : Int} (ha : inR a) : (iI a).toInt64 = lI a := by
  rw [← Int64.toInt_inj, Int32.toInt_toInt64, iI_toInt ha, lI_toInt ⟨by omega, by omega⟩]
theorem l2i_I (a : Int) : (lI a).toInt32 = iI a := by
  rw [← Int32.toInt_inj, Int64.toInt_toInt32]
  show ((Int64.ofInt a).toInt).bmod _ = (Int32.ofInt a).toInt
  rw [Int64.toInt_ofInt, Int32.toInt_ofInt]
  exact Int.bmod_bmod_of_dvd (by decide)
theorem i2b_I (a : Int) : (iI a).toInt8.toInt32 = iI (a.bmod 256) := by
  rw [← Int32.toInt_inj, Int8.toInt_toInt32, Int32.toInt_toInt8]
  show ((Int32.ofInt a).toInt).bmod _ = (Int32.ofInt _).toInt
  rw [Int32.toInt_ofInt, Int32.toInt_ofInt_of_le]
  · exact Int.bmod_bmod_of_dvd (by decide)
  · have := @Int.le_bmod a 256 (by decide); omega
  · have := @Int.bmod_lt a 256 (by decide); omega
theorem i2s_I (a : Int) : (iI a).toInt16.toInt32 = iI (a.bmod 65536) := by
  rw [← Int32.toInt_inj, Int16.toInt_toInt32, Int32.toInt_toInt16]
  show ((Int32.ofInt a).toInt).bmod _ = (Int32.ofInt _).toInt
  rw [Int32.toInt_ofInt, Int32.toInt_ofInt_of_le]
  · exact Int.bmod_bmod_of_dvd (by decide)
  · have := @Int.le_bmod a 65536 (by decide); omega
  · have := @Int.bmod_lt a 65536 (by decide); omega
theorem lcmp_lt {a b : Int} (ha : inL a) (hb : inL b) : lg_cmp (lI a) (lI b) = iI (if b < a then 1 else if a = b then 0 else -1) := by
  unfold lg_cmp
  simp only [lI_lt hb ha, lI_eq ha hb, gt_iff_lt]
  by_cases h1 : b < a
  · simp [h1]; rfl
  · by_cases h2 : a = b
    · simp [h2]; rfl
    · simp [h1, h2]; rfl
/-- an array of ints by a function -/
def vals (n : Nat) (h : Nat → Int) : List Value := (List.range n).map (fun j => .int (iI (h j)))
theorem vals_len (n : Nat) (h : Nat → Int) : (vals n h).length = n := by simp [vals]
theorem vals_at {n j : Nat} (h : Nat → Int) (hj : j < n) : (vals n h)[j]? = some (.int (iI (h j))) := by simp [vals, hj]
def up (h : Nat → Int) (k : Nat) (x : Int) : Nat → Int := fun j => if j = k then x else h j
theorem up_eq (h : Nat → Int) (k : Nat) (x : Int) : up h k x k = x := by simp [up]
theorem up_ne (h : Nat → Int) {k j : Nat} (x : Int) (e : j ≠ k) : up h k x j = h j := by simp [up, e]
theorem vals_set (n k : Nat) (h : Nat → Int) (x : Int) : (vals n h).set k (.int (iI x)) = vals n (up h k x) := by
  apply List.ext_getElem?
  intro j
  by_cases e : k = j
  · subst e
    by_cases hk : k < n
    · rw [List.getElem?_set_self (by rw [vals_len]; exact hk), vals_at _ hk, up_eq]
    · rw [List.getElem?_eq_none (by simp [vals]; omega), List.getElem?_eq_none (by simp [vals]; omega)]
  · rw [List.getElem?_set_ne e]
    by_cases hj : j < n
    · rw [vals_at _ hj, vals_at _ hj, up_ne _ _ (Ne.symm e)]
    · rw [List.getElem?_eq_none (by simp [vals]; omega), List.getElem?_eq_none (by simp [vals]; omega)]
theorem vals_congr {n : Nat} {h h' : Nat → Int} (e : ∀ j, j < n → h j = h' j) : vals n h = vals n h' := by
  unfold vals
  apply List.map_congr_left
  intro j hj
  rw [e j (List.mem_range.mp hj)]
theorem mem_at {g : Mem} {k : Nat} {c : Cel} : va_up g k c k = c := va_up_self g k c
theorem mem_ne {g : Mem} {k j : Nat} {c c' : Cel} (e : j ≠ k) (h : g j = c') : va_up g k c j = c' := by rw [va_up_ne _ _ e]; exact h
theorem mem_uu (g : Mem) (k : Nat) (c c' : Cel) : va_up (va_up g k c) k c' = va_up g k c' := bx_uu g k c c'
