/-! the memory behind the two constructors: cell k is told by k and its numbers A k -/
def cel (k : Nat) (f : Nat → Int) : Cel :=
  if k < 52 then
    (if k = 0 then (4, [.ref 1, .ref 2, .ref 3, .ref 40, .ref 42, .ref 44, .ref 46, .ref 48, .ref 50, .int (iI (f 9))])
     else if k = 1 then (9, (List.range 8).map (fun s => .ref (52 + 2 * s)))
     else if k = 2 then (10, (List.range 4).map (fun s => .ref (68 + 22 * s)))
     else if k = 3 then (0, [.ref 4, .ref 5, .ref 6, .ref 7, .ref 18, .ref 29, .ref 30, .ref 32, .ref 34, .ref 36, .ref 38])
     else if k = 4 then (6, vals 11 f)
     else if k < 7 then (6, vals 10 f)
     else if k = 7 then (8, (List.range 10).map (fun n => .ref (8 + n)))
     else if k < 18 then (6, vals 10 f)
     else if k = 18 then (8, (List.range 10).map (fun n => .ref (19 + n)))
     else if k < 29 then (6, vals 19 f)
     else if k = 29 then (6, vals 10 f)
     else if k % 2 = 0 then (2, [.ref (k + 1)]) else (6, vals 10 f))
  else if k < 68 then (if k % 2 = 0 then (3, [.ref (k + 1), .int (iI (f 1)), .int (iI (f 2)), .int (iI (f 3))]) else (6, vals 20 f))
  else if k < 156 then
    (if (k - 68) % 22 = 0 then (1, [.ref (k + 1), .int (iI (f 1))])
     else if (k - 68) % 22 = 1 then (11, (List.range 10).map (fun n => .ref (k + 1 + 2 * n)))
     else if k % 2 = 0 then (2, [.ref (k + 1)]) else (6, vals 10 f))
  else if k = 156 then (5, [.ref 157, .ref 158, .ref 159, .ref 160, .ref 161, .int (iI (f 5)), .ref 162, .ref 163, .ref 164, .ref 165, .ref 166, .ref 167, .ref 168, .ref 169, .ref 170, .ref 171])
  else if k = 157 then (7, vals 8 f)
  else if k < 160 then (6, vals 8 f)
  else if k = 160 then (6, vals 160 f)
  else if k = 161 then (6, vals 20 f)
  else if k < 170 then (6, vals 10 f)
  else if k = 170 then (7, vals 4 f)
  else if k = 171 then (6, vals 400 f)
  else (99, [])
def mA (A : Nat → Nat → Int) : Mem := fun k => cel k (A k)
theorem mA_up (A : Nat → Nat → Int) (k : Nat) (f : Nat → Int) : va_up (mA A) k (cel k f) = mA (va_up A k f) := by
  funext j
  by_cases e : j = k
  · subst e; simp [mA, va_up]
  · simp [mA, va_up, e]
/-- the cells that are a SERIES: the object k, its row k + 1 -/
def SerK (k : Nat) : Prop := k % 2 = 0 ∧ ((30 ≤ k ∧ k < 52) ∨ (68 ≤ k ∧ k < 156 ∧ (k - 68) % 22 ≠ 0))
theorem cel_ser {k : Nat} (h : SerK k) (f : Nat → Int) : cel k f = (2, [.ref (k + 1)]) := by
  obtain ⟨h2, h | ⟨h3, h4, h5⟩⟩ := h
  · unfold cel
    rw [if_pos (by omega), if_neg (by omega), if_neg (by omega), if_neg (by omega), if_neg (by omega), if_neg (by omega), if_neg (by omega), if_neg (by omega), if_neg (by omega), if_neg (by omega), if_neg (by omega), if_neg (by omega), if_pos h2]
  · unfold cel
    rw [if_neg (by omega), if_neg (by omega), if_pos (by omega), if_neg h5, if_neg (by omega), if_pos h2]
theorem cel_row {k : Nat} (h : SerK k) (f : Nat → Int) : cel (k + 1) f = (6, vals 10 f) := by
  obtain ⟨h2, h | ⟨h3, h4, h5⟩⟩ := h
  · unfold cel
    rw [if_pos (by omega), if_neg (by omega), if_neg (by omega), if_neg (by omega), if_neg (by omega), if_neg (by omega), if_neg (by omega), if_neg (by omega), if_neg (by omega), if_neg (by omega), if_neg (by omega), if_neg (by omega), if_neg (by omega)]
  · unfold cel
    rw [if_neg (by omega), if_neg (by omega), if_pos (by omega), if_neg (by omega), if_neg (by omega), if_neg (by omega)]
theorem cel_sheet {s : Nat} (h : s < 8) (f : Nat → Int) : cel (52 + 2 * s) f = (3, [.ref (53 + 2 * s), .int (iI (f 1)), .int (iI (f 2)), .int (iI (f 3))]) := by
  unfold cel
  rw [if_neg (by omega), if_pos (by omega), if_pos (by omega), show 52 + 2 * s + 1 = 53 + 2 * s by omega]
theorem cel_items {s : Nat} (h : s < 8) (f : Nat → Int) : cel (53 + 2 * s) f = (6, vals 20 f) := by
  unfold cel
  rw [if_neg (by omega), if_pos (by omega), if_neg (by omega)]
theorem cel_lad {k : Nat} (h : k < 4) (f : Nat → Int) : cel (68 + 22 * k) f = (1, [.ref (69 + 22 * k), .int (iI (f 1))]) := by
  unfold cel
  rw [if_neg (by omega), if_neg (by omega), if_pos (by omega), if_pos (by omega), show 68 + 22 * k + 1 = 69 + 22 * k by omega]
theorem cel_steps {k : Nat} (h : k < 4) (f : Nat → Int) : cel (69 + 22 * k) f = (11, (List.range 10).map (fun n => .ref (70 + 22 * k + 2 * n))) := by
  unfold cel
  rw [if_neg (by omega), if_neg (by omega), if_pos (by omega), if_neg (by omega), if_pos (by omega), show 69 + 22 * k + 1 = 70 + 22 * k by omega]
theorem ser_step {k n : Nat} (h : k < 4) (hn : n < 10) : SerK (70 + 22 * k + 2 * n) := ⟨by omega, Or.inr ⟨by omega, by omega, by omega⟩⟩
theorem refs_at {n m j : Nat} {f : Nat → Nat} (h : j < n) : ((List.range n).map (fun i => Value.ref (f i)))[j]? = some (.ref (f j)) := by simp [h]
/-! rows over it -/
section AROWS
variable {X : ZX} {own nm : String} {cc : ByteArray} {nL : Nat} {rm : Room} {pc : Nat} {ls : List (Option Value)} {st : List Value} {N : Nat} {A : Nat → Nat → Int} {cells slots : Nat}
theorem a_iald (E : Ev X own cc nL rm nm) {a j n : Nat} {x : Int} (hd : decode cc pc = .ok (.iaload, 1)) (hk : ∀ f, cel a f = (6, vals n f)) (hj : x = (j : Int)) (hn : j < n) (hb : j < 2147483648) (k : Zc X (pc + 1) ls (.int (iI (A a j)) :: st) N (mA A) cells slots) : Zc X pc ls (.int (iI x) :: .ref a :: st) N (mA A) cells slots :=
  z_iald E hd (hk (A a)) hj hb (vals_at _ hn) k
theorem a_zald (E : Ev X own cc nL rm nm) {a j n : Nat} {x : Int} (hd : decode cc pc = .ok (.baload, 1)) (hk : ∀ f, cel a f = (7, vals n f)) (hj : x = (j : Int)) (hn : j < n) (hb : j < 2147483648) (k : Zc X (pc + 1) ls (.int (iI (A a j)) :: st) N (mA A) cells slots) : Zc X pc ls (.int (iI x) :: .ref a :: st) N (mA A) cells slots :=
  z_zald E hd (hk (A a)) hj hb (vals_at _ hn) k
theorem a_iast (E : Ev X own cc nL rm nm) {a j n : Nat} {x y : Int} (hd : decode cc pc = .ok (.iastore, 1)) (hk : ∀ f, cel a f = (6, vals n f)) (hj : x = (j : Int)) (hn : j < n) (hb : j < 2147483648) (k : Zc X (pc + 1) ls st N (mA (va_up A a (up (A a) j y))) cells slots) : Zc X pc ls (.int (iI y) :: .int (iI x) :: .ref a :: st) N (mA A) cells slots := by
  refine z_iast E hd (hk (A a)) hj hb (by rw [vals_len]; exact hn) ?_
  rw [vals_set, ← hk, mA_up]
  exact k
theorem a_zast (E : Ev X own cc nL rm nm) {a j n : Nat} {x y : Int} (hd : decode cc pc = .ok (.bastore, 1)) (hy : y = 0 ∨ y = 1) (hk : ∀ f, cel a f = (7, vals n f)) (hj : x = (j : Int)) (hn : j < n) (hb : j < 2147483648) (k : Zc X (pc + 1) ls st N (mA (va_up A a (up (A a) j y))) cells slots) : Zc X pc ls (.int (iI y) :: .int (iI x) :: .ref a :: st) N (mA A) cells slots := by
  refine z_zast E hd (by rcases hy with rfl | rfl <;> decide) (hk (A a)) hj hb (by rw [vals_len]; exact hn) ?_
  rw [vals_set, ← hk, mA_up]
  exact k
theorem a_aald (E : Ev X own cc nL rm nm) {a j n t : Nat} {x : Int} {r : Nat → Nat} (hd : decode cc pc = .ok (.aaload, 1)) (hk : cel a (A a) = (t, (List.range n).map (fun i => .ref (r i)))) (ht : 8 ≤ t ∧ t < 12) (hj : x = (j : Int)) (hn : j < n) (hb : j < 2147483648) (k : Zc X (pc + 1) ls (.ref (r j) :: st) N (mA A) cells slots) : Zc X pc ls (.int (iI x) :: .ref a :: st) N (mA A) cells slots :=
  z_aald E ht hd hk hj hb (by simp [hn]) k
/-- a number in a field -/
theorem a_put (E : Ev X own cc nL rm nm) {idx a ci j : Nat} {fs : List Value} {y : Int} (hd : decode cc pc = .ok (.putfield idx, 3)) (hf : Fp own idx ci j .int) (hg : cel a (A a) = (ci, fs)) (hs : (ci, fs.set j (.int (iI y))) = cel a (up (A a) j y)) (k : Zc X (pc + 3) ls st N (mA (va_up A a (up (A a) j y))) cells slots) : Zc X pc ls (.int (iI y) :: .ref a :: st) N (mA A) cells slots := by
  refine z_put E hd hg hf (fun _ => rfl) (fun _ => rfl) ?_
  rw [hs, mA_up]
  exact k
theorem a_putZ (E : Ev X own cc nL rm nm) {idx a ci j : Nat} {fs : List Value} {y : Int} (hd : decode cc pc = .ok (.putfield idx, 3)) (hf : Fp own idx ci j .boolean) (hy : y = 0 ∨ y = 1) (hg : cel a (A a) = (ci, fs)) (hs : (ci, fs.set j (.int (iI y))) = cel a (up (A a) j y)) (k : Zc X (pc + 3) ls st N (mA (va_up A a (up (A a) j y))) cells slots) : Zc X pc ls (.int (iI y) :: .ref a :: st) N (mA A) cells slots := by
  refine z_put E hd hg hf (fun _ => by rcases hy with rfl | rfl <;> rfl) (fun _ => by rcases hy with rfl | rfl <;> rfl) ?_
  rw [hs, mA_up]
  exact k
/-- calls that answer a value, calls that answer none -/
theorem c_S (E : Ev X own cc nL rm nm) {idx n : Nat} {M : Md} {av stk : List Value} {v : Value} {g g' : Mem} (hd : decode cc pc = .ok (.invokestatic idx, 3)) (lk : LkS own idx M n) (hok : OkR M av N g (some v) g') (hstk : av.reverse ++ st = stk) (hn : av.length = n) (hls : ls.length = nL) (hst : (st.map fun v => v.category).sum ≤ 8)
    (hroom : M.2.2.2.2.frames + 1 ≤ rm.frames ∧ 8 + (M.2.2.1 + 11) + M.2.2.2.2.locals ≤ rm.locals) (h00 : M.2.2.2.2.cells = 0 ∧ M.2.2.2.2.slots = 0) (hcell : cells ≤ rm.cells ∧ slots ≤ rm.slots)
    (k : Zc X (pc + 3) ls (v :: st) N g' cells slots) : Zc X pc ls stk N g cells slots := by
  subst hstk
  exact z_cS E hd lk hok hn hls hst hroom h00.1 h00.2 hcell k
theorem c_S0 (E : Ev X own cc nL rm nm) {idx n : Nat} {M : Md} {av stk : List Value} {g g' : Mem} (hd : decode cc pc = .ok (.invokestatic idx, 3)) (lk : LkS own idx M n) (hok : OkR M av N g none g') (hstk : av.reverse ++ st = stk) (hn : av.length = n) (hls : ls.length = nL) (hst : (st.map fun v => v.category).sum ≤ 8)
    (hroom : M.2.2.2.2.frames + 1 ≤ rm.frames ∧ 8 + (M.2.2.1 + 11) + M.2.2.2.2.locals ≤ rm.locals) (h00 : M.2.2.2.2.cells = 0 ∧ M.2.2.2.2.slots = 0) (hcell : cells ≤ rm.cells ∧ slots ≤ rm.slots)
    (k : Zc X (pc + 3) ls st N g' cells slots) : Zc X pc ls stk N g cells slots := by
  subst hstk
  exact z_cS E hd lk hok hn hls hst hroom h00.1 h00.2 hcell k
theorem c_V (E : Ev X own cc nL rm nm) {idx n ci a : Nat} {fs : List Value} {M : Md} {av stk : List Value} {v : Value} {g g' : Mem} (hd : decode cc pc = .ok (.invokevirtual idx, 3)) (lk : LkV own idx M n ci) (hok : OkR M (.ref a :: av) N g (some v) g') (hg : g a = (ci, fs)) (hstk : av.reverse ++ .ref a :: st = stk) (hn : av.length = n) (hls : ls.length = nL) (hst : (st.map fun v => v.category).sum ≤ 8)
    (hroom : M.2.2.2.2.frames + 1 ≤ rm.frames ∧ 8 + (M.2.2.1 + 11) + M.2.2.2.2.locals ≤ rm.locals) (h00 : M.2.2.2.2.cells = 0 ∧ M.2.2.2.2.slots = 0) (hcell : cells ≤ rm.cells ∧ slots ≤ rm.slots)
    (k : Zc X (pc + 3) ls (v :: st) N g' cells slots) : Zc X pc ls stk N g cells slots := by
  subst hstk
  exact z_cV E hd lk hg hok hn hls hst hroom h00.1 h00.2 hcell k
theorem c_V0 (E : Ev X own cc nL rm nm) {idx n ci a : Nat} {fs : List Value} {M : Md} {av stk : List Value} {g g' : Mem} (hd : decode cc pc = .ok (.invokevirtual idx, 3)) (lk : LkV own idx M n ci) (hok : OkR M (.ref a :: av) N g none g') (hg : g a = (ci, fs)) (hstk : av.reverse ++ .ref a :: st = stk) (hn : av.length = n) (hls : ls.length = nL) (hst : (st.map fun v => v.category).sum ≤ 8)
    (hroom : M.2.2.2.2.frames + 1 ≤ rm.frames ∧ 8 + (M.2.2.1 + 11) + M.2.2.2.2.locals ≤ rm.locals) (h00 : M.2.2.2.2.cells = 0 ∧ M.2.2.2.2.slots = 0) (hcell : cells ≤ rm.cells ∧ slots ≤ rm.slots)
    (k : Zc X (pc + 3) ls st N g' cells slots) : Zc X pc ls stk N g cells slots := by
  subst hstk
  exact z_cV E hd lk hg hok hn hls hst hroom h00.1 h00.2 hcell k
end AROWS
theorem OkM.weak {M : Md} {av : List Value} {N N' : Nat} {g : Mem} {P P' : Option Value → Mem → Prop} (h : OkM M av N g N' P) (hp : ∀ r g', P r g' → P' r g') : OkM M av N g N' P' := by
  intro l B p e ha hc hk s m args below hf happ hpre hkk
  obtain ⟨k, o, h1, h2, h3, ⟨hq, hr⟩⟩ := h l B p e ha hc hk s m args below hf happ hpre hkk
  obtain ⟨r, g', e1, e2, e3⟩ := hq
  exact ⟨k, o, h1, h2, h3, ⟨r, g', e1, hp r g' e2, e3⟩, hr⟩
