/-! the judgement and its rows -/
def tblG : List Cond := lw_tbl.filter goodWord
def aoI (U : State) : Prop := (Cond.arrayOver (.array .int)).before #[] U = true
theorem aoI.moved {u U : State} (hvm : u.vm.Alike U.vm) (h : aoI u) : aoI U := by
  obtain ⟨comp, c, k, h1, h2, h3, h4, h5⟩ := arrayOverA_spec (args := #[]) (first := u) (o := none) (idx := []) h
  obtain ⟨k', hk', he⟩ := hvm.2.2 _ _ h3
  have hi : (U.vm.classes.findIdx? fun (x : Class) => match x.kind with | .array component _ => component == comp | _ => false) = some c := by
    refine Eq.trans (va_idx_bare U.vm comp).symm ?_
    first | rw [hvm.bare_eq] | rw [← hvm.bare_eq]
    exact (va_idx_bare u.vm comp).trans h2
  have hkind : k'.kind = .array comp (.array .int) := by rw [he]; exact h4
  have f1 : U.vm.findClass (FieldType.array .int).toString = some comp := by rw [hvm.findClass]; exact h1
  have f2 : U.vm.findClass ("[" ++ (FieldType.array .int).toString) = some c := by rw [hvm.findClass]; exact h5
  unfold aoI Cond.before Cond.holds
  simp only [Cond.value]
  rw [f1, Option.bind_some]
  refine (congrArg (fun o : Option Nat => (o.bind (fun c => (U.vm.classes[c]?).map fun (k : Class) => match k.kind with | .array _ ty => decide (ty = FieldType.array .int) && decide (U.vm.findClass ("[" ++ (FieldType.array .int).toString) = some c) | _ => false) == some true)) hi).trans ?_
  simp [hk', hkind, f2]
def NestOK (U : State) : Prop := (∀ a i x h, Cond.methodLinkNest a i x h ∈ lw_tbl → va_Nw (.methodLinkNest a i x h) U) ∧ (∀ C, Cond.arrayOver (.object C) ∈ lw_tbl → va_AO C U) ∧ aoI U
abbrev ZX : Type := Program × Launch × Env × Room × State × MethodId × Array Value × List Frame × Method × Code × (State → Prop) × Nat
def Zc (X : ZX) (pc : Nat) (ls : List (Option Value)) (st : List Value) (N : Nat) (g : Mem) (cells slots : Nat) : Prop := match X with
  | (p, l, e, R, s, m, args, below, meth, c, Q, B) => ∀ (H : Heap) (locs : List Loc) (lsA : Array Slot), lh B lsA ls → Wd B N g s H → va_S (fun q => B ≤ q) s.heap H locs → W p l e R s m args below meth c H locs cells slots Q (F0 m pc lsA (st.map (mv B)))
def Ev (X : ZX) (own : String) (cc : ByteArray) (nL : Nat) (rm : Room) (nm : String) : Prop := match X with
  | (p, _, _, R, s, m, args, _, meth, c, _, _) => p.tables.exec = Jvm.exec ∧ c.code = cc ∧ c.maxLocals = nL ∧ s.vm.findClass own = some m.cls ∧ (∀ w ∈ tblG, w.before args s = true) ∧ R = rm ∧ meth.name = nm ∧ NestOK s
def Qk (B N : Nat) (P : Option Value → Mem → Prop) : Array Value → State → Outcome → State → Prop := fun _ st oc t => ∃ (r : Option Value) (g : Mem), oc = .returned (r.map (mv B)) ∧ P r g ∧ Wd B N g t t.heap ∧ ∀ q : Nat, q < B → t.heap[q]? = st.heap[q]?
def Rt (X : ZX) (rty : Option FieldType) (N : Nat) (P : Option Value → Mem → Prop) (mc ms : Nat) : Prop := match X with
  | (_, _, _, _, s, _, args, below, meth, _, Q, B) => meth.sig.returnType = rty ∧ meth.locks = false ∧ B ≤ s.heap.size ∧ Q = MQ below (Qk B N P) args s mc ms (fun q => B ≤ q)
section ROWS
variable {X : ZX} {own nm : String} {cc : ByteArray} {nL : Nat} {rm : Room} {pc : Nat} {ls ls' : List (Option Value)} {st : List Value} {N : Nat} {g : Mem} {cells slots : Nat}
theorem z_iconst (E : Ev X own cc nL rm nm) {n : Int} (hd : decode cc pc = .ok (.iconst n, 1)) (k : Zc X (pc + 1) ls (.int (iI n) :: st) N g cells slots) : Zc X pc ls st N g cells slots := by
  obtain ⟨p, l, e, R, s, m, args, below, meth, c, Q, B⟩ := X
  obtain ⟨hx, hb, hml, hown, hts, hR, hnm, hNs⟩ := E
  intro H locs lsA hl hW hS
  refine lv_iconst hx hb hd rfl ?_
  exact k H locs lsA hl hW hS
theorem bip_I {n : Int} (h : -128 ≤ n ∧ n < 128) : (Int8.ofInt n).toInt32 = iI n := by
  rw [← Int32.toInt_inj, Int8.toInt_toInt32, Int8.toInt_ofInt_of_le h.1 h.2, iI_toInt ⟨by omega, by omega⟩]
theorem sip_I {n : Int} (h : -32768 ≤ n ∧ n < 32768) : (Int16.ofInt n).toInt32 = iI n := by
  rw [← Int32.toInt_inj, Int16.toInt_toInt32, Int16.toInt_ofInt_of_le h.1 h.2, iI_toInt ⟨by omega, by omega⟩]
theorem z_bipush (E : Ev X own cc nL rm nm) {n : Int} (hn : -128 ≤ n ∧ n < 128) (hd : decode cc pc = .ok (.bipush n, 2)) (k : Zc X (pc + 2) ls (.int (iI n) :: st) N g cells slots) : Zc X pc ls st N g cells slots := by
  obtain ⟨p, l, e, R, s, m, args, below, meth, c, Q, B⟩ := X
  obtain ⟨hx, hb, hml, hown, hts, hR, hnm, hNs⟩ := E
  intro H locs lsA hl hW hS
  refine lv_bipush hx hb hd (bip_I hn) ?_
  exact k H locs lsA hl hW hS
theorem z_sipush (E : Ev X own cc nL rm nm) {n : Int} (hn : -32768 ≤ n ∧ n < 32768) (hd : decode cc pc = .ok (.sipush n, 3)) (k : Zc X (pc + 3) ls (.int (iI n) :: st) N g cells slots) : Zc X pc ls st N g cells slots := by
  obtain ⟨p, l, e, R, s, m, args, below, meth, c, Q, B⟩ := X
  obtain ⟨hx, hb, hml, hown, hts, hR, hnm, hNs⟩ := E
  intro H locs lsA hl hW hS
  refine lv_sipush hx hb hd (sip_I hn) ?_
  exact k H locs lsA hl hW hS
theorem z_lconst (E : Ev X own cc nL rm nm) {n : Fin 2} {z : Int} (hz : Int64.ofNat (n : Nat) = lI z) (hd : decode cc pc = .ok (.lconst n, 1)) (k : Zc X (pc + 1) ls (.long (lI z) :: st) N g cells slots) : Zc X pc ls st N g cells slots := by
  obtain ⟨p, l, e, R, s, m, args, below, meth, c, Q, B⟩ := X
  obtain ⟨hx, hb, hml, hown, hts, hR, hnm, hNs⟩ := E
  intro H locs lsA hl hW hS
  refine lv_lconst hx hb hd hz ?_
  exact k H locs lsA hl hW hS
theorem z_ldc (E : Ev X own cc nL rm nm) {idx : Nat} {v : Int32} {z : Int} (hc : Cond.constant own idx v ∈ tblG) (hv : v = iI z) (hd : decode cc pc = .ok (.ldc idx, 2)) (k : Zc X (pc + 2) ls (.int (iI z) :: st) N g cells slots) : Zc X pc ls st N g cells slots := by
  obtain ⟨p, l, e, R, s, m, args, below, meth, c, Q, B⟩ := X
  obtain ⟨hx, hb, hml, hown, hts, hR, hnm, hNs⟩ := E
  intro H locs lsA hl hW hS
  subst hv
  exact lv_ldc hx hb hown (hts _ hc) hd (k H locs lsA hl hW hS)
theorem z_ldc2 (E : Ev X own cc nL rm nm) {idx : Nat} {v : Int64} {z : Int} (hc : Cond.constantLong own idx v ∈ tblG) (hv : v = lI z) (hd : decode cc pc = .ok (.ldc2_w idx, 3)) (k : Zc X (pc + 3) ls (.long (lI z) :: st) N g cells slots) : Zc X pc ls st N g cells slots := by
  obtain ⟨p, l, e, R, s, m, args, below, meth, c, Q, B⟩ := X
  obtain ⟨hx, hb, hml, hown, hts, hR, hnm, hNs⟩ := E
  intro H locs lsA hl hW hS
  subst hv
  exact lv_ldc2 hx hb hown (hts _ hc) hd (k H locs lsA hl hW hS)
theorem z_iload_n (E : Ev X own cc nL rm nm) {n : Fin 4} {x : Int32} (hd : decode cc pc = .ok (.iload_n n, 1)) (hv : ls[(n : Nat)]? = some (some (.int x))) (k : Zc X (pc + 1) ls (.int x :: st) N g cells slots) : Zc X pc ls st N g cells slots := by
  obtain ⟨p, l, e, R, s, m, args, below, meth, c, Q, B⟩ := X
  obtain ⟨hx, hb, hml, hown, hts, hR, hnm, hNs⟩ := E
  intro H locs lsA hl hW hS
  exact lv_iload_n hx hb hd rfl (hl.2.2 _ _ hv) (k H locs lsA hl hW hS)
theorem z_iload (E : Ev X own cc nL rm nm) {n : Nat} {x : Int32} (hd : decode cc pc = .ok (.iload n, 2)) (hv : ls[n]? = some (some (.int x))) (k : Zc X (pc + 2) ls (.int x :: st) N g cells slots) : Zc X pc ls st N g cells slots := by
  obtain ⟨p, l, e, R, s, m, args, below, meth, c, Q, B⟩ := X
  obtain ⟨hx, hb, hml, hown, hts, hR, hnm, hNs⟩ := E
  intro H locs lsA hl hW hS
  exact lv_iload hx hb hd (hl.2.2 _ _ hv) (k H locs lsA hl hW hS)
theorem z_lload_n (E : Ev X own cc nL rm nm) {n : Fin 4} {x : Int64} (hd : decode cc pc = .ok (.lload_n n, 1)) (hv : ls[(n : Nat)]? = some (some (.long x))) (k : Zc X (pc + 1) ls (.long x :: st) N g cells slots) : Zc X pc ls st N g cells slots := by
  obtain ⟨p, l, e, R, s, m, args, below, meth, c, Q, B⟩ := X
  obtain ⟨hx, hb, hml, hown, hts, hR, hnm, hNs⟩ := E
  intro H locs lsA hl hW hS
  exact lv_lload_n hx hb hd rfl (hl.2.2 _ _ hv) (k H locs lsA hl hW hS)
theorem z_lload (E : Ev X own cc nL rm nm) {n : Nat} {x : Int64} (hd : decode cc pc = .ok (.lload n, 2)) (hv : ls[n]? = some (some (.long x))) (k : Zc X (pc + 2) ls (.long x :: st) N g cells slots) : Zc X pc ls st N g cells slots := by
  obtain ⟨p, l, e, R, s, m, args, below, meth, c, Q, B⟩ := X
  obtain ⟨hx, hb, hml, hown, hts, hR, hnm, hNs⟩ := E
  intro H locs lsA hl hW hS
  exact lv_lload hx hb hd (hl.2.2 _ _ hv) (k H locs lsA hl hW hS)
theorem z_aload_n (E : Ev X own cc nL rm nm) {n : Fin 4} {x : Nat} (hd : decode cc pc = .ok (.aload_n n, 1)) (hv : ls[(n : Nat)]? = some (some (.ref x))) (k : Zc X (pc + 1) ls (.ref x :: st) N g cells slots) : Zc X pc ls st N g cells slots := by
  obtain ⟨p, l, e, R, s, m, args, below, meth, c, Q, B⟩ := X
  obtain ⟨hx, hb, hml, hown, hts, hR, hnm, hNs⟩ := E
  intro H locs lsA hl hW hS
  exact lv_aload_n hx hb hd rfl (hl.2.2 _ _ hv) (k H locs lsA hl hW hS)
theorem z_aload (E : Ev X own cc nL rm nm) {n : Nat} {x : Nat} (hd : decode cc pc = .ok (.aload n, 2)) (hv : ls[n]? = some (some (.ref x))) (k : Zc X (pc + 2) ls (.ref x :: st) N g cells slots) : Zc X pc ls st N g cells slots := by
  obtain ⟨p, l, e, R, s, m, args, below, meth, c, Q, B⟩ := X
  obtain ⟨hx, hb, hml, hown, hts, hR, hnm, hNs⟩ := E
  intro H locs lsA hl hW hS
  exact lv_aload hx hb hd (hl.2.2 _ _ hv) (k H locs lsA hl hW hS)
theorem z_istore_n (E : Ev X own cc nL rm nm) {n : Fin 4} {i : Nat} (hi : (n : Nat) = i) {x : Int32} (hd : decode cc pc = .ok (.istore_n n, 1)) (hn : i < ls.length) (hs : sL1 ls i (.int x) = ls') (k : Zc X (pc + 1) ls' st N g cells slots) : Zc X pc ls (.int x :: st) N g cells slots := by
  obtain ⟨p, l, e, R, s, m, args, below, meth, c, Q, B⟩ := X
  obtain ⟨hx, hb, hml, hown, hts, hR, hnm, hNs⟩ := E
  intro H locs lsA hl hW hS
  subst hs
  exact lv_istore_n hx hb hd hi hl.has hn rfl (fun A1 h1 => k H locs A1 (lh.st1 (l' := []) (lsA := lsA) (v := .int x) h1) hW hS)
theorem z_istore (E : Ev X own cc nL rm nm) {i : Nat} {x : Int32} (hd : decode cc pc = .ok (.istore i, 2)) (hn : i < ls.length) (hs : sL1 ls i (.int x) = ls') (k : Zc X (pc + 2) ls' st N g cells slots) : Zc X pc ls (.int x :: st) N g cells slots := by
  obtain ⟨p, l, e, R, s, m, args, below, meth, c, Q, B⟩ := X
  obtain ⟨hx, hb, hml, hown, hts, hR, hnm, hNs⟩ := E
  intro H locs lsA hl hW hS
  subst hs
  exact lv_istore hx hb hd hl.has hn rfl (fun A1 h1 => k H locs A1 (lh.st1 (l' := []) (lsA := lsA) (v := .int x) h1) hW hS)
theorem z_astore_n (E : Ev X own cc nL rm nm) {n : Fin 4} {i : Nat} (hi : (n : Nat) = i) {x : Nat} (hd : decode cc pc = .ok (.astore_n n, 1)) (hn : i < ls.length) (hs : sL1 ls i (.ref x) = ls') (k : Zc X (pc + 1) ls' st N g cells slots) : Zc X pc ls (.ref x :: st) N g cells slots := by
  obtain ⟨p, l, e, R, s, m, args, below, meth, c, Q, B⟩ := X
  obtain ⟨hx, hb, hml, hown, hts, hR, hnm, hNs⟩ := E
  intro H locs lsA hl hW hS
  subst hs
  exact lv_astore_n hx hb hd hi hl.has hn rfl (fun A1 h1 => k H locs A1 (lh.st1 (l' := []) (lsA := lsA) (v := .ref x) h1) hW hS)
theorem z_astore (E : Ev X own cc nL rm nm) {i : Nat} {x : Nat} (hd : decode cc pc = .ok (.astore i, 2)) (hn : i < ls.length) (hs : sL1 ls i (.ref x) = ls') (k : Zc X (pc + 2) ls' st N g cells slots) : Zc X pc ls (.ref x :: st) N g cells slots := by
  obtain ⟨p, l, e, R, s, m, args, below, meth, c, Q, B⟩ := X
  obtain ⟨hx, hb, hml, hown, hts, hR, hnm, hNs⟩ := E
  intro H locs lsA hl hW hS
  subst hs
  exact lv_astore hx hb hd hl.has hn rfl (fun A1 h1 => k H locs A1 (lh.st1 (l' := []) (lsA := lsA) (v := .ref x) h1) hW hS)
theorem z_lstore_n (E : Ev X own cc nL rm nm) {n : Fin 4} {i : Nat} (hi : (n : Nat) = i) {x : Int64} (hd : decode cc pc = .ok (.lstore_n n, 1)) (hn : i + 1 < ls.length) (hs : sL2 ls i (.long x) = ls') (k : Zc X (pc + 1) ls' st N g cells slots) : Zc X pc ls (.long x :: st) N g cells slots := by
  obtain ⟨p, l, e, R, s, m, args, below, meth, c, Q, B⟩ := X
  obtain ⟨hx, hb, hml, hown, hts, hR, hnm, hNs⟩ := E
  intro H locs lsA hl hW hS
  subst hs
  exact lv_lstore_n hx hb hd hi hl.has hn rfl (fun A1 h1 => k H locs A1 (lh.st2 (lsA := lsA) (v := .long x) h1) hW hS)
theorem z_lstore (E : Ev X own cc nL rm nm) {i : Nat} {x : Int64} (hd : decode cc pc = .ok (.lstore i, 2)) (hn : i + 1 < ls.length) (hs : sL2 ls i (.long x) = ls') (k : Zc X (pc + 2) ls' st N g cells slots) : Zc X pc ls (.long x :: st) N g cells slots := by
  obtain ⟨p, l, e, R, s, m, args, below, meth, c, Q, B⟩ := X
  obtain ⟨hx, hb, hml, hown, hts, hR, hnm, hNs⟩ := E
  intro H locs lsA hl hW hS
  subst hs
  exact lv_lstore hx hb hd hl.has hn rfl (fun A1 h1 => k H locs A1 (lh.st2 (lsA := lsA) (v := .long x) h1) hW hS)
theorem z_iinc (E : Ev X own cc nL rm nm) {i : Nat} {n x : Int} (hd : decode cc pc = .ok (.iinc i n, 3)) (hv : ls[i]? = some (some (.int (iI x)))) (hs : sL1 ls i (.int (iI (x + n))) = ls') (k : Zc X (pc + 3) ls' st N g cells slots) : Zc X pc ls st N g cells slots := by
  obtain ⟨p, l, e, R, s, m, args, below, meth, c, Q, B⟩ := X
  obtain ⟨hx, hb, hml, hown, hts, hR, hnm, hNs⟩ := E
  intro H locs lsA hl hW hS
  subst hs
  obtain ⟨j, hj⟩ := List.getElem?_of_mem (lpairs_mem (B := B) (q := (i, .int (iI x))).mpr ⟨_, hv, rfl⟩)
  exact lv_iinc (v := iI (x + n)) hx hb hd hl.has hj (iI_add x n) (List.getElem?_eq_some_iff.mp hv).1 rfl (fun A1 h1 => k H locs A1 (lh.st1 (l' := []) (lsA := lsA) (v := .int (iI (x + n))) h1) hW hS)
theorem z_iadd (E : Ev X own cc nL rm nm) {x y : Int} (hd : decode cc pc = .ok (.iadd, 1)) (k : Zc X (pc + 1) ls (.int (iI (x + y)) :: st) N g cells slots) : Zc X pc ls (.int (iI y) :: .int (iI x) :: st) N g cells slots := by
  obtain ⟨p, l, e, R, s, m, args, below, meth, c, Q, B⟩ := X
  obtain ⟨hx, hb, hml, hown, hts, hR, hnm, hNs⟩ := E
  intro H locs lsA hl hW hS
  show W p l e R s m args below meth c H locs cells slots Q (F0 m pc lsA (.int (iI y) :: .int (iI x) :: st.map (mv B)))
  refine lv_iadd hx hb hd ?_
  rw [iI_add]
  exact k H locs lsA hl hW hS
theorem z_isub (E : Ev X own cc nL rm nm) {x y : Int} (hd : decode cc pc = .ok (.isub, 1)) (k : Zc X (pc + 1) ls (.int (iI (x - y)) :: st) N g cells slots) : Zc X pc ls (.int (iI y) :: .int (iI x) :: st) N g cells slots := by
  obtain ⟨p, l, e, R, s, m, args, below, meth, c, Q, B⟩ := X
  obtain ⟨hx, hb, hml, hown, hts, hR, hnm, hNs⟩ := E
  intro H locs lsA hl hW hS
  show W p l e R s m args below meth c H locs cells slots Q (F0 m pc lsA (.int (iI y) :: .int (iI x) :: st.map (mv B)))
  refine lv_isub hx hb hd ?_
  rw [iI_sub]
  exact k H locs lsA hl hW hS
theorem z_imul (E : Ev X own cc nL rm nm) {x y : Int} (hd : decode cc pc = .ok (.imul, 1)) (k : Zc X (pc + 1) ls (.int (iI (x * y)) :: st) N g cells slots) : Zc X pc ls (.int (iI y) :: .int (iI x) :: st) N g cells slots := by
  obtain ⟨p, l, e, R, s, m, args, below, meth, c, Q, B⟩ := X
  obtain ⟨hx, hb, hml, hown, hts, hR, hnm, hNs⟩ := E
  intro H locs lsA hl hW hS
  show W p l e R s m args below meth c H locs cells slots Q (F0 m pc lsA (.int (iI y) :: .int (iI x) :: st.map (mv B)))
  refine lv_imul hx hb hd ?_
  rw [iI_mul]
  exact k H locs lsA hl hW hS
theorem z_ladd (E : Ev X own cc nL rm nm) {x y : Int} (hd : decode cc pc = .ok (.ladd, 1)) (k : Zc X (pc + 1) ls (.long (lI (x + y)) :: st) N g cells slots) : Zc X pc ls (.long (lI y) :: .long (lI x) :: st) N g cells slots := by
  obtain ⟨p, l, e, R, s, m, args, below, meth, c, Q, B⟩ := X
  obtain ⟨hx, hb, hml, hown, hts, hR, hnm, hNs⟩ := E
  intro H locs lsA hl hW hS
  show W p l e R s m args below meth c H locs cells slots Q (F0 m pc lsA (.long (lI y) :: .long (lI x) :: st.map (mv B)))
  refine lv_ladd hx hb hd ?_
  rw [lI_add]
  exact k H locs lsA hl hW hS
theorem z_lsub (E : Ev X own cc nL rm nm) {x y : Int} (hd : decode cc pc = .ok (.lsub, 1)) (k : Zc X (pc + 1) ls (.long (lI (x - y)) :: st) N g cells slots) : Zc X pc ls (.long (lI y) :: .long (lI x) :: st) N g cells slots := by
  obtain ⟨p, l, e, R, s, m, args, below, meth, c, Q, B⟩ := X
  obtain ⟨hx, hb, hml, hown, hts, hR, hnm, hNs⟩ := E
  intro H locs lsA hl hW hS
  show W p l e R s m args below meth c H locs cells slots Q (F0 m pc lsA (.long (lI y) :: .long (lI x) :: st.map (mv B)))
  refine lv_lsub hx hb hd ?_
  rw [lI_sub]
  exact k H locs lsA hl hW hS
theorem z_lmul (E : Ev X own cc nL rm nm) {x y : Int} (hd : decode cc pc = .ok (.lmul, 1)) (k : Zc X (pc + 1) ls (.long (lI (x * y)) :: st) N g cells slots) : Zc X pc ls (.long (lI y) :: .long (lI x) :: st) N g cells slots := by
  obtain ⟨p, l, e, R, s, m, args, below, meth, c, Q, B⟩ := X
  obtain ⟨hx, hb, hml, hown, hts, hR, hnm, hNs⟩ := E
  intro H locs lsA hl hW hS
  show W p l e R s m args below meth c H locs cells slots Q (F0 m pc lsA (.long (lI y) :: .long (lI x) :: st.map (mv B)))
  refine lv_lmul hx hb hd ?_
  rw [lI_mul]
  exact k H locs lsA hl hW hS
theorem z_ineg (E : Ev X own cc nL rm nm) {x : Int} (hd : decode cc pc = .ok (.ineg, 1)) (k : Zc X (pc + 1) ls (.int (iI (-x)) :: st) N g cells slots) : Zc X pc ls (.int (iI x) :: st) N g cells slots := by
  obtain ⟨p, l, e, R, s, m, args, below, meth, c, Q, B⟩ := X
  obtain ⟨hx, hb, hml, hown, hts, hR, hnm, hNs⟩ := E
  intro H locs lsA hl hW hS
  show W p l e R s m args below meth c H locs cells slots Q (F0 m pc lsA (.int (iI x) :: st.map (mv B)))
  refine lv_ineg hx hb hd ?_
  rw [iI_neg]
  exact k H locs lsA hl hW hS
theorem z_lneg (E : Ev X own cc nL rm nm) {x : Int} (hd : decode cc pc = .ok (.lneg, 1)) (k : Zc X (pc + 1) ls (.long (lI (-x)) :: st) N g cells slots) : Zc X pc ls (.long (lI x) :: st) N g cells slots := by
  obtain ⟨p, l, e, R, s, m, args, below, meth, c, Q, B⟩ := X
  obtain ⟨hx, hb, hml, hown, hts, hR, hnm, hNs⟩ := E
  intro H locs lsA hl hW hS
  show W p l e R s m args below meth c H locs cells slots Q (F0 m pc lsA (.long (lI x) :: st.map (mv B)))
  refine lv_lneg hx hb hd ?_
  rw [lI_neg]
  exact k H locs lsA hl hW hS
theorem iI_ne0 {y : Int} (hy : inR y) (h0 : 0 < y) : ¬ iI y = 0 := by
  rw [← iI_0, iI_eq hy ⟨by omega, by omega⟩]; omega
theorem lI_ne0 {y : Int} (hy : inL y) (h0 : 0 < y) : ¬ lI y = 0 := by
  rw [← lI_0, lI_eq hy ⟨by omega, by omega⟩]; omega
theorem z_irem (E : Ev X own cc nL rm nm) {x y z : Int} (hx0 : inR x) (hy : inR y) (h0 : 0 < y) (hz : x.tmod y = z) (hd : decode cc pc = .ok (.irem, 1)) (k : Zc X (pc + 1) ls (.int (iI z) :: st) N g cells slots) : Zc X pc ls (.int (iI y) :: .int (iI x) :: st) N g cells slots := by
  obtain ⟨p, l, e, R, s, m, args, below, meth, c, Q, B⟩ := X
  obtain ⟨hx, hb, hml, hown, hts, hR, hnm, hNs⟩ := E
  intro H locs lsA hl hW hS
  show W p l e R s m args below meth c H locs cells slots Q (F0 m pc lsA (.int (iI y) :: .int (iI x) :: st.map (mv B)))
  refine lv_irem hx hb hd (iI_ne0 hy h0) ?_
  rw [iI_rem hx0 hy h0, hz]
  exact k H locs lsA hl hW hS
theorem z_idiv (E : Ev X own cc nL rm nm) {x y z : Int} (hx0 : inR x) (hy : inR y) (h0 : 0 < y) (hz : x.tdiv y = z) (hd : decode cc pc = .ok (.idiv, 1)) (k : Zc X (pc + 1) ls (.int (iI z) :: st) N g cells slots) : Zc X pc ls (.int (iI y) :: .int (iI x) :: st) N g cells slots := by
  obtain ⟨p, l, e, R, s, m, args, below, meth, c, Q, B⟩ := X
  obtain ⟨hx, hb, hml, hown, hts, hR, hnm, hNs⟩ := E
  intro H locs lsA hl hW hS
  show W p l e R s m args below meth c H locs cells slots Q (F0 m pc lsA (.int (iI y) :: .int (iI x) :: st.map (mv B)))
  refine lv_idiv hx hb hd (iI_ne0 hy h0) ?_
  rw [iI_div hx0 hy h0, hz]
  exact k H locs lsA hl hW hS
theorem z_lrem (E : Ev X own cc nL rm nm) {x y z : Int} (hx0 : inL x) (hy : inL y) (h0 : 0 < y) (hz : x.tmod y = z) (hd : decode cc pc = .ok (.lrem, 1)) (k : Zc X (pc + 1) ls (.long (lI z) :: st) N g cells slots) : Zc X pc ls (.long (lI y) :: .long (lI x) :: st) N g cells slots := by
  obtain ⟨p, l, e, R, s, m, args, below, meth, c, Q, B⟩ := X
  obtain ⟨hx, hb, hml, hown, hts, hR, hnm, hNs⟩ := E
  intro H locs lsA hl hW hS
  show W p l e R s m args below meth c H locs cells slots Q (F0 m pc lsA (.long (lI y) :: .long (lI x) :: st.map (mv B)))
  refine lv_lrem hx hb hd (lI_ne0 hy h0) ?_
  rw [lI_rem hx0 hy h0, hz]
  exact k H locs lsA hl hW hS
theorem z_i2l (E : Ev X own cc nL rm nm) {x : Int} (hx0 : inR x) (hd : decode cc pc = .ok (.i2l, 1)) (k : Zc X (pc + 1) ls (.long (lI x) :: st) N g cells slots) : Zc X pc ls (.int (iI x) :: st) N g cells slots := by
  obtain ⟨p, l, e, R, s, m, args, below, meth, c, Q, B⟩ := X
  obtain ⟨hx, hb, hml, hown, hts, hR, hnm, hNs⟩ := E
  intro H locs lsA hl hW hS
  refine lv_i2l hx hb hd (i2l_I hx0) ?_
  exact k H locs lsA hl hW hS
theorem z_l2i (E : Ev X own cc nL rm nm) {x : Int} (hd : decode cc pc = .ok (.l2i, 1)) (k : Zc X (pc + 1) ls (.int (iI x) :: st) N g cells slots) : Zc X pc ls (.long (lI x) :: st) N g cells slots := by
  obtain ⟨p, l, e, R, s, m, args, below, meth, c, Q, B⟩ := X
  obtain ⟨hx, hb, hml, hown, hts, hR, hnm, hNs⟩ := E
  intro H locs lsA hl hW hS
  refine lv_l2i hx hb hd (l2i_I x) ?_
  exact k H locs lsA hl hW hS
theorem z_i2b (E : Ev X own cc nL rm nm) {x : Int} (hd : decode cc pc = .ok (.i2b, 1)) (k : Zc X (pc + 1) ls (.int (iI (x.bmod 256)) :: st) N g cells slots) : Zc X pc ls (.int (iI x) :: st) N g cells slots := by
  obtain ⟨p, l, e, R, s, m, args, below, meth, c, Q, B⟩ := X
  obtain ⟨hx, hb, hml, hown, hts, hR, hnm, hNs⟩ := E
  intro H locs lsA hl hW hS
  refine lv_i2b hx hb hd (i2b_I x) ?_
  exact k H locs lsA hl hW hS
theorem z_i2s (E : Ev X own cc nL rm nm) {x : Int} (hd : decode cc pc = .ok (.i2s, 1)) (k : Zc X (pc + 1) ls (.int (iI (x.bmod 65536)) :: st) N g cells slots) : Zc X pc ls (.int (iI x) :: st) N g cells slots := by
  obtain ⟨p, l, e, R, s, m, args, below, meth, c, Q, B⟩ := X
  obtain ⟨hx, hb, hml, hown, hts, hR, hnm, hNs⟩ := E
  intro H locs lsA hl hW hS
  refine lv_i2s hx hb hd (i2s_I x) ?_
  exact k H locs lsA hl hW hS
theorem z_iand (E : Ev X own cc nL rm nm) {x y : Int32} {z : Int} (hz : x &&& y = iI z) (hd : decode cc pc = .ok (.iand, 1)) (k : Zc X (pc + 1) ls (.int (iI z) :: st) N g cells slots) : Zc X pc ls (.int y :: .int x :: st) N g cells slots := by
  obtain ⟨p, l, e, R, s, m, args, below, meth, c, Q, B⟩ := X
  obtain ⟨hx, hb, hml, hown, hts, hR, hnm, hNs⟩ := E
  intro H locs lsA hl hW hS
  show W p l e R s m args below meth c H locs cells slots Q (F0 m pc lsA (.int y :: .int x :: st.map (mv B)))
  refine lv_iand hx hb hd ?_
  rw [hz]
  exact k H locs lsA hl hW hS
theorem z_ixor (E : Ev X own cc nL rm nm) {x y : Int32} {z : Int} (hz : x ^^^ y = iI z) (hd : decode cc pc = .ok (.ixor, 1)) (k : Zc X (pc + 1) ls (.int (iI z) :: st) N g cells slots) : Zc X pc ls (.int y :: .int x :: st) N g cells slots := by
  obtain ⟨p, l, e, R, s, m, args, below, meth, c, Q, B⟩ := X
  obtain ⟨hx, hb, hml, hown, hts, hR, hnm, hNs⟩ := E
  intro H locs lsA hl hW hS
  show W p l e R s m args below meth c H locs cells slots Q (F0 m pc lsA (.int y :: .int x :: st.map (mv B)))
  refine lv_ixor hx hb hd ?_
  rw [hz]
  exact k H locs lsA hl hW hS
theorem z_ishr (E : Ev X own cc nL rm nm) {x y : Int32} {z : Int} (hz : x >>> (y &&& 31) = iI z) (hd : decode cc pc = .ok (.ishr, 1)) (k : Zc X (pc + 1) ls (.int (iI z) :: st) N g cells slots) : Zc X pc ls (.int y :: .int x :: st) N g cells slots := by
  obtain ⟨p, l, e, R, s, m, args, below, meth, c, Q, B⟩ := X
  obtain ⟨hx, hb, hml, hown, hts, hR, hnm, hNs⟩ := E
  intro H locs lsA hl hW hS
  show W p l e R s m args below meth c H locs cells slots Q (F0 m pc lsA (.int y :: .int x :: st.map (mv B)))
  refine lv_ishr hx hb hd ?_
  rw [hz]
  exact k H locs lsA hl hW hS
theorem z_dup (E : Ev X own cc nL rm nm) {v : Value} (hd : decode cc pc = .ok (.dup, 1)) (hc : v.category = 1) (k : Zc X (pc + 1) ls (v :: v :: st) N g cells slots) : Zc X pc ls (v :: st) N g cells slots := by
  obtain ⟨p, l, e, R, s, m, args, below, meth, c, Q, B⟩ := X
  obtain ⟨hx, hb, hml, hown, hts, hR, hnm, hNs⟩ := E
  intro H locs lsA hl hW hS
  exact lv_dup hx hb hd (by rw [mv_cat]; exact hc) (k H locs lsA hl hW hS)
theorem z_pop (E : Ev X own cc nL rm nm) {v : Value} (hd : decode cc pc = .ok (.pop, 1)) (hc : v.category = 1) (k : Zc X (pc + 1) ls st N g cells slots) : Zc X pc ls (v :: st) N g cells slots := by
  obtain ⟨p, l, e, R, s, m, args, below, meth, c, Q, B⟩ := X
  obtain ⟨hx, hb, hml, hown, hts, hR, hnm, hNs⟩ := E
  intro H locs lsA hl hW hS
  exact lv_pop hx hb hd (by rw [mv_cat]; exact hc) (k H locs lsA hl hW hS)
theorem z_goto (E : Ev X own cc nL rm nm) {off : Int} {tgt : Nat} (hd : decode cc pc = .ok (.goto off, 3)) (ht : (pc : Int) + off = (tgt : Int)) (k : Zc X (tgt) ls st N g cells slots) : Zc X pc ls st N g cells slots := by
  obtain ⟨p, l, e, R, s, m, args, below, meth, c, Q, B⟩ := X
  obtain ⟨hx, hb, hml, hown, hts, hR, hnm, hNs⟩ := E
  intro H locs lsA hl hW hS
  exact lv_goto hx hb hd ht (k H locs lsA hl hW hS)
theorem iI_tri {x y : Int} (hx : inR x) (hy : inR y) : (iI x = iI y ↔ x = y) ∧ (iI x < iI y ↔ x < y) ∧ (iI x ≤ iI y ↔ x ≤ y) ∧ (iI y < iI x ↔ y < x) ∧ (iI y ≤ iI x ↔ y ≤ x) :=
  ⟨iI_eq hx hy, iI_lt hx hy, iI_le hx hy, iI_lt hy hx, iI_le hy hx⟩
theorem z_icmp_eq (E : Ev X own cc nL rm nm) {x y : Int} {off : Int} {tgt : Nat} (hx0 : inR x) (hy : inR y) (hd : decode cc pc = .ok (.if_icmp .eq off, 3)) (ht : (pc : Int) + off = (tgt : Int)) (kt : x = y → Zc X tgt ls st N g cells slots) (kf : x ≠ y → Zc X (pc + 3) ls st N g cells slots) : Zc X pc ls (.int (iI y) :: .int (iI x) :: st) N g cells slots := by
  obtain ⟨p, l, e, R, s, m, args, below, meth, c, Q, B⟩ := X
  obtain ⟨hx, hb, hml, hown, hts, hR, hnm, hNs⟩ := E
  intro H locs lsA hl hW hS
  obtain ⟨t1, t2, t3, t4, t5⟩ := iI_tri hx0 hy
  try rw [iI_0] at t1 t2 t3 t4 t5
  refine lv_icmp_eq hx hb hd ht (fun h => kt ?_ H locs lsA hl hW hS) (fun h => kf ?_ H locs lsA hl hW hS)
  · first | exact t1.mp h | exact t2.mp h | exact t3.mp h | exact t4.mp h | exact t5.mp h | exact fun q => h (t1.mpr q)
  · first | exact fun q => h (t1.mpr q) | exact Int.not_lt.mp (fun q => h (t2.mpr q)) | exact Int.not_le.mp (fun q => h (t3.mpr q)) | exact Int.not_lt.mp (fun q => h (t4.mpr q)) | exact Int.not_le.mp (fun q => h (t5.mpr q)) | exact t1.mp h
theorem z_if_eq (E : Ev X own cc nL rm nm) {x : Int} {off : Int} {tgt : Nat} (hx0 : inR x) (hd : decode cc pc = .ok (.ifCond .eq off, 3)) (ht : (pc : Int) + off = (tgt : Int)) (kt : x = 0 → Zc X tgt ls st N g cells slots) (kf : x ≠ 0 → Zc X (pc + 3) ls st N g cells slots) : Zc X pc ls (.int (iI x) :: st) N g cells slots := by
  obtain ⟨p, l, e, R, s, m, args, below, meth, c, Q, B⟩ := X
  obtain ⟨hx, hb, hml, hown, hts, hR, hnm, hNs⟩ := E
  intro H locs lsA hl hW hS
  obtain ⟨t1, t2, t3, t4, t5⟩ := iI_tri (y := 0) hx0 ⟨by omega, by omega⟩
  try rw [iI_0] at t1 t2 t3 t4 t5
  refine lv_if_eq hx hb hd ht (fun h => kt ?_ H locs lsA hl hW hS) (fun h => kf ?_ H locs lsA hl hW hS)
  · first | exact t1.mp h | exact t2.mp h | exact t3.mp h | exact t4.mp h | exact t5.mp h | exact fun q => h (t1.mpr q)
  · first | exact fun q => h (t1.mpr q) | exact Int.not_lt.mp (fun q => h (t2.mpr q)) | exact Int.not_le.mp (fun q => h (t3.mpr q)) | exact Int.not_lt.mp (fun q => h (t4.mpr q)) | exact Int.not_le.mp (fun q => h (t5.mpr q)) | exact t1.mp h
theorem z_icmp_ne (E : Ev X own cc nL rm nm) {x y : Int} {off : Int} {tgt : Nat} (hx0 : inR x) (hy : inR y) (hd : decode cc pc = .ok (.if_icmp .ne off, 3)) (ht : (pc : Int) + off = (tgt : Int)) (kt : x ≠ y → Zc X tgt ls st N g cells slots) (kf : x = y → Zc X (pc + 3) ls st N g cells slots) : Zc X pc ls (.int (iI y) :: .int (iI x) :: st) N g cells slots := by
  obtain ⟨p, l, e, R, s, m, args, below, meth, c, Q, B⟩ := X
  obtain ⟨hx, hb, hml, hown, hts, hR, hnm, hNs⟩ := E
  intro H locs lsA hl hW hS
  obtain ⟨t1, t2, t3, t4, t5⟩ := iI_tri hx0 hy
  try rw [iI_0] at t1 t2 t3 t4 t5
  refine lv_icmp_ne hx hb hd ht (fun h => kt ?_ H locs lsA hl hW hS) (fun h => kf ?_ H locs lsA hl hW hS)
  · first | exact t1.mp h | exact t2.mp h | exact t3.mp h | exact t4.mp h | exact t5.mp h | exact fun q => h (t1.mpr q)
  · first | exact fun q => h (t1.mpr q) | exact Int.not_lt.mp (fun q => h (t2.mpr q)) | exact Int.not_le.mp (fun q => h (t3.mpr q)) | exact Int.not_lt.mp (fun q => h (t4.mpr q)) | exact Int.not_le.mp (fun q => h (t5.mpr q)) | exact t1.mp h
theorem z_if_ne (E : Ev X own cc nL rm nm) {x : Int} {off : Int} {tgt : Nat} (hx0 : inR x) (hd : decode cc pc = .ok (.ifCond .ne off, 3)) (ht : (pc : Int) + off = (tgt : Int)) (kt : x ≠ 0 → Zc X tgt ls st N g cells slots) (kf : x = 0 → Zc X (pc + 3) ls st N g cells slots) : Zc X pc ls (.int (iI x) :: st) N g cells slots := by
  obtain ⟨p, l, e, R, s, m, args, below, meth, c, Q, B⟩ := X
  obtain ⟨hx, hb, hml, hown, hts, hR, hnm, hNs⟩ := E
  intro H locs lsA hl hW hS
  obtain ⟨t1, t2, t3, t4, t5⟩ := iI_tri (y := 0) hx0 ⟨by omega, by omega⟩
  try rw [iI_0] at t1 t2 t3 t4 t5
  refine lv_if_ne hx hb hd ht (fun h => kt ?_ H locs lsA hl hW hS) (fun h => kf ?_ H locs lsA hl hW hS)
  · first | exact t1.mp h | exact t2.mp h | exact t3.mp h | exact t4.mp h | exact t5.mp h | exact fun q => h (t1.mpr q)
  · first | exact fun q => h (t1.mpr q) | exact Int.not_lt.mp (fun q => h (t2.mpr q)) | exact Int.not_le.mp (fun q => h (t3.mpr q)) | exact Int.not_lt.mp (fun q => h (t4.mpr q)) | exact Int.not_le.mp (fun q => h (t5.mpr q)) | exact t1.mp h
theorem z_icmp_lt (E : Ev X own cc nL rm nm) {x y : Int} {off : Int} {tgt : Nat} (hx0 : inR x) (hy : inR y) (hd : decode cc pc = .ok (.if_icmp .lt off, 3)) (ht : (pc : Int) + off = (tgt : Int)) (kt : x < y → Zc X tgt ls st N g cells slots) (kf : y ≤ x → Zc X (pc + 3) ls st N g cells slots) : Zc X pc ls (.int (iI y) :: .int (iI x) :: st) N g cells slots := by
  obtain ⟨p, l, e, R, s, m, args, below, meth, c, Q, B⟩ := X
  obtain ⟨hx, hb, hml, hown, hts, hR, hnm, hNs⟩ := E
  intro H locs lsA hl hW hS
  obtain ⟨t1, t2, t3, t4, t5⟩ := iI_tri hx0 hy
  try rw [iI_0] at t1 t2 t3 t4 t5
  refine lv_icmp_lt hx hb hd ht (fun h => kt ?_ H locs lsA hl hW hS) (fun h => kf ?_ H locs lsA hl hW hS)
  · first | exact t1.mp h | exact t2.mp h | exact t3.mp h | exact t4.mp h | exact t5.mp h | exact fun q => h (t1.mpr q)
  · first | exact fun q => h (t1.mpr q) | exact Int.not_lt.mp (fun q => h (t2.mpr q)) | exact Int.not_le.mp (fun q => h (t3.mpr q)) | exact Int.not_lt.mp (fun q => h (t4.mpr q)) | exact Int.not_le.mp (fun q => h (t5.mpr q)) | exact t1.mp h
theorem z_if_lt (E : Ev X own cc nL rm nm) {x : Int} {off : Int} {tgt : Nat} (hx0 : inR x) (hd : decode cc pc = .ok (.ifCond .lt off, 3)) (ht : (pc : Int) + off = (tgt : Int)) (kt : x < 0 → Zc X tgt ls st N g cells slots) (kf : 0 ≤ x → Zc X (pc + 3) ls st N g cells slots) : Zc X pc ls (.int (iI x) :: st) N g cells slots := by
  obtain ⟨p, l, e, R, s, m, args, below, meth, c, Q, B⟩ := X
  obtain ⟨hx, hb, hml, hown, hts, hR, hnm, hNs⟩ := E
  intro H locs lsA hl hW hS
  obtain ⟨t1, t2, t3, t4, t5⟩ := iI_tri (y := 0) hx0 ⟨by omega, by omega⟩
  try rw [iI_0] at t1 t2 t3 t4 t5
  refine lv_if_lt hx hb hd ht (fun h => kt ?_ H locs lsA hl hW hS) (fun h => kf ?_ H locs lsA hl hW hS)
  · first | exact t1.mp h | exact t2.mp h | exact t3.mp h | exact t4.mp h | exact t5.mp h | exact fun q => h (t1.mpr q)
  · first | exact fun q => h (t1.mpr q) | exact Int.not_lt.mp (fun q => h (t2.mpr q)) | exact Int.not_le.mp (fun q => h (t3.mpr q)) | exact Int.not_lt.mp (fun q => h (t4.mpr q)) | exact Int.not_le.mp (fun q => h (t5.mpr q)) | exact t1.mp h
theorem z_icmp_ge (E : Ev X own cc nL rm nm) {x y : Int} {off : Int} {tgt : Nat} (hx0 : inR x) (hy : inR y) (hd : decode cc pc = .ok (.if_icmp .ge off, 3)) (ht : (pc : Int) + off = (tgt : Int)) (kt : y ≤ x → Zc X tgt ls st N g cells slots) (kf : x < y → Zc X (pc + 3) ls st N g cells slots) : Zc X pc ls (.int (iI y) :: .int (iI x) :: st) N g cells slots := by
  obtain ⟨p, l, e, R, s, m, args, below, meth, c, Q, B⟩ := X
  obtain ⟨hx, hb, hml, hown, hts, hR, hnm, hNs⟩ := E
  intro H locs lsA hl hW hS
  obtain ⟨t1, t2, t3, t4, t5⟩ := iI_tri hx0 hy
  try rw [iI_0] at t1 t2 t3 t4 t5
  refine lv_icmp_ge hx hb hd ht (fun h => kt ?_ H locs lsA hl hW hS) (fun h => kf ?_ H locs lsA hl hW hS)
  · first | exact t1.mp h | exact t2.mp h | exact t3.mp h | exact t4.mp h | exact t5.mp h | exact fun q => h (t1.mpr q)
  · first | exact fun q => h (t1.mpr q) | exact Int.not_lt.mp (fun q => h (t2.mpr q)) | exact Int.not_le.mp (fun q => h (t3.mpr q)) | exact Int.not_lt.mp (fun q => h (t4.mpr q)) | exact Int.not_le.mp (fun q => h (t5.mpr q)) | exact t1.mp h
theorem z_if_ge (E : Ev X own cc nL rm nm) {x : Int} {off : Int} {tgt : Nat} (hx0 : inR x) (hd : decode cc pc = .ok (.ifCond .ge off, 3)) (ht : (pc : Int) + off = (tgt : Int)) (kt : 0 ≤ x → Zc X tgt ls st N g cells slots) (kf : x < 0 → Zc X (pc + 3) ls st N g cells slots) : Zc X pc ls (.int (iI x) :: st) N g cells slots := by
  obtain ⟨p, l, e, R, s, m, args, below, meth, c, Q, B⟩ := X
  obtain ⟨hx, hb, hml, hown, hts, hR, hnm, hNs⟩ := E
  intro H locs lsA hl hW hS
  obtain ⟨t1, t2, t3, t4, t5⟩ := iI_tri (y := 0) hx0 ⟨by omega, by omega⟩
  try rw [iI_0] at t1 t2 t3 t4 t5
  refine lv_if_ge hx hb hd ht (fun h => kt ?_ H locs lsA hl hW hS) (fun h => kf ?_ H locs lsA hl hW hS)
  · first | exact t1.mp h | exact t2.mp h | exact t3.mp h | exact t4.mp h | exact t5.mp h | exact fun q => h (t1.mpr q)
  · first | exact fun q => h (t1.mpr q) | exact Int.not_lt.mp (fun q => h (t2.mpr q)) | exact Int.not_le.mp (fun q => h (t3.mpr q)) | exact Int.not_lt.mp (fun q => h (t4.mpr q)) | exact Int.not_le.mp (fun q => h (t5.mpr q)) | exact t1.mp h
theorem z_icmp_gt (E : Ev X own cc nL rm nm) {x y : Int} {off : Int} {tgt : Nat} (hx0 : inR x) (hy : inR y) (hd : decode cc pc = .ok (.if_icmp .gt off, 3)) (ht : (pc : Int) + off = (tgt : Int)) (kt : y < x → Zc X tgt ls st N g cells slots) (kf : x ≤ y → Zc X (pc + 3) ls st N g cells slots) : Zc X pc ls (.int (iI y) :: .int (iI x) :: st) N g cells slots := by
  obtain ⟨p, l, e, R, s, m, args, below, meth, c, Q, B⟩ := X
  obtain ⟨hx, hb, hml, hown, hts, hR, hnm, hNs⟩ := E
  intro H locs lsA hl hW hS
  obtain ⟨t1, t2, t3, t4, t5⟩ := iI_tri hx0 hy
  try rw [iI_0] at t1 t2 t3 t4 t5
  refine lv_icmp_gt hx hb hd ht (fun h => kt ?_ H locs lsA hl hW hS) (fun h => kf ?_ H locs lsA hl hW hS)
  · first | exact t1.mp h | exact t2.mp h | exact t3.mp h | exact t4.mp h | exact t5.mp h | exact fun q => h (t1.mpr q)
  · first | exact fun q => h (t1.mpr q) | exact Int.not_lt.mp (fun q => h (t2.mpr q)) | exact Int.not_le.mp (fun q => h (t3.mpr q)) | exact Int.not_lt.mp (fun q => h (t4.mpr q)) | exact Int.not_le.mp (fun q => h (t5.mpr q)) | exact t1.mp h
theorem z_if_gt (E : Ev X own cc nL rm nm) {x : Int} {off : Int} {tgt : Nat} (hx0 : inR x) (hd : decode cc pc = .ok (.ifCond .gt off, 3)) (ht : (pc : Int) + off = (tgt : Int)) (kt : 0 < x → Zc X tgt ls st N g cells slots) (kf : x ≤ 0 → Zc X (pc + 3) ls st N g cells slots) : Zc X pc ls (.int (iI x) :: st) N g cells slots := by
  obtain ⟨p, l, e, R, s, m, args, below, meth, c, Q, B⟩ := X
  obtain ⟨hx, hb, hml, hown, hts, hR, hnm, hNs⟩ := E
  intro H locs lsA hl hW hS
  obtain ⟨t1, t2, t3, t4, t5⟩ := iI_tri (y := 0) hx0 ⟨by omega, by omega⟩
  try rw [iI_0] at t1 t2 t3 t4 t5
  refine lv_if_gt hx hb hd ht (fun h => kt ?_ H locs lsA hl hW hS) (fun h => kf ?_ H locs lsA hl hW hS)
  · first | exact t1.mp h | exact t2.mp h | exact t3.mp h | exact t4.mp h | exact t5.mp h | exact fun q => h (t1.mpr q)
  · first | exact fun q => h (t1.mpr q) | exact Int.not_lt.mp (fun q => h (t2.mpr q)) | exact Int.not_le.mp (fun q => h (t3.mpr q)) | exact Int.not_lt.mp (fun q => h (t4.mpr q)) | exact Int.not_le.mp (fun q => h (t5.mpr q)) | exact t1.mp h
theorem z_icmp_le (E : Ev X own cc nL rm nm) {x y : Int} {off : Int} {tgt : Nat} (hx0 : inR x) (hy : inR y) (hd : decode cc pc = .ok (.if_icmp .le off, 3)) (ht : (pc : Int) + off = (tgt : Int)) (kt : x ≤ y → Zc X tgt ls st N g cells slots) (kf : y < x → Zc X (pc + 3) ls st N g cells slots) : Zc X pc ls (.int (iI y) :: .int (iI x) :: st) N g cells slots := by
  obtain ⟨p, l, e, R, s, m, args, below, meth, c, Q, B⟩ := X
  obtain ⟨hx, hb, hml, hown, hts, hR, hnm, hNs⟩ := E
  intro H locs lsA hl hW hS
  obtain ⟨t1, t2, t3, t4, t5⟩ := iI_tri hx0 hy
  try rw [iI_0] at t1 t2 t3 t4 t5
  refine lv_icmp_le hx hb hd ht (fun h => kt ?_ H locs lsA hl hW hS) (fun h => kf ?_ H locs lsA hl hW hS)
  · first | exact t1.mp h | exact t2.mp h | exact t3.mp h | exact t4.mp h | exact t5.mp h | exact fun q => h (t1.mpr q)
  · first | exact fun q => h (t1.mpr q) | exact Int.not_lt.mp (fun q => h (t2.mpr q)) | exact Int.not_le.mp (fun q => h (t3.mpr q)) | exact Int.not_lt.mp (fun q => h (t4.mpr q)) | exact Int.not_le.mp (fun q => h (t5.mpr q)) | exact t1.mp h
theorem z_if_le (E : Ev X own cc nL rm nm) {x : Int} {off : Int} {tgt : Nat} (hx0 : inR x) (hd : decode cc pc = .ok (.ifCond .le off, 3)) (ht : (pc : Int) + off = (tgt : Int)) (kt : x ≤ 0 → Zc X tgt ls st N g cells slots) (kf : 0 < x → Zc X (pc + 3) ls st N g cells slots) : Zc X pc ls (.int (iI x) :: st) N g cells slots := by
  obtain ⟨p, l, e, R, s, m, args, below, meth, c, Q, B⟩ := X
  obtain ⟨hx, hb, hml, hown, hts, hR, hnm, hNs⟩ := E
  intro H locs lsA hl hW hS
  obtain ⟨t1, t2, t3, t4, t5⟩ := iI_tri (y := 0) hx0 ⟨by omega, by omega⟩
  try rw [iI_0] at t1 t2 t3 t4 t5
  refine lv_if_le hx hb hd ht (fun h => kt ?_ H locs lsA hl hW hS) (fun h => kf ?_ H locs lsA hl hW hS)
  · first | exact t1.mp h | exact t2.mp h | exact t3.mp h | exact t4.mp h | exact t5.mp h | exact fun q => h (t1.mpr q)
  · first | exact fun q => h (t1.mpr q) | exact Int.not_lt.mp (fun q => h (t2.mpr q)) | exact Int.not_le.mp (fun q => h (t3.mpr q)) | exact Int.not_lt.mp (fun q => h (t4.mpr q)) | exact Int.not_le.mp (fun q => h (t5.mpr q)) | exact t1.mp h
theorem z_lcmp (E : Ev X own cc nL rm nm) {x y : Int} (hx0 : inL x) (hy : inL y) (hd : decode cc pc = .ok (.lcmp, 1)) (k : ∀ z : Int, inR z → (z < 0 ↔ x < y) → (0 < z ↔ y < x) → Zc X (pc + 1) ls (.int (iI z) :: st) N g cells slots) : Zc X pc ls (.long (lI y) :: .long (lI x) :: st) N g cells slots := by
  obtain ⟨p, l, e, R, s, m, args, below, meth, c, Q, B⟩ := X
  obtain ⟨hx, hb, hml, hown, hts, hR, hnm, hNs⟩ := E
  intro H locs lsA hl hW hS
  refine W.lcmp hx hb hd ?_
  rw [lcmp_lt hx0 hy]
  refine k _ ?_ ?_ ?_ H locs lsA hl hW hS
  · by_cases h1 : y < x
    · rw [if_pos h1]; exact ⟨by omega, by omega⟩
    · rw [if_neg h1]
      by_cases h2 : x = y
      · rw [if_pos h2]; exact ⟨by omega, by omega⟩
      · rw [if_neg h2]; exact ⟨by omega, by omega⟩
  · by_cases h1 : y < x
    · rw [if_pos h1]; omega
    · rw [if_neg h1]
      by_cases h2 : x = y
      · rw [if_pos h2]; omega
      · rw [if_neg h2]; omega
  · by_cases h1 : y < x
    · rw [if_pos h1]; omega
    · rw [if_neg h1]
      by_cases h2 : x = y
      · rw [if_pos h2]; omega
      · rw [if_neg h2]; omega
theorem z_tswIn (E : Ev X own cc nL rm nm) {dflt hi off : Int} {offs : Array Int} {len tgt j : Nat} {x : Int} (hd : decode cc pc = .ok (.tableswitch dflt 0 hi offs, len)) (hj : x = (j : Int)) (hr : inR x) (hh : (j : Int) ≤ hi) (ho : offs[j]? = some off) (ht : (pc : Int) + off = (tgt : Int)) (k : Zc X (tgt) ls st N g cells slots) : Zc X pc ls (.int (iI x) :: st) N g cells slots := by
  obtain ⟨p, l, e, R, s, m, args, below, meth, c, Q, B⟩ := X
  obtain ⟨hx, hb, hml, hown, hts, hR, hnm, hNs⟩ := E
  intro H locs lsA hl hW hS
  have ex : (iI x).toInt = (j : Int) := by rw [iI_toInt hr, hj]
  exact lv_tableIn hx hb hd (by rw [ex]; omega) (by rw [ex]; omega) (by rw [ex, show ((j : Int) - 0).toNat = j by omega]; exact ho) ht (k H locs lsA hl hW hS)
theorem z_tswOut (E : Ev X own cc nL rm nm) {dflt hi : Int} {offs : Array Int} {len tgt : Nat} {x : Int} (hd : decode cc pc = .ok (.tableswitch dflt 0 hi offs, len)) (hr : inR x) (h : x < 0 ∨ hi < x) (ht : (pc : Int) + dflt = (tgt : Int)) (k : Zc X (tgt) ls st N g cells slots) : Zc X pc ls (.int (iI x) :: st) N g cells slots := by
  obtain ⟨p, l, e, R, s, m, args, below, meth, c, Q, B⟩ := X
  obtain ⟨hx, hb, hml, hown, hts, hR, hnm, hNs⟩ := E
  intro H locs lsA hl hW hS
  exact lv_tableOut hx hb hd (by rw [iI_toInt hr]; exact h) ht (k H locs lsA hl hW hS)
theorem clsIn : ∀ (ci : Nat) (r : vw_C), vwCl[ci]? = some r → (∀ w ∈ u_ws r.1 r.2.1 r.2.2, w ∈ tblG) ∧ ∃ ty0 : Nat → FieldType, (∀ k, k < r.2.2 → parseFieldDescriptor (r.2.1 k).2.2.1 = some (ty0 k)) ∧ (∀ a, a < r.2.2 → ∀ b, b < r.2.2 → a ≠ b → (r.2.1 a).2.1 ≠ (r.2.1 b).2.1)
  | 0, _, h => by cases h; exact ⟨by decide +kernel, tyX0, tyX0_ok, nmX0⟩
  | 1, _, h => by cases h; exact ⟨by decide +kernel, tyX1, tyX1_ok, nmX1⟩
  | 2, _, h => by cases h; exact ⟨by decide +kernel, tyX3, tyX3_ok, nmX3⟩
  | 3, _, h => by cases h; exact ⟨by decide +kernel, tyX4, tyX4_ok, nmX4⟩
  | 4, _, h => by cases h; exact ⟨by decide +kernel, tyX5, tyX5_ok, nmX5⟩
  | 5, _, h => by cases h; exact ⟨by decide +kernel, tyX6, tyX6_ok, nmX6⟩
  | _ + 6, _, h => by cases h
theorem vw_lt {ci : Nat} {r : vw_C} (h : vwCl[ci]? = some r) : ci < 6 := (List.getElem?_eq_some_iff.mp h).1
/-- the field k of the objects of tag ci, by the pool's entry idx of own -/
def Fl (own : String) (idx ci k : Nat) : Prop := ∃ r : vw_C, vwCl[ci]? = some r ∧ k < r.2.2 ∧ Cond.fieldLink own idx (r.2.1 k).1 (r.2.1 k).2.1 (r.2.1 k).2.2.1 ∈ tblG
def Fp (own : String) (idx ci k : Nat) (ty : FieldType) : Prop := ∃ r : vw_C, vwCl[ci]? = some r ∧ k < r.2.2 ∧ Cond.fieldLink own idx (r.2.1 k).1 (r.2.1 k).2.1 (r.2.1 k).2.2.1 ∈ tblG ∧ (r.2.1 k).2.2.2 = false ∧ parseFieldDescriptor (r.2.1 k).2.2.1 = some ty
def Ff (own : String) (idx ci k : Nat) (ty : FieldType) : Prop := ∃ r : vw_C, vwCl[ci]? = some r ∧ k < r.2.2 ∧ Cond.fieldLink own idx (r.2.1 k).1 (r.2.1 k).2.1 (r.2.1 k).2.2.1 ∈ tblG ∧ (r.2.1 k).2.2.2 = true ∧ (r.2.1 k).1 = own ∧ parseFieldDescriptor (r.2.1 k).2.2.1 = some ty
theorem z_get (E : Ev X own cc nL rm nm) {idx a ci j : Nat} {fs : List Value} {v : Value} (hd : decode cc pc = .ok (.getfield idx, 3)) (hg : g a = (ci, fs)) (hf : Fl own idx ci j) (hv : fs[j]? = some v) (k : Zc X (pc + 3) ls (v :: st) N g cells slots) : Zc X pc ls (.ref a :: st) N g cells slots := by
  obtain ⟨p, l, e, R, s, m, args, below, meth, c, Q, B⟩ := X
  obtain ⟨hx, hb, hml, hown, hts, hR, hnm, hNs⟩ := E
  intro H locs lsA hl hW hS
  obtain ⟨r, hr, hj, hlink⟩ := hf
  obtain ⟨hz, D, hKn, hc⟩ := id hW
  have hlt := vw_lt hr
  have ha := hc a (by rw [hg]; show ci < 12; omega)
  rw [hg] at ha
  obtain ⟨hlen, cell, q1, q2, q3, q4⟩ := ha.1 r hr
  obtain ⟨hSl, hfc, kC, hkC, hkind⟩ := hKn ci r hr
  obtain ⟨cf, kf, fi, f, hi, hsl⟩ := hSl j hj
  refine W.getf (v := mv B v) hx hb hown (hts _ hlink) hi (u_facts hfc hkC (u_lays hts (clsIn ci r hr).1 hj) hi).1 q1 (by rw [q3]; exact fun h => by cases h) ?_ rfl rfl hd (k H locs lsA hl hW hS)
  rw [hsl, q4 j hj]
  simp [hv]
theorem z_put (E : Ev X own cc nL rm nm) {idx a ci j : Nat} {fs : List Value} {v : Value} {ty : FieldType} (hd : decode cc pc = .ok (.putfield idx, 3)) (hg : g a = (ci, fs)) (hf : Fp own idx ci j ty) (hn : ∀ B, narrow ty (mv B v) = mv B v) (hfit : ∀ B, fits ty (mv B v) = true) (k : Zc X (pc + 3) ls st N (va_up g a (ci, fs.set j v)) cells slots) : Zc X pc ls (v :: .ref a :: st) N g cells slots := by
  obtain ⟨p, l, e, R, s, m, args, below, meth, c, Q, B⟩ := X
  obtain ⟨hx, hb, hml, hown, hts, hR, hnm, hNs⟩ := E
  intro H locs lsA hl hW hS
  obtain ⟨r, hr, hj, hlink, hfin, hdsc⟩ := hf
  obtain ⟨hz, D, hKn, hc⟩ := id hW
  have hlt := vw_lt hr
  have ha := hc a (by rw [hg]; show ci < 12; omega)
  rw [hg] at ha
  obtain ⟨hlen, cell, q1, q2, q3, q4⟩ := ha.1 r hr
  obtain ⟨hin, ty0, hty, hnm2⟩ := clsIn ci r hr
  have hap := va_apart (own := own) (tys := []) hts hin ty0 hty hnm2 ⟨hKn, fun k q h => by simp at h⟩ hr
  obtain ⟨hSl, hfc, kC, hkC, hkind⟩ := hKn ci r hr
  obtain ⟨cf, kf, fi, f, hi, hsl⟩ := hSl j hj
  have hlay := hts _ (hin _ (u_in_lay hj))
  unfold u_lay at hlay
  rw [if_neg (by rw [hfin]; decide)] at hlay
  have hst := (u_facts hfc hkC (u_lays hts hin hj) hi).1
  have h6 := u_store hfc hkC hkind hlay hi hdsc (hn B) (hfit B)
  refine W.putK hx hb (f := f) ⟨hown, hts _ hlink, ⟨_, _, _, hi⟩, hst⟩ (by rw [q2]; exact h6) q1 q3 (by rw [hsl]; exact k2_hasslot (q4 j hj)) rfl rfl hd fun H1 e1 e2 e3 => ?_
  rw [hsl] at e1 ⊢
  refine k H1 _ lsA hl ⟨e2.trans hz, D, hKn, cells_upd hc e3 ⟨fun r2 hr2 => ?_, fun h6 => by have : 6 ≤ ci := h6; omega⟩⟩ (hS.put e2 e3 (Nat.le_add_right B a))
  cases hr.symm.trans hr2
  refine ⟨by simpa using hlen, t_OB.to ⟨_, e1, q2, q3, t_set q4 hap hj (mv B v)⟩ fun i hi2 => ?_⟩
  by_cases e9 : i = j
  · subst e9
    have h9 : i < fs.length := by have : fs.length = r.2.2 := hlen; omega
    simp [updV, h9]
  · simp [updV, e9, List.getD_eq_getElem?_getD, List.getElem?_set_ne (Ne.symm e9)]
theorem z_putF (E : Ev X own cc nL rm nm) {idx a ci j : Nat} {fs : List Value} {v : Value} {ty : FieldType} (hd : decode cc pc = .ok (.putfield idx, 3)) (hg : g a = (ci, fs)) (hf : Ff own idx ci j ty) (hni : nm = "<init>") (hn : ∀ B, narrow ty (mv B v) = mv B v) (hfit : ∀ B, fits ty (mv B v) = true) (k : Zc X (pc + 3) ls st N (va_up g a (ci, fs.set j v)) cells slots) : Zc X pc ls (v :: .ref a :: st) N g cells slots := by
  obtain ⟨p, l, e, R, s, m, args, below, meth, c, Q, B⟩ := X
  obtain ⟨hx, hb, hml, hown, hts, hR, hnm, hNs⟩ := E
  intro H locs lsA hl hW hS
  obtain ⟨r, hr, hj, hlink, hfin, hdecl, hdsc⟩ := hf
  obtain ⟨hz, D, hKn, hc⟩ := id hW
  have hlt := vw_lt hr
  have ha := hc a (by rw [hg]; show ci < 12; omega)
  rw [hg] at ha
  obtain ⟨hlen, cell, q1, q2, q3, q4⟩ := ha.1 r hr
  obtain ⟨hin, ty0, hty, hnm2⟩ := clsIn ci r hr
  have hap := va_apart (own := own) (tys := []) hts hin ty0 hty hnm2 ⟨hKn, fun k q h => by simp at h⟩ hr
  obtain ⟨hSl, hfc, kC, hkC, hkind⟩ := hKn ci r hr
  obtain ⟨cf, kf, fi, f, hi, hsl⟩ := hSl j hj
  have hlay := hts _ (hin _ (u_in_lay hj))
  unfold u_lay at hlay
  rw [if_pos hfin] at hlay
  have hst := (u_facts hfc hkC (u_lays hts hin hj) hi).1
  have hcf : m.cls = cf := by
    obtain ⟨_, _, c', _, _, _, -, -, hf', -, -, -, hown2, -⟩ := Cond.laysFinal_spec hlay
    have e1 : c' = cf := by have := hi.symm.trans hf'; simp at this; exact this.1.symm
    rw [hdecl] at hown2
    rw [← e1]; exact Option.some.inj (hown.symm.trans hown2)
  have h6 := u_fits hfc hkC hkind (Or.inr hlay) hi hdsc (hn B) (hfit B)
  refine W.putFinK hx hb hown (hts _ hlink) hi hst hcf (hnm.trans hni) (by rw [q2]; exact h6) q1 q3 (by rw [hsl]; exact k2_hasslot (q4 j hj)) rfl rfl hd fun H1 e1 e2 e3 => ?_
  rw [hsl] at e1 ⊢
  refine k H1 _ lsA hl ⟨e2.trans hz, D, hKn, cells_upd hc e3 ⟨fun r2 hr2 => ?_, fun h6 => by have : 6 ≤ ci := h6; omega⟩⟩ (hS.put e2 e3 (Nat.le_add_right B a))
  cases hr.symm.trans hr2
  refine ⟨by simpa using hlen, t_OB.to ⟨_, e1, q2, q3, t_set q4 hap hj (mv B v)⟩ fun i hi2 => ?_⟩
  by_cases e9 : i = j
  · subst e9
    have h9 : i < fs.length := by have : fs.length = r.2.2 := hlen; omega
    simp [updV, h9]
  · simp [updV, e9, List.getD_eq_getElem?_getD, List.getElem?_set_ne (Ne.symm e9)]
theorem z_iald (E : Ev X own cc nL rm nm) {a j : Nat} {x : Int} {vs : List Value} {v : Value} (hd : decode cc pc = .ok (.iaload, 1)) (hg : g a = (6, vs)) (hj : x = (j : Int)) (hb2 : j < 2147483648) (hv : vs[j]? = some v) (k : Zc X (pc + 1) ls (v :: st) N g cells slots) : Zc X pc ls (.int (iI x) :: .ref a :: st) N g cells slots := by
  obtain ⟨p, l, e, R, s, m, args, below, meth, c, Q, B⟩ := X
  obtain ⟨hx, hb, hml, hown, hts, hR, hnm, hNs⟩ := E
  intro H locs lsA hl hW hS
  obtain ⟨hz, D, hKn, hc⟩ := id hW
  have ha := hc a (by rw [hg]; show 6 < 12; omega)
  rw [hg] at ha
  obtain ⟨cA, h1, h2, h3⟩ := ha.2 (by show 6 ≤ 6; omega)
  have hlt : j < vs.length := (List.getElem?_eq_some_iff.mp hv).1
  exact W.iald (v := mv B v) hx hb h1 (h2 _ _) (fun q => by cases q) (by rw [arrV_size]; exact iI_idx hj hlt hb2) (by rw [iI_clamp hj hb2, arrV_read _ _ hlt]; simp [hv]) rfl rfl hd (k H locs lsA hl hW hS)
theorem z_zald (E : Ev X own cc nL rm nm) {a j : Nat} {x : Int} {vs : List Value} {v : Value} (hd : decode cc pc = .ok (.baload, 1)) (hg : g a = (7, vs)) (hj : x = (j : Int)) (hb2 : j < 2147483648) (hv : vs[j]? = some v) (k : Zc X (pc + 1) ls (v :: st) N g cells slots) : Zc X pc ls (.int (iI x) :: .ref a :: st) N g cells slots := by
  obtain ⟨p, l, e, R, s, m, args, below, meth, c, Q, B⟩ := X
  obtain ⟨hx, hb, hml, hown, hts, hR, hnm, hNs⟩ := E
  intro H locs lsA hl hW hS
  obtain ⟨hz, D, hKn, hc⟩ := id hW
  have ha := hc a (by rw [hg]; show 7 < 12; omega)
  rw [hg] at ha
  obtain ⟨cA, h1, h2, h3⟩ := ha.2 (by show 6 ≤ 7; omega)
  have hlt : j < vs.length := (List.getElem?_eq_some_iff.mp hv).1
  exact W.zald (v := mv B v) hx hb h1 (h2 _ _) (fun q => by cases q) (by rw [arrV_size]; exact iI_idx hj hlt hb2) (by rw [iI_clamp hj hb2, arrV_read _ _ hlt]; simp [hv]) rfl rfl hd (k H locs lsA hl hW hS)
theorem z_aald (E : Ev X own cc nL rm nm) {a j : Nat} {x : Int} {vs : List Value} {v : Value} {t : Nat} (ht6 : 8 ≤ t ∧ t < 12) (hd : decode cc pc = .ok (.aaload, 1)) (hg : g a = (t, vs)) (hj : x = (j : Int)) (hb2 : j < 2147483648) (hv : vs[j]? = some v) (k : Zc X (pc + 1) ls (v :: st) N g cells slots) : Zc X pc ls (.int (iI x) :: .ref a :: st) N g cells slots := by
  obtain ⟨p, l, e, R, s, m, args, below, meth, c, Q, B⟩ := X
  obtain ⟨hx, hb, hml, hown, hts, hR, hnm, hNs⟩ := E
  intro H locs lsA hl hW hS
  obtain ⟨hz, D, hKn, hc⟩ := id hW
  have ha := hc a (by rw [hg]; show t < 12; omega)
  rw [hg] at ha
  obtain ⟨cA, h1, h2, h3⟩ := ha.2 (by show 6 ≤ t; omega)
  have hlt : j < vs.length := (List.getElem?_eq_some_iff.mp hv).1
  exact W.aald (v := mv B v) (ty := kty t) hx hb h1 (h2 _ _) (by obtain ⟨q1, q2⟩ := ht6; rcases (show t = 8 ∨ t = 9 ∨ t = 10 ∨ t = 11 by omega) with rfl | rfl | rfl | rfl <;> rfl) (fun q => by cases q) (by rw [arrV_size]; exact iI_idx hj hlt hb2) (by rw [iI_clamp hj hb2, arrV_read _ _ hlt]; simp [hv]) rfl rfl hd (k H locs lsA hl hW hS)
theorem z_iast (E : Ev X own cc nL rm nm) {a j : Nat} {x : Int} {y : Int32} {vs : List Value} (hd : decode cc pc = .ok (.iastore, 1)) (hg : g a = (6, vs)) (hj : x = (j : Int)) (hb2 : j < 2147483648) (hlv : j < vs.length) (k : Zc X (pc + 1) ls st N (va_up g a (6, vs.set j (.int y))) cells slots) : Zc X pc ls (.int y :: .int (iI x) :: .ref a :: st) N g cells slots := by
  obtain ⟨p, l, e, R, s, m, args, below, meth, c, Q, B⟩ := X
  obtain ⟨hx, hb, hml, hown, hts, hR, hnm, hNs⟩ := E
  intro H locs lsA hl hW hS
  obtain ⟨hz, D, hKn, hc⟩ := id hW
  have ha := hc a (by rw [hg]; show 6 < 12; omega)
  rw [hg] at ha
  obtain ⟨cA, h1, h2, h3⟩ := ha.2 (by show 6 ≤ 6; omega)
  have hlt : j < vs.length := hlv
  refine W.iast hx hb h1 (h2 _ _) (fun q => by cases q) (by rw [arrV_size]; exact iI_idx hj hlt hb2) rfl rfl hd fun H1 e1 z1 oq => ?_
  rw [iI_clamp hj hb2] at e1 ⊢
  refine k H1 _ lsA hl ⟨z1.trans hz, D, hKn, cells_upd hc oq ⟨fun r2 hr2 => by have := vw_lt hr2; have : 6 < 6 := this; omega, fun _ => ⟨cA, ?_, h2, h3⟩⟩⟩ (hS.put z1 oq (Nat.le_add_right B a))
  rw [e1, arrV_store]
  show some (arrV cA vs.length _) = some (arrV cA (vs.set j (.int y)).length _)
  rw [List.length_set]
  refine congrArg (fun f => some (arrV cA vs.length f)) (funext fun i => ?_)
  by_cases e9 : i = j
  · subst e9
    simp [updV, hlt, mv]
  · simp [updV, e9, List.getD_eq_getElem?_getD, List.getElem?_set_ne (Ne.symm e9)]
theorem z_zast (E : Ev X own cc nL rm nm) {a j : Nat} {x : Int} {y : Int32} {vs : List Value} (hd : decode cc pc = .ok (.bastore, 1)) (hy : y = 0 ∨ y = 1) (hg : g a = (7, vs)) (hj : x = (j : Int)) (hb2 : j < 2147483648) (hlv : j < vs.length) (k : Zc X (pc + 1) ls st N (va_up g a (7, vs.set j (.int y))) cells slots) : Zc X pc ls (.int y :: .int (iI x) :: .ref a :: st) N g cells slots := by
  obtain ⟨p, l, e, R, s, m, args, below, meth, c, Q, B⟩ := X
  obtain ⟨hx, hb, hml, hown, hts, hR, hnm, hNs⟩ := E
  intro H locs lsA hl hW hS
  obtain ⟨hz, D, hKn, hc⟩ := id hW
  have ha := hc a (by rw [hg]; show 7 < 12; omega)
  rw [hg] at ha
  obtain ⟨cA, h1, h2, h3⟩ := ha.2 (by show 6 ≤ 7; omega)
  have hlt : j < vs.length := hlv
  have hnar : narrow .boolean (.int y) = .int y := by rcases hy with rfl | rfl <;> rfl
  refine W.zast hx hb h1 (h2 _ _) (fun q => by cases q) (by rw [arrV_size]; exact iI_idx hj hlt hb2) rfl rfl hd fun H1 e1 z1 oq => ?_
  rw [iI_clamp hj hb2] at e1 ⊢
  refine k H1 _ lsA hl ⟨z1.trans hz, D, hKn, cells_upd hc oq ⟨fun r2 hr2 => by have := vw_lt hr2; have : 7 < 6 := this; omega, fun _ => ⟨cA, ?_, h2, h3⟩⟩⟩ (hS.put z1 oq (Nat.le_add_right B a))
  rw [e1, hnar, arrV_store]
  show some (arrV cA vs.length _) = some (arrV cA (vs.set j (.int y)).length _)
  rw [List.length_set]
  refine congrArg (fun f => some (arrV cA vs.length f)) (funext fun i => ?_)
  by_cases e9 : i = j
  · subst e9
    simp [updV, hlt, mv]
  · simp [updV, e9, List.getD_eq_getElem?_getD, List.getElem?_set_ne (Ne.symm e9)]
theorem z_alen (E : Ev X own cc nL rm nm) {a t : Nat} {vs : List Value} (hd : decode cc pc = .ok (.arraylength, 1)) (ht6 : 6 ≤ t ∧ t < 12) (hg : g a = (t, vs)) (k : Zc X (pc + 1) ls (.int (iI (vs.length : Int)) :: st) N g cells slots) : Zc X pc ls (.ref a :: st) N g cells slots := by
  obtain ⟨p, l, e, R, s, m, args, below, meth, c, Q, B⟩ := X
  obtain ⟨hx, hb, hml, hown, hts, hR, hnm, hNs⟩ := E
  intro H locs lsA hl hW hS
  obtain ⟨hz, D, hKn, hc⟩ := id hW
  have ha := hc a (by rw [hg]; exact ht6.2)
  rw [hg] at ha
  obtain ⟨cA, h1, h2, h3⟩ := ha.2 ht6.1
  exact W.alen (n := iI (vs.length : Int)) hx hb h1 (h2 _ _) (by rw [arrV_size]; exact (Int32.ofInt_eq_ofNat).symm) rfl rfl hd (k H locs lsA hl hW hS)
theorem z_iret (E : Ev X own cc nL rm nm) {P : Option Value → Mem → Prop} (F : Rt X (some .int) N P cells slots) {v : Int32} (hd : decode cc pc = .ok (.ireturn, 1)) (hP : P (some (.int v)) g) : Zc X pc ls [.int v] N g cells slots := by
  obtain ⟨p, l, e, R, s, m, args, below, meth, c, Q, B⟩ := X
  obtain ⟨hx, hb, hml, hown, hts, hR, hnm, hNs⟩ := E
  obtain ⟨hr, hlocks, hsB, hQ⟩ := F
  intro H locs lsA hl hW hS
  subst hQ
  exact W.iret hx hb hr (fun t ht hw => ⟨some (.int v), g, rfl, hP, by rw [ht]; exact hW.moved hw.alike, fun q hq => by rw [ht]; exact hS.2.1 q (Nat.lt_of_lt_of_le hq hsB) (Nat.not_le.mpr hq)⟩) hS.2.2 hd hlocks
theorem z_zret (E : Ev X own cc nL rm nm) {P : Option Value → Mem → Prop} (F : Rt X (some .boolean) N P cells slots) {v : Int32} (hv : v = 0 ∨ v = 1) (hd : decode cc pc = .ok (.ireturn, 1)) (hP : P (some (.int v)) g) : Zc X pc ls [.int v] N g cells slots := by
  obtain ⟨p, l, e, R, s, m, args, below, meth, c, Q, B⟩ := X
  obtain ⟨hx, hb, hml, hown, hts, hR, hnm, hNs⟩ := E
  obtain ⟨hr, hlocks, hsB, hQ⟩ := F
  intro H locs lsA hl hW hS
  subst hQ
  exact W.zret hx hb hr (by rcases hv with rfl | rfl <;> rfl) (fun t ht hw => ⟨some (.int v), g, rfl, hP, by rw [ht]; exact hW.moved hw.alike, fun q hq => by rw [ht]; exact hS.2.1 q (Nat.lt_of_lt_of_le hq hsB) (Nat.not_le.mpr hq)⟩) hS.2.2 hd hlocks
theorem z_lret (E : Ev X own cc nL rm nm) {P : Option Value → Mem → Prop} (F : Rt X (some .long) N P cells slots) {v : Int64} (hd : decode cc pc = .ok (.lreturn, 1)) (hP : P (some (.long v)) g) : Zc X pc ls [.long v] N g cells slots := by
  obtain ⟨p, l, e, R, s, m, args, below, meth, c, Q, B⟩ := X
  obtain ⟨hx, hb, hml, hown, hts, hR, hnm, hNs⟩ := E
  obtain ⟨hr, hlocks, hsB, hQ⟩ := F
  intro H locs lsA hl hW hS
  subst hQ
  exact W.lret hx hb hr (fun t ht hw => ⟨some (.long v), g, rfl, hP, by rw [ht]; exact hW.moved hw.alike, fun q hq => by rw [ht]; exact hS.2.1 q (Nat.lt_of_lt_of_le hq hsB) (Nat.not_le.mpr hq)⟩) hS.2.2 hd hlocks
theorem z_vret (E : Ev X own cc nL rm nm) {P : Option Value → Mem → Prop} (F : Rt X none N P cells slots) (hd : decode cc pc = .ok (.return_, 1)) (hP : P none g) : Zc X pc ls [] N g cells slots := by
  obtain ⟨p, l, e, R, s, m, args, below, meth, c, Q, B⟩ := X
  obtain ⟨hx, hb, hml, hown, hts, hR, hnm, hNs⟩ := E
  obtain ⟨hr, hlocks, hsB, hQ⟩ := F
  intro H locs lsA hl hW hS
  subst hQ
  exact W.vret hx hb hr (fun t ht hw => ⟨none, g, rfl, hP, by rw [ht]; exact hW.moved hw.alike, fun q hq => by rw [ht]; exact hS.2.1 q (Nat.lt_of_lt_of_le hq hsB) (Nat.not_le.mpr hq)⟩) hS.2.2 hd hlocks
theorem z_widen {k n : Nat} (h1 : cells ≤ k) (h2 : slots ≤ n) (kk : Zc X pc ls st N g k n) : Zc X pc ls st N g cells slots := by
  obtain ⟨p, l, e, R, s, m, args, below, meth, c, Q, B⟩ := X
  intro H locs lsA hl hW hS
  exact W.widen h1 h2 (kk H locs lsA hl hW hS)
theorem z_mem {g' : Mem} (h : g = g') (k : Zc X pc ls st N g' cells slots) : Zc X pc ls st N g cells slots := h ▸ k
end ROWS
