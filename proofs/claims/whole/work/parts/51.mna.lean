/-! rows of rows: 'multianewarray' in two dimensions, of ints, from the model's own step: the heap behind i rows in closed form -/
def rw2 (g : Mem) (N n K : Nat) : Mem := fun k => if k = N then (8, (List.range n).map (fun i => .ref (N + 1 + i))) else if N < k ∧ k < N + 1 + n then (6, vals K (fun _ => 0)) else g k
def gdO (cA : ClassId) (n h i : Nat) : Cell := arrV cA n (fun j => if j < i then .ref (h + 1 + j) else .null)
def gdI (cC : ClassId) (K : Nat) : Cell := arrV cC K (fun _ => .int (iI 0))
def gdH (H : Heap) (cA cC : ClassId) (n K i : Nat) : Heap := H.push (gdO cA n H.size i) ++ Array.replicate i (gdI cC K)
def gdS (T : State) (cA cC : ClassId) (n K i : Nat) : State := { T with heap := gdH T.heap cA cC n K i, slotsUsed := T.slotsUsed + n + i * K }
section MNH
variable {H : Heap} {cA cC : ClassId} {n K i : Nat}
theorem gdH_size : (gdH H cA cC n K i).size = H.size + 1 + i := by simp [gdH]
theorem gdH_old {x : Nat} (h : x < H.size) : (gdH H cA cC n K i)[x]? = H[x]? := by
  unfold gdH
  rw [Array.getElem?_append_left (by rw [Array.size_push]; omega), Array.getElem?_push, if_neg (by omega)]
theorem gdH_out : (gdH H cA cC n K i)[H.size]? = some (gdO cA n H.size i) := by
  unfold gdH
  rw [Array.getElem?_append_left (by rw [Array.size_push]; omega), Array.getElem?_push_size]
theorem gdH_in {j : Nat} (h : j < i) : (gdH H cA cC n K i)[H.size + 1 + j]? = some (gdI cC K) := by
  unfold gdH
  rw [Array.getElem?_append_right (by rw [Array.size_push]; omega), Array.size_push, show H.size + 1 + j - (H.size + 1) = j by omega, Array.getElem?_replicate, if_pos h]
theorem gdH_non {x : Nat} (h : H.size + 1 + i ≤ x) : (gdH H cA cC n K i)[x]? = none := Array.getElem?_eq_none (by rw [gdH_size]; exact h)
theorem gdO_set (h : Nat) : (gdO cA n h i).setSlot i (.ref (h + 1 + i)) = gdO cA n h (i + 1) := by
  unfold gdO
  rw [arrV_store]
  refine congrArg (arrV cA n) (funext fun j => ?_)
  unfold updV
  by_cases e : j = i
  · subst e
    rw [if_pos rfl, if_pos (Nat.lt_succ_self _)]
  · rw [if_neg e]
    show (if j < i then Value.ref (h + 1 + j) else .null) = _
    by_cases h2 : j < i
    · rw [if_pos h2, if_pos (by omega)]
    · rw [if_neg h2, if_neg (by omega)]
theorem gdH_step : ((gdH H cA cC n K i).push (gdI cC K)).setIfInBounds H.size (gdO cA n H.size (i + 1)) = gdH H cA cC n K (i + 1) := by
  refine Array.ext_getElem? fun x => ?_
  rw [Array.getElem?_setIfInBounds]
  rcases Nat.lt_trichotomy x H.size with h | h | h
  · rw [if_neg (by omega), Array.getElem?_push, if_neg (by rw [gdH_size]; omega), gdH_old h, gdH_old h]
  · subst h
    rw [if_pos rfl, if_pos (by rw [Array.size_push, gdH_size]; omega), gdH_out]
  · rw [if_neg (by omega), Array.getElem?_push]
    by_cases h2 : x < H.size + 1 + (i + 1)
    · obtain ⟨j, rfl⟩ : ∃ j, x = H.size + 1 + j := ⟨x - (H.size + 1), by omega⟩
      rw [gdH_in (i := i + 1) (by omega)]
      by_cases h3 : j = i
      · rw [if_pos (by rw [gdH_size, h3])]
      · rw [if_neg (by rw [gdH_size]; omega), gdH_in (by omega)]
    · rw [if_neg (by rw [gdH_size]; omega), gdH_non (by omega), gdH_non (by omega)]
theorem gdI_size : (gdI cC K).slots.size = K := arrV_size cC K _
theorem gdS_zero {T : State} : T.pushCell (arrV cA n (fun _ => .null)) = gdS T cA cC n K 0 := by
  unfold State.pushCell gdS gdH gdO
  rw [arrV_size]
  simp
theorem gdS_step {T : State} : ((gdS T cA cC n K i).pushCell (gdI cC K)).setCell T.heap.size (gdO cA n T.heap.size (i + 1)) = gdS T cA cC n K (i + 1) := by
  have e2 : T.slotsUsed + n + i * K + (gdI cC K).slots.size = T.slotsUsed + n + (i + 1) * K := by rw [gdI_size, Nat.succ_mul]; omega
  show ({ T with heap := ((gdH T.heap cA cC n K i).push (gdI cC K)).setIfInBounds T.heap.size (gdO cA n T.heap.size (i + 1)), slotsUsed := T.slotsUsed + n + i * K + (gdI cC K).slots.size } : State) = _
  rw [gdH_step, e2]
  rfl
end MNH
section MNW
variable {E : CtlPost} {e : Env} {d : Bool} {acts : List Action} {s : State}
/-- one array, all of one value -/
theorem gd_new {c comp : ClassId} {k : Class} {t : FieldType} {n : Nat} {v : Value} {Q : Addr → Pre} (hk : s.vm.classes[c]? = some k) (hkd : k.kind = .array comp t) (hl : ¬ n > e.platform.arrayLengthLimit) (hb : ¬ n * componentBytes t > e.platform.maxHeapBytes) (hf : fits t v = true) (h1 : s.heap.size < e.platform.maxCells) (h2 : s.slotsUsed + n ≤ e.platform.maxSlots)
    (q : ∀ acts', Q s.heap.size d acts' (s.pushCell (arrV c n (fun _ => v)))) : wp (Jvm.newArray c n v) Q E e d acts s := by
  have hm : ¬ n > e.platform.maxSlots := by omega
  unfold Jvm.newArray Jvm.arrayFits
  simp only [wp_bind', W.ask, W.ite, wp_pure', W.theClass, W.alloc, W.stop, hk, hkd, hl, hb, hm, if_false, Option.some.injEq, exists_eq_left', Array.size_replicate]
  refine ⟨h1, h2, fun i w hw => ?_, by rw [arrV_new]; exact q _⟩
  rw [Array.getElem?_replicate] at hw
  by_cases hi : i < n
  · rw [if_pos hi] at hw
    cases hw
    simp [State.fitsSlot, State.slotType?, hk, hkd, hf]
  · rw [if_neg hi] at hw
    cases hw
/-- one row -/
theorem gd_row {cC c0 : ClassId} {kC : Class} {zk : Int32} {K : Nat} {Q : Addr → Pre} (hC : s.vm.classes[cC]? = some kC) (hCk : kC.kind = .array c0 .int) (nk : ¬ zk < 0) (ek : zk.toNatClampNeg = K) (l3 : ¬ K > e.platform.arrayLengthLimit) (l4 : ¬ K * 4 > e.platform.maxHeapBytes) (h1 : s.heap.size < e.platform.maxCells) (h2 : s.slotsUsed + K ≤ e.platform.maxSlots)
    (q : ∀ acts', Q s.heap.size d acts' (s.pushCell (gdI cC K))) : wp (Jvm.Op.multianewarray.make cC [zk]) Q E e d acts s := by
  subst ek
  rw [Jvm.Op.multianewarray.make]
  simp only [wp_bind', W.ite, nk, if_false, wp_pure', W.theClass, hC, hCk, Option.some.injEq, exists_eq_left']
  exact gd_new hC hCk l3 l4 rfl h1 h2 q
theorem gd_rest {i n x : Nat} {rest : List Nat} (h : x :: rest = List.range' i (n - i)) : i < n ∧ x = i ∧ rest = List.range' (i + 1) (n - (i + 1)) := by
  by_cases hi : i < n
  · rw [show n - i = (n - (i + 1)) + 1 by omega, List.range'_succ] at h
    exact ⟨hi, (List.cons.inj h).1, (List.cons.inj h).2⟩
  · rw [show n - i = 0 by omega] at h
    cases h
theorem gd_make {T : State} {fr : JFrame} {cA cC c0 : ClassId} {kA kC : Class} {zn zk : Int32} {n K : Nat} {Q : Addr → Pre} (hA : T.vm.classes[cA]? = some kA) (hAk : kA.kind = .array cC (.array .int)) (hC : T.vm.classes[cC]? = some kC) (hCk : kC.kind = .array c0 .int) (nn : ¬ zn < 0) (nk : ¬ zk < 0) (en : zn.toNatClampNeg = n) (ek : zk.toNatClampNeg = K)
    (l1 : ¬ n > e.platform.arrayLengthLimit) (l2 : ¬ n * 4 > e.platform.maxHeapBytes) (l3 : ¬ K > e.platform.arrayLengthLimit) (l4 : ¬ K * 4 > e.platform.maxHeapBytes) (hc : T.heap.size + 1 + n ≤ e.platform.maxCells) (hs : T.slotsUsed + n + n * K ≤ e.platform.maxSlots)
    (q : ∀ d' a', Q T.heap.size d' a' ((gdS T cA cC n K n).setTop fr)) : wp (Jvm.Op.multianewarray.make cA [zn, zk]) Q E e d acts (T.setTop fr) := by
  rw [Jvm.Op.multianewarray.make]
  simp only [wp_bind', W.ite, nn, if_false, wp_pure', W.theClass, State.vm_setTop, hA, hAk, en, Option.some.injEq, exists_eq_left']
  refine gd_new (s := T.setTop fr) hA hAk l1 l2 rfl (show T.heap.size < _ by omega) (show T.slotsUsed + _ ≤ _ by omega) (fun a1 => ?_)
  rw [State.pushCell_setTop, gdS_zero (cC := cC) (K := K), show [zk].find? (fun x => decide (x < 0)) = none by simp [nk]]
  simp only [ite_self]
  rw [wp_bind', Std.Legacy.Range.forIn_eq_forIn_range', show ([:n] : Std.Legacy.Range).size = n by simp [Std.Legacy.Range.size]]
  refine wp_forIn_inv (fun rest U => ∃ i, i ≤ n ∧ rest = List.range' i (n - i) ∧ U = (gdS T cA cC n K i).setTop fr) _ _ ⟨0, Nat.zero_le _, rfl, rfl⟩ ?_ ?_
  · rintro x rest U d' a' Q' ⟨i, hi, hl, rfl⟩ nx
    obtain ⟨hlt, rfl, rfl⟩ := gd_rest hl
    have hmul : x * K + K ≤ n * K := by
      have := Nat.mul_le_mul_right K (show x + 1 ≤ n from hlt)
      rw [Nat.succ_mul] at this
      exact this
    simp only [wp_bind']
    refine gd_row (s := (gdS T cA cC n K x).setTop fr) hC hCk nk ek l3 l4 ?_ ?_ (fun a2 => ?_)
    · show (gdH T.heap cA cC n K x).size < _
      rw [gdH_size]
      omega
    · show T.slotsUsed + n + x * K + K ≤ _
      omega
    · simp only [wp_bind', W.writeLoc, wp_pure']
      refine ⟨gdO cA n T.heap.size x, ?_, fun h => (by cases h), ?_, ?_, nx _ _ _ ⟨x + 1, hlt, rfl, ?_⟩⟩
      · show ((gdH T.heap cA cC n K x).push (gdI cC K))[T.heap.size]? = _
        rw [Array.getElem?_push, if_neg (by rw [gdH_size]; omega), gdH_out]
      · show x < (arrV cA n _).slots.size
        rw [arrV_size]
        exact hlt
      · have hA' : (((gdS T cA cC n K x).setTop fr).pushCell (gdI cC K)).vm.classes[cA]? = some kA := hA
        show State.fitsSlot _ cA .none x _ = true
        simp only [State.fitsSlot, State.slotType?, hA', Option.bind_eq_bind, Option.bind_some, hAk]
        rfl
      · show (((gdS T cA cC n K x).pushCell (gdI cC K)).setCell T.heap.size ((gdO cA n T.heap.size x).setSlot x (.ref (gdH T.heap cA cC n K x).size))).setTop fr = _
        rw [gdH_size, gdO_set, gdS_step]
  · rintro U d' a' ⟨i, hi, hl, rfl⟩
    have hin : i = n := by
      have := congrArg List.length hl
      rw [List.length_range'] at this
      have h0 : 0 = n - i := this
      omega
    subst hin
    simp only [wp_pure']
    exact q _ _
end MNW
section MNX
variable {p : Program} {l : Launch} {e : Env} {R : Room} {s : State} {m : MethodId} {args : Array Value} {below : List Frame} {meth : Method} {c : Code} {T : State} {locs : List Loc} {cells slots : Nat}
theorem gd_stand (X : Stand p l e R s m args below meth c T locs cells slots) (cA cC : ClassId) (n K : Nat) : ∀ i : Nat, ∃ L : List Loc, Stand p l e R s m args below meth c (gdS T cA cC n K i) L (cells + 1 + i) (slots + n + i * K) ∧ ∀ q ∈ L, q ∈ locs ∨ q.base = T.heap.size
  | 0 => by
    have h := X.pushed (arrV cA n (fun _ => .null))
    rw [arrV_size, gdS_zero (cC := cC) (K := K)] at h
    exact ⟨locs, by simpa using h, fun q hq => Or.inl hq⟩
  | i + 1 => by
    obtain ⟨L, h, hL⟩ := gd_stand X cA cC n K i
    have hlt : T.heap.size < (gdS T cA cC n K i).heap.size := by
      show T.heap.size < (gdH T.heap cA cC n K i).size
      rw [gdH_size]
      omega
    have ho : ((gdS T cA cC n K i).pushCell (gdI cC K)).heap[T.heap.size]? = some (gdO cA n T.heap.size i) := (State.heap_pushCell_of_lt _ _ hlt).trans gdH_out
    have h1 := (h.pushed (gdI cC K)).stored ho i (.ref (T.heap.size + 1 + i))
    rw [gdO_set, gdS_step, gdI_size] at h1
    refine ⟨L ++ [⟨T.heap.size, i⟩], ?_, fun q hq => ?_⟩
    · rw [show slots + n + (i + 1) * K = slots + n + i * K + K by rw [Nat.succ_mul]; omega]
      exact h1
    · rcases List.mem_append.mp hq with hq | hq
      · exact hL q hq
      · rw [List.mem_singleton.mp hq]
        exact Or.inr rfl
theorem gd_steps (X : Stand p l e R s m args below meth c T locs cells slots) (hexec : p.tables.exec = Jvm.exec) {own : String} {idx : Nat} (hown : s.vm.findClass own = some m.cls) (hcl : (Cond.classLink own idx ("[" ++ (FieldType.array .int).toString)).before args s = true) (hao : aoI s) (hac : (Cond.arrayClass .int).before args s = true)
    {g : JFrame} (hg : g.method = m) (hdg : decode c.code g.pc = .ok (.multianewarray idx 2, 4)) {zn zk : Int32} {rest : List Value} (hst : g.stack = .int zk :: .int zn :: rest) (nn : ¬ zn < 0) (nk : ¬ zk < 0) {n K : Nat} (en : zn.toNatClampNeg = n) (ek : zk.toNatClampNeg = K) (hn : n ≤ 1000) (hK : K ≤ 1000) (hcells : cells + (1 + n) ≤ R.cells) (hslots : slots + (n + n * K) ≤ R.slots) :
    ∃ (U : State) (cA cC : ClassId) (L : List Loc), U.heap = gdH T.heap cA cC n K n ∧ (ArrOfT s cA (.array .int) ∧ va_RA s cA (.array .int)) ∧ (ArrOfT s cC .int ∧ va_RA s cC .int) ∧ Stand p l e R s m args below meth c U L (cells + 1 + n) (slots + n + n * K) ∧ (∀ q ∈ L, q ∈ locs ∨ q.base = T.heap.size) ∧
      ∀ t, Steps p.tables e below (U.setTop { g with pc := g.pc + 4, stack := .ref T.heap.size :: rest }) t → Steps p.tables e below (T.setTop g) t := by
  subst hg
  have hpl : e.platform.magicAccessors = ({} : Platform).magicAccessors := by rw [X.admits.platform]
  obtain ⟨cC, cA, kA, fC, -, hkA, hkindA, fA⟩ := arrayOverA_spec (args := #[]) (first := s) (o := none) (idx := []) hao
  obtain ⟨cC2, kC, c0, fC2, hkC, hkindC⟩ := Cond.arrayClass_spec hac
  have eC : cC2 = cC := Option.some.inj (fC2.symm.trans fC)
  subst eC
  obtain ⟨c9, f9, lk⟩ := Cond.classLink_spec hown hcl e.platform hpl
  have e9 : c9 = cA := Option.some.inj (f9.symm.trans fA)
  subst e9
  obtain ⟨g1, w1, -⟩ := State.classEntry (e := e) X.warmed lk
  generalize T.vm.noted g.method.cls idx (.cls c9) = vm1 at g1 w1
  obtain ⟨kA1, hkA1, eA⟩ := w1.alike.2.2 _ _ hkA
  obtain ⟨kC1, hkC1, eC1⟩ := w1.alike.2.2 _ _ hkC
  obtain ⟨r1, r2⟩ := X.roomAbove hcells hslots
  obtain ⟨L, X2, hL⟩ := gd_stand (X.noted w1) c9 cC2 n K n
  have lim := Launch.admits_arrayLengthLimit X.admits
  have bts := Launch.admits_maxHeapBytes X.admits
  refine ⟨gdS (T.setVm vm1) c9 cC2 n K n, c9, cC2, L, rfl, ⟨fun N z => ⟨(fun k h => by cases h), kA, hkA, cC2, hkindA⟩, fA⟩, ⟨fun N z => ⟨(fun k h => by cases h), kC, hkC, c0, hkindC⟩, fC2⟩, X2, hL, fun t ht => ?_⟩
  jvm_step X.here [hexec, hdg]
  simp only [Jvm.Op.multianewarray.sem, wp_bind', W.resolveClassAt_links (State.method?_setTop g X.here.top) g1]
  refine (popN_top (s := T.setVm vm1) (f := g) (args := [.int zn, .int zk]) (rest := rest) X.here.top hst).mpr ?_
  simp only [List.mapM_cons, List.mapM_nil, wp_bind', wp_pure']
  refine gd_make (T := T.setVm vm1) (fr := { g with stack := rest }) hkA1 (by rw [eA]; exact hkindA) hkC1 (by rw [eC1]; exact hkindC) nn nk en ek (by omega) (by omega) (by omega) (by omega) (show T.heap.size + 1 + n ≤ _ by omega) (show T.slotsUsed + n + n * K ≤ _ by omega) (fun d' a' => ?_)
  simp only [wp_bind', W.mark, W.pushRef, State.topJava?_setTop' _ X2.here.top, Option.some.injEq, exists_eq_left', State.setTop_setTop]
  intro acts
  simp [jvm, X2.here.top]
  exact ht
end MNX
section NEWM
variable {X : ZX} {own nm : String} {cc : ByteArray} {nL : Nat} {rm : Room} {pc : Nat} {ls : List (Option Value)} {st : List Value} {N N' : Nat} {g : Mem} {cells slots : Nat}
theorem z_mna (E : Ev X own cc nL rm nm) {idx n K : Nat} {zn zk : Int} (hd : decode cc pc = .ok (.multianewarray idx 2, 4)) (hcl : Cond.classLink own idx ("[" ++ (FieldType.array .int).toString) ∈ tblG) (hac : Cond.arrayClass .int ∈ tblG) (hzn : zn = (n : Int)) (hzk : zk = (K : Int)) (hn : n ≤ 1000) (hK : K ≤ 1000) (hcell : cells + (1 + n) ≤ rm.cells ∧ slots + (n + n * K) ≤ rm.slots) (k : Zc X (pc + 4) ls (.ref N :: st) (N + 1 + n) (rw2 g N n K) (cells + 1 + n) (slots + n + n * K)) : Zc X pc ls (.int (iI zk) :: .int (iI zn) :: st) N g cells slots := by
  obtain ⟨p, l, e, R, s, m, args, below, meth, c, Q, B⟩ := X
  obtain ⟨hx, hb, hml, hown, hts, hR, hnm, hNs⟩ := E
  subst hR
  intro H locs lsA hl hW hS
  obtain ⟨hz, D, hKn, hc⟩ := id hW
  intro T hT Xs
  obtain ⟨U, cA, cC, L, hU, hO, hI, X2, hL, step⟩ := gd_steps Xs hx hown (hts _ hcl) hNs.2.2 (hts _ hac) (g := F0 m pc lsA (.int (iI zk) :: .int (iI zn) :: st.map (mv B))) rfl (by rw [hb]; exact hd) rfl (iI_nn hzn (by omega)) (iI_nn hzk (by omega)) (iI_clamp hzn (by omega)) (iI_clamp hzk (by omega)) hn hK hcell.1 hcell.2
  rw [hT] at hU hL step
  have hcells : ∀ q : Nat, (rw2 g N n K q).1 < 12 → cOK D B s (rw2 g N n K q) (B + q) (gdH H cA cC n K n) := by
    intro q hq
    unfold rw2 at hq ⊢
    by_cases e1 : q = N
    · subst e1
      rw [if_pos rfl]
      refine ⟨fun r2 hr2 => by have := vw_lt hr2; have : 8 < 6 := this; omega, fun _ => ⟨cA, ?_, hO⟩⟩
      rw [← hz, gdH_out]
      show _ = some (arrV cA ((List.range n).map (fun i => Value.ref (q + 1 + i))).length _)
      rw [List.length_map, List.length_range]
      unfold gdO arrV
      congr 3
      funext j
      have hj := j.isLt
      have hg1 : ((List.range n).map (fun i => Value.ref (q + 1 + i))).getD (j : Nat) .null = .ref (q + 1 + j) := by simp [List.getD_eq_getElem?_getD, hj]
      show (if (j : Nat) < n then Value.ref (H.size + 1 + j) else .null) = mv B (((List.range n).map (fun i => Value.ref (q + 1 + i))).getD (j : Nat) .null)
      rw [hg1, if_pos hj, hz]
      show Value.ref (B + q + 1 + (j : Nat)) = Value.ref (B + (q + 1 + (j : Nat)))
      rw [show B + q + 1 + (j : Nat) = B + (q + 1 + (j : Nat)) by omega]
    · rw [if_neg e1] at hq ⊢
      by_cases e2 : N < q ∧ q < N + 1 + n
      · rw [if_pos e2]
        refine ⟨fun r2 hr2 => by have := vw_lt hr2; have : 6 < 6 := this; omega, fun _ => ⟨cC, ?_, hI⟩⟩
        show _ = some (arrV cC (vals K (fun _ => 0)).length _)
        rw [vals_arr, show B + q = H.size + 1 + (q - (N + 1)) by omega, gdH_in (by omega)]
        rfl
      · rw [if_neg e2] at hq ⊢
        exact (hc q hq).kept (gdH_old (hc q hq).lt)
  obtain ⟨t, a1, b1⟩ := k (gdH H cA cC n K n) L lsA hl ⟨by rw [gdH_size]; omega, D, hKn, hcells⟩ ⟨by rw [gdH_size]; have := hS.1; omega, fun x h1 h2 => (gdH_old (by have := hS.1; omega)).trans (hS.2.1 x h1 h2), fun q hq => (hL q hq).elim (hS.2.2 q) (fun h => by show B ≤ q.base; rw [h, hz]; omega)⟩ U hU X2
  refine ⟨t, step t ?_, b1⟩
  rw [hz]
  exact a1
end NEWM
