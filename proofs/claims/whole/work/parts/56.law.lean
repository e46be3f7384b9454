def R_law : String := "DeltaLaddersLaw"
def lw_P (b : Addr) (xs : List Int32) (args : Array Value) (s : State) : Prop := args = #[.ref b] ∧ s.IntsAt b xs ∧ xs.length ≤ 3584 ∧ (Jvm.Cond.and given_1 narrow_1).before args s = true
def lw_Q (_ : Array Value) (s : State) (o : Outcome) (t : State) : Prop := o = .returned (some (.int 1)) ∧ Framed s o t [] 600000 7302249
def lw_Z (below : List Frame) (a : Array Value) (s : State) : State → Prop := fun t => ∃ o, t.status = .running ∧ Ended t below o ∧ lw_Q a s o t
/-- the law's own end, with 1 on the stack, nothing written that was there before, its room as the claim has it -/
theorem lw_ret {p : Program} {l : Launch} {e : Env} {s : State} {m : MethodId} {below : List Frame} {meth : Method} {c : Code} {b : Nat} (hx : p.tables.exec = Jvm.exec) (hb : c.code = code) (hr : meth.sig.returnType = ret) (hlocks : meth.locks = false) {pc : Nat} {H : Heap} {ls : Array Slot} (hdg : decode code pc = .ok (.ireturn, 1)) : W p l e room_1 s m #[Value.ref b] below meth c H [] 600000 7302249 (lw_Z below #[Value.ref b] s) (F0 m pc ls [.int 1]) := by
  intro T hT X
  obtain ⟨fs, hret, hrun, hended, hW, hframe⟩ := X.leave (v := some (.int 1)) (hlocks := hlocks) (fun h => by rw [hr] at h; cases h)
  have hmeth' : T.vm.method? m = some meth := X.method'
  refine ⟨T.setFrames fs, ?_, .returned (some (.int 1)), hrun, hended, rfl, ⟨_, rfl⟩, hW, hframe⟩
  jvm_step X.here [X.here.top, hx, hb, hdg, hmeth', hr, ret, narrow_b1]
  (try refine ⟨rfl, ?_⟩); (try refine ⟨rfl, ?_⟩)
  first | (intro acts; rw [hret _ acts rfl rfl rfl]) | rw [hret _ _ rfl rfl rfl]
  exact Steps.refl _
/-- what holds at the law's entry: the machine, the code, the tables' words (any of lw_tbl by 'hts w (by decide +kernel)'), the script of L ints xs at the cell b, what the Statement gives of the start (any of its parts by flat_of_before) -/
def lw_At (p : Program) (s : State) (m : MethodId) (meth : Method) (c : Code) (b L : Nat) (xs : Nat → Int32) : Prop :=
  p.tables.exec = Jvm.exec ∧ c.code = code ∧ meth.sig.returnType = ret ∧ c.maxLocals = 4 ∧ s.vm.findClass R_law = some m.cls ∧ (∀ w ∈ lw_tbl, w.before #[Value.ref b] s = true) ∧ va_X b L xs s s.heap ∧ b < s.heap.size ∧ meth.locks = false ∧ (Jvm.Cond.and given_1 narrow_1).before #[Value.ref b] s = true
/-! the law's own walk: the script's reference stands as none, all else as before -/
def rv (B b : Nat) (v : Option Value) : Value := match v with
  | none => .ref b
  | some v => mv B v
def Zl (X : ZX) (b : Nat) (ll : List (Nat × Option Value)) (pc : Nat) (st : List (Option Value)) (N : Nat) (g : Mem) (cells slots : Nat) : Prop := match X with
  | (p, l, e, R, s, m, args, below, meth, c, Q, B) => ∀ (H : Heap) (locs : List Loc) (lsA : Array Slot), lv_has lsA 4 (ll.map (fun q => (q.1, rv B b q.2))) → Wd B N g s H → va_S (fun q => B ≤ q) s.heap H locs → W p l e R s m args below meth c H locs cells slots Q (F0 m pc lsA (st.map (rv B b)))
def Sc (X : ZX) (b L : Nat) (xs : Nat → Int32) : Prop := match X with
  | (_, _, _, _, s, _, _, _, _, _, _, B) => va_X b L xs s s.heap ∧ b < s.heap.size ∧ b < B
theorem iI_of (x : Int32) : iI x.toInt = x := by
  rw [← Int32.toInt_inj, iI_toInt ⟨Int32.le_toInt x, Int32.toInt_lt x⟩]
theorem inR_of (x : Int32) : inR x.toInt := ⟨Int32.le_toInt x, Int32.toInt_lt x⟩
theorem lI_of (x : Int64) : lI x.toInt = x := by
  rw [← Int64.toInt_inj, lI_toInt ⟨Int64.le_toInt x, Int64.toInt_lt x⟩]
section LROWS
variable {X : ZX} {own nm : String} {cc : ByteArray} {rm : Room} {pc : Nat} {b L : Nat} {xs : Nat → Int32} {ll : List (Nat × Option Value)} {st : List (Option Value)} {N N' : Nat} {g : Mem} {cells slots : Nat}
theorem l_aloadS (E : Ev X own cc 4 rm nm) {n : Fin 4} (hd : decode cc pc = .ok (.aload_n n, 1)) (hk : ((n : Nat), none) ∈ ll) (k : Zl X b ll (pc + 1) (none :: st) N g cells slots) : Zl X b ll pc st N g cells slots := by
  obtain ⟨p, l, e, R, s, m, args, below, meth, c, Q, B⟩ := X
  obtain ⟨hx, hb, hml, hown, hts, hR, hnm, hNs⟩ := E
  intro H locs lsA hl hW hS
  exact lv_aload_n hx hb hd rfl (hl.2.2 _ (List.mem_map.mpr ⟨_, hk, rfl⟩)) (k H locs lsA hl hW hS)
theorem l_aloadR (E : Ev X own cc 4 rm nm) {n : Fin 4} {x : Nat} (hd : decode cc pc = .ok (.aload_n n, 1)) (hk : ((n : Nat), some (.ref x)) ∈ ll) (k : Zl X b ll (pc + 1) (some (.ref x) :: st) N g cells slots) : Zl X b ll pc st N g cells slots := by
  obtain ⟨p, l, e, R, s, m, args, below, meth, c, Q, B⟩ := X
  obtain ⟨hx, hb, hml, hown, hts, hR, hnm, hNs⟩ := E
  intro H locs lsA hl hW hS
  exact lv_aload_n hx hb hd rfl (hl.2.2 _ (List.mem_map.mpr ⟨_, hk, rfl⟩)) (k H locs lsA hl hW hS)
theorem l_iload (E : Ev X own cc 4 rm nm) {n : Fin 4} {x : Int32} (hd : decode cc pc = .ok (.iload_n n, 1)) (hk : ((n : Nat), some (.int x)) ∈ ll) (k : Zl X b ll (pc + 1) (some (.int x) :: st) N g cells slots) : Zl X b ll pc st N g cells slots := by
  obtain ⟨p, l, e, R, s, m, args, below, meth, c, Q, B⟩ := X
  obtain ⟨hx, hb, hml, hown, hts, hR, hnm, hNs⟩ := E
  intro H locs lsA hl hW hS
  exact lv_iload_n hx hb hd rfl (hl.2.2 _ (List.mem_map.mpr ⟨_, hk, rfl⟩)) (k H locs lsA hl hW hS)
theorem l_iconst (E : Ev X own cc 4 rm nm) {n : Int} (hd : decode cc pc = .ok (.iconst n, 1)) (k : Zl X b ll (pc + 1) (some (.int (iI n)) :: st) N g cells slots) : Zl X b ll pc st N g cells slots := by
  obtain ⟨p, l, e, R, s, m, args, below, meth, c, Q, B⟩ := X
  obtain ⟨hx, hb, hml, hown, hts, hR, hnm, hNs⟩ := E
  intro H locs lsA hl hW hS
  refine lv_iconst hx hb hd rfl ?_
  exact k H locs lsA hl hW hS
theorem l_bipush (E : Ev X own cc 4 rm nm) {n : Int} (hn : -128 ≤ n ∧ n < 128) (hd : decode cc pc = .ok (.bipush n, 2)) (k : Zl X b ll (pc + 2) (some (.int (iI n)) :: st) N g cells slots) : Zl X b ll pc st N g cells slots := by
  obtain ⟨p, l, e, R, s, m, args, below, meth, c, Q, B⟩ := X
  obtain ⟨hx, hb, hml, hown, hts, hR, hnm, hNs⟩ := E
  intro H locs lsA hl hW hS
  refine lv_bipush hx hb hd (bip_I hn) ?_
  exact k H locs lsA hl hW hS
theorem l_iadd (E : Ev X own cc 4 rm nm) {x y : Int} (hd : decode cc pc = .ok (.iadd, 1)) (k : Zl X b ll (pc + 1) (some (.int (iI (x + y))) :: st) N g cells slots) : Zl X b ll pc (some (.int (iI y)) :: some (.int (iI x)) :: st) N g cells slots := by
  obtain ⟨p, l, e, R, s, m, args, below, meth, c, Q, B⟩ := X
  obtain ⟨hx, hb, hml, hown, hts, hR, hnm, hNs⟩ := E
  intro H locs lsA hl hW hS
  show W p l e R s m args below meth c H locs cells slots Q (F0 m pc lsA (.int (iI y) :: .int (iI x) :: st.map (rv B b)))
  refine lv_iadd hx hb hd ?_
  rw [iI_add]
  exact k H locs lsA hl hW hS
theorem l_isub (E : Ev X own cc 4 rm nm) {x y : Int} (hd : decode cc pc = .ok (.isub, 1)) (k : Zl X b ll (pc + 1) (some (.int (iI (x - y))) :: st) N g cells slots) : Zl X b ll pc (some (.int (iI y)) :: some (.int (iI x)) :: st) N g cells slots := by
  obtain ⟨p, l, e, R, s, m, args, below, meth, c, Q, B⟩ := X
  obtain ⟨hx, hb, hml, hown, hts, hR, hnm, hNs⟩ := E
  intro H locs lsA hl hW hS
  show W p l e R s m args below meth c H locs cells slots Q (F0 m pc lsA (.int (iI y) :: .int (iI x) :: st.map (rv B b)))
  refine lv_isub hx hb hd ?_
  rw [iI_sub]
  exact k H locs lsA hl hW hS
theorem l_iand (E : Ev X own cc 4 rm nm) {x y : Int32} (hd : decode cc pc = .ok (.iand, 1)) (k : Zl X b ll (pc + 1) (some (.int (x &&& y)) :: st) N g cells slots) : Zl X b ll pc (some (.int y) :: some (.int x) :: st) N g cells slots := by
  obtain ⟨p, l, e, R, s, m, args, below, meth, c, Q, B⟩ := X
  obtain ⟨hx, hb, hml, hown, hts, hR, hnm, hNs⟩ := E
  intro H locs lsA hl hW hS
  show W p l e R s m args below meth c H locs cells slots Q (F0 m pc lsA (.int y :: .int x :: st.map (rv B b)))
  refine lv_iand hx hb hd ?_
  exact k H locs lsA hl hW hS
theorem l_slen (E : Ev X own cc 4 rm nm) (hS0 : Sc X b L xs) (hd : decode cc pc = .ok (.arraylength, 1)) (k : Zl X b ll (pc + 1) (some (.int (iI (L : Int))) :: st) N g cells slots) : Zl X b ll pc (none :: st) N g cells slots := by
  obtain ⟨p, l, e, R, s, m, args, below, meth, c, Q, B⟩ := X
  obtain ⟨hx, hb, hml, hown, hts, hR, hnm, hNs⟩ := E
  obtain ⟨hX, hbl, hbB⟩ := hS0
  intro H locs lsA hl hW hS
  refine va_slen hx hb hX hbl (by show ¬ B ≤ b; omega) hS hd ?_
  rw [show Int32.ofNat L = iI (L : Int) from (Int32.ofInt_eq_ofNat).symm]
  exact k H locs lsA hl hW hS
theorem l_sld (E : Ev X own cc 4 rm nm) (hS0 : Sc X b L xs) {j : Int} {n : Nat} (hj : j = (n : Int)) (hn : n < L) (hL : L ≤ 3584) (hd : decode cc pc = .ok (.iaload, 1)) (k : Zl X b ll (pc + 1) (some (.int (iI (xs n).toInt)) :: st) N g cells slots) : Zl X b ll pc (some (.int (iI j)) :: none :: st) N g cells slots := by
  obtain ⟨p, l, e, R, s, m, args, below, meth, c, Q, B⟩ := X
  obtain ⟨hx, hb, hml, hown, hts, hR, hnm, hNs⟩ := E
  obtain ⟨hX, hbl, hbB⟩ := hS0
  intro H locs lsA hl hW hS
  show W p l e R s m args below meth c H locs cells slots Q (F0 m pc lsA (.int (iI j) :: .ref b :: st.map (rv B b)))
  refine va_sld hx hb hX hbl (by show ¬ B ≤ b; omega) hS (iI_idx hj hn (by omega)) hd ?_
  rw [iI_clamp hj (by omega)]
  have := k H locs lsA hl hW hS
  rw [iI_of] at this
  exact this
theorem l_gt (E : Ev X own cc 4 rm nm) {x y : Int} {off : Int} {tgt : Nat} (hx0 : inR x) (hy : inR y) (hd : decode cc pc = .ok (.if_icmp .gt off, 3)) (ht : (pc : Int) + off = (tgt : Int)) (kt : y < x → Zl X b ll tgt st N g cells slots) (kf : x ≤ y → Zl X b ll (pc + 3) st N g cells slots) : Zl X b ll pc (some (.int (iI y)) :: some (.int (iI x)) :: st) N g cells slots := by
  obtain ⟨p, l, e, R, s, m, args, below, meth, c, Q, B⟩ := X
  obtain ⟨hx, hb, hml, hown, hts, hR, hnm, hNs⟩ := E
  intro H locs lsA hl hW hS
  refine lv_icmp_gt hx hb hd ht (fun h => kt ((iI_lt hy hx0).mp h) H locs lsA hl hW hS) (fun h => kf (Int.not_lt.mp (fun q => h ((iI_lt hy hx0).mpr q))) H locs lsA hl hW hS)
theorem l_eq (E : Ev X own cc 4 rm nm) {x : Int32} {off : Int} {tgt : Nat} (hd : decode cc pc = .ok (.if_icmp .eq off, 3)) (ht : (pc : Int) + off = (tgt : Int)) (k : Zl X b ll tgt st N g cells slots) : Zl X b ll pc (some (.int x) :: some (.int x) :: st) N g cells slots := by
  obtain ⟨p, l, e, R, s, m, args, below, meth, c, Q, B⟩ := X
  obtain ⟨hx, hb, hml, hown, hts, hR, hnm, hNs⟩ := E
  intro H locs lsA hl hW hS
  refine lv_icmp_eq hx hb hd ht (fun h => k H locs lsA hl hW hS) (fun h => absurd rfl h)
theorem l_leq (E : Ev X own cc 4 rm nm) {x : Int64} {off : Int} {tgt : Nat} (hd : decode cc pc = .ok (.lcmp, 1)) (hd2 : decode cc (pc + 1) = .ok (.ifCond .eq off, 3)) (ht : ((pc + 1 : Nat) : Int) + off = (tgt : Int)) (k : Zl X b ll tgt st N g cells slots) : Zl X b ll pc (some (.long x) :: some (.long x) :: st) N g cells slots := by
  obtain ⟨p, l, e, R, s, m, args, below, meth, c, Q, B⟩ := X
  obtain ⟨hx, hb, hml, hown, hts, hR, hnm, hNs⟩ := E
  intro H locs lsA hl hW hS
  refine W.lcmp hx hb hd ?_
  have e0 : lg_cmp x x = 0 := by
    have h := lcmp_lt (a := x.toInt) (b := x.toInt) ⟨Int64.le_toInt x, Int64.toInt_lt x⟩ ⟨Int64.le_toInt x, Int64.toInt_lt x⟩
    rw [lI_of, if_neg (by omega), if_pos rfl] at h
    exact h
  rw [e0]
  exact lv_if_eq hx hb hd2 ht (fun _ => k H locs lsA hl hW hS) (fun h => absurd rfl h)
theorem l_tableOut (E : Ev X own cc 4 rm nm) {dflt lo hi : Int} {offs : Array Int} {len : Nat} {x : Int32} {tgt : Nat} (hd : decode cc pc = .ok (.tableswitch dflt lo hi offs, len)) (h : x.toInt < lo ∨ hi < x.toInt) (ht : (pc : Int) + dflt = (tgt : Int)) (k : Zl X b ll tgt st N g cells slots) : Zl X b ll pc (some (.int x) :: st) N g cells slots := by
  obtain ⟨p, l, e, R, s, m, args, below, meth, c, Q, B⟩ := X
  obtain ⟨hx, hb, hml, hown, hts, hR, hnm, hNs⟩ := E
  intro H locs lsA hl hW hS
  exact lv_tableOut hx hb hd h ht (k H locs lsA hl hW hS)
theorem l_tableIn (E : Ev X own cc 4 rm nm) {dflt lo hi : Int} {offs : Array Int} {len : Nat} {x : Int32} {off : Int} {tgt : Nat} {z : Int} (hz : x.toInt = z) (hd : decode cc pc = .ok (.tableswitch dflt lo hi offs, len)) (h1 : ¬ z < lo) (h2 : ¬ hi < z) (ho : offs[(z - lo).toNat]? = some off) (ht : (pc : Int) + off = (tgt : Int)) (k : Zl X b ll tgt st N g cells slots) : Zl X b ll pc (some (.int x) :: st) N g cells slots := by
  obtain ⟨p, l, e, R, s, m, args, below, meth, c, Q, B⟩ := X
  obtain ⟨hx, hb, hml, hown, hts, hR, hnm, hNs⟩ := E
  intro H locs lsA hl hW hS
  subst hz
  exact lv_tableIn hx hb hd h1 h2 ho ht (k H locs lsA hl hW hS)
theorem l_goto (E : Ev X own cc 4 rm nm) {off : Int} {tgt : Nat} (hd : decode cc pc = .ok (.goto off, 3)) (ht : (pc : Int) + off = (tgt : Int)) (k : Zl X b ll tgt st N g cells slots) : Zl X b ll pc st N g cells slots := by
  obtain ⟨p, l, e, R, s, m, args, below, meth, c, Q, B⟩ := X
  obtain ⟨hx, hb, hml, hown, hts, hR, hnm, hNs⟩ := E
  intro H locs lsA hl hW hS
  exact lv_goto hx hb hd ht (k H locs lsA hl hW hS)
theorem l_dup (E : Ev X own cc 4 rm nm) {x : Nat} (hd : decode cc pc = .ok (.dup, 1)) (k : Zl X b ll (pc + 1) (some (.ref x) :: some (.ref x) :: st) N g cells slots) : Zl X b ll pc (some (.ref x) :: st) N g cells slots := by
  obtain ⟨p, l, e, R, s, m, args, below, meth, c, Q, B⟩ := X
  obtain ⟨hx, hb, hml, hown, hts, hR, hnm, hNs⟩ := E
  intro H locs lsA hl hW hS
  exact lv_dup hx hb hd rfl (k H locs lsA hl hW hS)
theorem l_new (E : Ev X own cc 4 rm nm) {idx ci : Nat} {fs : List Value} (hd : decode cc pc = .ok (.new idx, 3)) (hf : Fn own idx ci fs) (hcell : cells + 1 ≤ rm.cells ∧ slots + fs.length ≤ rm.slots) (k : Zl X b ll (pc + 3) (some (.ref N) :: st) (N + 1) (va_up g N (ci, fs)) (cells + 1) (slots + fs.length)) : Zl X b ll pc st N g cells slots := by
  obtain ⟨p, l, e, R, s, m, args, below, meth, c, Q, B⟩ := X
  obtain ⟨hx, hb, hml, hown, hts, hR, hnm, hNs⟩ := E
  subst hR
  intro H locs lsA hl hW hS
  obtain ⟨r, hr, h1, h2, h3, hlen, ty, hty, hdef⟩ := hf
  obtain ⟨hz, D, hKn, hc⟩ := id hW
  obtain ⟨hin, -⟩ := clsIn ci r hr
  have hK := hKn ci r hr
  refine W.newcK hx hb hown (hts _ h1) (hts _ h2) (hts _ h3) rfl hd hcell.1 (by rw [← hlen]; exact hcell.2) hK.2.1 hz fun H1 kC hkC e1 z1 o1 => ?_
  rw [← hlen]
  refine k H1 locs lsA hl ⟨z1.trans (by omega), D, hKn, cells_new hz hc (by rw [hz]; exact o1) ⟨fun r2 hr2 => ?_, fun h6 => by have := vw_lt hr; have : 6 ≤ ci := h6; omega⟩⟩ ⟨Nat.le_trans hS.1 (by omega), fun x h1 h2 => (o1 x (by have := hS.1; omega)).trans (hS.2.1 x h1 h2), hS.2.2⟩
  cases hr.symm.trans hr2
  exact ⟨hlen, (u_born ty hts hin hK hkC e1 hty).to (fun j hj => hdef B j hj)⟩
theorem l_run {p : Program} {l : Launch} {e : Env} {R : Room} {s : State} {m : MethodId} {args : Array Value} {below : List Frame} {meth : Method} {c : Code} {H : Heap} {locs : List Loc} {Q : State → Prop} {B : Nat} {lsA : Array Slot} {st0 : List Value} {mc ms : Nat} {a : Array Value} {P : Option Value → Mem → Prop}
    (hr : va_Run p l e R s m args below meth c H locs cells slots mc ms (F0 m pc lsA st0) (st.map (rv B b)) (Qk B N' P a) (fun q => B ≤ q)) (hl : lv_has lsA 4 (ll.map (fun q => (q.1, rv B b q.2)))) (hW : Wd B N g s H) (hS : va_S (fun q => B ≤ q) s.heap H locs) (hgr : N ≤ N')
    (k : ∀ (r : Option Value) (g' : Mem), P r g' → Zl (p, l, e, R, s, m, args, below, meth, c, Q, B) b ll (pc + 3) ((r.map some).toList ++ st) N' g' (cells + mc) (slots + ms)) : W p l e R s m args below meth c H locs cells slots Q (F0 m pc lsA st0) := by
  intro T hT X
  obtain ⟨v, st₀, t, T', L, h0, X', hL, e1, e2, ⟨r, g', hv, hP, hWd, hfr⟩, st1⟩ := hr T hT X
  cases hv
  rw [h0] at hfr
  have hz0 := hW.1
  have hz1 := hWd.1
  obtain ⟨t2, a1, b1⟩ := k r g' hP T'.heap (locs ++ L) lsA hl (by rw [e1]; exact hWd.moved (by rw [← e2]; exact X'.warmed.alike.symm)) ⟨by rw [e1, hz1]; have := hS.1; omega, fun q q1 q2 => by rw [e1, hfr q (Nat.not_le.mp q2)]; exact hS.2.1 q q1 q2, fun q hq => by
      rcases List.mem_append.mp hq with h | h
      · exact hS.2.2 q h
      · exact hL q h⟩ T' rfl X'
  refine ⟨t2, st1 t2 ?_, b1⟩
  cases r <;> exact a1
def rc (v : Option Value) : Nat := match v with
  | none => 1
  | some v => v.category
theorem cats_rv (B b : Nat) (st : List (Option Value)) : ((st.map (rv B b)).map fun v => v.category).sum = (st.map rc).sum := by
  rw [List.map_map]
  congr 1
  apply List.map_congr_left
  intro v _
  cases v with
  | none => rfl
  | some v => exact mv_cat B v
theorem l_callI (E : Ev X own cc 4 rm nm) {idx a : Nat} {y : MethodName} {bc : ByteArray} {mL : Nat} {r2 : Room} {P : Mem → Prop} (hd : decode cc pc = .ok (.invokespecial idx, 3)) (lk : LkI own idx y bc mL) (hok : OkM (y, bc, mL, none, r2) [.ref a] N g N' (fun r g2 => r = none ∧ P g2)) (hst : (st.map rc).sum ≤ 8) (hgr : N ≤ N') (hroom : r2.frames + 1 ≤ rm.frames ∧ 8 + (mL + 11) + r2.locals ≤ rm.locals) (hcell : cells + r2.cells ≤ rm.cells ∧ slots + r2.slots ≤ rm.slots)
    (k : ∀ g', P g' → Zl X b ll (pc + 3) st N' g' (cells + r2.cells) (slots + r2.slots)) : Zl X b ll pc (some (.ref a) :: st) N g cells slots := by
  obtain ⟨p, l, e, R, s, m, args, below, meth, c, Q, B⟩ := X
  obtain ⟨hx, hb, hml, hown, hts, hR, hnm, hNs⟩ := E
  subst hR
  intro H locs lsA hl hW hS
  obtain ⟨k1, k2, k3, k4, k6, k5⟩ := lk
  refine l_run (st := st) (va_runI (Ts := tblG) (b := B + a) (As := []) (rest := st.map (rv B b)) (n := 0) ⟨hx, hb, hml, hown, hts⟩ (hok l B) ⟨callB_of 0 hts (mws_good k4) rfl rfl rfl (hts _ k3) (hts _ k1) k5 hroom, k6, hts _ k2⟩ ⟨wd_blind (av := [.ref a]), fun U hU hw => ⟨rfl, (congrArg (Wd B N g U) hU).mpr (hW.moved hw.alike), hNs.warm hw⟩⟩ rfl rfl hl.1 rfl (lv_room (by rw [cats_rv]; exact hst)) hd hcell) hl hW hS hgr ?_
  rintro r g2 ⟨rfl, hP⟩
  exact k g2 hP
theorem l_callV (E : Ev X own cc 4 rm nm) {idx n ci a : Nat} {fs : List Value} {M : Md} {av : List Value} {stk : List (Option Value)} {v : Value} {Q : Mem → Prop} (hd : decode cc pc = .ok (.invokevirtual idx, 3)) (lk : LkV own idx M n ci) (hok : OkI M (.ref a :: av) N g v Q) (hg : g a = (ci, fs)) (hstk : av.reverse.map some ++ some (.ref a) :: st = stk) (hn : av.length = n) (hst : (st.map rc).sum ≤ 8)
    (hroom : M.2.2.2.2.frames + 1 ≤ rm.frames ∧ 8 + (M.2.2.1 + 11) + M.2.2.2.2.locals ≤ rm.locals) (h00 : M.2.2.2.2.cells = 0 ∧ M.2.2.2.2.slots = 0) (hcell : cells ≤ rm.cells ∧ slots ≤ rm.slots)
    (k : ∀ g', Q g' → Zl X b ll (pc + 3) (some v :: st) N g' cells slots) : Zl X b ll pc stk N g cells slots := by
  subst hstk
  obtain ⟨p, l, e, R, s, m, args, below, meth, c, Q', B⟩ := X
  obtain ⟨hx, hb, hml, hown, hts, hR, hnm, hNs⟩ := E
  subst hR
  intro H locs lsA hl hW hS
  obtain ⟨k1, k2, k3, k4, k6, ⟨r, hr, hrc⟩, k5⟩ := lk
  obtain ⟨hz, D, hKn, hc⟩ := id hW
  have hlt := vw_lt hr
  have ha := hc a (by rw [hg]; show ci < 12; omega)
  rw [hg] at ha
  obtain ⟨hlen, cell, q1, q2, q3, q4⟩ := ha.1 r hr
  refine l_run (st := st) (N' := N) (va_runV (Ts := tblG) (C := M.1.cls) (b := B + a) (As := av.map (mv B)) (rest := st.map (rv B b)) (n := n) ⟨hx, hb, hml, hown, hts⟩ (hok l B) ⟨callB_of n hts (mws_good k4) rfl rfl rfl (hts _ k3) (hts _ k1) k5 hroom, hts _ k2, hts _ k6⟩ ⟨wd_blind (av := .ref a :: av), ⟨cell, q1, by rw [q3]; rfl, by rw [q2, ← hrc]; exact (hKn ci r hr).2.1⟩, fun U hU hw => ⟨rfl, (congrArg (Wd B N g U) hU).mpr (hW.moved hw.alike), hNs.warm hw⟩⟩ rfl (by rw [List.length_map]; exact hn) hl.1 (by simp [List.map_append, List.map_reverse, rv, mv]) (lv_room (by rw [cats_rv]; exact hst)) hd (by rw [h00.1, h00.2]; exact hcell)) hl hW hS (Nat.le_refl N) ?_
  rintro r2 g2 ⟨rfl, hP⟩
  rw [h00.1, h00.2]
  exact k g2 hP
/-- one of the call's numbers, out of the script -/
theorem l_arg (E : Ev X own cc 4 rm nm) (hS0 : Sc X b L xs) (hL : L ≤ 3584) {i : Nat} (h0 : (0, none) ∈ ll) (h3 : (3, some (.int (iI (i : Int)))) ∈ ll) (kk : Nat) (hk : i + kk < L) (d1 : decode cc pc = .ok (.aload_n 0, 1)) (d2 : decode cc (pc + 1) = .ok (.iload_n 3, 1)) (d3 : decode cc (pc + 1 + 1) = .ok (.iconst (kk : Int), 1)) (d4 : decode cc (pc + 1 + 1 + 1) = .ok (.iadd, 1)) (d5 : decode cc (pc + 1 + 1 + 1 + 1) = .ok (.iaload, 1))
    (k : Zl X b ll (pc + 1 + 1 + 1 + 1 + 1) (some (.int (iI (xs (i + kk)).toInt)) :: st) N g cells slots) : Zl X b ll pc st N g cells slots := by
  refine l_aloadS (n := 0) E d1 h0 ?_
  refine l_iload (n := 3) E d2 h3 ?_
  refine l_iconst E d3 ?_
  refine l_iadd E d4 ?_
  exact l_sld E hS0 (n := i + kk) (by omega) hk hL d5 k
theorem l_arg6 (E : Ev X own cc 4 rm nm) (hS0 : Sc X b L xs) (hL : L ≤ 3584) {i : Nat} (h0 : (0, none) ∈ ll) (h3 : (3, some (.int (iI (i : Int)))) ∈ ll) (kk : Nat) (hk6 : kk < 100) (hk : i + kk < L) (d1 : decode cc pc = .ok (.aload_n 0, 1)) (d2 : decode cc (pc + 1) = .ok (.iload_n 3, 1)) (d3 : decode cc (pc + 1 + 1) = .ok (.bipush (kk : Int), 2)) (d4 : decode cc (pc + 1 + 1 + 2) = .ok (.iadd, 1)) (d5 : decode cc (pc + 1 + 1 + 2 + 1) = .ok (.iaload, 1))
    (k : Zl X b ll (pc + 1 + 1 + 2 + 1 + 1) (some (.int (iI (xs (i + kk)).toInt)) :: st) N g cells slots) : Zl X b ll pc st N g cells slots := by
  refine l_aloadS (n := 0) E d1 h0 ?_
  refine l_iload (n := 3) E d2 h3 ?_
  refine l_bipush E (by omega) d3 ?_
  refine l_iadd E d4 ?_
  exact l_sld E hS0 (n := i + kk) (by omega) hk hL d5 k
end LROWS
theorem MI.hi {A A' : Nat → Nat → Int} {σ : St} (h : MI A σ) (e : Hi A A') : MI A' σ := by
  obtain ⟨hV, hS⟩ := h
  refine ⟨⟨fun s hs => ?_, fun k hk => ?_, by rw [e 156 (by omega)]; exact hV.2.2⟩, hS⟩
  · rw [e 157 (by omega), e 158 (by omega), e 159 (by omega), e 160 (by omega)]; exact hV.1 s hs
  · rw [e 170 (by omega), e 171 (by omega)]; exact hV.2.1 k hk
theorem XI.lo {A A' : Nat → Nat → Int} {σ : St} (h : XI A σ) (e : Lo A A') : XI A' σ := h.scr (fun k hk => e k (by omega))
abbrev lls (i : Nat) : List (Nat × Option Value) := [(3, some (.int (iI (i : Int)))), (2, some (.ref 156)), (1, some (.ref 0)), (0, none)]
theorem lls0 (i : Nat) : (0, none) ∈ lls i := by simp [lls]
theorem lls1 (i : Nat) : (1, some (.ref 0)) ∈ lls i := by simp [lls]
theorem lls2 (i : Nat) : (2, some (.ref 156)) ∈ lls i := by simp [lls]
theorem lls3 (i : Nat) : (3, some (.int (iI (i : Int)))) ∈ lls i := by simp [lls]
