/-! contracts and calls -/
abbrev Md : Type := MethodName × ByteArray × Nat × Option FieldType × Room
def mws (M : Md) : List Cond := .code M.1 M.2.1 M.2.2.1 M.2.2.2.1 :: tblG
def OkM (M : Md) (av : List Value) (N : Nat) (g : Mem) (N' : Nat) (P : Option Value → Mem → Prop) : Prop :=
  ∀ (l : Launch) (B : Nat), Met l M.1 (mws M) M.2.2.2.2 (va_Pc (av.map (mv B)) (fun U => Wd B N g U U.heap ∧ NestOK U)) (Qk B N' P) M.2.2.2.2.cells M.2.2.2.2.slots (fun q => B ≤ q)
/-- a contract that tells answer and memory -/
abbrev OkR (M : Md) (av : List Value) (N : Nat) (g : Mem) (r : Option Value) (g' : Mem) : Prop := OkM M av N g N (fun r2 g2 => r2 = r ∧ g2 = g')
theorem tbl_good : tblG.all goodWord = true := by
  rw [List.all_eq_true]
  intro w hw
  exact (List.mem_filter.mp hw).2
theorem NestOK.warm {s U : State} (hW : s.WarmedH U.vm) (h : NestOK s) : NestOK U := ⟨fun a i x hh hm => (h.1 a i x hh hm).warmM hW, fun C hm => (h.2.1 C hm).moved hW.alike, h.2.2.moved hW.alike⟩
theorem mws_good {M : Md} (h : Cond.code M.1 M.2.1 M.2.2.1 M.2.2.2.1 ∈ tblG) : GoodIn tblG (mws M) := by
  intro w hw
  have hw2 : w ∈ tblG := by
    rcases List.mem_cons.mp hw with e | e
    · rw [e]; exact h
    · exact e
  exact ⟨hw2, good_of_word (List.all_eq_true.mp tbl_good w hw2)⟩
theorem OkM.of {y : MethodName} {cc : ByteArray} {nL : Nat} {ret : Option FieldType} {rm : Room} {av : List Value} {N N' : Nat} {g : Mem} {P : Option Value → Mem → Prop} (ls : List (Option Value)) (hy : plainFor y = true) (hls : entL av nL = ls) (hlen : (expA av).length ≤ nL)
    (body : ∀ X : ZX, Ev X y.cls cc nL rm y.name → Rt X ret N' P rm.cells rm.slots → Zc X 0 ls [] N g 0 0) : OkM (y, cc, nL, ret, rm) av N g N' P := by
  intro l B
  refine va_MetF (cc := cc) (maxL := nL) (ret := ret) hy rfl ?_
  intro p e s m args below meth c s₁ Bd hml hv
  obtain ⟨rfl, hW, hNs⟩ := hv
  have hts := atoms_spec (ws := mws (y, cc, nL, ret, rm)) Bd.pre
  have hown : s.vm.findClass y.cls = some m.cls := findClass_of_methodNamed Bd.named
  have hname : meth.name = y.name := (name_of_methodNamed Bd.named Bd.method).1
  rw [lg_entry_eq]
  have hl : lh B ((lg_sl (av.map (mv B)) ++ List.replicate (nL - (lg_sl (av.map (mv B))).length) Slot.unset).toArray) ls := hls ▸ entL_has av hlen
  exact body (p, l, e, rm, s, m, (av.map (mv B)).toArray, below, meth, c, MQ below (Qk B N' P) (av.map (mv B)).toArray s rm.cells rm.slots (fun q => B ≤ q), B) ⟨Bd.exec, Bd.bytes, hml, hown, fun w hw => hts w (List.mem_cons_of_mem _ hw), rfl, hname, hNs⟩ ⟨Bd.returns, Bd.notSynchronized, by have := hW.1; omega, rfl⟩ s.heap [] _ hl hW va_S.rf
section RUNS
variable {p : Program} {l : Launch} {e : Env} {R : Room} {s : State} {m : MethodId} {args : Array Value} {below : List Frame} {meth : Method} {c : Code} {H : Heap} {locs : List Loc} {cells slots : Nat} {Q : State → Prop} {B : Nat}
theorem z_run {pc : Nat} {ls : List (Option Value)} {lsA : Array Slot} {st0 st : List Value} {N N' mc ms : Nat} {g : Mem} {a : Array Value} {P : Option Value → Mem → Prop}
    (hr : va_Run p l e R s m args below meth c H locs cells slots mc ms (F0 m pc lsA st0) (st.map (mv B)) (Qk B N' P a) (fun q => B ≤ q)) (hl : lh B lsA ls) (hW : Wd B N g s H) (hS : va_S (fun q => B ≤ q) s.heap H locs) (hgr : N ≤ N')
    (k : ∀ (r : Option Value) (g' : Mem), P r g' → Zc (p, l, e, R, s, m, args, below, meth, c, Q, B) (pc + 3) ls (r.toList ++ st) N' g' (cells + mc) (slots + ms)) : W p l e R s m args below meth c H locs cells slots Q (F0 m pc lsA st0) := by
  intro T hT X
  obtain ⟨v, st₀, t, T', L, h0, X', hL, e1, e2, ⟨r, g', hv, hP, hWd, hfr⟩, st1⟩ := hr T hT X
  cases hv
  rw [h0] at hfr
  have hz0 := hW.1
  have hz1 := hWd.1
  obtain ⟨t2, a1, b1⟩ := k r g' hP T'.heap (locs ++ L) lsA hl (by rw [e1]; exact hWd.moved (by rw [← e2]; exact X'.warmed.alike.symm)) ⟨by rw [e1, hz1]; have := hS.1; omega, fun q q1 q2 => by rw [e1, hfr q (Nat.not_le.mp q2)]; exact hS.2.1 q q1 q2, fun q hq => by
      rcases List.mem_append.mp hq with h | h
      · exact hS.2.2 q h
      · exact hL q h⟩ T' rfl X'
  refine ⟨t2, st1 t2 ?_, b1⟩
  cases r <;> exact a1
end RUNS
/-- what the tables say of a call: static, of an object, of a constructor -/
def LkS (own : String) (idx : Nat) (M : Md) (n : Nat) : Prop := Cond.methodLink own idx M.1 ∈ tblG ∧ Cond.static M.1 ∈ tblG ∧ Cond.initialized M.1.cls ∈ tblG ∧ Cond.code M.1 M.2.1 M.2.2.1 M.2.2.2.1 ∈ tblG ∧ M.1.cls ≠ "java/lang/invoke/MethodHandle" ∧ M.1.cls ≠ "java/lang/invoke/VarHandle" ∧ (parseMethodDescriptor M.1.desc).map (fun d => d.parameters.length) = some n
def LkV (own : String) (idx : Nat) (M : Md) (n ci : Nat) : Prop := Cond.methodLink own idx M.1 ∈ tblG ∧ Cond.instanceMethod M.1 ∈ tblG ∧ Cond.initialized M.1.cls ∈ tblG ∧ Cond.code M.1 M.2.1 M.2.2.1 M.2.2.2.1 ∈ tblG ∧ Cond.selects M.1.cls M.1 M.1 ∈ tblG ∧ (∃ r, vwCl[ci]? = some r ∧ r.1 = M.1.cls) ∧ M.1.cls ≠ "java/lang/invoke/MethodHandle" ∧ M.1.cls ≠ "java/lang/invoke/VarHandle" ∧ (parseMethodDescriptor M.1.desc).map (fun d => d.parameters.length) = some n
section CALLS
variable {X : ZX} {own nm : String} {cc : ByteArray} {nL : Nat} {rm : Room} {pc : Nat} {ls : List (Option Value)} {st : List Value} {N N' : Nat} {g : Mem} {cells slots : Nat}
theorem wd_blind {B N : Nat} {g : Mem} {av : List Value} : FrameBlind (va_Pc (av.map (mv B)) (fun U => Wd B N g U U.heap ∧ NestOK U)) := fun a U g2 mk q => ⟨q.1, Wd.moved (u := U) (U := U.calling g2 mk a) (Vm.Alike.refl U.vm) q.2.1, fun a1 i x h hm => (q.2.2.1 a1 i x h hm).same rfl rfl, fun C hm => (q.2.2.2.1 C hm).moved (U := U.calling g2 mk a) (Vm.Alike.refl U.vm), q.2.2.2.2.moved (U := U.calling g2 mk a) (Vm.Alike.refl U.vm)⟩
theorem cats_mv (B : Nat) (st : List Value) : ((st.map (mv B)).map fun v => v.category).sum = (st.map fun v => v.category).sum := by
  rw [List.map_map]
  congr 1
  apply List.map_congr_left
  intro v _
  exact mv_cat B v
theorem z_callS (E : Ev X own cc nL rm nm) {idx n : Nat} {M : Md} {av : List Value} {P : Option Value → Mem → Prop} (hd : decode cc pc = .ok (.invokestatic idx, 3)) (lk : LkS own idx M n) (hok : OkM M av N g N' P) (hn : av.length = n) (hls : ls.length = nL) (hst : (st.map fun v => v.category).sum ≤ 8) (hgr : N ≤ N')
    (hroom : M.2.2.2.2.frames + 1 ≤ rm.frames ∧ 8 + (M.2.2.1 + 11) + M.2.2.2.2.locals ≤ rm.locals) (hcell : cells + M.2.2.2.2.cells ≤ rm.cells ∧ slots + M.2.2.2.2.slots ≤ rm.slots)
    (k : ∀ (r : Option Value) (g' : Mem), P r g' → Zc X (pc + 3) ls (r.toList ++ st) N' g' (cells + M.2.2.2.2.cells) (slots + M.2.2.2.2.slots)) : Zc X pc ls (av.reverse ++ st) N g cells slots := by
  obtain ⟨p, l, e, R, s, m, args, below, meth, c, Q, B⟩ := X
  obtain ⟨hx, hb, hml, hown, hts, hR, hnm, hNs⟩ := E
  subst hR
  intro H locs lsA hl hW hS
  obtain ⟨k1, k2, k3, k4, k5⟩ := lk
  refine z_run (va_runS (Ts := tblG) (As := av.map (mv B)) (rest := st.map (mv B)) (n := n) ⟨hx, hb, hml, hown, hts⟩ (hok l B) ⟨callB_of n hts (mws_good k4) rfl rfl rfl (hts _ k3) (hts _ k1) k5 hroom, hts _ k2⟩ ⟨wd_blind, fun U hU hw => ⟨rfl, (congrArg (Wd B N g U) hU).mpr (hW.moved hw.alike), hNs.warm hw⟩⟩ rfl (by rw [List.length_map]; exact hn) (hl.1.trans hls) (by simp [List.map_append, List.map_reverse]) (lv_room (by rw [cats_mv]; exact hst)) hd hcell) hl hW hS hgr k
theorem z_callV (E : Ev X own cc nL rm nm) {idx n ci a : Nat} {fs : List Value} {M : Md} {av : List Value} {P : Option Value → Mem → Prop} (hd : decode cc pc = .ok (.invokevirtual idx, 3)) (lk : LkV own idx M n ci) (hg : g a = (ci, fs)) (hok : OkM M (.ref a :: av) N g N' P) (hn : av.length = n) (hls : ls.length = nL) (hst : (st.map fun v => v.category).sum ≤ 8) (hgr : N ≤ N')
    (hroom : M.2.2.2.2.frames + 1 ≤ rm.frames ∧ 8 + (M.2.2.1 + 11) + M.2.2.2.2.locals ≤ rm.locals) (hcell : cells + M.2.2.2.2.cells ≤ rm.cells ∧ slots + M.2.2.2.2.slots ≤ rm.slots)
    (k : ∀ (r : Option Value) (g' : Mem), P r g' → Zc X (pc + 3) ls (r.toList ++ st) N' g' (cells + M.2.2.2.2.cells) (slots + M.2.2.2.2.slots)) : Zc X pc ls (av.reverse ++ .ref a :: st) N g cells slots := by
  obtain ⟨p, l, e, R, s, m, args, below, meth, c, Q, B⟩ := X
  obtain ⟨hx, hb, hml, hown, hts, hR, hnm, hNs⟩ := E
  subst hR
  intro H locs lsA hl hW hS
  obtain ⟨k1, k2, k3, k4, k6, ⟨r, hr, hrc⟩, k5⟩ := lk
  obtain ⟨hz, D, hKn, hc⟩ := id hW
  have hlt := vw_lt hr
  have ha := hc a (by rw [hg]; show ci < 12; omega)
  rw [hg] at ha
  obtain ⟨hlen, cell, q1, q2, q3, q4⟩ := ha.1 r hr
  refine z_run (va_runV (Ts := tblG) (C := M.1.cls) (b := B + a) (As := av.map (mv B)) (rest := st.map (mv B)) (n := n) ⟨hx, hb, hml, hown, hts⟩ (hok l B) ⟨callB_of n hts (mws_good k4) rfl rfl rfl (hts _ k3) (hts _ k1) k5 hroom, hts _ k2, hts _ k6⟩ ⟨wd_blind (av := .ref a :: av), ⟨cell, q1, by rw [q3]; rfl, by rw [q2, ← hrc]; exact (hKn ci r hr).2.1⟩, fun U hU hw => ⟨rfl, (congrArg (Wd B N g U) hU).mpr (hW.moved hw.alike), hNs.warm hw⟩⟩ rfl (by rw [List.length_map]; exact hn) (hl.1.trans hls) (by simp [List.map_append, List.map_reverse, mv]) (lv_room (by rw [cats_mv]; exact hst)) hd hcell) hl hW hS hgr k
/-- the same where the contract tells answer and memory -/
theorem z_cS (E : Ev X own cc nL rm nm) {idx n : Nat} {M : Md} {av : List Value} {r : Option Value} {g' : Mem} (hd : decode cc pc = .ok (.invokestatic idx, 3)) (lk : LkS own idx M n) (hok : OkR M av N g r g') (hn : av.length = n) (hls : ls.length = nL) (hst : (st.map fun v => v.category).sum ≤ 8)
    (hroom : M.2.2.2.2.frames + 1 ≤ rm.frames ∧ 8 + (M.2.2.1 + 11) + M.2.2.2.2.locals ≤ rm.locals) (hc0 : M.2.2.2.2.cells = 0) (hs0 : M.2.2.2.2.slots = 0) (hcell : cells ≤ rm.cells ∧ slots ≤ rm.slots)
    (k : Zc X (pc + 3) ls (r.toList ++ st) N g' cells slots) : Zc X pc ls (av.reverse ++ st) N g cells slots := by
  refine z_callS E hd lk hok hn hls hst (Nat.le_refl N) hroom (by rw [hc0, hs0]; exact hcell) ?_
  intro r2 g2 h
  obtain ⟨rfl, rfl⟩ := h
  rw [hc0, hs0]
  exact k
theorem z_cV (E : Ev X own cc nL rm nm) {idx n ci a : Nat} {fs : List Value} {M : Md} {av : List Value} {r : Option Value} {g' : Mem} (hd : decode cc pc = .ok (.invokevirtual idx, 3)) (lk : LkV own idx M n ci) (hg : g a = (ci, fs)) (hok : OkR M (.ref a :: av) N g r g') (hn : av.length = n) (hls : ls.length = nL) (hst : (st.map fun v => v.category).sum ≤ 8)
    (hroom : M.2.2.2.2.frames + 1 ≤ rm.frames ∧ 8 + (M.2.2.1 + 11) + M.2.2.2.2.locals ≤ rm.locals) (hc0 : M.2.2.2.2.cells = 0) (hs0 : M.2.2.2.2.slots = 0) (hcell : cells ≤ rm.cells ∧ slots ≤ rm.slots)
    (k : Zc X (pc + 3) ls (r.toList ++ st) N g' cells slots) : Zc X pc ls (av.reverse ++ .ref a :: st) N g cells slots := by
  refine z_callV E hd lk hg hok hn hls hst (Nat.le_refl N) hroom (by rw [hc0, hs0]; exact hcell) ?_
  intro r2 g2 h
  obtain ⟨rfl, rfl⟩ := h
  rw [hc0, hs0]
  exact k
/-- System.arraycopy between int arrays -/
def cpy (f h : Nat → Int) (sp dp n : Nat) : Nat → Int := fun k => if dp ≤ k ∧ k < dp + n then f (sp + (k - dp)) else h k
def LkC (own : String) (idx : Nat) : Prop := Cond.methodLink own idx arraycopyName ∈ tblG
theorem acp_in : Cond.native arraycopyName ∈ tblG ∧ Cond.static arraycopyName ∈ tblG ∧ Cond.initialized "java/lang/System" ∈ tblG := by decide +kernel
theorem vals_arr (B n : Nat) (h : Nat → Int) (cA : ClassId) : arrV cA (vals n h).length (fun j => mv B ((vals n h).getD j .null)) = arrV cA n (fun j => .int (iI (h j))) := by
  rw [vals_len]
  unfold arrV
  congr 2
  funext j
  have hj := j.isLt
  simp [List.getD_eq_getElem?_getD, vals_at h hj, mv]
theorem z_copy (E : Ev X own cc nL rm nm) {idx a0 a n0 n1 sp dp n : Nat} {f h : Nat → Int} {zs zd zn : Int} (hd : decode cc pc = .ok (.invokestatic idx, 3)) (lk : LkC own idx) (hg0 : g a0 = (6, vals n0 f)) (hg1 : g a = (6, vals n1 h)) (hs : zs = (sp : Int)) (hdp : zd = (dp : Int)) (hn : zn = (n : Int)) (h4 : sp + n ≤ n0) (h5 : dp + n ≤ n1) (hsm : n0 < 2147483648 ∧ n1 < 2147483648) (hls : ls.length = nL)
    (hfr : 1 ≤ rm.frames) (hlo : (st.map fun v => v.category).sum + (nativeFrameWords "java/lang/System" "arraycopy" 5 + 11) ≤ rm.locals)
    (k : Zc X (pc + 3) ls st N (va_up g a (6, vals n1 (cpy f h sp dp n))) cells slots) : Zc X pc ls (.int (iI zn) :: .int (iI zd) :: .ref a :: .int (iI zs) :: .ref a0 :: st) N g cells slots := by
  obtain ⟨p, l, e, R, s, m, args, below, meth, c, Q, B⟩ := X
  obtain ⟨hx, hb, hml, hown, hts, hR, hnm, hNs⟩ := E
  subst hR
  intro H locs lsA hl hW hS
  obtain ⟨hz, D, hKn, hc⟩ := id hW
  have ha0 := hc a0 (by rw [hg0]; show 6 < 12; omega)
  have ha1 := hc a (by rw [hg1]; show 6 < 12; omega)
  rw [hg0] at ha0
  rw [hg1] at ha1
  obtain ⟨c0, x1, x2, x3⟩ := ha0.2 (Nat.le_refl 6)
  obtain ⟨c1, y1, y2, y3⟩ := ha1.2 (Nat.le_refl 6)
  have e0 : ∀ z : Int, ∀ j : Nat, z = (j : Int) → j < 2147483648 → ¬ iI z < 0 := fun z j hj hb3 q => by
    rw [← iI_0, iI_lt ⟨by omega, by omega⟩ ⟨by omega, by omega⟩] at q
    omega
  intro T hT Xs
  have hc0 : H[B + a0]? = some (arrV c0 n0 (fun j => .int (iI (f j)))) := by rw [← vals_arr B n0 f c0]; exact x1
  have hc1 : H[B + a]? = some (arrV c1 n1 (fun j => .int (iI (h j)))) := by rw [← vals_arr B n1 h c1]; exact y1
  obtain ⟨-, k0, hk0, cm0, hkk0⟩ := x2 n0 (fun j => .int (iI (f j)))
  obtain ⟨-, k1, hk1, cm1, hkk1⟩ := y2 n1 (fun j => .int (iI (h j)))
  have ts : (iI zs).toInt = (sp : Int) := by rw [iI_toInt ⟨by omega, by omega⟩, hs]
  have td : (iI zd).toInt = (dp : Int) := by rw [iI_toInt ⟨by omega, by omega⟩, hdp]
  have tn : (iI zn).toInt = (n : Int) := by rw [iI_toInt ⟨by omega, by omega⟩, hn]
  obtain ⟨vm', X', step⟩ := Xs.arraycopy hx hown (hts _ lk) (hts _ acp_in.1) (hts _ acp_in.2.1) (hts _ acp_in.2.2) (src := B + a0) (dst := B + a) (cs := arrV c0 n0 (fun j => .int (iI (f j)))) (cd := arrV c1 n1 (fun j => .int (iI (h j)))) (srcPos := iI zs) (destPos := iI zd) (n := iI zn) (by rw [hT]; exact hc0) (by rw [hT]; exact hc1)
    (fun _ q => by cases q) (fun _ q => by cases q) (fun q => by cases q) (fun q => by cases q) hk0 hk1 hkk0 hkk1 (by simp [kty]) (e0 zs sp hs (by omega)) (e0 zd dp hdp (by omega)) (e0 zn n hn (by omega))
    (by rw [ts, tn, arrV_size]; omega)
    (by rw [td, tn, arrV_size]; omega)
    (fun vm₁ _ i hi => by
      rw [iI_clamp hn (by omega)] at hi
      have e : (arrV c0 n0 (fun j => Value.int (iI (f j)))).slots.getD ((iI zs).toNatClampNeg + i) .null = .int (iI (f (sp + i))) := by
        rw [iI_clamp hs (by omega), Array.getD_eq_getD_getElem?, arrV_read _ _ (by omega)]
        rfl
      refine ⟨?_, ?_⟩
      · rw [e]; rfl
      · rw [e]; exact trivial)
    (g := F0 m pc lsA (.int (iI zn) :: .int (iI zd) :: .ref (B + a) :: .int (iI zs) :: .ref (B + a0) :: st.map (mv B))) rfl (by rw [hml, ← hls, ← hl.1]) (rest := st.map (mv B)) rfl (by rw [hb]; exact hd) hfr (by show 2 * 0 + _ + _ ≤ _; rw [cats_mv]; omega)
  have e1 : copied (arrV c0 n0 (fun j => Value.int (iI (f j)))) (arrV c1 n1 (fun j => Value.int (iI (h j)))) (iI zs) (iI zd) (iI zn) = arrV c1 n1 (fun j => .int (iI (cpy f h sp dp n j))) := by
    have q := va_copied (fun z : Int => Value.int (iI z)) c0 c1 (n0 := n0) (n1 := n1) (sp := (iI zs).toNatClampNeg) (dp := (iI zd).toNatClampNeg) (n := (iI zn).toNatClampNeg) f h (by rw [iI_clamp hs (by omega), iI_clamp hn (by omega)]; exact h4)
    refine q.trans ?_
    rw [iI_clamp hs (by omega), iI_clamp hn (by omega), iI_clamp hdp (by omega)]
    rfl
  rw [e1] at X' step
  have hlt : B + a < H.size := (Array.getElem?_eq_some_iff.mp hc1).1
  have hheap : ((T.setVm vm').setCell (B + a) (arrV c1 n1 (fun j => .int (iI (cpy f h sp dp n j))))).heap = H.setIfInBounds (B + a) (arrV c1 n1 (fun j => .int (iI (cpy f h sp dp n j)))) := by rw [← hT]; rfl
  have oq : ∀ q : Nat, q ≠ B + a → (H.setIfInBounds (B + a) (arrV c1 n1 (fun j => .int (iI (cpy f h sp dp n j)))))[q]? = H[q]? := fun q hq => by simp [Array.getElem?_setIfInBounds, Ne.symm hq]
  obtain ⟨t, a1, b1⟩ := k _ _ lsA hl ⟨by simp; exact hz, D, hKn, cells_upd hc oq ⟨fun r2 hr2 => by have := vw_lt hr2; have : 6 < 6 := this; omega, fun _ => ⟨c1, by
      show _ = some (arrV c1 (vals n1 (cpy f h sp dp n)).length _)
      rw [vals_arr]
      simp [Array.getElem?_setIfInBounds, hlt], y2, y3⟩⟩⟩ ⟨by simp; exact hS.1, fun q g1 g2 => by
      rw [oq q (fun e => g2 (by rw [e]; exact Nat.le_add_right B a))]
      exact hS.2.1 q g1 g2, fun q hq => by
      rcases List.mem_append.mp hq with h | h
      · exact hS.2.2 q h
      · obtain ⟨z, -, hz⟩ := List.mem_map.mp h
        rw [← hz]
        exact Nat.le_add_right B a⟩ _ hheap X'
  exact ⟨t, step t a1, b1⟩
end CALLS
