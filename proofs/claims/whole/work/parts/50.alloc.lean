/-! making objects and arrays -/
def Fn (own : String) (idx ci : Nat) (fs : List Value) : Prop := ∃ r : vw_C, vwCl[ci]? = some r ∧ Cond.classLink own idx r.1 ∈ tblG ∧ Cond.instantiable r.1 r.2.2 ∈ tblG ∧ Cond.initialized r.1 ∈ tblG ∧ fs.length = r.2.2 ∧ ∃ ty : Nat → FieldType, (∀ k, k < r.2.2 → parseFieldDescriptor (r.2.1 k).2.2.1 = some (ty k)) ∧ ∀ B k, k < r.2.2 → defaultValue (ty k) = mv B (fs.getD k .null)
theorem oi_in : Cond.instanceMethod objectInit ∈ tblG ∧ lw_tbl[41]? = lw_tbl[41]? := ⟨in_tbl 40 (by decide +kernel) rfl, rfl⟩
section NEW
variable {X : ZX} {own nm : String} {cc : ByteArray} {nL : Nat} {rm : Room} {pc : Nat} {ls : List (Option Value)} {st : List Value} {N N' : Nat} {g : Mem} {cells slots : Nat}
theorem iI_nn {z : Int} {n : Nat} (h : z = (n : Int)) (hn : n < 2147483648) : ¬ iI z < 0 := fun q => by
  rw [← iI_0, iI_lt ⟨by omega, by omega⟩ ⟨by omega, by omega⟩] at q
  omega
theorem z_new (E : Ev X own cc nL rm nm) {idx ci : Nat} {fs : List Value} (hd : decode cc pc = .ok (.new idx, 3)) (hf : Fn own idx ci fs) (hcell : cells + 1 ≤ rm.cells ∧ slots + fs.length ≤ rm.slots) (k : Zc X (pc + 3) ls (.ref N :: st) (N + 1) (va_up g N (ci, fs)) (cells + 1) (slots + fs.length)) : Zc X pc ls st N g cells slots := by
  obtain ⟨p, l, e, R, s, m, args, below, meth, c, Q, B⟩ := X
  obtain ⟨hx, hb, hml, hown, hts, hR, hnm, hNs⟩ := E
  subst hR
  intro H locs lsA hl hW hS
  obtain ⟨r, hr, h1, h2, h3, hlen, ty, hty, hdef⟩ := hf
  obtain ⟨hz, D, hKn, hc⟩ := id hW
  obtain ⟨hin, -⟩ := clsIn ci r hr
  have hK := hKn ci r hr
  refine W.newcK hx hb hown (hts _ h1) (hts _ h2) (hts _ h3) rfl hd hcell.1 (by rw [← hlen]; exact hcell.2) hK.2.1 hz fun H1 kC hkC e1 z1 o1 => ?_
  rw [← hlen]
  refine k H1 locs lsA hl ⟨z1.trans (by omega), D, hKn, cells_new hz hc (by rw [hz]; exact o1) ⟨fun r2 hr2 => ?_, fun h6 => by have := vw_lt hr; have : 6 ≤ ci := h6; omega⟩⟩ ⟨Nat.le_trans hS.1 (by omega), fun x h1 h2 => (o1 x (by have := hS.1; omega)).trans (hS.2.1 x h1 h2), hS.2.2⟩
  cases hr.symm.trans hr2
  exact ⟨hlen, (u_born ty hts hin hK hkC e1 hty).to (fun j hj => hdef B j hj)⟩
theorem z_newa (E : Ev X own cc nL rm nm) {atype : ArrayType} {t n : Nat} {z : Int} (hd : decode cc pc = .ok (.newarray atype, 2)) (harr : Cond.arrayClass (newarray.typeOf atype) ∈ tblG) (ht : newarray.typeOf atype = kty t ∧ (t = 6 ∨ t = 7)) (hz : z = (n : Int)) (hn : n ≤ 1000) (hcell : cells + 1 ≤ rm.cells ∧ slots + n ≤ rm.slots) (k : Zc X (pc + 2) ls (.ref N :: st) (N + 1) (va_up g N (t, vals n (fun _ => 0))) (cells + 1) (slots + n)) : Zc X pc ls (.int (iI z) :: st) N g cells slots := by
  obtain ⟨p, l, e, R, s, m, args, below, meth, c, Q, B⟩ := X
  obtain ⟨hx, hb, hml, hown, hts, hR, hnm, hNs⟩ := E
  subst hR
  intro H locs lsA hl hW hS
  obtain ⟨hz0, D, hKn, hc⟩ := id hW
  obtain ⟨ht, ht2⟩ := ht
  have hby : n * componentBytes (newarray.typeOf atype) ≤ 536870912 := by
    rw [ht]
    rcases ht2 with rfl | rfl
    · show n * 4 ≤ _; omega
    · show n * 1 ≤ _; omega
  have hdv : defaultValue (newarray.typeOf atype) = .int (iI 0) := by
    rw [ht]
    rcases ht2 with rfl | rfl <;> rfl
  refine va_newaK (n := iI z) (N := n) (rest := st.map (mv B)) hx hb (hts _ harr) rfl hd rfl (iI_nn hz (by omega)) (iI_clamp hz (by omega)) hby hcell.1 hcell.2 hz0 fun H1 cA e1 z1 o1 hAr hNm => ?_
  refine k H1 locs lsA hl ⟨z1.trans (by omega), D, hKn, cells_new hz0 hc (by rw [hz0]; exact o1) ⟨fun r2 hr2 => by have := vw_lt hr2; have : t < 6 := this; omega, fun _ => ⟨cA, ?_, ?_, ?_⟩⟩⟩ ⟨Nat.le_trans hS.1 (by omega), fun x h1 h2 => (o1 x (by have := hS.1; omega)).trans (hS.2.1 x h1 h2), hS.2.2⟩
  · show _ = some (arrV cA (vals n (fun _ => 0)).length _)
    rw [vals_arr, e1, hdv]
  · rw [ht] at hAr; exact hAr
  · rw [ht] at hNm
    rcases ht2 with rfl | rfl <;> exact hNm
theorem z_anew (E : Ev X own cc nL rm nm) {idx t n : Nat} {C : String} {z : Int} (hd : decode cc pc = .ok (.anewarray idx, 3)) (hcl : Cond.classLink own idx C ∈ tblG) (hao : Cond.arrayOver (.object C) ∈ lw_tbl) (ht : kty t = .object C) (ht2 : 6 ≤ t ∧ t < 12) (hz : z = (n : Int)) (hn : n ≤ 1000) (hcell : cells + 1 ≤ rm.cells ∧ slots + n ≤ rm.slots) (k : Zc X (pc + 3) ls (.ref N :: st) (N + 1) (va_up g N (t, List.replicate n .null)) (cells + 1) (slots + n)) : Zc X pc ls (.int (iI z) :: st) N g cells slots := by
  obtain ⟨p, l, e, R, s, m, args, below, meth, c, Q, B⟩ := X
  obtain ⟨hx, hb, hml, hown, hts, hR, hnm, hNs⟩ := E
  subst hR
  intro H locs lsA hl hW hS
  obtain ⟨hz0, D, hKn, hc⟩ := id hW
  have hN : (iI z).toNatClampNeg = n := iI_clamp hz (by omega)
  refine W.anew (n := iI z) (rest := st.map (mv B)) hx hb hown (hts _ hcl) (va_AO.use (hNs.2.1 C hao)) rfl hd rfl (iI_nn hz (by omega)) (by rw [hN]; omega) hcell.1 (by rw [hN]; exact hcell.2) fun cA kA comp f1 f2 f3 f4 => ?_
  rw [hN]
  generalize hH1 : H.push ({ cls := cA, slots := Array.replicate n .null, vm := .none } : Cell) = H1
  have z1 : H1.size = H.size + 1 := by rw [← hH1, Array.size_push]
  have e1 : H1[H.size]? = some (arrV cA n (fun _ => .null)) := by rw [← hH1, Array.getElem?_push_size, ← arrV_new]
  have o1 : ∀ q : Nat, q < H.size → H1[q]? = H[q]? := fun q hq => by rw [← hH1, Array.getElem?_push, if_neg (Nat.ne_of_lt hq)]
  have hfr : F0 m (pc + 3) lsA (.ref H.size :: st.map (mv B)) = F0 m (pc + 3) lsA ((.ref N :: st).map (mv B)) := by rw [hz0]; rfl
  refine W.eq (g2 := F0 m (pc + 3) lsA ((.ref N :: st).map (mv B))) hfr ?_
  refine k H1 locs lsA hl ⟨z1.trans (by omega), D, hKn, cells_new hz0 hc o1 ⟨fun r2 hr2 => by have := vw_lt hr2; have : t < 6 := this; omega, fun _ => ⟨cA, ?_, ?_, ?_⟩⟩⟩ ⟨Nat.le_trans hS.1 (by omega), fun x h1 h2 => (o1 x (by have := hS.1; omega)).trans (hS.2.1 x h1 h2), hS.2.2⟩
  · show _ = some (arrV cA (List.replicate n Value.null).length _)
    rw [← hz0, e1, List.length_replicate]
    unfold arrV
    congr 3
    funext j
    have hj := j.isLt
    simp [List.getD_eq_getElem?_getD, hj, mv]
  · show ArrOfT s cA (kty t)
    rw [ht]
    exact fun N z => ⟨(fun k h => by cases h), kA, f2, comp, f3⟩
  · show va_RA s cA (kty t)
    rw [ht]
    exact ⟨kA, comp, f2, f3, f4, f1⟩
theorem z_aast (E : Ev X own cc nL rm nm) {a j t v ci : Nat} {x : Int} {vs fs : List Value} {r : vw_C} (hd : decode cc pc = .ok (.aastore, 1)) (hr : vwCl[ci]? = some r) (ht : kty t = .object r.1) (ht2 : 6 ≤ t ∧ t < 12) (hg : g a = (t, vs)) (hv : g v = (ci, fs)) (hj : x = (j : Int)) (hb2 : j < 2147483648) (hlv : j < vs.length) (k : Zc X (pc + 1) ls st N (va_up g a (t, vs.set j (.ref v))) cells slots) : Zc X pc ls (.ref v :: .int (iI x) :: .ref a :: st) N g cells slots := by
  obtain ⟨p, l, e, R, s, m, args, below, meth, c, Q, B⟩ := X
  obtain ⟨hx, hb, hml, hown, hts, hR, hnm, hNs⟩ := E
  intro H locs lsA hl hW hS
  obtain ⟨hz, D, hKn, hc⟩ := id hW
  have ha := hc a (by rw [hg]; exact ht2.2)
  rw [hg] at ha
  obtain ⟨cA, h1, h2, h3⟩ := ha.2 ht2.1
  have hlt6 := vw_lt hr
  have hvv := hc v (by rw [hv]; show ci < 12; omega)
  rw [hv] at hvv
  obtain ⟨hlenv, cellV, g1, g2, g3, -⟩ := hvv.1 r hr
  have hcls := (hKn ci r hr).2
  have h3' := h3
  have h3k : va_RA s cA (.object r.1) := by rw [← ht]; exact h3
  obtain ⟨kA, comp, k1, k2, k3, -⟩ := h3k
  have hcomp : comp = D.1 ci := Option.some.inj (k3.symm.trans hcls.1)
  subst hcomp
  obtain ⟨kC, hkC, -⟩ := hcls.2
  refine W.aast hx hb h1 (fun q h => by cases h) (fun h => by cases h) k1 k2 rfl hkC ⟨iI_nn hj hb2, by show _ < (arrV _ _ _).slots.size; rw [arrV_size, iI_clamp hj hb2]; exact hlv⟩ g1 (fun q h => by rw [g3] at h; cases h) (by rw [g2]; exact hkC) (by rw [g2]; exact va_assign hcls) rfl rfl hd fun H1 e1 z1 oq => ?_
  rw [iI_clamp hj hb2] at e1 ⊢
  refine k H1 _ lsA hl ⟨z1.trans hz, D, hKn, cells_upd hc oq ⟨fun r2 hr2 => by have := vw_lt hr2; have : t < 6 := this; omega, fun _ => ⟨cA, ?_, h2, h3'⟩⟩⟩ (hS.put z1 oq (Nat.le_add_right B a))
  rw [e1, arrV_store]
  show some (arrV cA vs.length _) = some (arrV cA (vs.set j (.ref v)).length _)
  rw [List.length_set]
  refine congrArg (fun f => some (arrV cA vs.length f)) (funext fun i => ?_)
  by_cases e9 : i = j
  · subst e9
    simp [updV, hlv, mv]
  · simp [updV, e9, List.getD_eq_getElem?_getD, List.getElem?_set_ne (Ne.symm e9)]
/-! constructors called -/
theorem z_oi (E : Ev X own cc nL rm nm) {idx a : Nat} (hd : decode cc pc = .ok (.invokespecial idx, 3)) (hl1 : Cond.methodLink own idx objectInit ∈ tblG) (hls : ls.length = nL) (hfr : 1 ≤ rm.frames) (hlo : 20 ≤ rm.locals) (k : Zc X (pc + 3) ls [] N g cells slots) : Zc X pc ls [.ref a] N g cells slots := by
  obtain ⟨p, l, e, R, s, m, args, below, meth, c, Q, B⟩ := X
  obtain ⟨hx, hb, hml, hown, hts, hR, hnm, hNs⟩ := E
  subst hR
  intro H locs lsA hl hW hS
  refine W.objInit hx hb hown (hts _ hl1) (hts _ oi_in.1) (hts _ (in_tbl 41 rfl rfl)) rfl (by rw [hml, ← hls]; exact hl.1) rfl hd hfr (Nat.le_trans (Nat.le_of_ble_eq_true rfl) hlo) ?_
  exact k H locs lsA hl hW hS
def LkI (own : String) (idx : Nat) (y : MethodName) (bc : ByteArray) (mL : Nat) : Prop := Cond.methodLink own idx y ∈ tblG ∧ Cond.instanceMethod y ∈ tblG ∧ Cond.initialized y.cls ∈ tblG ∧ Cond.code y bc mL none ∈ tblG ∧ y.name = "<init>" ∧ y.cls ≠ "java/lang/invoke/MethodHandle" ∧ y.cls ≠ "java/lang/invoke/VarHandle" ∧ (parseMethodDescriptor y.desc).map (fun d => d.parameters.length) = some 0
def LkN (own : String) (idx : Nat) (y : MethodName) (bc : ByteArray) (mL : Nat) : Prop := (∃ host, Cond.methodLinkNest own idx y host ∈ lw_tbl) ∧ Cond.instanceMethod y ∈ tblG ∧ Cond.initialized y.cls ∈ tblG ∧ Cond.code y bc mL none ∈ tblG ∧ y.name = "<init>" ∧ y.cls ≠ "java/lang/invoke/MethodHandle" ∧ y.cls ≠ "java/lang/invoke/VarHandle" ∧ (parseMethodDescriptor y.desc).map (fun d => d.parameters.length) = some 0
theorem z_callI (E : Ev X own cc nL rm nm) {idx a : Nat} {y : MethodName} {bc : ByteArray} {mL : Nat} {r2 : Room} {g' : Mem} (hd : decode cc pc = .ok (.invokespecial idx, 3)) (lk : LkI own idx y bc mL) (hok : OkM (y, bc, mL, none, r2) [.ref a] N g N' (fun r g2 => r = none ∧ g2 = g')) (hls : ls.length = nL) (hst : (st.map fun v => v.category).sum ≤ 8) (hgr : N ≤ N') (hroom : r2.frames + 1 ≤ rm.frames ∧ 8 + (mL + 11) + r2.locals ≤ rm.locals) (hcell : cells + r2.cells ≤ rm.cells ∧ slots + r2.slots ≤ rm.slots)
    (k : Zc X (pc + 3) ls st N' g' (cells + r2.cells) (slots + r2.slots)) : Zc X pc ls (.ref a :: st) N g cells slots := by
  obtain ⟨p, l, e, R, s, m, args, below, meth, c, Q, B⟩ := X
  obtain ⟨hx, hb, hml, hown, hts, hR, hnm, hNs⟩ := E
  subst hR
  intro H locs lsA hl hW hS
  obtain ⟨k1, k2, k3, k4, k6, k5⟩ := lk
  refine z_run (st := st) (va_runI (Ts := tblG) (b := B + a) (As := []) (rest := st.map (mv B)) (n := 0) ⟨hx, hb, hml, hown, hts⟩ (hok l B) ⟨callB_of 0 hts (mws_good k4) rfl rfl rfl (hts _ k3) (hts _ k1) k5 hroom, k6, hts _ k2⟩ ⟨wd_blind (av := [.ref a]), fun U hU hw => ⟨rfl, (congrArg (Wd B N g U) hU).mpr (hW.moved hw.alike), hNs.warm hw⟩⟩ rfl rfl (hl.1.trans hls) rfl (lv_room (by rw [cats_mv]; exact hst)) hd hcell) hl hW hS hgr ?_
  rintro r g2 ⟨rfl, rfl⟩
  exact k
theorem z_callN (E : Ev X own cc nL rm nm) {idx a : Nat} {y : MethodName} {bc : ByteArray} {mL : Nat} {r2 : Room} {g' : Mem} (hd : decode cc pc = .ok (.invokespecial idx, 3)) (lk : LkN own idx y bc mL) (hok : OkM (y, bc, mL, none, r2) [.ref a] N g N' (fun r g2 => r = none ∧ g2 = g')) (hls : ls.length = nL) (hst : (st.map fun v => v.category).sum ≤ 8) (hgr : N ≤ N') (hroom : r2.frames + 1 ≤ rm.frames ∧ 8 + (mL + 11) + r2.locals ≤ rm.locals) (hcell : cells + r2.cells ≤ rm.cells ∧ slots + r2.slots ≤ rm.slots)
    (k : Zc X (pc + 3) ls st N' g' (cells + r2.cells) (slots + r2.slots)) : Zc X pc ls (.ref a :: st) N g cells slots := by
  obtain ⟨p, l, e, R, s, m, args, below, meth, c, Q, B⟩ := X
  obtain ⟨hx, hb, hml, hown, hts, hR, hnm, hNs⟩ := E
  subst hR
  intro H locs lsA hl hW hS
  obtain ⟨⟨host, k1⟩, k2, k3, k4, k6, k5⟩ := lk
  refine z_run (st := st) (va_runIN (Ts := tblG) (host := host) (b := B + a) (As := []) (rest := st.map (mv B)) (n := 0) ⟨hx, hb, hml, hown, hts⟩ (hok l B) ⟨va_cnB 0 hts (mws_good k4) rfl rfl rfl (hNs.1 _ _ _ _ k1) (hts _ k3) k5 hroom, k6, hts _ k2⟩ ⟨wd_blind (av := [.ref a]), fun U hU hw => ⟨rfl, (congrArg (Wd B N g U) hU).mpr (hW.moved hw.alike), hNs.warm hw⟩⟩ rfl rfl (hl.1.trans hls) rfl (lv_room (by rw [cats_mv]; exact hst)) hd hcell) hl hW hS hgr ?_
  rintro r g2 ⟨rfl, rfl⟩
  exact k
end NEW
