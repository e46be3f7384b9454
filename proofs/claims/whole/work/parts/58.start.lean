/-! the law from its entry to its end -/
section LOOP
variable {X : ZX} {nm : String} {b L : Nat} {xs : Nat → Int32}
theorem l_iinc {own : String} {cc : ByteArray} {rm : Room} {pc : Nat} {st : List (Option Value)} {N : Nat} {g : Mem} {cells slots : Nat} (E : Ev X own cc 4 rm nm) {i : Nat} (hd : decode cc pc = .ok (.iinc 3 7, 3)) (k : Zl X b (lls (i + 7)) (pc + 3) st N g cells slots) : Zl X b (lls i) pc st N g cells slots := by
  obtain ⟨p, l, e, R, s, m, args, below, meth, c, Q, B⟩ := X
  obtain ⟨hx, hb, hml, hown, hts, hR, hnm, hNs⟩ := E
  intro H locs lsA hl hW hS
  exact lv_iinc (k := 0) (x := iI (i : Int)) (v := iI ((i + 7 : Nat) : Int)) (lv' := (lls (i + 7)).map (fun q => (q.1, rv B b q.2))) hx hb hd hl rfl (by
    show iI (i : Int) + iI 7 = iI ((i + 7 : Nat) : Int)
    rw [iI_add]; rfl) (by omega) rfl (fun A1 h1 => k H locs A1 h1 hW hS)
theorem l_astore {own : String} {cc : ByteArray} {rm : Room} {pc : Nat} {st : List (Option Value)} {N : Nat} {g : Mem} {cells slots : Nat} {ll ll' : List (Nat × Option Value)} (E : Ev X own cc 4 rm nm) {n : Fin 4} {x : Nat} (hd : decode cc pc = .ok (.astore_n n, 1)) (hll : ∀ B, ((n : Nat), Value.ref (B + x)) :: (ll.map (fun q => (q.1, rv B b q.2))).filter (fun q => !(q.1 == (n : Nat)) && !(q.1 + 1 == (n : Nat) && q.2.category == 2)) = ll'.map (fun q => (q.1, rv B b q.2))) (k : Zl X b ll' (pc + 1) st N g cells slots) : Zl X b ll pc (some (.ref x) :: st) N g cells slots := by
  obtain ⟨p, l, e, R, s, m, args, below, meth, c, Q, B⟩ := X
  obtain ⟨hx, hb, hml, hown, hts, hR, hnm, hNs⟩ := E
  intro H locs lsA hl hW hS
  exact lv_astore_n hx hb hd rfl hl n.isLt (hll B) (fun A1 h1 => k H locs A1 h1 hW hS)
theorem l_istore {own : String} {cc : ByteArray} {rm : Room} {pc : Nat} {st : List (Option Value)} {N : Nat} {g : Mem} {cells slots : Nat} {ll ll' : List (Nat × Option Value)} (E : Ev X own cc 4 rm nm) {n : Fin 4} {x : Int32} (hd : decode cc pc = .ok (.istore_n n, 1)) (hll : ∀ B, ((n : Nat), Value.int x) :: (ll.map (fun q => (q.1, rv B b q.2))).filter (fun q => !(q.1 == (n : Nat)) && !(q.1 + 1 == (n : Nat) && q.2.category == 2)) = ll'.map (fun q => (q.1, rv B b q.2))) (k : Zl X b ll' (pc + 1) st N g cells slots) : Zl X b ll pc (some (.int x) :: st) N g cells slots := by
  obtain ⟨p, l, e, R, s, m, args, below, meth, c, Q, B⟩ := X
  obtain ⟨hx, hb, hml, hown, hts, hR, hnm, hNs⟩ := E
  intro H locs lsA hl hW hS
  exact lv_istore_n hx hb hd rfl hl n.isLt (hll B) (fun A1 h1 => k H locs A1 h1 hW hS)
theorem law_loop (E : Ev X RL cL_law 4 room_1 nm) (hS0 : Sc X b L xs) (hL : L ≤ 3584) (hend : ∀ (A : Nat → Nat → Int) (i : Nat), Zl X b (lls i) 1427 [] 172 (mA A) 172 1889) : ∀ (n i : Nat), L ≤ i + n → i ≤ L + 7 → ∀ (A : Nat → Nat → Int) (σ : St), XI A σ → MI A σ → Zl X b (lls i) 18 [] 172 (mA A) 172 1889 := by
  intro n
  induction n with
  | zero =>
    intro i h1 h2 A σ hX hM
    refine l_iload E dL_law_18 (lls3 i) ?_
    refine l_aloadS E dL_law_19 (lls0 i) ?_
    refine l_slen E hS0 dL_law_20 ?_
    refine l_bipush E (by omega) dL_law_21 ?_
    refine l_isub E dL_law_23 ?_
    refine l_gt (tgt := 1427) E ⟨by omega, by omega⟩ ⟨by omega, by omega⟩ dL_law_24 (by decide) (fun _ => hend A i) (fun h => False.elim (by omega))
  | succ n ih =>
    intro i h1 h2 A σ hX hM
    refine l_iload E dL_law_18 (lls3 i) ?_
    refine l_aloadS E dL_law_19 (lls0 i) ?_
    refine l_slen E hS0 dL_law_20 ?_
    refine l_bipush E (by omega) dL_law_21 ?_
    refine l_isub E dL_law_23 ?_
    refine l_gt (tgt := 1427) E ⟨by omega, by omega⟩ ⟨by omega, by omega⟩ dL_law_24 (by decide) (fun _ => hend A i) (fun h => ?_)
    have hN : Nxt X b i := by
      intro A2 σ2 hX2 hM2
      refine l_iinc E dL_law_1421 ?_
      exact l_goto (tgt := 18) E dL_law_1424 (by decide) (ih (i + 7) (by omega) (by omega) A2 σ2 hX2 hM2)
    refine l_aloadS E dL_law_27 (lls0 i) ?_
    refine l_iload E dL_law_28 (lls3 i) ?_
    refine l_sld E hS0 (n := i) rfl (by omega) hL dL_law_29 ?_
    refine l_bipush E (by omega) dL_law_30 ?_
    refine l_iand E dL_law_32 ?_
    generalize iI (xs i).toInt &&& iI 31 = w
    by_cases hw : w.toInt < 0 ∨ 29 < w.toInt
    · exact l_tableOut (tgt := 1421) E dL_law_33 hw (by decide) (hN A σ hX hM)
    rcases (show w.toInt = 0 ∨ w.toInt = 1 ∨ w.toInt = 2 ∨ w.toInt = 3 ∨ w.toInt = 4 ∨ w.toInt = 5 ∨ w.toInt = 6 ∨ w.toInt = 7 ∨ w.toInt = 8 ∨ w.toInt = 9 ∨ w.toInt = 10 ∨ w.toInt = 11 ∨ w.toInt = 12 ∨ w.toInt = 13 ∨ w.toInt = 14 ∨ w.toInt = 15 ∨ w.toInt = 16 ∨ w.toInt = 17 ∨ w.toInt = 18 ∨ w.toInt = 19 ∨ w.toInt = 20 ∨ w.toInt = 21 ∨ w.toInt = 22 ∨ w.toInt = 23 ∨ w.toInt = 24 ∨ w.toInt = 25 ∨ w.toInt = 26 ∨ w.toInt = 27 ∨ w.toInt = 28 ∨ w.toInt = 29 by omega) with hz | hz | hz | hz | hz | hz | hz | hz | hz | hz | hz | hz | hz | hz | hz | hz | hz | hz | hz | hz | hz | hz | hz | hz | hz | hz | hz | hz | hz | hz
    · exact l_tableIn (tgt := 168) E hz dL_law_33 (by decide) (by decide) rfl (by decide) (law_0 E hS0 hL (by omega) hX hM hN)
    · exact l_tableIn (tgt := 211) E hz dL_law_33 (by decide) (by decide) rfl (by decide) (law_1 E hS0 hL (by omega) hX hM hN)
    · exact l_tableIn (tgt := 234) E hz dL_law_33 (by decide) (by decide) rfl (by decide) (law_2 E hS0 hL (by omega) hX hM hN)
    · exact l_tableIn (tgt := 287) E hz dL_law_33 (by decide) (by decide) rfl (by decide) (law_3 E hS0 hL (by omega) hX hM hN)
    · exact l_tableIn (tgt := 330) E hz dL_law_33 (by decide) (by decide) rfl (by decide) (law_4 E hS0 hL (by omega) hX hM hN)
    · exact l_tableIn (tgt := 393) E hz dL_law_33 (by decide) (by decide) rfl (by decide) (law_5 E hS0 hL (by omega) hX hM hN)
    · exact l_tableIn (tgt := 426) E hz dL_law_33 (by decide) (by decide) rfl (by decide) (law_6 E hS0 hL (by omega) hX hM hN)
    · exact l_tableIn (tgt := 469) E hz dL_law_33 (by decide) (by decide) rfl (by decide) (law_7 E hS0 hL (by omega) hX hM hN)
    · exact l_tableIn (tgt := 522) E hz dL_law_33 (by decide) (by decide) rfl (by decide) (law_8 E hS0 hL (by omega) hX hM hN)
    · exact l_tableIn (tgt := 565) E hz dL_law_33 (by decide) (by decide) rfl (by decide) (law_9 E hS0 hL (by omega) hX hM hN)
    · exact l_tableIn (tgt := 608) E hz dL_law_33 (by decide) (by decide) rfl (by decide) (law_10 E hS0 hL (by omega) hX hM hN)
    · exact l_tableIn (tgt := 641) E hz dL_law_33 (by decide) (by decide) rfl (by decide) (law_11 E hS0 hL (by omega) hX hM hN)
    · exact l_tableIn (tgt := 684) E hz dL_law_33 (by decide) (by decide) rfl (by decide) (law_12 E hS0 hL (by omega) hX hM hN)
    · exact l_tableIn (tgt := 717) E hz dL_law_33 (by decide) (by decide) rfl (by decide) (law_13 E hS0 hL (by omega) hX hM hN)
    · exact l_tableIn (tgt := 760) E hz dL_law_33 (by decide) (by decide) rfl (by decide) (law_14 E hS0 hL (by omega) hX hM hN)
    · exact l_tableIn (tgt := 803) E hz dL_law_33 (by decide) (by decide) rfl (by decide) (law_15 E hS0 hL (by omega) hX hM hN)
    · exact l_tableIn (tgt := 846) E hz dL_law_33 (by decide) (by decide) rfl (by decide) (law_16 E hS0 hL (by omega) hX hM hN)
    · exact l_tableIn (tgt := 889) E hz dL_law_33 (by decide) (by decide) rfl (by decide) (law_17 E hS0 hL (by omega) hX hM hN)
    · exact l_tableIn (tgt := 932) E hz dL_law_33 (by decide) (by decide) rfl (by decide) (law_18 E hS0 hL (by omega) hX hM hN)
    · exact l_tableIn (tgt := 965) E hz dL_law_33 (by decide) (by decide) rfl (by decide) (law_19 E hS0 hL (by omega) hX hM hN)
    · exact l_tableIn (tgt := 1018) E hz dL_law_33 (by decide) (by decide) rfl (by decide) (law_20 E hS0 hL (by omega) hX hM hN)
    · exact l_tableIn (tgt := 1041) E hz dL_law_33 (by decide) (by decide) rfl (by decide) (law_21 E hS0 hL (by omega) hX hM hN)
    · exact l_tableIn (tgt := 1084) E hz dL_law_33 (by decide) (by decide) rfl (by decide) (law_22 E hS0 hL (by omega) hX hM hN)
    · exact l_tableIn (tgt := 1127) E hz dL_law_33 (by decide) (by decide) rfl (by decide) (law_23 E hS0 hL (by omega) hX hM hN)
    · exact l_tableIn (tgt := 1170) E hz dL_law_33 (by decide) (by decide) rfl (by decide) (law_24 E hS0 hL (by omega) hX hM hN)
    · exact l_tableIn (tgt := 1223) E hz dL_law_33 (by decide) (by decide) rfl (by decide) (law_25 E hS0 hL (by omega) hX hM hN)
    · exact l_tableIn (tgt := 1298) E hz dL_law_33 (by decide) (by decide) rfl (by decide) (law_26 E hS0 hL (by omega) hX hM hN)
    · exact l_tableIn (tgt := 1351) E hz dL_law_33 (by decide) (by decide) rfl (by decide) (law_27 E hS0 hL (by omega) hX hM hN)
    · exact l_tableIn (tgt := 1384) E hz dL_law_33 (by decide) (by decide) rfl (by decide) (law_28 E hS0 hL (by omega) hX hM hN)
    · exact l_tableIn (tgt := 1407) E hz dL_law_33 (by decide) (by decide) rfl (by decide) (law_29 E hS0 hL (by omega) hX hM hN)
end LOOP
def σ0 : St := fun _ _ => 0
theorem ov_mA (A : Nat → Nat → Int) : ov (fun _ => (99, [])) A 0 172 = mA A := by
  funext k
  by_cases h : k < 172
  · rw [ov_in (by omega) h]; rfl
  · rw [ov_no (by omega)]
    show _ = cel k (A k)
    unfold cel
    rw [if_neg (by omega), if_neg (by omega), if_neg (by omega), if_neg (by omega), if_neg (by omega), if_neg (by omega), if_neg (by omega), if_neg (by omega), if_neg (by omega), if_neg (by omega), if_neg (by omega)]
theorem sok0 : SOK σ0 := ⟨fun s _ => ⟨Or.inl rfl, (show (0 : Int) ≤ 0 ∧ (0 : Int) < 3 by decide), (show (0 : Int) ≤ 0 ∧ (0 : Int) ≤ 20 by decide), fun j _ => (show inR 0 by decide)⟩, fun k _ => ⟨Or.inl rfl, fun n j _ _ => (show (0 : Int) ≤ 0 ∧ (0 : Int) < 10007 by decide)⟩, (show inR 0 by decide)⟩
theorem xi0 {A : Nat → Nat → Int} (hK : KA A) (hA : ∀ k, (k < 3 ∨ 40 ≤ k) → A k = A0 k) : XI A σ0 := by
  refine ⟨hK, ⟨fun s hs => ?_, fun k hk => ?_, ?_⟩, sok0⟩
  · rw [hA (52 + 2 * s) (by omega), hA (53 + 2 * s) (by omega), A0_z (k := 53 + 2 * s) (by omega), show A0 (52 + 2 * s) = up (fun _ => 0) 1 1 from if_pos ⟨by omega, by omega, by omega⟩]
    exact ⟨rfl, rfl, rfl, fun j _ => rfl⟩
  · refine ⟨?_, fun n j hn hj => ?_⟩
    · rw [hA (68 + 22 * k) (by omega), A0_z (by omega)]; rfl
    · rw [hA (70 + 22 * k + 2 * n + 1) (by omega), A0_z (by omega)]; rfl
  · rw [hA 0 (by omega), A0_z (by omega)]; rfl
theorem mi0 {A : Nat → Nat → Int} (hA : ∀ k, (k < 3 ∨ 40 ≤ k) → A k = A0 k) : MI A σ0 := by
  refine ⟨⟨fun s hs => ?_, fun k hk => ?_, ?_⟩, sok0⟩
  · rw [hA 157 (by omega), hA 158 (by omega), hA 159 (by omega), hA 160 (by omega), A0_z (k := 157) (by omega), A0_z (k := 158) (by omega), A0_z (k := 159) (by omega), A0_z (k := 160) (by omega)]
    exact ⟨rfl, rfl, rfl, fun j _ => rfl⟩
  · rw [hA 170 (by omega), hA 171 (by omega), A0_z (k := 170) (by omega), A0_z (k := 171) (by omega)]
    exact ⟨rfl, fun n j _ _ => rfl⟩
  · rw [hA 156 (by omega), A0_z (by omega)]; rfl
set_option maxRecDepth 100000 in
theorem law_start {X : ZX} {nm : String} {b L : Nat} {xs : Nat → Int32} (E : Ev X RL cL_law 4 room_1 nm) (hS0 : Sc X b L xs) (hL : L ≤ 3584) (hend : ∀ (A : Nat → Nat → Int) (i : Nat), Zl X b (lls i) 1427 [] 172 (mA A) 172 1889) : Zl X b [(0, none)] 0 [] 0 (fun _ => (99, [])) 0 0 := by
  refine l_new (N := 0) E dL_law_0 fnL_7 ⟨Nat.le_of_ble_eq_true rfl, Nat.le_of_ble_eq_true rfl⟩ ?_
  refine l_dup E dL_law_3 ?_
  refine l_callI (st := [some (.ref 0)]) (N := 1) (N' := 156) (r2 := mX5_init.2.2.2.2) E dL_law_4 liL_9 (c_Landed mem_at) (Nat.le_of_ble_eq_true rfl) (by omega) ⟨Nat.le_of_ble_eq_true rfl, Nat.le_of_ble_eq_true rfl⟩ ⟨Nat.le_of_ble_eq_true rfl, Nat.le_of_ble_eq_true rfl⟩ ?_
  rintro g1 ⟨A, rfl, hK, hA⟩
  refine l_astore (ll' := [(1, some (.ref 0)), (0, none)]) E dL_law_7 (fun _ => rfl) ?_
  refine l_new (N := 156) E dL_law_8 fnL_10 ⟨Nat.le_of_ble_eq_true rfl, Nat.le_of_ble_eq_true rfl⟩ ?_
  refine l_dup E dL_law_11 ?_
  refine l_callI (P := fun g' => g' = _) (st := [some (.ref 156)]) (N := 157) (N' := 172) (r2 := mX6_init.2.2.2.2) E dL_law_12 liL_12 (c_Model mem_at) (Nat.le_of_ble_eq_true rfl) (by omega) ⟨Nat.le_of_ble_eq_true rfl, Nat.le_of_ble_eq_true rfl⟩ ⟨Nat.le_of_ble_eq_true rfl, Nat.le_of_ble_eq_true rfl⟩ ?_
  intro g2 hg2
  have e2 : g2 = mA A := by
    rw [hg2, ov_hid (by omega), ov_congr (A' := A) (fun k h1 h2 => (hA k (by omega)).symm), ov_ov (by omega), ov_hid (by omega), ov_mA]
  subst e2
  refine l_astore (ll' := [(2, some (.ref 156)), (1, some (.ref 0)), (0, none)]) E dL_law_15 (fun _ => rfl) ?_
  refine l_iconst E dL_law_16 ?_
  refine l_istore (ll' := lls 0) E dL_law_17 (fun _ => rfl) ?_
  exact law_loop E hS0 hL hend L 0 (by omega) (by omega) A σ0 (xi0 hK hA) (mi0 hA)
theorem law_D {s : State} {args : Array Value} (hts : ∀ w ∈ tblG, w.before args s = true) : ∃ D : va_G, ∀ (c : Nat) (q : vw_C), vwCl[c]? = some q → u_Kn s q.1 q.2.1 q.2.2 (D.1 c) (D.2 c) := by
  have h : ∀ c : Nat, ∃ (cC : ClassId) (iS : Nat → Nat), ∀ q : vw_C, vwCl[c]? = some q → u_Kn s q.1 q.2.1 q.2.2 cC iS := by
    intro c
    by_cases hc : c < 6
    · have hq : vwCl[c]? = some (vwCl[c]'hc) := List.getElem?_eq_getElem hc
      have hin : Cond.instantiable (vwCl[c]'hc).1 (vwCl[c]'hc).2.2 ∈ tblG := by
        rcases (show c = 0 ∨ c = 1 ∨ c = 2 ∨ c = 3 ∨ c = 4 ∨ c = 5 by omega) with rfl | rfl | rfl | rfl | rfl | rfl
        · exact (in_tbl 47 (by decide +kernel) rfl : Cond.instantiable RX0 11 ∈ tblG)
        · exact (in_tbl 135 (by decide +kernel) rfl : Cond.instantiable RX1 2 ∈ tblG)
        · exact (in_tbl 55 (by decide +kernel) rfl : Cond.instantiable RX3 1 ∈ tblG)
        · exact (in_tbl 113 (by decide +kernel) rfl : Cond.instantiable RX4 4 ∈ tblG)
        · exact (in_tbl 35 (by decide +kernel) rfl : Cond.instantiable RX5 10 ∈ tblG)
        · exact (in_tbl 526 (by decide +kernel) rfl : Cond.instantiable RX6 16 ∈ tblG)
      obtain ⟨cC, iS, hK⟩ := u_known hts (clsIn c _ hq).1 (hts _ hin)
      refine ⟨cC, iS, fun q h2 => ?_⟩
      cases hq.symm.trans h2
      exact hK
    · exact ⟨0, fun _ => 0, fun q h2 => absurd (vw_lt h2) hc⟩
  exact ⟨(fun c => Classical.choose (h c), fun c => Classical.choose (Classical.choose_spec (h c))), fun c q hq => Classical.choose_spec (Classical.choose_spec (h c)) q hq⟩
/-- YOUR PART: from the entry, for every script of at most 3584 ints, the law comes to its end with true -/
theorem whole_start {p : Program} {e : Env} {s : State} {m : MethodId} {below : List Frame} {meth : Method} {c : Code} (l : Launch) {b L : Nat} {xs : Nat → Int32} (hL : L ≤ 3584) (C0 : lw_At p s m meth c b L xs) : W p l e room_1 s m #[Value.ref b] below meth c s.heap [] 0 0 (lw_Z below #[Value.ref b] s) (entryFrame m ([Value.ref b] : List Value).toArray 4) := by
  obtain ⟨hx, hb, hr, hml, hown, hts, hX, hbl, hlocks, hgv⟩ := C0
  have htG : ∀ w ∈ tblG, w.before #[Value.ref b] s = true := fun w hw => hts w (List.mem_filter.mp hw).1
  have hNs : NestOK s := ⟨fun a i x h hm => va_tabs rfl rfl (hts _ hm), fun C hm => va_AO.of (hts _ hm), hts (Cond.arrayOver (.array .int)) (List.mem_of_getElem? (i := 53) (by decide +kernel))⟩
  obtain ⟨D, hD⟩ := law_D htG
  have hW0 : Wd s.heap.size 0 (fun _ => (99, [])) s s.heap := ⟨rfl, D, hD, fun k hk => absurd hk (show ¬ (99 < 12) by decide)⟩
  have hl := lv_entry [Value.ref b] (n := 4) (Nat.le_of_ble_eq_true rfl)
  rw [lg_entry_eq]
  refine law_start (X := (p, l, e, room_1, s, m, #[Value.ref b], below, meth, c, lw_Z below #[Value.ref b] s, s.heap.size)) (nm := meth.name) (b := b) (L := L) (xs := xs) ⟨hx, hb, hml, hown, htG, rfl, rfl, hNs⟩ ⟨hX, hbl, hbl⟩ hL ?_ s.heap [] _ hl hW0 va_S.rf
  intro A i H locs lsA hl hW hS
  refine lv_iconst hx hb dL_law_1427 rfl ?_
  refine va_forget hS.2.2 ?_
  refine W.widen (k := 600000) (n := 7302249) (by omega) (by omega) ?_
  exact lw_ret hx hb hr hlocks dL_law_1428
