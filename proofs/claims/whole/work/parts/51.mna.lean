/-! rows of rows -/
section NEWM
variable {X : ZX} {own nm : String} {cc : ByteArray} {nL : Nat} {rm : Room} {pc : Nat} {ls : List (Option Value)} {st : List Value} {N N' : Nat} {g : Mem} {cells slots : Nat}
def rw2 (g : Mem) (N n K : Nat) : Mem := fun k => if k = N then (8, (List.range n).map (fun i => .ref (N + 1 + i))) else if N < k ∧ k < N + 1 + n then (6, vals K (fun _ => 0)) else g k
theorem outer_arr (c : ClassId) (N h0 : Nat) : ∀ i : Nat, Jvm.Free.Multi.outerC c N h0 i = arrV c N (fun j => if j < i then .ref (h0 + 1 + j) else .null)
  | 0 => by
    show ({ cls := c, slots := Array.replicate N .null, vm := .none } : Cell) = _
    rw [arrV_new]
    refine congrArg (arrV c N) (funext fun j => ?_)
    simp
  | i + 1 => by
    show (Jvm.Free.Multi.outerC c N h0 i).setSlot i (.ref (h0 + 1 + i)) = _
    rw [outer_arr c N h0 i, arrV_store]
    refine congrArg (arrV c N) (funext fun j => ?_)
    by_cases e : j = i
    · subst e
      simp [updV]
    · by_cases h : j < i
      · simp [updV, e, h, Nat.lt_succ_of_lt h]
      · simp [updV, e, h, show ¬ j < i + 1 by omega]
theorem z_mna (E : Ev X own cc nL rm nm) {idx n K : Nat} {zn zk : Int} (hd : decode cc pc = .ok (.multianewarray idx 2, 4)) (hcl : Cond.classLink own idx ("[" ++ (FieldType.array .int).toString) ∈ tblG) (hac : Cond.arrayClass .int ∈ tblG) (hzn : zn = (n : Int)) (hzk : zk = (K : Int)) (hn : n ≤ 1000) (hK : K ≤ 1000) (hcell : cells + (1 + n) ≤ rm.cells ∧ slots + (n + n * K) ≤ rm.slots) (k : Zc X (pc + 4) ls (.ref N :: st) (N + 1 + n) (rw2 g N n K) (cells + 1 + n) (slots + n + n * K)) : Zc X pc ls (.int (iI zk) :: .int (iI zn) :: st) N g cells slots := by
  obtain ⟨p, l, e, R, s, m, args, below, meth, c, Q, B⟩ := X
  obtain ⟨hx, hb, hml, hown, hts, hR, hnm, hNs⟩ := E
  subst hR
  intro H locs lsA hl hW hS
  obtain ⟨hz, D, hKn, hc⟩ := id hW
  have hN : (iI zn).toNatClampNeg = n := iI_clamp hzn (by omega)
  have hM : (iI zk).toNatClampNeg = K := iI_clamp hzk (by omega)
  intro T hT Xs
  obtain ⟨vm₁, cA, comp, -, fA, fC, hO, hI, X', step⟩ := Xs.multianewarray2F hx hown (ty := .int) (hts _ hcl) hNs.2.2 (hts _ hac) (g := F0 m pc lsA (.int (iI zk) :: .int (iI zn) :: st.map (mv B))) rfl (by rw [hb]; exact hd) rfl (iI_nn hzn (by omega)) (iI_nn hzk (by omega)) (by rw [hN]; omega) (by rw [hM]; show K * 4 ≤ _; omega) (by rw [hM]; omega) rfl rfl (by rw [hN]; exact hcell.1) (by rw [hN, hM]; exact hcell.2)
  rw [hN, hM] at X' step
  generalize hF : Jvm.Free.Multi.fill (T.setVm vm₁) cA comp n K (defaultValue .int) n = F at X' step
  have hTh : (T.setVm vm₁).heap = H := hT
  obtain ⟨f1, f2, -, -⟩ := Jvm.Free.Multi.fill_facts (T.setVm vm₁) cA comp n K (defaultValue .int) n
  rw [hF, hTh] at f1 f2
  have hold : ∀ x : Nat, x < H.size → F.heap[x]? = H[x]? := fun x hx => by
    have := Jvm.Free.Multi.fill_old (T.setVm vm₁) cA comp n K (defaultValue .int) (a := x) (by rw [hTh]; exact hx) n
    rw [hF, hTh] at this
    exact this
  have hrow : ∀ j : Nat, j < n → F.heap[H.size + 1 + j]? = some (arrV comp K (fun _ => .int (iI 0))) := fun j hj => by
    have := Jvm.Free.Multi.fill_inner (T.setVm vm₁) cA comp n K (defaultValue .int) n j hj
    rw [hF, hTh] at this
    rw [this, ← arrV_new]; rfl
  rw [outer_arr] at f2
  obtain ⟨-, kO, q2, compO, q3⟩ := (hO 0 0 0).1
  obtain ⟨-, kI, r2, compI, r3⟩ := (hI 0 .null).1
  have hcells : ∀ q : Nat, (rw2 g N n K q).1 < 12 → cOK D B s (rw2 g N n K q) (B + q) F.heap := by
    intro q hq
    unfold rw2 at hq ⊢
    by_cases e1 : q = N
    · subst e1
      rw [if_pos rfl]
      refine ⟨fun r2 hr2 => by have := vw_lt hr2; have : 8 < 6 := this; omega, fun _ => ⟨cA, ?_, fun N z => ⟨(fun k h => by cases h), kO, q2, compO, q3⟩, fA⟩⟩
      rw [← hz, f2]
      show _ = some (arrV cA ((List.range n).map (fun i => Value.ref (q + 1 + i))).length _)
      rw [List.length_map, List.length_range]
      unfold arrV
      congr 3
      funext j
      have hj := j.isLt
      have hg1 : ((List.range n).map (fun i => Value.ref (q + 1 + i))).getD (j : Nat) .null = .ref (q + 1 + j) := by simp [List.getD_eq_getElem?_getD, hj]
      show (if (j : Nat) < n then Value.ref (H.size + 1 + j) else .null) = mv B (((List.range n).map (fun i => Value.ref (q + 1 + i))).getD (j : Nat) .null)
      rw [hg1, if_pos hj, hz]
      show Value.ref (B + q + 1 + (j : Nat)) = Value.ref (B + (q + 1 + (j : Nat)))
      rw [show B + q + 1 + (j : Nat) = B + (q + 1 + (j : Nat)) by omega]
    · rw [if_neg e1] at hq ⊢
      by_cases e2 : N < q ∧ q < N + 1 + n
      · rw [if_pos e2]
        refine ⟨fun r2 hr2 => by have := vw_lt hr2; have : 6 < 6 := this; omega, fun _ => ⟨comp, ?_, fun N z => ⟨(fun k h => by cases h), kI, r2, compI, r3⟩, fC⟩⟩
        show _ = some (arrV comp (vals K (fun _ => 0)).length _)
        rw [vals_arr, ← hrow (q - (N + 1)) (by omega), hz]
        congr 1
        omega
      · rw [if_neg e2] at hq ⊢
        exact (hc q hq).kept (hold _ (hc q hq).lt)
  obtain ⟨t, a1, b1⟩ := k F.heap locs lsA hl ⟨by rw [f1]; omega, D, hKn, hcells⟩ ⟨by rw [f1]; have := hS.1; omega, fun x h1 h2 => (hold x (by have := hS.1; omega)).trans (hS.2.1 x h1 h2), hS.2.2⟩ F rfl X'
  refine ⟨t, step t ?_, b1⟩
  rw [show T.heap.size = B + N by rw [hT]; exact hz]
  exact a1
end NEWM
