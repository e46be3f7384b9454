/-! The judgement over a memory of numbered cells: a cell is a tag and its values; tags 0 to 5 are objects (the place in vwCl), 6 to 11 arrays; a reference k stands for the heap's B + k -/
abbrev Cel : Type := Nat × List Value
abbrev Mem : Type := Nat → Cel
def mv (B : Nat) (v : Value) : Value := match v with
  | .ref k => .ref (B + k)
  | w => w
def kty (t : Nat) : FieldType := match t with
  | 6 => .int
  | 7 => .boolean
  | 8 => .array .int
  | 9 => .object RX4
  | 10 => .object RX1
  | _ => .object RX3
def cOK (D : va_G) (B : Nat) (U : State) (c : Cel) (a : Nat) (H : Heap) : Prop :=
  (∀ r : vw_C, vwCl[c.1]? = some r → c.2.length = r.2.2 ∧ t_OB a (D.1 c.1) r.2.2 (D.2 c.1) H (fun k => mv B (c.2.getD k .null))) ∧
  (6 ≤ c.1 → ∃ cA : ClassId, H[a]? = some (arrV cA c.2.length (fun j => mv B (c.2.getD j .null))) ∧ ArrOfT U cA (kty c.1) ∧ va_RA U cA (kty c.1))
def Wd (B N : Nat) (g : Mem) (U : State) (H : Heap) : Prop := H.size = B + N ∧ ∃ D : va_G, (∀ (c : Nat) (q : vw_C), vwCl[c]? = some q → u_Kn U q.1 q.2.1 q.2.2 (D.1 c) (D.2 c)) ∧ ∀ k : Nat, (g k).1 < 12 → cOK D B U (g k) (B + k) H
theorem cOK.moved {D : va_G} {B : Nat} {u U : State} {c : Cel} {a : Nat} {H : Heap} (hvm : u.vm.Alike U.vm) (h : cOK D B u c a H) : cOK D B U c a H :=
  ⟨h.1, fun h6 => by obtain ⟨cA, h1, h2, h3⟩ := h.2 h6; exact ⟨cA, h1, arrOfT_moved hvm h2, h3.moved hvm⟩⟩
theorem Wd.moved {B N : Nat} {g : Mem} {u U : State} {H : Heap} (hvm : u.vm.Alike U.vm) (h : Wd B N g u H) : Wd B N g U H := by
  obtain ⟨h0, D, h1, h2⟩ := h
  exact ⟨h0, D, fun c q hq => u_Kn_moved hvm (h1 c q hq), fun k hk => (h2 k hk).moved hvm⟩
theorem cOK.kept {D : va_G} {B : Nat} {U : State} {c : Cel} {a : Nat} {H H1 : Heap} (h : cOK D B U c a H) (hq : H1[a]? = H[a]?) : cOK D B U c a H1 :=
  ⟨fun r hr => ⟨(h.1 r hr).1, (h.1 r hr).2.kept hq⟩, fun h6 => by obtain ⟨cA, h1, h2⟩ := h.2 h6; exact ⟨cA, hq.trans h1, h2⟩⟩
theorem vw_some {t : Nat} (h : t < 6) : ∃ r, vwCl[t]? = some r := ⟨vwCl[t]'h, List.getElem?_eq_getElem h⟩
theorem cOK.lt {D : va_G} {B : Nat} {U : State} {c : Cel} {a : Nat} {H : Heap} (h : cOK D B U c a H) : a < H.size := by
  by_cases h6 : 6 ≤ c.1
  · obtain ⟨cA, h1, -⟩ := h.2 h6
    exact (Array.getElem?_eq_some_iff.mp h1).1
  · obtain ⟨r, hr⟩ := vw_some (t := c.1) (by omega)
    obtain ⟨-, cell, h2, -⟩ := h.1 r hr
    exact (Array.getElem?_eq_some_iff.mp h2).1
/-- one cell changed -/
theorem cells_upd {D : va_G} {B k : Nat} {g : Mem} {U : State} {H H1 : Heap} {c : Cel} (h : ∀ k : Nat, (g k).1 < 12 → cOK D B U (g k) (B + k) H) (oq : ∀ q, q ≠ B + k → H1[q]? = H[q]?) (hc : cOK D B U c (B + k) H1) :
    ∀ j : Nat, (va_up g k c j).1 < 12 → cOK D B U (va_up g k c j) (B + j) H1 := by
  intro j hj
  by_cases e : j = k
  · subst e
    rw [va_up_self]
    exact hc
  · rw [va_up_ne _ _ e] at hj ⊢
    exact (h j hj).kept (oq _ (by omega))
/-- a new cell -/
theorem cells_new {D : va_G} {B N : Nat} {g : Mem} {U : State} {H H1 : Heap} {c : Cel} (hz : H.size = B + N) (h : ∀ k : Nat, (g k).1 < 12 → cOK D B U (g k) (B + k) H) (oq : ∀ q, q < H.size → H1[q]? = H[q]?) (hc : cOK D B U c (B + N) H1) :
    ∀ j : Nat, (va_up g N c j).1 < 12 → cOK D B U (va_up g N c j) (B + j) H1 := by
  intro j hj
  by_cases e : j = N
  · subst e
    rw [va_up_self]
    exact hc
  · rw [va_up_ne _ _ e] at hj ⊢
    exact (h j hj).kept (oq _ (h j hj).lt)
/-! the locals: by their places -/
def lh (B : Nat) (lsA : Array Slot) (ls : List (Option Value)) : Prop := lsA.size = ls.length ∧ lv_wf lsA ∧ ∀ (i : Nat) (v : Value), ls[i]? = some (some v) → lsA[i]? = some (.val (mv B v))
theorem mv_cat (B : Nat) (v : Value) : (mv B v).category = v.category := by cases v <;> rfl
def clr (x : Option Value) : Option Value := match x with
  | some (.long _) => none
  | some (.double _) => none
  | y => y
def sL1 : List (Option Value) → Nat → Value → List (Option Value)
  | [], _, _ => []
  | _ :: r, 0, v => some v :: r
  | x :: r, 1, v => clr x :: sL1 r 0 v
  | x :: r, i + 2, v => x :: sL1 r (i + 1) v
def sL2 : List (Option Value) → Nat → Value → List (Option Value)
  | [], _, _ => []
  | _ :: [], 0, v => some v :: []
  | _ :: _ :: r, 0, v => some v :: none :: r
  | x :: r, 1, v => clr x :: sL2 r 0 v
  | x :: r, i + 2, v => x :: sL2 r (i + 1) v
theorem clr_some {x : Option Value} {w : Value} (h : clr x = some w) : x = some w ∧ w.category = 1 := by
  cases x with
  | none => cases h
  | some y => cases y <;> first | (cases h; exact ⟨rfl, rfl⟩) | cases h
theorem sL1_len : ∀ (ls : List (Option Value)) (i : Nat) (v : Value), (sL1 ls i v).length = ls.length
  | [], _, _ => by simp [sL1]
  | _ :: r, 0, v => by simp [sL1]
  | x :: r, 1, v => by simp [sL1, sL1_len r 0 v]
  | x :: r, i + 2, v => by simp [sL1, sL1_len r (i + 1) v]
theorem sL2_len : ∀ (ls : List (Option Value)) (i : Nat) (v : Value), (sL2 ls i v).length = ls.length
  | [], _, _ => by simp [sL2]
  | [_], 0, v => by simp [sL2]
  | _ :: _ :: r, 0, v => by simp [sL2]
  | x :: r, 1, v => by simp [sL2, sL2_len r 0 v]
  | x :: r, i + 2, v => by simp [sL2, sL2_len r (i + 1) v]
theorem sL1_at : ∀ (ls : List (Option Value)) (i : Nat) (v : Value) (j : Nat) (w : Value), (sL1 ls i v)[j]? = some (some w) → (j = i ∧ w = v) ∨ (j ≠ i ∧ ls[j]? = some (some w) ∧ ¬ (j + 1 = i ∧ w.category = 2))
  | [], _, _, j, w, h => by simp [sL1] at h
  | x :: r, 0, v, j, w, h => by
    cases j with
    | zero => simp [sL1] at h; exact Or.inl ⟨rfl, h.symm⟩
    | succ j => simp [sL1] at h; exact Or.inr ⟨by omega, by simpa using h, by omega⟩
  | x :: r, 1, v, j, w, h => by
    cases j with
    | zero =>
      simp [sL1] at h
      obtain ⟨h1, h2⟩ := clr_some h
      exact Or.inr ⟨by omega, by simp [h1], by omega⟩
    | succ j =>
      simp only [sL1, List.getElem?_cons_succ] at h
      rcases sL1_at r 0 v j w h with ⟨a, b⟩ | ⟨a, b, -⟩
      · exact Or.inl ⟨by omega, b⟩
      · exact Or.inr ⟨by omega, by simpa using b, by omega⟩
  | x :: r, i + 2, v, j, w, h => by
    cases j with
    | zero => simp [sL1] at h; exact Or.inr ⟨by omega, by simp [h], by omega⟩
    | succ j =>
      simp only [sL1, List.getElem?_cons_succ] at h
      rcases sL1_at r (i + 1) v j w h with ⟨a, b⟩ | ⟨a, b, d⟩
      · exact Or.inl ⟨by omega, b⟩
      · exact Or.inr ⟨by omega, by simpa using b, by omega⟩
theorem sL2_at : ∀ (ls : List (Option Value)) (i : Nat) (v : Value) (j : Nat) (w : Value), (sL2 ls i v)[j]? = some (some w) → (j = i ∧ w = v) ∨ (j ≠ i ∧ j ≠ i + 1 ∧ ls[j]? = some (some w) ∧ ¬ (j + 1 = i ∧ w.category = 2))
  | [], _, _, j, w, h => by simp [sL2] at h
  | [x], 0, v, j, w, h => by
    cases j with
    | zero => simp [sL2] at h; exact Or.inl ⟨rfl, h.symm⟩
    | succ j => simp [sL2] at h
  | x :: y :: r, 0, v, j, w, h => by
    cases j with
    | zero => simp [sL2] at h; exact Or.inl ⟨rfl, h.symm⟩
    | succ j =>
      cases j with
      | zero => simp [sL2] at h
      | succ j => simp [sL2] at h; exact Or.inr ⟨by omega, by omega, by simpa using h, by omega⟩
  | x :: r, 1, v, j, w, h => by
    cases j with
    | zero =>
      simp [sL2] at h
      obtain ⟨h1, h2⟩ := clr_some h
      exact Or.inr ⟨by omega, by omega, by simp [h1], by omega⟩
    | succ j =>
      simp only [sL2, List.getElem?_cons_succ] at h
      rcases sL2_at r 0 v j w h with ⟨a, b⟩ | ⟨a, a2, b, -⟩
      · exact Or.inl ⟨by omega, b⟩
      · exact Or.inr ⟨by omega, by omega, by simpa using b, by omega⟩
  | x :: r, i + 2, v, j, w, h => by
    cases j with
    | zero => simp [sL2] at h; exact Or.inr ⟨by omega, by omega, by simp [h], by omega⟩
    | succ j =>
      simp only [sL2, List.getElem?_cons_succ] at h
      rcases sL2_at r (i + 1) v j w h with ⟨a, b⟩ | ⟨a, a2, b, d⟩
      · exact Or.inl ⟨by omega, b⟩
      · exact Or.inr ⟨by omega, by omega, by simpa using b, by omega⟩
def lpairs (B : Nat) (ls : List (Option Value)) : List (Nat × Value) := (List.range ls.length).filterMap (fun i => (ls[i]?.join).map (fun v => (i, mv B v)))
theorem lpairs_mem {B : Nat} {ls : List (Option Value)} {q : Nat × Value} : q ∈ lpairs B ls ↔ ∃ v, ls[q.1]? = some (some v) ∧ q.2 = mv B v := by
  unfold lpairs
  rw [List.mem_filterMap]
  constructor
  · rintro ⟨i, -, hi⟩
    cases h : ls[i]? with
    | none => rw [h] at hi; simp at hi
    | some x =>
      cases x with
      | none => rw [h] at hi; simp at hi
      | some v =>
        rw [h] at hi
        simp at hi
        subst hi
        exact ⟨v, h, rfl⟩
  · rintro ⟨v, h1, h2⟩
    refine ⟨q.1, List.mem_range.mpr (List.getElem?_eq_some_iff.mp h1).1, ?_⟩
    rw [h1]
    simp [← h2]
theorem lh.has {B : Nat} {lsA : Array Slot} {ls : List (Option Value)} (h : lh B lsA ls) : lv_has lsA ls.length (lpairs B ls) := by
  refine ⟨h.1, h.2.1, fun q hq => ?_⟩
  obtain ⟨v, h1, h2⟩ := lpairs_mem.mp hq
  rw [h2]
  exact h.2.2 _ _ h1
theorem lh.of {B n : Nat} {lsA : Array Slot} {l : List (Nat × Value)} {ls : List (Option Value)} (h : lv_has lsA n l) (hn : ls.length = n) (hs : ∀ (i : Nat) (v : Value), ls[i]? = some (some v) → (i, mv B v) ∈ l) : lh B lsA ls :=
  ⟨h.1.trans hn.symm, h.2.1, fun i v hi => h.2.2 (i, mv B v) (hs i v hi)⟩
theorem lh.st1 {B i : Nat} {lsA : Array Slot} {ls : List (Option Value)} {v : Value} {l' : List (Nat × Value)} {A' : Array Slot} (h' : lv_has A' ls.length ((i, mv B v) :: (lpairs B ls).filter (fun q => !(q.1 == i) && !(q.1 + 1 == i && q.2.category == 2)))) : lh B A' (sL1 ls i v) := by
  refine lh.of h' (sL1_len ls i v) fun j w hj => ?_
  rcases sL1_at ls i v j w hj with ⟨a, b⟩ | ⟨a, b, d⟩
  · subst a; subst b; exact List.mem_cons_self
  · refine List.mem_cons_of_mem _ (List.mem_filter.mpr ⟨lpairs_mem.mpr ⟨w, b, rfl⟩, ?_⟩)
    simp only [mv_cat, Bool.and_eq_true, Bool.not_eq_true', beq_eq_false_iff_ne, ne_eq, Bool.and_eq_false_iff]
    refine ⟨a, ?_⟩
    by_cases e : j + 1 = i
    · exact Or.inr (fun c => d ⟨e, c⟩)
    · exact Or.inl e
theorem lh.st2 {B i : Nat} {lsA : Array Slot} {ls : List (Option Value)} {v : Value} {A' : Array Slot} (h' : lv_has A' ls.length ((i, mv B v) :: (lpairs B ls).filter (fun q => !(q.1 == i) && (!(q.1 == i + 1) && !(q.1 + 1 == i && q.2.category == 2))))) : lh B A' (sL2 ls i v) := by
  refine lh.of h' (sL2_len ls i v) fun j w hj => ?_
  rcases sL2_at ls i v j w hj with ⟨a, b⟩ | ⟨a, a2, b, d⟩
  · subst a; subst b; exact List.mem_cons_self
  · refine List.mem_cons_of_mem _ (List.mem_filter.mpr ⟨lpairs_mem.mpr ⟨w, b, rfl⟩, ?_⟩)
    simp only [mv_cat, Bool.and_eq_true, Bool.not_eq_true', beq_eq_false_iff_ne, ne_eq, Bool.and_eq_false_iff]
    refine ⟨a, a2, ?_⟩
    by_cases e : j + 1 = i
    · exact Or.inr (fun c => d ⟨e, c⟩)
    · exact Or.inl e
def expA : List Value → List (Option Value)
  | [] => []
  | v :: r => if v.category = 2 then some v :: none :: expA r else some v :: expA r
def entL (av : List Value) (n : Nat) : List (Option Value) := expA av ++ List.replicate (n - (expA av).length) none
theorem expA_args (B : Nat) : ∀ (av : List Value) (k i : Nat) (v : Value), (expA av)[i]? = some (some v) → (k + i, mv B v) ∈ lv_args k (av.map (mv B))
  | [], k, i, v, h => by simp [expA] at h
  | w :: r, k, i, v, h => by
    simp only [List.map_cons, lv_args, mv_cat]
    by_cases c2 : w.category = 2
    · simp only [expA, if_pos c2] at h
      rw [if_pos c2]
      match i, h with
      | 0, h => simp at h; subst h; exact List.mem_cons_self
      | 1, h => simp at h
      | i + 2, h =>
        simp at h
        have := expA_args B r (k + 2) i v h
        rw [show k + 2 + i = k + (i + 2) by omega] at this
        exact List.mem_cons_of_mem _ this
    · simp only [expA, if_neg c2] at h
      rw [if_neg c2]
      match i, h with
      | 0, h => simp at h; subst h; exact List.mem_cons_self
      | i + 1, h =>
        simp at h
        have := expA_args B r (k + 1) i v h
        rw [show k + 1 + i = k + (i + 1) by omega] at this
        exact List.mem_cons_of_mem _ this
theorem expA_len (B : Nat) : ∀ (av : List Value), (lg_sl (av.map (mv B))).length = (expA av).length
  | [] => rfl
  | w :: r => by
    have ih := expA_len B r
    unfold lg_sl at ih ⊢
    simp only [List.map_cons, List.flatMap_cons, List.length_append, mv_cat, expA, ih]
    by_cases c2 : w.category = 2
    · simp [c2]; omega
    · simp [c2]; omega
theorem entL_has {B n : Nat} (av : List Value) (h : (expA av).length ≤ n) : lh B ((lg_sl (av.map (mv B)) ++ List.replicate (n - (lg_sl (av.map (mv B))).length) Slot.unset).toArray) (entL av n) := by
  refine lh.of (lv_entry (av.map (mv B)) (n := n) (by rw [expA_len]; exact h)) ?_ fun i v hi => ?_
  · simp [entL]; omega
  · unfold entL at hi
    by_cases hl : i < (expA av).length
    · rw [List.getElem?_append_left hl] at hi
      have := expA_args B av 0 i v hi
      rwa [Nat.zero_add] at this
    · rw [List.getElem?_append_right (by omega)] at hi
      have := List.mem_of_getElem? hi
      simp at this
