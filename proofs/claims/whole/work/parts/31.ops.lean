/-! what each call answers and makes of the state -/
section BIF
variable {X : ZX} {own nm : String} {cc : ByteArray} {nL : Nat} {rm : Room} {pc : Nat} {ls : List (Option Value)} {st : List Value} {N : Nat} {g : Mem} {cells slots : Nat}
theorem z_bif_eq (E : Ev X own cc nL rm nm) {p : Prop} {off : Int} {tgt : Nat} (hd : decode cc pc = .ok (.ifCond .eq off, 3)) (ht : (pc : Int) + off = (tgt : Int)) (kt : ¬ p → Zc X tgt ls st N g cells slots) (kf : p → Zc X (pc + 3) ls st N g cells slots) : Zc X pc ls (.int (iI (b01 p)) :: st) N g cells slots := by
  by_cases h : p
  · rw [b01_t h]
    exact z_if_eq E ⟨by omega, by omega⟩ hd ht (fun q => by omega) (fun _ => kf h)
  · rw [b01_f h]
    exact z_if_eq E ⟨by omega, by omega⟩ hd ht (fun _ => kt h) (fun q => by omega)
theorem z_bif_ne (E : Ev X own cc nL rm nm) {p : Prop} {off : Int} {tgt : Nat} (hd : decode cc pc = .ok (.ifCond .ne off, 3)) (ht : (pc : Int) + off = (tgt : Int)) (kt : p → Zc X tgt ls st N g cells slots) (kf : ¬ p → Zc X (pc + 3) ls st N g cells slots) : Zc X pc ls (.int (iI (b01 p)) :: st) N g cells slots := by
  by_cases h : p
  · rw [b01_t h]
    exact z_if_ne E ⟨by omega, by omega⟩ hd ht (fun _ => kt h) (fun q => by omega)
  · rw [b01_f h]
    exact z_if_ne E ⟨by omega, by omega⟩ hd ht (fun q => by omega) (fun _ => kf h)
end BIF
abbrev iS (s : Int) : Prop := 0 ≤ s ∧ s < 8
abbrev iF (s : Int) : Prop := 0 ≤ s ∧ s < 3
abbrev iL (s : Int) : Prop := 0 ≤ s ∧ s < 4
abbrev iP (s : Int) : Prop := 0 ≤ s ∧ s < 10
def lost1 (σ : St) (s : Int) (x : Int × St) : Int × St := if σ s.toNat 0 = 0 then (-11, fnd σ 1) else x
def lost2 (σ : St) (s t : Int) (x : Int × St) : Int × St := if σ s.toNat 0 = 0 ∨ σ t.toNat 0 = 0 then (-11, fnd σ 1) else x
abbrev sr (σ : St) (s : Int) : Nat → Int := srS σ s.toNat
def stp (σ : St) (k n : Nat) : Nat → Int := fun j => σ (8 + k) (1 + 10 * n + j)
def setLd (σ : St) (k : Nat) (B : Nat → Nat → Int) : St := va_up σ (8 + k) (fun i => if i = 0 then 1 else B ((i - 1) / 10) ((i - 1) % 10))
def opSheet (σ : St) (s fo n : Int) : Int × St := if iS s ∧ iF fo ∧ n ≤ 20 then (if n < 0 then (-15, fnd σ 5) else (n, setSh σ s.toNat fo n (fun _ => 0))) else (-2, σ)
def opLose (σ : St) (s : Int) : Int × St := if iS s then (if σ s.toNat 0 = 0 then (-11, fnd σ 1) else (σ s.toNat 2, va_up σ s.toNat (up (σ s.toNat) 0 0))) else (-2, σ)
def opPut (σ : St) (s fo i v : Int) : Int × St := if iS s ∧ iF fo then (if lkS σ s.toNat fo i = 0 then (1, va_up σ s.toNat (up (σ s.toNat) (3 + i.toNat) (nar fo v))) else (-10 - lkS σ s.toNat fo i, fnd σ (lkS σ s.toNat fo i))) else (-2, σ)
def opGet (σ : St) (s fo i : Int) : Int × St := if iS s ∧ iF fo then (if lkS σ s.toNat fo i = 0 then (σ s.toNat (3 + i.toNat), σ) else (-2147483648, fnd σ (lkS σ s.toNat fo i))) else (-2147483648, σ)
def cpR (σ : St) (s i t j n q : Nat) : Int := if 3 + j ≤ q ∧ q < 3 + j + n then σ s (3 + i + (q - (3 + j))) else σ t q
def opCopy (σ : St) (s i t j n : Int) : Int × St := if iS s ∧ iS t then lost2 σ s t (if σ s.toNat 1 = σ t.toNat 1 then (if (0 ≤ i ∧ 0 ≤ n ∧ i + n ≤ σ s.toNat 2) ∧ (0 ≤ j ∧ 0 ≤ n ∧ j + n ≤ σ t.toNat 2) then (1, va_up σ t.toNat (cpR σ s.toNat i.toNat t.toNat j.toNat n.toNat)) else (-12, fnd σ 2)) else (-14, fnd σ 4)) else (-2, σ)
def opTerm (σ : St) (s i : Int) : Int × St := if iS s ∧ iP i then lost1 σ s (sr σ s i.toNat, σ) else (-2, σ)
def opKind (σ : St) (s k a : Int) : Int × St := if iS s ∧ (0 ≤ k ∧ k < 8) ∧ (0 ≤ a ∧ a < 10007) then (kS k.toNat a 9, setSr σ s.toNat (kS k.toNat a)) else (-2, σ)
def jnS (w : Int) (a b : Nat → Int) : Nat → Int := if w = 0 then addS a b else if w = 1 then subS a b else mulS a b
def opJoin (σ : St) (s t u w : Int) : Int × St := if iS s ∧ iS t ∧ iS u ∧ (0 ≤ w ∧ w ≤ 2) then lost2 σ s t (jnS w (sr σ s) (sr σ t) 9, setSr σ u.toNat (jnS w (sr σ s) (sr σ t))) else (-2, σ)
def opOver (σ : St) (s t u : Int) : Int × St := if iS s ∧ iS t ∧ iS u then lost2 σ s t (if sr σ t 0 ≠ 0 then (qS (sr σ s) (sr σ t) 9, setSr σ u.toNat (qS (sr σ s) (sr σ t))) else (-3, σ)) else (-2, σ)
def opInto (σ : St) (s t u : Int) : Int × St := if iS s ∧ iS t ∧ iS u then lost2 σ s t (if sr σ t 0 = 0 then (hoS (sr σ s) (sr σ t) 9 9, setSr σ u.toNat (hoS (sr σ s) (sr σ t) 9)) else (-3, σ)) else (-2, σ)
def opTurn (σ : St) (s u : Int) : Int × St := if iS s ∧ iS u then lost1 σ s (if sr σ s 0 = 0 ∧ sr σ s 1 ≠ 0 then (tuS (sr σ s) 9, setSr σ u.toNat (tuS (sr σ s))) else (-3, σ)) else (-2, σ)
def opPower (σ : St) (s n u : Int) : Int × St := if iS s ∧ (0 ≤ n ∧ n ≤ 1000) ∧ iS u then lost1 σ s (raS (sr σ s) n.toNat 10 9, setSr σ u.toNat (raS (sr σ s) n.toNat 10)) else (-2, σ)
def opValue (σ : St) (s x : Int) : Int × St := if iS s then lost1 σ s (hv (sr σ s) (x % 10007) 10, σ) else (-2, σ)
def opApply (σ : St) (s t u : Int) : Int × St := if iS s ∧ iS t ∧ iS u then lost2 σ s t (opS (sr σ s) (sr σ t) 9, setSr σ u.toNat (opS (sr σ s) (sr σ t))) else (-2, σ)
def opLadder (σ : St) (k p f : Int) : Int × St := if iL k ∧ iS p ∧ iS f then lost2 σ p f (if sr σ p 0 ≠ 0 ∧ (sr σ f 0 = 0 ∧ sr σ f 1 ≠ 0) then (1, setLd σ k.toNat (blS (sr σ p) (sr σ f))) else (-3, σ)) else (-2, σ)
def opStep (σ : St) (k n j : Int) : Int × St := if iL k ∧ iP n ∧ iP j then (if σ (8 + k.toNat) 0 = 0 then (-3, σ) else (stp σ k.toNat n.toNat j.toNat, σ)) else (-2, σ)
def opAt (σ : St) (k n x : Int) : Int × St := if iL k ∧ iP n then (if σ (8 + k.toNat) 0 = 0 then (-3, σ) else (hv (stp σ k.toNat n.toNat) (x % 10007) 10, σ)) else (-2, σ)
def opTell (σ : St) (k n u : Int) : Int × St := if iL k ∧ iP n ∧ iS u then (if σ (8 + k.toNat) 0 = 0 then (-3, σ) else (stp σ k.toNat n.toNat 9, setSr σ u.toNat (stp σ k.toNat n.toNat))) else (-2, σ)
noncomputable def opLowers (σ : St) (k s : Int) : Int × St := if iL k ∧ iS s then lost1 σ s (if σ (8 + k.toNat) 0 = 0 then (-3, σ) else (fnF (lwS (sr σ s) (stp σ k.toNat)) 9 1, σ)) else (-2, σ)
def opBound (σ : St) (k o n j : Int) : Int × St := if iL k ∧ iL o ∧ iP n ∧ iP j then (if σ (8 + k.toNat) 0 = 0 ∨ σ (8 + o.toNat) 0 = 0 then (-3, σ) else (tiH (stp σ k.toNat n.toNat) (stp σ o.toNat) (9 - j.toNat), σ)) else (-2, σ)
def vlL (σ : St) (k : Nat) (n x : Nat) : Int := hv (stp σ k n) ((x : Int) % 10007) 10
noncomputable def opBinom (σ : St) (k : Int) : Int × St := if iL k then (if σ (8 + k.toNat) 0 = 0 then (-3, σ) else (lsF (bnP (vlL σ k.toNat)) 10 0, σ)) else (-2, σ)
def opSum (σ : St) (s a many : Int) : Int × St := if iS s ∧ (0 ≤ many ∧ many ≤ 2000000000) then lost1 σ s (suT (fdS (sr σ s) a) (many % 10007) 10, σ) else (-2, σ)
def opThrough (σ : St) (s n u : Int) : Int × St := if iS s ∧ (1 ≤ n ∧ n ≤ 10) ∧ iS u then lost1 σ s ((dg (thS (dfT (sr σ s) 9) n.toNat n.toNat) 9 : Nat), setSr σ u.toNat (thS (dfT (sr σ s) 9) n.toNat n.toNat)) else (-2, σ)
def opDiff (σ : St) (s k a : Int) : Int × St := if iS s ∧ iP k then lost1 σ s (fdS (sr σ s) a k.toNat, σ) else (-2, σ)
def opTri (σ : St) (p f n k : Int) : Int × St := if iS p ∧ iS f ∧ iP n ∧ iP k then lost2 σ p f (if sr σ f 0 = 0 then (mulS (sr σ p) (raS (sr σ f) k.toNat 10) n.toNat, σ) else (-3, σ)) else (-2, σ)
def opProd (σ : St) (p f h l u v : Int) : Int × St := if iS p ∧ iS f ∧ iS h ∧ iS l ∧ iS u ∧ iS v ∧ u ≠ v then (if σ p.toNat 0 = 0 ∨ σ f.toNat 0 = 0 ∨ σ h.toNat 0 = 0 ∨ σ l.toNat 0 = 0 then (-11, fnd σ 1) else if sr σ f 0 = 0 ∧ sr σ l 0 = 0 then (1, setSr (setSr σ u.toNat (mulS (sr σ p) (hoS (sr σ h) (sr σ f) 9))) v.toNat (hoS (sr σ l) (sr σ f) 9)) else (-3, σ)) else (-2, σ)
def opBack (σ : St) (p f u v : Int) : Int × St := if iS p ∧ iS f ∧ iS u ∧ iS v ∧ u ≠ v then lost2 σ p f (if sr σ p 0 ≠ 0 ∧ (sr σ f 0 = 0 ∧ sr σ f 1 ≠ 0) then (1, setSr (setSr σ u.toNat (obS (sr σ p) (tuS (sr σ f)))) v.toNat (tuS (sr σ f))) else (-3, σ)) else (-2, σ)
def opARow (σ : St) (f u : Int) : Int × St := if iS f ∧ iS u then lost1 σ f (if sr σ f 0 = 0 ∧ sr σ f 1 ≠ 0 then (tbS (tuS (sr σ f)) 0, setSr σ u.toNat (tbS (tuS (sr σ f)))) else (-3, σ)) else (-2, σ)
def opCount (σ : St) (w : Int) : Int := if w = 0 then ctS σ 8 else if w = 1 then ctL σ 4 else if w = 2 then σ 12 0 else -2
def dgS (σ : St) (h : Int) : Nat → Int
  | 0 => h
  | s + 1 => if σ s 0 = 0 then dgS σ h s else mx (srS σ s) (31 * dgS σ h s + (s : Int)) 10
def dgL (σ : St) (h : Int) : Nat → Int
  | 0 => h
  | k + 1 => if σ (8 + k) 0 = 0 then dgL σ h k else mx (stp σ k 9) (31 * dgL σ h k + (k : Int)) 10
def opDigest (σ : St) : Int := dgL σ (dgS σ (31 * (31 * 17 + ctS σ 8) + ctL σ 4) 8) 4
def XP (A : Nat → Nat → Int) (σ : St) (g : Mem) : Prop := ∃ A', g = mA A' ∧ XI A' σ ∧ Hi A A'
theorem xp_same {A : Nat → Nat → Int} {σ : St} (h : XI A σ) : XP A σ (mA A) := ⟨A, rfl, h, fun _ _ => rfl⟩
theorem xp_to {A A' : Nat → Nat → Int} {σ : St} (h : XI A' σ) (hh : Hi A A') : XP A σ (mA A') := ⟨A', rfl, h, hh⟩
theorem xp_tr {A A' : Nat → Nat → Int} {σ : St} {g : Mem} (hh : Hi A A') (h : XP A' σ g) : XP A σ g := by
  obtain ⟨A2, h1, h2, h3⟩ := h
  exact ⟨A2, h1, h2, fun k hk => (h3 k hk).trans (hh k hk)⟩
theorem fin {R0 R : Int × St} {v : Int} {σ : St} {Q : St → Mem → Prop} {g : Mem} (h1 : R0 = R) (h2 : R0 = (v, σ)) (h3 : Q σ g) : (some (Value.int (iI v)) = some (Value.int (iI R.1))) ∧ Q R.2 g := by
  subst h1; rw [h2]; exact ⟨rfl, h3⟩
theorem hi_up {A : Nat → Nat → Int} {k : Nat} {f : Nat → Int} (hk : k < 156) : Hi A (va_up A k f) := fun j hj => va_up_ne _ _ (by omega)
theorem hi_tr {A B C : Nat → Nat → Int} (h1 : Hi A B) (h2 : Hi B C) : Hi A C := fun k hk => (h2 k hk).trans (h1 k hk)
theorem s40 : SerK 40 := ⟨by omega, by omega⟩
theorem s42 : SerK 42 := ⟨by omega, by omega⟩
theorem s44 : SerK 44 := ⟨by omega, by omega⟩
theorem s46 : SerK 46 := ⟨by omega, by omega⟩
theorem s48 : SerK 48 := ⟨by omega, by omega⟩
theorem s50 : SerK 50 := ⟨by omega, by omega⟩
theorem nat_of {s : Int} (h : 0 ≤ s) : ∃ k : Nat, s = (k : Int) := ⟨s.toNat, by omega⟩
