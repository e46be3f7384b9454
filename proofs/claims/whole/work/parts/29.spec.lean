/-! what both sides are told by: a SHEET s is row s: there, FORM, size, items from place 3 on; a LADDER k is row 8 + k: stands, steps from place 1 on; row 12: the latest FINDING -/
abbrev St : Type := Nat → Nat → Int
def shR (fo sz : Int) (f : Nat → Int) (i : Nat) : Int := if i = 0 then 1 else if i = 1 then fo else if i = 2 then sz else f (i - 3)
def setSh (σ : St) (s : Nat) (fo sz : Int) (f : Nat → Int) : St := va_up σ s (shR fo sz f)
def fnd (σ : St) (n : Int) : St := va_up σ 12 (up (σ 12) 0 n)
def srS (σ : St) (s j : Nat) : Int := if (j : Int) < σ s 2 then σ s (3 + j) % 10007 else 0
def cut (f : Nat → Int) (j : Nat) : Int := if j < 10 then f j else 0
def setSr (σ : St) (u : Nat) (f : Nat → Int) : St := setSh σ u 2 10 (cut f)
def SOK (σ : St) : Prop := (∀ s, s < 8 → (σ s 0 = 0 ∨ σ s 0 = 1) ∧ (0 ≤ σ s 1 ∧ σ s 1 < 3) ∧ (0 ≤ σ s 2 ∧ σ s 2 ≤ 20) ∧ ∀ j, j < 20 → inR (σ s (3 + j))) ∧ (∀ k, k < 4 → (σ (8 + k) 0 = 0 ∨ σ (8 + k) 0 = 1) ∧ ∀ n j, n < 10 → j < 10 → 0 ≤ σ (8 + k) (1 + 10 * n + j) ∧ σ (8 + k) (1 + 10 * n + j) < 10007) ∧ inR (σ 12 0)
theorem srS_rok (σ : St) (s : Nat) : rok (srS σ s) := fun j _ => by unfold srS; split <;> omega
def VX (A : Nat → Nat → Int) (σ : St) : Prop := (∀ s, s < 8 → A (52 + 2 * s) 1 = 1 - σ s 0 ∧ A (52 + 2 * s) 2 = σ s 1 ∧ A (52 + 2 * s) 3 = σ s 2 ∧ ∀ j, j < 20 → A (53 + 2 * s) j = σ s (3 + j)) ∧ (∀ k, k < 4 → A (68 + 22 * k) 1 = σ (8 + k) 0 ∧ ∀ n j, n < 10 → j < 10 → A (70 + 22 * k + 2 * n + 1) j = σ (8 + k) (1 + 10 * n + j)) ∧ A 0 9 = σ 12 0
def VM (A : Nat → Nat → Int) (σ : St) : Prop := (∀ s, s < 8 → A 157 s = σ s 0 ∧ A 158 s = σ s 1 ∧ A 159 s = σ s 2 ∧ ∀ j, j < 20 → A 160 (20 * s + j) = σ s (3 + j)) ∧ (∀ k, k < 4 → A 170 k = σ (8 + k) 0 ∧ ∀ n j, n < 10 → j < 10 → A 171 (100 * k + 10 * n + j) = σ (8 + k) (1 + 10 * n + j)) ∧ A 156 5 = σ 12 0
def XI (A : Nat → Nat → Int) (σ : St) : Prop := KA A ∧ VX A σ ∧ SOK σ
def MI (A : Nat → Nat → Int) (σ : St) : Prop := VM A σ ∧ SOK σ
def Hi (A A' : Nat → Nat → Int) : Prop := ∀ k, 156 ≤ k → A' k = A k
def Lo (A A' : Nat → Nat → Int) : Prop := ∀ k, k < 156 → A' k = A k
/-- rows that nobody is told by -/
theorem XI.scr {A A' : Nat → Nat → Int} {σ : St} (h : XI A σ) (e : ∀ k, (k < 18 ∨ k = 31 ∨ (52 ≤ k ∧ k < 156)) → A' k = A k) : XI A' σ := by
  obtain ⟨hK, hV, hS⟩ := h
  refine ⟨⟨fun n h1 h2 => by rw [e 4 (by omega)]; exact hK.1 n h1 h2, fun n hn => by rw [e 5 (by omega)]; exact hK.2.1 n hn, fun n hn => by rw [e 6 (by omega)]; exact hK.2.2.1 n hn, by rw [e 31 (by omega)]; exact hK.2.2.2.1, fun n k hk hn => by rw [e (8 + n) (by omega)]; exact hK.2.2.2.2 n k hk hn⟩, ⟨fun s hs => ?_, fun k hk => ?_, by rw [e 0 (by omega)]; exact hV.2.2⟩, hS⟩
  · rw [e (52 + 2 * s) (by omega), e (53 + 2 * s) (by omega)]; exact hV.1 s hs
  · refine ⟨by rw [e (68 + 22 * k) (by omega)]; exact (hV.2.1 k hk).1, fun n j hn hj => ?_⟩
    rw [e (70 + 22 * k + 2 * n + 1) (by omega)]; exact (hV.2.1 k hk).2 n j hn hj
theorem XI.ups {A : Nat → Nat → Int} {σ : St} (h : XI A σ) {k : Nat} {f : Nat → Int} (hk : (18 ≤ k ∧ k ≠ 31 ∧ k < 52) ∨ 156 ≤ k) : XI (va_up A k f) σ := h.scr (fun j hj => va_up_ne _ _ (by omega))
theorem SOK.fin {σ : St} (h : SOK σ) {n : Int} (hn : inR n) : SOK (fnd σ n) := by
  have e : ∀ s, s ≠ 12 → fnd σ n s = σ s := fun s hs => va_up_ne _ _ hs
  refine ⟨fun s hs => ?_, fun k hk => ?_, ?_⟩
  · rw [e s (by omega)]; exact h.1 s hs
  · rw [e (8 + k) (by omega)]; exact h.2.1 k hk
  · show inR (va_up σ 12 _ 12 0); rw [va_up_self, up_eq]; exact hn
theorem XI.fin {A : Nat → Nat → Int} {σ : St} (h : XI A σ) {n : Int} (hn : inR n) : XI (va_up A 0 (up (A 0) 9 n)) (fnd σ n) := by
  obtain ⟨hK, hV, hS⟩ := h
  have e : ∀ k, k ≠ 0 → va_up A 0 (up (A 0) 9 n) k = A k := fun k hk => va_up_ne _ _ hk
  have e2 : ∀ s, s ≠ 12 → fnd σ n s = σ s := fun s hs => va_up_ne _ _ hs
  refine ⟨⟨fun m h1 h2 => by rw [e 4 (by omega)]; exact hK.1 m h1 h2, fun m hm => by rw [e 5 (by omega)]; exact hK.2.1 m hm, fun m hm => by rw [e 6 (by omega)]; exact hK.2.2.1 m hm, by rw [e 31 (by omega)]; exact hK.2.2.2.1, fun m k hk hm => by rw [e (8 + m) (by omega)]; exact hK.2.2.2.2 m k hk hm⟩, ⟨fun s hs => ?_, fun k hk => ?_, ?_⟩, hS.fin hn⟩
  · rw [e (52 + 2 * s) (by omega), e (53 + 2 * s) (by omega), e2 s (by omega)]; exact hV.1 s hs
  · refine ⟨by rw [e (68 + 22 * k) (by omega), e2 (8 + k) (by omega)]; exact (hV.2.1 k hk).1, fun m j hm hj => ?_⟩
    rw [e (70 + 22 * k + 2 * m + 1) (by omega), e2 (8 + k) (by omega)]; exact (hV.2.1 k hk).2 m j hm hj
  · show va_up A 0 _ 0 9 = va_up σ 12 _ 12 0; rw [va_up_self, va_up_self, up_eq, up_eq]
theorem SOK.sh {σ : St} (h : SOK σ) {s : Nat} (hs : s < 8) {fo sz : Int} {f : Nat → Int} (h1 : 0 ≤ fo ∧ fo < 3) (h2 : 0 ≤ sz ∧ sz ≤ 20) (h3 : ∀ j, j < 20 → inR (f j)) : SOK (setSh σ s fo sz f) := by
  refine ⟨fun t ht => ?_, fun k hk => ?_, ?_⟩
  · by_cases e : t = s
    · subst e
      unfold setSh
      rw [va_up_self]
      refine ⟨Or.inr rfl, h1, h2, fun j hj => ?_⟩
      show inR (shR fo sz f (3 + j))
      unfold shR
      rw [if_neg (by omega), if_neg (by omega), if_neg (by omega), show 3 + j - 3 = j by omega]
      exact h3 j hj
    · unfold setSh; rw [va_up_ne _ _ e]; exact h.1 t ht
  · unfold setSh; rw [va_up_ne _ _ (by omega)]; exact h.2.1 k hk
  · unfold setSh; rw [va_up_ne _ _ (by omega)]; exact h.2.2
theorem shR_it {fo sz : Int} {f : Nat → Int} (j : Nat) : shR fo sz f (3 + j) = f j := by
  unfold shR
  rw [if_neg (by omega), if_neg (by omega), if_neg (by omega), show 3 + j - 3 = j by omega]
/-- a SHEET made anew -/
theorem XI.shs {A A' : Nat → Nat → Int} {σ : St} (h : XI A σ) {s : Nat} (hs : s < 8) {fo sz : Int} {f : Nat → Int} (h1 : 0 ≤ fo ∧ fo < 3) (h2 : 0 ≤ sz ∧ sz ≤ 20) (h3 : ∀ j, j < 20 → inR (f j))
    (e : ∀ k, k ≠ 52 + 2 * s → k ≠ 53 + 2 * s → (k < 18 ∨ k = 31 ∨ (52 ≤ k ∧ k < 156)) → A' k = A k) (e1 : A' (52 + 2 * s) 1 = 0 ∧ A' (52 + 2 * s) 2 = fo ∧ A' (52 + 2 * s) 3 = sz) (e2 : ∀ j, j < 20 → A' (53 + 2 * s) j = f j) : XI A' (setSh σ s fo sz f) := by
  obtain ⟨hK, hV, hS⟩ := h
  refine ⟨⟨fun n h1 h2 => by rw [e 4 (by omega) (by omega) (by omega)]; exact hK.1 n h1 h2, fun n hn => by rw [e 5 (by omega) (by omega) (by omega)]; exact hK.2.1 n hn, fun n hn => by rw [e 6 (by omega) (by omega) (by omega)]; exact hK.2.2.1 n hn, by rw [e 31 (by omega) (by omega) (by omega)]; exact hK.2.2.2.1, fun n k hk hn => by rw [e (8 + n) (by omega) (by omega) (by omega)]; exact hK.2.2.2.2 n k hk hn⟩, ⟨fun t ht => ?_, fun k hk => ?_, ?_⟩, hS.sh hs h1 h2 h3⟩
  · by_cases et : t = s
    · subst et
      unfold setSh
      rw [va_up_self]
      refine ⟨by rw [e1.1]; rfl, by rw [e1.2.1]; rfl, by rw [e1.2.2]; rfl, fun j hj => ?_⟩
      rw [shR_it]; exact e2 j hj
    · unfold setSh
      rw [va_up_ne _ _ et, e (52 + 2 * t) (by omega) (by omega) (by omega), e (53 + 2 * t) (by omega) (by omega) (by omega)]
      exact hV.1 t ht
  · unfold setSh
    rw [va_up_ne _ _ (by omega)]
    refine ⟨by rw [e (68 + 22 * k) (by omega) (by omega) (by omega)]; exact (hV.2.1 k hk).1, fun n j hn hj => ?_⟩
    rw [e (70 + 22 * k + 2 * n + 1) (by omega) (by omega) (by omega)]; exact (hV.2.1 k hk).2 n j hn hj
  · unfold setSh
    rw [va_up_ne _ _ (by omega), e 0 (by omega) (by omega) (by omega)]; exact hV.2.2
