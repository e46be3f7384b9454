/-! the ALGEBRA made -/
theorem mem_id {g : Mem} {a : Nat} {c : Cel} (h : g a = c) : g = va_up g a c := by
  funext k
  by_cases e : k = a
  · subst e; rw [va_up_self, h]
  · rw [va_up_ne _ _ e]
theorem mn_mna {g : Mem} {q lo n K : Nat} {x : Cel} (hq : q < lo) (hlo : lo ≤ n) (h0 : cel n (A0 n) = (8, (List.range 10).map (fun i => .ref (n + 1 + i)))) (h1 : ∀ i, i < 10 → cel (n + 1 + i) (A0 (n + 1 + i)) = (6, vals K (fun _ => 0))) : rw2 (va_up (ov g A0 lo n) q x) n 10 K = va_up (ov g A0 lo (n + 11)) q x := by
  funext k
  unfold rw2
  by_cases e : k = n
  · subst e; rw [if_pos rfl, va_up_ne _ _ (by omega), ov_in hlo (by omega), h0]
  · rw [if_neg e]
    by_cases e2 : n < k ∧ k < n + 1 + 10
    · rw [if_pos e2, va_up_ne _ _ (by omega), ov_in (by omega) (by omega), ← h1 (k - (n + 1)) (by omega), show n + 1 + (k - (n + 1)) = k by omega]
    · rw [if_neg e2]
      by_cases e3 : k = q
      · subst e3; rw [va_up_self, va_up_self]
      · rw [va_up_ne _ _ e3, va_up_ne _ _ e3]
        by_cases e4 : lo ≤ k ∧ k < n
        · rw [ov_in e4.1 e4.2, ov_in e4.1 (by omega)]
        · rw [ov_no (by omega), ov_no (by omega)]
theorem cel_c7 : ∀ i, i < 10 → cel (7 + 1 + i) (A0 (7 + 1 + i)) = (6, vals 10 (fun _ => 0)) := fun i hi => by
  rw [show 7 + 1 + i = 8 + i by omega, cel_cho hi, A0_z (by omega)]
theorem cel_c18 : ∀ i, i < 10 → cel (18 + 1 + i) (A0 (18 + 1 + i)) = (6, vals 19 (fun _ => 0)) := fun i hi => by
  rw [show 18 + 1 + i = 19 + i by omega, cel_val hi, A0_z (by omega)]
abbrev fx0 : List Value := [.ref 4, .ref 5, .ref 6, .ref 7, .ref 18, .ref 29, .ref 30, .ref 32, .ref 34, .ref 36, .ref 38]
set_option maxHeartbeats 4000000 in
set_option maxRecDepth 100000 in
theorem c_Algebra {g : Mem} (hg : g 3 = (0, nwX0)) : OkM mX0_init [.ref 3] 4 g 40 (fun r g' => r = none ∧ ∃ A, g' = ov g A 3 40 ∧ KA A) := by
  refine OkM.of [some (.ref 3), none, none] (by decide +kernel) rfl (Nat.le_of_ble_eq_true rfl) ?_
  intro X E F
  have o3 : ∀ A : Nat → Nat → Int, ov g A 3 40 3 = (0, fx0) := fun A => ov_in (by omega) (by omega)
  have L3 : ∀ (mm n : Nat), n + mm = 10 → ∀ A w, (∀ i : Nat, 1 ≤ i → i ≤ 10 → A 4 i = pw (i : Int) 10005) → (∀ i, i < 10 → A 5 i = fcl i) → (∀ i, i < 10 → A 6 i = ifc i) → A 31 = conS 1 → (∀ m, m < n → ∀ k, k < 10 → A (8 + m) k = chs m k) → (∀ m, n ≤ m → m < 10 → A (8 + m) = fun _ => 0) → Zc X 222 [some (.ref 3), some (.int (iI (n : Int))), w] [] 40 (ov g A 3 40) 36 406 := by
    intro mm
    induction mm with
    | zero =>
      intro n hn A w k4 k5 k6 k31 kr kz
      obtain rfl : n = 10 := by omega
      refine z_iload_n E dX0_init_222 rfl ?_
      refine z_bipush E (by decide) dX0_init_223 ?_
      refine z_icmp_ge (tgt := 287) E (by omega) (by omega) dX0_init_225 (by decide) (fun h225 => ?_) (fun hq => False.elim (by omega))
      exact z_vret E F dX0_init_287 ⟨rfl, A, rfl, k4, k5, k6, k31, fun n k hk hn => kr n hn k (by omega)⟩
    | succ mm ih =>
      intro n hn A w k4 k5 k6 k31 kr kz
      have L4 : ∀ (jj k : Nat), k + jj = n + 1 → 1 ≤ k → ∀ A, (∀ i : Nat, 1 ≤ i → i ≤ 10 → A 4 i = pw (i : Int) 10005) → (∀ i, i < 10 → A 5 i = fcl i) → (∀ i, i < 10 → A 6 i = ifc i) → A 31 = conS 1 → (∀ m, m < n → ∀ k, k < 10 → A (8 + m) k = chs m k) → (∀ m, n < m → m < 10 → A (8 + m) = fun _ => 0) → (∀ j, j < k → A (8 + n) j = chs n j) → (∀ j, k ≤ j → A (8 + n) j = 0) → Zc X 239 [some (.ref 3), some (.int (iI (n : Int))), some (.int (iI (k : Int)))] [] 40 (ov g A 3 40) 36 406 := by
        intro jj
        induction jj with
        | zero =>
          intro k hk hk1 A k4 k5 k6 k31 kr kz kn kn0
          refine z_iload_n E dX0_init_239 rfl ?_
          refine z_iload_n E dX0_init_240 rfl ?_
          refine z_icmp_gt (tgt := 281) E (by omega) (by omega) dX0_init_241 (by decide) (fun h241 => ?_) (fun hq => False.elim (by omega))
          refine z_iinc (ls' := [_, _, _]) E dX0_init_281 rfl rfl ?_
          refine z_goto (tgt := 222) E dX0_init_284 (by decide) ?_
          refine ih (n + 1) (by omega) A _ k4 k5 k6 k31 (fun m hm j hj => ?_) (fun m h1 h2 => kz m (by omega) h2)
          by_cases e : m = n
          · subst e
            by_cases e2 : j < k
            · exact kn j e2
            · rw [kn0 j (by omega), chs_big m j (by omega)]
          · exact kr m (by omega) j hj
        | succ jj ihj =>
          intro k hk hk1 A k4 k5 k6 k31 kr kz kn kn0
          refine z_iload_n E dX0_init_239 rfl ?_
          refine z_iload_n E dX0_init_240 rfl ?_
          refine z_icmp_gt (tgt := 281) E (by omega) (by omega) dX0_init_241 (by decide) (fun hq => False.elim (by omega)) (fun h241 => ?_)
          refine z_aload_n E dX0_init_244 rfl ?_
          refine z_get E dX0_init_245 (o3 A) flX0_23 (by rfl) ?_
          refine z_iload_n E dX0_init_248 rfl ?_
          refine o_aald (j := n) (n := 10) (t := 8) (r := fun i => 8 + i) E dX0_init_249 rfl (by omega) (by omega) (by omega) rfl (by omega) (by omega) ?_
          refine z_iload_n E dX0_init_250 rfl ?_
          refine z_aload_n E dX0_init_251 rfl ?_
          refine z_get E dX0_init_252 (o3 A) flX0_23 (by rfl) ?_
          refine z_iload_n E dX0_init_255 rfl ?_
          refine z_iconst E dX0_init_256 ?_
          refine z_isub E dX0_init_257 ?_
          refine o_aald (j := n - 1) (n := 10) (t := 8) (r := fun i => 8 + i) E dX0_init_258 rfl (by omega) (by omega) (by omega) (by omega) (by omega) (by omega) ?_
          refine z_iload_n E dX0_init_259 rfl ?_
          refine z_iconst E dX0_init_260 ?_
          refine z_isub E dX0_init_261 ?_
          refine o_iald (a := 8 + (n - 1)) (j := k - 1) (n := 10) E dX0_init_262 (cel_cho (by omega)) (by omega) (by omega) (by omega) (by omega) (by omega) ?_
          refine z_aload_n E dX0_init_263 rfl ?_
          refine z_get E dX0_init_264 (o3 A) flX0_23 (by rfl) ?_
          refine z_iload_n E dX0_init_267 rfl ?_
          refine z_iconst E dX0_init_268 ?_
          refine z_isub E dX0_init_269 ?_
          refine o_aald (j := n - 1) (n := 10) (t := 8) (r := fun i => 8 + i) E dX0_init_270 rfl (by omega) (by omega) (by omega) (by omega) (by omega) (by omega) ?_
          refine z_iload_n E dX0_init_271 rfl ?_
          refine o_iald (a := 8 + (n - 1)) (j := k) (n := 10) E dX0_init_272 (cel_cho (by omega)) (by omega) (by omega) rfl (by omega) (by omega) ?_
          refine z_iadd E dX0_init_273 ?_
          refine o_iast (a := 8 + n) (j := k) (n := 10) E dX0_init_274 (cel_cho (by omega)) (by omega) (by omega) rfl (by omega) (by omega) ?_
          refine z_iinc (ls' := [_, _, _]) E dX0_init_275 rfl rfl ?_
          refine z_goto (tgt := 239) E dX0_init_278 (by decide) ?_
          have hnew : A (8 + (n - 1)) (k - 1) + A (8 + (n - 1)) k = chs n k := by
            rw [kr (n - 1) (by omega) (k - 1) (by omega), kr (n - 1) (by omega) k (by omega)]
            obtain ⟨n', rfl⟩ : ∃ n', n = n' + 1 := ⟨n - 1, by omega⟩
            obtain ⟨k', rfl⟩ : ∃ k', k = k' + 1 := ⟨k - 1, by omega⟩
            rfl
          rw [hnew]
          refine ihj (k + 1) (by omega) (by omega) _ ?_ ?_ ?_ ?_ ?_ ?_ ?_ ?_
          · rw [va_up_ne _ _ (by omega)]; exact k4
          · rw [va_up_ne _ _ (by omega)]; exact k5
          · rw [va_up_ne _ _ (by omega)]; exact k6
          · rw [va_up_ne _ _ (by omega)]; exact k31
          · intro m hm; rw [va_up_ne _ _ (by omega)]; exact kr m hm
          · intro m h1 h2; rw [va_up_ne _ _ (by omega)]; exact kz m h1 h2
          · intro j hj
            rw [va_up_self]
            by_cases e : j = k
            · subst e; rw [up_eq]
            · rw [up_ne _ _ e]; exact kn j (by omega)
          · intro j hj
            rw [va_up_self, up_ne _ _ (by omega)]; exact kn0 j (by omega)
      refine z_iload_n E dX0_init_222 rfl ?_
      refine z_bipush E (by decide) dX0_init_223 ?_
      refine z_icmp_ge (tgt := 287) E (by omega) (by omega) dX0_init_225 (by decide) (fun hq => False.elim (by omega)) (fun h225 => ?_)
      refine z_aload_n E dX0_init_228 rfl ?_
      refine z_get E dX0_init_229 (o3 A) flX0_23 (by rfl) ?_
      refine z_iload_n E dX0_init_232 rfl ?_
      refine o_aald (j := n) (n := 10) (t := 8) (r := fun i => 8 + i) E dX0_init_233 rfl (by omega) (by omega) (by omega) rfl (by omega) (by omega) ?_
      refine z_iconst E dX0_init_234 ?_
      refine z_iconst E dX0_init_235 ?_
      refine o_iast (a := 8 + n) (j := 0) (n := 10) E dX0_init_236 (cel_cho (by omega)) (by omega) (by omega) rfl (by omega) (by omega) ?_
      refine z_iconst E dX0_init_237 ?_
      refine z_istore_n (ls' := [_, _, _]) E rfl dX0_init_238 (Nat.le_of_ble_eq_true rfl) rfl ?_
      refine L4 n 1 (by omega) (by omega) _ ?_ ?_ ?_ ?_ ?_ ?_ ?_ ?_
      · rw [va_up_ne _ _ (by omega)]; exact k4
      · rw [va_up_ne _ _ (by omega)]; exact k5
      · rw [va_up_ne _ _ (by omega)]; exact k6
      · rw [va_up_ne _ _ (by omega)]; exact k31
      · intro m hm; rw [va_up_ne _ _ (by omega)]; exact kr m hm
      · intro m h1 h2; rw [va_up_ne _ _ (by omega)]; exact kz m (by omega) h2
      · intro j hj
        obtain rfl : j = 0 := by omega
        rw [va_up_self, up_eq, chs_0]
      · intro j hj
        rw [va_up_self, up_ne _ _ (by omega), kz n (by omega) (by omega)]
  have L2 : ∀ (mm i : Nat), 1 ≤ i → i + mm = 10 → ∀ A w, (∀ i : Nat, 1 ≤ i → i ≤ 10 → A 4 i = pw (i : Int) 10005) → (∀ j, j < i → A 5 j = fcl j) → (∀ j, j < i → A 6 j = ifc j) → A 31 = conS 1 → (∀ m, m < 10 → A (8 + m) = fun _ => 0) → Zc X 163 [some (.ref 3), some (.int (iI (i : Int))), w] [] 40 (ov g A 3 40) 36 406 := by
    intro mm
    induction mm with
    | zero =>
      intro i h1 hi A w k4 k5 k6 k31 kz
      obtain rfl : i = 10 := by omega
      refine z_iload_n E dX0_init_163 rfl ?_
      refine z_bipush E (by decide) dX0_init_164 ?_
      refine z_icmp_ge (tgt := 220) E (by omega) (by omega) dX0_init_166 (by decide) (fun h166 => ?_) (fun hq => False.elim (by omega))
      refine z_iconst E dX0_init_220 ?_
      refine z_istore_n (ls' := [_, _, _]) E rfl dX0_init_221 (Nat.le_of_ble_eq_true rfl) rfl ?_
      exact L3 10 0 rfl A w k4 k5 k6 k31 (fun m hm => by omega) (fun m _ h => kz m h)
    | succ mm ih =>
      intro i h1 hi A w k4 k5 k6 k31 kz
      have r5 := fcl_in (i - 1)
      have r6 := ifc_in (i - 1)
      have r4 := pw_in (i : Int) 10005
      have b5 := mul_in r5 (show 0 ≤ (i : Int) ∧ (i : Int) < 10007 by omega)
      have b6 := mul_in r6 r4
      have e5 := k5 (i - 1) (by omega)
      have e6 := k6 (i - 1) (by omega)
      have e4 := k4 i h1 (by omega)
      refine z_iload_n E dX0_init_163 rfl ?_
      refine z_bipush E (by decide) dX0_init_164 ?_
      refine z_icmp_ge (tgt := 220) E (by omega) (by omega) dX0_init_166 (by decide) (fun hq => False.elim (by omega)) (fun h166 => ?_)
      refine z_aload_n E dX0_init_169 rfl ?_
      refine z_get E dX0_init_170 (o3 A) flX0_15 (by rfl) ?_
      refine z_iload_n E dX0_init_173 rfl ?_
      refine z_aload_n E dX0_init_174 rfl ?_
      refine z_get E dX0_init_175 (o3 A) flX0_15 (by rfl) ?_
      refine z_iload_n E dX0_init_178 rfl ?_
      refine z_iconst E dX0_init_179 ?_
      refine z_isub E dX0_init_180 ?_
      refine o_iald (a := 5) (j := i - 1) (n := 10) E dX0_init_181 (fun _ => rfl) (by omega) (by omega) (by omega) (by omega) (by omega) ?_
      rw [e5]
      refine z_iload_n E dX0_init_182 rfl ?_
      refine z_imul E dX0_init_183 ?_
      refine z_sipush E (by decide) dX0_init_184 ?_
      refine z_irem E (by omega) (by omega) (by omega) (Int.tmod_eq_emod_of_nonneg (by omega)) dX0_init_187 ?_
      refine o_iast (a := 5) (j := i) (n := 10) E dX0_init_188 (fun _ => rfl) (by omega) (by omega) rfl (by omega) (by omega) ?_
      generalize hA1 : va_up A 5 (up (A 5) i (fcl (i - 1) * (i : Int) % 10007)) = A1
      have f4 : A1 4 = A 4 := by rw [← hA1, va_up_ne _ _ (by omega)]
      have f6 : A1 6 = A 6 := by rw [← hA1, va_up_ne _ _ (by omega)]
      have f5 : A1 5 = up (A 5) i (fcl (i - 1) * (i : Int) % 10007) := by rw [← hA1, va_up_self]
      have fr : ∀ k, 6 < k → A1 k = A k := fun k hk => by rw [← hA1, va_up_ne _ _ (by omega)]
      refine z_aload_n E dX0_init_189 rfl ?_
      refine z_get E dX0_init_190 (o3 A1) flX0_18 (by rfl) ?_
      refine z_iload_n E dX0_init_193 rfl ?_
      refine z_aload_n E dX0_init_194 rfl ?_
      refine z_get E dX0_init_195 (o3 A1) flX0_18 (by rfl) ?_
      refine z_iload_n E dX0_init_198 rfl ?_
      refine z_iconst E dX0_init_199 ?_
      refine z_isub E dX0_init_200 ?_
      refine o_iald (a := 6) (j := i - 1) (n := 10) E dX0_init_201 (fun _ => rfl) (by omega) (by omega) (by omega) (by omega) (by omega) ?_
      rw [f6, e6]
      refine z_aload_n E dX0_init_202 rfl ?_
      refine z_get E dX0_init_203 (o3 A1) flX0_9 (by rfl) ?_
      refine z_iload_n E dX0_init_206 rfl ?_
      refine o_iald (a := 4) (j := i) (n := 11) E dX0_init_207 (fun _ => rfl) (by omega) (by omega) rfl (by omega) (by omega) ?_
      rw [f4, e4]
      refine z_imul E dX0_init_208 ?_
      refine z_sipush E (by decide) dX0_init_209 ?_
      refine z_irem E (by omega) (by omega) (by omega) (Int.tmod_eq_emod_of_nonneg (by omega)) dX0_init_212 ?_
      refine o_iast (a := 6) (j := i) (n := 10) E dX0_init_213 (fun _ => rfl) (by omega) (by omega) rfl (by omega) (by omega) ?_
      refine z_iinc (ls' := [_, _, _]) E dX0_init_214 rfl rfl ?_
      refine z_goto (tgt := 163) E dX0_init_217 (by decide) ?_
      refine ih (i + 1) (by omega) (by omega) _ w ?_ ?_ ?_ ?_ ?_
      · rw [va_up_ne _ _ (by omega), f4]; exact k4
      · rw [va_up_ne _ _ (by omega), f5]
        intro j hj
        by_cases e : j = i
        · subst e
          rw [up_eq]
          obtain ⟨j', rfl⟩ : ∃ j', j = j' + 1 := ⟨j - 1, by omega⟩
          rfl
        · rw [up_ne _ _ e]; exact k5 j (by omega)
      · rw [va_up_self, f6]
        intro j hj
        by_cases e : j = i
        · subst e
          rw [up_eq]
          obtain ⟨j', rfl⟩ : ∃ j', j = j' + 1 := ⟨j - 1, by omega⟩
          rfl
        · rw [up_ne _ _ e]; exact k6 j (by omega)
      · rw [va_up_ne _ _ (by omega), fr 31 (by omega)]; exact k31
      · intro m hm; rw [va_up_ne _ _ (by omega), fr (8 + m) (by omega)]; exact kz m hm
  have L1 : ∀ (mm i : Nat), 1 ≤ i → i + mm = 11 → ∀ A w, (∀ n : Nat, 1 ≤ n → n < i → A 4 n = pw (n : Int) 10005) → A 31 = conS 1 → (∀ m, m < 10 → A (8 + m) = fun _ => 0) → Zc X 125 [some (.ref 3), some (.int (iI (i : Int))), w] [] 40 (ov g A 3 40) 36 406 := by
    intro mm
    induction mm with
    | zero =>
      intro i h1 hi A w k4 k31 kz
      obtain rfl : i = 11 := by omega
      refine z_iload_n E dX0_init_125 rfl ?_
      refine z_bipush E (by decide) dX0_init_126 ?_
      refine z_icmp_gt (tgt := 147) E (by omega) (by omega) dX0_init_128 (by decide) (fun h128 => ?_) (fun hq => False.elim (by omega))
      refine z_aload_n E dX0_init_147 rfl ?_
      refine z_get E dX0_init_148 (o3 A) flX0_15 (by rfl) ?_
      refine z_iconst E dX0_init_151 ?_
      refine z_iconst E dX0_init_152 ?_
      refine o_iast (a := 5) (j := 0) (n := 10) E dX0_init_153 (fun _ => rfl) (by omega) (by omega) rfl (by omega) (by omega) ?_
      refine z_aload_n E dX0_init_154 rfl ?_
      refine z_get E dX0_init_155 (o3 _) flX0_18 (by rfl) ?_
      refine z_iconst E dX0_init_158 ?_
      refine z_iconst E dX0_init_159 ?_
      refine o_iast (a := 6) (j := 0) (n := 10) E dX0_init_160 (fun _ => rfl) (by omega) (by omega) rfl (by omega) (by omega) ?_
      refine z_iconst E dX0_init_161 ?_
      refine z_istore_n (ls' := [_, _, _]) E rfl dX0_init_162 (Nat.le_of_ble_eq_true rfl) rfl ?_
      refine L2 9 1 (by omega) rfl _ w ?_ ?_ ?_ ?_ ?_
      · rw [va_up_ne _ _ (by omega), va_up_ne _ _ (by omega)]
        intro n a1 a2; exact k4 n a1 (by omega)
      · rw [va_up_ne _ _ (by omega), va_up_self]
        intro j hj
        obtain rfl : j = 0 := by omega
        rw [up_eq]; rfl
      · rw [va_up_self]
        intro j hj
        obtain rfl : j = 0 := by omega
        rw [up_eq]; rfl
      · rw [va_up_ne _ _ (by omega), va_up_ne _ _ (by omega)]; exact k31
      · intro m hm; rw [va_up_ne _ _ (by omega), va_up_ne _ _ (by omega)]; exact kz m hm
    | succ mm ih =>
      intro i h1 hi A w k4 k31 kz
      refine z_iload_n E dX0_init_125 rfl ?_
      refine z_bipush E (by decide) dX0_init_126 ?_
      refine z_icmp_gt (tgt := 147) E (by omega) (by omega) dX0_init_128 (by decide) (fun hq => False.elim (by omega)) (fun h128 => ?_)
      refine z_aload_n E dX0_init_131 rfl ?_
      refine z_get E dX0_init_132 (o3 A) flX0_9 (by rfl) ?_
      refine z_iload_n E dX0_init_135 rfl ?_
      refine z_iload_n E dX0_init_136 rfl ?_
      refine c_S E dX0_init_137 lkX0_55 (ok_inverse (i : Int) (by omega) 40 _) rfl rfl rfl (Nat.le_of_ble_eq_true rfl) ⟨Nat.le_of_ble_eq_true rfl, Nat.le_of_ble_eq_true rfl⟩ ⟨rfl, rfl⟩ ⟨Nat.le_of_ble_eq_true rfl, Nat.le_of_ble_eq_true rfl⟩ ?_
      refine o_iast (a := 4) (j := i) (n := 11) E dX0_init_140 (fun _ => rfl) (by omega) (by omega) rfl (by omega) (by omega) ?_
      refine z_iinc (ls' := [_, _, _]) E dX0_init_141 rfl rfl ?_
      refine z_goto (tgt := 125) E dX0_init_144 (by decide) ?_
      refine ih (i + 1) (by omega) (by omega) _ w ?_ ?_ ?_
      · rw [va_up_self]
        intro n a1 a2
        by_cases e : n = i
        · subst e; rw [up_eq]
        · rw [up_ne _ _ e]; exact k4 n a1 (by omega)
      · rw [va_up_ne _ _ (by omega)]; exact k31
      · intro m hm; rw [va_up_ne _ _ (by omega)]; exact kz m hm
  refine z_mem (show g = va_up (ov g A0 4 4) 3 (0, nwX0) by rw [ov_self]; exact mem_id hg) ?_
  refine z_aload_n E dX0_init_0 rfl ?_
  refine z_oi E dX0_init_1 oiX0 rfl (Nat.le_of_ble_eq_true rfl) (Nat.le_of_ble_eq_true rfl) ?_
  refine z_aload_n E dX0_init_4 rfl ?_
  refine z_bipush E (by decide) dX0_init_5 ?_
  refine z_newa (N := 4) (t := 6) (n := 11) E dX0_init_7 arI ⟨rfl, Or.inl rfl⟩ rfl (by omega) ⟨Nat.le_of_ble_eq_true rfl, Nat.le_of_ble_eq_true rfl⟩ ?_
  refine z_mem (show _ = va_up (ov g A0 4 5) 3 (0, [.null, .null, .null, .null, .null, .null, .null, .null, .null, .null, .null]) from mn_new (n := 4) (by omega) (by omega) rfl) ?_
  refine z_putF (ci := 0) E dX0_init_9 mem_at ffX0_9 rfl (fun _ => rfl) (fun _ => rfl) ?_
  refine z_mem (show _ = va_up (ov g A0 4 5) 3 (0, [.ref 4, .null, .null, .null, .null, .null, .null, .null, .null, .null, .null]) from mem_uu _ _ _ _) ?_
  refine z_aload_n E dX0_init_12 rfl ?_
  refine z_bipush E (by decide) dX0_init_13 ?_
  refine z_newa (N := 5) (t := 6) (n := 10) E dX0_init_15 arI ⟨rfl, Or.inl rfl⟩ rfl (by omega) ⟨Nat.le_of_ble_eq_true rfl, Nat.le_of_ble_eq_true rfl⟩ ?_
  refine z_mem (show _ = va_up (ov g A0 4 6) 3 (0, [.ref 4, .null, .null, .null, .null, .null, .null, .null, .null, .null, .null]) from mn_new (n := 5) (by omega) (by omega) rfl) ?_
  refine z_putF (ci := 0) E dX0_init_17 mem_at ffX0_15 rfl (fun _ => rfl) (fun _ => rfl) ?_
  refine z_mem (show _ = va_up (ov g A0 4 6) 3 (0, [.ref 4, .ref 5, .null, .null, .null, .null, .null, .null, .null, .null, .null]) from mem_uu _ _ _ _) ?_
  refine z_aload_n E dX0_init_20 rfl ?_
  refine z_bipush E (by decide) dX0_init_21 ?_
  refine z_newa (N := 6) (t := 6) (n := 10) E dX0_init_23 arI ⟨rfl, Or.inl rfl⟩ rfl (by omega) ⟨Nat.le_of_ble_eq_true rfl, Nat.le_of_ble_eq_true rfl⟩ ?_
  refine z_mem (show _ = va_up (ov g A0 4 7) 3 (0, [.ref 4, .ref 5, .null, .null, .null, .null, .null, .null, .null, .null, .null]) from mn_new (n := 6) (by omega) (by omega) rfl) ?_
  refine z_putF (ci := 0) E dX0_init_25 mem_at ffX0_18 rfl (fun _ => rfl) (fun _ => rfl) ?_
  refine z_mem (show _ = va_up (ov g A0 4 7) 3 (0, [.ref 4, .ref 5, .ref 6, .null, .null, .null, .null, .null, .null, .null, .null]) from mem_uu _ _ _ _) ?_
  refine z_aload_n E dX0_init_28 rfl ?_
  refine z_bipush E (by decide) dX0_init_29 ?_
  refine z_bipush E (by decide) dX0_init_31 ?_
  refine z_mna (N := 7) (n := 10) (K := 10) E dX0_init_33 clX0_21 arI rfl rfl (by omega) (by omega) ⟨Nat.le_of_ble_eq_true rfl, Nat.le_of_ble_eq_true rfl⟩ ?_
  refine z_mem (show _ = va_up (ov g A0 4 18) 3 (0, [.ref 4, .ref 5, .ref 6, .null, .null, .null, .null, .null, .null, .null, .null]) from mn_mna (n := 7) (by omega) (by omega) rfl cel_c7) ?_
  refine z_putF (ci := 0) E dX0_init_37 mem_at ffX0_23 rfl (fun _ => rfl) (fun _ => rfl) ?_
  refine z_mem (show _ = va_up (ov g A0 4 18) 3 (0, [.ref 4, .ref 5, .ref 6, .ref 7, .null, .null, .null, .null, .null, .null, .null]) from mem_uu _ _ _ _) ?_
  refine z_aload_n E dX0_init_40 rfl ?_
  refine z_bipush E (by decide) dX0_init_41 ?_
  refine z_bipush E (by decide) dX0_init_43 ?_
  refine z_mna (N := 18) (n := 10) (K := 19) E dX0_init_45 clX0_21 arI rfl rfl (by omega) (by omega) ⟨Nat.le_of_ble_eq_true rfl, Nat.le_of_ble_eq_true rfl⟩ ?_
  refine z_mem (show _ = va_up (ov g A0 4 29) 3 (0, [.ref 4, .ref 5, .ref 6, .ref 7, .null, .null, .null, .null, .null, .null, .null]) from mn_mna (n := 18) (by omega) (by omega) rfl cel_c18) ?_
  refine z_putF (ci := 0) E dX0_init_49 mem_at ffX0_26 rfl (fun _ => rfl) (fun _ => rfl) ?_
  refine z_mem (show _ = va_up (ov g A0 4 29) 3 (0, [.ref 4, .ref 5, .ref 6, .ref 7, .ref 18, .null, .null, .null, .null, .null, .null]) from mem_uu _ _ _ _) ?_
  refine z_aload_n E dX0_init_52 rfl ?_
  refine z_bipush E (by decide) dX0_init_53 ?_
  refine z_newa (N := 29) (t := 6) (n := 10) E dX0_init_55 arI ⟨rfl, Or.inl rfl⟩ rfl (by omega) ⟨Nat.le_of_ble_eq_true rfl, Nat.le_of_ble_eq_true rfl⟩ ?_
  refine z_mem (show _ = va_up (ov g A0 4 30) 3 (0, [.ref 4, .ref 5, .ref 6, .ref 7, .ref 18, .null, .null, .null, .null, .null, .null]) from mn_new (n := 29) (by omega) (by omega) rfl) ?_
  refine z_putF (ci := 0) E dX0_init_57 mem_at ffX0_29 rfl (fun _ => rfl) (fun _ => rfl) ?_
  refine z_mem (show _ = va_up (ov g A0 4 30) 3 (0, [.ref 4, .ref 5, .ref 6, .ref 7, .ref 18, .ref 29, .null, .null, .null, .null, .null]) from mem_uu _ _ _ _) ?_
  refine z_aload_n E dX0_init_60 rfl ?_
  refine z_newS (N := 30) E dX0_init_61 dX0_init_64 dX0_init_65 fnX0_32 lnX0_34 rfl (Nat.le_of_ble_eq_true rfl) ⟨Nat.le_of_ble_eq_true rfl, Nat.le_of_ble_eq_true rfl⟩ ⟨Nat.le_of_ble_eq_true rfl, Nat.le_of_ble_eq_true rfl⟩ ?_
  refine z_mem (show _ = va_up (ov g A0 4 32) 3 (0, [.ref 4, .ref 5, .ref 6, .ref 7, .ref 18, .ref 29, .null, .null, .null, .null, .null]) from mn_ser (n := 30) ⟨by omega, by omega⟩ (by omega) (by omega)) ?_
  refine z_putF (ci := 0) E dX0_init_68 mem_at ffX0_35 rfl (fun _ => rfl) (fun _ => rfl) ?_
  refine z_mem (show _ = va_up (ov g A0 4 32) 3 (0, [.ref 4, .ref 5, .ref 6, .ref 7, .ref 18, .ref 29, .ref 30, .null, .null, .null, .null]) from mem_uu _ _ _ _) ?_
  refine z_aload_n E dX0_init_71 rfl ?_
  refine z_newS (N := 32) E dX0_init_72 dX0_init_75 dX0_init_76 fnX0_32 lnX0_34 rfl (Nat.le_of_ble_eq_true rfl) ⟨Nat.le_of_ble_eq_true rfl, Nat.le_of_ble_eq_true rfl⟩ ⟨Nat.le_of_ble_eq_true rfl, Nat.le_of_ble_eq_true rfl⟩ ?_
  refine z_mem (show _ = va_up (ov g A0 4 34) 3 (0, [.ref 4, .ref 5, .ref 6, .ref 7, .ref 18, .ref 29, .ref 30, .null, .null, .null, .null]) from mn_ser (n := 32) ⟨by omega, by omega⟩ (by omega) (by omega)) ?_
  refine z_putF (ci := 0) E dX0_init_79 mem_at ffX0_39 rfl (fun _ => rfl) (fun _ => rfl) ?_
  refine z_mem (show _ = va_up (ov g A0 4 34) 3 (0, [.ref 4, .ref 5, .ref 6, .ref 7, .ref 18, .ref 29, .ref 30, .ref 32, .null, .null, .null]) from mem_uu _ _ _ _) ?_
  refine z_aload_n E dX0_init_82 rfl ?_
  refine z_newS (N := 34) E dX0_init_83 dX0_init_86 dX0_init_87 fnX0_32 lnX0_34 rfl (Nat.le_of_ble_eq_true rfl) ⟨Nat.le_of_ble_eq_true rfl, Nat.le_of_ble_eq_true rfl⟩ ⟨Nat.le_of_ble_eq_true rfl, Nat.le_of_ble_eq_true rfl⟩ ?_
  refine z_mem (show _ = va_up (ov g A0 4 36) 3 (0, [.ref 4, .ref 5, .ref 6, .ref 7, .ref 18, .ref 29, .ref 30, .ref 32, .null, .null, .null]) from mn_ser (n := 34) ⟨by omega, by omega⟩ (by omega) (by omega)) ?_
  refine z_putF (ci := 0) E dX0_init_90 mem_at ffX0_42 rfl (fun _ => rfl) (fun _ => rfl) ?_
  refine z_mem (show _ = va_up (ov g A0 4 36) 3 (0, [.ref 4, .ref 5, .ref 6, .ref 7, .ref 18, .ref 29, .ref 30, .ref 32, .ref 34, .null, .null]) from mem_uu _ _ _ _) ?_
  refine z_aload_n E dX0_init_93 rfl ?_
  refine z_newS (N := 36) E dX0_init_94 dX0_init_97 dX0_init_98 fnX0_32 lnX0_34 rfl (Nat.le_of_ble_eq_true rfl) ⟨Nat.le_of_ble_eq_true rfl, Nat.le_of_ble_eq_true rfl⟩ ⟨Nat.le_of_ble_eq_true rfl, Nat.le_of_ble_eq_true rfl⟩ ?_
  refine z_mem (show _ = va_up (ov g A0 4 38) 3 (0, [.ref 4, .ref 5, .ref 6, .ref 7, .ref 18, .ref 29, .ref 30, .ref 32, .ref 34, .null, .null]) from mn_ser (n := 36) ⟨by omega, by omega⟩ (by omega) (by omega)) ?_
  refine z_putF (ci := 0) E dX0_init_101 mem_at ffX0_45 rfl (fun _ => rfl) (fun _ => rfl) ?_
  refine z_mem (show _ = va_up (ov g A0 4 38) 3 (0, [.ref 4, .ref 5, .ref 6, .ref 7, .ref 18, .ref 29, .ref 30, .ref 32, .ref 34, .ref 36, .null]) from mem_uu _ _ _ _) ?_
  refine z_aload_n E dX0_init_104 rfl ?_
  refine z_newS (N := 38) E dX0_init_105 dX0_init_108 dX0_init_109 fnX0_32 lnX0_34 rfl (Nat.le_of_ble_eq_true rfl) ⟨Nat.le_of_ble_eq_true rfl, Nat.le_of_ble_eq_true rfl⟩ ⟨Nat.le_of_ble_eq_true rfl, Nat.le_of_ble_eq_true rfl⟩ ?_
  refine z_mem (show _ = va_up (ov g A0 4 40) 3 (0, [.ref 4, .ref 5, .ref 6, .ref 7, .ref 18, .ref 29, .ref 30, .ref 32, .ref 34, .ref 36, .null]) from mn_ser (n := 38) ⟨by omega, by omega⟩ (by omega) (by omega)) ?_
  refine z_putF (ci := 0) E dX0_init_112 mem_at ffX0_48 rfl (fun _ => rfl) (fun _ => rfl) ?_
  refine z_mem (show _ = va_up (ov g A0 4 40) 3 (0, [.ref 4, .ref 5, .ref 6, .ref 7, .ref 18, .ref 29, .ref 30, .ref 32, .ref 34, .ref 36, .ref 38]) from mem_uu _ _ _ _) ?_
  refine z_mem (show _ = ov g A0 3 40 by rw [ov_out (by omega)]; exact ov_dn (lo := 3) (by omega) rfl) ?_
  refine z_aload_n E dX0_init_115 rfl ?_
  refine z_get E dX0_init_116 (o3 A0) flX0_35 (by rfl) ?_
  refine z_iconst E dX0_init_119 ?_
  refine c_V0 (N := 40) E dX0_init_120 lkX0_51 (ok_becomeConstantG 30 31 (A0 31) 1 40 _ (ov_in (by omega) (by omega)) (ov_in (by omega) (by omega)) (by omega)) (ov_in (by omega) (by omega)) rfl rfl rfl (Nat.le_of_ble_eq_true rfl) ⟨Nat.le_of_ble_eq_true rfl, Nat.le_of_ble_eq_true rfl⟩ ⟨rfl, rfl⟩ ⟨Nat.le_of_ble_eq_true rfl, Nat.le_of_ble_eq_true rfl⟩ ?_
  refine z_mem (ov_up (a := 31) (f := conS 1) (by omega) (by omega) rfl) ?_
  refine z_iconst E dX0_init_123 ?_
  refine z_istore_n (ls' := [_, _, _]) E rfl dX0_init_124 (Nat.le_of_ble_eq_true rfl) rfl ?_
  refine L1 10 1 (by omega) rfl _ _ (fun n h1 h2 => by omega) (va_up_self _ _ _) (fun m hm => ?_)
  rw [va_up_ne _ _ (by omega), A0_z (by omega)]
